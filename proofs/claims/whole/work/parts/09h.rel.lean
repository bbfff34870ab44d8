/-! THE TWO SIDES HELD TOGETHER -/
def Rel (M : Mem) : Prop := DayOk (M 0) ∧ M 0 0 0 11 = -9 ∧ ShOk (M 2) ∧ EQ 0 0 (M 0) (mv (M 3)) ∧ P2 (ms (M 3)) (M 2) ∧ (M 0 1 0 6 = 0 → M 0 1 0 5 = 0)
def nz (Z : DM) : DM := fun k r i => if k = 0 ∨ k = 7 ∨ k = 8 ∨ k = 9 then Z k r i else 0
theorem P2.nz {Z A : DM} (h : P2 Z A) : nz A = nz Z := by
  funext k r i
  show (if k = 0 ∨ k = 7 ∨ k = 8 ∨ k = 9 then A k r i else 0) = if k = 0 ∨ k = 7 ∨ k = 8 ∨ k = 9 then Z k r i else 0
  split
  · next hk => exact h k r i hk
  · rfl
theorem P2.rf (Z : DM) : P2 Z Z := fun _ _ _ _ => rfl
theorem P2.tr2 {A B C : DM} (h : P2 A B) (h2 : P2 B C) : P2 A C := fun k r i hk => (h2 k r i hk).trans (h k r i hk)
theorem P2.sy {A B : DM} (h : P2 A B) : P2 B A := fun k r i hk => (h k r i hk).symm
theorem P2.up {A B : DM} (h : P2 A B) (k : Nat) (r i v : Int) : P2 (vup A k r i v) (vup B k r i v) := fun k' r' i' hk => by
  by_cases e : k' = k ∧ r' = r ∧ i' = i
  · obtain ⟨rfl, rfl, rfl⟩ := e
    rw [vup_v, vup_v]
  · rw [vup_n _ e, vup_n _ e]
    exact h k' r' i' hk
theorem P2.vif {A B A2 B2 : DM} {P Q : Prop} (hp : P ↔ Q) (h : P2 A B) (h2 : P2 A2 B2) : P2 (vif P A A2) (vif Q B B2) := by
  rw [propext hp]
  by_cases q : Q
  · rw [vif_t q, vif_t q]; exact h
  · rw [vif_f q, vif_f q]; exact h2
theorem ShOk.p2 {Z A : DM} (h : ShOk Z) (p : P2 Z A) : ShOk A := fun k a b => by
  rw [p 9 0 k (by omega)]
  exact h k a b
theorem Rel.go {M N : Mem} {V Z W Z9 U : DM} (hKP : KP M V Z N) (hV : DayOk V) (h11 : V 0 0 11 = -9) (hz : V 1 0 6 = 0 → V 1 0 5 = 0) (hS : ShOk Z) (hE : EQ 0 0 V W) (hP : P2 Z9 Z) (hU : EQ 0 0 W (mv U)) (hs : ms U = Z9) : Rel (mst N 3 U) := by
  obtain ⟨-, k1, k2⟩ := hKP
  refine ⟨hV.fr k1, (k1 0 0 11 (by omega) (by omega)).trans h11, hS.p2 k2, k1.eq0.sy.tr (hE.tr hU), ?_, fun h => ?_⟩
  · show P2 (ms U) (N 2)
    rw [hs]
    exact hP.tr2 k2
  · show N 0 1 0 5 = 0
    rw [k1 1 0 5 (by omega) (by omega)]
    refine hz ?_
    rw [← k1 1 0 6 (by omega) (by omega)]
    exact h
section REL
variable {M : Mem}
theorem Rel.i9 (h : Rel M) : DayOk (mv (M 3)) := h.1.eq h.2.2.2.1
theorem Rel.s9 (h : Rel M) : ShOk (ms (M 3)) := h.2.2.1.p2 h.2.2.2.2.1.sy
/-- nothing of the day, nothing of the sheets changed -/
theorem Rel.same (h : Rel M) {N : Mem} {U : DM} (hKP : KP M (M 0) (M 2) N) (hU : EQ 0 0 (mv (M 3)) (mv U)) (hs : ms U = ms (M 3)) : Rel (mst N 3 U) := Rel.go hKP h.1 h.2.1 h.2.2.2.2.2 h.2.2.1 h.2.2.2.1 h.2.2.2.2.1 hU hs
/-- the day changed -/
theorem Rel.day (h : Rel M) {N : Mem} {V W U : DM} (hKP : KP M V (M 2) N) (hV : DayOk V) (h11 : V 0 0 11 = M 0 0 0 11) (h6 : V 1 0 6 = M 0 1 0 6) (h5 : V 1 0 5 = M 0 1 0 5) (hE : EQ 0 0 V W) (hU : EQ 0 0 W (mv U)) (hs : ms U = ms (M 3)) : Rel (mst N 3 U) := Rel.go hKP hV (h11.trans h.2.1) (fun q => by rw [h5]; exact h.2.2.2.2.2 (by rw [← h6]; exact q)) h.2.2.1 hE h.2.2.2.2.1 hU hs
/-- the rest changed -/
theorem Rel.rest (h : Rel M) {N : Mem} {Z Z9 U : DM} (hKP : KP M (M 0) Z N) (hS : ShOk Z) (hP : P2 Z9 Z) (hU : EQ 0 0 (mv (M 3)) (mv U)) (hs : ms U = Z9) : Rel (mst N 3 U) := Rel.go hKP h.1 h.2.1 h.2.2.2.2.2 hS h.2.2.2.1 hP hU hs
end REL
/-! each answer by places alone -/
section CON
variable {V W : DM}
theorem has_e (f : EQ 0 0 V W) (s : Int) : has W s ↔ has V s := by unfold has; rw [f.n]
theorem place_e (f : EQ 0 0 V W) (s t : Int) : place W s t ↔ place V s t := by unfold place; rw [f.n, f.h]
theorem hasB_e (f : EQ 0 0 V W) (x : Int) : hasB W x ↔ hasB V x := by unfold hasB; rw [f.c]
theorem pif_e {P Q : Prop} {a b c d : Int} (h : P ↔ Q) (h1 : Q → a = c) (h2 : b = d) : pif P a b = pif Q c d := by
  rw [propext h]
  by_cases q : Q
  · rw [pif_t q, pif_t q, h1 q]
  · rw [pif_f q, pif_f q, h2]
theorem vif_e {P Q : Prop} {a b c d : DM} (h : P ↔ Q) (h1 : Q → EQ 0 0 c a) (h2 : EQ 0 0 d b) : EQ 0 0 (vif Q c d) (vif P a b) := by
  rw [propext h]
  by_cases q : Q
  · rw [vif_t q, vif_t q]; exact h1 q
  · rw [vif_f q, vif_f q]; exact h2
theorem sw4_e {w a b c d a2 b2 c2 d2 : Int} (h0 : a = a2) (h1 : b = b2) (h2 : c = c2) (h3 : d = d2) : sw4 w a b c d = sw4 w a2 b2 c2 d2 := by rw [h0, h1, h2, h3]
theorem sw3_e {w a b c a2 b2 c2 : Int} (h0 : a = a2) (h1 : b = b2) (h2 : c = c2) : sw3 w a b c = sw3 w a2 b2 c2 := by rw [h0, h1, h2]
theorem EQ.s (f : EQ 0 0 V W) {k : Nat} {s : Int} (h : has V s) (k0 : 2 ≤ k) (k1 : k ≤ 5) : W k 0 s = V k 0 s := f k 0 s (LC.s k0 k1 h.1 h.2)
theorem EQ.p (f : EQ 0 0 V W) {s t : Int} (h : place V s t) : W 7 s t = V 7 s t := f 7 s t (LC.p h.1 h.2.1 h.2.2.1 h.2.2.2)
theorem EQ.b (f : EQ 0 0 V W) {k : Nat} {x : Int} (h : hasB V x) (k0 : 9 ≤ k) (k1 : k ≤ 12) : W k 0 x = V k 0 x := f k 0 x (LC.b k0 k1 h.1 h.2)
theorem EQ.a (f : EQ 0 0 V W) {i : Int} (h0 : 5 ≤ i) (h1 : i ≤ 8) : W 1 0 i = V 1 0 i := f 1 0 i (LC.a h0 h1)
theorem e_ofSort (f : EQ 0 0 V W) (s w : Int) : xOfSort W s w = xOfSort V s w := pif_e (has_e f s) (fun h => sw4_e (f.s h (by omega) (by omega)) (f.s h (by omega) (by omega)) (f.s h (by omega) (by omega)) (f.s h (by omega) (by omega))) rfl
theorem e_fresh (f : EQ 0 0 V W) (s t : Int) : xFresh W s t = xFresh V s t := pif_e (place_e f s t) (fun h => f.fresh t h.1 h.2.1) rfl
theorem e_fish (f : EQ 0 0 V W) (s v : Int) : xFish W s v = xFish V s v := pif_e (has_e f s) (fun h => pif_e Iff.rfl (fun _ => f.s h (by omega) (by omega)) rfl) rfl
theorem v_fish (f : EQ 0 0 V W) (s v : Int) : EQ 0 0 (vFish V s v) (vFish W s v) := vif_e (by rw [has_e f s]) (fun _ => f.up _ (by omega)) f
theorem e_slate (f : EQ 0 0 V W) (s t : Int) : xSlate W s t = xSlate V s t := pif_e (place_e f s t) (fun h => f.p h) rfl
theorem e_write (f : EQ 0 0 V W) (s t v : Int) : xWrite W s t v = xWrite V s t v := pif_e (place_e f s t) (fun h => pif_e Iff.rfl (fun _ => f.p h) rfl) rfl
theorem v_write (f : EQ 0 0 V W) (s t v : Int) : EQ 0 0 (vWrite V s t v) (vWrite W s t v) := vif_e (by rw [place_e f s t]) (fun _ => f.up _ (by omega)) f
theorem e_soup (f : EQ 0 0 V W) (v : Int) : xSoup W v = xSoup V v := pif_e Iff.rfl (fun _ => pif_e (by rw [f.n]) (fun _ => f.a (by omega) (by omega)) rfl) rfl
theorem v_soup (f : EQ 0 0 V W) (v : Int) : EQ 0 0 (vSoup V v) (vSoup W v) := vif_e (by rw [f.n]) (fun _ => f.up _ (by omega)) f
theorem e_beside (f : EQ 0 0 V W) (b : Int) : xBeside W b = xBeside V b := pif_e (by rw [f.n]) (fun _ => pif_e (by rw [f.a (by omega) (by omega)]) (fun _ => rfl) rfl) rfl
theorem v_beside (f : EQ 0 0 V W) (b : Int) : EQ 0 0 (vBeside V b) (vBeside W b) := vif_e (by rw [f.n]) (fun _ => f.up _ (by omega)) f
theorem e_buyer (f : EQ 0 0 V W) (kd s q t : Int) : xBuyer W kd s q t = xBuyer V kd s q t := pif_e (place_e f s t) (fun _ => pif_e Iff.rfl (fun _ => pif_e (by rw [f.c]) (fun _ => f.c) rfl) rfl) rfl
theorem e_ofBuyer (f : EQ 0 0 V W) (x w : Int) : xOfBuyer W x w = xOfBuyer V x w := pif_e (hasB_e f x) (fun h => sw4_e (f.b h (by omega) (by omega)) (f.b h (by omega) (by omega)) (f.b h (by omega) (by omega)) (f.b h (by omega) (by omega))) rfl
theorem e_right (f : EQ 0 0 V W) (a t w : Int) : xRight W a t w = xRight V a t w := pif_e (by rw [f.h]) (fun _ => by rw [f.h]) rfl
theorem e_many (f : EQ 0 0 V W) (w : Int) : xMany W w = xMany V w := by unfold xMany; rw [f.h, f.n, f.c, allF_e f, f.a (i := 8) (by omega) (by omega)]
theorem e_tell (f : EQ 0 0 V W) (x : Int) : xTell W x = xTell V x := pif_e (hasB_e f x) (fun h => by rw [f.b h (k := 9) (by omega) (by omega), f.b h (k := 11) (by omega) (by omega)]) rfl
theorem e_greet (f : EQ 0 0 V W) (x : Int) : xGreet W x = xGreet V x := pif_e (hasB_e f x) (fun h => by rw [f.b h (k := 9) (by omega) (by omega)]) rfl
theorem e_as (f : EQ 0 0 V W) (x kd : Int) : xAs W x kd = xAs V x kd := pif_e (hasB_e f x) (fun h => pif_e Iff.rfl (fun _ => by rw [f.b h (k := 9) (by omega) (by omega)]) rfl) rfl
/-! days that are changed are still days -/
theorem ok_vif {P : Prop} {A B : DM} (h1 : P → DayOk A) (h2 : DayOk B) : DayOk (vif P A B) := by
  by_cases q : P
  · rw [vif_t q]; exact h1 q
  · rw [vif_f q]; exact h2
theorem at_vif {P : Prop} {A B : DM} {k : Nat} {r i x : Int} (h1 : A k r i = x) (h2 : B k r i = x) : vif P A B k r i = x := by
  by_cases q : P
  · rw [vif_t q]; exact h1
  · rw [vif_f q]; exact h2
theorem ok_fish (hI : DayOk V) (s v : Int) : DayOk (vFish V s v) := ok_vif (fun h => fish_ok hI h.2.1 h.2.2) hI
theorem ok_write (hI : DayOk V) (s t v : Int) : DayOk (vWrite V s t v) := ok_vif (fun h => price_ok hI h.2.1 h.2.2) hI
theorem ok_soup (hI : DayOk V) (v : Int) : DayOk (vSoup V v) := ok_vif (fun h => by
  obtain ⟨h1, h2, h3, h4, h5, h6, h7, h8⟩ := hI
  exact ⟨h1, h2, h3, h4, h5, h6, h.1, h8⟩) hI
theorem ok_beside (hI : DayOk V) {b : Int} (hb : b = 0 ∨ b = 1) : DayOk (vBeside V b) := ok_vif (fun h => by
  obtain ⟨h1, h2, h3, h4, h5, h6, h7, h8⟩ := hI
  exact ⟨h1, h2, h3, h4, h5, h6, h7, hb⟩) hI
def addB (V : DM) (kd s q t : Int) : DM := vup (vup (vup (vup (vup V 9 0 (V 8 0 4) kd) 10 0 (V 8 0 4) s) 11 0 (V 8 0 4) q) 12 0 (V 8 0 4) t) 8 0 4 (V 8 0 4 + 1)
theorem addB_b (V : DM) (kd s q t x : Int) : addB V kd s q t 9 0 x = (if x = V 8 0 4 then kd else V 9 0 x) ∧ addB V kd s q t 10 0 x = (if x = V 8 0 4 then s else V 10 0 x) ∧ addB V kd s q t 11 0 x = (if x = V 8 0 4 then q else V 11 0 x) ∧ addB V kd s q t 12 0 x = (if x = V 8 0 4 then t else V 12 0 x) := ⟨rfl, rfl, rfl, rfl⟩
theorem addB_n (V : DM) (kd s q t : Int) {k : Nat} (r i : Int) (h : k ≤ 7) : addB V kd s q t k r i = V k r i := by
  unfold addB
  rw [vup_k _ _ _ _ (by omega), vup_k _ _ _ _ (by omega), vup_k _ _ _ _ (by omega), vup_k _ _ _ _ (by omega), vup_k _ _ _ _ (by omega)]
theorem ok_buyer (hI : DayOk V) (kd s q t : Int) : DayOk (vBuyer V kd s q t) := ok_vif (fun h => by
  obtain ⟨h1, h2, h3, h4, h5, h6, h7, h8⟩ := hI
  show DayOk (addB V kd s q t)
  have e6 : addB V kd s q t 1 0 6 = V 1 0 6 := addB_n V kd s q t 0 6 (by omega)
  have e5 : addB V kd s q t 1 0 5 = V 1 0 5 := addB_n V kd s q t 0 5 (by omega)
  have e8 : addB V kd s q t 8 0 4 = V 8 0 4 + 1 := rfl
  have hp := h.1
  unfold place at hp
  refine ⟨h1, h2, by omega, fun x x0 x1 => ?_, h5, h6, h7, h8⟩
  have b := addB_b V kd s q t x
  rw [b.1, b.2.1, b.2.2.1, b.2.2.2, e6, e5]
  by_cases e : x = V 8 0 4
  · rw [if_pos e, if_pos e, if_pos e, if_pos e]
    omega
  · rw [if_neg e, if_neg e, if_neg e, if_neg e]
    exact h4 x x0 (by omega)) hI
theorem v_buyer (f : EQ 0 0 V W) (kd s q t : Int) : EQ 0 0 (vBuyer V kd s q t) (vBuyer W kd s q t) := vif_e (by rw [place_e f s t, f.c]) (fun _ => by
  show EQ 0 0 (addB V kd s q t) (addB W kd s q t)
  intro k r i hl
  rw [addB_n V kd s q t 0 5 (by omega), addB_n V kd s q t 0 6 (by omega), show addB V kd s q t 8 0 4 = V 8 0 4 + 1 from rfl] at hl
  rcases hl with h | h | h | h | h | h | h | h | h
  · obtain ⟨rfl, rfl, a, b⟩ := h
    rw [addB_n _ _ _ _ _ _ _ (by omega), addB_n _ _ _ _ _ _ _ (by omega)]
    exact f.a a b
  · obtain ⟨a, b, rfl, c, d⟩ := h
    rw [addB_n _ _ _ _ _ _ _ (by omega), addB_n _ _ _ _ _ _ _ (by omega)]
    exact f k 0 i (LC.s a b c d)
  · obtain ⟨rfl, a, b, c, d⟩ := h
    rw [addB_n _ _ _ _ _ _ _ (by omega), addB_n _ _ _ _ _ _ _ (by omega)]
    exact f 7 r i (LC.p a b c d)
  · obtain ⟨rfl, rfl, rfl⟩ := h
    show W 8 0 4 + 1 = V 8 0 4 + 1
    rw [f.c]
  · obtain ⟨a, b, rfl, c, d⟩ := h
    have e : k = 9 ∨ k = 10 ∨ k = 11 ∨ k = 12 := by omega
    have b1 := addB_b V kd s q t i
    have b2 := addB_b W kd s q t i
    rw [f.c] at b2
    rcases e with rfl | rfl | rfl | rfl
    · rw [b1.1, b2.1]
      by_cases e : i = V 8 0 4
      · rw [if_pos e, if_pos e]
      · rw [if_neg e, if_neg e]; exact f 9 0 i (LC.b (by omega) (by omega) c (by omega))
    · rw [b1.2.1, b2.2.1]
      by_cases e : i = V 8 0 4
      · rw [if_pos e, if_pos e]
      · rw [if_neg e, if_neg e]; exact f 10 0 i (LC.b (by omega) (by omega) c (by omega))
    · rw [b1.2.2.1, b2.2.2.1]
      by_cases e : i = V 8 0 4
      · rw [if_pos e, if_pos e]
      · rw [if_neg e, if_neg e]; exact f 11 0 i (LC.b (by omega) (by omega) c (by omega))
    · rw [b1.2.2.2, b2.2.2.2]
      by_cases e : i = V 8 0 4
      · rw [if_pos e, if_pos e]
      · rw [if_neg e, if_neg e]; exact f 12 0 i (LC.b (by omega) (by omega) c (by omega))
  · omega
  · omega
  · omega
  · omega) f
end CON
