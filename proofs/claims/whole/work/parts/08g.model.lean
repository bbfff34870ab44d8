/-- what going through leaves of the reference beside the day -/
def K3 (U W : DM) : Prop := ∀ (k : Nat) (r i : Int), (k = 0 ∧ r = 0 ∧ (i = 0 ∨ i = 38)) ∨ (29 ≤ k ∧ k ≤ 37) → W k r i = U k r i
theorem K3.rf (U : DM) : K3 U U := fun _ _ _ _ => rfl
theorem K3.tr {A B C : DM} (h1 : K3 A B) (h2 : K3 B C) : K3 A C := fun k r i h => (h2 k r i h).trans (h1 k r i h)
theorem K3.up {A B : DM} (h : K3 A B) {k : Nat} {r i v : Int} (hk : ¬ ((k = 0 ∧ r = 0 ∧ (i = 0 ∨ i = 38)) ∨ (29 ≤ k ∧ k ≤ 37))) : K3 A (vup B k r i v) := fun k' r' i' hq => by
  rw [vup_n _ (fun e => hk (by obtain ⟨rfl, rfl, rfl⟩ := e; exact hq))]
  exact h k' r' i' hq
theorem K3.p3 {A B : DM} (h : K3 A B) : P3 A B := fun k r i hq => h k r i (by omega)
theorem gone1_e (V : DM) (s t : Int) : gone1 V s t = vup V 14 0 s (if V 13 0 s = 0 then t else V 14 0 s) := by
  unfold gone1
  split
  · rfl
  · rw [vup_id]
theorem sell0_e (V : DM) (s t p : Int) : sell0 V s t p = vup (vup (gone1 (vup V 13 0 s (w32 (V 13 0 s - 1))) s t) 15 0 s (w32 (V 15 0 s + p))) 0 0 9 (w32 (V 0 0 9 + p)) := by
  unfold sell0
  simp only []
  rw [vup_k (k' := 0) (k := 15) _ _ _ _ (by omega), gone1_at _ _ _ 15 _ _ (by omega), gone1_at _ _ _ 0 _ _ (by omega), vup_k (k' := 15) (k := 13) _ _ _ _ (by omega), vup_k (k' := 0) (k := 13) _ _ _ _ (by omega)]
theorem gone1_cm (V : DM) {k : Nat} (r i v s t : Int) (h : k ≠ 13 ∧ k ≠ 14) : gone1 (vup V k r i v) s t = vup (gone1 V s t) k r i v := by
  unfold gone1
  rw [vup_k _ _ _ _ (Ne.symm h.1)]
  split
  · exact vup_x V v t (by omega)
  · rfl
theorem sell0_cm (V : DM) {k : Nat} (r i v s t p : Int) (h : k ≠ 0 ∧ k ≠ 13 ∧ k ≠ 14 ∧ k ≠ 15) : sell0 (vup V k r i v) s t p = vup (sell0 V s t p) k r i v := by
  rw [sell0_e, sell0_e, vup_k V r i v (Ne.symm h.2.1), vup_k V r i v (Ne.symm h.2.2.2), vup_k V r i v (Ne.symm h.1), vup_x V v _ (by omega), gone1_cm _ _ _ _ _ _ ⟨h.2.1, h.2.2.1⟩, vup_x _ v _ (by omega), vup_x _ v _ (by omega)]
def sellM (V : DM) (s t p : Int) : DM := vup (vup (vup (vup V 21 0 s (w32 (V 21 0 s - 1))) 0 0 21 (w32 (V 0 0 21 + p))) 28 0 s (w32 (V 28 0 s + p))) 27 0 s (if w32 (V 21 0 s - 1) = 0 then t else V 27 0 s)
theorem sellM_K (V : DM) (s t p : Int) : K3 V (sellM V s t p) := ((((K3.rf V).up (by omega)).up (by omega)).up (by omega)).up (by omega)
theorem mv_sellM (V : DM) (s t p : Int) : mv (sellM V s t p) = sell0 (mv V) s t p := by
  unfold sellM
  rw [mvu_27, mvu_28, mvf_21, mvu_21, sell0_e, gone1_e, vup_v, vup_k (k' := 14) (k := 13) _ _ _ _ (by omega), vup_x (vup (vup (mv V) 13 0 s (w32 (V 21 0 s - 1))) 0 0 9 (w32 (V 0 0 21 + p))) _ _ (by omega), vup_x (vup (mv V) 13 0 s (w32 (V 21 0 s - 1))) _ _ (by omega), vup_x (vup (vup (mv V) 13 0 s (w32 (V 21 0 s - 1))) 14 0 s _) _ _ (by omega)]
  rfl
noncomputable def comeV (V : DM) (x t : Int) : DM := if choice (vup V 19 0 x (w32 (V 19 0 x + 1))) x t = -9 then vup V 19 0 x (w32 (V 19 0 x + 1)) else sell1 (vup V 19 0 x (w32 (V 19 0 x + 1))) x (choice (vup V 19 0 x (w32 (V 19 0 x + 1))) x t) t
theorem visit_c {V : DM} {x t : Int} (h : comesP V x t) : visit V x t = comeV V x t := if_pos h
theorem visit_n {V : DM} {x t : Int} (h : ¬ comesP V x t) : visit V x t = V := if_neg h
/-- who waits, has bought nothing -/
def WtI (V : DM) (t x : Int) : Prop := ∀ y, 0 ≤ y → y < V 8 0 4 → (V 16 0 y = -9 ∨ 0 ≤ V 16 0 y) ∧ (t < V 12 0 y ∨ (t = V 12 0 y ∧ x ≤ y) → V 16 0 y = -9)
theorem sell0_at (V : DM) (s t p : Int) {k : Nat} {r i : Int} (h : k ≠ 0 ∧ k ≠ 13 ∧ k ≠ 14 ∧ k ≠ 15) : sell0 V s t p k r i = V k r i := by
  rw [sell0_e, vup_k _ _ _ _ h.1, vup_k _ _ _ _ h.2.2.2, gone1_at _ _ _ _ _ _ h.2.2.1, vup_k _ _ _ _ h.2.1]
theorem visit_16 (V : DM) (x t y : Int) : visit V x t 16 0 y = V 16 0 y ∨ (y = x ∧ comesP V x t ∧ choice (vup V 19 0 x (w32 (V 19 0 x + 1))) x t ≠ -9 ∧ visit V x t 16 0 y = choice (vup V 19 0 x (w32 (V 19 0 x + 1))) x t) := by
  by_cases h : comesP V x t
  · rw [visit_c h]
    unfold comeV
    split
    · exact Or.inl (by rw [vup_k _ _ _ _ (by omega)])
    · next h2 =>
      unfold sell1
      rw [vup_k _ _ _ _ (by omega), vup_k _ _ _ _ (by omega)]
      by_cases hy : y = x
      · subst hy
        exact Or.inr ⟨rfl, h, h2, vup_v _ _ _ _ _⟩
      · exact Or.inl (by rw [vup_j _ _ _ _ hy, sell0_at _ _ _ _ (by omega), vup_k _ _ _ _ (by omega)])
  · rw [visit_n h]
    exact Or.inl rfl
theorem WtI.visitW {V : DM} {t x : Int} (h : WtI V t x) (hI : DayOk V) (x0 : 0 ≤ x) (x1 : x < V 8 0 4) (t0 : 0 ≤ t) (t1 : t < V 1 0 5) : WtI (visit V x t) t (x + 1) := by
  have hF : Fr V (visit V x t) := (Fr.rf V).visitF x t
  have hF1 : Fr V (vup V 19 0 x (w32 (V 19 0 x + 1))) := (Fr.rf V).up (by omega)
  have hc := choice_r (hI.fr hF1) (x := x) (t := t) x0 (by rw [hF1 8 0 4 (by omega) (by omega)]; exact x1) t0 (by rw [hF1 1 0 5 (by omega) (by omega)]; exact t1)
  intro y y0 y1
  rw [hF 8 0 4 (by omega) (by omega)] at y1
  rw [hF 12 0 y (by omega) (by omega)]
  have hy := h y y0 y1
  rcases visit_16 V x t y with e | ⟨e1, e2, e3, e4⟩
  · rw [e]
    exact ⟨hy.1, fun q => hy.2 (by omega)⟩
  · rw [e4]
    refine ⟨hc.imp_right And.left, fun q => ?_⟩
    exfalso
    unfold comesP at e2
    subst e1
    omega
theorem WtI.hour {V : DM} {t : Int} (h : WtI V t (V 8 0 4)) : WtI V (t + 1) 0 := fun y y0 y1 => ⟨(h y y0 y1).1, fun q => (h y y0 y1).2 (by omega)⟩
theorem WtI.comes {V : DM} {t x : Int} (h : WtI V t x) (x0 : 0 ≤ x) (x1 : x < V 8 0 4) : comesP V x t ↔ (t = V 12 0 x ∨ (V 9 0 x = 2 ∧ V 12 0 x < t ∧ V 16 0 x < 0)) := by
  have hx := h x x0 x1
  unfold comesP
  have h2 : t = V 12 0 x → V 16 0 x = -9 := fun e => hx.2 (Or.inr ⟨e, Int.le_refl _⟩)
  omega
theorem EQ.n45 {g : Int} {A B : DM} (h : EQ g 1 A B) (hg : g ≠ 1) {k : Nat} {r i v : Int} (hk : k = 14 ∨ k = 15) : EQ g 1 A (vup B k r i v) := fun k' r' i' hl => by
  have : k' ≠ k := by
    rintro rfl
    rcases hl with q | q | q | q | q | q | q | q | q <;> omega
  rw [vup_k _ _ _ _ this]
  exact h k' r' i' hl
def ckJ (A : DM) (s q j : Int) : DM := vup (vup A 0 0 9 (w32 (A 0 0 9 + j * q))) 13 0 s (A 13 0 s - j)
theorem w32_a (a b : Int) : w32 (w32 a + b) = w32 (a + b) := by
  unfold w32
  rw [Int32.ofInt_add, Int32.ofInt_toInt, ← Int32.ofInt_add]
theorem ckJ_s {g : Int} {A B : DM} (hg : g ≠ 1) {s q j t : Int} (s0 : 0 ≤ s) (s1 : s < A 1 0 6) (h : EQ g 1 (ckJ A s q j) B) (hj : InR (A 13 0 s - j - 1)) : EQ g 1 (ckJ A s q (j + 1)) (sell0 B s t q) := by
  have e9 : B 0 0 9 = w32 (A 0 0 9 + j * q) := (h 0 0 9 LC.in0).trans (by unfold ckJ; rw [vup_k _ _ _ _ (by omega), vup_v])
  have e13 : B 13 0 s = A 13 0 s - j := (h 13 0 s (LC.l s0 (by unfold ckJ; rw [vup_k _ _ _ _ (by omega), vup_k _ _ _ _ (by omega)]; exact s1))).trans (by unfold ckJ; rw [vup_v])
  have k1 := ((h.up (k := 13) (r := 0) (i := s) (w32 (B 13 0 s - 1)) (by omega)).n45 hg (r := 0) (i := s) (v := if vup B 13 0 s (w32 (B 13 0 s - 1)) 13 0 s = 0 then t else vup B 13 0 s (w32 (B 13 0 s - 1)) 14 0 s) (Or.inl rfl)).n45 hg (r := 0) (i := s) (v := w32 (B 15 0 s + q)) (Or.inr rfl)
  have k2 := k1.up (k := 0) (r := 0) (i := 9) (w32 (B 0 0 9 + q)) (by omega)
  rw [sell0_e, gone1_e]
  have e : vup (vup (ckJ A s q j) 13 0 s (w32 (B 13 0 s - 1))) 0 0 9 (w32 (B 0 0 9 + q)) = ckJ A s q (j + 1) := by
    unfold ckJ
    rw [vup_2, e9, e13, vup_x _ _ (w32 _) (by omega), vup_2, w32_i hj, w32_a, show A 0 0 9 + j * q + q = A 0 0 9 + (j + 1) * q by rw [Int.add_mul]; omega, show A 13 0 s - j - 1 = A 13 0 s - (j + 1) by omega]
  rw [e] at k2
  exact k2
theorem day_Bd {V : DM} (hI : DayOk V) (hc : CookOk V) {t : Int} (t0 : 0 ≤ t) (t1 : t ≤ V 1 0 5) : Bd (V 1 0 6) (570 * t) (iterI (fun t W => hourV W t) (openV V) t) := by
  have h5 := hI.2.1
  obtain ⟨a, b, c, d⟩ := open_key hI
  have key : ∀ n : Nat, (n : Int) ≤ V 1 0 5 → Bd (V 1 0 6) (570 * n) (iterN (fun t W => hourV W t) (openV V) n) ∧ Fr V (iterN (fun t W => hourV W t) (openV V) n) := by
    intro n
    induction n with
    | zero =>
      intro _
      refine ⟨⟨?_, fun s s0 s1 => ?_⟩, a⟩
      · show 0 ≤ openV V 0 0 9 ∧ openV V 0 0 9 ≤ _
        rw [b]; omega
      · show 0 ≤ openV V 13 0 s ∧ openV V 13 0 s ≤ 9
        rw [(c s s0 s1).1]
        exact (hI.2.2.2.2.1 s s0 s1).1
    | succ n ih =>
      intro hn
      obtain ⟨p, q⟩ := ih (by omega)
      exact ⟨(Bd.hourB hI hc q rfl p (by omega) (show (0 : Int) ≤ n by omega) (by omega)).wk (by omega), q.hourVF n⟩
  have k := (key t.toNat (by omega)).1
  unfold iterI
  exact k.wk (by omega)
/-- all laid out -/
def LayR (V : DM) (n : Int) (U : DM) : Prop := Fr (mv V) (mv U) ∧ (∀ s, 0 ≤ s → s < n → U 21 0 s = V 4 0 s) ∧ K3 V U
theorem LayR.s {V U : DM} {n : Int} (h : LayR V n U) : LayR V (n + 1) (vup U 21 0 n (V 4 0 n)) := by
  refine ⟨by rw [mvu_21]; exact h.1.up (by omega), fun s s0 s1 => ?_, h.2.2.up (by omega)⟩
  by_cases e : s = n
  · rw [e, vup_v]
  · rw [vup_j _ _ _ _ e]; exact h.2.1 s s0 (by omega)
/-- the day opened -/
def OpR (V : DM) (n m : Int) (U : DM) : Prop := Fr (mv V) (mv U) ∧ K3 V U ∧ U 0 0 21 = 0 ∧ (∀ s, 0 ≤ s → s < V 0 0 2 → U 21 0 s = V 4 0 s) ∧ (∀ s, 0 ≤ s → s < n → U 27 0 s = -9 ∧ U 28 0 s = 0) ∧ (∀ x, 0 ≤ x → x < m → U 23 0 x = -9 ∧ U 24 0 x = -9 ∧ U 25 0 x = -9 ∧ U 26 0 x = 0)
theorem OpR.s {V U : DM} {n : Int} (h : OpR V n 0 U) : OpR V (n + 1) 0 (vup (vup U 27 0 n (-9)) 28 0 n 0) := by
  obtain ⟨a, b, c, d, e, f⟩ := h
  refine ⟨by rw [mvu_28, mvu_27]; exact (a.up (by omega)).up (by omega), (b.up (by omega)).up (by omega), c, fun s s0 s1 => d s s0 s1, fun s s0 s1 => ?_, fun x x0 x1 => by omega⟩
  by_cases q : s = n
  · rw [q, vup_v, vup_k _ _ _ _ (show (27 : Nat) ≠ 28 by omega), vup_v]; exact ⟨rfl, rfl⟩
  · rw [vup_j _ _ _ _ q, vup_k _ _ _ _ (show (27 : Nat) ≠ 28 by omega), vup_j _ _ _ _ q, vup_k _ _ _ _ (show (28 : Nat) ≠ 27 by omega)]
    exact e s s0 (by omega)
theorem OpR.b {V U : DM} {n m : Int} (h : OpR V n m U) : OpR V n (m + 1) (vup (vup (vup (vup U 23 0 m (-9)) 24 0 m (-9)) 25 0 m (-9)) 26 0 m 0) := by
  obtain ⟨a, b, c, d, e, f⟩ := h
  refine ⟨by rw [mvu_26, mvu_25, mvu_24, mvu_23]; exact (((a.up (by omega)).up (by omega)).up (by omega)).up (by omega), (((b.up (by omega)).up (by omega)).up (by omega)).up (by omega), c, fun s s0 s1 => d s s0 s1, fun s s0 s1 => e s s0 s1, fun x x0 x1 => ?_⟩
  have k : vup (vup (vup (vup U 23 0 m (-9)) 24 0 m (-9)) 25 0 m (-9)) 26 0 m 0 23 0 x = vup U 23 0 m (-9) 23 0 x ∧ vup (vup (vup (vup U 23 0 m (-9)) 24 0 m (-9)) 25 0 m (-9)) 26 0 m 0 24 0 x = vup U 24 0 m (-9) 24 0 x ∧ vup (vup (vup (vup U 23 0 m (-9)) 24 0 m (-9)) 25 0 m (-9)) 26 0 m 0 25 0 x = vup U 25 0 m (-9) 25 0 x ∧ vup (vup (vup (vup U 23 0 m (-9)) 24 0 m (-9)) 25 0 m (-9)) 26 0 m 0 26 0 x = vup U 26 0 m 0 26 0 x := ⟨rfl, rfl, rfl, rfl⟩
  rw [k.1, k.2.1, k.2.2.1, k.2.2.2]
  by_cases q : x = m
  · rw [q, vup_v, vup_v, vup_v, vup_v]; exact ⟨rfl, rfl, rfl, rfl⟩
  · rw [vup_j _ _ _ _ q, vup_j _ _ _ _ q, vup_j _ _ _ _ q, vup_j _ _ _ _ q]
    exact f x x0 (by omega)
theorem OpR.e {V U : DM} (hI : DayOk (mv V)) (h : OpR V (V 0 0 2) (V 0 0 15) U) (s t c : Int) {g : Int} : EQ g 1 (openV (cookV (mv V) s t c)) (mv U) := by
  obtain ⟨a, b, c1, d, e, f⟩ := h
  obtain ⟨a', b', c', d'⟩ := open_key (cookV_ok hI s t c)
  have hcv : ∀ (k : Nat) (r i : Int), k ≠ 0 → cookV (mv V) s t c k r i = mv V k r i := fun k r i hk => cookV_at _ _ _ _ hk
  rw [hcv 1 0 6 (by omega), hcv 8 0 4 (by omega)] at *
  intro k r i hl
  have hz : ∀ q : Int, 1 = (1 : Int) → True := fun _ _ => trivial
  rw [a' 1 0 5 (by omega) (by omega), a' 1 0 6 (by omega) (by omega), a' 8 0 4 (by omega) (by omega), hcv 1 0 5 (by omega), hcv 1 0 6 (by omega), hcv 8 0 4 (by omega)] at hl
  by_cases hk : k = 0 ∨ 12 < k
  · have hcases : (k = 0 ∧ r = 0 ∧ i = 9) ∨ (k = 13 ∧ r = 0 ∧ 0 ≤ i ∧ i < mv V 1 0 6) ∨ ((k = 14 ∨ k = 15) ∧ r = 0 ∧ 0 ≤ i ∧ i < mv V 1 0 6) ∨ ((k = 16 ∨ k = 17 ∨ k = 18 ∨ k = 19) ∧ r = 0 ∧ 0 ≤ i ∧ i < mv V 8 0 4) := by
      rcases hl with q | q | q | q | q | q | q | q | q
      · omega
      · omega
      · omega
      · omega
      · omega
      · exact Or.inl q.2
      · exact Or.inr (Or.inl q.2)
      · exact Or.inr (Or.inr (Or.inl q.2.2))
      · exact Or.inr (Or.inr (Or.inr ⟨by omega, q.2.2.2⟩))
    rcases hcases with ⟨rfl, rfl, rfl⟩ | ⟨rfl, rfl, i0, i1⟩ | ⟨hk, rfl, i0, i1⟩ | ⟨hk, rfl, i0, i1⟩
    · rw [b']; exact c1
    · rw [(c' i i0 i1).1, hcv 2 0 i (by omega)]
      exact d i i0 i1
    · have q := c' i i0 i1
      have q' := e i i0 i1
      rcases hk with rfl | rfl
      · rw [q.2.1]; exact q'.1
      · rw [q.2.2]; exact q'.2
    · have q := d' i i0 i1
      have q' := f i i0 i1
      rcases hk with rfl | rfl | rfl | rfl
      · rw [q.1]; exact q'.1
      · rw [q.2.1]; exact q'.2.1
      · rw [q.2.2.1]; exact q'.2.2.1
      · rw [q.2.2.2]; exact q'.2.2.2
  · rw [a k r i (by omega) (by omega), a' k r i (by omega) (by omega), hcv k r i (by omega)]
theorem OpR.w {V U : DM} (h : OpR V (V 0 0 2) (V 0 0 15) U) : WtI (mv U) 0 0 := fun y y0 y1 => by
  have e8 : mv U 8 0 4 = mv V 8 0 4 := h.1 8 0 4 (by omega) (by omega)
  have := (h.2.2.2.2.2 y y0 (by rw [e8] at y1; exact y1)).1
  exact ⟨Or.inl this, fun _ => this⟩
