/-! TWO DAYS' MEMORIES ALIKE where it matters; bounds -/
/-- the places of a day: H hours, N sorts, C buyers; g 1: also when a sort was gone, what was paid for it; z 1: also what a day going through leaves -/
def LC (H N C g z : Int) (k : Nat) (r i : Int) : Prop :=
  (k = 1 ∧ r = 0 ∧ 5 ≤ i ∧ i ≤ 8) ∨ (2 ≤ k ∧ k ≤ 5 ∧ r = 0 ∧ 0 ≤ i ∧ i < N) ∨ (k = 7 ∧ 0 ≤ r ∧ r < N ∧ 0 ≤ i ∧ i < H) ∨ (k = 8 ∧ r = 0 ∧ i = 4) ∨ (9 ≤ k ∧ k ≤ 12 ∧ r = 0 ∧ 0 ≤ i ∧ i < C) ∨
  (z = 1 ∧ k = 0 ∧ r = 0 ∧ i = 9) ∨ (z = 1 ∧ k = 13 ∧ r = 0 ∧ 0 ≤ i ∧ i < N) ∨ (z = 1 ∧ g = 1 ∧ (k = 14 ∨ k = 15) ∧ r = 0 ∧ 0 ≤ i ∧ i < N) ∨ (z = 1 ∧ 16 ≤ k ∧ k ≤ 19 ∧ r = 0 ∧ 0 ≤ i ∧ i < C)
def EQ (g z : Int) (V W : DM) : Prop := ∀ (k : Nat) (r i : Int), LC (V 1 0 5) (V 1 0 6) (V 8 0 4) g z k r i → W k r i = V k r i
set_option maxHeartbeats 200000 in
theorem vup_n (V : DM) {k k' : Nat} {r r' i j v : Int} (h : ¬ (k' = k ∧ r' = r ∧ j = i)) : vup V k r i v k' r' j = V k' r' j := by
  by_cases hk : k' = k
  · subst hk
    by_cases hr : r' = r
    · subst hr
      exact vup_j _ _ _ _ (fun e => h ⟨rfl, rfl, e⟩)
    · rw [vup_r _ _ _ _ hr]
  · rw [vup_k _ _ _ _ hk]
set_option maxHeartbeats 200000 in
theorem vup_q {V W : DM} {k k' : Nat} {r r' i j : Int} (v : Int) (h : W k' r' j = V k' r' j) : vup W k r i v k' r' j = vup V k r i v k' r' j := by
  by_cases e : k' = k ∧ r' = r ∧ j = i
  · obtain ⟨rfl, rfl, rfl⟩ := e
    exact (vup_v W k' r' j v).trans (vup_v V k' r' j v).symm
  · rw [vup_n _ e, vup_n _ e]
    exact h
section LCI
variable {H N C g z : Int} {k : Nat} {r i : Int}
set_option maxHeartbeats 200000 in
theorem LC.a (h0 : 5 ≤ i) (h1 : i ≤ 8) : LC H N C g z 1 0 i := Or.inl ⟨rfl, rfl, h0, h1⟩
set_option maxHeartbeats 200000 in
theorem LC.s (k0 : 2 ≤ k) (k1 : k ≤ 5) (h0 : 0 ≤ i) (h1 : i < N) : LC H N C g z k 0 i := Or.inr (Or.inl ⟨k0, k1, rfl, h0, h1⟩)
set_option maxHeartbeats 200000 in
theorem LC.p (r0 : 0 ≤ r) (r1 : r < N) (h0 : 0 ≤ i) (h1 : i < H) : LC H N C g z 7 r i := Or.inr (Or.inr (Or.inl ⟨rfl, r0, r1, h0, h1⟩))
set_option maxHeartbeats 200000 in
theorem LC.n : LC H N C g z 8 0 4 := Or.inr (Or.inr (Or.inr (Or.inl ⟨rfl, rfl, rfl⟩)))
set_option maxHeartbeats 200000 in
theorem LC.b (k0 : 9 ≤ k) (k1 : k ≤ 12) (h0 : 0 ≤ i) (h1 : i < C) : LC H N C g z k 0 i := Or.inr (Or.inr (Or.inr (Or.inr (Or.inl ⟨k0, k1, rfl, h0, h1⟩))))
set_option maxHeartbeats 200000 in
theorem LC.in0 : LC H N C g 1 0 0 9 := Or.inr (Or.inr (Or.inr (Or.inr (Or.inr (Or.inl ⟨rfl, rfl, rfl, rfl⟩)))))
set_option maxHeartbeats 200000 in
theorem LC.l (h0 : 0 ≤ i) (h1 : i < N) : LC H N C g 1 13 0 i := Or.inr (Or.inr (Or.inr (Or.inr (Or.inr (Or.inr (Or.inl ⟨rfl, rfl, rfl, h0, h1⟩))))))
set_option maxHeartbeats 200000 in
theorem LC.gp (hk : k = 14 ∨ k = 15) (h0 : 0 ≤ i) (h1 : i < N) : LC H N C 1 1 k 0 i := Or.inr (Or.inr (Or.inr (Or.inr (Or.inr (Or.inr (Or.inr (Or.inl ⟨rfl, rfl, hk, rfl, h0, h1⟩)))))))
set_option maxHeartbeats 200000 in
theorem LC.t (k0 : 16 ≤ k) (k1 : k ≤ 19) (h0 : 0 ≤ i) (h1 : i < C) : LC H N C g 1 k 0 i := Or.inr (Or.inr (Or.inr (Or.inr (Or.inr (Or.inr (Or.inr (Or.inr ⟨rfl, k0, k1, rfl, h0, h1⟩)))))))
end LCI
set_option maxHeartbeats 200000 in
theorem EQ.rf (g z : Int) (V : DM) : EQ g z V V := fun _ _ _ _ => rfl
set_option maxHeartbeats 200000 in
theorem EQ.h {g z : Int} {V W : DM} (h : EQ g z V W) : W 1 0 5 = V 1 0 5 := h 1 0 5 (LC.a (by omega) (by omega))
set_option maxHeartbeats 200000 in
theorem EQ.n {g z : Int} {V W : DM} (h : EQ g z V W) : W 1 0 6 = V 1 0 6 := h 1 0 6 (LC.a (by omega) (by omega))
set_option maxHeartbeats 200000 in
theorem EQ.c {g z : Int} {V W : DM} (h : EQ g z V W) : W 8 0 4 = V 8 0 4 := h 8 0 4 LC.n
set_option maxHeartbeats 200000 in
theorem EQ.sy {g z : Int} {V W : DM} (h : EQ g z V W) : EQ g z W V := fun k r i hl => by
  rw [h.h, h.n, h.c] at hl
  exact (h k r i hl).symm
set_option maxHeartbeats 200000 in
theorem EQ.tr {g z : Int} {U V W : DM} (h1 : EQ g z U V) (h2 : EQ g z V W) : EQ g z U W := fun k r i hl => by
  have hl2 := hl
  rw [← h1.h, ← h1.n, ← h1.c] at hl2
  rw [h2 k r i hl2, h1 k r i hl]
set_option maxHeartbeats 200000 in
theorem EQ.wk {g z : Int} {V W : DM} (h : EQ g z V W) (g2 z2 : Int) (hz : z2 = 1 → z = 1 ∧ (g2 = 1 → g = 1)) : EQ g2 z2 V W := fun k r i hl => h k r i (by
  rcases hl with q | q | q | q | q | ⟨rfl, q⟩ | ⟨rfl, q⟩ | ⟨rfl, rfl, q⟩ | ⟨rfl, q⟩
  · exact Or.inl q
  · exact Or.inr (Or.inl q)
  · exact Or.inr (Or.inr (Or.inl q))
  · exact Or.inr (Or.inr (Or.inr (Or.inl q)))
  · exact Or.inr (Or.inr (Or.inr (Or.inr (Or.inl q))))
  · exact Or.inr (Or.inr (Or.inr (Or.inr (Or.inr (Or.inl ⟨(hz rfl).1, q⟩)))))
  · exact Or.inr (Or.inr (Or.inr (Or.inr (Or.inr (Or.inr (Or.inl ⟨(hz rfl).1, q⟩))))))
  · exact Or.inr (Or.inr (Or.inr (Or.inr (Or.inr (Or.inr (Or.inr (Or.inl ⟨(hz rfl).1, (hz rfl).2 rfl, q⟩)))))))
  · exact Or.inr (Or.inr (Or.inr (Or.inr (Or.inr (Or.inr (Or.inr (Or.inr ⟨(hz rfl).1, q⟩))))))))
set_option maxHeartbeats 200000 in
theorem EQ.up {g z : Int} {V W : DM} (h : EQ g z V W) {k : Nat} {r i : Int} (v : Int) (hk : ¬ (k = 1 ∧ r = 0 ∧ (i = 5 ∨ i = 6)) ∧ ¬ (k = 8 ∧ r = 0 ∧ i = 4)) : EQ g z (vup V k r i v) (vup W k r i v) := by
  intro k' r' j hl
  rw [vup_n V (k' := 1) (r' := 0) (j := 5) (by omega), vup_n V (k' := 1) (r' := 0) (j := 6) (by omega), vup_n V (k' := 8) (r' := 0) (j := 4) (by omega)] at hl
  exact vup_q v (h k' r' j hl)
set_option maxHeartbeats 200000 in
theorem DayOk.eq {V W : DM} (h : DayOk V) {g z : Int} (f : EQ g z V W) : DayOk W := by
  obtain ⟨h1, h2, h3, h4, h5, h6, h7, h8⟩ := h
  refine ⟨by rw [f.n]; exact h1, by rw [f.h]; exact h2, by rw [f.c]; exact h3, fun x x0 x1 => ?_, fun s s0 s1 => ?_, fun s t s0 s1 t0 t1 => ?_, ?_, ?_⟩
  · rw [f.c] at x1
    rw [f 9 0 x (LC.b (by omega) (by omega) (by omega) (by omega)), f 10 0 x (LC.b (by omega) (by omega) (by omega) (by omega)), f 11 0 x (LC.b (by omega) (by omega) (by omega) (by omega)), f 12 0 x (LC.b (by omega) (by omega) (by omega) (by omega)), f.n, f.h]
    exact h4 x x0 x1
  · rw [f.n] at s1
    rw [f 2 0 s (LC.s (by omega) (by omega) (by omega) (by omega)), f 3 0 s (LC.s (by omega) (by omega) (by omega) (by omega)), f 4 0 s (LC.s (by omega) (by omega) (by omega) (by omega)), f 5 0 s (LC.s (by omega) (by omega) (by omega) (by omega))]
    exact h5 s s0 s1
  · rw [f.n] at s1
    rw [f.h] at t1
    rw [f 7 s t (LC.p (by omega) (by omega) (by omega) (by omega))]
    exact h6 s t s0 s1 t0 t1
  · rw [f 1 0 7 (LC.a (by omega) (by omega))]; exact h7
  · rw [f 1 0 8 (LC.a (by omega) (by omega))]; exact h8
section EQS
variable {g : Int} {V W : DM}
set_option maxHeartbeats 200000 in
theorem EQ.dearerE (f : EQ g 1 V W) {s t : Int} (s0 : 0 ≤ s) (s1 : s < V 1 0 6) (t0 : 0 ≤ t) (t1 : t < V 1 0 5) : dearer W s t ↔ dearer V s t := by
  constructor
  · rintro ⟨r, r0, r1, r2, r3⟩
    rw [f.n] at r1
    rw [f 13 0 r (LC.l (by omega) (by omega))] at r2
    rw [f 7 s t (LC.p (by omega) (by omega) (by omega) (by omega)), f 7 r t (LC.p (by omega) (by omega) (by omega) (by omega))] at r3
    exact ⟨r, r0, r1, r2, r3⟩
  · rintro ⟨r, r0, r1, r2, r3⟩
    refine ⟨r, r0, by rw [f.n]; exact r1, by rw [f 13 0 r (LC.l (by omega) (by omega))]; exact r2, ?_⟩
    rw [f 7 s t (LC.p (by omega) (by omega) (by omega) (by omega)), f 7 r t (LC.p (by omega) (by omega) (by omega) (by omega))]
    exact r3
set_option maxHeartbeats 200000 in
theorem EQ.fresh {z : Int} (f : EQ g z V W) {s : Int} (t : Int) (s0 : 0 ≤ s) (s1 : s < V 1 0 6) : freshAt W s t = freshAt V s t := by
  unfold freshAt
  rw [f 4 0 s (LC.s (by omega) (by omega) (by omega) (by omega)), f 5 0 s (LC.s (by omega) (by omega) (by omega) (by omega))]
set_option maxHeartbeats 200000 in
theorem EQ.worthE (f : EQ g 1 V W) {x s t : Int} (x0 : 0 ≤ x) (x1 : x < V 8 0 4) (s0 : 0 ≤ s) (s1 : s < V 1 0 6) (t0 : 0 ≤ t) (t1 : t < V 1 0 5) : worth W x s t = worth V x s t := by
  unfold worth
  rw [f 11 0 x (LC.b (by omega) (by omega) (by omega) (by omega)), f 10 0 x (LC.b (by omega) (by omega) (by omega) (by omega)), f 1 0 8 (LC.a (by omega) (by omega)), f.fresh t s0 s1, b01_e (P := V 1 0 8 ≠ 0 ∧ dearer W s t) (Q := V 1 0 8 ≠ 0 ∧ dearer V s t) (by rw [f.dearerE s0 s1 t0 t1])]
set_option maxHeartbeats 200000 in
theorem EQ.gainE (f : EQ g 1 V W) {x s t : Int} (x0 : 0 ≤ x) (x1 : x < V 8 0 4) (s0 : 0 ≤ s) (s1 : s < V 1 0 6) (t0 : 0 ≤ t) (t1 : t < V 1 0 5) : gain W x s t = gain V x s t := by
  unfold gain
  rw [f.worthE x0 x1 s0 s1 t0 t1, f 13 0 s (LC.l (by omega) (by omega)), f 7 s t (LC.p (by omega) (by omega) (by omega) (by omega))]
set_option maxHeartbeats 200000 in
theorem EQ.cheaperE {z : Int} (f : EQ g z V W) {s t : Int} (s0 : 0 ≤ s) (s1 : s < V 1 0 6) (t0 : 0 ≤ t) (t1 : t < V 1 0 5) : cheaper W s t ↔ cheaper V s t := by
  unfold cheaper
  rw [f.h, f 7 s t (LC.p (by omega) (by omega) (by omega) (by omega))]
  constructor
  · rintro ⟨a, b⟩
    rw [f 7 s (t + 1) (LC.p (by omega) (by omega) (by omega) (by omega))] at b
    exact ⟨a, b⟩
  · rintro ⟨a, b⟩
    rw [f 7 s (t + 1) (LC.p (by omega) (by omega) (by omega) (by omega))]
    exact ⟨a, b⟩
set_option maxHeartbeats 200000 in
theorem EQ.pickE (f : EQ g 1 V W) {x t : Int} (x0 : 0 ≤ x) (x1 : x < V 8 0 4) (t0 : 0 ≤ t) (t1 : t < V 1 0 5) {n : Int} (n1 : n ≤ V 1 0 6) : pick W x t n = pick V x t n := by
  refine iterI_rel (R := fun p q => p = q) rfl (fun j p q j0 j1 hpq => ?_)
  subst hpq
  show (if p.2 < gain W x j t then (j, gain W x j t) else p) = if p.2 < gain V x j t then (j, gain V x j t) else p
  rw [f.gainE x0 x1 j0 (by omega) t0 t1]
set_option maxHeartbeats 200000 in
theorem EQ.choiceE (hI : DayOk V) (f : EQ g 1 V W) {x t : Int} (x0 : 0 ≤ x) (x1 : x < V 8 0 4) (t0 : 0 ≤ t) (t1 : t < V 1 0 5) : choice W x t = choice V x t := by
  have hx := hI.2.2.2.1 x x0 x1
  unfold choice
  rw [f 9 0 x (LC.b (by omega) (by omega) (by omega) (by omega)), f 10 0 x (LC.b (by omega) (by omega) (by omega) (by omega)), f.n, f.gainE x0 x1 hx.2.1.1 hx.2.1.2 t0 t1, f.pickE x0 x1 t0 t1 (Int.le_refl _)]
  have hc := f.cheaperE hx.2.1.1 hx.2.1.2 t0 t1
  by_cases h : V 9 0 x = 2 ∧ cheaper V (V 10 0 x) t
  · rw [if_pos h, if_pos ⟨h.1, hc.mpr h.2⟩]
  · rw [if_neg h, if_neg (fun q => h ⟨q.1, hc.mp q.2⟩)]
set_option maxHeartbeats 200000 in
theorem EQ.comesE (f : EQ g 1 V W) {x t : Int} (x0 : 0 ≤ x) (x1 : x < V 8 0 4) : comesP W x t ↔ comesP V x t := by
  unfold comesP
  rw [f 9 0 x (LC.b (by omega) (by omega) (by omega) (by omega)), f 12 0 x (LC.b (by omega) (by omega) (by omega) (by omega)), f 16 0 x (LC.t (by omega) (by omega) (by omega) (by omega))]
set_option maxHeartbeats 200000 in
theorem EQ.gone1E (f : EQ g 1 V W) {s t : Int} (s0 : 0 ≤ s) (s1 : s < V 1 0 6) : EQ g 1 (gone1 V s t) (gone1 W s t) := by
  unfold gone1
  rw [f 13 0 s (LC.l (by omega) (by omega))]
  split
  · exact f.up _ (by omega)
  · exact f
set_option maxHeartbeats 200000 in
theorem gone1_at (V : DM) (s t : Int) (k : Nat) (r i : Int) (h : k ≠ 14) : gone1 V s t k r i = V k r i := by
  unfold gone1
  split
  · rw [vup_k _ _ _ _ h]
  · rfl
set_option maxHeartbeats 200000 in
theorem EQ.sell0E (f : EQ g 1 V W) {s t p : Int} (s0 : 0 ≤ s) (s1 : s < V 1 0 6) : EQ g 1 (sell0 V s t p) (sell0 W s t p) := by
  have f1 : EQ g 1 (gone1 (vup V 13 0 s (w32 (V 13 0 s - 1))) s t) (gone1 (vup W 13 0 s (w32 (W 13 0 s - 1))) s t) := by
    rw [f 13 0 s (LC.l (by omega) (by omega))]
    exact (f.up _ (by omega)).gone1E s0 s1
  unfold sell0
  have e15 : ∀ U : DM, gone1 (vup U 13 0 s (w32 (U 13 0 s - 1))) s t 15 0 s = U 15 0 s := fun U => by rw [gone1_at _ _ _ _ _ _ (by omega), vup_k _ _ _ _ (by omega)]
  have e9 : ∀ (U : DM) (v : Int), vup (gone1 (vup U 13 0 s (w32 (U 13 0 s - 1))) s t) 15 0 s v 0 0 9 = U 0 0 9 := fun U v => by rw [vup_k _ _ _ _ (by omega), gone1_at _ _ _ _ _ _ (by omega), vup_k _ _ _ _ (by omega)]
  simp only [e15, e9]
  rw [f 0 0 9 LC.in0]
  have f2 : EQ g 1 (vup (gone1 (vup V 13 0 s (w32 (V 13 0 s - 1))) s t) 15 0 s (w32 (V 15 0 s + p))) (vup (gone1 (vup W 13 0 s (w32 (W 13 0 s - 1))) s t) 15 0 s (w32 (W 15 0 s + p))) := by
    by_cases hg : g = 1
    · subst hg
      rw [f 15 0 s (LC.gp (Or.inr rfl) s0 s1)]
      exact f1.up _ (by omega)
    · intro k r i hl
      have hk : k ≠ 15 := by rintro rfl; rcases hl with q | q | q | q | q | q | q | q | q <;> omega
      rw [vup_k _ _ _ _ hk, vup_k _ _ _ _ hk]
      rw [vup_k _ _ _ _ (by omega), vup_k _ _ _ _ (by omega)] at hl
      exact f1 k r i hl
  exact f2.up _ (by omega)
set_option maxHeartbeats 200000 in
theorem EQ.visitE (hI : DayOk V) (f : EQ g 1 V W) {x t : Int} (x0 : 0 ≤ x) (x1 : x < V 8 0 4) (t0 : 0 ≤ t) (t1 : t < V 1 0 5) : EQ g 1 (visit V x t) (visit W x t) := by
  have f1 : EQ g 1 (vup V 19 0 x (w32 (V 19 0 x + 1))) (vup W 19 0 x (w32 (W 19 0 x + 1))) := by
    rw [f 19 0 x (LC.t (by omega) (by omega) (by omega) (by omega))]
    exact f.up _ (by omega)
  have hF : Fr V (vup V 19 0 x (w32 (V 19 0 x + 1))) := (Fr.rf V).up (by omega)
  have hI1 := hI.fr hF
  have e8 : vup V 19 0 x (w32 (V 19 0 x + 1)) 8 0 4 = V 8 0 4 := hF 8 0 4 (by omega) (by omega)
  have e5 : vup V 19 0 x (w32 (V 19 0 x + 1)) 1 0 5 = V 1 0 5 := hF 1 0 5 (by omega) (by omega)
  have hc := EQ.choiceE hI1 f1 (t := t) x0 (by omega) t0 (by omega)
  have hr := choice_r hI1 (t := t) x0 (by omega) t0 (by omega)
  unfold visit
  by_cases hcm : comesP V x t
  · rw [if_pos hcm, if_pos ((f.comesE x0 x1).mpr hcm)]
    show EQ g 1 (if _ then _ else _) (if _ then _ else _)
    rw [hc]
    split
    · exact f1
    · next hne =>
      unfold sell1
      have h0 : 0 ≤ choice (vup V 19 0 x (w32 (V 19 0 x + 1))) x t ∧ choice (vup V 19 0 x (w32 (V 19 0 x + 1))) x t < vup V 19 0 x (w32 (V 19 0 x + 1)) 1 0 6 := by omega
      rw [f1 7 (choice (vup V 19 0 x (w32 (V 19 0 x + 1))) x t) t (LC.p h0.1 h0.2 t0 (by omega))]
      exact (((f1.sell0E h0.1 h0.2).up _ (by omega)).up _ (by omega)).up _ (by omega)
  · rw [if_neg hcm, if_neg (fun q => hcm ((f.comesE x0 x1).mp q))]
    exact f
/-- the cook alike -/
def SameCook (V W : DM) : Prop := (V 0 0 11 = -9 ∧ W 0 0 11 = -9) ∨ (W 0 0 10 = V 0 0 10 ∧ W 0 0 11 = V 0 0 11 ∧ W 0 0 12 = V 0 0 12 ∧ 0 ≤ V 0 0 10 ∧ V 0 0 10 < V 1 0 6)
set_option maxHeartbeats 200000 in
theorem EQ.cookE (f : EQ g 1 V W) (hc : SameCook V W) {t : Int} (t0 : 0 ≤ t) : EQ g 1 (cookAt V t) (cookAt W t) := by
  unfold cookAt
  rcases hc with hc | hc
  · rw [if_neg (by omega), if_neg (by omega)]
    exact f
  · rw [hc.2.1]
    split
    · rw [hc.1, hc.2.2.1, f 0 0 9 LC.in0, f 13 0 (V 0 0 10) (LC.l (by omega) (by omega))]
      exact (f.up _ (by omega)).up _ (by omega)
    · exact f
set_option maxHeartbeats 200000 in
theorem EQ.hourE {U U2 : DM} (hI : DayOk U) (hc : SameCook U U2) (hF : Fr U V) (hF2 : Fr U2 W) (f : EQ g 1 V W) {t : Int} (t0 : 0 ≤ t) (t1 : t < U 1 0 5) : EQ g 1 (hourV V t) (hourV W t) := by
  have hc2 : SameCook V W := by
    unfold SameCook at *
    rw [hF 0 0 11 (by omega) (by omega), hF2 0 0 11 (by omega) (by omega), hF 0 0 10 (by omega) (by omega), hF2 0 0 10 (by omega) (by omega), hF 0 0 12 (by omega) (by omega), hF2 0 0 12 (by omega) (by omega), hF 1 0 6 (by omega) (by omega)]
    exact hc
  unfold hourV
  rw [f.c]
  have hh : EQ g 1 (iterI (fun x W => visit W x t) (cookAt V t) (V 8 0 4)) (iterI (fun x W => visit W x t) (cookAt W t) (V 8 0 4)) ∧ Fr U (iterI (fun x W => visit W x t) (cookAt V t) (V 8 0 4)) := by
    refine iterI_rel (R := fun A B => EQ g 1 A B ∧ Fr U A) ⟨f.cookE hc2 t0, hF.cookAtF t⟩ (fun j A B j0 j1 hAB => ?_)
    have e8 : A 8 0 4 = U 8 0 4 := hAB.2 8 0 4 (by omega) (by omega)
    have e8' : V 8 0 4 = U 8 0 4 := hF 8 0 4 (by omega) (by omega)
    have e5 : A 1 0 5 = U 1 0 5 := hAB.2 1 0 5 (by omega) (by omega)
    exact ⟨EQ.visitE (hI.fr hAB.2) hAB.1 j0 (by omega) t0 (by omega), hAB.2.visitF j t⟩
  exact hh.1
set_option maxHeartbeats 200000 in
theorem openS_o {n : Int} {A : DM} {k : Nat} {r i : Int} (h : k ≠ 13 ∧ k ≠ 14 ∧ k ≠ 15) : openS n A k r i = A k r i := by
  unfold openS
  rw [vup_k _ _ _ _ h.2.2, vup_k _ _ _ _ h.2.1, vup_k _ _ _ _ h.1]
set_option maxHeartbeats 200000 in
theorem openS_s (n : Int) (A : DM) : openS n A 13 0 n = A 2 0 n ∧ openS n A 14 0 n = -9 ∧ openS n A 15 0 n = 0 := by
  unfold openS
  refine ⟨?_, ?_, vup_v _ _ _ _ _⟩
  · rw [vup_k _ _ _ _ (by omega), vup_k _ _ _ _ (by omega), vup_v]
  · rw [vup_k _ _ _ _ (by omega), vup_v]
set_option maxHeartbeats 200000 in
theorem openS_n {n s : Int} (A : DM) (h : s ≠ n) : openS n A 13 0 s = A 13 0 s ∧ openS n A 14 0 s = A 14 0 s ∧ openS n A 15 0 s = A 15 0 s := by
  unfold openS
  exact ⟨by rw [vup_n _ (by omega), vup_n _ (by omega), vup_n _ (by omega)], by rw [vup_n _ (by omega), vup_n _ (by omega), vup_n _ (by omega)], by rw [vup_n _ (by omega), vup_n _ (by omega), vup_n _ (by omega)]⟩
set_option maxHeartbeats 200000 in
theorem openB_o {n : Int} {A : DM} {k : Nat} {r i : Int} (h : k < 16) : openB n A k r i = A k r i := by
  unfold openB
  rw [vup_k _ _ _ _ (by omega), vup_k _ _ _ _ (by omega), vup_k _ _ _ _ (by omega), vup_k _ _ _ _ (by omega)]
set_option maxHeartbeats 200000 in
theorem openB_s (n : Int) (A : DM) : openB n A 16 0 n = -9 ∧ openB n A 17 0 n = -9 ∧ openB n A 18 0 n = -9 ∧ openB n A 19 0 n = 0 := by
  unfold openB
  refine ⟨?_, ?_, ?_, vup_v _ _ _ _ _⟩
  · rw [vup_k _ _ _ _ (by omega), vup_k _ _ _ _ (by omega), vup_k _ _ _ _ (by omega), vup_v]
  · rw [vup_k _ _ _ _ (by omega), vup_k _ _ _ _ (by omega), vup_v]
  · rw [vup_k _ _ _ _ (by omega), vup_v]
set_option maxHeartbeats 200000 in
theorem openB_n {n s : Int} (A : DM) (h : s ≠ n) (k : Nat) : openB n A k 0 s = A k 0 s := by
  unfold openB
  rw [vup_n _ (by omega), vup_n _ (by omega), vup_n _ (by omega), vup_n _ (by omega)]
set_option maxHeartbeats 200000 in
theorem openS_F {U A : DM} (a : Fr U A) (n : Int) : Fr U (openS n A) := ((a.up (by omega)).up (by omega)).up (by omega)
set_option maxHeartbeats 200000 in
theorem openB_F {U A : DM} (a : Fr U A) (n : Int) : Fr U (openB n A) := (((a.up (by omega)).up (by omega)).up (by omega)).up (by omega)
set_option maxHeartbeats 200000 in
theorem open_key {U : DM} (hU : DayOk U) : Fr U (openV U) ∧ openV U 0 0 9 = 0 ∧ (∀ s, 0 ≤ s → s < U 1 0 6 → openV U 13 0 s = U 2 0 s ∧ openV U 14 0 s = -9 ∧ openV U 15 0 s = 0) ∧ (∀ x, 0 ≤ x → x < U 8 0 4 → openV U 16 0 x = -9 ∧ openV U 17 0 x = -9 ∧ openV U 18 0 x = -9 ∧ openV U 19 0 x = 0) := by
  have h1 : ∀ n : Nat, Fr U (iterN openS (vup U 0 0 9 0) n) ∧ iterN openS (vup U 0 0 9 0) n 0 0 9 = 0 ∧ (∀ s, 0 ≤ s → s < (n : Int) → iterN openS (vup U 0 0 9 0) n 13 0 s = U 2 0 s ∧ iterN openS (vup U 0 0 9 0) n 14 0 s = -9 ∧ iterN openS (vup U 0 0 9 0) n 15 0 s = 0) := by
    intro n
    induction n with
    | zero => exact ⟨(Fr.rf U).up (by omega), vup_v _ _ _ _ _, fun s s0 s1 => by omega⟩
    | succ n ih =>
      obtain ⟨a, b, c⟩ := ih
      show Fr U (openS n (iterN openS (vup U 0 0 9 0) n)) ∧ openS n (iterN openS (vup U 0 0 9 0) n) 0 0 9 = 0 ∧ ∀ s, 0 ≤ s → s < ((n + 1 : Nat) : Int) → openS n (iterN openS (vup U 0 0 9 0) n) 13 0 s = U 2 0 s ∧ openS n (iterN openS (vup U 0 0 9 0) n) 14 0 s = -9 ∧ openS n (iterN openS (vup U 0 0 9 0) n) 15 0 s = 0
      refine ⟨openS_F a n, by rw [openS_o (by omega)]; exact b, fun s s0 s1 => ?_⟩
      by_cases hs : s = n
      · subst hs
        have h := openS_s n (iterN openS (vup U 0 0 9 0) n)
        rw [a 2 0 n (by omega) (by omega)] at h
        exact h
      · have h := openS_n (iterN openS (vup U 0 0 9 0) n) hs
        rw [h.1, h.2.1, h.2.2]
        exact c s s0 (by omega)
  obtain ⟨a1, b1, c1⟩ := h1 (U 1 0 6).toNat
  have h2 : ∀ n : Nat, Fr U (iterN openB (iterI openS (vup U 0 0 9 0) (U 1 0 6)) n) ∧ (∀ (k : Nat) (r i : Int), k < 16 → iterN openB (iterI openS (vup U 0 0 9 0) (U 1 0 6)) n k r i = iterI openS (vup U 0 0 9 0) (U 1 0 6) k r i) ∧ (∀ x, 0 ≤ x → x < (n : Int) → iterN openB (iterI openS (vup U 0 0 9 0) (U 1 0 6)) n 16 0 x = -9 ∧ iterN openB (iterI openS (vup U 0 0 9 0) (U 1 0 6)) n 17 0 x = -9 ∧ iterN openB (iterI openS (vup U 0 0 9 0) (U 1 0 6)) n 18 0 x = -9 ∧ iterN openB (iterI openS (vup U 0 0 9 0) (U 1 0 6)) n 19 0 x = 0) := by
    intro n
    induction n with
    | zero => exact ⟨a1, fun _ _ _ _ => rfl, fun x x0 x1 => by omega⟩
    | succ n ih =>
      obtain ⟨a, b, c⟩ := ih
      generalize hB : iterN openB (iterI openS (vup U 0 0 9 0) (U 1 0 6)) n = B at a b c
      have hS : iterN openB (iterI openS (vup U 0 0 9 0) (U 1 0 6)) (n + 1) = openB n B := by rw [iterN, hB]
      rw [hS]
      refine ⟨openB_F a n, fun k r i hk => by rw [openB_o hk]; exact b k r i hk, fun x x0 x1 => ?_⟩
      by_cases hx : x = n
      · subst hx
        exact openB_s n B
      · rw [openB_n B hx, openB_n B hx, openB_n B hx, openB_n B hx]
        exact c x x0 (by omega)
  obtain ⟨a2, b2, c2⟩ := h2 (U 8 0 4).toNat
  exact ⟨a2, (b2 0 0 9 (by omega)).trans b1, fun s s0 s1 => by
    have h := c1 s s0 (by omega)
    refine ⟨(b2 13 0 s (by omega)).trans h.1, (b2 14 0 s (by omega)).trans h.2.1, (b2 15 0 s (by omega)).trans h.2.2⟩, fun x x0 x1 => c2 x x0 (by omega)⟩
set_option maxHeartbeats 200000 in
theorem EQ.openE (hI : DayOk V) (f : EQ g 0 V W) : EQ 1 1 (openV V) (openV W) := by
  obtain ⟨a, b, c, d⟩ := open_key hI
  obtain ⟨a', b', c', d'⟩ := open_key (hI.eq f)
  intro k r i hl
  rw [a 1 0 5 (by omega) (by omega), a 1 0 6 (by omega) (by omega), a 8 0 4 (by omega) (by omega)] at hl
  by_cases hk : k = 0 ∨ 12 < k
  · have hcases : (k = 0 ∧ r = 0 ∧ i = 9) ∨ (k = 13 ∧ r = 0 ∧ 0 ≤ i ∧ i < V 1 0 6) ∨ ((k = 14 ∨ k = 15) ∧ r = 0 ∧ 0 ≤ i ∧ i < V 1 0 6) ∨ ((k = 16 ∨ k = 17 ∨ k = 18 ∨ k = 19) ∧ r = 0 ∧ 0 ≤ i ∧ i < V 8 0 4) := by
      rcases hl with q | q | q | q | q | q | q | q | q
      · omega
      · omega
      · omega
      · omega
      · omega
      · exact Or.inl q.2
      · exact Or.inr (Or.inl q.2)
      · exact Or.inr (Or.inr (Or.inl q.2.2))
      · exact Or.inr (Or.inr (Or.inr ⟨by omega, q.2.2.2⟩))
    rcases hcases with ⟨rfl, rfl, rfl⟩ | ⟨rfl, rfl, i0, i1⟩ | ⟨hk, rfl, i0, i1⟩ | ⟨hk, rfl, i0, i1⟩
    · rw [b, b']
    · rw [(c i i0 i1).1, (c' i i0 (by rw [f.n]; exact i1)).1]
      exact f 2 0 i (LC.s (by omega) (by omega) i0 i1)
    · have q := c i i0 i1
      have q' := c' i i0 (by rw [f.n]; exact i1)
      rcases hk with rfl | rfl
      · rw [q.2.1, q'.2.1]
      · rw [q.2.2, q'.2.2]
    · have q := d i i0 i1
      have q' := d' i i0 (by rw [f.c]; exact i1)
      rcases hk with rfl | rfl | rfl | rfl
      · rw [q.1, q'.1]
      · rw [q.2.1, q'.2.1]
      · rw [q.2.2.1, q'.2.2.1]
      · rw [q.2.2.2, q'.2.2.2]
  · rw [a k r i (by omega) (by omega), a' k r i (by omega) (by omega)]
    refine f k r i ?_
    rcases hl with q | q | q | q | q | q | q | q | q
    · exact Or.inl q
    · exact Or.inr (Or.inl q)
    · exact Or.inr (Or.inr (Or.inl q))
    · exact Or.inr (Or.inr (Or.inr (Or.inl q)))
    · exact Or.inr (Or.inr (Or.inr (Or.inr (Or.inl q))))
    · omega
    · omega
    · omega
    · omega
set_option maxHeartbeats 200000 in
/-- two days that begin alike go alike -/
theorem EQ.gtE (hI : DayOk V) (f : EQ g 0 V W) (hc : SameCook V W) : EQ 1 1 (gt V) (gt W) := by
  unfold gt
  rw [f.h]
  have hh : EQ 1 1 (iterI (fun t W => hourV W t) (openV V) (V 1 0 5)) (iterI (fun t W => hourV W t) (openV W) (V 1 0 5)) ∧ Fr V (iterI (fun t W => hourV W t) (openV V) (V 1 0 5)) ∧ Fr W (iterI (fun t W => hourV W t) (openV W) (V 1 0 5)) := by
    refine iterI_rel (R := fun A B => EQ 1 1 A B ∧ Fr V A ∧ Fr W B) ⟨EQ.openE hI f, (Fr.rf V).openVF, (Fr.rf W).openVF⟩ (fun j A B j0 j1 hAB => ?_)
    exact ⟨EQ.hourE hI hc hAB.2.1 hAB.2.2 hAB.1 j0 j1, hAB.2.1.hourVF j, hAB.2.2.hourVF j⟩
  exact hh.1
set_option maxHeartbeats 200000 in
theorem EQ.profitE (f : EQ g 1 V W) : profitV W = profitV V := by
  unfold profitV
  rw [f.n, f 0 0 9 LC.in0, f 1 0 7 (LC.a (by omega) (by omega)), sumI_c (f := fun s => W 13 0 s) (g := fun s => V 13 0 s) (fun j j0 j1 => f 13 0 j (LC.l (by omega) (by omega))), sumI_c (f := fun s => W 2 0 s * W 3 0 s) (g := fun s => V 2 0 s * V 3 0 s) (fun j j0 j1 => by show W 2 0 j * W 3 0 j = V 2 0 j * V 3 0 j; rw [f 2 0 j (LC.s (by omega) (by omega) (by omega) (by omega)), f 3 0 j (LC.s (by omega) (by omega) (by omega) (by omega))])]
end EQS
