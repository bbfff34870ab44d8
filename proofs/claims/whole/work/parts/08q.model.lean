def LfI (V : DM) (row : Int) (U : DM) : Prop := (∀ (k : Nat) (r i : Int), ¬ (k = 4 ∧ r = 0 ∧ 0 ≤ i ∧ i < V 0 0 2) → U k r i = V k r i) ∧ InN (V 0 0 2) (U 4 0) ∧ rk (U 4 0) (V 0 0 2).toNat = row
theorem p10_s {s : Int} (h : 0 ≤ s) : (10 : Int) ^ (s + 1).toNat = 10 * 10 ^ s.toNat := by
  rw [show (s + 1).toNat = s.toNat + 1 by omega, Int.pow_succ]
  omega
theorem rk_s (f : Int → Int) {s : Int} (h : 0 ≤ s) : rk f (s + 1).toNat = 10 * rk f s.toNat + f s := by
  rw [show (s + 1).toNat = s.toNat + 1 by omega, rk, show ((s.toNat : Nat) : Int) = s by omega]
theorem rk_inj {N : Int} {g h : Int → Int} (hg : InN N g) (hh : InN N h) (e : rk g N.toNat = rk h N.toNat) : Ag N g h := by
  rcases Int.lt_or_le N 0 with q | q
  · exact fun j a b => by omega
  · have en : ((N.toNat : Nat) : Int) = N := by omega
    rcases Lx.tri N g h with c | c | c
    · have := rk_l N.toNat (by rw [en]; exact hg) (by rw [en]; exact hh) (by rw [en]; exact c)
      omega
    · have := rk_l N.toNat (by rw [en]; exact hh) (by rw [en]; exact hg) (by rw [en]; exact c)
      omega
    · exact c
def EQ2 (U W : DM) : Prop := ∀ (k : Nat) (r i : Int), k ≠ 2 → LC (U 1 0 5) (U 1 0 6) (U 8 0 4) 0 0 k r i → W k r i = U k r i
theorem EQ2.e {D W : DM} (h : EQ2 D W) : EQ 0 0 (vF D (W 2 0)) W := by
  intro k r i hl
  have hl : LC (D 1 0 5) (D 1 0 6) (D 8 0 4) 0 0 k r i := hl
  by_cases h2 : k = 2
  · subst h2
    have q : r = 0 ∧ 0 ≤ i ∧ i < D 1 0 6 := by rcases hl with q | q | q | q | q | q | q | q | q <;> omega
    obtain ⟨rfl, a, b⟩ := q
    rw [vF_2 _ _ a b]
  · rw [vF_n _ _ _ _ h2]; exact h k r i h2 hl
theorem EQ2.tr {A B C : DM} (h : EQ2 A B) (h2 : EQ2 B C) : EQ2 A C := fun k r i hk hl => by
  have e5 := h 1 0 5 (by omega) (LC.a (by omega) (by omega))
  have e6 := h 1 0 6 (by omega) (LC.a (by omega) (by omega))
  have e8 := h 8 0 4 (by omega) LC.n
  rw [h2 k r i hk (by rw [e5, e6, e8]; exact hl), h k r i hk hl]
theorem EQ.e2 {A B : DM} (h : EQ 0 0 A B) : EQ2 A B := fun k r i _ hl => h k r i hl
theorem mv_c2 {U W : DM} (h : ∀ (k : Nat) (r i : Int), k ≠ 4 → U k r i = W k r i) {k : Nat} (r i : Int) (hk : k ≠ 2) : mv U k r i = mv W k r i := by
  unfold mv
  split <;> simp_all
/-- the reference's cells while fish are tried -/
def FtI (V W : DM) : Prop := EQ2 (mv V) (mv W) ∧ P3 V W ∧ ∀ j, 0 ≤ j → j < V 0 0 2 → W 30 0 j = V 4 0 j
theorem FtI.n {V W : DM} (h : FtI V W) : W 0 0 2 = V 0 0 2 := h.1 1 0 6 (by omega) (LC.a (by omega) (by omega))
theorem FtI.lf {V W U : DM} {row : Int} (h : FtI V W) (hU : LfI W row U) : FtI V U := by
  have h4 : ∀ (k : Nat) (r i : Int), k ≠ 4 → U k r i = W k r i := fun k r i hk => hU.1 k r i (by omega)
  exact ⟨fun k r i hk hl => by rw [mv_c2 h4 r i hk]; exact h.1 k r i hk hl, fun k r i hk => by rw [h4 k r i (by omega)]; exact h.2.1 k r i hk, fun j a b => by rw [h4 30 0 j (by omega)]; exact h.2.2 j a b⟩
theorem FtI.k {V W U : DM} (h : FtI V W) (hE : EQ 0 0 (mv W) (mv U)) (hK : K3 W U) : FtI V U :=
  ⟨h.1.tr hE.e2, fun k r i hk => (hK.p3 k r i hk).trans (h.2.1 k r i hk), fun j a b => (hK 30 0 j (by omega)).trans (h.2.2 j a b)⟩
def BestR (p : (Int → Int) → Int) (N row A P : Int) : Prop := ∃ R, InN N R ∧ rk R N.toNat = A ∧ p R = P ∧ A < row ∧ ∀ g, InN N g → rk g N.toNat < row → p g ≤ P ∧ (p g = P → A ≤ rk g N.toNat)
theorem BestR.up {p : (Int → Int) → Int} {N row A P : Int} {g0 : Int → Int} (hp : ∀ g h, Ag N g h → p g = p h) (h0 : 0 ≤ row) (hg : InN N g0) (hr : rk g0 N.toNat = row) (h : 0 < row → BestR p N row A P) :
    ((row = 0 ∨ P < p g0) → BestR p N (row + 1) row (p g0)) ∧ (0 < row → ¬ P < p g0 → BestR p N (row + 1) A P) := by
  constructor
  · intro hc
    refine ⟨g0, hg, hr, rfl, by omega, fun g hi hl => ?_⟩
    by_cases e : rk g N.toNat = row
    · rw [hp g g0 (rk_inj hi hg (e.trans hr.symm))]
      exact ⟨Int.le_refl _, fun _ => by omega⟩
    · have hn := rk_r N.toNat (g := g) (fun j a b => hi j a (by omega))
      obtain ⟨R, r1, r2, r3, r5, r4⟩ := h (by omega)
      have := r4 g hi (by omega)
      rcases hc with hc | hc
      · omega
      · exact ⟨by omega, fun _ => by omega⟩
  · intro hc hx
    obtain ⟨R, r1, r2, r3, r5, r4⟩ := h hc
    refine ⟨R, r1, r2, r3, by omega, fun g hi hl => ?_⟩
    by_cases e : rk g N.toNat = row
    · rw [hp g g0 (rk_inj hi hg (e.trans hr.symm))]
      have hn := rk_r N.toNat (g := g) (fun j a b => hi j a (by omega))
      refine ⟨by omega, fun _ => ?_⟩
      omega
    · exact r4 g hi (by omega)
theorem BestR.fet {p : (Int → Int) → Int} {N T A P : Int} (n0 : 0 ≤ N) (hT : T = 10 ^ N.toNat) (h : BestR p N T A P) : ∃ R, InN N R ∧ rk R N.toNat = A ∧ FetR p N P R := by
  obtain ⟨R, r1, r2, r3, r5, r4⟩ := h
  have en : ((N.toNat : Nat) : Int) = N := by omega
  refine ⟨R, r1, r2, ⟨r1, r3⟩, fun g hg => ?_⟩
  have hn := rk_r N.toNat (g := g) (by rw [en]; exact hg)
  have k := r4 g hg (by omega)
  refine ⟨k.1, fun e l => ?_⟩
  have := rk_l N.toNat (by rw [en]; exact hg) (by rw [en]; exact r1) (by rw [en]; exact l)
  have := k.2 e
  omega
theorem pD_ag {D : DM} (g h : Int → Int) (a : Ag (D 1 0 6) g h) : pD D g = pD D h := by
  unfold pD
  rw [vF_ag a]
