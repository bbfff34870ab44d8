/-! THE ROWS OF FISH, gone through with leaps -/
def InN (N : Int) (g : Int → Int) : Prop := ∀ j, 0 ≤ j → j < N → 0 ≤ g j ∧ g j ≤ 9
def Ag (t : Int) (g h : Int → Int) : Prop := ∀ j, 0 ≤ j → j < t → g j = h j
def Lx (N : Int) (g h : Int → Int) : Prop := ∃ u, 0 ≤ u ∧ u < N ∧ Ag u g h ∧ g u < h u
/-- more of sorts of which one is left -/
def Rp (lf : (Int → Int) → Int → Int) (N : Int) (v g : Int → Int) : Prop := ∀ j, 0 ≤ j → j < N → v j ≤ g j ∧ (v j < g j → 0 < lf v j)
def Cov (p : (Int → Int) → Int) (N P : Int) (R g : Int → Int) : Prop := p g ≤ P ∧ (p g = P → ¬ Lx N g R)
def FetR (p : (Int → Int) → Int) (N P : Int) (R : Int → Int) : Prop := (InN N R ∧ p R = P) ∧ ∀ g, InN N g → Cov p N P R g
theorem Ag.wk {t u : Int} {g h : Int → Int} (a : Ag t g h) (hu : u ≤ t) : Ag u g h := fun j j0 j1 => a j j0 (by omega)
theorem Lx.tr {N : Int} {a b c : Int → Int} (h1 : Lx N a b) (h2 : Lx N b c) : Lx N a c := by
  obtain ⟨u, u0, u1, ua, ul⟩ := h1
  obtain ⟨w, w0, w1, wa, wl⟩ := h2
  rcases Int.lt_or_le u w with h | h
  · exact ⟨u, u0, u1, fun j a b => (ua j a b).trans (wa j a (by omega)), by have := wa u u0 h; omega⟩
  · refine ⟨w, w0, w1, fun j a b => (ua j a (by omega)).trans (wa j a b), ?_⟩
    rcases Int.lt_or_le w u with q | q
    · have := ua w w0 q; omega
    · have e : w = u := by omega
      subst e; omega
/-- below at every place, so not behind -/
theorem Lx.le {N : Int} {a b c : Int → Int} (hl : ∀ j, 0 ≤ j → j < N → a j ≤ b j) (h : Lx N b c) : Lx N a c := by
  obtain ⟨u, u0, u1, ua, ul⟩ := h
  have key : ∀ n : Nat, (n : Int) ≤ u → Ag n a c ∨ Lx N a c := by
    intro n
    induction n with
    | zero => intro _; exact Or.inl (fun j a b => by omega)
    | succ n ih =>
      intro hn
      rcases ih (by omega) with q | q
      · have e := hl n (by omega) (by omega)
        have e2 := ua n (by omega) (by omega)
        by_cases e3 : a n = c n
        · refine Or.inl (fun j a b => ?_)
          by_cases hj : j = n
          · rw [hj]; exact e3
          · exact q j a (by omega)
        · exact Or.inr ⟨n, by omega, by omega, q, by omega⟩
      · exact Or.inr q
  rcases key u.toNat (by omega) with q | q
  · rw [show ((u.toNat : Nat) : Int) = u by omega] at q
    have := hl u u0 u1
    exact ⟨u, u0, u1, q, by omega⟩
  · exact q
theorem Lx.ir {N : Int} {a b : Int → Int} (hl : ∀ j, 0 ≤ j → j < N → a j ≤ b j) : ¬ Lx N b a := fun h => by
  obtain ⟨u, u0, u1, ua, ul⟩ := h
  have := hl u u0 u1
  omega
theorem Lx.tri (N : Int) (a b : Int → Int) : Lx N a b ∨ Lx N b a ∨ Ag N a b := by
  have key : ∀ n : Nat, (n : Int) ≤ N → Lx N a b ∨ Lx N b a ∨ Ag n a b := by
    intro n
    induction n with
    | zero => intro _; exact Or.inr (Or.inr (fun j a b => by omega))
    | succ n ih =>
      intro hn
      rcases ih (by omega) with q | q | q
      · exact Or.inl q
      · exact Or.inr (Or.inl q)
      · rcases Int.lt_trichotomy (a n) (b n) with e | e | e
        · exact Or.inl ⟨n, by omega, by omega, q, e⟩
        · refine Or.inr (Or.inr (fun j a b => ?_))
          by_cases hj : j = n
          · rw [hj]; exact e
          · exact q j a (by omega)
        · exact Or.inr (Or.inl ⟨n, by omega, by omega, fun j a b => (q j a b).symm, e⟩)
  rcases Int.lt_or_le N 0 with h | h
  · exact Or.inr (Or.inr (fun j a b => by omega))
  · have k := key N.toNat (by omega)
    rw [show ((N.toNat : Nat) : Int) = N by omega] at k
    exact k
theorem FetR.u {p : (Int → Int) → Int} {N P P2 : Int} {R R2 : Int → Int} (h : FetR p N P R) (h2 : FetR p N P2 R2) : P = P2 ∧ Ag N R R2 := by
  have a := h.2 R2 h2.1.1
  have b := h2.2 R h.1.1
  have e : P = P2 := by have := a.1; have := b.1; have := h.1.2; have := h2.1.2; omega
  refine ⟨e, ?_⟩
  rcases Lx.tri N R R2 with q | q | q
  · exact absurd q (b.2 (by have := h.1.2; omega))
  · exact absurd q (a.2 (by have := h2.1.2; omega))
  · exact q
def rk (g : Int → Int) : Nat → Int
  | 0 => 0
  | n + 1 => 10 * rk g n + g n
theorem rk_e {g h : Int → Int} : ∀ n : Nat, Ag n g h → rk g n = rk h n
  | 0, _ => rfl
  | n + 1, a => by rw [rk, rk, rk_e n (a.wk (by omega)), a n (by omega) (by omega)]
theorem rk_r {g : Int → Int} : ∀ n : Nat, InN n g → 0 ≤ rk g n ∧ rk g n < 10 ^ n
  | 0, _ => by simp [rk]
  | n + 1, a => by
    have b := rk_r n (fun j c d => a j c (by omega))
    have c := a n (by omega) (by omega)
    rw [rk, Int.pow_succ]
    omega
theorem rk_l {g h : Int → Int} : ∀ n : Nat, InN n g → InN n h → Lx n g h → rk g n < rk h n
  | 0, _, _, l => by obtain ⟨u, a, b, -⟩ := l; omega
  | n + 1, hg, hh, l => by
    obtain ⟨u, u0, u1, ua, ul⟩ := l
    have c := hg n (by omega) (by omega)
    have d := hh n (by omega) (by omega)
    rw [rk, rk]
    rcases Int.lt_or_le u n with q | q
    · have b := rk_l n (fun j c d => hg j c (by omega)) (fun j c d => hh j c (by omega)) ⟨u, u0, q, ua, ul⟩
      omega
    · have e : u = n := by omega
      subst e
      rw [rk_e n ua]
      omega
section ODO
variable {p : (Int → Int) → Int} {lf : (Int → Int) → Int → Int} {gn : Int → Int} {N : Int}
/-- a row raised as far as soup pays -/
def rz (lf : (Int → Int) → Int → Int) (gn : Int → Int) (v : Int → Int) (j : Int) : Int := if lf v j ≠ 0 ∧ 0 < gn j then 9 else v j
def MoreP (p : (Int → Int) → Int) (lf : (Int → Int) → Int → Int) (gn : Int → Int) (N : Int) : Prop :=
  (∀ v g, InN N v → InN N g → Rp lf N v g → p g = p v + sumI (fun j => gn j * (g j - v j)) N) ∧ ∀ v j, InN N v → 0 ≤ j → j < N → 0 ≤ lf v j
def brg (p : (Int → Int) → Int) (lf : (Int → Int) → Int → Int) (gn : Int → Int) (N : Int) (v : Int → Int) : Int := p v + sumI (fun j => gn j * (rz lf gn v j - v j)) N
theorem rz_in {v : Int → Int} (hv : InN N v) : InN N (rz lf gn v) := fun j a b => by
  unfold rz
  split
  · omega
  · exact hv j a b
theorem rz_rp (hM : MoreP p lf gn N) {v : Int → Int} (hv : InN N v) : Rp lf N v (rz lf gn v) := fun j a b => by
  have c := hv j a b
  have d := hM.2 v j hv a b
  unfold rz
  split
  · next h => exact ⟨c.2, fun _ => by omega⟩
  · exact ⟨Int.le_refl _, fun h => by omega⟩
theorem sumI_le {f g : Int → Int} {n : Int} (h : ∀ j, 0 ≤ j → j < n → f j ≤ g j) : sumI f n ≤ sumI g n ∧ (sumI f n = sumI g n → ∀ j, 0 ≤ j → j < n → f j = g j) := by
  have k : ∀ m : Nat, (m : Int) ≤ n → sumN f m ≤ sumN g m ∧ (sumN f m = sumN g m → ∀ j, 0 ≤ j → j < (m : Int) → f j = g j) := by
    intro m
    induction m with
    | zero => intro _; exact ⟨Int.le_refl _, fun _ j a b => by omega⟩
    | succ m ih =>
      intro hm
      have a := ih (by omega)
      have b := h m (by omega) (by omega)
      rw [sumN, sumN]
      refine ⟨by omega, fun e j j0 j1 => ?_⟩
      by_cases hj : j = m
      · rw [hj]; omega
      · exact a.2 (by omega) j j0 (by omega)
  rcases Int.lt_or_le n 0 with q | q
  · refine ⟨?_, fun _ j a b => by omega⟩
    unfold sumI
    rw [show n.toNat = 0 by omega]
    exact Int.le_refl _
  · have k2 := k n.toNat (by omega)
    rw [show ((n.toNat : Nat) : Int) = n by omega] at k2
    exact k2
theorem brg_top (hM : MoreP p lf gn N) {v g : Int → Int} (hv : InN N v) (hg : InN N g) (h : Rp lf N v g) : p g ≤ brg p lf gn N v ∧ (p g = brg p lf gn N v → ∀ j, 0 ≤ j → j < N → rz lf gn v j ≤ g j) := by
  have e := hM.1 v g hv hg h
  have k := sumI_le (f := fun j => gn j * (g j - v j)) (g := fun j => gn j * (rz lf gn v j - v j)) (n := N) (fun j a b => by
    have c := h j a b
    have d := hg j a b
    have z := hM.2 v j hv a b
    show gn j * (g j - v j) ≤ gn j * (rz lf gn v j - v j)
    unfold rz
    split
    · next q => exact Int.mul_le_mul_of_nonneg_left (by omega) (by omega)
    · next q =>
      rw [Int.sub_self, Int.mul_zero]
      by_cases q2 : v j < g j
      · have q3 := c.2 q2
        have q4 : gn j ≤ 0 := by omega
        exact Int.mul_nonpos_of_nonpos_of_nonneg q4 (by omega)
      · rw [show g j - v j = 0 by omega, Int.mul_zero]
        exact Int.le_refl _)
  unfold brg
  refine ⟨by omega, fun q j a b => ?_⟩
  have k2 := k.2 (by omega) j a b
  have c := h j a b
  have d := hg j a b
  have q2 : gn j * (g j - v j) = gn j * (rz lf gn v j - v j) := k2
  unfold rz at q2 ⊢
  split
  · next q => rw [if_pos q] at q2; have := Int.eq_of_mul_eq_mul_left (by omega) q2; omega
  · exact c.1
/-- the best so far -/
def Bst (p : (Int → Int) → Int) (N P : Int) (R : Int → Int) : Prop := P = -2147483648 ∨ (InN N R ∧ p R = P)
/-- what weighing a row leaves -/
def WgR (p : (Int → Int) → Int) (lf : (Int → Int) → Int → Int) (gn : Int → Int) (N P : Int) (R v : Int → Int) (P2 : Int) (R2 : Int → Int) : Prop :=
  ((P < brg p lf gn N v ∨ (brg p lf gn N v = P ∧ Lx N (rz lf gn v) R)) ∧ P2 = brg p lf gn N v ∧ Ag N R2 (rz lf gn v)) ∨ (¬ (P < brg p lf gn N v ∨ (brg p lf gn N v = P ∧ Lx N (rz lf gn v) R)) ∧ P2 = P ∧ Ag N R2 R)
theorem Lx.c {a b c : Int → Int} (h : Ag N b c) : Lx N a b ↔ Lx N a c := by
  constructor
  · rintro ⟨u, u0, u1, ua, ul⟩
    exact ⟨u, u0, u1, fun j x y => (ua j x y).trans (h j x (by omega)), by have := h u u0 u1; omega⟩
  · rintro ⟨u, u0, u1, ua, ul⟩
    exact ⟨u, u0, u1, fun j x y => (ua j x y).trans (h j x (by omega)).symm, by have := h u u0 u1; omega⟩
theorem WgR.old {P P2 : Int} {R v R2 g : Int → Int} (w : WgR p lf gn N P R v P2 R2) (h : Cov p N P R g) : Cov p N P2 R2 g := by
  rcases w with ⟨a, rfl, c⟩ | ⟨a, rfl, c⟩
  · rcases a with a | ⟨a, b⟩
    · exact ⟨by have := h.1; omega, fun e => by have := h.1; omega⟩
    · exact ⟨by have := h.1; omega, fun e l => h.2 (by omega) (((Lx.c c).mp l).tr b)⟩
  · exact ⟨h.1, fun e l => h.2 e ((Lx.c c).mp l)⟩
theorem WgR.new {P P2 : Int} {R v R2 g : Int → Int} (hM : MoreP p lf gn N) (hv : InN N v) (hg : InN N g) (w : WgR p lf gn N P R v P2 R2) (h : Rp lf N v g) : Cov p N P2 R2 g := by
  have t := brg_top hM hv hg h
  rcases w with ⟨a, rfl, c⟩ | ⟨a, rfl, c⟩
  · exact ⟨t.1, fun e l => Lx.ir (t.2 e) ((Lx.c c).mp l)⟩
  · have t1 := t.1
    have a1 : ¬ (P2 < brg p lf gn N v) := fun q => a (Or.inl q)
    refine ⟨by omega, fun e l => ?_⟩
    have e2 : brg p lf gn N v = P2 := by omega
    exact a (Or.inr ⟨e2, Lx.le (t.2 (by omega)) ((Lx.c c).mp l)⟩)
end ODO
