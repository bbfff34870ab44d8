/-! THE ROWS OF FISH, gone through with leaps -/
def InN (N : Int) (g : Int → Int) : Prop := ∀ j, 0 ≤ j → j < N → 0 ≤ g j ∧ g j ≤ 9
def Ag (t : Int) (g h : Int → Int) : Prop := ∀ j, 0 ≤ j → j < t → g j = h j
def Lx (N : Int) (g h : Int → Int) : Prop := ∃ u, 0 ≤ u ∧ u < N ∧ Ag u g h ∧ g u < h u
/-- more of sorts of which one is left -/
def Rp (lf : (Int → Int) → Int → Int) (N : Int) (v g : Int → Int) : Prop := ∀ j, 0 ≤ j → j < N → v j ≤ g j ∧ (v j < g j → 0 < lf v j)
def Cov (p : (Int → Int) → Int) (N P : Int) (R g : Int → Int) : Prop := p g ≤ P ∧ (p g = P → ¬ Lx N g R)
def FetR (p : (Int → Int) → Int) (N P : Int) (R : Int → Int) : Prop := (InN N R ∧ p R = P) ∧ ∀ g, InN N g → Cov p N P R g
theorem Ag.wk {t u : Int} {g h : Int → Int} (a : Ag t g h) (hu : u ≤ t) : Ag u g h := fun j j0 j1 => a j j0 (by omega)
theorem Lx.tr {N : Int} {a b c : Int → Int} (h1 : Lx N a b) (h2 : Lx N b c) : Lx N a c := by
  obtain ⟨u, u0, u1, ua, ul⟩ := h1
  obtain ⟨w, w0, w1, wa, wl⟩ := h2
  rcases Int.lt_or_le u w with h | h
  · exact ⟨u, u0, u1, fun j a b => (ua j a b).trans (wa j a (by omega)), by have := wa u u0 h; omega⟩
  · refine ⟨w, w0, w1, fun j a b => (ua j a (by omega)).trans (wa j a b), ?_⟩
    rcases Int.lt_or_le w u with q | q
    · have := ua w w0 q; omega
    · have e : w = u := by omega
      subst e; omega
/-- below at every place, so not behind -/
theorem Lx.le {N : Int} {a b c : Int → Int} (hl : ∀ j, 0 ≤ j → j < N → a j ≤ b j) (h : Lx N b c) : Lx N a c := by
  obtain ⟨u, u0, u1, ua, ul⟩ := h
  have key : ∀ n : Nat, (n : Int) ≤ u → Ag n a c ∨ Lx N a c := by
    intro n
    induction n with
    | zero => intro _; exact Or.inl (fun j a b => by omega)
    | succ n ih =>
      intro hn
      rcases ih (by omega) with q | q
      · have e := hl n (by omega) (by omega)
        have e2 := ua n (by omega) (by omega)
        by_cases e3 : a n = c n
        · refine Or.inl (fun j a b => ?_)
          by_cases hj : j = n
          · rw [hj]; exact e3
          · exact q j a (by omega)
        · exact Or.inr ⟨n, by omega, by omega, q, by omega⟩
      · exact Or.inr q
  rcases key u.toNat (by omega) with q | q
  · rw [show ((u.toNat : Nat) : Int) = u by omega] at q
    have := hl u u0 u1
    exact ⟨u, u0, u1, q, by omega⟩
  · exact q
theorem Lx.ir {N : Int} {a b : Int → Int} (hl : ∀ j, 0 ≤ j → j < N → a j ≤ b j) : ¬ Lx N b a := fun h => by
  obtain ⟨u, u0, u1, ua, ul⟩ := h
  have := hl u u0 u1
  omega
theorem Lx.tri (N : Int) (a b : Int → Int) : Lx N a b ∨ Lx N b a ∨ Ag N a b := by
  have key : ∀ n : Nat, (n : Int) ≤ N → Lx N a b ∨ Lx N b a ∨ Ag n a b := by
    intro n
    induction n with
    | zero => intro _; exact Or.inr (Or.inr (fun j a b => by omega))
    | succ n ih =>
      intro hn
      rcases ih (by omega) with q | q | q
      · exact Or.inl q
      · exact Or.inr (Or.inl q)
      · rcases Int.lt_trichotomy (a n) (b n) with e | e | e
        · exact Or.inl ⟨n, by omega, by omega, q, e⟩
        · refine Or.inr (Or.inr (fun j a b => ?_))
          by_cases hj : j = n
          · rw [hj]; exact e
          · exact q j a (by omega)
        · exact Or.inr (Or.inl ⟨n, by omega, by omega, fun j a b => (q j a b).symm, e⟩)
  rcases Int.lt_or_le N 0 with h | h
  · exact Or.inr (Or.inr (fun j a b => by omega))
  · have k := key N.toNat (by omega)
    rw [show ((N.toNat : Nat) : Int) = N by omega] at k
    exact k
theorem FetR.u {p : (Int → Int) → Int} {N P P2 : Int} {R R2 : Int → Int} (h : FetR p N P R) (h2 : FetR p N P2 R2) : P = P2 ∧ Ag N R R2 := by
  have a := h.2 R2 h2.1.1
  have b := h2.2 R h.1.1
  have e : P = P2 := by have := a.1; have := b.1; have := h.1.2; have := h2.1.2; omega
  refine ⟨e, ?_⟩
  rcases Lx.tri N R R2 with q | q | q
  · exact absurd q (b.2 (by have := h.1.2; omega))
  · exact absurd q (a.2 (by have := h2.1.2; omega))
  · exact q
def rk (g : Int → Int) : Nat → Int
  | 0 => 0
  | n + 1 => 10 * rk g n + g n
theorem rk_e {g h : Int → Int} : ∀ n : Nat, Ag n g h → rk g n = rk h n
  | 0, _ => rfl
  | n + 1, a => by rw [rk, rk, rk_e n (a.wk (by omega)), a n (by omega) (by omega)]
theorem rk_r {g : Int → Int} : ∀ n : Nat, InN n g → 0 ≤ rk g n ∧ rk g n < 10 ^ n
  | 0, _ => by simp [rk]
  | n + 1, a => by
    have b := rk_r n (fun j c d => a j c (by omega))
    have c := a n (by omega) (by omega)
    rw [rk, Int.pow_succ]
    omega
theorem rk_l {g h : Int → Int} : ∀ n : Nat, InN n g → InN n h → Lx n g h → rk g n < rk h n
  | 0, _, _, l => by obtain ⟨u, a, b, -⟩ := l; omega
  | n + 1, hg, hh, l => by
    obtain ⟨u, u0, u1, ua, ul⟩ := l
    have c := hg n (by omega) (by omega)
    have d := hh n (by omega) (by omega)
    rw [rk, rk]
    rcases Int.lt_or_le u n with q | q
    · have b := rk_l n (fun j c d => hg j c (by omega)) (fun j c d => hh j c (by omega)) ⟨u, u0, q, ua, ul⟩
      omega
    · have e : u = n := by omega
      subst e
      rw [rk_e n ua]
      omega
section ODO
variable {p : (Int → Int) → Int} {lf : (Int → Int) → Int → Int} {gn : Int → Int} {N : Int}
/-- a row raised as far as soup pays -/
def rz (lf : (Int → Int) → Int → Int) (gn : Int → Int) (v : Int → Int) (j : Int) : Int := if lf v j ≠ 0 ∧ 0 < gn j then 9 else v j
def MoreP (p : (Int → Int) → Int) (lf : (Int → Int) → Int → Int) (gn : Int → Int) (N : Int) : Prop :=
  (∀ v g, InN N v → InN N g → Rp lf N v g → p g = p v + sumI (fun j => gn j * (g j - v j)) N) ∧ ∀ v j, InN N v → 0 ≤ j → j < N → 0 ≤ lf v j
def brg (p : (Int → Int) → Int) (lf : (Int → Int) → Int → Int) (gn : Int → Int) (N : Int) (v : Int → Int) : Int := p v + sumI (fun j => gn j * (rz lf gn v j - v j)) N
theorem rz_in {v : Int → Int} (hv : InN N v) : InN N (rz lf gn v) := fun j a b => by
  unfold rz
  split
  · omega
  · exact hv j a b
theorem rz_rp (hM : MoreP p lf gn N) {v : Int → Int} (hv : InN N v) : Rp lf N v (rz lf gn v) := fun j a b => by
  have c := hv j a b
  have d := hM.2 v j hv a b
  unfold rz
  split
  · next h => exact ⟨c.2, fun _ => by omega⟩
  · exact ⟨Int.le_refl _, fun h => by omega⟩
theorem sumI_le {f g : Int → Int} {n : Int} (h : ∀ j, 0 ≤ j → j < n → f j ≤ g j) : sumI f n ≤ sumI g n ∧ (sumI f n = sumI g n → ∀ j, 0 ≤ j → j < n → f j = g j) := by
  have k : ∀ m : Nat, (m : Int) ≤ n → sumN f m ≤ sumN g m ∧ (sumN f m = sumN g m → ∀ j, 0 ≤ j → j < (m : Int) → f j = g j) := by
    intro m
    induction m with
    | zero => intro _; exact ⟨Int.le_refl _, fun _ j a b => by omega⟩
    | succ m ih =>
      intro hm
      have a := ih (by omega)
      have b := h m (by omega) (by omega)
      rw [sumN, sumN]
      refine ⟨by omega, fun e j j0 j1 => ?_⟩
      by_cases hj : j = m
      · rw [hj]; omega
      · exact a.2 (by omega) j j0 (by omega)
  rcases Int.lt_or_le n 0 with q | q
  · refine ⟨?_, fun _ j a b => by omega⟩
    unfold sumI
    rw [show n.toNat = 0 by omega]
    exact Int.le_refl _
  · have k2 := k n.toNat (by omega)
    rw [show ((n.toNat : Nat) : Int) = n by omega] at k2
    exact k2
theorem brg_top (hM : MoreP p lf gn N) {v g : Int → Int} (hv : InN N v) (hg : InN N g) (h : Rp lf N v g) : p g ≤ brg p lf gn N v ∧ (p g = brg p lf gn N v → ∀ j, 0 ≤ j → j < N → rz lf gn v j ≤ g j) := by
  have e := hM.1 v g hv hg h
  have k := sumI_le (f := fun j => gn j * (g j - v j)) (g := fun j => gn j * (rz lf gn v j - v j)) (n := N) (fun j a b => by
    have c := h j a b
    have d := hg j a b
    have z := hM.2 v j hv a b
    show gn j * (g j - v j) ≤ gn j * (rz lf gn v j - v j)
    unfold rz
    split
    · next q => exact Int.mul_le_mul_of_nonneg_left (by omega) (by omega)
    · next q =>
      rw [Int.sub_self, Int.mul_zero]
      by_cases q2 : v j < g j
      · have q3 := c.2 q2
        have q4 : gn j ≤ 0 := by omega
        exact Int.mul_nonpos_of_nonpos_of_nonneg q4 (by omega)
      · rw [show g j - v j = 0 by omega, Int.mul_zero]
        exact Int.le_refl _)
  unfold brg
  refine ⟨by omega, fun q j a b => ?_⟩
  have k2 := k.2 (by omega) j a b
  have c := h j a b
  have d := hg j a b
  have q2 : gn j * (g j - v j) = gn j * (rz lf gn v j - v j) := k2
  unfold rz at q2 ⊢
  split
  · next q => rw [if_pos q] at q2; have := Int.eq_of_mul_eq_mul_left (by omega) q2; omega
  · exact c.1
/-- the best so far -/
def Bst (p : (Int → Int) → Int) (N P : Int) (R : Int → Int) : Prop := P = -1000 ∨ (InN N R ∧ p R = P)
/-- what weighing a row leaves -/
def WgR (p : (Int → Int) → Int) (lf : (Int → Int) → Int → Int) (gn : Int → Int) (N P : Int) (R v : Int → Int) (P2 : Int) (R2 : Int → Int) : Prop :=
  ((P < brg p lf gn N v ∨ (brg p lf gn N v = P ∧ Lx N (rz lf gn v) R)) ∧ P2 = brg p lf gn N v ∧ Ag N R2 (rz lf gn v)) ∨ (¬ (P < brg p lf gn N v ∨ (brg p lf gn N v = P ∧ Lx N (rz lf gn v) R)) ∧ P2 = P ∧ Ag N R2 R)
theorem Lx.c {a b c : Int → Int} (h : Ag N b c) : Lx N a b ↔ Lx N a c := by
  constructor
  · rintro ⟨u, u0, u1, ua, ul⟩
    exact ⟨u, u0, u1, fun j x y => (ua j x y).trans (h j x (by omega)), by have := h u u0 u1; omega⟩
  · rintro ⟨u, u0, u1, ua, ul⟩
    exact ⟨u, u0, u1, fun j x y => (ua j x y).trans (h j x (by omega)).symm, by have := h u u0 u1; omega⟩
theorem WgR.old {P P2 : Int} {R v R2 g : Int → Int} (w : WgR p lf gn N P R v P2 R2) (h : Cov p N P R g) : Cov p N P2 R2 g := by
  rcases w with ⟨a, rfl, c⟩ | ⟨a, rfl, c⟩
  · rcases a with a | ⟨a, b⟩
    · exact ⟨by have := h.1; omega, fun e => by have := h.1; omega⟩
    · exact ⟨by have := h.1; omega, fun e l => h.2 (by omega) (((Lx.c c).mp l).tr b)⟩
  · exact ⟨h.1, fun e l => h.2 e ((Lx.c c).mp l)⟩
theorem WgR.new {P P2 : Int} {R v R2 g : Int → Int} (hM : MoreP p lf gn N) (hv : InN N v) (hg : InN N g) (w : WgR p lf gn N P R v P2 R2) (h : Rp lf N v g) : Cov p N P2 R2 g := by
  have t := brg_top hM hv hg h
  rcases w with ⟨a, rfl, c⟩ | ⟨a, rfl, c⟩
  · exact ⟨t.1, fun e l => Lx.ir (t.2 e) ((Lx.c c).mp l)⟩
  · have t1 := t.1
    have a1 : ¬ (P2 < brg p lf gn N v) := fun q => a (Or.inl q)
    refine ⟨by omega, fun e l => ?_⟩
    have e2 : brg p lf gn N v = P2 := by omega
    exact a (Or.inr ⟨e2, Lx.le (t.2 (by omega)) ((Lx.c c).mp l)⟩)
end ODO
section OD2
variable {p : (Int → Int) → Int} {lf : (Int → Int) → Int → Int} {gn : Int → Int} {N : Int}
/-- at a row not yet weighed -/
def OdI (p : (Int → Int) → Int) (lf : (Int → Int) → Int → Int) (N : Int) (n : Int) (f r : Int → Int) (P : Int) (R : Int → Int) : Prop :=
  InN N f ∧ (n ≤ rk f N.toNat) ∧ ∃ Vis : (Int → Int) → Prop,
    (∀ v, Vis v → InN N v ∧ Lx N v f ∧ ∀ g, InN N g → Rp lf N v g → Cov p N P R g) ∧
    (∀ v, Vis v → ∀ j, 0 ≤ j → j < N → Ag (j + 1) v f → lf v j = 0 → r j = 1) ∧
    ∀ t g, t ≤ N → InN N g → Ag t g f → Lx N g f → ∃ v, Vis v ∧ Ag t v f ∧ Rp lf N v g
/-- after weighing it -/
def OdJ (p : (Int → Int) → Int) (lf : (Int → Int) → Int → Int) (N : Int) (n : Int) (f r : Int → Int) (P : Int) (R : Int → Int) : Prop :=
  InN N f ∧ (n ≤ rk f N.toNat) ∧ ∃ Vis : (Int → Int) → Prop,
    (∀ v, Vis v → InN N v ∧ (Lx N v f ∨ Ag N v f) ∧ ∀ g, InN N g → Rp lf N v g → Cov p N P R g) ∧
    (∀ v, Vis v → ∀ j, 0 ≤ j → j < N → Ag (j + 1) v f → lf v j = 0 → r j = 1) ∧
    ∀ t g, t ≤ N → InN N g → Ag t g f → (Lx N g f ∨ Ag N g f) → ∃ v, Vis v ∧ Ag t v f ∧ Rp lf N v g
theorem OdI.wg {n P P2 : Int} {f r r2 R R2 : Int → Int} (hM : MoreP p lf gn N) (h : OdI p lf N n f r P R) (w : WgR p lf gn N P R f P2 R2) (hr : ∀ j, 0 ≤ j → j < N → r2 j = if lf f j = 0 then 1 else r j) : OdJ p lf N n f r2 P2 R2 := by
  obtain ⟨hf, hn, Vis, v1, v2, v3⟩ := h
  refine ⟨hf, hn, fun v => Vis v ∨ v = f, ?_, ?_, ?_⟩
  · rintro v (hv | rfl)
    · exact ⟨(v1 v hv).1, Or.inl (v1 v hv).2.1, fun g hg hp => w.old ((v1 v hv).2.2 g hg hp)⟩
    · exact ⟨hf, Or.inr (fun _ _ _ => rfl), fun g hg hp => w.new hM hf hg hp⟩
  · rintro v (hv | rfl) j a b c d
    · rw [hr j a b, v2 v hv j a b c d]
      split <;> rfl
    · rw [hr j a b, if_pos d]
  · intro t g ht hg ha hl
    rcases hl with hl | hl
    · obtain ⟨v, q1, q2, q3⟩ := v3 t g ht hg ha hl
      exact ⟨v, Or.inl q1, q2, q3⟩
    · exact ⟨f, Or.inr rfl, fun _ _ _ => rfl, fun j a b => by have := hl j a b; exact ⟨by omega, fun h => by omega⟩⟩
/-- where the next row is raised: s; none: -1 -/
def NxS (N s : Int) (f r : Int → Int) : Prop := (-1 ≤ s ∧ s < N) ∧ (∀ j, s < j → j < N → ¬ (r j = 1 ∧ f j < 9)) ∧ (0 ≤ s → r s = 1 ∧ f s < 9)
def nxF (f : Int → Int) (s j : Int) : Int := if j < s then f j else if j = s then f j + 1 else 0
def nxR (r : Int → Int) (s j : Int) : Int := if j < s then r j else 0
theorem OdJ.all {n P s : Int} {f r R : Int → Int} (hM : MoreP p lf gn N) (h : OdJ p lf N n f r P R) (hs : NxS N s f r) :
    ∃ Vis : (Int → Int) → Prop, (∀ v, Vis v → InN N v ∧ (Lx N v f ∨ Ag N v f) ∧ ∀ g, InN N g → Rp lf N v g → Cov p N P R g) ∧
    (∀ v, Vis v → ∀ j, 0 ≤ j → j < N → Ag (j + 1) v f → lf v j = 0 → r j = 1) ∧
    (∀ t g, t ≤ N → InN N g → Ag t g f → (Lx N g f ∨ Ag N g f) → ∃ v, Vis v ∧ Ag t v f ∧ Rp lf N v g) ∧
    ∀ g, InN N g → Ag (s + 1) g f → ∃ v, Vis v ∧ Ag (s + 1) v f ∧ Rp lf N v g := by
  obtain ⟨hf, hn, Vis, v1, v2, v3⟩ := h
  refine ⟨Vis, v1, v2, v3, ?_⟩
  have key : ∀ m : Nat, s + 1 ≤ N - m → ∀ g, InN N g → Ag (N - m) g f → ∃ v, Vis v ∧ Ag (N - m) v f ∧ Rp lf N v g := by
    intro m
    induction m with
    | zero =>
      intro _ g hg ha
      exact v3 _ g (by omega) hg ha (Or.inr (ha.wk (by omega)))
    | succ m ih =>
      intro hm g hg ha
      have ih := ih (by omega)
      generalize ht : N - ((m + 1 : Nat) : Int) = t at hm ha
      rw [show N - (m : Int) = t + 1 by omega] at ih
      have hs1 := hs.1
      have hgt := hg t (by omega) (by omega)
      have hft := hf t (by omega) (by omega)
      rcases Int.lt_trichotomy (g t) (f t) with e | e | e
      · exact v3 t g (by omega) hg ha (Or.inl ⟨t, by omega, by omega, ha, e⟩)
      · obtain ⟨v, a, b, c⟩ := ih g hg (fun j x y => by
          by_cases hj : j = t
          · rw [hj]; exact e
          · exact ha j x (by omega))
        exact ⟨v, a, b.wk (by omega), c⟩
      · have hr : r t ≠ 1 := fun q => hs.2.1 t (by omega) (by omega) ⟨q, by omega⟩
        obtain ⟨v, a, b, c⟩ := ih (fun j => if j = t then f t else g j) (fun j x y => by
          show 0 ≤ (if j = t then f t else g j) ∧ (if j = t then f t else g j) ≤ 9
          split
          · exact hft
          · exact hg j x y) (fun j x y => by
          show (if j = t then f t else g j) = f j
          split
          · next q => rw [q]
          · exact ha j x (by omega))
        refine ⟨v, a, b.wk (by omega), fun j x y => ?_⟩
        have cj : v j ≤ (if j = t then f t else g j) ∧ (v j < (if j = t then f t else g j) → 0 < lf v j) := c j x y
        by_cases hj : j = t
        · subst hj
          have bj := b j x (by omega)
          have hz := v2 v a j x y b
          have hz0 := hM.2 v j (v1 v a).1 x y
          exact ⟨by omega, fun _ => by
            rcases Int.lt_or_le 0 (lf v j) with q | q
            · exact q
            · exact absurd (hz (by omega)) hr⟩
        · rw [if_neg hj] at cj
          exact cj
  have k := key (N - (s + 1)).toNat (by have := hs.1; omega)
  rw [show N - (((N - (s + 1)).toNat : Nat) : Int) = s + 1 by have := hs.1; omega] at k
  exact k
theorem OdJ.nx {n P s : Int} {f r R : Int → Int} (hM : MoreP p lf gn N) (h : OdJ p lf N n f r P R) (hs : NxS N s f r) (s0 : 0 ≤ s) : OdI p lf N (n + 1) (nxF f s) (nxR r s) P R := by
  obtain ⟨Vis, v1, v2, v3, v4⟩ := h.all hM hs
  obtain ⟨hf, hn, -⟩ := h
  have hs1 := hs.1
  have hss := hs.2.2 s0
  have f2l : ∀ j, j < s → nxF f s j = f j := fun j h => by unfold nxF; rw [if_pos h]
  have f2s : nxF f s s = f s + 1 := by unfold nxF; rw [if_neg (by omega), if_pos rfl]
  have f2r : ∀ j, s < j → nxF f s j = 0 := fun j h => by unfold nxF; rw [if_neg (by omega), if_neg (by omega)]
  have hf2 : InN N (nxF f s) := fun j a b => by
    have c := hf j a b
    rcases Int.lt_trichotomy j s with e | e | e
    · rw [f2l j e]; exact c
    · rw [e, f2s]
      rw [e] at c
      omega
    · rw [f2r j e]; omega
  have hlt : Lx N f (nxF f s) := ⟨s, s0, hs1.2, fun j a b => (f2l j b).symm, by omega⟩
  refine ⟨hf2, ?_, Vis, fun v hv => ?_, fun v hv j a b c d => ?_, fun t g ht hg ha hl => ?_⟩
  · have e : ((N.toNat : Nat) : Int) = N := by omega
    have := rk_l N.toNat (g := f) (h := nxF f s) (by rw [e]; exact hf) (by rw [e]; exact hf2) (by rw [e]; exact hlt)
    omega
  · have q := v1 v hv
    refine ⟨q.1, ?_, q.2.2⟩
    rcases q.2.1 with q | q
    · exact q.tr hlt
    · exact ⟨s, s0, hs1.2, fun j a b => by rw [f2l j b]; exact q j a (by omega), by have := q s s0 hs1.2; omega⟩
  · rcases Int.lt_or_le j s with e | e
    · unfold nxR
      rw [if_pos e]
      exact v2 v hv j a b (fun i x y => by rw [c i x y, f2l i (by omega)]) d
    · have cs := c s s0 (by omega)
      rcases (v1 v hv).2.1 with q | q
      · obtain ⟨u, u0, u1, ua, ul⟩ := q
        rcases Int.lt_trichotomy u s with e | e | e
        · have cu := c u u0 (by omega)
          rw [f2l u e] at cu
          omega
        · rw [e] at ul
          omega
        · have := ua s s0 e
          omega
      · have := q s s0 hs1.2
        omega
  · obtain ⟨u, u0, u1, ua, ul⟩ := hl
    rcases Int.lt_trichotomy u s with e | e | e
    · rw [f2l u e] at ul
      have ht2 : t ≤ u := by
        rcases Int.lt_or_le u t with q | q
        · have := ha u u0 q
          rw [f2l u e] at this
          omega
        · exact q
      have uf : Ag u g f := fun j a b => by rw [ua j a b, f2l j (by omega)]
      obtain ⟨v, a, b, c⟩ := v3 t g ht hg (uf.wk ht2) (Or.inl ⟨u, u0, u1, uf, ul⟩)
      exact ⟨v, a, fun j x y => by rw [b j x y, f2l j (by omega)], c⟩
    · subst e
      have ht2 : t ≤ u := by
        rcases Int.lt_or_le u t with q | q
        · have := ha u u0 q
          omega
        · exact q
      have uf : Ag u g f := fun j a b => by rw [ua j a b, f2l j (by omega)]
      rcases Int.lt_or_le (g u) (f u) with q | q
      · obtain ⟨v, a, b, c⟩ := v3 t g ht hg (uf.wk ht2) (Or.inl ⟨u, u0, u1, uf, q⟩)
        exact ⟨v, a, fun j x y => by rw [b j x y, f2l j (by omega)], c⟩
      · obtain ⟨v, a, b, c⟩ := v4 g hg (fun j x y => by
          by_cases hj : j = u
          · rw [hj]; omega
          · exact uf j x (by omega))
        exact ⟨v, a, fun j x y => by rw [b j x (by omega), f2l j (by omega)], c⟩
    · have := hg u u0 u1
      rw [f2r u e] at ul
      omega
theorem OdJ.fin {n P s : Int} {f r R : Int → Int} (hM : MoreP p lf gn N) (h : OdJ p lf N n f r P R) (hs : NxS N s f r) (s0 : ¬ 0 ≤ s) {g : Int → Int} (hg : InN N g) : Cov p N P R g := by
  obtain ⟨Vis, v1, v2, v3, v4⟩ := h.all hM hs
  obtain ⟨v, a, b, c⟩ := v4 g hg (fun j x y => by omega)
  exact (v1 v a).2.2 g hg c
theorem OdI.z (R : Int → Int) (P : Int) {f r : Int → Int} (hf : ∀ j, 0 ≤ j → j < N → f j = 0) : OdI p lf N 0 f r P R := by
  have hi : InN N f := fun j a b => by have := hf j a b; omega
  refine ⟨hi, ?_, fun _ => False, fun _ h => h.elim, fun _ h => h.elim, fun t g ht hg ha hl => ?_⟩
  · rcases Int.lt_or_le N 0 with q | q
    · rw [show N.toNat = 0 by omega]
      exact Int.le_refl _
    · exact (rk_r N.toNat (by rw [show ((N.toNat : Nat) : Int) = N by omega]; exact hi)).1
  · obtain ⟨u, u0, u1, ua, ul⟩ := hl
    have a := hg u u0 u1
    have b := hf u u0 u1
    omega
theorem OdI.n {n P : Int} {f r R : Int → Int} (h : OdI p lf N n f r P R) (N4 : N ≤ 4) : n < 10000 := by
  have hn := h.2.1
  rcases Int.lt_or_le N 0 with q | q
  · rw [show N.toNat = 0 by omega] at hn
    have e : rk f 0 = 0 := rfl
    omega
  · have k := (rk_r N.toNat (g := f) (by rw [show ((N.toNat : Nat) : Int) = N by omega]; exact h.1)).2
    have hN : N.toNat = 0 ∨ N.toNat = 1 ∨ N.toNat = 2 ∨ N.toNat = 3 ∨ N.toNat = 4 := by omega
    rcases hN with e | e | e | e | e <;> rw [e] at k hn <;> simp at k <;> omega
end OD2
