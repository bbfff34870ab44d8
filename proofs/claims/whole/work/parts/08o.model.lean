theorem mv_c {V W : DM} (h : ∀ (k : Nat) (r i : Int), k ≤ 28 → W k r i = V k r i) : mv W = mv V := by
  funext k r i
  unfold mv
  split <;> simp [h]
def SwI (V : DM) (n : Int) (W : DM) : Prop := (∀ (k : Nat) (r i : Int), k ≠ 29 → W k r i = V k r i) ∧ ∀ j, 0 ≤ j → j < n → W 29 0 j = V 8 0 j
theorem SwI.s {V W : DM} {n : Int} (h : SwI V n W) : SwI V (n + 1) (vup W 29 0 n (V 8 0 n)) := by
  refine ⟨fun k r i hk => by rw [vup_k _ _ _ _ hk]; exact h.1 k r i hk, fun j a b => ?_⟩
  by_cases e : j = n
  · rw [e, vup_v]
  · rw [vup_j _ _ _ _ e]; exact h.2 j a (by omega)
def TkI (V W : DM) : Prop := EQ7 (mv V) (mv W) ∧ P3 V W ∧ ∀ j, 0 ≤ j → j < 32 → W 29 0 j = V 8 0 j
noncomputable def offM (V : DM) (f x j : Int) : Int := if j % 8 < f then V 8 0 j else if w32 (V 8 0 j - x) < 0 then 0 else w32 (V 8 0 j - x)
def SoI (V W : DM) (f x n : Int) (U : DM) : Prop := (∀ (k : Nat) (r i : Int), k ≠ 8 → U k r i = W k r i) ∧ ∀ j, 0 ≤ j → j < n → U 8 0 j = offM V f x j
theorem SoI.s {V W U : DM} {f x n v : Int} (h : SoI V W f x n U) (hv : v = offM V f x n) : SoI V W f x (n + 1) (vup U 8 0 n v) := by
  refine ⟨fun k r i hk => by rw [vup_k _ _ _ _ hk]; exact h.1 k r i hk, fun j a b => ?_⟩
  by_cases e : j = n
  · rw [e, vup_v, hv]
  · rw [vup_j _ _ _ _ e]; exact h.2 j a (by omega)
theorem mv_c7 {U W : DM} (h : ∀ (k : Nat) (r i : Int), k ≠ 8 → U k r i = W k r i) {k : Nat} (r i : Int) (hk : k ≠ 7) : mv U k r i = mv W k r i := by
  unfold mv
  split <;> simp_all
theorem SoI.e {V W U : DM} {f x : Int} (hI : DayOk (mv V)) (x0 : 0 ≤ x) (x1 : x ≤ 30) (hW : EQ7 (mv V) (mv W)) (h : SoI V W f x 32 U) : EQ 0 0 (offV (mv V) f x) (mv U) := by
  intro k r i hl
  rw [offV_n _ _ _ 0 5 (by omega), offV_n _ _ _ 0 6 (by omega), offV_n _ _ _ 0 4 (by omega)] at hl
  by_cases hk : k = 7
  · subst hk
    have q : 0 ≤ r ∧ r < mv V 1 0 6 ∧ 0 ≤ i ∧ i < mv V 1 0 5 := by rcases hl with q | q | q | q | q | q | q | q | q <;> omega
    have h4 := hI.1
    have h8 := hI.2.1
    have hp := hI.2.2.2.2.2.1 r i q.1 q.2.1 q.2.2.1 q.2.2.2
    have em := mv_7 V r (i := i) q.2.2.1 (by omega)
    rw [mv_7 U r q.2.2.1 (by omega), h.2 _ (by omega) (by omega), offV_7]
    unfold offM offp
    rw [em, show (8 * r + i) % 8 = i by omega]
    rw [em] at hp
    rw [w32_i ⟨by omega, by omega⟩]
    by_cases c : i < f
    · rw [if_pos c, if_pos c]
    · rw [if_neg c, if_neg c]
      split <;> split <;> omega
  · rw [mv_c7 h.1 r i hk, hW k r i hk hl, offV_n _ _ _ _ _ hk]
theorem EQ7.rs {V W : DM} (hI : DayOk (mv V)) (h : EQ7 (mv V) (mv W)) (hs : ∀ j, 0 ≤ j → j < 32 → W 8 0 j = V 8 0 j) : EQ 0 0 (mv V) (mv W) := by
  intro k r i hl
  by_cases hk : k = 7
  · subst hk
    have q : 0 ≤ r ∧ r < mv V 1 0 6 ∧ 0 ≤ i ∧ i < mv V 1 0 5 := by rcases hl with q | q | q | q | q | q | q | q | q <;> omega
    have h4 := hI.1
    have h8 := hI.2.1
    rw [mv_7 W r q.2.2.1 (by omega), mv_7 V r q.2.2.1 (by omega)]
    exact hs _ (by omega) (by omega)
  · exact h k r i hk hl
def RsI (V W : DM) (n : Int) (U : DM) : Prop := (∀ (k : Nat) (r i : Int), k ≠ 8 → U k r i = W k r i) ∧ ∀ j, 0 ≤ j → j < n → U 8 0 j = V 8 0 j
theorem RsI.s {V W U : DM} {n : Int} (h : RsI V W n U) : RsI V W (n + 1) (vup U 8 0 n (V 8 0 n)) := by
  refine ⟨fun k r i hk => by rw [vup_k _ _ _ _ hk]; exact h.1 k r i hk, fun j a b => ?_⟩
  by_cases e : j = n
  · rw [e, vup_v]
  · rw [vup_j _ _ _ _ e]; exact h.2 j a (by omega)
