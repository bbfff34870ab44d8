/-! BOUNDS: what a day can bring -/
set_option maxHeartbeats 400000 in
theorem CopyD.eq {U W : DM} (hI : DayOk U) (h : CopyD U W) : EQ 0 0 U W := by
  obtain ⟨i1, i2, i3, -⟩ := hI
  intro k r i hl
  rcases hl with q | q | q | q | q | q | q | q | q
  · obtain ⟨rfl, rfl, a, b⟩ := q; exact h.1 i a b
  · obtain ⟨a, b, rfl, c, d⟩ := q; exact h.2.1 k i a b c (by omega)
  · obtain ⟨rfl, a, b, c, d⟩ := q; exact h.2.2.1 r i a (by omega) c (by omega)
  · obtain ⟨rfl, rfl, rfl⟩ := q; exact h.2.2.2.1
  · obtain ⟨a, b, rfl, c, d⟩ := q; exact h.2.2.2.2.1 k i a b c (by omega)
  · omega
  · omega
  · omega
  · omega
set_option maxHeartbeats 400000 in
theorem gain_pos {V : DM} {x s t : Int} (h : 0 ≤ gain V x s t) : 0 < V 13 0 s := by
  unfold gain at h
  split at h
  · assumption
  · omega
set_option maxHeartbeats 400000 in
theorem pick_lies (V : DM) (x t n : Int) : ((pick V x t n).1 = -9 ∨ 0 < V 13 0 (pick V x t n).1) ∧ -1 ≤ (pick V x t n).2 := by
  refine iterI_inv (R := fun p : Int × Int => (p.1 = -9 ∨ 0 < V 13 0 p.1) ∧ -1 ≤ p.2) ⟨Or.inl rfl, by decide⟩ (fun j p j0 j1 hp => ?_)
  show (fun p : Int × Int => (p.1 = -9 ∨ 0 < V 13 0 p.1) ∧ -1 ≤ p.2) (if p.2 < gain V x j t then (j, gain V x j t) else p)
  split
  · next h => exact ⟨Or.inr (gain_pos (show 0 ≤ gain V x j t by omega)), by show -1 ≤ gain V x j t; omega⟩
  · exact hp
set_option maxHeartbeats 400000 in
theorem choice_lies {V : DM} {x t : Int} (h : choice V x t ≠ -9) : 0 < V 13 0 (choice V x t) := by
  revert h
  unfold choice
  split
  · intro h; exact absurd rfl h
  · split
    · next h => intro _; exact gain_pos h
    · split
      · intro h; exact absurd rfl h
      · intro h
        rcases (pick_lies V x t (V 1 0 6)).1 with q | q
        · exact absurd q h
        · exact q
/-- what was taken in is at most B, of each sort there lie 0 to 9 -/
def Bd (N B : Int) (V : DM) : Prop := (0 ≤ V 0 0 9 ∧ V 0 0 9 ≤ B) ∧ ∀ s, 0 ≤ s → s < N → 0 ≤ V 13 0 s ∧ V 13 0 s ≤ 9
set_option maxHeartbeats 400000 in
theorem Bd.wk {N B B2 : Int} {V : DM} (h : Bd N B V) (hB : B ≤ B2) : Bd N B2 V := ⟨⟨h.1.1, by have := h.1.2; omega⟩, h.2⟩
set_option maxHeartbeats 400000 in
theorem sell1_9 (V : DM) (x s t : Int) : sell1 V x s t 0 0 9 = w32 (V 0 0 9 + V 7 s t) := by
  unfold sell1 sell0
  simp only []
  rw [vup_k _ _ _ _ (by omega), vup_k _ _ _ _ (by omega), vup_k _ _ _ _ (by omega), vup_v, vup_k _ _ _ _ (by omega), gone1_at _ _ _ _ _ _ (by omega), vup_k _ _ _ _ (by omega)]
set_option maxHeartbeats 400000 in
theorem sell1_13 (V : DM) (x s t q : Int) : sell1 V x s t 13 0 q = if q = s then w32 (V 13 0 s - 1) else V 13 0 q := by
  unfold sell1 sell0
  simp only []
  rw [vup_k _ _ _ _ (by omega), vup_k _ _ _ _ (by omega), vup_k _ _ _ _ (by omega), vup_k _ _ _ _ (by omega), vup_k _ _ _ _ (by omega), gone1_at _ _ _ _ _ _ (by omega)]
  split
  · next h => rw [h, vup_v]
  · next h => rw [vup_j _ _ _ _ h]
set_option maxHeartbeats 400000 in
theorem Bd.visitB {N B : Int} {U V : DM} (hI : DayOk U) (hF : Fr U V) (hN : N = U 1 0 6) (h : Bd N B V) (hB : B ≤ 100000) {x t : Int} (x0 : 0 ≤ x) (x1 : x < U 8 0 4) (t0 : 0 ≤ t) (t1 : t < U 1 0 5) : Bd N (B + 30) (visit V x t) := by
  have hF1 : Fr U (vup V 19 0 x (w32 (V 19 0 x + 1))) := hF.up (by omega)
  generalize hV1 : vup V 19 0 x (w32 (V 19 0 x + 1)) = V1 at hF1
  have h1 : Bd N B V1 := by
    rw [← hV1]
    exact ⟨by rw [vup_k _ _ _ _ (by omega)]; exact h.1, fun s s0 s1 => by rw [vup_k _ _ _ _ (by omega)]; exact h.2 s s0 s1⟩
  have hI1 := hI.fr hF1
  have e8 : V1 8 0 4 = U 8 0 4 := hF1 8 0 4 (by omega) (by omega)
  have e5 : V1 1 0 5 = U 1 0 5 := hF1 1 0 5 (by omega) (by omega)
  have e6 : V1 1 0 6 = U 1 0 6 := hF1 1 0 6 (by omega) (by omega)
  unfold visit
  split
  · show Bd N (B + 30) (if _ then _ else _)
    rw [hV1]
    split
    · exact h1.wk (by omega)
    · next hne =>
      have hr := choice_r hI1 (t := t) x0 (show x < V1 8 0 4 by omega) t0 (by omega)
      have hl := choice_lies hne
      generalize choice V1 x t = c at hne hr hl
      have hp := hI1.2.2.2.2.2.1 c t (by omega) (by omega) t0 (by omega)
      have hc := h1.2 c (by omega) (by omega)
      refine ⟨?_, fun s s0 s1 => ?_⟩
      · rw [sell1_9, w32_i ⟨by have := h1.1; omega, by have := h1.1; omega⟩]
        have := h1.1
        omega
      · rw [sell1_13]
        split
        · rw [w32_i ⟨by omega, by omega⟩]; omega
        · exact h1.2 s s0 s1
  · exact h.wk (by omega)
/-- a cook who may be: none, or of a sort that is there, for 0 to 30 -/
def CookOk (V : DM) : Prop := V 0 0 11 = -9 ∨ ((0 ≤ V 0 0 10 ∧ V 0 0 10 < V 1 0 6) ∧ 0 ≤ V 0 0 12 ∧ V 0 0 12 ≤ 30)
set_option maxHeartbeats 400000 in
theorem Bd.cookB {N B : Int} {U V : DM} (hc : CookOk U) (hF : Fr U V) (hN : N = U 1 0 6) (h : Bd N B V) (hB : B ≤ 100000) {t : Int} (t0 : 0 ≤ t) : Bd N (B + 270) (cookAt V t) := by
  unfold cookAt
  split
  · next ht =>
    have e10 : V 0 0 10 = U 0 0 10 := hF 0 0 10 (by omega) (by omega)
    have e11 : V 0 0 11 = U 0 0 11 := hF 0 0 11 (by omega) (by omega)
    have e12 : V 0 0 12 = U 0 0 12 := hF 0 0 12 (by omega) (by omega)
    rcases hc with hc | hc
    · omega
    · have hl := h.2 (V 0 0 10) (by omega) (by omega)
      have m0 : 0 ≤ V 13 0 (V 0 0 10) * V 0 0 12 := Int.mul_nonneg hl.1 (by omega)
      have m1 : V 13 0 (V 0 0 10) * V 0 0 12 ≤ 9 * 30 := Int.mul_le_mul hl.2 (by omega) (by omega) (by omega)
      refine ⟨?_, fun s s0 s1 => ?_⟩
      · rw [vup_k _ _ _ _ (by omega), vup_v, w32_i ⟨by have := h.1; omega, by have := h.1; omega⟩]
        have := h.1
        omega
      · by_cases hs : s = V 0 0 10
        · rw [hs, vup_v]; omega
        · rw [vup_j _ _ _ _ hs, vup_k _ _ _ _ (by omega)]
          exact h.2 s s0 s1
  · exact h.wk (by omega)
set_option maxHeartbeats 400000 in
theorem Bd.hourB {N B : Int} {U V : DM} (hI : DayOk U) (hc : CookOk U) (hF : Fr U V) (hN : N = U 1 0 6) (h : Bd N B V) (hB : B ≤ 50000) {t : Int} (t0 : 0 ≤ t) (t1 : t < U 1 0 5) : Bd N (B + 570) (hourV V t) := by
  have e8 : V 8 0 4 = U 8 0 4 := hF 8 0 4 (by omega) (by omega)
  have h8 := hI.2.2.1
  have key : ∀ n : Nat, (n : Int) ≤ U 8 0 4 → Bd N (B + 270 + 30 * n) (iterN (fun x W => visit W x t) (cookAt V t) n) ∧ Fr U (iterN (fun x W => visit W x t) (cookAt V t) n) := by
    intro n
    induction n with
    | zero => intro _; exact ⟨(h.cookB hc hF hN (by omega) t0).wk (by omega), hF.cookAtF t⟩
    | succ n ih =>
      intro hn
      obtain ⟨a, b⟩ := ih (by omega)
      exact ⟨(Bd.visitB hI b hN a (by omega) (show (0 : Int) ≤ n by omega) (by omega) t0 t1).wk (by omega), b.visitF n t⟩
  have k := (key (U 8 0 4).toNat (by omega)).1
  unfold hourV iterI
  rw [e8]
  exact k.wk (by omega)
set_option maxHeartbeats 400000 in
theorem gt_Bd {V : DM} (hI : DayOk V) (hc : CookOk V) : Bd (V 1 0 6) 4560 (gt V) := by
  have h5 := hI.2.1
  obtain ⟨a, b, c, d⟩ := open_key hI
  have key : ∀ n : Nat, (n : Int) ≤ V 1 0 5 → Bd (V 1 0 6) (570 * n) (iterN (fun t W => hourV W t) (openV V) n) ∧ Fr V (iterN (fun t W => hourV W t) (openV V) n) := by
    intro n
    induction n with
    | zero =>
      intro _
      refine ⟨⟨?_, fun s s0 s1 => ?_⟩, a⟩
      · show 0 ≤ openV V 0 0 9 ∧ openV V 0 0 9 ≤ _
        rw [b]; omega
      · show 0 ≤ openV V 13 0 s ∧ openV V 13 0 s ≤ 9
        rw [(c s s0 s1).1]
        exact (hI.2.2.2.2.1 s s0 s1).1
    | succ n ih =>
      intro hn
      obtain ⟨p, q⟩ := ih (by omega)
      exact ⟨(Bd.hourB hI hc q rfl p (by omega) (show (0 : Int) ≤ n by omega) (by omega)).wk (by omega), q.hourVF n⟩
  have k := (key (V 1 0 5).toNat (by omega)).1
  unfold gt iterI
  exact k.wk (by omega)
set_option maxHeartbeats 400000 in
theorem sumN_r {f : Int → Int} {B : Int} : ∀ n : Nat, (∀ j : Nat, j < n → 0 ≤ f j ∧ f j ≤ B) → 0 ≤ sumN f n ∧ sumN f n ≤ B * n
  | 0, _ => by simp [sumN]
  | n + 1, h => by
    have a := sumN_r n (fun j hj => h j (by omega))
    have b := h n (by omega)
    rw [sumN, show B * ((n + 1 : Nat) : Int) = B * n + B by rw [Int.natCast_add, Int.mul_add]; simp]
    omega
set_option maxHeartbeats 400000 in
theorem sumI_r {f : Int → Int} {B n : Int} (n0 : 0 ≤ n) (h : ∀ j, 0 ≤ j → j < n → 0 ≤ f j ∧ f j ≤ B) : 0 ≤ sumI f n ∧ sumI f n ≤ B * n := by
  have k := sumN_r n.toNat (fun j hj => h j (by omega) (by omega))
  unfold sumI
  rw [show ((n.toNat : Nat) : Int) = n by omega] at k
  exact k
set_option maxHeartbeats 400000 in
theorem prof_r {V W : DM} (hI : DayOk V) (hF : Fr V W) (hB : Bd (V 1 0 6) 4560 W) : -324 ≤ profitV W ∧ profitV W ≤ 4884 := by
  have h6 := hI.1
  have h7 := hI.2.2.2.2.2.2.1
  have e6 : W 1 0 6 = V 1 0 6 := hF 1 0 6 (by omega) (by omega)
  have e7 : W 1 0 7 = V 1 0 7 := hF 1 0 7 (by omega) (by omega)
  have a := sumI_r (f := fun s => W 13 0 s) (B := 9) h6.1 (fun j j0 j1 => hB.2 j j0 j1)
  have b := sumI_r (f := fun s => W 2 0 s * W 3 0 s) (B := 81) h6.1 (fun j j0 j1 => by
    have h := hI.2.2.2.2.1 j j0 j1
    show 0 ≤ W 2 0 j * W 3 0 j ∧ W 2 0 j * W 3 0 j ≤ 81
    rw [hF 2 0 j (by omega) (by omega), hF 3 0 j (by omega) (by omega)]
    have m0 := Int.mul_nonneg h.1.1 h.2.1.1
    have m1 : V 2 0 j * V 3 0 j ≤ 9 * 9 := Int.mul_le_mul h.1.2 h.2.1.2 h.2.1.1 (by omega)
    omega)
  unfold profitV
  rw [e6, e7]
  generalize sumI (fun s => W 13 0 s) (V 1 0 6) = A at a
  generalize sumI (fun s => W 2 0 s * W 3 0 s) (V 1 0 6) = C at b
  have m0 : 0 ≤ V 1 0 7 * A := Int.mul_nonneg h7.1 a.1
  have m1 : V 1 0 7 * A ≤ 9 * 36 := Int.mul_le_mul h7.2 (by omega) a.1 (by omega)
  have := hB.1
  omega
/-- what the day brings -/
noncomputable def prf (V : DM) : Int := profitV (gt V)
set_option maxHeartbeats 400000 in
theorem prf_r {V : DM} (hI : DayOk V) (hc : CookOk V) : -324 ≤ prf V ∧ prf V ≤ 4884 := prof_r hI (Fr.rf V).gtF (gt_Bd hI hc)
set_option maxHeartbeats 400000 in
theorem prf_e {V W : DM} {g : Int} (hI : DayOk V) (f : EQ g 0 V W) (hc : SameCook V W) : prf W = prf V := (EQ.gtE hI f hc).profitE
