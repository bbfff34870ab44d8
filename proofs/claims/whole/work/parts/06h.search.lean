theorem vup_2 (V : DM) (k : Nat) (r i v w : Int) : vup (vup V k r i v) k r i w = vup V k r i w := by
  funext k' r' j
  by_cases e : k' = k ∧ r' = r ∧ j = i
  · obtain ⟨rfl, rfl, rfl⟩ := e
    rw [vup_v, vup_v]
  · rw [vup_n _ e, vup_n _ e, vup_n _ e]
theorem vup_x (V : DM) {k k2 : Nat} {r r2 i i2 : Int} (v w : Int) (h : ¬ (k = k2 ∧ r = r2 ∧ i = i2)) : vup (vup V k r i v) k2 r2 i2 w = vup (vup V k2 r2 i2 w) k r i v := by
  funext k' r' j
  by_cases e : k' = k2 ∧ r' = r2 ∧ j = i2
  · obtain ⟨rfl, rfl, rfl⟩ := e
    rw [vup_v, vup_n _ (by omega), vup_v]
  · rw [vup_n _ e]
    by_cases e2 : k' = k ∧ r' = r ∧ j = i
    · obtain ⟨rfl, rfl, rfl⟩ := e2
      rw [vup_v, vup_v]
    · rw [vup_n _ e2, vup_n _ e2, vup_n _ e]
theorem vup_id (V : DM) (k : Nat) (r i : Int) : vup V k r i (V k r i) = V := by
  funext k' r' j
  by_cases e : k' = k ∧ r' = r ∧ j = i
  · obtain ⟨rfl, rfl, rfl⟩ := e
    rw [vup_v]
  · rw [vup_n _ e]
/-- the search's fields: profit, hour, amount -/
def sF (Z : DM) (P H A : Int) : DM := vup (vup (vup Z 1 0 4 P) 1 0 5 H) 1 0 6 A
theorem sF_P (Z : DM) (P H A v : Int) : vup (sF Z P H A) 1 0 4 v = sF Z v H A := by
  unfold sF
  rw [vup_x (vup (vup Z 1 0 4 P) 1 0 5 H) A v (by omega), vup_x (vup Z 1 0 4 P) H v (by omega), vup_2]
theorem sF_H (Z : DM) (P H A v : Int) : vup (sF Z P H A) 1 0 5 v = sF Z P v A := by
  unfold sF
  rw [vup_x (vup (vup Z 1 0 4 P) 1 0 5 H) A v (by omega), vup_2]
theorem sF_A (Z : DM) (P H A v : Int) : vup (sF Z P H A) 1 0 6 v = sF Z P H v := by
  unfold sF
  rw [vup_2]
theorem sF_p (Z : DM) (P H A : Int) : sF Z P H A 1 0 4 = P := by unfold sF; rw [vup_n _ (by omega), vup_n _ (by omega), vup_v]
theorem sF_h (Z : DM) (P H A : Int) : sF Z P H A 1 0 5 = H := by unfold sF; rw [vup_n _ (by omega), vup_v]
theorem sF_a (Z : DM) (P H A : Int) : sF Z P H A 1 0 6 = A := by unfold sF; rw [vup_v]
theorem sF_id (Z : DM) : sF Z (Z 1 0 4) (Z 1 0 5) (Z 1 0 6) = Z := by
  unfold sF
  rw [vup_id, vup_id, vup_id]
theorem sF_n (Z : DM) (P H A : Int) {k : Nat} {r i : Int} (h : k ≠ 1) : sF Z P H A k r i = Z k r i := by
  unfold sF
  rw [vup_n _ (by omega), vup_n _ (by omega), vup_n _ (by omega)]
theorem cookV_e {V W : DM} {g z : Int} (f : EQ g z V W) (s t c : Int) : EQ g z (cookV V s t c) (cookV W s t c) := ((f.up _ (by omega)).up _ (by omega)).up _ (by omega)
theorem cookV_at (V : DM) (s t c : Int) {k : Nat} {r i : Int} (h : k ≠ 0) : cookV V s t c k r i = V k r i := by
  unfold cookV
  rw [vup_k _ _ _ _ h, vup_k _ _ _ _ h, vup_k _ _ _ _ h]
theorem cookV_0 (V : DM) (s t c : Int) : cookV V s t c 0 0 10 = s ∧ cookV V s t c 0 0 11 = t ∧ cookV V s t c 0 0 12 = c := by
  unfold cookV
  exact ⟨by rw [vup_n _ (by omega), vup_n _ (by omega), vup_v], by rw [vup_n _ (by omega), vup_v], by rw [vup_v]⟩
theorem cookV_ok {V : DM} (hI : DayOk V) (s t c : Int) : DayOk (cookV V s t c) := by
  unfold DayOk at *
  simp only [cookV_at _ _ _ _ (show (1 : Nat) ≠ 0 by omega), cookV_at _ _ _ _ (show (2 : Nat) ≠ 0 by omega), cookV_at _ _ _ _ (show (3 : Nat) ≠ 0 by omega), cookV_at _ _ _ _ (show (4 : Nat) ≠ 0 by omega), cookV_at _ _ _ _ (show (5 : Nat) ≠ 0 by omega), cookV_at _ _ _ _ (show (7 : Nat) ≠ 0 by omega), cookV_at _ _ _ _ (show (8 : Nat) ≠ 0 by omega), cookV_at _ _ _ _ (show (9 : Nat) ≠ 0 by omega), cookV_at _ _ _ _ (show (10 : Nat) ≠ 0 by omega), cookV_at _ _ _ _ (show (11 : Nat) ≠ 0 by omega), cookV_at _ _ _ _ (show (12 : Nat) ≠ 0 by omega)]
  exact hI
theorem fish_ok {V : DM} (hI : DayOk V) {s v : Int} (v0 : 0 ≤ v) (v1 : v ≤ 9) : DayOk (vup V 2 0 s v) := by
  have e : ∀ (k : Nat) (r i : Int), k ≠ 2 → vup V 2 0 s v k r i = V k r i := fun k r i h => by rw [vup_k _ _ _ _ h]
  obtain ⟨h1, h2, h3, h4, h5, h6, h7, h8⟩ := hI
  refine ⟨h1, h2, h3, h4, fun q q0 q1 => ?_, h6, h7, h8⟩
  have h := h5 q q0 q1
  refine ⟨?_, h.2⟩
  by_cases hq : q = s
  · rw [hq, vup_v]; exact ⟨v0, v1⟩
  · rw [vup_j _ _ _ _ hq]; exact h.1
theorem price_ok {V : DM} (hI : DayOk V) {s t v : Int} (v0 : 0 ≤ v) (v1 : v ≤ 30) : DayOk (vup V 7 s t v) := by
  obtain ⟨h1, h2, h3, h4, h5, h6, h7, h8⟩ := hI
  refine ⟨h1, h2, h3, h4, h5, fun q u q0 q1 u0 u1 => ?_, h7, h8⟩
  by_cases hq : q = s ∧ u = t
  · rw [hq.1, hq.2, vup_v]; exact ⟨v0, v1⟩
  · rw [vup_n _ (by omega)]; exact h6 q u q0 q1 u0 u1
set_option maxRecDepth 100000 in
set_option maxHeartbeats 400000 in
theorem c_X4_profitWithout {l : Launch} {S : SW} {M : Mem} {s : Int}  (hs : InR s) (hI : DayOk (M 0)) (hk : M 0 0 0 11 = -9) (s0 : 0 ≤ s) (s1 : s < M 0 1 0 6) : PM l S yX4_profitWithout cX4_profitWithout 3 (some .int) 5 120 [rv S 2 1 0, rv S 0 0 0, iv s] (M) (rIQ (fun x N => x = prf (vup (M 0) 2 0 s 0) ∧ ∃ W, N = mst M 1 W)) := by
  refine PM.of (own := RX4) (by decide) rfl [some (rv S 2 1 0), some (rv S 0 0 0), some (iv s)] rfl rfl (Nat.le_of_ble_eq_true rfl) (fun X hXl C R => ?_)
  subst hXl
  obtain ⟨i1, i2, i3, i4, i5, i6, i7, i8⟩ := id hI
  refine pw_aload_n C dX4_profitWithout_0 rfl ?_
  refine gf_4_12 C dX4_profitWithout_1 ?_
  refine pw_aload_n C dX4_profitWithout_4 rfl ?_
  refine pw_V 1 ?_
  refine pw_cVQV C [_] mi_X1_become mv_X1_become ml_4_29 (oD_0 (by decide)) rfl (c_X1_become (by have h8 := hI.2.2.2.2.2.2.2; exact h8)) (by decide) rfl (Nat.le_of_ble_eq_true rfl) dX4_profitWithout_5 ?_
  rintro N9 ⟨W, rfl, hW⟩
  have hE := hW.eq hI
  refine pw_aload_n C dX4_profitWithout_8 rfl ?_
  refine gf_4_12 C dX4_profitWithout_9 ?_
  refine gf_4_33 1 (by decide) C dX4_profitWithout_12 ?_
  refine gf_4_37 1 (by decide) C dX4_profitWithout_15 ?_
  refine pw_iload_n C dX4_profitWithout_18 rfl ?_
  refine pw_iconst C dX4_profitWithout_19 ?_
  refine pw_iastV C (aD_2 (by decide)) (by omega) (by omega) (by decide) (by omega) dX4_profitWithout_20 ?_
  refine pw_aload_n C dX4_profitWithout_21 rfl ?_
  refine gf_4_12 C dX4_profitWithout_22 ?_
  refine pw_cVV C [] mi_X1_goThrough mv_X1_goThrough ml_4_42 (oD_0 (by decide)) rfl (c_X1_goThrough (by decide) (fish_ok (hI.eq hE) (by omega) (by omega)) (Or.inl hW.2.2.2.2.2)) (by decide) rfl (Nat.le_of_ble_eq_true rfl) dX4_profitWithout_25 ?_
  refine pw_aload_n C dX4_profitWithout_28 rfl ?_
  refine gf_4_12 C dX4_profitWithout_29 ?_
  refine pw_cVI C [] mi_X1_profit mv_X1_profit ml_4_45 (oD_0 (by decide)) rfl (c_X1_profit (by decide) (by rw [(Fr.rf _).gtF 1 0 6 (by omega) (by omega), vup_k _ _ _ _ (by omega), hE.n]; omega) (by rw [(Fr.rf _).gtF 1 0 6 (by omega) (by omega), vup_k _ _ _ _ (by omega), hE.n]; omega)) (by decide) rfl (Nat.le_of_ble_eq_true rfl) dX4_profitWithout_32 ?_
  refine pw_iret C R dX4_profitWithout_35 ⟨_, rfl, ?_, _, rfl⟩
  exact prf_e (g := 0) (fish_ok hI (by omega) (by omega)) (hE.up _ (by omega)) (Or.inl ⟨hk, hW.2.2.2.2.2⟩)
set_option maxRecDepth 100000 in
set_option maxHeartbeats 400000 in
theorem c_X4_profitWithCook {l : Launch} {S : SW} {M : Mem} {s t c : Int}  (hs : InR s) (ht : InR t) (hc : InR c) (hI : DayOk (M 0)) (hk : M 0 0 0 11 = -9) (s0 : 0 ≤ s) (s1 : s < M 0 1 0 6) : PM l S yX4_profitWithCook cX4_profitWithCook 5 (some .int) 5 120 [rv S 2 1 0, rv S 0 0 0, iv s, iv t, iv c] (M) (rIQ (fun x N => x = prf (cookV (M 0) s t c) ∧ ∃ W, N = mst M 1 W)) := by
  refine PM.of (own := RX4) (by decide) rfl [some (rv S 2 1 0), some (rv S 0 0 0), some (iv s), some (iv t), some (iv c)] rfl rfl (Nat.le_of_ble_eq_true rfl) (fun X hXl C R => ?_)
  subst hXl
  obtain ⟨i1, i2, i3, i4, i5, i6, i7, i8⟩ := id hI
  refine pw_aload_n C dX4_profitWithCook_0 rfl ?_
  refine gf_4_12 C dX4_profitWithCook_1 ?_
  refine pw_aload_n C dX4_profitWithCook_4 rfl ?_
  refine pw_V 1 ?_
  refine pw_cVQV C [_] mi_X1_become mv_X1_become ml_4_29 (oD_0 (by decide)) rfl (c_X1_become (by have h8 := hI.2.2.2.2.2.2.2; exact h8)) (by decide) rfl (Nat.le_of_ble_eq_true rfl) dX4_profitWithCook_5 ?_
  rintro N9 ⟨W, rfl, hW⟩
  have hE := hW.eq hI
  refine pw_aload_n C dX4_profitWithCook_8 rfl ?_
  refine gf_4_12 C dX4_profitWithCook_9 ?_
  refine pw_iload_n C dX4_profitWithCook_12 rfl ?_
  refine pw_iload_n C dX4_profitWithCook_13 rfl ?_
  refine pw_iload C dX4_profitWithCook_14 rfl ?_
  refine pw_cVV C [_, _, _] mi_X1_awaitCook mv_X1_awaitCook ml_4_49 (oD_0 (by decide)) rfl (c_X1_awaitCook (by decide) (by omega) (by omega) (by omega)) (by decide) rfl (Nat.le_of_ble_eq_true rfl) dX4_profitWithCook_16 ?_
  refine pw_aload_n C dX4_profitWithCook_19 rfl ?_
  refine gf_4_12 C dX4_profitWithCook_20 ?_
  refine pw_cVV C [] mi_X1_goThrough mv_X1_goThrough ml_4_42 (oD_0 (by decide)) rfl (c_X1_goThrough (by decide) (cookV_ok (hI.eq hE) s t c) (Or.inr (by rw [(cookV_0 W s t c).1]; omega))) (by decide) rfl (Nat.le_of_ble_eq_true rfl) dX4_profitWithCook_23 ?_
  refine pw_aload_n C dX4_profitWithCook_26 rfl ?_
  refine gf_4_12 C dX4_profitWithCook_27 ?_
  refine pw_cVI C [] mi_X1_profit mv_X1_profit ml_4_45 (oD_0 (by decide)) rfl (c_X1_profit (by decide) (by rw [(Fr.rf _).gtF 1 0 6 (by omega) (by omega), cookV_at _ _ _ _ (by omega), hE.n]; omega) (by rw [(Fr.rf _).gtF 1 0 6 (by omega) (by omega), cookV_at _ _ _ _ (by omega), hE.n]; omega)) (by decide) rfl (Nat.le_of_ble_eq_true rfl) dX4_profitWithCook_30 ?_
  refine pw_iret C R dX4_profitWithCook_33 ⟨_, rfl, ?_, _, rfl⟩
  exact prf_e (g := 0) (cookV_ok hI s t c) (cookV_e hE s t c) (Or.inr ⟨by rw [(cookV_0 W s t c).1, (cookV_0 (M 0) s t c).1], by rw [(cookV_0 W s t c).2.1, (cookV_0 (M 0) s t c).2.1], by rw [(cookV_0 W s t c).2.2, (cookV_0 (M 0) s t c).2.2], by rw [(cookV_0 (M 0) s t c).1]; omega, by rw [(cookV_0 (M 0) s t c).1, cookV_at _ _ _ _ (by omega)]; omega⟩)
