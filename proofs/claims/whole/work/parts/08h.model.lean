set_option maxRecDepth 100000 in
set_option maxHeartbeats 400000 in
theorem L_X9_layAll {X : PX} {S : SW} {M : Mem} {V : DM}  (hI : DayOk (mv V)) (C : Cx X S RX9 cX9_layAll 0 0) (R : CR X S (rVQ (fun N => ∃ U, N = mst M 3 U ∧ LayR V (V 0 0 2) U)) none) :
    ∀ (n9 : Nat) (s : Int) (W : DM), (0 ≤ s) → (s ≤ V 0 0 2) → (LayR V s W) → V 0 0 2 - s < n9 → PW X S (mst M 3 W) 2 [some (rv S 3 0 0), some (iv s)] [] := by
  obtain ⟨i1, i2, i3, i4, i5, i6, i7, i8⟩ := id hI
  have e5 : mv V 1 0 5 = V 0 0 1 := rfl
  have e6 : mv V 1 0 6 = V 0 0 2 := rfl
  have e7 : mv V 1 0 7 = V 0 0 8 := rfl
  have e8 : mv V 1 0 8 = V 0 0 9 := rfl
  have e84 : mv V 8 0 4 = V 0 0 15 := rfl
  intro n9
  induction n9 with
  | zero => intro s W s0 s1 hW hn9; omega
  | succ n9 ih =>
    intro s W s0 s1 hW hn9
    have w2 : W 0 0 2 = V 0 0 2 := hW.1 1 0 6 (by omega) (by omega)
    refine pw_iload_n C dX9_layAll_2 rfl ?_
    refine pw_aload_n C dX9_layAll_3 rfl ?_
    refine gv_9_116 C dX9_layAll_4 (fun r4 => ?_)
    refine pw_icmp_ge (tgt := 28) C dX9_layAll_7 rfl (by omega) (by omega) (fun c7 => ?_) (fun c7 => ?_)
    · refine pw_vret C R dX9_layAll_28 ⟨rfl, _, rfl, ?_⟩
      rw [show V 0 0 2 = s by omega]
      exact hW
    · have w4 : W 4 0 s = V 4 0 s := hW.1 2 0 s (by omega) (by omega)
      have j5 : (0 ≤ V 4 0 s ∧ V 4 0 s ≤ 9) ∧ _ := i5 s s0 (by omega)
      refine pw_aload_n C dX9_layAll_10 rfl ?_
      refine gf_9_40 C dX9_layAll_11 ?_
      refine pw_iload_n C dX9_layAll_14 rfl ?_
      refine pw_aload_n C dX9_layAll_15 rfl ?_
      refine gf_9_7 C dX9_layAll_16 ?_
      refine pw_iload_n C dX9_layAll_19 rfl ?_
      refine pw_ialdV C aM_4 (by omega) (by omega) (by decide) dX9_layAll_20 (fun r20 => ?_)
      refine pw_iastV C aM_21 (by omega) (by omega) (by decide) (by omega) dX9_layAll_21 ?_
      refine pw_iinc_1 C dX9_layAll_22 (k := ?_)
      refine pw_goto (tgt := 2) C dX9_layAll_25 rfl ?_
      refine ih (s + 1) _ (by omega) (by omega) ?_ (by omega)
      rw [w4]
      exact hW.s
set_option maxRecDepth 100000 in
set_option maxHeartbeats 400000 in
theorem c_X9_layAll {l : Launch} {S : SW} {M : Mem} {V : DM}  (hI : DayOk (mv V)) : PM l S yX9_layAll cX9_layAll 2 none 0 0 [rv S 3 0 0] (mst M 3 V) (rVQ (fun N => ∃ U, N = mst M 3 U ∧ LayR V (V 0 0 2) U)) := by
  refine PM.of (own := RX9) (by decide) rfl [some (rv S 3 0 0), none] rfl rfl (Nat.le_of_ble_eq_true rfl) (fun X hXl C R => ?_)
  subst hXl
  obtain ⟨i1, i2, i3, i4, i5, i6, i7, i8⟩ := id hI
  have e5 : mv V 1 0 5 = V 0 0 1 := rfl
  have e6 : mv V 1 0 6 = V 0 0 2 := rfl
  have e7 : mv V 1 0 7 = V 0 0 8 := rfl
  have e8 : mv V 1 0 8 = V 0 0 9 := rfl
  have e84 : mv V 8 0 4 = V 0 0 15 := rfl
  refine pw_iconst C dX9_layAll_0 ?_
  refine pw_istore_1 C dX9_layAll_1 (k := ?_)
  exact L_X9_layAll (V := V) hI C R (V 0 0 2 + 1).toNat 0 V (by omega) (by omega) ⟨Fr.rf _, fun s s0 s1 => by omega, K3.rf _⟩ (by omega)
set_option maxRecDepth 100000 in
set_option maxHeartbeats 400000 in
theorem c_X9_sell {l : Launch} {S : SW} {M : Mem} {V : DM} {s t q : Int}  (hs : InR s) (ht : InR t) (hq : InR q) (s0 : 0 ≤ s) (s1 : s < 4) : PM l S yX9_sell cX9_sell 4 none 0 0 [rv S 3 0 0, iv s, iv t, iv q] (mst M 3 V) (rV (mst M 3 (sellM V s t q))) := by
  refine PM.of (own := RX9) (by decide) rfl [some (rv S 3 0 0), some (iv s), some (iv t), some (iv q)] rfl rfl (Nat.le_of_ble_eq_true rfl) (fun X hXl C R => ?_)
  subst hXl
  refine pw_aload_n C dX9_sell_0 rfl ?_
  refine gf_9_40 C dX9_sell_1 ?_
  refine pw_iload_n C dX9_sell_4 rfl ?_
  refine pw_dup2 C dX9_sell_5 rfl rfl ?_
  refine pw_ialdV C aM_21 (by omega) (by omega) (by decide) dX9_sell_6 (fun r6 => ?_)
  refine pw_iconst C dX9_sell_7 ?_
  refine pw_isub C dX9_sell_8 ?_
  refine pw_w ?_
  refine pw_iastV C aM_21 (by omega) (by omega) (by decide) (w32_R _) dX9_sell_9 ?_
  refine pw_aload_n C dX9_sell_10 rfl ?_
  refine pw_dup C dX9_sell_11 rfl ?_
  refine gv_9_207 C dX9_sell_12 (fun r12 => ?_)
  refine pw_iload_n C dX9_sell_15 rfl ?_
  refine pw_iadd C dX9_sell_16 ?_
  refine pw_w ?_
  refine pv_9_207 C (w32_R _) dX9_sell_17 ?_
  refine pw_aload_n C dX9_sell_20 rfl ?_
  refine gf_9_58 C dX9_sell_21 ?_
  refine pw_iload_n C dX9_sell_24 rfl ?_
  refine pw_dup2 C dX9_sell_25 rfl rfl ?_
  refine pw_ialdV C aM_28 (by omega) (by omega) (by decide) dX9_sell_26 (fun r26 => ?_)
  refine pw_iload_n C dX9_sell_27 rfl ?_
  refine pw_iadd C dX9_sell_28 ?_
  refine pw_w ?_
  refine pw_iastV C aM_28 (by omega) (by omega) (by decide) (w32_R _) dX9_sell_29 ?_
  refine pw_aload_n C dX9_sell_30 rfl ?_
  refine gf_9_55 C dX9_sell_31 ?_
  refine pw_iload_n C dX9_sell_34 rfl ?_
  refine pw_aload_n C dX9_sell_35 rfl ?_
  refine gf_9_40 C dX9_sell_36 ?_
  refine pw_iload_n C dX9_sell_39 rfl ?_
  refine pw_ialdV C aM_21 (by omega) (by omega) (by decide) dX9_sell_40 (fun r40 => ?_)
  rw [vup_k _ _ _ _ (show (21 : Nat) ≠ 28 by omega), vup_k _ _ _ _ (show (21 : Nat) ≠ 0 by omega), vup_v]
  have r9 := w32_R (V 21 0 s - 1)
  refine pw_if_ne (tgt := 48) C dX9_sell_41 rfl (by omega) (fun c41 => ?_) (fun c41 => ?_)
  · refine pw_aload_n C dX9_sell_48 rfl ?_
    refine gf_9_55 C dX9_sell_49 ?_
    refine pw_iload_n C dX9_sell_52 rfl ?_
    refine pw_ialdV C aM_27 (by omega) (by omega) (by decide) dX9_sell_53 (fun r53 => ?_)
    refine pw_iastV C aM_27 (by omega) (by omega) (by decide) (by omega) dX9_sell_54 ?_
    exact pw_vreti C R dX9_sell_55 (by unfold sellM; first | (rw [if_pos c41]; done) | (rw [if_pos c41]; rfl) | (rw [if_neg c41]; done) | (rw [if_neg c41]; rfl))
  · refine pw_iload_n C dX9_sell_44 rfl ?_
    refine pw_goto (tgt := 54) C dX9_sell_45 rfl ?_
    refine pw_iastV C aM_27 (by omega) (by omega) (by decide) (by omega) dX9_sell_54 ?_
    exact pw_vreti C R dX9_sell_55 (by unfold sellM; first | (rw [if_pos c41]; done) | (rw [if_pos c41]; rfl) | (rw [if_neg c41]; done) | (rw [if_neg c41]; rfl))
set_option maxRecDepth 100000 in
set_option maxHeartbeats 400000 in
theorem c_X9_comes {l : Launch} {S : SW} {M : Mem} {V : DM} {x t : Int}  (hx : InR x) (ht : InR t) (hI : DayOk (mv V)) (x0 : 0 ≤ x) (x1 : x < V 0 0 15) (t0 : 0 ≤ t) (t1 : t < V 0 0 1) : PM l S yX9_comes cX9_comes 4 none 5 121 [rv S 3 0 0, iv x, iv t] (mst M 3 V) (rVQ (fun N => ∃ U, N = mst M 3 U ∧ mv U = comeV (mv V) x t ∧ K3 V U)) := by
  refine PM.of (own := RX9) (by decide) rfl [some (rv S 3 0 0), some (iv x), some (iv t), none] rfl rfl (Nat.le_of_ble_eq_true rfl) (fun X hXl C R => ?_)
  subst hXl
  obtain ⟨i1, i2, i3, i4, i5, i6, i7, i8⟩ := id hI
  have e5 : mv V 1 0 5 = V 0 0 1 := rfl
  have e6 : mv V 1 0 6 = V 0 0 2 := rfl
  have e7 : mv V 1 0 7 = V 0 0 8 := rfl
  have e8 : mv V 1 0 8 = V 0 0 9 := rfl
  have e84 : mv V 8 0 4 = V 0 0 15 := rfl
  refine pw_aload_n C dX9_comes_0 rfl ?_
  refine gf_9_52 C dX9_comes_1 ?_
  refine pw_iload_n C dX9_comes_4 rfl ?_
  refine pw_dup2 C dX9_comes_5 rfl rfl ?_
  refine pw_ialdV C aM_26 (by omega) (by omega) (by decide) dX9_comes_6 (fun r6 => ?_)
  refine pw_iconst C dX9_comes_7 ?_
  refine pw_iadd C dX9_comes_8 ?_
  refine pw_w ?_
  refine pw_iastV C aM_26 (by omega) (by omega) (by decide) (w32_R _) dX9_comes_9 ?_
  obtain ⟨V1, hV1⟩ : ∃ V1, V1 = vup V 26 0 x (w32 (V 26 0 x + 1)) := ⟨_, rfl⟩
  rw [← hV1]
  have m1 : mv V1 = vup (mv V) 19 0 x (w32 (mv V 19 0 x + 1)) := by rw [hV1]; exact mvu_26 V x _
  have k1 : K3 V V1 := by rw [hV1]; exact (K3.rf V).up (by omega)
  have hF1 : Fr (mv V) (mv V1) := by rw [m1]; exact (Fr.rf _).up (by omega)
  have hI1 := hI.fr hF1
  have f15 : V1 0 0 15 = V 0 0 15 := by rw [hV1]; rfl
  have f1 : V1 0 0 1 = V 0 0 1 := by rw [hV1]; rfl
  have f2 : V1 0 0 2 = V 0 0 2 := by rw [hV1]; rfl
  refine pw_aload_n C dX9_comes_10 rfl ?_
  refine pw_iload_n C dX9_comes_11 rfl ?_
  refine pw_iload_n C dX9_comes_12 rfl ?_
  refine pw_cVI C [_, _] mi_X9_wanted mv_X9_wanted ml_9_210 oM_0 rfl (c_X9_wanted (by omega) (by omega) hI1 (by omega) (by omega) (by omega) (by omega)) (by decide) rfl (Nat.le_of_ble_eq_true rfl) dX9_comes_13 ?_
  have hc := choice_r hI1 (x := x) (t := t) x0 (by show x < V1 0 0 15; omega) t0 (by show t < V1 0 0 1; omega)
  obtain ⟨c, hcE⟩ : ∃ c, c = choice (mv V1) x t := ⟨_, rfl⟩
  rw [← hcE]
  rw [← hcE] at hc
  have hc : c = -9 ∨ (0 ≤ c ∧ c < V 0 0 2) := hc.imp_right (fun h => ⟨h.1, by have h2 : c < V1 0 0 2 := h.2; omega⟩)
  refine pw_istore_3 C dX9_comes_16 (k := ?_)
  refine pw_iload_n C dX9_comes_17 rfl ?_
  refine pw_if_lt (tgt := 59) C dX9_comes_18 rfl (by omega) (fun c18 => ?_) (fun c18 => ?_)
  · refine pw_vret C R dX9_comes_59 ⟨rfl, _, rfl, ?_, ?_⟩
    · unfold comeV
      rw [← m1, ← hcE]
      first
        | (rw [if_pos (by omega)]; done)
        | (rw [if_neg (by omega), mv_sellM, mvu_25, mvu_24, mvu_23, sell0_cm _ _ _ _ _ _ _ (by omega), sell0_cm _ _ _ _ _ _ _ (by omega), sell0_cm _ _ _ _ _ _ _ (by omega)]
           unfold sell1
           rw [mv_7 V1 c t0 (by omega)])
    · first
        | exact k1
        | exact (((k1.up (by omega)).up (by omega)).up (by omega)).tr (sellM_K _ _ _ _)
  · have hp : 0 ≤ V1 8 0 (8 * c + t) ∧ V1 8 0 (8 * c + t) ≤ 30 := by
      have h := hI1.2.2.2.2.2.1 c t (by omega) (by show c < V1 0 0 2; omega) t0 (by show t < V1 0 0 1; omega)
      rw [mv_7 V1 c t0 (by omega)] at h
      exact h
    refine pw_aload_n C dX9_comes_21 rfl ?_
    refine gf_9_43 C dX9_comes_22 ?_
    refine pw_iload_n C dX9_comes_25 rfl ?_
    refine pw_iload_n C dX9_comes_26 rfl ?_
    refine pw_iastV C aM_23 (by omega) (by omega) (by decide) (by omega) dX9_comes_27 ?_
    refine pw_aload_n C dX9_comes_28 rfl ?_
    refine gf_9_46 C dX9_comes_29 ?_
    refine pw_iload_n C dX9_comes_32 rfl ?_
    refine pw_iload_n C dX9_comes_33 rfl ?_
    refine pw_iastV C aM_24 (by omega) (by omega) (by decide) (by omega) dX9_comes_34 ?_
    refine pw_aload_n C dX9_comes_35 rfl ?_
    refine gf_9_49 C dX9_comes_36 ?_
    refine pw_iload_n C dX9_comes_39 rfl ?_
    refine pw_aload_n C dX9_comes_40 rfl ?_
    refine pw_iload_n C dX9_comes_41 rfl ?_
    refine pw_iload_n C dX9_comes_42 rfl ?_
    refine pw_cVI C [_, _] mi_X9_priceOf mv_X9_priceOf ml_9_180 oM_0 rfl (c_X9_priceOf (by omega) (by omega) (by omega) (by omega) (by omega) (by omega)) (by decide) rfl (Nat.le_of_ble_eq_true rfl) dX9_comes_43 ?_
    rw [vup_k _ _ _ _ (show (8 : Nat) ≠ 24 by omega), vup_k _ _ _ _ (show (8 : Nat) ≠ 23 by omega)]
    refine pw_iastV C aM_25 (by omega) (by omega) (by decide) (by omega) dX9_comes_46 ?_
    refine pw_aload_n C dX9_comes_47 rfl ?_
    refine pw_iload_n C dX9_comes_48 rfl ?_
    refine pw_iload_n C dX9_comes_49 rfl ?_
    refine pw_aload_n C dX9_comes_50 rfl ?_
    refine pw_iload_n C dX9_comes_51 rfl ?_
    refine pw_iload_n C dX9_comes_52 rfl ?_
    refine pw_cVI C [_, _] mi_X9_priceOf mv_X9_priceOf ml_9_180 oM_0 rfl (c_X9_priceOf (by omega) (by omega) (by omega) (by omega) (by omega) (by omega)) (by decide) rfl (Nat.le_of_ble_eq_true rfl) dX9_comes_53 ?_
    rw [vup_k _ _ _ _ (show (8 : Nat) ≠ 25 by omega), vup_k _ _ _ _ (show (8 : Nat) ≠ 24 by omega), vup_k _ _ _ _ (show (8 : Nat) ≠ 23 by omega)]
    refine pw_cVV C [_, _, _] mi_X9_sell mv_X9_sell ml_9_213 oM_0 rfl (c_X9_sell (by omega) (by omega) (by omega) (by omega) (by omega)) (by decide) rfl (Nat.le_of_ble_eq_true rfl) dX9_comes_56 ?_
    refine pw_vret C R dX9_comes_59 ⟨rfl, _, rfl, ?_, ?_⟩
    · unfold comeV
      rw [← m1, ← hcE]
      first
        | (rw [if_pos (by omega)]; done)
        | (rw [if_neg (by omega), mv_sellM, mvu_25, mvu_24, mvu_23, sell0_cm _ _ _ _ _ _ _ (by omega), sell0_cm _ _ _ _ _ _ _ (by omega), sell0_cm _ _ _ _ _ _ _ (by omega)]
           unfold sell1
           rw [mv_7 V1 c t0 (by omega)])
    · first
        | exact k1
        | exact (((k1.up (by omega)).up (by omega)).up (by omega)).tr (sellM_K _ _ _ _)
