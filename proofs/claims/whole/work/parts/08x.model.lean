def mU (u z : Int) : Int := if z < 0 then -u else u
def mixM (V : DM) (u z : Int) : DM := vup (vup V 0 0 32 (mU u z)) 0 0 33 (mU z z)
theorem mix_u (V : DM) (u z : Int) : mixM V u z 0 0 32 = mU u z := by
  unfold mixM
  rw [vup_j _ _ _ _ (by omega), vup_v]
theorem mix_d (V : DM) (u z : Int) : mixM V u z 0 0 33 = mU z z := by
  unfold mixM
  rw [vup_v]
theorem mix_mv (V : DM) (u z : Int) : mv (mixM V u z) = mv V := by
  unfold mixM
  rw [mvn_33, mvn_32]
theorem mix_ms (V : DM) (u z : Int) : ms (mixM V u z) = ms V := P3.msE (((P3.rf V).up (by omega)).up (by omega))
theorem btw_m {u z : Int} : btw u z ↔ 0 < mU u z ∧ mU u z < mU z z := by
  unfold btw mU
  split <;> omega
theorem pos_m {u z q : Int} (h : btw u z) : pos (mU u z) (mU z z) q = pos u z q := by
  have h2 := btw_m.mp h
  unfold mU at *
  by_cases hz : z < 0
  · rw [if_pos hz, if_pos hz] at *
    unfold pos
    rw [ab_p (show 0 ≤ -u by omega), ab_p (show 0 ≤ -z by omega), ab_n (show u < 0 by omega), ab_n hz]
    have hg : 0 < G (-u) (-z) := G_pos (by omega)
    have hG : ¬ (G (-u) (-z) = 0) := by omega
    rw [if_neg hG, if_neg (show ¬ (-z < 0) by omega), if_neg hG, if_pos hz]
    by_cases hq : q = 0
    · rw [if_pos hq, if_pos hq, Int.neg_tdiv]
    · rw [if_neg hq, if_neg hq, Int.neg_tdiv]
  · rw [if_neg hz, if_neg hz]
set_option maxRecDepth 100000 in
set_option maxHeartbeats 400000 in
theorem c_X9_mixes {l : Launch} {S : SW} {M : Mem} {V : DM} {u z : Int}  (hu : InR u) (hz : InR z) (u0 : -1000 ≤ u ∧ u ≤ 1000) (z0 : -1000 ≤ z ∧ z ≤ 1000) : PM l S yX9_mixes cX9_mixes 3 (some .boolean) 0 0 [rv S 3 0 0, iv u, iv z] (mst M 3 V) (rI (b01 (btw u z)) (mst M 3 (mixM V u z))) := by
  refine PM.of (own := RX9) (by decide) rfl [some (rv S 3 0 0), some (iv u), some (iv z)] rfl rfl (Nat.le_of_ble_eq_true rfl) (fun X hXl C R => ?_)
  subst hXl
  refine pw_aload_n C dX9_mixes_0 rfl ?_
  refine pw_iload_n C dX9_mixes_1 rfl ?_
  refine pw_if_ge (tgt := 11) C dX9_mixes_2 rfl (by omega) (fun c2 => ?_) (fun c2 => ?_)
  · refine pw_iload_n C dX9_mixes_11 rfl ?_
    refine pw_i2l C (by omega) dX9_mixes_12 ?_
    refine pv_9_273 C (by omega) dX9_mixes_13 ?_
    refine pw_aload_n C dX9_mixes_16 rfl ?_
    refine pw_iload_n C dX9_mixes_17 rfl ?_
    refine pw_if_ge (tgt := 27) C dX9_mixes_18 rfl (by omega) (fun c18 => ?_) (fun c18 => ?_)
    · refine pw_iload_n C dX9_mixes_27 rfl ?_
      refine pw_i2l C (by omega) dX9_mixes_28 ?_
      refine pv_9_277 C (by omega) dX9_mixes_29 ?_
      refine pw_aload_n C dX9_mixes_32 rfl ?_
      refine gv_9_273 C dX9_mixes_33 (fun r33 => ?_)
      rw [vup_j _ _ _ _ (show (32 : Int) ≠ 33 by omega), vup_v]
      refine pw_lconst0 C dX9_mixes_36 ?_
      refine pw_lcmp C (by omega) (by omega) dX9_mixes_37 ?_
      refine pw_lif_le (tgt := 57) C dX9_mixes_38 rfl (fun c38 => ?_) (fun c38 => ?_)
      · refine pw_iconst C dX9_mixes_57 ?_
        exact pw_zret0 C R dX9_mixes_58 (by unfold btw; omega) (by unfold mixM mU; first | (rw [if_pos (by omega), if_pos (by omega)]; done) | (rw [if_neg (by omega), if_neg (by omega)]; done) | omega)
      · refine pw_aload_n C dX9_mixes_41 rfl ?_
        refine gv_9_273 C dX9_mixes_42 (fun r42 => ?_)
        rw [vup_j _ _ _ _ (show (32 : Int) ≠ 33 by omega), vup_v]
        refine pw_aload_n C dX9_mixes_45 rfl ?_
        refine gv_9_277 C dX9_mixes_46 (fun r46 => ?_)
        rw [vup_v]
        refine pw_lcmp C (by omega) (by omega) dX9_mixes_49 ?_
        refine pw_lif_ge (tgt := 57) C dX9_mixes_50 rfl (fun c50 => ?_) (fun c50 => ?_)
        · refine pw_iconst C dX9_mixes_57 ?_
          exact pw_zret0 C R dX9_mixes_58 (by unfold btw; omega) (by unfold mixM mU; first | (rw [if_pos (by omega), if_pos (by omega)]; done) | (rw [if_neg (by omega), if_neg (by omega)]; done) | omega)
        · refine pw_iconst C dX9_mixes_53 ?_
          refine pw_goto (tgt := 58) C dX9_mixes_54 rfl ?_
          exact pw_zret1 C R dX9_mixes_58 (by unfold btw; omega) (by unfold mixM mU; first | (rw [if_pos (by omega), if_pos (by omega)]; done) | (rw [if_neg (by omega), if_neg (by omega)]; done) | omega)
    · refine pw_iload_n C dX9_mixes_21 rfl ?_
      refine pw_ineg C dX9_mixes_22 ?_
      refine pw_i2l C (by omega) dX9_mixes_23 ?_
      refine pw_goto (tgt := 29) C dX9_mixes_24 rfl ?_
      refine pv_9_277 C (by omega) dX9_mixes_29 ?_
      refine pw_aload_n C dX9_mixes_32 rfl ?_
      refine gv_9_273 C dX9_mixes_33 (fun r33 => ?_)
      rw [vup_j _ _ _ _ (show (32 : Int) ≠ 33 by omega), vup_v]
      refine pw_lconst0 C dX9_mixes_36 ?_
      refine pw_lcmp C (by omega) (by omega) dX9_mixes_37 ?_
      refine pw_lif_le (tgt := 57) C dX9_mixes_38 rfl (fun c38 => ?_) (fun c38 => ?_)
      · refine pw_iconst C dX9_mixes_57 ?_
        exact pw_zret0 C R dX9_mixes_58 (by unfold btw; omega) (by unfold mixM mU; first | (rw [if_pos (by omega), if_pos (by omega)]; done) | (rw [if_neg (by omega), if_neg (by omega)]; done) | omega)
      · refine pw_aload_n C dX9_mixes_41 rfl ?_
        refine gv_9_273 C dX9_mixes_42 (fun r42 => ?_)
        rw [vup_j _ _ _ _ (show (32 : Int) ≠ 33 by omega), vup_v]
        refine pw_aload_n C dX9_mixes_45 rfl ?_
        refine gv_9_277 C dX9_mixes_46 (fun r46 => ?_)
        rw [vup_v]
        refine pw_lcmp C (by omega) (by omega) dX9_mixes_49 ?_
        refine pw_lif_ge (tgt := 57) C dX9_mixes_50 rfl (fun c50 => ?_) (fun c50 => ?_)
        · refine pw_iconst C dX9_mixes_57 ?_
          exact pw_zret0 C R dX9_mixes_58 (by unfold btw; omega) (by unfold mixM mU; first | (rw [if_pos (by omega), if_pos (by omega)]; done) | (rw [if_neg (by omega), if_neg (by omega)]; done) | omega)
        · refine pw_iconst C dX9_mixes_53 ?_
          refine pw_goto (tgt := 58) C dX9_mixes_54 rfl ?_
          exact pw_zret1 C R dX9_mixes_58 (by unfold btw; omega) (by unfold mixM mU; first | (rw [if_pos (by omega), if_pos (by omega)]; done) | (rw [if_neg (by omega), if_neg (by omega)]; done) | omega)
  · refine pw_iload_n C dX9_mixes_5 rfl ?_
    refine pw_ineg C dX9_mixes_6 ?_
    refine pw_i2l C (by omega) dX9_mixes_7 ?_
    refine pw_goto (tgt := 13) C dX9_mixes_8 rfl ?_
    refine pv_9_273 C (by omega) dX9_mixes_13 ?_
    refine pw_aload_n C dX9_mixes_16 rfl ?_
    refine pw_iload_n C dX9_mixes_17 rfl ?_
    refine pw_if_ge (tgt := 27) C dX9_mixes_18 rfl (by omega) (fun c18 => ?_) (fun c18 => ?_)
    · refine pw_iload_n C dX9_mixes_27 rfl ?_
      refine pw_i2l C (by omega) dX9_mixes_28 ?_
      refine pv_9_277 C (by omega) dX9_mixes_29 ?_
      refine pw_aload_n C dX9_mixes_32 rfl ?_
      refine gv_9_273 C dX9_mixes_33 (fun r33 => ?_)
      rw [vup_j _ _ _ _ (show (32 : Int) ≠ 33 by omega), vup_v]
      refine pw_lconst0 C dX9_mixes_36 ?_
      refine pw_lcmp C (by omega) (by omega) dX9_mixes_37 ?_
      refine pw_lif_le (tgt := 57) C dX9_mixes_38 rfl (fun c38 => ?_) (fun c38 => ?_)
      · refine pw_iconst C dX9_mixes_57 ?_
        exact pw_zret0 C R dX9_mixes_58 (by unfold btw; omega) (by unfold mixM mU; first | (rw [if_pos (by omega), if_pos (by omega)]; done) | (rw [if_neg (by omega), if_neg (by omega)]; done) | omega)
      · refine pw_aload_n C dX9_mixes_41 rfl ?_
        refine gv_9_273 C dX9_mixes_42 (fun r42 => ?_)
        rw [vup_j _ _ _ _ (show (32 : Int) ≠ 33 by omega), vup_v]
        refine pw_aload_n C dX9_mixes_45 rfl ?_
        refine gv_9_277 C dX9_mixes_46 (fun r46 => ?_)
        rw [vup_v]
        refine pw_lcmp C (by omega) (by omega) dX9_mixes_49 ?_
        refine pw_lif_ge (tgt := 57) C dX9_mixes_50 rfl (fun c50 => ?_) (fun c50 => ?_)
        · refine pw_iconst C dX9_mixes_57 ?_
          exact pw_zret0 C R dX9_mixes_58 (by unfold btw; omega) (by unfold mixM mU; first | (rw [if_pos (by omega), if_pos (by omega)]; done) | (rw [if_neg (by omega), if_neg (by omega)]; done) | omega)
        · refine pw_iconst C dX9_mixes_53 ?_
          refine pw_goto (tgt := 58) C dX9_mixes_54 rfl ?_
          exact pw_zret1 C R dX9_mixes_58 (by unfold btw; omega) (by unfold mixM mU; first | (rw [if_pos (by omega), if_pos (by omega)]; done) | (rw [if_neg (by omega), if_neg (by omega)]; done) | omega)
    · refine pw_iload_n C dX9_mixes_21 rfl ?_
      refine pw_ineg C dX9_mixes_22 ?_
      refine pw_i2l C (by omega) dX9_mixes_23 ?_
      refine pw_goto (tgt := 29) C dX9_mixes_24 rfl ?_
      refine pv_9_277 C (by omega) dX9_mixes_29 ?_
      refine pw_aload_n C dX9_mixes_32 rfl ?_
      refine gv_9_273 C dX9_mixes_33 (fun r33 => ?_)
      rw [vup_j _ _ _ _ (show (32 : Int) ≠ 33 by omega), vup_v]
      refine pw_lconst0 C dX9_mixes_36 ?_
      refine pw_lcmp C (by omega) (by omega) dX9_mixes_37 ?_
      refine pw_lif_le (tgt := 57) C dX9_mixes_38 rfl (fun c38 => ?_) (fun c38 => ?_)
      · refine pw_iconst C dX9_mixes_57 ?_
        exact pw_zret0 C R dX9_mixes_58 (by unfold btw; omega) (by unfold mixM mU; first | (rw [if_pos (by omega), if_pos (by omega)]; done) | (rw [if_neg (by omega), if_neg (by omega)]; done) | omega)
      · refine pw_aload_n C dX9_mixes_41 rfl ?_
        refine gv_9_273 C dX9_mixes_42 (fun r42 => ?_)
        rw [vup_j _ _ _ _ (show (32 : Int) ≠ 33 by omega), vup_v]
        refine pw_aload_n C dX9_mixes_45 rfl ?_
        refine gv_9_277 C dX9_mixes_46 (fun r46 => ?_)
        rw [vup_v]
        refine pw_lcmp C (by omega) (by omega) dX9_mixes_49 ?_
        refine pw_lif_ge (tgt := 57) C dX9_mixes_50 rfl (fun c50 => ?_) (fun c50 => ?_)
        · refine pw_iconst C dX9_mixes_57 ?_
          exact pw_zret0 C R dX9_mixes_58 (by unfold btw; omega) (by unfold mixM mU; first | (rw [if_pos (by omega), if_pos (by omega)]; done) | (rw [if_neg (by omega), if_neg (by omega)]; done) | omega)
        · refine pw_iconst C dX9_mixes_53 ?_
          refine pw_goto (tgt := 58) C dX9_mixes_54 rfl ?_
          exact pw_zret1 C R dX9_mixes_58 (by unfold btw; omega) (by unfold mixM mU; first | (rw [if_pos (by omega), if_pos (by omega)]; done) | (rw [if_neg (by omega), if_neg (by omega)]; done) | omega)
