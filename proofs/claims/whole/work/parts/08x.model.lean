def mU (u z : Int) : Int := if z < 0 then -u else u
def mixM (V : DM) (u z : Int) : DM := vup (vup V 0 0 32 (mU u z)) 0 0 33 (mU z z)
theorem mix_u (V : DM) (u z : Int) : mixM V u z 0 0 32 = mU u z := by
  unfold mixM
  rw [vup_j _ _ _ _ (by omega), vup_v]
theorem mix_d (V : DM) (u z : Int) : mixM V u z 0 0 33 = mU z z := by
  unfold mixM
  rw [vup_v]
theorem mix_mv (V : DM) (u z : Int) : mv (mixM V u z) = mv V := by
  unfold mixM
  rw [mvn_33, mvn_32]
theorem mix_ms (V : DM) (u z : Int) : ms (mixM V u z) = ms V := P3.msE (((P3.rf V).up (by omega)).up (by omega))
theorem btw_m {u z : Int} : btw u z ↔ 0 < mU u z ∧ mU u z < mU z z := by
  unfold btw mU
  split <;> omega
theorem pos_m {u z q : Int} (h : btw u z) : pos (mU u z) (mU z z) q = pos u z q := by
  have h2 := btw_m.mp h
  unfold mU at *
  by_cases hz : z < 0
  · rw [if_pos hz, if_pos hz] at *
    unfold pos
    rw [ab_p (show 0 ≤ -u by omega), ab_p (show 0 ≤ -z by omega), ab_n (show u < 0 by omega), ab_n hz]
    have hg : 0 < G (-u) (-z) := G_pos (by omega)
    have hG : ¬ (G (-u) (-z) = 0) := by omega
    rw [if_neg hG, if_neg (show ¬ (-z < 0) by omega), if_neg hG, if_pos hz]
    by_cases hq : q = 0
    · rw [if_pos hq, if_pos hq, Int.neg_tdiv]
    · rw [if_neg hq, if_neg hq, Int.neg_tdiv]
  · rw [if_neg hz, if_neg hz]
set_option maxRecDepth 100000 in
set_option maxHeartbeats 400000 in
theorem c_X9_mixes {l : Launch} {S : SW} {M : Mem} {V : DM} {u z : Int}  (hu : InR u) (hz : InR z) (u0 : -1000 ≤ u ∧ u ≤ 1000) (z0 : -1000 ≤ z ∧ z ≤ 1000) : PM l S yX9_mixes cX9_mixes 3 (some .boolean) 0 0 [rv S 3 0 0, iv u, iv z] (mst M 3 V) (rI (b01 (btw u z)) (mst M 3 (mixM V u z))) := by
  refine PM.of (own := RX9) (by decide) rfl [some (rv S 3 0 0), some (iv u), some (iv z)] rfl rfl (Nat.le_of_ble_eq_true rfl) (fun X hXl C R => ?_)
  subst hXl
  refine pw_aload_n C dX9_mixes_0 rfl ?_
  refine pw_iload_n C dX9_mixes_1 rfl ?_
  refine pw_if_ge (tgt := 11) C dX9_mixes_2 rfl (by omega) (fun c2 => ?_) (fun c2 => ?_)
  · refine pw_iload_n C dX9_mixes_11 rfl ?_
    refine pw_i2l C (by omega) dX9_mixes_12 ?_
    refine pv_9_273 C (by omega) dX9_mixes_13 ?_
    refine pw_aload_n C dX9_mixes_16 rfl ?_
    refine pw_iload_n C dX9_mixes_17 rfl ?_
    refine pw_if_ge (tgt := 27) C dX9_mixes_18 rfl (by omega) (fun c18 => ?_) (fun c18 => ?_)
    · refine pw_iload_n C dX9_mixes_27 rfl ?_
      refine pw_i2l C (by omega) dX9_mixes_28 ?_
      refine pv_9_277 C (by omega) dX9_mixes_29 ?_
      refine pw_aload_n C dX9_mixes_32 rfl ?_
      refine gv_9_273 C dX9_mixes_33 (fun r33 => ?_)
      rw [vup_j _ _ _ _ (show (32 : Int) ≠ 33 by omega), vup_v]
      refine pw_lconst0 C dX9_mixes_36 ?_
      refine pw_lcmp C (by omega) (by omega) dX9_mixes_37 ?_
      refine pw_lif_le (tgt := 57) C dX9_mixes_38 rfl (fun c38 => ?_) (fun c38 => ?_)
      · refine pw_iconst C dX9_mixes_57 ?_
        exact pw_zret0 C R dX9_mixes_58 (by unfold btw; omega) (by unfold mixM mU; first | (rw [if_pos (by omega), if_pos (by omega)]; done) | (rw [if_neg (by omega), if_neg (by omega)]; done) | omega)
      · refine pw_aload_n C dX9_mixes_41 rfl ?_
        refine gv_9_273 C dX9_mixes_42 (fun r42 => ?_)
        rw [vup_j _ _ _ _ (show (32 : Int) ≠ 33 by omega), vup_v]
        refine pw_aload_n C dX9_mixes_45 rfl ?_
        refine gv_9_277 C dX9_mixes_46 (fun r46 => ?_)
        rw [vup_v]
        refine pw_lcmp C (by omega) (by omega) dX9_mixes_49 ?_
        refine pw_lif_ge (tgt := 57) C dX9_mixes_50 rfl (fun c50 => ?_) (fun c50 => ?_)
        · refine pw_iconst C dX9_mixes_57 ?_
          exact pw_zret0 C R dX9_mixes_58 (by unfold btw; omega) (by unfold mixM mU; first | (rw [if_pos (by omega), if_pos (by omega)]; done) | (rw [if_neg (by omega), if_neg (by omega)]; done) | omega)
        · refine pw_iconst C dX9_mixes_53 ?_
          refine pw_goto (tgt := 58) C dX9_mixes_54 rfl ?_
          exact pw_zret1 C R dX9_mixes_58 (by unfold btw; omega) (by unfold mixM mU; first | (rw [if_pos (by omega), if_pos (by omega)]; done) | (rw [if_neg (by omega), if_neg (by omega)]; done) | omega)
    · refine pw_iload_n C dX9_mixes_21 rfl ?_
      refine pw_ineg C dX9_mixes_22 ?_
      refine pw_i2l C (by omega) dX9_mixes_23 ?_
      refine pw_goto (tgt := 29) C dX9_mixes_24 rfl ?_
      refine pv_9_277 C (by omega) dX9_mixes_29 ?_
      refine pw_aload_n C dX9_mixes_32 rfl ?_
      refine gv_9_273 C dX9_mixes_33 (fun r33 => ?_)
      rw [vup_j _ _ _ _ (show (32 : Int) ≠ 33 by omega), vup_v]
      refine pw_lconst0 C dX9_mixes_36 ?_
      refine pw_lcmp C (by omega) (by omega) dX9_mixes_37 ?_
      refine pw_lif_le (tgt := 57) C dX9_mixes_38 rfl (fun c38 => ?_) (fun c38 => ?_)
      · refine pw_iconst C dX9_mixes_57 ?_
        exact pw_zret0 C R dX9_mixes_58 (by unfold btw; omega) (by unfold mixM mU; first | (rw [if_pos (by omega), if_pos (by omega)]; done) | (rw [if_neg (by omega), if_neg (by omega)]; done) | omega)
      · refine pw_aload_n C dX9_mixes_41 rfl ?_
        refine gv_9_273 C dX9_mixes_42 (fun r42 => ?_)
        rw [vup_j _ _ _ _ (show (32 : Int) ≠ 33 by omega), vup_v]
        refine pw_aload_n C dX9_mixes_45 rfl ?_
        refine gv_9_277 C dX9_mixes_46 (fun r46 => ?_)
        rw [vup_v]
        refine pw_lcmp C (by omega) (by omega) dX9_mixes_49 ?_
        refine pw_lif_ge (tgt := 57) C dX9_mixes_50 rfl (fun c50 => ?_) (fun c50 => ?_)
        · refine pw_iconst C dX9_mixes_57 ?_
          exact pw_zret0 C R dX9_mixes_58 (by unfold btw; omega) (by unfold mixM mU; first | (rw [if_pos (by omega), if_pos (by omega)]; done) | (rw [if_neg (by omega), if_neg (by omega)]; done) | omega)
        · refine pw_iconst C dX9_mixes_53 ?_
          refine pw_goto (tgt := 58) C dX9_mixes_54 rfl ?_
          exact pw_zret1 C R dX9_mixes_58 (by unfold btw; omega) (by unfold mixM mU; first | (rw [if_pos (by omega), if_pos (by omega)]; done) | (rw [if_neg (by omega), if_neg (by omega)]; done) | omega)
  · refine pw_iload_n C dX9_mixes_5 rfl ?_
    refine pw_ineg C dX9_mixes_6 ?_
    refine pw_i2l C (by omega) dX9_mixes_7 ?_
    refine pw_goto (tgt := 13) C dX9_mixes_8 rfl ?_
    refine pv_9_273 C (by omega) dX9_mixes_13 ?_
    refine pw_aload_n C dX9_mixes_16 rfl ?_
    refine pw_iload_n C dX9_mixes_17 rfl ?_
    refine pw_if_ge (tgt := 27) C dX9_mixes_18 rfl (by omega) (fun c18 => ?_) (fun c18 => ?_)
    · refine pw_iload_n C dX9_mixes_27 rfl ?_
      refine pw_i2l C (by omega) dX9_mixes_28 ?_
      refine pv_9_277 C (by omega) dX9_mixes_29 ?_
      refine pw_aload_n C dX9_mixes_32 rfl ?_
      refine gv_9_273 C dX9_mixes_33 (fun r33 => ?_)
      rw [vup_j _ _ _ _ (show (32 : Int) ≠ 33 by omega), vup_v]
      refine pw_lconst0 C dX9_mixes_36 ?_
      refine pw_lcmp C (by omega) (by omega) dX9_mixes_37 ?_
      refine pw_lif_le (tgt := 57) C dX9_mixes_38 rfl (fun c38 => ?_) (fun c38 => ?_)
      · refine pw_iconst C dX9_mixes_57 ?_
        exact pw_zret0 C R dX9_mixes_58 (by unfold btw; omega) (by unfold mixM mU; first | (rw [if_pos (by omega), if_pos (by omega)]; done) | (rw [if_neg (by omega), if_neg (by omega)]; done) | omega)
      · refine pw_aload_n C dX9_mixes_41 rfl ?_
        refine gv_9_273 C dX9_mixes_42 (fun r42 => ?_)
        rw [vup_j _ _ _ _ (show (32 : Int) ≠ 33 by omega), vup_v]
        refine pw_aload_n C dX9_mixes_45 rfl ?_
        refine gv_9_277 C dX9_mixes_46 (fun r46 => ?_)
        rw [vup_v]
        refine pw_lcmp C (by omega) (by omega) dX9_mixes_49 ?_
        refine pw_lif_ge (tgt := 57) C dX9_mixes_50 rfl (fun c50 => ?_) (fun c50 => ?_)
        · refine pw_iconst C dX9_mixes_57 ?_
          exact pw_zret0 C R dX9_mixes_58 (by unfold btw; omega) (by unfold mixM mU; first | (rw [if_pos (by omega), if_pos (by omega)]; done) | (rw [if_neg (by omega), if_neg (by omega)]; done) | omega)
        · refine pw_iconst C dX9_mixes_53 ?_
          refine pw_goto (tgt := 58) C dX9_mixes_54 rfl ?_
          exact pw_zret1 C R dX9_mixes_58 (by unfold btw; omega) (by unfold mixM mU; first | (rw [if_pos (by omega), if_pos (by omega)]; done) | (rw [if_neg (by omega), if_neg (by omega)]; done) | omega)
    · refine pw_iload_n C dX9_mixes_21 rfl ?_
      refine pw_ineg C dX9_mixes_22 ?_
      refine pw_i2l C (by omega) dX9_mixes_23 ?_
      refine pw_goto (tgt := 29) C dX9_mixes_24 rfl ?_
      refine pv_9_277 C (by omega) dX9_mixes_29 ?_
      refine pw_aload_n C dX9_mixes_32 rfl ?_
      refine gv_9_273 C dX9_mixes_33 (fun r33 => ?_)
      rw [vup_j _ _ _ _ (show (32 : Int) ≠ 33 by omega), vup_v]
      refine pw_lconst0 C dX9_mixes_36 ?_
      refine pw_lcmp C (by omega) (by omega) dX9_mixes_37 ?_
      refine pw_lif_le (tgt := 57) C dX9_mixes_38 rfl (fun c38 => ?_) (fun c38 => ?_)
      · refine pw_iconst C dX9_mixes_57 ?_
        exact pw_zret0 C R dX9_mixes_58 (by unfold btw; omega) (by unfold mixM mU; first | (rw [if_pos (by omega), if_pos (by omega)]; done) | (rw [if_neg (by omega), if_neg (by omega)]; done) | omega)
      · refine pw_aload_n C dX9_mixes_41 rfl ?_
        refine gv_9_273 C dX9_mixes_42 (fun r42 => ?_)
        rw [vup_j _ _ _ _ (show (32 : Int) ≠ 33 by omega), vup_v]
        refine pw_aload_n C dX9_mixes_45 rfl ?_
        refine gv_9_277 C dX9_mixes_46 (fun r46 => ?_)
        rw [vup_v]
        refine pw_lcmp C (by omega) (by omega) dX9_mixes_49 ?_
        refine pw_lif_ge (tgt := 57) C dX9_mixes_50 rfl (fun c50 => ?_) (fun c50 => ?_)
        · refine pw_iconst C dX9_mixes_57 ?_
          exact pw_zret0 C R dX9_mixes_58 (by unfold btw; omega) (by unfold mixM mU; first | (rw [if_pos (by omega), if_pos (by omega)]; done) | (rw [if_neg (by omega), if_neg (by omega)]; done) | omega)
        · refine pw_iconst C dX9_mixes_53 ?_
          refine pw_goto (tgt := 58) C dX9_mixes_54 rfl ?_
          exact pw_zret1 C R dX9_mixes_58 (by unfold btw; omega) (by unfold mixM mU; first | (rw [if_pos (by omega), if_pos (by omega)]; done) | (rw [if_neg (by omega), if_neg (by omega)]; done) | omega)
set_option maxRecDepth 100000 in
set_option maxHeartbeats 400000 in
theorem c_X9_mixed {l : Launch} {S : SW} {M : Mem} {V : DM} {k ln i w q : Int}  (hk : InR k) (hln : InR ln) (hi : InR i) (hw : InR w) (hq : InR q) (hI : DayOk (mv V)) (hS : ShOk (ms V))  : PM l S yX9_mixed cX9_mixed 11 (some .long) 3 70 [rv S 3 0 0, iv k, iv ln, iv i, iv w, iv q] (mst M 3 V) (rR (jv (xMixed (ms V) k ln i w q)) M (mv V) (fl (ms V) (lookF (look (ms V) k ln i 8)))) := by
  refine PM.of (own := RX9) (by decide) rfl [some (rv S 3 0 0), some (iv k), some (iv ln), some (iv i), some (iv w), some (iv q), none, none, none, none, none] rfl rfl (Nat.le_of_ble_eq_true rfl) (fun X hXl C R => ?_)
  subst hXl
  obtain ⟨i1, i2, i3, i4, i5, i6, i7, i8⟩ := id hI
  have e5 : mv V 1 0 5 = V 0 0 1 := rfl
  have e6 : mv V 1 0 6 = V 0 0 2 := rfl
  have e7 : mv V 1 0 7 = V 0 0 8 := rfl
  have e8 : mv V 1 0 8 = V 0 0 9 := rfl
  have e84 : mv V 8 0 4 = V 0 0 15 := rfl
  refine pw_aload_n C dX9_mixed_0 rfl ?_
  refine pw_iload_n C dX9_mixed_1 rfl ?_
  refine pw_iload_n C dX9_mixed_2 rfl ?_
  refine pw_iload_n C dX9_mixed_3 rfl ?_
  refine pw_ldc2 C (n := 8) (inT5 107 rfl rfl) (by decide) dX9_mixed_4 ?_
  refine pw_cVI C [_, _, _, _] mi_X9_barred mv_X9_barred ml_9_146 oM_0 rfl (c_X9_barred (by omega) (by omega) (by omega) (by omega) (by assumption) (by omega)) (by decide) rfl (Nat.le_of_ble_eq_true rfl) dX9_mixed_7 ?_
  have hlr := look_r (ms V) k ln i 8
  refine pw_istore_6 C dX9_mixed_10 (k := ?_)
  refine pw_iload C dX9_mixed_12 rfl ?_
  refine pw_if_ge (tgt := 21) C dX9_mixed_14 rfl (by omega) (fun c14 => ?_) (fun c14 => ?_)
  · have hl0 : look (ms V) k ln i 8 = 0 := by omega
    have eb : bar V k ln i 8 = V := by unfold bar; rw [vif_t hl0]
    rw [eb]
    have hl := look_0 hS hl0
    refine pw_aload_n C dX9_mixed_21 rfl ?_
    refine pw_iconst C dX9_mixed_22 ?_
    refine pv_9_91 C (by omega) dX9_mixed_23 ?_
    refine pw_aload_n C dX9_mixed_26 rfl ?_
    refine pw_bipush C dX9_mixed_27 (by decide) ?_
    refine pw_iload_n C dX9_mixed_29 rfl ?_
    refine pw_imul C dX9_mixed_30 ?_
    refine pw_iload_n C dX9_mixed_31 rfl ?_
    refine pw_iadd C dX9_mixed_32 ?_
    refine pw_cVQI C [_] mi_X9_takesGame mv_X9_takesGame ml_9_270 oM_0 rfl (c_X9_takesGame (V := vup V 0 0 0 0) (k := k) (i := i) (by omega) (by omega) (by omega) (by omega) (by omega) rfl) (by decide) rfl (Nat.le_of_ble_eq_true rfl) dX9_mixed_33 ?_
    rintro x9 N9 ⟨U, rfl, hU, hx9⟩
    have hx9 : x9 = b01 (gameP (ms V 7 k) i) := hx9
    have hbr := b01_r (gameP (ms V 7 k) i)
    refine pw_if_eq (tgt := 58) C dX9_mixed_36 rfl (by omega) (fun c36 => ?_) (fun c36 => ?_)
    · refine pw_cSJ C [] mi_X9_lost ms_X9_lost ml_9_95 (c_X9_lost) (by decide) rfl (Nat.le_of_ble_eq_true rfl) dX9_mixed_58 ?_
      exact pw_lret C R dX9_mixed_61 ⟨congrArg (fun q => some (jv q)) (by unfold xMixed; rw [pif_f (fun h => by first | (rw [b01_t h.1.2] at hx9; omega) | exact c47 h.2.1 | exact c55 h.2.2.1)]), _, rfl, (by rw [hU.ev, mvn_0]; exact EQ.rf 0 0 _), by rw [hU.es]; exact flt0 hl0⟩
    · refine pw_iload C dX9_mixed_39 rfl ?_
      refine pw_i2l C (by omega) dX9_mixed_41 ?_
      refine pw_lconst0 C dX9_mixed_42 ?_
      refine pw_lconst1 C dX9_mixed_43 ?_
      refine pw_cSI C [_, _, _] mi_X9_in ms_X9_in ml_9_87 (c_X9_in (by omega) (by omega) (by omega)) (by decide) rfl (Nat.le_of_ble_eq_true rfl) dX9_mixed_44 ?_
      refine pw_if_eq_b (tgt := 58) C dX9_mixed_47 rfl (fun c47 => ?_) (fun c47 => ?_)
      · refine pw_cSJ C [] mi_X9_lost ms_X9_lost ml_9_95 (c_X9_lost) (by decide) rfl (Nat.le_of_ble_eq_true rfl) dX9_mixed_58 ?_
        exact pw_lret C R dX9_mixed_61 ⟨congrArg (fun q => some (jv q)) (by unfold xMixed; rw [pif_f (fun h => by first | (rw [b01_t h.1.2] at hx9; omega) | exact c47 h.2.1 | exact c55 h.2.2.1)]), _, rfl, (by rw [hU.ev, mvn_0]; exact EQ.rf 0 0 _), by rw [hU.es]; exact flt0 hl0⟩
      · refine pw_iload C dX9_mixed_50 rfl ?_
        refine pw_cSI C [_] mi_X9_isWhich ms_X9_isWhich ml_9_255 (c_X9_isWhich (by omega)) (by decide) rfl (Nat.le_of_ble_eq_true rfl) dX9_mixed_52 ?_
        refine pw_if_ne_b (tgt := 62) C dX9_mixed_55 rfl (fun c55 => ?_) (fun c55 => ?_)
        · have hg : gameP (ms V 7 k) i := Classical.byContradiction (fun h => by rw [b01_f h] at hx9; omega)
          have g0 : U 31 0 0 = sl (ms V) k i 0 ∧ U 32 0 0 = by9 (ms V) k i 0 := hU.2 0 (by omega) (by omega)
          have g1 : U 31 0 1 = sl (ms V) k i 1 ∧ U 32 0 1 = by9 (ms V) k i 1 := hU.2 1 (by omega) (by omega)
          have g2 : U 31 0 2 = sl (ms V) k i 2 ∧ U 32 0 2 = by9 (ms V) k i 2 := hU.2 2 (by omega) (by omega)
          have g3 : U 31 0 3 = sl (ms V) k i 3 ∧ U 32 0 3 = by9 (ms V) k i 3 := hU.2 3 (by omega) (by omega)
          have hgm := gmP_4.mpr hg
          have h0 := hgm 0 (by omega) (by omega)
          have h1 := hgm 1 (by omega) (by omega)
          have h2 := hgm 2 (by omega) (by omega)
          have h3 := hgm 3 (by omega) (by omega)
          have eu : U 32 0 3 - U 32 0 2 = uS (by9 (ms V) k i) := by unfold uS; rw [g3.2, g2.2]
          have el : U 32 0 0 - U 32 0 1 - U 32 0 2 + U 32 0 3 = lS (by9 (ms V) k i) := by unfold lS; rw [g0.2, g1.2, g2.2, g3.2]
          have fu : U 31 0 3 - U 31 0 1 = uB (sl (ms V) k i) := by unfold uB; rw [g3.1, g1.1]
          have fL : U 31 0 0 - U 31 0 1 - U 31 0 2 + U 31 0 3 = lS (sl (ms V) k i) := by unfold lS; rw [g0.1, g1.1, g2.1, g3.1]
          have ru : -1000 ≤ uS (by9 (ms V) k i) ∧ uS (by9 (ms V) k i) ≤ 1000 := by unfold uS; omega
          have rl : -1000 ≤ lS (by9 (ms V) k i) ∧ lS (by9 (ms V) k i) ≤ 1000 := by unfold lS; omega
          have su : -1000 ≤ uB (sl (ms V) k i) ∧ uB (sl (ms V) k i) ≤ 1000 := by unfold uB; omega
          have sL : -1000 ≤ lS (sl (ms V) k i) ∧ lS (sl (ms V) k i) ≤ 1000 := by unfold lS; omega
          have mr : ∀ a b : Int, -1000 ≤ a ∧ a ≤ 1000 → -1000 ≤ mU a b ∧ mU a b ≤ 1000 := fun a b h => by unfold mU; split <;> omega
          refine pw_aload_n C dX9_mixed_62 rfl ?_
          refine gf_9_70 C dX9_mixed_63 ?_
          refine pw_iconst C dX9_mixed_66 ?_
          refine pw_ialdV C aM_32 (by omega) (by omega) (by decide) dX9_mixed_67 (fun r67 => ?_)
          refine pw_aload_n C dX9_mixed_68 rfl ?_
          refine gf_9_70 C dX9_mixed_69 ?_
          refine pw_iconst C dX9_mixed_72 ?_
          refine pw_ialdV C aM_32 (by omega) (by omega) (by decide) dX9_mixed_73 (fun r73 => ?_)
          refine pw_isub C dX9_mixed_74 ?_
          refine pw_aload_n C dX9_mixed_75 rfl ?_
          refine gf_9_70 C dX9_mixed_76 ?_
          refine pw_iconst C dX9_mixed_79 ?_
          refine pw_ialdV C aM_32 (by omega) (by omega) (by decide) dX9_mixed_80 (fun r80 => ?_)
          refine pw_isub C dX9_mixed_81 ?_
          refine pw_aload_n C dX9_mixed_82 rfl ?_
          refine gf_9_70 C dX9_mixed_83 ?_
          refine pw_iconst C dX9_mixed_86 ?_
          refine pw_ialdV C aM_32 (by omega) (by omega) (by decide) dX9_mixed_87 (fun r87 => ?_)
          refine pw_iadd C dX9_mixed_88 ?_
          rw [el]
          refine pw_istore_7 C dX9_mixed_89 (k := ?_)
          refine pw_aload_n C dX9_mixed_91 rfl ?_
          refine gf_9_67 C dX9_mixed_92 ?_
          refine pw_iconst C dX9_mixed_95 ?_
          refine pw_ialdV C aM_31 (by omega) (by omega) (by decide) dX9_mixed_96 (fun r96 => ?_)
          refine pw_aload_n C dX9_mixed_97 rfl ?_
          refine gf_9_67 C dX9_mixed_98 ?_
          refine pw_iconst C dX9_mixed_101 ?_
          refine pw_ialdV C aM_31 (by omega) (by omega) (by decide) dX9_mixed_102 (fun r102 => ?_)
          refine pw_isub C dX9_mixed_103 ?_
          refine pw_aload_n C dX9_mixed_104 rfl ?_
          refine gf_9_67 C dX9_mixed_105 ?_
          refine pw_iconst C dX9_mixed_108 ?_
          refine pw_ialdV C aM_31 (by omega) (by omega) (by decide) dX9_mixed_109 (fun r109 => ?_)
          refine pw_isub C dX9_mixed_110 ?_
          refine pw_aload_n C dX9_mixed_111 rfl ?_
          refine gf_9_67 C dX9_mixed_112 ?_
          refine pw_iconst C dX9_mixed_115 ?_
          refine pw_ialdV C aM_31 (by omega) (by omega) (by decide) dX9_mixed_116 (fun r116 => ?_)
          refine pw_iadd C dX9_mixed_117 ?_
          rw [fL]
          refine pw_istore_8 C dX9_mixed_118 (k := ?_)
          refine pw_aload_n C dX9_mixed_120 rfl ?_
          refine pw_aload_n C dX9_mixed_121 rfl ?_
          refine gf_9_70 C dX9_mixed_122 ?_
          refine pw_iconst C dX9_mixed_125 ?_
          refine pw_ialdV C aM_32 (by omega) (by omega) (by decide) dX9_mixed_126 (fun r126 => ?_)
          refine pw_aload_n C dX9_mixed_127 rfl ?_
          refine gf_9_70 C dX9_mixed_128 ?_
          refine pw_iconst C dX9_mixed_131 ?_
          refine pw_ialdV C aM_32 (by omega) (by omega) (by decide) dX9_mixed_132 (fun r132 => ?_)
          refine pw_isub C dX9_mixed_133 ?_
          rw [eu]
          refine pw_iload C dX9_mixed_134 rfl ?_
          refine pw_cVI C [_, _] mi_X9_mixes mv_X9_mixes ml_9_280 oM_0 rfl (c_X9_mixes (by omega) (by omega) (by omega) (by omega)) (by decide) rfl (Nat.le_of_ble_eq_true rfl) dX9_mixed_136 ?_
          refine pw_istore_9 C dX9_mixed_139 (k := ?_)
          refine pw_aload_n C dX9_mixed_141 rfl ?_
          refine pw_aload_n C dX9_mixed_142 rfl ?_
          refine gf_9_67 C dX9_mixed_143 ?_
          refine pw_iconst C dX9_mixed_146 ?_
          refine pw_ialdV C aM_31 (by omega) (by omega) (by decide) dX9_mixed_147 (fun r147 => ?_)
          refine pw_aload_n C dX9_mixed_148 rfl ?_
          refine gf_9_67 C dX9_mixed_149 ?_
          refine pw_iconst C dX9_mixed_152 ?_
          refine pw_ialdV C aM_31 (by omega) (by omega) (by decide) dX9_mixed_153 (fun r153 => ?_)
          refine pw_isub C dX9_mixed_154 ?_
          rw [show mixM U (uS (by9 (ms V) k i)) (lS (by9 (ms V) k i)) 31 0 3 - mixM U (uS (by9 (ms V) k i)) (lS (by9 (ms V) k i)) 31 0 1 = uB (sl (ms V) k i) from fu]
          refine pw_iload C dX9_mixed_155 rfl ?_
          refine pw_cVI C [_, _] mi_X9_mixes mv_X9_mixes ml_9_280 oM_0 rfl (c_X9_mixes (by omega) (by omega) (by omega) (by omega)) (by decide) rfl (Nat.le_of_ble_eq_true rfl) dX9_mixed_157 ?_
          refine pw_istore_10 C dX9_mixed_160 (k := ?_)
          refine pw_iload C dX9_mixed_162 rfl ?_
          refine pw_if_eq_b (tgt := 172) C dX9_mixed_164 rfl (fun c164 => ?_) (fun c164 => ?_)
          · refine pw_cSJ C [] mi_X9_lost ms_X9_lost ml_9_95 (c_X9_lost) (by decide) rfl (Nat.le_of_ble_eq_true rfl) dX9_mixed_172 ?_
            exact pw_lret C R dX9_mixed_175 ⟨congrArg (fun q => some (jv q)) (by unfold xMixed; rw [pif_f (fun h => by first | exact c164 h.2.2.2.1 | exact c169 h.2.2.2.2)]), _, rfl, (by rw [mix_mv]; rw [mix_mv]; rw [hU.ev, mvn_0]; exact EQ.rf 0 0 _), by rw [mix_ms]; rw [mix_ms]; rw [hU.es]; exact flt0 hl0⟩
          · refine pw_iload C dX9_mixed_167 rfl ?_
            refine pw_if_ne_b (tgt := 176) C dX9_mixed_169 rfl (fun c169 => ?_) (fun c169 => ?_)
            · refine pw_iload C dX9_mixed_176 rfl ?_
              refine pw_if_ne (tgt := 201) C dX9_mixed_178 rfl (by omega) (fun c178 => ?_) (fun c178 => ?_)
              · refine pw_aload_n C dX9_mixed_201 rfl ?_
                refine gv_9_273 C dX9_mixed_202 (fun r202 => ?_)
                rw [mix_u]
                refine pw_aload_n C dX9_mixed_205 rfl ?_
                refine gv_9_277 C dX9_mixed_206 (fun r206 => ?_)
                rw [mix_d]
                have m1 := btw_m.mp c164
                have m2 := btw_m.mp c169
                have q1 := mr _ (lS (by9 (ms V) k i)) ru
                have q2 := mr _ (lS (by9 (ms V) k i)) rl
                have q3 := mr _ (lS (sl (ms V) k i)) su
                have q4 := mr _ (lS (sl (ms V) k i)) sL
                refine pw_iload C dX9_mixed_209 rfl ?_
                refine pw_cSJ C [_, _, _] mi_X9_told ms_X9_told ml_9_262 (c_X9_told (by omega) (by omega) (by omega) (by omega) (by omega) (by omega)) (by decide) rfl (Nat.le_of_ble_eq_true rfl) dX9_mixed_211 ?_
                first
                  | exact pw_lret C R dX9_mixed_214 ⟨congrArg (fun q => some (jv q)) (by unfold xMixed; rw [pif_t ⟨⟨hl0, hg⟩, c47, c55, c164, c169⟩, if_pos (by omega), pos_m c164]), _, rfl, (by rw [mix_mv]; rw [mix_mv]; rw [mix_mv]; rw [hU.ev, mvn_0]; exact EQ.rf 0 0 _), by rw [mix_ms]; rw [mix_ms]; rw [mix_ms]; rw [hU.es]; exact flt0 hl0⟩
                  | exact pw_lret C R dX9_mixed_214 ⟨congrArg (fun q => some (jv q)) (by unfold xMixed; rw [pif_t ⟨⟨hl0, hg⟩, c47, c55, c164, c169⟩, if_neg (by omega), pos_m c169]), _, rfl, (by rw [mix_mv]; rw [mix_mv]; rw [hU.ev, mvn_0]; exact EQ.rf 0 0 _), by rw [mix_ms]; rw [mix_ms]; rw [hU.es]; exact flt0 hl0⟩
              · refine pw_aload_n C dX9_mixed_181 rfl ?_
                refine pw_aload_n C dX9_mixed_182 rfl ?_
                refine gf_9_70 C dX9_mixed_183 ?_
                refine pw_iconst C dX9_mixed_186 ?_
                refine pw_ialdV C aM_32 (by omega) (by omega) (by decide) dX9_mixed_187 (fun r187 => ?_)
                refine pw_aload_n C dX9_mixed_188 rfl ?_
                refine gf_9_70 C dX9_mixed_189 ?_
                refine pw_iconst C dX9_mixed_192 ?_
                refine pw_ialdV C aM_32 (by omega) (by omega) (by decide) dX9_mixed_193 (fun r193 => ?_)
                refine pw_isub C dX9_mixed_194 ?_
                rw [show mixM (mixM U (uS (by9 (ms V) k i)) (lS (by9 (ms V) k i))) (uB (sl (ms V) k i)) (lS (sl (ms V) k i)) 32 0 3 - mixM (mixM U (uS (by9 (ms V) k i)) (lS (by9 (ms V) k i))) (uB (sl (ms V) k i)) (lS (sl (ms V) k i)) 32 0 2 = uS (by9 (ms V) k i) from eu]
                refine pw_iload C dX9_mixed_195 rfl ?_
                refine pw_cVI C [_, _] mi_X9_mixes mv_X9_mixes ml_9_280 oM_0 rfl (c_X9_mixes (by omega) (by omega) (by omega) (by omega)) (by decide) rfl (Nat.le_of_ble_eq_true rfl) dX9_mixed_197 ?_
                refine pw_pop C dX9_mixed_200 rfl ?_
                refine pw_aload_n C dX9_mixed_201 rfl ?_
                refine gv_9_273 C dX9_mixed_202 (fun r202 => ?_)
                rw [mix_u]
                refine pw_aload_n C dX9_mixed_205 rfl ?_
                refine gv_9_277 C dX9_mixed_206 (fun r206 => ?_)
                rw [mix_d]
                have m1 := btw_m.mp c164
                have m2 := btw_m.mp c169
                have q1 := mr _ (lS (by9 (ms V) k i)) ru
                have q2 := mr _ (lS (by9 (ms V) k i)) rl
                have q3 := mr _ (lS (sl (ms V) k i)) su
                have q4 := mr _ (lS (sl (ms V) k i)) sL
                refine pw_iload C dX9_mixed_209 rfl ?_
                refine pw_cSJ C [_, _, _] mi_X9_told ms_X9_told ml_9_262 (c_X9_told (by omega) (by omega) (by omega) (by omega) (by omega) (by omega)) (by decide) rfl (Nat.le_of_ble_eq_true rfl) dX9_mixed_211 ?_
                first
                  | exact pw_lret C R dX9_mixed_214 ⟨congrArg (fun q => some (jv q)) (by unfold xMixed; rw [pif_t ⟨⟨hl0, hg⟩, c47, c55, c164, c169⟩, if_pos (by omega), pos_m c164]), _, rfl, (by rw [mix_mv]; rw [mix_mv]; rw [mix_mv]; rw [hU.ev, mvn_0]; exact EQ.rf 0 0 _), by rw [mix_ms]; rw [mix_ms]; rw [mix_ms]; rw [hU.es]; exact flt0 hl0⟩
                  | exact pw_lret C R dX9_mixed_214 ⟨congrArg (fun q => some (jv q)) (by unfold xMixed; rw [pif_t ⟨⟨hl0, hg⟩, c47, c55, c164, c169⟩, if_neg (by omega), pos_m c169]), _, rfl, (by rw [mix_mv]; rw [mix_mv]; rw [hU.ev, mvn_0]; exact EQ.rf 0 0 _), by rw [mix_ms]; rw [mix_ms]; rw [hU.es]; exact flt0 hl0⟩
            · refine pw_cSJ C [] mi_X9_lost ms_X9_lost ml_9_95 (c_X9_lost) (by decide) rfl (Nat.le_of_ble_eq_true rfl) dX9_mixed_172 ?_
              exact pw_lret C R dX9_mixed_175 ⟨congrArg (fun q => some (jv q)) (by unfold xMixed; rw [pif_f (fun h => by first | exact c164 h.2.2.2.1 | exact c169 h.2.2.2.2)]), _, rfl, (by rw [mix_mv]; rw [mix_mv]; rw [hU.ev, mvn_0]; exact EQ.rf 0 0 _), by rw [mix_ms]; rw [mix_ms]; rw [hU.es]; exact flt0 hl0⟩
        · refine pw_cSJ C [] mi_X9_lost ms_X9_lost ml_9_95 (c_X9_lost) (by decide) rfl (Nat.le_of_ble_eq_true rfl) dX9_mixed_58 ?_
          exact pw_lret C R dX9_mixed_61 ⟨congrArg (fun q => some (jv q)) (by unfold xMixed; rw [pif_f (fun h => by first | (rw [b01_t h.1.2] at hx9; omega) | exact c47 h.2.1 | exact c55 h.2.2.1)]), _, rfl, (by rw [hU.ev, mvn_0]; exact EQ.rf 0 0 _), by rw [hU.es]; exact flt0 hl0⟩
  · refine pw_cSJ C [] mi_X9_lost ms_X9_lost ml_9_95 (c_X9_lost) (by decide) rfl (Nat.le_of_ble_eq_true rfl) dX9_mixed_17 ?_
    exact pw_lret C R dX9_mixed_20 ⟨congrArg (fun q => some (jv q)) (by unfold xMixed; rw [pif_f (fun h => by have := h.1.1; omega)]), _, rfl, (by rw [bar_mv]; exact EQ.rf 0 0 _), bar_ms (by omega)⟩
