def tr (V : DM) (n : Int) : DM := vup V 0 0 5 (w32 (31 * V 0 0 5 + n))
def fl (V : DM) (n : Int) : DM := vup V 0 0 6 n
theorem fl_fl (V : DM) (a b : Int) : fl (fl V a) b = fl V b := vup_2 _ _ _ _ _ _
theorem fl_n (V : DM) (a : Int) {k : Nat} {r i : Int} (h : ¬ (k = 0 ∧ r = 0 ∧ i = 6)) : fl V a k r i = V k r i := vup_n _ h
theorem tr_n (V : DM) (a : Int) {k : Nat} {r i : Int} (h : ¬ (k = 0 ∧ r = 0 ∧ i = 5)) : tr V a k r i = V k r i := vup_n _ h
/-- what taking cells of a sheet is answered with -/
def look (V : DM) (k ln i n : Int) : Int :=
  if 0 ≤ k ∧ k < 4 then (if 0 ≤ ln ∧ ln < 3 then (if V 9 0 k = -1 then -11 else if V 8 0 k ≠ ln then -12 else if n < 0 then -14 else if 0 ≤ i ∧ 0 ≤ n ∧ i ≤ V 9 0 k ∧ n ≤ V 9 0 k - i then 0 else -13) else -2) else -1
def lookF (r : Int) : Int := if r ≤ -11 then -10 - r else 0
/-- sheets: a length of at most 60, or nothing -/
def ShOk (V : DM) : Prop := ∀ k, 0 ≤ k → k < 4 → -1 ≤ V 9 0 k ∧ V 9 0 k ≤ 60
theorem look_0 {V : DM} (hS : ShOk V) {k ln i n : Int} (h : look V k ln i n = 0) : (0 ≤ k ∧ k < 4) ∧ 0 ≤ i ∧ 0 ≤ n ∧ i + n ≤ 60 := by
  unfold look at h
  split at h
  · next hk =>
    have := hS k hk.1 hk.2
    split at h
    · split at h
      · omega
      · split at h
        · omega
        · split at h
          · omega
          · split at h <;> omega
    · omega
  · omega
theorem look_r (V : DM) (k ln i n : Int) : -14 ≤ look V k ln i n ∧ look V k ln i n ≤ 0 := by
  unfold look
  repeat' split
  all_goals omega
set_option maxRecDepth 100000 in
set_option maxHeartbeats 400000 in
theorem c_X8_leaveTrace {l : Launch} {S : SW} {M : Mem} {V : DM} {n : Int}  (hn : InR n)  : PM l S yX8_leaveTrace cX8_leaveTrace 2 none 0 0 [rv S 2 0 0, iv n] (mst M 2 V) (rV (mst M 2 (tr V n))) := by
  refine PM.of (own := RX8) (by decide) rfl [some (rv S 2 0 0), some (iv n)] rfl rfl (Nat.le_of_ble_eq_true rfl) (fun X hXl C R => ?_)
  subst hXl
  refine pw_aload_n C dX8_leaveTrace_0 rfl ?_
  refine pw_bipush C dX8_leaveTrace_1 (by decide) ?_
  refine pw_aload_n C dX8_leaveTrace_3 rfl ?_
  refine gv_8_318 C dX8_leaveTrace_4 (fun r4 => ?_)
  refine pw_imul C dX8_leaveTrace_7 ?_
  refine pw_iload_n C dX8_leaveTrace_8 rfl ?_
  refine pw_iadd C dX8_leaveTrace_9 ?_
  refine pw_w ?_
  refine pv_8_318 C (w32_R _) dX8_leaveTrace_10 ?_
  exact pw_vreti C R dX8_leaveTrace_13 rfl
set_option maxRecDepth 100000 in
set_option maxHeartbeats 400000 in
theorem c_X8_faultOf {l : Launch} {S : SW} {M : Mem} {V : DM} {kd : Int}  (hkd : InR kd)  : PM l S yX8_faultOf cX8_faultOf 2 (some .int) 0 0 [rv S 2 0 0, iv kd] (mst M 2 V) (rI (-10 - kd) (mst M 2 (fl V kd))) := by
  refine PM.of (own := RX8) (by decide) rfl [some (rv S 2 0 0), some (iv kd)] rfl rfl (Nat.le_of_ble_eq_true rfl) (fun X hXl C R => ?_)
  subst hXl
  refine pw_aload_n C dX8_faultOf_0 rfl ?_
  refine pw_iload_n C dX8_faultOf_1 rfl ?_
  refine pv_8_115 C (by omega) dX8_faultOf_2 ?_
  refine pw_bipush C dX8_faultOf_5 (by decide) ?_
  refine pw_iload_n C dX8_faultOf_7 rfl ?_
  refine pw_isub C dX8_faultOf_8 ?_
  exact pw_ireti C R dX8_faultOf_9 (by first | rfl | omega) rfl
set_option maxRecDepth 100000 in
set_option maxHeartbeats 400000 in
theorem c_X8_tellAsBuyer {l : Launch} {S : SW} {M : Mem} {V : DM} {x : Int}  (hx : InR x) (x0 : 0 ≤ x) (x1 : x < 10) : PM l S yX8_tellAsBuyer cX8_tellAsBuyer 2 (some .int) 1 21 [rv S 2 0 0, iv x] (mst M 2 V) (rI (M 0 11 0 x) (mst M 2 (tr V 1))) := by
  refine PM.of (own := RX8) (by decide) rfl [some (rv S 2 0 0), some (iv x)] rfl rfl (Nat.le_of_ble_eq_true rfl) (fun X hXl C R => ?_)
  subst hXl
  refine pw_aload_n C dX8_tellAsBuyer_0 rfl ?_
  refine pw_iconst C dX8_tellAsBuyer_1 ?_
  refine pw_cVV C [_] mi_X8_leaveTrace mv_X8_leaveTrace ml_8_314 oC_0 rfl (c_X8_leaveTrace (by omega)) (by decide) rfl (Nat.le_of_ble_eq_true rfl) dX8_tellAsBuyer_2 ?_
  refine pw_aload_n C dX8_tellAsBuyer_5 rfl ?_
  refine gf_8_12 C dX8_tellAsBuyer_6 ?_
  refine gf_8_70 0 (by decide) C dX8_tellAsBuyer_9 ?_
  refine gf_8_154 0 (by decide) C dX8_tellAsBuyer_12 ?_
  refine pw_iload_n C dX8_tellAsBuyer_15 rfl ?_
  refine pw_iald C (aD_11 (by decide)) (by omega) (by omega) (by decide) dX8_tellAsBuyer_16 (fun r16 => ?_)
  exact pw_ireti C R dX8_tellAsBuyer_17 (by first | rfl | omega) rfl
set_option maxRecDepth 100000 in
set_option maxHeartbeats 400000 in
theorem c_X8_tellAsChoosing {l : Launch} {S : SW} {M : Mem} {V : DM} {x : Int}  (hx : InR x) (x0 : 0 ≤ x) (x1 : x < 10) : PM l S yX8_tellAsChoosing cX8_tellAsChoosing 2 (some .int) 2 42 [rv S 2 0 0, iv x] (mst M 2 V) (rI (M 0 11 0 x + 100) (mst M 2 (tr (tr V 2) 1))) := by
  refine PM.of (own := RX8) (by decide) rfl [some (rv S 2 0 0), some (iv x)] rfl rfl (Nat.le_of_ble_eq_true rfl) (fun X hXl C R => ?_)
  subst hXl
  refine pw_aload_n C dX8_tellAsChoosing_0 rfl ?_
  refine pw_iconst C dX8_tellAsChoosing_1 ?_
  refine pw_cVV C [_] mi_X8_leaveTrace mv_X8_leaveTrace ml_8_314 oC_0 rfl (c_X8_leaveTrace (by omega)) (by decide) rfl (Nat.le_of_ble_eq_true rfl) dX8_tellAsChoosing_2 ?_
  refine pw_aload_n C dX8_tellAsChoosing_5 rfl ?_
  refine pw_iload_n C dX8_tellAsChoosing_6 rfl ?_
  refine pw_cVI C [_] mi_X8_tellAsBuyer mv_X8_tellAsBuyer ml_8_311 oC_0 rfl (c_X8_tellAsBuyer (by omega) (by omega) (by omega)) (by decide) rfl (Nat.le_of_ble_eq_true rfl) dX8_tellAsChoosing_7 ?_
  refine pw_bipush C dX8_tellAsChoosing_10 (by decide) ?_
  refine pw_iadd C dX8_tellAsChoosing_12 ?_
  exact pw_ireti C R dX8_tellAsChoosing_13 (by first | rfl | omega) rfl
set_option maxRecDepth 100000 in
set_option maxHeartbeats 400000 in
theorem c_X8_tellAsWaiting {l : Launch} {S : SW} {M : Mem} {V : DM} {x : Int}  (hx : InR x) (x0 : 0 ≤ x) (x1 : x < 10) : PM l S yX8_tellAsWaiting cX8_tellAsWaiting 3 (some .int) 3 63 [rv S 2 0 0, iv x] (mst M 2 V) (rI (M 0 11 0 x + 100 + M 0 11 0 x) (mst M 2 (tr (tr (tr (tr V 3) 2) 1) 1))) := by
  refine PM.of (own := RX8) (by decide) rfl [some (rv S 2 0 0), some (iv x), none] rfl rfl (Nat.le_of_ble_eq_true rfl) (fun X hXl C R => ?_)
  subst hXl
  refine pw_aload_n C dX8_tellAsWaiting_0 rfl ?_
  refine pw_iconst C dX8_tellAsWaiting_1 ?_
  refine pw_cVV C [_] mi_X8_leaveTrace mv_X8_leaveTrace ml_8_314 oC_0 rfl (c_X8_leaveTrace (by omega)) (by decide) rfl (Nat.le_of_ble_eq_true rfl) dX8_tellAsWaiting_2 ?_
  refine pw_aload_n C dX8_tellAsWaiting_5 rfl ?_
  refine pw_iload_n C dX8_tellAsWaiting_6 rfl ?_
  refine pw_cVI C [_] mi_X8_tellAsChoosing mv_X8_tellAsChoosing ml_8_308 oC_0 rfl (c_X8_tellAsChoosing (by omega) (by omega) (by omega)) (by decide) rfl (Nat.le_of_ble_eq_true rfl) dX8_tellAsWaiting_7 ?_
  refine pw_istore_2 C dX8_tellAsWaiting_10 (k := ?_)
  refine pw_iload_n C dX8_tellAsWaiting_11 rfl ?_
  refine pw_aload_n C dX8_tellAsWaiting_12 rfl ?_
  refine pw_iload_n C dX8_tellAsWaiting_13 rfl ?_
  refine pw_cVI C [_] mi_X8_tellAsBuyer mv_X8_tellAsBuyer ml_8_311 oC_0 rfl (c_X8_tellAsBuyer (by omega) (by omega) (by omega)) (by decide) rfl (Nat.le_of_ble_eq_true rfl) dX8_tellAsWaiting_14 ?_
  refine pw_iadd C dX8_tellAsWaiting_17 ?_
  exact pw_ireti C R dX8_tellAsWaiting_18 (by first | rfl | omega) rfl
set_option maxRecDepth 100000 in
set_option maxHeartbeats 400000 in
theorem c_X8_lookAtCells {l : Launch} {S : SW} {M : Mem} {V : DM} {k ln i n : Int}  (hk : InR k) (hln : InR ln) (hi : InR i) (hn : InR n)  : PM l S yX8_lookAtCells cX8_lookAtCells 5 (some .int) 1 23 [rv S 2 0 0, iv k, iv ln, iv i, iv n] (mst M 2 V) (rI (look V k ln i n) (mst M 2 (fl V (lookF (look V k ln i n))))) := by
  refine PM.of (own := RX8) (by decide) rfl [some (rv S 2 0 0), some (iv k), some (iv ln), some (iv i), some (iv n)] rfl rfl (Nat.le_of_ble_eq_true rfl) (fun X hXl C R => ?_)
  subst hXl
  refine pw_aload_n C dX8_lookAtCells_0 rfl ?_
  refine pw_iconst C dX8_lookAtCells_1 ?_
  refine pv_8_115 C (by omega) dX8_lookAtCells_2 ?_
  have e9 : vup V 0 0 6 0 9 0 k = V 9 0 k := rfl
  have e8 : vup V 0 0 6 0 8 0 k = V 8 0 k := rfl
  refine pw_aload_n C dX8_lookAtCells_5 rfl ?_
  refine gf_8_28 C dX8_lookAtCells_6 ?_
  refine pw_iload_n C dX8_lookAtCells_9 rfl ?_
  refine pw_cVI C [_] mi_X5_isThere mv_X5_isThere ml_8_276 oC_5 rfl (c_X5_isThere (by omega)) (by decide) rfl (Nat.le_of_ble_eq_true rfl) dX8_lookAtCells_10 ?_
  refine pw_if_ne_b (tgt := 18) C dX8_lookAtCells_13 rfl (fun c13 => ?_) (fun c13 => ?_)
  · refine pw_aload_n C dX8_lookAtCells_18 rfl ?_
    refine gf_8_28 C dX8_lookAtCells_19 ?_
    refine pw_iload_n C dX8_lookAtCells_22 rfl ?_
    refine pw_cVI C [_] mi_X5_isLane mv_X5_isLane ml_8_279 oC_5 rfl (c_X5_isLane (by omega)) (by decide) rfl (Nat.le_of_ble_eq_true rfl) dX8_lookAtCells_23 ?_
    refine pw_if_ne_b (tgt := 32) C dX8_lookAtCells_26 rfl (fun c26 => ?_) (fun c26 => ?_)
    · refine pw_aload_n C dX8_lookAtCells_32 rfl ?_
      refine gf_8_28 C dX8_lookAtCells_33 ?_
      refine pw_iload_n C dX8_lookAtCells_36 rfl ?_
      refine pw_cVI C [_] mi_X5_hasRow mv_X5_hasRow ml_8_290 oC_5 rfl (c_X5_hasRow (by omega) (by omega) (by omega)) (by decide) rfl (Nat.le_of_ble_eq_true rfl) dX8_lookAtCells_37 ?_
      refine pw_if_ne_b (tgt := 49) C dX8_lookAtCells_40 rfl (fun c40 => ?_) (fun c40 => ?_)
      · refine pw_aload_n C dX8_lookAtCells_49 rfl ?_
        refine gf_8_28 C dX8_lookAtCells_50 ?_
        refine gf_8_299 C dX8_lookAtCells_53 ?_
        refine pw_iload_n C dX8_lookAtCells_56 rfl ?_
        refine pw_ialdV C aC_8 (by omega) (by omega) (by decide) dX8_lookAtCells_57 (fun r57 => ?_)
        refine pw_iload_n C dX8_lookAtCells_58 rfl ?_
        refine pw_icmp_eq (tgt := 68) C dX8_lookAtCells_59 rfl (by omega) (by omega) (fun c59 => ?_) (fun c59 => ?_)
        · refine pw_iload C dX8_lookAtCells_68 rfl ?_
          refine pw_if_ge (tgt := 79) C dX8_lookAtCells_70 rfl (by omega) (fun c70 => ?_) (fun c70 => ?_)
          · refine pw_aload_n C dX8_lookAtCells_79 rfl ?_
            refine gf_8_28 C dX8_lookAtCells_80 ?_
            refine pw_iload_n C dX8_lookAtCells_83 rfl ?_
            refine pw_iload_n C dX8_lookAtCells_84 rfl ?_
            refine pw_iload C dX8_lookAtCells_85 rfl ?_
            refine pw_cVI C [_, _, _] mi_X5_reaches mv_X5_reaches ml_8_296 oC_5 rfl (c_X5_reaches (by omega) (by omega) (by omega) (by omega) (by omega)) (by decide) rfl (Nat.le_of_ble_eq_true rfl) dX8_lookAtCells_87 ?_
            refine pw_if_eq_b (tgt := 97) C dX8_lookAtCells_90 rfl (fun c90 => ?_) (fun c90 => ?_)
            · refine pw_aload_n C dX8_lookAtCells_97 rfl ?_
              refine pw_iconst C dX8_lookAtCells_98 ?_
              refine pw_cVI C [_] mi_X8_faultOf mv_X8_faultOf ml_8_282 oC_0 rfl (c_X8_faultOf (by omega)) (by decide) rfl (Nat.le_of_ble_eq_true rfl) dX8_lookAtCells_99 ?_
              first
                | (have e : 0 = look V k ln i n := by unfold look; repeat' split; all_goals omega
                   exact pw_ireti C R dX8_lookAtCells_102 e (by rw [← e]; rfl))
                | (have e : -10 - 3 = look V k ln i n := by unfold look; repeat' split; all_goals omega
                   exact pw_ireti C R dX8_lookAtCells_102 e (by rw [← e]; exact congrArg (mst M 2) (fl_fl V 0 3)))
            · refine pw_iconst C dX8_lookAtCells_93 ?_
              refine pw_goto (tgt := 102) C dX8_lookAtCells_94 rfl ?_
              first
                | (have e : 0 = look V k ln i n := by unfold look; repeat' split; all_goals omega
                   exact pw_ireti C R dX8_lookAtCells_102 e (by rw [← e]; rfl))
                | (have e : -10 - 3 = look V k ln i n := by unfold look; repeat' split; all_goals omega
                   exact pw_ireti C R dX8_lookAtCells_102 e (by rw [← e]; exact congrArg (mst M 2) (fl_fl V 0 3)))
          · refine pw_aload_n C dX8_lookAtCells_73 rfl ?_
            refine pw_iconst C dX8_lookAtCells_74 ?_
            refine pw_cVI C [_] mi_X8_faultOf mv_X8_faultOf ml_8_282 oC_0 rfl (c_X8_faultOf (by omega)) (by decide) rfl (Nat.le_of_ble_eq_true rfl) dX8_lookAtCells_75 ?_
            have e : -10 - 4 = look V k ln i n := by unfold look; repeat' split; all_goals omega
            exact pw_ireti C R dX8_lookAtCells_78 e (by rw [← e]; exact congrArg (mst M 2) (fl_fl V 0 4))
        · refine pw_aload_n C dX8_lookAtCells_62 rfl ?_
          refine pw_iconst C dX8_lookAtCells_63 ?_
          refine pw_cVI C [_] mi_X8_faultOf mv_X8_faultOf ml_8_282 oC_0 rfl (c_X8_faultOf (by omega)) (by decide) rfl (Nat.le_of_ble_eq_true rfl) dX8_lookAtCells_64 ?_
          have e : -10 - 2 = look V k ln i n := by unfold look; repeat' split; all_goals omega
          exact pw_ireti C R dX8_lookAtCells_67 e (by rw [← e]; exact congrArg (mst M 2) (fl_fl V 0 2))
      · refine pw_aload_n C dX8_lookAtCells_43 rfl ?_
        refine pw_iconst C dX8_lookAtCells_44 ?_
        refine pw_cVI C [_] mi_X8_faultOf mv_X8_faultOf ml_8_282 oC_0 rfl (c_X8_faultOf (by omega)) (by decide) rfl (Nat.le_of_ble_eq_true rfl) dX8_lookAtCells_45 ?_
        have e : -10 - 1 = look V k ln i n := by unfold look; repeat' split; all_goals omega
        exact pw_ireti C R dX8_lookAtCells_48 e (by rw [← e]; exact congrArg (mst M 2) (fl_fl V 0 1))
    · refine pw_bipush C dX8_lookAtCells_29 (by decide) ?_
      have e : -2 = look V k ln i n := by unfold look; repeat' split; all_goals omega
      exact pw_ireti C R dX8_lookAtCells_31 e (by rw [← e]; rfl)
  · refine pw_iconst C dX8_lookAtCells_16 ?_
    have e : -1 = look V k ln i n := by unfold look; repeat' split; all_goals omega
    exact pw_ireti C R dX8_lookAtCells_17 e (by rw [← e]; rfl)
set_option maxRecDepth 100000 in
set_option maxHeartbeats 400000 in
theorem c_X8_areMoney {l : Launch} {S : SW} {M : Mem} {c p9 o : Int}  (hc : InR c) (hp9 : InR p9) (ho : InR o)  : PM l S yX8_areMoney cX8_areMoney 3 (some .boolean) 1 22 [iv c, iv p9, iv o] (M) (rI (b01 ((0 ≤ c ∧ c ≤ 99) ∧ (0 ≤ p9 ∧ p9 ≤ 99) ∧ 0 ≤ o ∧ o ≤ 99)) M) := by
  refine PM.of (own := RX8) (by decide) rfl [some (iv c), some (iv p9), some (iv o)] rfl rfl (Nat.le_of_ble_eq_true rfl) (fun X hXl C R => ?_)
  subst hXl
  refine pw_iload_n C dX8_areMoney_0 rfl ?_
  refine pw_iconst C dX8_areMoney_1 ?_
  refine pw_bipush C dX8_areMoney_2 (by decide) ?_
  refine pw_cSI C [_, _, _] mi_X8_isWithin ms_X8_isWithin ml_8_108 (c_X8_isWithin (by omega) (by omega) (by omega)) (by decide) rfl (Nat.le_of_ble_eq_true rfl) dX8_areMoney_4 ?_
  refine pw_if_eq_b (tgt := 34) C dX8_areMoney_7 rfl (fun c7 => ?_) (fun c7 => ?_)
  · refine pw_iconst C dX8_areMoney_34 ?_
    exact pw_zret0 C R dX8_areMoney_35 (by omega) rfl
  · refine pw_iload_n C dX8_areMoney_10 rfl ?_
    refine pw_iconst C dX8_areMoney_11 ?_
    refine pw_bipush C dX8_areMoney_12 (by decide) ?_
    refine pw_cSI C [_, _, _] mi_X8_isWithin ms_X8_isWithin ml_8_108 (c_X8_isWithin (by omega) (by omega) (by omega)) (by decide) rfl (Nat.le_of_ble_eq_true rfl) dX8_areMoney_14 ?_
    refine pw_if_eq_b (tgt := 34) C dX8_areMoney_17 rfl (fun c17 => ?_) (fun c17 => ?_)
    · refine pw_iconst C dX8_areMoney_34 ?_
      exact pw_zret0 C R dX8_areMoney_35 (by omega) rfl
    · refine pw_iload_n C dX8_areMoney_20 rfl ?_
      refine pw_iconst C dX8_areMoney_21 ?_
      refine pw_bipush C dX8_areMoney_22 (by decide) ?_
      refine pw_cSI C [_, _, _] mi_X8_isWithin ms_X8_isWithin ml_8_108 (c_X8_isWithin (by omega) (by omega) (by omega)) (by decide) rfl (Nat.le_of_ble_eq_true rfl) dX8_areMoney_24 ?_
      refine pw_if_eq_b (tgt := 34) C dX8_areMoney_27 rfl (fun c27 => ?_) (fun c27 => ?_)
      · refine pw_iconst C dX8_areMoney_34 ?_
        exact pw_zret0 C R dX8_areMoney_35 (by omega) rfl
      · refine pw_iconst C dX8_areMoney_30 ?_
        refine pw_goto (tgt := 35) C dX8_areMoney_31 rfl ?_
        exact pw_zret1 C R dX8_areMoney_35 (by omega) rfl
set_option maxRecDepth 100000 in
set_option maxHeartbeats 400000 in
theorem L_X8_areAllWithin {X : PX} {S : SW} {M : Mem} {V : DM} {k i n least most : Int}  (k0 : 0 ≤ k) (k1 : k < 4) (i0 : 0 ≤ i) (n1 : i + n ≤ 60) (hl : InR least) (hm : InR most) (C : Cx X S RX8 cX8_areAllWithin 1 22) (R : CR X S (rI (b01 (∀ j, 0 ≤ j → j < n → least ≤ V 7 k (i + j) ∧ V 7 k (i + j) ≤ most)) (mst M 2 V)) (some .boolean)) :
    ∀ (n9 : Nat) (j : Int), (0 ≤ j) → (j ≤ n) → (∀ q, 0 ≤ q → q < j → least ≤ V 7 k (i + q) ∧ V 7 k (i + q) ≤ most) → n - j < n9 → PW X S (mst M 2 V) 3 [some (rv S 2 7 k), some (iv i), some (iv n), some (iv least), some (iv most), some (iv j)] [] := by
  intro n9
  induction n9 with
  | zero => intro j j0 j1 hj hn9; omega
  | succ n9 ih =>
    intro j j0 j1 hj hn9
    refine pw_iload C dX8_areAllWithin_3 rfl ?_
    refine pw_iload_n C dX8_areAllWithin_5 rfl ?_
    refine pw_icmp_ge (tgt := 32) C dX8_areAllWithin_6 rfl (by omega) (by omega) (fun c6 => ?_) (fun c6 => ?_)
    · refine pw_iconst C dX8_areAllWithin_32 ?_
      exact pw_zret1 C R dX8_areAllWithin_33 (fun q a b => hj q a (by omega)) rfl
    · refine pw_aload_n C dX8_areAllWithin_9 rfl ?_
      refine pw_iload_n C dX8_areAllWithin_10 rfl ?_
      refine pw_iload C dX8_areAllWithin_11 rfl ?_
      refine pw_iadd C dX8_areAllWithin_13 ?_
      refine pw_ialdV C (aC_7 (by omega) (by omega)) (by omega) (by omega) (by decide) dX8_areAllWithin_14 (fun r14 => ?_)
      refine pw_iload_n C dX8_areAllWithin_15 rfl ?_
      refine pw_iload C dX8_areAllWithin_16 rfl ?_
      refine pw_cSI C [_, _, _] mi_X8_isWithin ms_X8_isWithin ml_8_108 (c_X8_isWithin (by omega) (by omega) (by omega)) (by decide) rfl (Nat.le_of_ble_eq_true rfl) dX8_areAllWithin_18 ?_
      refine pw_if_ne_b (tgt := 26) C dX8_areAllWithin_21 rfl (fun c21 => ?_) (fun c21 => ?_)
      · refine pw_iinc_5 C dX8_areAllWithin_26 (k := ?_)
        refine pw_goto (tgt := 3) C dX8_areAllWithin_29 rfl ?_
        exact ih (j + 1) (by omega) (by omega) (fun q a b => by rcases Int.lt_or_le q j with h | h; exact hj q a h; (have e : q = j := (by omega)); subst e; assumption) (by omega)
      · refine pw_iconst C dX8_areAllWithin_24 ?_
        exact pw_zret0 C R dX8_areAllWithin_25 (fun h => by have h2 := h j (by omega) (by omega); contradiction) rfl
set_option maxRecDepth 100000 in
set_option maxHeartbeats 400000 in
theorem c_X8_areAllWithin {l : Launch} {S : SW} {M : Mem} {V : DM} {i n least most : Int} {k : Int}  (hi : InR i) (hn : InR n) (hleast : InR least) (hmost : InR most) (k0 : 0 ≤ k) (k1 : k < 4) (i0 : 0 ≤ i) (n0 : 0 ≤ n) (n1 : i + n ≤ 60) : PM l S yX8_areAllWithin cX8_areAllWithin 6 (some .boolean) 1 22 [rv S 2 7 k, iv i, iv n, iv least, iv most] (mst M 2 V) (rI (b01 (∀ j, 0 ≤ j → j < n → least ≤ V 7 k (i + j) ∧ V 7 k (i + j) ≤ most)) (mst M 2 V)) := by
  refine PM.of (own := RX8) (by decide) rfl [some (rv S 2 7 k), some (iv i), some (iv n), some (iv least), some (iv most), none] rfl rfl (Nat.le_of_ble_eq_true rfl) (fun X hXl C R => ?_)
  subst hXl
  refine pw_iconst C dX8_areAllWithin_0 ?_
  refine pw_istore_5 C dX8_areAllWithin_1 (k := ?_)
  exact L_X8_areAllWithin k0 k1 i0 n1 hleast hmost C R (n + 1).toNat 0 (by omega) (by omega) (fun q a b => by omega) (by omega)
