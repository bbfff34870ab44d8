set_option maxRecDepth 100000 in
set_option maxHeartbeats 400000 in
theorem c_X9_cell {l : Launch} {S : SW} {M : Mem} {V : DM} {k i ln : Int}  (hk : InR k) (hi : InR i) (hln : InR ln) (hI : DayOk (mv V)) (hS : ShOk (ms V))  : PM l S yX9_cell cX9_cell 4 (some .long) 2 47 [rv S 3 0 0, iv k, iv i, iv ln] (mst M 3 V) (rR (jv (xCell (ms V) k i ln)) M (mv V) (fl (ms V) (lookF (look (ms V) k ln i 1)))) := by
  refine PM.of (own := RX9) (by decide) rfl [some (rv S 3 0 0), some (iv k), some (iv i), some (iv ln)] rfl rfl (Nat.le_of_ble_eq_true rfl) (fun X hXl C R => ?_)
  subst hXl
  obtain ⟨i1, i2, i3, i4, i5, i6, i7, i8⟩ := id hI
  have e5 : mv V 1 0 5 = V 0 0 1 := rfl
  have e6 : mv V 1 0 6 = V 0 0 2 := rfl
  have e7 : mv V 1 0 7 = V 0 0 8 := rfl
  have e8 : mv V 1 0 8 = V 0 0 9 := rfl
  have e84 : mv V 8 0 4 = V 0 0 15 := rfl
  refine pw_aload_n C dX9_cell_0 rfl ?_
  refine pw_iconst C dX9_cell_1 ?_
  refine pv_9_91 C (by omega) dX9_cell_2 ?_
  refine pw_iload_n C dX9_cell_5 rfl ?_
  refine pw_cSI C [_] mi_X9_noSheet ms_X9_noSheet ml_9_99 (c_X9_noSheet (by omega)) (by decide) rfl (Nat.le_of_ble_eq_true rfl) dX9_cell_6 ?_
  refine pw_if_ne_b (tgt := 24) C dX9_cell_9 rfl (fun c9 => ?_) (fun c9 => ?_)
  · refine pw_cSJ C [] mi_X9_lost ms_X9_lost ml_9_95 (c_X9_lost) (by decide) rfl (Nat.le_of_ble_eq_true rfl) dX9_cell_24 ?_
    have e : look (ms V) k ln i 1 = -1 ∨ look (ms V) k ln i 1 = -2 := by
        unfold look
        repeat' split
        all_goals omega
    exact pw_lret C R dX9_cell_27 ⟨congrArg (fun q => some (jv q)) (by unfold xCell; rw [pif_f (by omega)]), _, rfl, (by rw [mvn_0]; exact EQ.rf 0 0 _), (by rw [msf_0]; rcases e with e | e <;> rw [e] <;> rfl)⟩
  · refine pw_iload_n C dX9_cell_12 rfl ?_
    refine pw_i2l C (by omega) dX9_cell_13 ?_
    refine pw_lconst0 C dX9_cell_14 ?_
    refine pw_ldc2 C (n := 2) (inT4 122 rfl rfl) (by decide) dX9_cell_15 ?_
    refine pw_cSI C [_, _, _] mi_X9_in ms_X9_in ml_9_87 (c_X9_in (by omega) (by omega) (by omega)) (by decide) rfl (Nat.le_of_ble_eq_true rfl) dX9_cell_18 ?_
    refine pw_if_ne_b (tgt := 28) C dX9_cell_21 rfl (fun c21 => ?_) (fun c21 => ?_)
    · have hz9 : -1 ≤ V 35 0 k ∧ V 35 0 k ≤ 60 := hS k (by omega) (by omega)
      have e9 : ms V 9 0 k = V 35 0 k := rfl
      have e8 : ms V 8 0 k = V 36 0 k := rfl
      have en : nc (ms V) k i = if ms V 9 0 k = -1 then 1 else if 0 ≤ i ∧ i < ms V 9 0 k then 0 else 3 := rfl
      have hnr : (nc (ms V) k i = 1 ∧ V 35 0 k = -1) ∨ (nc (ms V) k i = 0 ∧ V 35 0 k ≠ -1 ∧ 0 ≤ i ∧ i < V 35 0 k) ∨ (nc (ms V) k i = 3 ∧ V 35 0 k ≠ -1 ∧ ¬ (0 ≤ i ∧ i < V 35 0 k)) := by
        rw [e9] at en
        by_cases a : V 35 0 k = -1
        · rw [if_pos a] at en; omega
        · rw [if_neg a] at en
          by_cases b : 0 ≤ i ∧ i < V 35 0 k
          · rw [if_pos b] at en; omega
          · rw [if_neg b] at en; omega
      have f35 : vup V 0 0 0 0 35 0 k = V 35 0 k := rfl
      have f36 : vup V 0 0 0 0 36 0 k = V 36 0 k := rfl
      have ev : nc (ms (vup V 0 0 0 0)) k i = nc (ms V) k i := rfl
      have hS1 : ShOk (ms (vup V 0 0 0 0)) := hS
      refine pw_aload_n C dX9_cell_28 rfl ?_
      refine gf_9_73 C dX9_cell_29 ?_
      refine pw_iload_n C dX9_cell_32 rfl ?_
      refine pw_ialdV C aM_35 (by omega) (by omega) (by decide) dX9_cell_33 (fun r33 => ?_)
      refine pw_if_lt (tgt := 53) C dX9_cell_34 rfl (by omega) (fun c34 => ?_) (fun c34 => ?_)
      · refine pw_aload_n C dX9_cell_53 rfl ?_
        refine pw_iload_n C dX9_cell_54 rfl ?_
        refine pw_iload_n C dX9_cell_55 rfl ?_
        refine pw_cVI C [_, _] mi_X9_noCell mv_X9_noCell ml_9_283 oM_0 rfl (c_X9_noCell (by omega) (by omega) hS1 (by omega) (by omega)) (by decide) rfl (Nat.le_of_ble_eq_true rfl) dX9_cell_56 ?_
        rw [ev]
        refine pw_if_le (tgt := 75) C dX9_cell_59 rfl (by omega) (fun c59 => ?_) (fun c59 => ?_)
        · refine pw_aload_n C dX9_cell_75 rfl ?_
          refine gf_9_79 C dX9_cell_76 ?_
          refine pw_bipush C dX9_cell_79 (by decide) ?_
          refine pw_iload_n C dX9_cell_81 rfl ?_
          refine pw_imul C dX9_cell_82 ?_
          refine pw_iload_n C dX9_cell_83 rfl ?_
          refine pw_iadd C dX9_cell_84 ?_
          refine pw_ialdV C aM_37 (by omega) (by omega) (by decide) dX9_cell_85 (fun r85 => ?_)
          refine pw_i2l C (by omega) dX9_cell_86 ?_
          first
            | exact absurd c59 (by omega)
            | (have e : look (ms V) k ln i 1 = 0 := by
                 unfold look
                 repeat' split
                 all_goals omega
               have h9 : V 37 0 (60 * k + i) = ms V 7 k i := (ms_7 V k (by omega) (by omega)).symm
               exact pw_lret C R dX9_cell_87 ⟨congrArg (fun q => some (jv q)) (by unfold xCell; rw [pif_t e]; exact h9), _, rfl, (by rw [mvn_0]; exact EQ.rf 0 0 _), (by rw [msf_0, e]; rfl)⟩)
            | (have e : look (ms V) k ln i 1 = -10 - nc (ms V) k i := by
                 rcases hnr with hq | hq | hq
                 · unfold look
                   repeat' split
                   all_goals omega
                 · omega
                 · unfold look
                   repeat' split
                   all_goals omega
               have el : lookF (-10 - nc (ms V) k i) = nc (ms V) k i := by
                 unfold lookF
                 rw [if_pos (by omega)]
                 omega
               exact pw_lret C R dX9_cell_87 ⟨congrArg (fun q => some (jv q)) (by unfold xCell; rw [pif_f (by omega)]), _, rfl, (by rw [mvn_0, mvn_0]; exact EQ.rf 0 0 _), (by rw [msf_0, msf_0, e, el]; exact fl_fl _ _ _)⟩)
        · refine pw_aload_n C dX9_cell_62 rfl ?_
          refine pw_aload_n C dX9_cell_63 rfl ?_
          refine pw_iload_n C dX9_cell_64 rfl ?_
          refine pw_iload_n C dX9_cell_65 rfl ?_
          refine pw_cVI C [_, _] mi_X9_noCell mv_X9_noCell ml_9_283 oM_0 rfl (c_X9_noCell (by omega) (by omega) hS1 (by omega) (by omega)) (by decide) rfl (Nat.le_of_ble_eq_true rfl) dX9_cell_66 ?_
          rw [ev]
          refine pw_cVJ C [_] mi_X9_failedLong mv_X9_failedLong ml_9_286 oM_0 rfl (c_X9_failedLong (by omega)) (by decide) rfl (Nat.le_of_ble_eq_true rfl) dX9_cell_69 ?_
          refine pw_goto (tgt := 87) C dX9_cell_72 rfl ?_
          first
            | exact absurd c59 (by omega)
            | (have e : look (ms V) k ln i 1 = 0 := by
                 unfold look
                 repeat' split
                 all_goals omega
               have h9 : V 37 0 (60 * k + i) = ms V 7 k i := (ms_7 V k (by omega) (by omega)).symm
               exact pw_lret C R dX9_cell_87 ⟨congrArg (fun q => some (jv q)) (by unfold xCell; rw [pif_t e]; exact h9), _, rfl, (by rw [mvn_0]; exact EQ.rf 0 0 _), (by rw [msf_0, e]; rfl)⟩)
            | (have e : look (ms V) k ln i 1 = -10 - nc (ms V) k i := by
                 rcases hnr with hq | hq | hq
                 · unfold look
                   repeat' split
                   all_goals omega
                 · omega
                 · unfold look
                   repeat' split
                   all_goals omega
               have el : lookF (-10 - nc (ms V) k i) = nc (ms V) k i := by
                 unfold lookF
                 rw [if_pos (by omega)]
                 omega
               exact pw_lret C R dX9_cell_87 ⟨congrArg (fun q => some (jv q)) (by unfold xCell; rw [pif_f (by omega)]), _, rfl, (by rw [mvn_0, mvn_0]; exact EQ.rf 0 0 _), (by rw [msf_0, msf_0, e, el]; exact fl_fl _ _ _)⟩)
      · refine pw_aload_n C dX9_cell_37 rfl ?_
        refine gf_9_76 C dX9_cell_38 ?_
        refine pw_iload_n C dX9_cell_41 rfl ?_
        refine pw_ialdV C aM_36 (by omega) (by omega) (by decide) dX9_cell_42 (fun r42 => ?_)
        refine pw_iload_n C dX9_cell_43 rfl ?_
        refine pw_icmp_eq (tgt := 53) C dX9_cell_44 rfl (by omega) (by omega) (fun c44 => ?_) (fun c44 => ?_)
        · refine pw_aload_n C dX9_cell_53 rfl ?_
          refine pw_iload_n C dX9_cell_54 rfl ?_
          refine pw_iload_n C dX9_cell_55 rfl ?_
          refine pw_cVI C [_, _] mi_X9_noCell mv_X9_noCell ml_9_283 oM_0 rfl (c_X9_noCell (by omega) (by omega) hS1 (by omega) (by omega)) (by decide) rfl (Nat.le_of_ble_eq_true rfl) dX9_cell_56 ?_
          rw [ev]
          refine pw_if_le (tgt := 75) C dX9_cell_59 rfl (by omega) (fun c59 => ?_) (fun c59 => ?_)
          · refine pw_aload_n C dX9_cell_75 rfl ?_
            refine gf_9_79 C dX9_cell_76 ?_
            refine pw_bipush C dX9_cell_79 (by decide) ?_
            refine pw_iload_n C dX9_cell_81 rfl ?_
            refine pw_imul C dX9_cell_82 ?_
            refine pw_iload_n C dX9_cell_83 rfl ?_
            refine pw_iadd C dX9_cell_84 ?_
            refine pw_ialdV C aM_37 (by omega) (by omega) (by decide) dX9_cell_85 (fun r85 => ?_)
            refine pw_i2l C (by omega) dX9_cell_86 ?_
            first
              | exact absurd c59 (by omega)
              | (have e : look (ms V) k ln i 1 = 0 := by
                   unfold look
                   repeat' split
                   all_goals omega
                 have h9 : V 37 0 (60 * k + i) = ms V 7 k i := (ms_7 V k (by omega) (by omega)).symm
                 exact pw_lret C R dX9_cell_87 ⟨congrArg (fun q => some (jv q)) (by unfold xCell; rw [pif_t e]; exact h9), _, rfl, (by rw [mvn_0]; exact EQ.rf 0 0 _), (by rw [msf_0, e]; rfl)⟩)
              | (have e : look (ms V) k ln i 1 = -10 - nc (ms V) k i := by
                   rcases hnr with hq | hq | hq
                   · unfold look
                     repeat' split
                     all_goals omega
                   · omega
                   · unfold look
                     repeat' split
                     all_goals omega
                 have el : lookF (-10 - nc (ms V) k i) = nc (ms V) k i := by
                   unfold lookF
                   rw [if_pos (by omega)]
                   omega
                 exact pw_lret C R dX9_cell_87 ⟨congrArg (fun q => some (jv q)) (by unfold xCell; rw [pif_f (by omega)]), _, rfl, (by rw [mvn_0, mvn_0]; exact EQ.rf 0 0 _), (by rw [msf_0, msf_0, e, el]; exact fl_fl _ _ _)⟩)
          · refine pw_aload_n C dX9_cell_62 rfl ?_
            refine pw_aload_n C dX9_cell_63 rfl ?_
            refine pw_iload_n C dX9_cell_64 rfl ?_
            refine pw_iload_n C dX9_cell_65 rfl ?_
            refine pw_cVI C [_, _] mi_X9_noCell mv_X9_noCell ml_9_283 oM_0 rfl (c_X9_noCell (by omega) (by omega) hS1 (by omega) (by omega)) (by decide) rfl (Nat.le_of_ble_eq_true rfl) dX9_cell_66 ?_
            rw [ev]
            refine pw_cVJ C [_] mi_X9_failedLong mv_X9_failedLong ml_9_286 oM_0 rfl (c_X9_failedLong (by omega)) (by decide) rfl (Nat.le_of_ble_eq_true rfl) dX9_cell_69 ?_
            refine pw_goto (tgt := 87) C dX9_cell_72 rfl ?_
            first
              | exact absurd c59 (by omega)
              | (have e : look (ms V) k ln i 1 = 0 := by
                   unfold look
                   repeat' split
                   all_goals omega
                 have h9 : V 37 0 (60 * k + i) = ms V 7 k i := (ms_7 V k (by omega) (by omega)).symm
                 exact pw_lret C R dX9_cell_87 ⟨congrArg (fun q => some (jv q)) (by unfold xCell; rw [pif_t e]; exact h9), _, rfl, (by rw [mvn_0]; exact EQ.rf 0 0 _), (by rw [msf_0, e]; rfl)⟩)
              | (have e : look (ms V) k ln i 1 = -10 - nc (ms V) k i := by
                   rcases hnr with hq | hq | hq
                   · unfold look
                     repeat' split
                     all_goals omega
                   · omega
                   · unfold look
                     repeat' split
                     all_goals omega
                 have el : lookF (-10 - nc (ms V) k i) = nc (ms V) k i := by
                   unfold lookF
                   rw [if_pos (by omega)]
                   omega
                 exact pw_lret C R dX9_cell_87 ⟨congrArg (fun q => some (jv q)) (by unfold xCell; rw [pif_f (by omega)]), _, rfl, (by rw [mvn_0, mvn_0]; exact EQ.rf 0 0 _), (by rw [msf_0, msf_0, e, el]; exact fl_fl _ _ _)⟩)
        · refine pw_aload_n C dX9_cell_47 rfl ?_
          refine pw_iconst C dX9_cell_48 ?_
          refine pw_cVJ C [_] mi_X9_failedLong mv_X9_failedLong ml_9_286 oM_0 rfl (c_X9_failedLong (by omega)) (by decide) rfl (Nat.le_of_ble_eq_true rfl) dX9_cell_49 ?_
          have e : look (ms V) k ln i 1 = -12 := by
              unfold look
              repeat' split
              all_goals omega
          exact pw_lret C R dX9_cell_52 ⟨congrArg (fun q => some (jv q)) (by unfold xCell; rw [pif_f (by omega)]), _, rfl, (by rw [mvn_0, mvn_0]; exact EQ.rf 0 0 _), (by rw [msf_0, msf_0, e]; exact fl_fl _ _ _)⟩
    · refine pw_cSJ C [] mi_X9_lost ms_X9_lost ml_9_95 (c_X9_lost) (by decide) rfl (Nat.le_of_ble_eq_true rfl) dX9_cell_24 ?_
      have e : look (ms V) k ln i 1 = -1 ∨ look (ms V) k ln i 1 = -2 := by
          unfold look
          repeat' split
          all_goals omega
      exact pw_lret C R dX9_cell_27 ⟨congrArg (fun q => some (jv q)) (by unfold xCell; rw [pif_f (by omega)]), _, rfl, (by rw [mvn_0]; exact EQ.rf 0 0 _), (by rw [msf_0]; rcases e with e | e <;> rw [e] <;> rfl)⟩
