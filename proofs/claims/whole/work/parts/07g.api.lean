theorem Fr.eq0 {V W : DM} (h : Fr V W) : EQ 0 0 V W := fun k r i hl => by
  have hk12 : 1 ≤ k ∧ k ≤ 12 := by rcases hl with q | q | q | q | q | q | q | q | q <;> omega
  exact h k r i (by omega) (by omega)
noncomputable def vWorth (V : DM) (x s t : Int) : DM := vif (hasB V x ∧ place V s t) (openV V) V
noncomputable def xRight (V : DM) (a t w : Int) : Int := pif ((1 ≤ a ∧ a ≤ 99) ∧ (1 ≤ t ∧ t ≤ V 1 0 5) ∧ 0 ≤ w ∧ w ≤ 1) (pos (a * V 1 0 5) t w) LOSTv
set_option maxRecDepth 100000 in
set_option maxHeartbeats 400000 in
theorem c_X8_buyer {l : Launch} {S : SW} {M : Mem} {kd s q t : Int}  (hkd : InR kd) (hs : InR s) (hq : InR q) (ht : InR t) (hI : DayOk (M 0)) (hk : M 0 0 0 11 = -9) (hS : ShOk (M 2))  : PM l S yX8_buyer cX8_buyer 5 (some .int) 2 43 [rv S 2 0 0, iv kd, iv s, iv q, iv t] (M) (rX (xBuyer (M 0) kd s q t) M (vBuyer (M 0) kd s q t) (M 2)) := by
  refine PM.of (own := RX8) (by decide) rfl [some (rv S 2 0 0), some (iv kd), some (iv s), some (iv q), some (iv t)] rfl rfl (Nat.le_of_ble_eq_true rfl) (fun X hXl C R => ?_)
  subst hXl
  obtain ⟨i1, i2, i3, i4, i5, i6, i7, i8⟩ := id hI
  refine pw_aload_n C dX8_buyer_0 rfl ?_
  refine gf_8_12 C dX8_buyer_1 ?_
  refine gf_8_60 0 (by decide) C dX8_buyer_4 ?_
  refine pw_iload_n C dX8_buyer_7 rfl ?_
  refine pw_iload C dX8_buyer_8 rfl ?_
  refine pw_V 0 ?_
  refine pw_cVI C [_, _] mi_X6_hasPlace mv_X6_hasPlace ml_8_100 (oD_1 (by decide)) rfl (c_X6_hasPlace (by decide) (by omega) (by omega)) (by decide) rfl (Nat.le_of_ble_eq_true rfl) dX8_buyer_10 ?_
  refine pw_U 0 ?_
  refine pw_if_ne_b (tgt := 18) C dX8_buyer_13 rfl (fun c13 => ?_) (fun c13 => ?_)
  · refine pw_iload_n C dX8_buyer_18 rfl ?_
    refine pw_iconst C dX8_buyer_19 ?_
    refine pw_iconst C dX8_buyer_20 ?_
    refine pw_cSI C [_, _, _] mi_X8_isWithin ms_X8_isWithin ml_8_108 (c_X8_isWithin (by omega) (by omega) (by omega)) (by decide) rfl (Nat.le_of_ble_eq_true rfl) dX8_buyer_21 ?_
    refine pw_if_eq_b (tgt := 37) C dX8_buyer_24 rfl (fun c24 => ?_) (fun c24 => ?_)
    · refine pw_bipush C dX8_buyer_37 (by decide) ?_
      exact pw_iret C R dX8_buyer_39 ⟨(congrArg (fun q => some (iv q)) (by unfold xBuyer; (try unfold has at *); (try unfold place at *); (try unfold hasB at *); (try unfold sw4); (try unfold sw3); (repeat (first | rw [pif_t (by first | omega | assumption)] | rw [pif_f (by first | omega | assumption)])); all_goals (first | rfl | omega | ((repeat' split) <;> first | rfl | omega)))), ⟨rfl, (by unfold vBuyer; (try unfold has); (try unfold place); (try unfold hasB); first | (rw [vif_t (by omega)]; exact Fr.rf _) | (rw [vif_f (by omega)]; exact Fr.rf _)), fun _ _ _ _ => rfl⟩⟩
    · refine pw_iload_n C dX8_buyer_27 rfl ?_
      refine pw_iconst C dX8_buyer_28 ?_
      refine pw_bipush C dX8_buyer_29 (by decide) ?_
      refine pw_cSI C [_, _, _] mi_X8_isWithin ms_X8_isWithin ml_8_108 (c_X8_isWithin (by omega) (by omega) (by omega)) (by decide) rfl (Nat.le_of_ble_eq_true rfl) dX8_buyer_31 ?_
      refine pw_if_ne_b (tgt := 40) C dX8_buyer_34 rfl (fun c34 => ?_) (fun c34 => ?_)
      · refine pw_aload_n C dX8_buyer_40 rfl ?_
        refine gf_8_12 C dX8_buyer_41 ?_
        refine gf_8_70 0 (by decide) C dX8_buyer_44 ?_
        refine gf_8_74 0 (by decide) C dX8_buyer_47 (fun r47 => ?_)
        refine pw_bipush C dX8_buyer_50 (by decide) ?_
        refine pw_icmp_lt (tgt := 58) C dX8_buyer_52 rfl (by omega) (by omega) (fun c52 => ?_) (fun c52 => ?_)
        · refine pw_aload_n C dX8_buyer_58 rfl ?_
          refine gf_8_12 C dX8_buyer_59 ?_
          refine gf_8_70 0 (by decide) C dX8_buyer_62 ?_
          refine pw_iload_n C dX8_buyer_65 rfl ?_
          refine pw_iload_n C dX8_buyer_66 rfl ?_
          refine pw_iload_n C dX8_buyer_67 rfl ?_
          refine pw_iload C dX8_buyer_68 rfl ?_
          refine pw_V 0 ?_
          refine pw_cVI C [_, _, _, _] mi_X0_add mv_X0_add ml_8_142 (oD_8 (by decide)) rfl (c_X0_add (by decide) (by omega) (by omega) (by omega) (by omega) (by omega) (by omega)) (by decide) rfl (Nat.le_of_ble_eq_true rfl) dX8_buyer_70 ?_
          exact pw_iret C R dX8_buyer_73 ⟨(congrArg (fun q => some (iv q)) (by unfold xBuyer; (try unfold has at *); (try unfold place at *); (try unfold hasB at *); (try unfold sw4); (try unfold sw3); (repeat (first | rw [pif_t (by first | omega | assumption)] | rw [pif_f (by first | omega | assumption)])); all_goals (first | rfl | omega | ((repeat' split) <;> first | rfl | omega)))), ⟨rfl, (by unfold vBuyer; (try unfold has); (try unfold place); (try unfold hasB); first | (rw [vif_t (by omega)]; exact Fr.rf _) | (rw [vif_f (by omega)]; exact Fr.rf _)), fun _ _ _ _ => rfl⟩⟩
        · refine pw_bipush C dX8_buyer_55 (by decide) ?_
          exact pw_iret C R dX8_buyer_57 ⟨(congrArg (fun q => some (iv q)) (by unfold xBuyer; (try unfold has at *); (try unfold place at *); (try unfold hasB at *); (try unfold sw4); (try unfold sw3); (repeat (first | rw [pif_t (by first | omega | assumption)] | rw [pif_f (by first | omega | assumption)])); all_goals (first | rfl | omega | ((repeat' split) <;> first | rfl | omega)))), ⟨rfl, (by unfold vBuyer; (try unfold has); (try unfold place); (try unfold hasB); first | (rw [vif_t (by omega)]; exact Fr.rf _) | (rw [vif_f (by omega)]; exact Fr.rf _)), fun _ _ _ _ => rfl⟩⟩
      · refine pw_bipush C dX8_buyer_37 (by decide) ?_
        exact pw_iret C R dX8_buyer_39 ⟨(congrArg (fun q => some (iv q)) (by unfold xBuyer; (try unfold has at *); (try unfold place at *); (try unfold hasB at *); (try unfold sw4); (try unfold sw3); (repeat (first | rw [pif_t (by first | omega | assumption)] | rw [pif_f (by first | omega | assumption)])); all_goals (first | rfl | omega | ((repeat' split) <;> first | rfl | omega)))), ⟨rfl, (by unfold vBuyer; (try unfold has); (try unfold place); (try unfold hasB); first | (rw [vif_t (by omega)]; exact Fr.rf _) | (rw [vif_f (by omega)]; exact Fr.rf _)), fun _ _ _ _ => rfl⟩⟩
  · refine pw_iconst C dX8_buyer_16 ?_
    exact pw_iret C R dX8_buyer_17 ⟨(congrArg (fun q => some (iv q)) (by unfold xBuyer; (try unfold has at *); (try unfold place at *); (try unfold hasB at *); (try unfold sw4); (try unfold sw3); (repeat (first | rw [pif_t (by first | omega | assumption)] | rw [pif_f (by first | omega | assumption)])); all_goals (first | rfl | omega | ((repeat' split) <;> first | rfl | omega)))), ⟨rfl, (by unfold vBuyer; (try unfold has); (try unfold place); (try unfold hasB); first | (rw [vif_t (by omega)]; exact Fr.rf _) | (rw [vif_f (by omega)]; exact Fr.rf _)), fun _ _ _ _ => rfl⟩⟩
set_option maxRecDepth 100000 in
set_option maxHeartbeats 400000 in
theorem c_X8_ofBuyer {l : Launch} {S : SW} {M : Mem} {x w : Int}  (hx : InR x) (hw : InR w) (hI : DayOk (M 0)) (hk : M 0 0 0 11 = -9) (hS : ShOk (M 2))  : PM l S yX8_ofBuyer cX8_ofBuyer 4 (some .int) 1 21 [rv S 2 0 0, iv x, iv w] (M) (rX (xOfBuyer (M 0) x w) M (M 0) (M 2)) := by
  refine PM.of (own := RX8) (by decide) rfl [some (rv S 2 0 0), some (iv x), some (iv w), none] rfl rfl (Nat.le_of_ble_eq_true rfl) (fun X hXl C R => ?_)
  subst hXl
  obtain ⟨i1, i2, i3, i4, i5, i6, i7, i8⟩ := id hI
  refine pw_aload_n C dX8_ofBuyer_0 rfl ?_
  refine gf_8_12 C dX8_ofBuyer_1 ?_
  refine gf_8_70 0 (by decide) C dX8_ofBuyer_4 ?_
  refine pw_astore_3 C dX8_ofBuyer_7 (kk := ?_)
  refine pw_aload_n C dX8_ofBuyer_8 rfl ?_
  refine pw_iload_n C dX8_ofBuyer_9 rfl ?_
  refine pw_V 0 ?_
  refine pw_cVI C [_] mi_X0_has mv_X0_has ml_8_145 (oD_8 (by decide)) rfl (c_X0_has (by decide) (by omega)) (by decide) rfl (Nat.le_of_ble_eq_true rfl) dX8_ofBuyer_10 ?_
  refine pw_U 0 ?_
  refine pw_if_ne_b (tgt := 18) C dX8_ofBuyer_13 rfl (fun c13 => ?_) (fun c13 => ?_)
  · refine pw_iload_n C dX8_ofBuyer_18 rfl ?_
    refine pw_tsw4 C 48 55 62 69 76 (by omega) dX8_ofBuyer_19 rfl rfl rfl rfl rfl rfl (fun c19 => ?_) (fun c19 => ?_) (fun c19 => ?_) (fun c19 => ?_) (fun c19 => ?_)
    · refine pw_aload_n C dX8_ofBuyer_48 rfl ?_
      refine gf_8_148 0 (by decide) C dX8_ofBuyer_49 ?_
      refine pw_iload_n C dX8_ofBuyer_52 rfl ?_
      refine pw_iald C (aD_9 (by decide)) (by omega) (by omega) (by decide) dX8_ofBuyer_53 (fun r53 => ?_)
      exact pw_iret C R dX8_ofBuyer_54 ⟨(congrArg (fun q => some (iv q)) (by unfold xOfBuyer; (try unfold has at *); (try unfold place at *); (try unfold hasB at *); (try unfold sw4); (try unfold sw3); (repeat (first | rw [pif_t (by first | omega | assumption)] | rw [pif_f (by first | omega | assumption)])); all_goals (first | rfl | omega | ((repeat' split) <;> first | rfl | omega)))), ⟨rfl, Fr.rf _, fun _ _ _ _ => rfl⟩⟩
    · refine pw_aload_n C dX8_ofBuyer_55 rfl ?_
      refine gf_8_151 0 (by decide) C dX8_ofBuyer_56 ?_
      refine pw_iload_n C dX8_ofBuyer_59 rfl ?_
      refine pw_iald C (aD_10 (by decide)) (by omega) (by omega) (by decide) dX8_ofBuyer_60 (fun r60 => ?_)
      exact pw_iret C R dX8_ofBuyer_61 ⟨(congrArg (fun q => some (iv q)) (by unfold xOfBuyer; (try unfold has at *); (try unfold place at *); (try unfold hasB at *); (try unfold sw4); (try unfold sw3); (repeat (first | rw [pif_t (by first | omega | assumption)] | rw [pif_f (by first | omega | assumption)])); all_goals (first | rfl | omega | ((repeat' split) <;> first | rfl | omega)))), ⟨rfl, Fr.rf _, fun _ _ _ _ => rfl⟩⟩
    · refine pw_aload_n C dX8_ofBuyer_62 rfl ?_
      refine gf_8_154 0 (by decide) C dX8_ofBuyer_63 ?_
      refine pw_iload_n C dX8_ofBuyer_66 rfl ?_
      refine pw_iald C (aD_11 (by decide)) (by omega) (by omega) (by decide) dX8_ofBuyer_67 (fun r67 => ?_)
      exact pw_iret C R dX8_ofBuyer_68 ⟨(congrArg (fun q => some (iv q)) (by unfold xOfBuyer; (try unfold has at *); (try unfold place at *); (try unfold hasB at *); (try unfold sw4); (try unfold sw3); (repeat (first | rw [pif_t (by first | omega | assumption)] | rw [pif_f (by first | omega | assumption)])); all_goals (first | rfl | omega | ((repeat' split) <;> first | rfl | omega)))), ⟨rfl, Fr.rf _, fun _ _ _ _ => rfl⟩⟩
    · refine pw_aload_n C dX8_ofBuyer_69 rfl ?_
      refine gf_8_157 0 (by decide) C dX8_ofBuyer_70 ?_
      refine pw_iload_n C dX8_ofBuyer_73 rfl ?_
      refine pw_iald C (aD_12 (by decide)) (by omega) (by omega) (by decide) dX8_ofBuyer_74 (fun r74 => ?_)
      exact pw_iret C R dX8_ofBuyer_75 ⟨(congrArg (fun q => some (iv q)) (by unfold xOfBuyer; (try unfold has at *); (try unfold place at *); (try unfold hasB at *); (try unfold sw4); (try unfold sw3); (repeat (first | rw [pif_t (by first | omega | assumption)] | rw [pif_f (by first | omega | assumption)])); all_goals (first | rfl | omega | ((repeat' split) <;> first | rfl | omega)))), ⟨rfl, Fr.rf _, fun _ _ _ _ => rfl⟩⟩
    · refine pw_bipush C dX8_ofBuyer_76 (by decide) ?_
      exact pw_iret C R dX8_ofBuyer_78 ⟨(congrArg (fun q => some (iv q)) (by unfold xOfBuyer; (try unfold has at *); (try unfold place at *); (try unfold hasB at *); (try unfold sw4); (try unfold sw3); (repeat (first | rw [pif_t (by first | omega | assumption)] | rw [pif_f (by first | omega | assumption)])); all_goals (first | rfl | omega | ((repeat' split) <;> first | rfl | omega)))), ⟨rfl, Fr.rf _, fun _ _ _ _ => rfl⟩⟩
  · refine pw_iconst C dX8_ofBuyer_16 ?_
    exact pw_iret C R dX8_ofBuyer_17 ⟨(congrArg (fun q => some (iv q)) (by unfold xOfBuyer; (try unfold has at *); (try unfold place at *); (try unfold hasB at *); (try unfold sw4); (try unfold sw3); (repeat (first | rw [pif_t (by first | omega | assumption)] | rw [pif_f (by first | omega | assumption)])); all_goals (first | rfl | omega | ((repeat' split) <;> first | rfl | omega)))), ⟨rfl, Fr.rf _, fun _ _ _ _ => rfl⟩⟩
set_option maxRecDepth 100000 in
set_option maxHeartbeats 400000 in
theorem c_X8_worth {l : Launch} {S : SW} {M : Mem} {x s t : Int}  (hx : InR x) (hs : InR s) (ht : InR t) (hI : DayOk (M 0)) (hk : M 0 0 0 11 = -9) (hS : ShOk (M 2))  : PM l S yX8_worth cX8_worth 4 (some .int) 2 47 [rv S 2 0 0, iv x, iv s, iv t] (M) (rX (xWorth (M 0) x s t) M (M 0) (M 2)) := by
  refine PM.of (own := RX8) (by decide) rfl [some (rv S 2 0 0), some (iv x), some (iv s), some (iv t)] rfl rfl (Nat.le_of_ble_eq_true rfl) (fun X hXl C R => ?_)
  subst hXl
  obtain ⟨i1, i2, i3, i4, i5, i6, i7, i8⟩ := id hI
  refine pw_aload_n C dX8_worth_0 rfl ?_
  refine gf_8_12 C dX8_worth_1 ?_
  refine gf_8_70 0 (by decide) C dX8_worth_4 ?_
  refine pw_iload_n C dX8_worth_7 rfl ?_
  refine pw_V 0 ?_
  refine pw_cVI C [_] mi_X0_has mv_X0_has ml_8_145 (oD_8 (by decide)) rfl (c_X0_has (by decide) (by omega)) (by decide) rfl (Nat.le_of_ble_eq_true rfl) dX8_worth_8 ?_
  refine pw_U 0 ?_
  refine pw_if_eq_b (tgt := 29) C dX8_worth_11 rfl (fun c11 => ?_) (fun c11 => ?_)
  · refine pw_iconst C dX8_worth_29 ?_
    exact pw_iret C R dX8_worth_30 ⟨(congrArg (fun q => some (iv q)) (by unfold xWorth; (try unfold has at *); (try unfold place at *); (try unfold hasB at *); (try unfold sw4); (try unfold sw3); (repeat (first | rw [pif_t (by first | omega | assumption)] | rw [pif_f (by first | omega | assumption)])); all_goals (first | rfl | omega | ((repeat' split) <;> first | rfl | omega)))), ⟨rfl, (by first | exact Fr.rf _ | exact (Fr.rf _).openVF), fun _ _ _ _ => rfl⟩⟩
  · refine pw_aload_n C dX8_worth_14 rfl ?_
    refine gf_8_12 C dX8_worth_15 ?_
    refine gf_8_60 0 (by decide) C dX8_worth_18 ?_
    refine pw_iload_n C dX8_worth_21 rfl ?_
    refine pw_iload_n C dX8_worth_22 rfl ?_
    refine pw_V 0 ?_
    refine pw_cVI C [_, _] mi_X6_hasPlace mv_X6_hasPlace ml_8_100 (oD_1 (by decide)) rfl (c_X6_hasPlace (by decide) (by omega) (by omega)) (by decide) rfl (Nat.le_of_ble_eq_true rfl) dX8_worth_23 ?_
    refine pw_U 0 ?_
    refine pw_if_ne_b (tgt := 31) C dX8_worth_26 rfl (fun c26 => ?_) (fun c26 => ?_)
    · refine pw_aload_n C dX8_worth_31 rfl ?_
      refine gf_8_12 C dX8_worth_32 ?_
      refine pw_V 0 ?_
      refine pw_cVV C [] mi_X1_open mv_X1_open ml_8_160 (oD_0 (by decide)) rfl (c_X1_open (by decide) hI) (by decide) rfl (Nat.le_of_ble_eq_true rfl) dX8_worth_35 ?_
      have eo8 : openV (M 0) 8 0 4 = M 0 8 0 4 := (Fr.rf _).openVF 8 0 4 (by omega) (by omega)
      have eo6 : openV (M 0) 1 0 6 = M 0 1 0 6 := (Fr.rf _).openVF 1 0 6 (by omega) (by omega)
      have eo5 : openV (M 0) 1 0 5 = M 0 1 0 5 := (Fr.rf _).openVF 1 0 5 (by omega) (by omega)
      have hIo := hI.fr (Fr.rf (M 0)).openVF
      refine pw_aload_n C dX8_worth_38 rfl ?_
      refine gf_8_12 C dX8_worth_39 ?_
      refine pw_iload_n C dX8_worth_42 rfl ?_
      refine pw_iload_n C dX8_worth_43 rfl ?_
      refine pw_iload_n C dX8_worth_44 rfl ?_
      refine pw_cVI C [_, _, _] mi_X1_worthTo mv_X1_worthTo ml_8_163 (oD_0 (by decide)) rfl (c_X1_worthTo (by decide) (by omega) (by omega) (by omega) hIo (by omega) (by omega) (by omega) (by omega) (by omega) (by omega)) (by decide) rfl (Nat.le_of_ble_eq_true rfl) dX8_worth_45 ?_
      exact pw_iret C R dX8_worth_48 ⟨(congrArg (fun q => some (iv q)) (by unfold xWorth; (try unfold has at *); (try unfold place at *); (try unfold hasB at *); (try unfold sw4); (try unfold sw3); (repeat (first | rw [pif_t (by first | omega | assumption)] | rw [pif_f (by first | omega | assumption)])); all_goals (first | rfl | omega | ((repeat' split) <;> first | rfl | omega)))), ⟨rfl, (by first | exact Fr.rf _ | exact (Fr.rf _).openVF), fun _ _ _ _ => rfl⟩⟩
    · refine pw_iconst C dX8_worth_29 ?_
      exact pw_iret C R dX8_worth_30 ⟨(congrArg (fun q => some (iv q)) (by unfold xWorth; (try unfold has at *); (try unfold place at *); (try unfold hasB at *); (try unfold sw4); (try unfold sw3); (repeat (first | rw [pif_t (by first | omega | assumption)] | rw [pif_f (by first | omega | assumption)])); all_goals (first | rfl | omega | ((repeat' split) <;> first | rfl | omega)))), ⟨rfl, (by first | exact Fr.rf _ | exact (Fr.rf _).openVF), fun _ _ _ _ => rfl⟩⟩
set_option maxRecDepth 100000 in
set_option maxHeartbeats 400000 in
theorem c_X8_day {l : Launch} {S : SW} {M : Mem} {w : Int}  (hw : InR w) (hI : DayOk (M 0)) (hk : M 0 0 0 11 = -9) (hS : ShOk (M 2))  : PM l S yX8_day cX8_day 2 (some .int) 5 120 [rv S 2 0 0, iv w] (M) (rX (xDay (M 0) w) M (M 0) (M 2)) := by
  refine PM.of (own := RX8) (by decide) rfl [some (rv S 2 0 0), some (iv w)] rfl rfl (Nat.le_of_ble_eq_true rfl) (fun X hXl C R => ?_)
  subst hXl
  obtain ⟨i1, i2, i3, i4, i5, i6, i7, i8⟩ := id hI
  refine pw_iload_n C dX8_day_0 rfl ?_
  refine pw_iconst C dX8_day_1 ?_
  refine pw_iconst C dX8_day_2 ?_
  refine pw_cSI C [_, _, _] mi_X8_isWithin ms_X8_isWithin ml_8_108 (c_X8_isWithin (by omega) (by omega) (by omega)) (by decide) rfl (Nat.le_of_ble_eq_true rfl) dX8_day_3 ?_
  refine pw_if_ne_b (tgt := 12) C dX8_day_6 rfl (fun c6 => ?_) (fun c6 => ?_)
  · refine pw_aload_n C dX8_day_12 rfl ?_
    refine gf_8_12 C dX8_day_13 ?_
    refine gf_8_60 0 (by decide) C dX8_day_16 ?_
    refine pw_V 0 ?_
    refine pw_cVI C [] mi_X6_isTold mv_X6_isTold ml_8_131 (oD_1 (by decide)) rfl (c_X6_isTold (by decide)) (by decide) rfl (Nat.le_of_ble_eq_true rfl) dX8_day_19 ?_
    refine pw_U 0 ?_
    refine pw_if_ne_b (tgt := 28) C dX8_day_22 rfl (fun c22 => ?_) (fun c22 => ?_)
    · refine pw_aload_n C dX8_day_28 rfl ?_
      refine gf_8_12 C dX8_day_29 ?_
      refine pw_V 0 ?_
      refine pw_cVV C [] mi_X1_goThrough mv_X1_goThrough ml_8_167 (oD_0 (by decide)) rfl (c_X1_goThrough (by decide) hI (by omega)) (by decide) rfl (Nat.le_of_ble_eq_true rfl) dX8_day_32 ?_
      have eg6 : gt (M 0) 1 0 6 = M 0 1 0 6 := (Fr.rf _).gtF 1 0 6 (by omega) (by omega)
      refine pw_iload_n C dX8_day_35 rfl ?_
      refine pw_tsw3 C 64 72 91 99 (by omega) dX8_day_36 rfl rfl rfl rfl rfl (fun c36 => ?_) (fun c36 => ?_) (fun c36 => ?_) (fun c36 => ?_)
      · refine pw_aload_n C dX8_day_64 rfl ?_
        refine gf_8_12 C dX8_day_65 ?_
        refine gv_8_170 0 (by decide) C dX8_day_68 (fun r68 => ?_)
        exact pw_iret C R dX8_day_71 ⟨(congrArg (fun q => some (iv q)) (by unfold xDay; (try unfold has at *); (try unfold place at *); (try unfold hasB at *); (try unfold sw4); (try unfold sw3); (repeat (first | rw [pif_t (by first | omega | assumption)] | rw [pif_f (by first | omega | assumption)])); all_goals (first | rfl | omega | ((repeat' split) <;> first | rfl | omega)))), ⟨rfl, (by first | exact Fr.rf _ | exact (Fr.rf _).gtF), fun _ _ _ _ => rfl⟩⟩
      · refine pw_aload_n C dX8_day_72 rfl ?_
        refine gf_8_12 C dX8_day_73 ?_
        refine gf_8_60 0 (by decide) C dX8_day_76 ?_
        refine pw_cVI C [] mi_X6_allFish mv_X6_allFish ml_8_173 (oD_1 (by decide)) rfl (c_X6_allFish (by decide) (by omega) (by omega)) (by decide) rfl (Nat.le_of_ble_eq_true rfl) dX8_day_79 ?_
        refine pw_aload_n C dX8_day_82 rfl ?_
        refine gf_8_12 C dX8_day_83 ?_
        refine pw_cVI C [] mi_X1_allLeft mv_X1_allLeft ml_8_177 (oD_0 (by decide)) rfl (c_X1_allLeft (by decide) (by omega) (by omega)) (by decide) rfl (Nat.le_of_ble_eq_true rfl) dX8_day_86 ?_
        refine pw_isub C dX8_day_89 ?_
        exact pw_iret C R dX8_day_90 ⟨(congrArg (fun q => some (iv q)) (by unfold xDay; (try unfold has at *); (try unfold place at *); (try unfold hasB at *); (try unfold sw4); (try unfold sw3); (repeat (first | rw [pif_t (by first | omega | assumption)] | rw [pif_f (by first | omega | assumption)])); all_goals (first | rfl | omega | ((repeat' split) <;> first | rfl | omega)))), ⟨rfl, (by first | exact Fr.rf _ | exact (Fr.rf _).gtF), fun _ _ _ _ => rfl⟩⟩
      · refine pw_aload_n C dX8_day_91 rfl ?_
        refine gf_8_12 C dX8_day_92 ?_
        refine pw_cVI C [] mi_X1_allLeft mv_X1_allLeft ml_8_177 (oD_0 (by decide)) rfl (c_X1_allLeft (by decide) (by omega) (by omega)) (by decide) rfl (Nat.le_of_ble_eq_true rfl) dX8_day_95 ?_
        exact pw_iret C R dX8_day_98 ⟨(congrArg (fun q => some (iv q)) (by unfold xDay; (try unfold has at *); (try unfold place at *); (try unfold hasB at *); (try unfold sw4); (try unfold sw3); (repeat (first | rw [pif_t (by first | omega | assumption)] | rw [pif_f (by first | omega | assumption)])); all_goals (first | rfl | omega | ((repeat' split) <;> first | rfl | omega)))), ⟨rfl, (by first | exact Fr.rf _ | exact (Fr.rf _).gtF), fun _ _ _ _ => rfl⟩⟩
      · refine pw_aload_n C dX8_day_99 rfl ?_
        refine gf_8_12 C dX8_day_100 ?_
        refine pw_cVI C [] mi_X1_profit mv_X1_profit ml_8_180 (oD_0 (by decide)) rfl (c_X1_profit (by decide) (by omega) (by omega)) (by decide) rfl (Nat.le_of_ble_eq_true rfl) dX8_day_103 ?_
        exact pw_iret C R dX8_day_106 ⟨(congrArg (fun q => some (iv q)) (by unfold xDay; (try unfold has at *); (try unfold place at *); (try unfold hasB at *); (try unfold sw4); (try unfold sw3); (repeat (first | rw [pif_t (by first | omega | assumption)] | rw [pif_f (by first | omega | assumption)])); all_goals (first | rfl | omega | ((repeat' split) <;> first | rfl | omega)))), ⟨rfl, (by first | exact Fr.rf _ | exact (Fr.rf _).gtF), fun _ _ _ _ => rfl⟩⟩
    · refine pw_bipush C dX8_day_25 (by decide) ?_
      exact pw_iret C R dX8_day_27 ⟨(congrArg (fun q => some (iv q)) (by unfold xDay; (try unfold has at *); (try unfold place at *); (try unfold hasB at *); (try unfold sw4); (try unfold sw3); (repeat (first | rw [pif_t (by first | omega | assumption)] | rw [pif_f (by first | omega | assumption)])); all_goals (first | rfl | omega | ((repeat' split) <;> first | rfl | omega)))), ⟨rfl, (by first | exact Fr.rf _ | exact (Fr.rf _).gtF), fun _ _ _ _ => rfl⟩⟩
  · refine pw_bipush C dX8_day_9 (by decide) ?_
    exact pw_iret C R dX8_day_11 ⟨(congrArg (fun q => some (iv q)) (by unfold xDay; (try unfold has at *); (try unfold place at *); (try unfold hasB at *); (try unfold sw4); (try unfold sw3); (repeat (first | rw [pif_t (by first | omega | assumption)] | rw [pif_f (by first | omega | assumption)])); all_goals (first | rfl | omega | ((repeat' split) <;> first | rfl | omega)))), ⟨rfl, (by first | exact Fr.rf _ | exact (Fr.rf _).gtF), fun _ _ _ _ => rfl⟩⟩
set_option maxRecDepth 100000 in
set_option maxHeartbeats 400000 in
theorem c_X8_bought {l : Launch} {S : SW} {M : Mem} {x w : Int}  (hx : InR x) (hw : InR w) (hI : DayOk (M 0)) (hk : M 0 0 0 11 = -9) (hS : ShOk (M 2))  : PM l S yX8_bought cX8_bought 3 (some .int) 5 120 [rv S 2 0 0, iv x, iv w] (M) (rX (xBought (M 0) x w) M (M 0) (M 2)) := by
  refine PM.of (own := RX8) (by decide) rfl [some (rv S 2 0 0), some (iv x), some (iv w)] rfl rfl (Nat.le_of_ble_eq_true rfl) (fun X hXl C R => ?_)
  subst hXl
  obtain ⟨i1, i2, i3, i4, i5, i6, i7, i8⟩ := id hI
  refine pw_aload_n C dX8_bought_0 rfl ?_
  refine gf_8_12 C dX8_bought_1 ?_
  refine gf_8_70 0 (by decide) C dX8_bought_4 ?_
  refine pw_iload_n C dX8_bought_7 rfl ?_
  refine pw_V 0 ?_
  refine pw_cVI C [_] mi_X0_has mv_X0_has ml_8_145 (oD_8 (by decide)) rfl (c_X0_has (by decide) (by omega)) (by decide) rfl (Nat.le_of_ble_eq_true rfl) dX8_bought_8 ?_
  refine pw_U 0 ?_
  refine pw_if_ne_b (tgt := 16) C dX8_bought_11 rfl (fun c11 => ?_) (fun c11 => ?_)
  · refine pw_iload_n C dX8_bought_16 rfl ?_
    refine pw_iconst C dX8_bought_17 ?_
    refine pw_iconst C dX8_bought_18 ?_
    refine pw_cSI C [_, _, _] mi_X8_isWithin ms_X8_isWithin ml_8_108 (c_X8_isWithin (by omega) (by omega) (by omega)) (by decide) rfl (Nat.le_of_ble_eq_true rfl) dX8_bought_19 ?_
    refine pw_if_ne_b (tgt := 28) C dX8_bought_22 rfl (fun c22 => ?_) (fun c22 => ?_)
    · refine pw_aload_n C dX8_bought_28 rfl ?_
      refine gf_8_12 C dX8_bought_29 ?_
      refine pw_V 0 ?_
      refine pw_cVV C [] mi_X1_goThrough mv_X1_goThrough ml_8_167 (oD_0 (by decide)) rfl (c_X1_goThrough (by decide) hI (by omega)) (by decide) rfl (Nat.le_of_ble_eq_true rfl) dX8_bought_32 ?_
      refine pw_iload_n C dX8_bought_35 rfl ?_
      refine pw_tsw3 C 64 74 84 94 (by omega) dX8_bought_36 rfl rfl rfl rfl rfl (fun c36 => ?_) (fun c36 => ?_) (fun c36 => ?_) (fun c36 => ?_)
      · refine pw_aload_n C dX8_bought_64 rfl ?_
        refine gf_8_12 C dX8_bought_65 ?_
        refine gf_8_183 0 (by decide) C dX8_bought_68 ?_
        refine pw_iload_n C dX8_bought_71 rfl ?_
        refine pw_ialdV C (aD_16 (by decide)) (by omega) (by omega) (by decide) dX8_bought_72 (fun r72 => ?_)
        exact pw_iret C R dX8_bought_73 ⟨(congrArg (fun q => some (iv q)) (by unfold xBought; (try unfold has at *); (try unfold place at *); (try unfold hasB at *); (try unfold sw4); (try unfold sw3); (repeat (first | rw [pif_t (by first | omega | assumption)] | rw [pif_f (by first | omega | assumption)])); all_goals (first | rfl | omega | ((repeat' split) <;> first | rfl | omega)))), ⟨rfl, (by first | exact Fr.rf _ | exact (Fr.rf _).gtF), fun _ _ _ _ => rfl⟩⟩
      · refine pw_aload_n C dX8_bought_74 rfl ?_
        refine gf_8_12 C dX8_bought_75 ?_
        refine gf_8_186 0 (by decide) C dX8_bought_78 ?_
        refine pw_iload_n C dX8_bought_81 rfl ?_
        refine pw_ialdV C (aD_17 (by decide)) (by omega) (by omega) (by decide) dX8_bought_82 (fun r82 => ?_)
        exact pw_iret C R dX8_bought_83 ⟨(congrArg (fun q => some (iv q)) (by unfold xBought; (try unfold has at *); (try unfold place at *); (try unfold hasB at *); (try unfold sw4); (try unfold sw3); (repeat (first | rw [pif_t (by first | omega | assumption)] | rw [pif_f (by first | omega | assumption)])); all_goals (first | rfl | omega | ((repeat' split) <;> first | rfl | omega)))), ⟨rfl, (by first | exact Fr.rf _ | exact (Fr.rf _).gtF), fun _ _ _ _ => rfl⟩⟩
      · refine pw_aload_n C dX8_bought_84 rfl ?_
        refine gf_8_12 C dX8_bought_85 ?_
        refine gf_8_189 0 (by decide) C dX8_bought_88 ?_
        refine pw_iload_n C dX8_bought_91 rfl ?_
        refine pw_ialdV C (aD_18 (by decide)) (by omega) (by omega) (by decide) dX8_bought_92 (fun r92 => ?_)
        exact pw_iret C R dX8_bought_93 ⟨(congrArg (fun q => some (iv q)) (by unfold xBought; (try unfold has at *); (try unfold place at *); (try unfold hasB at *); (try unfold sw4); (try unfold sw3); (repeat (first | rw [pif_t (by first | omega | assumption)] | rw [pif_f (by first | omega | assumption)])); all_goals (first | rfl | omega | ((repeat' split) <;> first | rfl | omega)))), ⟨rfl, (by first | exact Fr.rf _ | exact (Fr.rf _).gtF), fun _ _ _ _ => rfl⟩⟩
      · refine pw_aload_n C dX8_bought_94 rfl ?_
        refine gf_8_12 C dX8_bought_95 ?_
        refine gf_8_192 0 (by decide) C dX8_bought_98 ?_
        refine pw_iload_n C dX8_bought_101 rfl ?_
        refine pw_ialdV C (aD_19 (by decide)) (by omega) (by omega) (by decide) dX8_bought_102 (fun r102 => ?_)
        exact pw_iret C R dX8_bought_103 ⟨(congrArg (fun q => some (iv q)) (by unfold xBought; (try unfold has at *); (try unfold place at *); (try unfold hasB at *); (try unfold sw4); (try unfold sw3); (repeat (first | rw [pif_t (by first | omega | assumption)] | rw [pif_f (by first | omega | assumption)])); all_goals (first | rfl | omega | ((repeat' split) <;> first | rfl | omega)))), ⟨rfl, (by first | exact Fr.rf _ | exact (Fr.rf _).gtF), fun _ _ _ _ => rfl⟩⟩
    · refine pw_bipush C dX8_bought_25 (by decide) ?_
      exact pw_iret C R dX8_bought_27 ⟨(congrArg (fun q => some (iv q)) (by unfold xBought; (try unfold has at *); (try unfold place at *); (try unfold hasB at *); (try unfold sw4); (try unfold sw3); (repeat (first | rw [pif_t (by first | omega | assumption)] | rw [pif_f (by first | omega | assumption)])); all_goals (first | rfl | omega | ((repeat' split) <;> first | rfl | omega)))), ⟨rfl, (by first | exact Fr.rf _ | exact (Fr.rf _).gtF), fun _ _ _ _ => rfl⟩⟩
  · refine pw_iconst C dX8_bought_14 ?_
    exact pw_iret C R dX8_bought_15 ⟨(congrArg (fun q => some (iv q)) (by unfold xBought; (try unfold has at *); (try unfold place at *); (try unfold hasB at *); (try unfold sw4); (try unfold sw3); (repeat (first | rw [pif_t (by first | omega | assumption)] | rw [pif_f (by first | omega | assumption)])); all_goals (first | rfl | omega | ((repeat' split) <;> first | rfl | omega)))), ⟨rfl, (by first | exact Fr.rf _ | exact (Fr.rf _).gtF), fun _ _ _ _ => rfl⟩⟩
set_option maxRecDepth 100000 in
set_option maxHeartbeats 400000 in
theorem c_X8_sold {l : Launch} {S : SW} {M : Mem} {s w : Int}  (hs : InR s) (hw : InR w) (hI : DayOk (M 0)) (hk : M 0 0 0 11 = -9) (hS : ShOk (M 2))  : PM l S yX8_sold cX8_sold 3 (some .int) 5 120 [rv S 2 0 0, iv s, iv w] (M) (rX (xSold (M 0) s w) M (M 0) (M 2)) := by
  refine PM.of (own := RX8) (by decide) rfl [some (rv S 2 0 0), some (iv s), some (iv w)] rfl rfl (Nat.le_of_ble_eq_true rfl) (fun X hXl C R => ?_)
  subst hXl
  obtain ⟨i1, i2, i3, i4, i5, i6, i7, i8⟩ := id hI
  refine pw_aload_n C dX8_sold_0 rfl ?_
  refine gf_8_12 C dX8_sold_1 ?_
  refine gf_8_60 0 (by decide) C dX8_sold_4 ?_
  refine pw_iload_n C dX8_sold_7 rfl ?_
  refine pw_V 0 ?_
  refine pw_cVI C [_] mi_X6_hasSort mv_X6_hasSort ml_8_83 (oD_1 (by decide)) rfl (c_X6_hasSort (by decide) (by omega)) (by decide) rfl (Nat.le_of_ble_eq_true rfl) dX8_sold_8 ?_
  refine pw_U 0 ?_
  refine pw_if_ne_b (tgt := 16) C dX8_sold_11 rfl (fun c11 => ?_) (fun c11 => ?_)
  · refine pw_iload_n C dX8_sold_16 rfl ?_
    refine pw_iconst C dX8_sold_17 ?_
    refine pw_iconst C dX8_sold_18 ?_
    refine pw_cSI C [_, _, _] mi_X8_isWithin ms_X8_isWithin ml_8_108 (c_X8_isWithin (by omega) (by omega) (by omega)) (by decide) rfl (Nat.le_of_ble_eq_true rfl) dX8_sold_19 ?_
    refine pw_if_ne_b (tgt := 28) C dX8_sold_22 rfl (fun c22 => ?_) (fun c22 => ?_)
    · refine pw_aload_n C dX8_sold_28 rfl ?_
      refine gf_8_12 C dX8_sold_29 ?_
      refine pw_V 0 ?_
      refine pw_cVV C [] mi_X1_goThrough mv_X1_goThrough ml_8_167 (oD_0 (by decide)) rfl (c_X1_goThrough (by decide) hI (by omega)) (by decide) rfl (Nat.le_of_ble_eq_true rfl) dX8_sold_32 ?_
      refine pw_iload_n C dX8_sold_35 rfl ?_
      refine pw_lsw2 C 64 74 84 (by omega) dX8_sold_36 (by decide) rfl rfl rfl (fun c36 => ?_) (fun c36 => ?_) (fun c36 => ?_)
      · refine pw_aload_n C dX8_sold_64 rfl ?_
        refine gf_8_12 C dX8_sold_65 ?_
        refine gf_8_195 0 (by decide) C dX8_sold_68 ?_
        refine pw_iload_n C dX8_sold_71 rfl ?_
        refine pw_ialdV C (aD_13 (by decide)) (by omega) (by omega) (by decide) dX8_sold_72 (fun r72 => ?_)
        exact pw_iret C R dX8_sold_73 ⟨(congrArg (fun q => some (iv q)) (by unfold xSold; (try unfold has at *); (try unfold place at *); (try unfold hasB at *); (try unfold sw4); (try unfold sw3); (repeat (first | rw [pif_t (by first | omega | assumption)] | rw [pif_f (by first | omega | assumption)])); all_goals (first | rfl | omega | ((repeat' split) <;> first | rfl | omega)))), ⟨rfl, (by first | exact Fr.rf _ | exact (Fr.rf _).gtF), fun _ _ _ _ => rfl⟩⟩
      · refine pw_aload_n C dX8_sold_74 rfl ?_
        refine gf_8_12 C dX8_sold_75 ?_
        refine gf_8_198 0 (by decide) C dX8_sold_78 ?_
        refine pw_iload_n C dX8_sold_81 rfl ?_
        refine pw_ialdV C (aD_14 (by decide)) (by omega) (by omega) (by decide) dX8_sold_82 (fun r82 => ?_)
        exact pw_iret C R dX8_sold_83 ⟨(congrArg (fun q => some (iv q)) (by unfold xSold; (try unfold has at *); (try unfold place at *); (try unfold hasB at *); (try unfold sw4); (try unfold sw3); (repeat (first | rw [pif_t (by first | omega | assumption)] | rw [pif_f (by first | omega | assumption)])); all_goals (first | rfl | omega | ((repeat' split) <;> first | rfl | omega)))), ⟨rfl, (by first | exact Fr.rf _ | exact (Fr.rf _).gtF), fun _ _ _ _ => rfl⟩⟩
      · refine pw_aload_n C dX8_sold_84 rfl ?_
        refine gf_8_12 C dX8_sold_85 ?_
        refine gf_8_201 0 (by decide) C dX8_sold_88 ?_
        refine pw_iload_n C dX8_sold_91 rfl ?_
        refine pw_ialdV C (aD_15 (by decide)) (by omega) (by omega) (by decide) dX8_sold_92 (fun r92 => ?_)
        exact pw_iret C R dX8_sold_93 ⟨(congrArg (fun q => some (iv q)) (by unfold xSold; (try unfold has at *); (try unfold place at *); (try unfold hasB at *); (try unfold sw4); (try unfold sw3); (repeat (first | rw [pif_t (by first | omega | assumption)] | rw [pif_f (by first | omega | assumption)])); all_goals (first | rfl | omega | ((repeat' split) <;> first | rfl | omega)))), ⟨rfl, (by first | exact Fr.rf _ | exact (Fr.rf _).gtF), fun _ _ _ _ => rfl⟩⟩
    · refine pw_bipush C dX8_sold_25 (by decide) ?_
      exact pw_iret C R dX8_sold_27 ⟨(congrArg (fun q => some (iv q)) (by unfold xSold; (try unfold has at *); (try unfold place at *); (try unfold hasB at *); (try unfold sw4); (try unfold sw3); (repeat (first | rw [pif_t (by first | omega | assumption)] | rw [pif_f (by first | omega | assumption)])); all_goals (first | rfl | omega | ((repeat' split) <;> first | rfl | omega)))), ⟨rfl, (by first | exact Fr.rf _ | exact (Fr.rf _).gtF), fun _ _ _ _ => rfl⟩⟩
  · refine pw_iconst C dX8_sold_14 ?_
    exact pw_iret C R dX8_sold_15 ⟨(congrArg (fun q => some (iv q)) (by unfold xSold; (try unfold has at *); (try unfold place at *); (try unfold hasB at *); (try unfold sw4); (try unfold sw3); (repeat (first | rw [pif_t (by first | omega | assumption)] | rw [pif_f (by first | omega | assumption)])); all_goals (first | rfl | omega | ((repeat' split) <;> first | rfl | omega)))), ⟨rfl, (by first | exact Fr.rf _ | exact (Fr.rf _).gtF), fun _ _ _ _ => rfl⟩⟩
set_option maxRecDepth 100000 in
set_option maxHeartbeats 400000 in
theorem c_X8_best {l : Launch} {S : SW} {M : Mem} {s t w : Int}  (hs : InR s) (ht : InR t) (hw : InR w) (hI : DayOk (M 0)) (hk : M 0 0 0 11 = -9) (hS : ShOk (M 2))  : PM l S yX8_best cX8_best 4 (some .int) 6 144 [rv S 2 0 0, iv s, iv t, iv w] (M) (rX (xBest (M 0) s t w) M (M 0) (M 2)) := by
  refine PM.of (own := RX8) (by decide) rfl [some (rv S 2 0 0), some (iv s), some (iv t), some (iv w)] rfl rfl (Nat.le_of_ble_eq_true rfl) (fun X hXl C R => ?_)
  subst hXl
  obtain ⟨i1, i2, i3, i4, i5, i6, i7, i8⟩ := id hI
  refine pw_aload_n C dX8_best_0 rfl ?_
  refine gf_8_12 C dX8_best_1 ?_
  refine gf_8_60 0 (by decide) C dX8_best_4 ?_
  refine pw_iload_n C dX8_best_7 rfl ?_
  refine pw_iload_n C dX8_best_8 rfl ?_
  refine pw_V 0 ?_
  refine pw_cVI C [_, _] mi_X6_hasPlace mv_X6_hasPlace ml_8_100 (oD_1 (by decide)) rfl (c_X6_hasPlace (by decide) (by omega) (by omega)) (by decide) rfl (Nat.le_of_ble_eq_true rfl) dX8_best_9 ?_
  refine pw_U 0 ?_
  refine pw_if_ne_b (tgt := 17) C dX8_best_12 rfl (fun c12 => ?_) (fun c12 => ?_)
  · refine pw_iload_n C dX8_best_17 rfl ?_
    refine pw_iconst C dX8_best_18 ?_
    refine pw_iconst C dX8_best_19 ?_
    refine pw_cSI C [_, _, _] mi_X8_isWithin ms_X8_isWithin ml_8_108 (c_X8_isWithin (by omega) (by omega) (by omega)) (by decide) rfl (Nat.le_of_ble_eq_true rfl) dX8_best_20 ?_
    refine pw_if_ne_b (tgt := 29) C dX8_best_23 rfl (fun c23 => ?_) (fun c23 => ?_)
    · refine pw_aload_n C dX8_best_29 rfl ?_
      refine gf_8_21 C dX8_best_30 ?_
      refine pw_aload_n C dX8_best_33 rfl ?_
      refine gf_8_12 C dX8_best_34 ?_
      refine pw_iload_n C dX8_best_37 rfl ?_
      refine pw_iload_n C dX8_best_38 rfl ?_
      refine pw_cVQV C [_, _, _] mi_X4_findPrice mv_X4_findPrice ml_8_204 oC_1 rfl (c_X4_findPrice (by omega) (by omega) hI hk (by omega) (by omega) (by omega) (by omega)) (by decide) rfl (Nat.le_of_ble_eq_true rfl) dX8_best_39 ?_
      rintro N9 ⟨W, rfl⟩
      refine pw_iload_n C dX8_best_42 rfl ?_
      refine pw_if_ne (tgt := 56) C dX8_best_43 rfl (by omega) (fun c43 => ?_) (fun c43 => ?_)
      · refine pw_aload_n C dX8_best_56 rfl ?_
        refine gf_8_21 C dX8_best_57 ?_
        refine gf_8_211 C dX8_best_60 (fun r60 => ?_)
        try rw [show (mst (mst M 2 (sF (M 2) (amax (bestP (M 0) s t) 30).1 (M 2 1 0 5) (amax (bestP (M 0) s t) 30).2)) 1 W) 2 1 0 4 = (amax (bestP (M 0) s t) 30).1 from sF_p (M 2) (amax (bestP (M 0) s t) 30).1 (M 2 1 0 5) (amax (bestP (M 0) s t) 30).2]
        exact pw_iret C R dX8_best_63 ⟨(congrArg (fun q => some (iv q)) (by unfold xBest; (try unfold has at *); (try unfold place at *); (try unfold hasB at *); (try unfold sw4); (try unfold sw3); (repeat (first | rw [pif_t (by first | omega | assumption)] | rw [pif_f (by first | omega | assumption)])); all_goals (first | rfl | omega | ((repeat' split) <;> first | rfl | omega)))), ⟨rfl, Fr.rf _, (by first | exact fun _ _ _ _ => rfl | exact fun k r i h => sF_n _ _ _ _ (by omega))⟩⟩
      · refine pw_aload_n C dX8_best_46 rfl ?_
        refine gf_8_21 C dX8_best_47 ?_
        refine gf_8_208 C dX8_best_50 (fun r50 => ?_)
        rw [show (mst (mst M 2 (sF (M 2) (amax (bestP (M 0) s t) 30).1 (M 2 1 0 5) (amax (bestP (M 0) s t) 30).2)) 1 W) 2 1 0 6 = (amax (bestP (M 0) s t) 30).2 from sF_a (M 2) (amax (bestP (M 0) s t) 30).1 (M 2 1 0 5) (amax (bestP (M 0) s t) 30).2]
        refine pw_goto (tgt := 63) C dX8_best_53 rfl ?_
        try rw [show (mst (mst M 2 (sF (M 2) (amax (bestP (M 0) s t) 30).1 (M 2 1 0 5) (amax (bestP (M 0) s t) 30).2)) 1 W) 2 1 0 4 = (amax (bestP (M 0) s t) 30).1 from sF_p (M 2) (amax (bestP (M 0) s t) 30).1 (M 2 1 0 5) (amax (bestP (M 0) s t) 30).2]
        exact pw_iret C R dX8_best_63 ⟨(congrArg (fun q => some (iv q)) (by unfold xBest; (try unfold has at *); (try unfold place at *); (try unfold hasB at *); (try unfold sw4); (try unfold sw3); (repeat (first | rw [pif_t (by first | omega | assumption)] | rw [pif_f (by first | omega | assumption)])); all_goals (first | rfl | omega | ((repeat' split) <;> first | rfl | omega)))), ⟨rfl, Fr.rf _, (by first | exact fun _ _ _ _ => rfl | exact fun k r i h => sF_n _ _ _ _ (by omega))⟩⟩
    · refine pw_bipush C dX8_best_26 (by decide) ?_
      exact pw_iret C R dX8_best_28 ⟨(congrArg (fun q => some (iv q)) (by unfold xBest; (try unfold has at *); (try unfold place at *); (try unfold hasB at *); (try unfold sw4); (try unfold sw3); (repeat (first | rw [pif_t (by first | omega | assumption)] | rw [pif_f (by first | omega | assumption)])); all_goals (first | rfl | omega | ((repeat' split) <;> first | rfl | omega)))), ⟨rfl, Fr.rf _, (by first | exact fun _ _ _ _ => rfl | exact fun k r i h => sF_n _ _ _ _ (by omega))⟩⟩
  · refine pw_iconst C dX8_best_15 ?_
    exact pw_iret C R dX8_best_16 ⟨(congrArg (fun q => some (iv q)) (by unfold xBest; (try unfold has at *); (try unfold place at *); (try unfold hasB at *); (try unfold sw4); (try unfold sw3); (repeat (first | rw [pif_t (by first | omega | assumption)] | rw [pif_f (by first | omega | assumption)])); all_goals (first | rfl | omega | ((repeat' split) <;> first | rfl | omega)))), ⟨rfl, Fr.rf _, (by first | exact fun _ _ _ _ => rfl | exact fun k r i h => sF_n _ _ _ _ (by omega))⟩⟩
set_option maxRecDepth 100000 in
set_option maxHeartbeats 400000 in
theorem c_X8_takeOff {l : Launch} {S : SW} {M : Mem} {w : Int}  (hw : InR w) (hI : DayOk (M 0)) (hk : M 0 0 0 11 = -9) (hS : ShOk (M 2))  : PM l S yX8_takeOff cX8_takeOff 2 (some .int) 6 143 [rv S 2 0 0, iv w] (M) (rX (xTake (M 0) w) M (M 0) (M 2)) := by
  refine PM.of (own := RX8) (by decide) rfl [some (rv S 2 0 0), some (iv w)] rfl rfl (Nat.le_of_ble_eq_true rfl) (fun X hXl C R => ?_)
  subst hXl
  obtain ⟨i1, i2, i3, i4, i5, i6, i7, i8⟩ := id hI
  refine pw_iload_n C dX8_takeOff_0 rfl ?_
  refine pw_iconst C dX8_takeOff_1 ?_
  refine pw_iconst C dX8_takeOff_2 ?_
  refine pw_cSI C [_, _, _] mi_X8_isWithin ms_X8_isWithin ml_8_108 (c_X8_isWithin (by omega) (by omega) (by omega)) (by decide) rfl (Nat.le_of_ble_eq_true rfl) dX8_takeOff_3 ?_
  refine pw_if_ne_b (tgt := 12) C dX8_takeOff_6 rfl (fun c6 => ?_) (fun c6 => ?_)
  · refine pw_aload_n C dX8_takeOff_12 rfl ?_
    refine gf_8_12 C dX8_takeOff_13 ?_
    refine gf_8_60 0 (by decide) C dX8_takeOff_16 ?_
    refine pw_V 0 ?_
    refine pw_cVI C [] mi_X6_isTold mv_X6_isTold ml_8_131 (oD_1 (by decide)) rfl (c_X6_isTold (by decide)) (by decide) rfl (Nat.le_of_ble_eq_true rfl) dX8_takeOff_19 ?_
    refine pw_U 0 ?_
    refine pw_if_ne_b (tgt := 28) C dX8_takeOff_22 rfl (fun c22 => ?_) (fun c22 => ?_)
    · refine pw_aload_n C dX8_takeOff_28 rfl ?_
      refine gf_8_21 C dX8_takeOff_29 ?_
      refine pw_aload_n C dX8_takeOff_32 rfl ?_
      refine gf_8_12 C dX8_takeOff_33 ?_
      refine pw_cVQV C [_] mi_X4_findTakingOff mv_X4_findTakingOff ml_8_213 oC_1 rfl (c_X4_findTakingOff hI hk) (by decide) rfl (Nat.le_of_ble_eq_true rfl) dX8_takeOff_36 ?_
      rintro N9 ⟨W, rfl⟩
      refine pw_iload_n C dX8_takeOff_39 rfl ?_
      refine pw_lsw2 C 68 76 84 (by omega) dX8_takeOff_40 (by decide) rfl rfl rfl (fun c40 => ?_) (fun c40 => ?_) (fun c40 => ?_)
      · refine pw_aload_n C dX8_takeOff_68 rfl ?_
        refine gf_8_21 C dX8_takeOff_69 ?_
        refine gf_8_211 C dX8_takeOff_72 (fun r72 => ?_)
        rw [show (mst (mst M 2 (sF (M 2) (tof (M 0) (M 0 1 0 5)).1 (tof (M 0) (M 0 1 0 5)).2.1 (tof (M 0) (M 0 1 0 5)).2.2)) 1 W) 2 1 0 4 = (tof (M 0) (M 0 1 0 5)).1 from sF_p (M 2) (tof (M 0) (M 0 1 0 5)).1 (tof (M 0) (M 0 1 0 5)).2.1 (tof (M 0) (M 0 1 0 5)).2.2]
        exact pw_iret C R dX8_takeOff_75 ⟨(congrArg (fun q => some (iv q)) (by unfold xTake; (try unfold has at *); (try unfold place at *); (try unfold hasB at *); (try unfold sw4); (try unfold sw3); (repeat (first | rw [pif_t (by first | omega | assumption)] | rw [pif_f (by first | omega | assumption)])); all_goals (first | rfl | omega | ((repeat' split) <;> first | rfl | omega)))), ⟨rfl, Fr.rf _, (by first | exact fun _ _ _ _ => rfl | exact fun k r i h => sF_n _ _ _ _ (by omega))⟩⟩
      · refine pw_aload_n C dX8_takeOff_76 rfl ?_
        refine gf_8_21 C dX8_takeOff_77 ?_
        refine gf_8_217 C dX8_takeOff_80 (fun r80 => ?_)
        rw [show (mst (mst M 2 (sF (M 2) (tof (M 0) (M 0 1 0 5)).1 (tof (M 0) (M 0 1 0 5)).2.1 (tof (M 0) (M 0 1 0 5)).2.2)) 1 W) 2 1 0 5 = (tof (M 0) (M 0 1 0 5)).2.1 from sF_h (M 2) (tof (M 0) (M 0 1 0 5)).1 (tof (M 0) (M 0 1 0 5)).2.1 (tof (M 0) (M 0 1 0 5)).2.2]
        exact pw_iret C R dX8_takeOff_83 ⟨(congrArg (fun q => some (iv q)) (by unfold xTake; (try unfold has at *); (try unfold place at *); (try unfold hasB at *); (try unfold sw4); (try unfold sw3); (repeat (first | rw [pif_t (by first | omega | assumption)] | rw [pif_f (by first | omega | assumption)])); all_goals (first | rfl | omega | ((repeat' split) <;> first | rfl | omega)))), ⟨rfl, Fr.rf _, (by first | exact fun _ _ _ _ => rfl | exact fun k r i h => sF_n _ _ _ _ (by omega))⟩⟩
      · refine pw_aload_n C dX8_takeOff_84 rfl ?_
        refine gf_8_21 C dX8_takeOff_85 ?_
        refine gf_8_208 C dX8_takeOff_88 (fun r88 => ?_)
        rw [show (mst (mst M 2 (sF (M 2) (tof (M 0) (M 0 1 0 5)).1 (tof (M 0) (M 0 1 0 5)).2.1 (tof (M 0) (M 0 1 0 5)).2.2)) 1 W) 2 1 0 6 = (tof (M 0) (M 0 1 0 5)).2.2 from sF_a (M 2) (tof (M 0) (M 0 1 0 5)).1 (tof (M 0) (M 0 1 0 5)).2.1 (tof (M 0) (M 0 1 0 5)).2.2]
        exact pw_iret C R dX8_takeOff_91 ⟨(congrArg (fun q => some (iv q)) (by unfold xTake; (try unfold has at *); (try unfold place at *); (try unfold hasB at *); (try unfold sw4); (try unfold sw3); (repeat (first | rw [pif_t (by first | omega | assumption)] | rw [pif_f (by first | omega | assumption)])); all_goals (first | rfl | omega | ((repeat' split) <;> first | rfl | omega)))), ⟨rfl, Fr.rf _, (by first | exact fun _ _ _ _ => rfl | exact fun k r i h => sF_n _ _ _ _ (by omega))⟩⟩
    · refine pw_bipush C dX8_takeOff_25 (by decide) ?_
      exact pw_iret C R dX8_takeOff_27 ⟨(congrArg (fun q => some (iv q)) (by unfold xTake; (try unfold has at *); (try unfold place at *); (try unfold hasB at *); (try unfold sw4); (try unfold sw3); (repeat (first | rw [pif_t (by first | omega | assumption)] | rw [pif_f (by first | omega | assumption)])); all_goals (first | rfl | omega | ((repeat' split) <;> first | rfl | omega)))), ⟨rfl, Fr.rf _, (by first | exact fun _ _ _ _ => rfl | exact fun k r i h => sF_n _ _ _ _ (by omega))⟩⟩
  · refine pw_bipush C dX8_takeOff_9 (by decide) ?_
    exact pw_iret C R dX8_takeOff_11 ⟨(congrArg (fun q => some (iv q)) (by unfold xTake; (try unfold has at *); (try unfold place at *); (try unfold hasB at *); (try unfold sw4); (try unfold sw3); (repeat (first | rw [pif_t (by first | omega | assumption)] | rw [pif_f (by first | omega | assumption)])); all_goals (first | rfl | omega | ((repeat' split) <;> first | rfl | omega)))), ⟨rfl, Fr.rf _, (by first | exact fun _ _ _ _ => rfl | exact fun k r i h => sF_n _ _ _ _ (by omega))⟩⟩
set_option maxRecDepth 100000 in
set_option maxHeartbeats 400000 in
theorem c_X8_carried {l : Launch} {S : SW} {M : Mem} {s : Int}  (hs : InR s) (hI : DayOk (M 0)) (hk : M 0 0 0 11 = -9) (hS : ShOk (M 2))  : PM l S yX8_carried cX8_carried 2 (some .int) 6 142 [rv S 2 0 0, iv s] (M) (rX (xCarried (M 0) s) M (M 0) (M 2)) := by
  refine PM.of (own := RX8) (by decide) rfl [some (rv S 2 0 0), some (iv s)] rfl rfl (Nat.le_of_ble_eq_true rfl) (fun X hXl C R => ?_)
  subst hXl
  obtain ⟨i1, i2, i3, i4, i5, i6, i7, i8⟩ := id hI
  refine pw_aload_n C dX8_carried_0 rfl ?_
  refine gf_8_12 C dX8_carried_1 ?_
  refine gf_8_60 0 (by decide) C dX8_carried_4 ?_
  refine pw_iload_n C dX8_carried_7 rfl ?_
  refine pw_V 0 ?_
  refine pw_cVI C [_] mi_X6_hasSort mv_X6_hasSort ml_8_83 (oD_1 (by decide)) rfl (c_X6_hasSort (by decide) (by omega)) (by decide) rfl (Nat.le_of_ble_eq_true rfl) dX8_carried_8 ?_
  refine pw_U 0 ?_
  refine pw_if_ne_b (tgt := 16) C dX8_carried_11 rfl (fun c11 => ?_) (fun c11 => ?_)
  · refine pw_aload_n C dX8_carried_16 rfl ?_
    refine gf_8_12 C dX8_carried_17 ?_
    refine pw_V 0 ?_
    refine pw_cVV C [] mi_X1_goThrough mv_X1_goThrough ml_8_167 (oD_0 (by decide)) rfl (c_X1_goThrough (by decide) hI (by omega)) (by decide) rfl (Nat.le_of_ble_eq_true rfl) dX8_carried_20 ?_
    have hIg := hI.fr (Fr.rf (M 0)).gtF
    have eg6 : gt (M 0) 1 0 6 = M 0 1 0 6 := (Fr.rf _).gtF 1 0 6 (by omega) (by omega)
    have eg11 : gt (M 0) 0 0 11 = -9 := by rw [(Fr.rf _).gtF 0 0 11 (by omega) (by omega)]; exact hk
    refine pw_aload_n C dX8_carried_23 rfl ?_
    refine gf_8_12 C dX8_carried_24 ?_
    refine pw_cVI C [] mi_X1_profit mv_X1_profit ml_8_180 (oD_0 (by decide)) rfl (c_X1_profit (by decide) (by omega) (by omega)) (by decide) rfl (Nat.le_of_ble_eq_true rfl) dX8_carried_27 ?_
    refine pw_aload_n C dX8_carried_30 rfl ?_
    refine gf_8_21 C dX8_carried_31 ?_
    refine pw_aload_n C dX8_carried_34 rfl ?_
    refine gf_8_12 C dX8_carried_35 ?_
    refine pw_iload_n C dX8_carried_38 rfl ?_
    refine pw_cVQI C [_, _] mi_X4_profitWithout mv_X4_profitWithout ml_8_225 oC_1 rfl (c_X4_profitWithout (by omega) (show DayOk (gt (M 0)) from hIg) (show gt (M 0) 0 0 11 = -9 from eg11) (by omega) (show s < gt (M 0) 1 0 6 by omega)) (by decide) rfl (Nat.le_of_ble_eq_true rfl) dX8_carried_39 ?_
    rintro x9 N9 ⟨hx9, W, rfl⟩
    have hx9 : x9 = prf (vup (gt (M 0)) 2 0 s 0) := hx9
    rw [prf_e (g := 0) (V := vup (M 0) 2 0 s 0) (fish_ok hI (by omega) (by omega)) ((Fr.rf (M 0)).gtF.eq0.up _ (by omega)) (Or.inl ⟨hk, eg11⟩)] at hx9
    subst hx9
    refine pw_isub C dX8_carried_42 ?_
    exact pw_iret C R dX8_carried_43 ⟨(congrArg (fun q => some (iv q)) (by unfold xCarried; (try unfold has at *); (try unfold place at *); (try unfold hasB at *); (try unfold sw4); (try unfold sw3); (repeat (first | rw [pif_t (by first | omega | assumption)] | rw [pif_f (by first | omega | assumption)])); all_goals (first | rfl | omega | ((repeat' split) <;> first | rfl | omega)))), ⟨rfl, (by first | exact Fr.rf _ | exact (Fr.rf _).gtF), fun _ _ _ _ => rfl⟩⟩
  · refine pw_iconst C dX8_carried_14 ?_
    exact pw_iret C R dX8_carried_15 ⟨(congrArg (fun q => some (iv q)) (by unfold xCarried; (try unfold has at *); (try unfold place at *); (try unfold hasB at *); (try unfold sw4); (try unfold sw3); (repeat (first | rw [pif_t (by first | omega | assumption)] | rw [pif_f (by first | omega | assumption)])); all_goals (first | rfl | omega | ((repeat' split) <;> first | rfl | omega)))), ⟨rfl, (by first | exact Fr.rf _ | exact (Fr.rf _).gtF), fun _ _ _ _ => rfl⟩⟩
set_option maxRecDepth 100000 in
set_option maxHeartbeats 400000 in
theorem c_X8_cook {l : Launch} {S : SW} {M : Mem} {s t c : Int}  (hs : InR s) (ht : InR t) (hc : InR c) (hI : DayOk (M 0)) (hk : M 0 0 0 11 = -9) (hS : ShOk (M 2))  : PM l S yX8_cook cX8_cook 4 (some .int) 6 144 [rv S 2 0 0, iv s, iv t, iv c] (M) (rX (xCook (M 0) s t c) M (M 0) (M 2)) := by
  refine PM.of (own := RX8) (by decide) rfl [some (rv S 2 0 0), some (iv s), some (iv t), some (iv c)] rfl rfl (Nat.le_of_ble_eq_true rfl) (fun X hXl C R => ?_)
  subst hXl
  obtain ⟨i1, i2, i3, i4, i5, i6, i7, i8⟩ := id hI
  refine pw_aload_n C dX8_cook_0 rfl ?_
  refine gf_8_12 C dX8_cook_1 ?_
  refine gf_8_60 0 (by decide) C dX8_cook_4 ?_
  refine pw_iload_n C dX8_cook_7 rfl ?_
  refine pw_iload_n C dX8_cook_8 rfl ?_
  refine pw_V 0 ?_
  refine pw_cVI C [_, _] mi_X6_hasPlace mv_X6_hasPlace ml_8_100 (oD_1 (by decide)) rfl (c_X6_hasPlace (by decide) (by omega) (by omega)) (by decide) rfl (Nat.le_of_ble_eq_true rfl) dX8_cook_9 ?_
  refine pw_U 0 ?_
  refine pw_if_ne_b (tgt := 17) C dX8_cook_12 rfl (fun c12 => ?_) (fun c12 => ?_)
  · refine pw_iload_n C dX8_cook_17 rfl ?_
    refine pw_iconst C dX8_cook_18 ?_
    refine pw_bipush C dX8_cook_19 (by decide) ?_
    refine pw_cSI C [_, _, _] mi_X8_isWithin ms_X8_isWithin ml_8_108 (c_X8_isWithin (by omega) (by omega) (by omega)) (by decide) rfl (Nat.le_of_ble_eq_true rfl) dX8_cook_21 ?_
    refine pw_if_ne_b (tgt := 30) C dX8_cook_24 rfl (fun c24 => ?_) (fun c24 => ?_)
    · refine pw_aload_n C dX8_cook_30 rfl ?_
      refine gf_8_12 C dX8_cook_31 ?_
      refine pw_V 0 ?_
      refine pw_cVV C [] mi_X1_goThrough mv_X1_goThrough ml_8_167 (oD_0 (by decide)) rfl (c_X1_goThrough (by decide) hI (by omega)) (by decide) rfl (Nat.le_of_ble_eq_true rfl) dX8_cook_34 ?_
      have hIg := hI.fr (Fr.rf (M 0)).gtF
      have eg6 : gt (M 0) 1 0 6 = M 0 1 0 6 := (Fr.rf _).gtF 1 0 6 (by omega) (by omega)
      have eg11 : gt (M 0) 0 0 11 = -9 := by rw [(Fr.rf _).gtF 0 0 11 (by omega) (by omega)]; exact hk
      have eg10 : ∀ (U : DM), cookV U s t c 0 0 10 = s ∧ cookV U s t c 0 0 11 = t ∧ cookV U s t c 0 0 12 = c := fun U => cookV_0 U s t c
      have hq := cookV_ok hI s t c
      refine pw_aload_n C dX8_cook_37 rfl ?_
      refine gf_8_21 C dX8_cook_38 ?_
      refine pw_aload_n C dX8_cook_41 rfl ?_
      refine gf_8_12 C dX8_cook_42 ?_
      refine pw_iload_n C dX8_cook_45 rfl ?_
      refine pw_iload_n C dX8_cook_46 rfl ?_
      refine pw_iload_n C dX8_cook_47 rfl ?_
      refine pw_cVQI C [_, _, _, _] mi_X4_profitWithCook mv_X4_profitWithCook ml_8_229 oC_1 rfl (c_X4_profitWithCook (by omega) (by omega) (by omega) (show DayOk (gt (M 0)) from hIg) (show gt (M 0) 0 0 11 = -9 from eg11) (by omega) (show s < gt (M 0) 1 0 6 by omega)) (by decide) rfl (Nat.le_of_ble_eq_true rfl) dX8_cook_48 ?_
      rintro x9 N9 ⟨hx9, W, rfl⟩
      have hx9 : x9 = prf (cookV (gt (M 0)) s t c) := hx9
      rw [prf_e (g := 0) (V := cookV (M 0) s t c) hq (cookV_e (Fr.rf (M 0)).gtF.eq0 s t c) (Or.inr ⟨by rw [(eg10 _).1, (eg10 _).1], by rw [(eg10 _).2.1, (eg10 _).2.1], by rw [(eg10 _).2.2, (eg10 _).2.2], by rw [(eg10 _).1]; omega, by rw [(eg10 _).1, cookV_at _ _ _ _ (by omega)]; omega⟩)] at hx9
      subst hx9
      refine pw_mem (mst_c _ _ _ (by decide)) ?_
      refine pw_aload_n C dX8_cook_51 rfl ?_
      refine gf_8_12 C dX8_cook_52 ?_
      refine pw_cVI C [] mi_X1_profit mv_X1_profit ml_8_180 (oD_0 (by decide)) rfl (c_X1_profit (by decide) (by omega) (by omega)) (by decide) rfl (Nat.le_of_ble_eq_true rfl) dX8_cook_55 ?_
      refine pw_isub C dX8_cook_58 ?_
      exact pw_iret C R dX8_cook_59 ⟨(congrArg (fun q => some (iv q)) (by unfold xCook; (try unfold has at *); (try unfold place at *); (try unfold hasB at *); (try unfold sw4); (try unfold sw3); (repeat (first | rw [pif_t (by first | omega | assumption)] | rw [pif_f (by first | omega | assumption)])); all_goals (first | rfl | omega | ((repeat' split) <;> first | rfl | omega)))), ⟨rfl, (by first | exact Fr.rf _ | exact (Fr.rf _).gtF), fun _ _ _ _ => rfl⟩⟩
    · refine pw_bipush C dX8_cook_27 (by decide) ?_
      exact pw_iret C R dX8_cook_29 ⟨(congrArg (fun q => some (iv q)) (by unfold xCook; (try unfold has at *); (try unfold place at *); (try unfold hasB at *); (try unfold sw4); (try unfold sw3); (repeat (first | rw [pif_t (by first | omega | assumption)] | rw [pif_f (by first | omega | assumption)])); all_goals (first | rfl | omega | ((repeat' split) <;> first | rfl | omega)))), ⟨rfl, (by first | exact Fr.rf _ | exact (Fr.rf _).gtF), fun _ _ _ _ => rfl⟩⟩
  · refine pw_iconst C dX8_cook_15 ?_
    exact pw_iret C R dX8_cook_16 ⟨(congrArg (fun q => some (iv q)) (by unfold xCook; (try unfold has at *); (try unfold place at *); (try unfold hasB at *); (try unfold sw4); (try unfold sw3); (repeat (first | rw [pif_t (by first | omega | assumption)] | rw [pif_f (by first | omega | assumption)])); all_goals (first | rfl | omega | ((repeat' split) <;> first | rfl | omega)))), ⟨rfl, (by first | exact Fr.rf _ | exact (Fr.rf _).gtF), fun _ _ _ _ => rfl⟩⟩
set_option maxRecDepth 100000 in
set_option maxHeartbeats 400000 in
theorem c_X8_many {l : Launch} {S : SW} {M : Mem} {w : Int}  (hw : InR w) (hI : DayOk (M 0)) (hk : M 0 0 0 11 = -9) (hS : ShOk (M 2))  : PM l S yX8_many cX8_many 2 (some .int) 1 22 [rv S 2 0 0, iv w] (M) (rX (xMany (M 0) w) M (M 0) (M 2)) := by
  refine PM.of (own := RX8) (by decide) rfl [some (rv S 2 0 0), some (iv w)] rfl rfl (Nat.le_of_ble_eq_true rfl) (fun X hXl C R => ?_)
  subst hXl
  obtain ⟨i1, i2, i3, i4, i5, i6, i7, i8⟩ := id hI
  refine pw_iload_n C dX8_many_0 rfl ?_
  refine pw_tsw5 C 36 47 58 69 80 99 (by omega) dX8_many_1 rfl rfl rfl rfl rfl rfl rfl (fun c1 => ?_) (fun c1 => ?_) (fun c1 => ?_) (fun c1 => ?_) (fun c1 => ?_) (fun c1 => ?_)
  · refine pw_aload_n C dX8_many_36 rfl ?_
    refine gf_8_12 C dX8_many_37 ?_
    refine gf_8_60 0 (by decide) C dX8_many_40 ?_
    refine gf_8_118 0 (by decide) C dX8_many_43 (fun r43 => ?_)
    exact pw_iret C R dX8_many_46 ⟨(congrArg (fun q => some (iv q)) (by unfold xMany; (try unfold has at *); (try unfold place at *); (try unfold hasB at *); (try unfold sw4); (try unfold sw3); (repeat (first | rw [pif_t (by first | omega | assumption)] | rw [pif_f (by first | omega | assumption)])); all_goals (first | rfl | omega | ((repeat' split) <;> first | rfl | omega)))), ⟨rfl, Fr.rf _, fun _ _ _ _ => rfl⟩⟩
  · refine pw_aload_n C dX8_many_47 rfl ?_
    refine gf_8_12 C dX8_many_48 ?_
    refine gf_8_60 0 (by decide) C dX8_many_51 ?_
    refine gf_8_80 0 (by decide) C dX8_many_54 (fun r54 => ?_)
    exact pw_iret C R dX8_many_57 ⟨(congrArg (fun q => some (iv q)) (by unfold xMany; (try unfold has at *); (try unfold place at *); (try unfold hasB at *); (try unfold sw4); (try unfold sw3); (repeat (first | rw [pif_t (by first | omega | assumption)] | rw [pif_f (by first | omega | assumption)])); all_goals (first | rfl | omega | ((repeat' split) <;> first | rfl | omega)))), ⟨rfl, Fr.rf _, fun _ _ _ _ => rfl⟩⟩
  · refine pw_aload_n C dX8_many_58 rfl ?_
    refine gf_8_12 C dX8_many_59 ?_
    refine gf_8_70 0 (by decide) C dX8_many_62 ?_
    refine gf_8_74 0 (by decide) C dX8_many_65 (fun r65 => ?_)
    exact pw_iret C R dX8_many_68 ⟨(congrArg (fun q => some (iv q)) (by unfold xMany; (try unfold has at *); (try unfold place at *); (try unfold hasB at *); (try unfold sw4); (try unfold sw3); (repeat (first | rw [pif_t (by first | omega | assumption)] | rw [pif_f (by first | omega | assumption)])); all_goals (first | rfl | omega | ((repeat' split) <;> first | rfl | omega)))), ⟨rfl, Fr.rf _, fun _ _ _ _ => rfl⟩⟩
  · refine pw_aload_n C dX8_many_69 rfl ?_
    refine gf_8_12 C dX8_many_70 ?_
    refine gf_8_60 0 (by decide) C dX8_many_73 ?_
    refine pw_V 0 ?_
    refine pw_cVI C [] mi_X6_allFish mv_X6_allFish ml_8_173 (oD_1 (by decide)) rfl (c_X6_allFish (by decide) (by omega) (by omega)) (by decide) rfl (Nat.le_of_ble_eq_true rfl) dX8_many_76 ?_
    refine pw_U 0 ?_
    exact pw_iret C R dX8_many_79 ⟨(congrArg (fun q => some (iv q)) (by unfold xMany; (try unfold has at *); (try unfold place at *); (try unfold hasB at *); (try unfold sw4); (try unfold sw3); (repeat (first | rw [pif_t (by first | omega | assumption)] | rw [pif_f (by first | omega | assumption)])); all_goals (first | rfl | omega | ((repeat' split) <;> first | rfl | omega)))), ⟨rfl, Fr.rf _, fun _ _ _ _ => rfl⟩⟩
  · refine pw_aload_n C dX8_many_80 rfl ?_
    refine gf_8_12 C dX8_many_81 ?_
    refine gf_8_60 0 (by decide) C dX8_many_84 ?_
    refine gf_8_138 0 (by decide) C dX8_many_87 (fun r87 => ?_)
    refine pw_if_eq (tgt := 97) C dX8_many_90 rfl (by omega) (fun c90 => ?_) (fun c90 => ?_)
    · refine pw_iconst C dX8_many_97 ?_
      exact pw_iret C R dX8_many_98 ⟨(congrArg (fun q => some (iv q)) (by unfold xMany; (try unfold has at *); (try unfold place at *); (try unfold hasB at *); (try unfold sw4); (try unfold sw3); (repeat (first | rw [pif_t (by first | omega | assumption)] | rw [pif_f (by first | omega | assumption)])); all_goals (first | rfl | omega | ((repeat' split) <;> first | rfl | omega)))), ⟨rfl, Fr.rf _, fun _ _ _ _ => rfl⟩⟩
    · refine pw_iconst C dX8_many_93 ?_
      refine pw_goto (tgt := 98) C dX8_many_94 rfl ?_
      exact pw_iret C R dX8_many_98 ⟨(congrArg (fun q => some (iv q)) (by unfold xMany; (try unfold has at *); (try unfold place at *); (try unfold hasB at *); (try unfold sw4); (try unfold sw3); (repeat (first | rw [pif_t (by first | omega | assumption)] | rw [pif_f (by first | omega | assumption)])); all_goals (first | rfl | omega | ((repeat' split) <;> first | rfl | omega)))), ⟨rfl, Fr.rf _, fun _ _ _ _ => rfl⟩⟩
  · refine pw_bipush C dX8_many_99 (by decide) ?_
    exact pw_iret C R dX8_many_101 ⟨(congrArg (fun q => some (iv q)) (by unfold xMany; (try unfold has at *); (try unfold place at *); (try unfold hasB at *); (try unfold sw4); (try unfold sw3); (repeat (first | rw [pif_t (by first | omega | assumption)] | rw [pif_f (by first | omega | assumption)])); all_goals (first | rfl | omega | ((repeat' split) <;> first | rfl | omega)))), ⟨rfl, Fr.rf _, fun _ _ _ _ => rfl⟩⟩
set_option maxRecDepth 100000 in
set_option maxHeartbeats 400000 in
theorem c_X8_trace {l : Launch} {S : SW} {M : Mem}  (hI : DayOk (M 0)) (hk : M 0 0 0 11 = -9) (hS : ShOk (M 2))  : PM l S yX8_trace cX8_trace 1 (some .int) 0 0 [rv S 2 0 0] (M) (rX (M 2 0 0 5) M (M 0) (M 2)) := by
  refine PM.of (own := RX8) (by decide) rfl [some (rv S 2 0 0)] rfl rfl (Nat.le_of_ble_eq_true rfl) (fun X hXl C R => ?_)
  subst hXl
  obtain ⟨i1, i2, i3, i4, i5, i6, i7, i8⟩ := id hI
  refine pw_aload_n C dX8_trace_0 rfl ?_
  refine gf_8_318 C dX8_trace_1 (fun r1 => ?_)
  exact pw_iret C R dX8_trace_4 ⟨(congrArg (fun q => some (iv q)) (by (try unfold has at *); (try unfold place at *); (try unfold hasB at *); (try unfold sw4); (try unfold sw3); (repeat (first | rw [pif_t (by first | omega | assumption)] | rw [pif_f (by first | omega | assumption)])); all_goals (first | rfl | omega | ((repeat' split) <;> first | rfl | omega)))), ⟨rfl, Fr.rf _, fun _ _ _ _ => rfl⟩⟩
set_option maxRecDepth 100000 in
set_option maxHeartbeats 400000 in
theorem c_X8_fault {l : Launch} {S : SW} {M : Mem}  (hI : DayOk (M 0)) (hk : M 0 0 0 11 = -9) (hS : ShOk (M 2))  : PM l S yX8_fault cX8_fault 1 (some .int) 0 0 [rv S 2 0 0] (M) (rX (M 2 0 0 6) M (M 0) (M 2)) := by
  refine PM.of (own := RX8) (by decide) rfl [some (rv S 2 0 0)] rfl rfl (Nat.le_of_ble_eq_true rfl) (fun X hXl C R => ?_)
  subst hXl
  obtain ⟨i1, i2, i3, i4, i5, i6, i7, i8⟩ := id hI
  refine pw_aload_n C dX8_fault_0 rfl ?_
  refine gf_8_115 C dX8_fault_1 (fun r1 => ?_)
  exact pw_iret C R dX8_fault_4 ⟨(congrArg (fun q => some (iv q)) (by (try unfold has at *); (try unfold place at *); (try unfold hasB at *); (try unfold sw4); (try unfold sw3); (repeat (first | rw [pif_t (by first | omega | assumption)] | rw [pif_f (by first | omega | assumption)])); all_goals (first | rfl | omega | ((repeat' split) <;> first | rfl | omega)))), ⟨rfl, Fr.rf _, fun _ _ _ _ => rfl⟩⟩
