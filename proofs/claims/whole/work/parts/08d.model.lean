set_option maxRecDepth 100000 in
set_option maxHeartbeats 400000 in
theorem c_X9_fish {l : Launch} {S : SW} {M : Mem} {V : DM} {s v : Int}  (hs : InR s) (hv : InR v) (hI : DayOk (mv V))  : PM l S yX9_fish cX9_fish 4 (some .int) 2 46 [rv S 3 0 0, iv s, iv v] (mst M 3 V) (rM (xFish (mv V) s v) M V (vFish (mv V) s v)) := by
  refine PM.of (own := RX9) (by decide) rfl [some (rv S 3 0 0), some (iv s), some (iv v), none] rfl rfl (Nat.le_of_ble_eq_true rfl) (fun X hXl C R => ?_)
  subst hXl
  obtain ⟨i1, i2, i3, i4, i5, i6, i7, i8⟩ := id hI
  have e5 : mv V 1 0 5 = V 0 0 1 := rfl
  have e6 : mv V 1 0 6 = V 0 0 2 := rfl
  have e7 : mv V 1 0 7 = V 0 0 8 := rfl
  have e8 : mv V 1 0 8 = V 0 0 9 := rfl
  have e84 : mv V 8 0 4 = V 0 0 15 := rfl
  refine pw_aload_n C dX9_fish_0 rfl ?_
  refine pw_iload_n C dX9_fish_1 rfl ?_
  refine pw_cVI C [_] mi_X9_noSort mv_X9_noSort ml_9_163 oM_0 rfl (c_X9_noSort (by omega)) (by decide) rfl (Nat.le_of_ble_eq_true rfl) dX9_fish_2 ?_
  refine pw_if_eq_b (tgt := 10) C dX9_fish_5 rfl (fun c5 => ?_) (fun c5 => ?_)
  · refine pw_iload_n C dX9_fish_10 rfl ?_
    refine pw_i2l C (by omega) dX9_fish_11 ?_
    refine pw_lconst0 C dX9_fish_12 ?_
    refine pw_ldc2 C (n := 9) (inT4 173 rfl rfl) (by decide) dX9_fish_13 ?_
    refine pw_cSI C [_, _, _] mi_X9_in ms_X9_in ml_9_87 (c_X9_in (by omega) (by omega) (by omega)) (by decide) rfl (Nat.le_of_ble_eq_true rfl) dX9_fish_16 ?_
    refine pw_if_ne_b (tgt := 25) C dX9_fish_19 rfl (fun c19 => ?_) (fun c19 => ?_)
    · refine pw_aload_n C dX9_fish_25 rfl ?_
      refine gf_9_7 C dX9_fish_26 ?_
      refine pw_iload_n C dX9_fish_29 rfl ?_
      refine pw_ialdV C aM_4 (by omega) (by omega) (by decide) dX9_fish_30 (fun r30 => ?_)
      refine pw_istore_3 C dX9_fish_31 (k := ?_)
      refine pw_aload_n C dX9_fish_32 rfl ?_
      refine gf_9_7 C dX9_fish_33 ?_
      refine pw_iload_n C dX9_fish_36 rfl ?_
      refine pw_iload_n C dX9_fish_37 rfl ?_
      refine pw_iastV C aM_4 (by omega) (by omega) (by decide) (by omega) dX9_fish_38 ?_
      refine pw_iload_n C dX9_fish_39 rfl ?_
      exact pw_iret C R dX9_fish_40 ⟨(congrArg (fun q => some (iv q)) (by unfold xFish; (try unfold has at *); (try unfold place at *); (try unfold hasB at *); (try unfold sw4); (try unfold sw3); (repeat (first | rw [pif_t (by first | omega | assumption)] | rw [pif_f (by first | omega | assumption)])); all_goals (first | rfl | omega | ((repeat' split) <;> first | rfl | omega)))), ⟨_, rfl, (by unfold vFish; (try unfold has); (try unfold place); (try unfold hasB); first | (rw [vif_f (by omega)]; done) | (rw [mvu_4]; rw [vif_t (by omega)]; done) | (rw [mvu_4]; rw [vif_t (by omega)]; rfl)), (by first | exact P3.rf _ | exact (P3.rf _).up (by omega) | exact (((((P3.rf _).up (by omega)).up (by omega)).up (by omega)).up (by omega)).up (by omega))⟩⟩
    · refine pw_bipush C dX9_fish_22 (by decide) ?_
      exact pw_iret C R dX9_fish_24 ⟨(congrArg (fun q => some (iv q)) (by unfold xFish; (try unfold has at *); (try unfold place at *); (try unfold hasB at *); (try unfold sw4); (try unfold sw3); (repeat (first | rw [pif_t (by first | omega | assumption)] | rw [pif_f (by first | omega | assumption)])); all_goals (first | rfl | omega | ((repeat' split) <;> first | rfl | omega)))), ⟨_, rfl, (by unfold vFish; (try unfold has); (try unfold place); (try unfold hasB); first | (rw [vif_f (by omega)]; done) | (rw [mvu_4]; rw [vif_t (by omega)]; done) | (rw [mvu_4]; rw [vif_t (by omega)]; rfl)), (by first | exact P3.rf _ | exact (P3.rf _).up (by omega) | exact (((((P3.rf _).up (by omega)).up (by omega)).up (by omega)).up (by omega)).up (by omega))⟩⟩
  · refine pw_iconst C dX9_fish_8 ?_
    exact pw_iret C R dX9_fish_9 ⟨(congrArg (fun q => some (iv q)) (by unfold xFish; (try unfold has at *); (try unfold place at *); (try unfold hasB at *); (try unfold sw4); (try unfold sw3); (repeat (first | rw [pif_t (by first | omega | assumption)] | rw [pif_f (by first | omega | assumption)])); all_goals (first | rfl | omega | ((repeat' split) <;> first | rfl | omega)))), ⟨_, rfl, (by unfold vFish; (try unfold has); (try unfold place); (try unfold hasB); first | (rw [vif_f (by omega)]; done) | (rw [mvu_4]; rw [vif_t (by omega)]; done) | (rw [mvu_4]; rw [vif_t (by omega)]; rfl)), (by first | exact P3.rf _ | exact (P3.rf _).up (by omega) | exact (((((P3.rf _).up (by omega)).up (by omega)).up (by omega)).up (by omega)).up (by omega))⟩⟩
set_option maxRecDepth 100000 in
set_option maxHeartbeats 400000 in
theorem c_X9_soup {l : Launch} {S : SW} {M : Mem} {V : DM} {v : Int}  (hv : InR v) (hI : DayOk (mv V))  : PM l S yX9_soup cX9_soup 3 (some .int) 1 25 [rv S 3 0 0, iv v] (mst M 3 V) (rM (xSoup (mv V) v) M V (vSoup (mv V) v)) := by
  refine PM.of (own := RX9) (by decide) rfl [some (rv S 3 0 0), some (iv v), none] rfl rfl (Nat.le_of_ble_eq_true rfl) (fun X hXl C R => ?_)
  subst hXl
  obtain ⟨i1, i2, i3, i4, i5, i6, i7, i8⟩ := id hI
  have e5 : mv V 1 0 5 = V 0 0 1 := rfl
  have e6 : mv V 1 0 6 = V 0 0 2 := rfl
  have e7 : mv V 1 0 7 = V 0 0 8 := rfl
  have e8 : mv V 1 0 8 = V 0 0 9 := rfl
  have e84 : mv V 8 0 4 = V 0 0 15 := rfl
  refine pw_iload_n C dX9_soup_0 rfl ?_
  refine pw_i2l C (by omega) dX9_soup_1 ?_
  refine pw_lconst0 C dX9_soup_2 ?_
  refine pw_ldc2 C (n := 9) (inT4 173 rfl rfl) (by decide) dX9_soup_3 ?_
  refine pw_cSI C [_, _, _] mi_X9_in ms_X9_in ml_9_87 (c_X9_in (by omega) (by omega) (by omega)) (by decide) rfl (Nat.le_of_ble_eq_true rfl) dX9_soup_6 ?_
  refine pw_if_ne_b (tgt := 15) C dX9_soup_9 rfl (fun c9 => ?_) (fun c9 => ?_)
  · refine pw_aload_n C dX9_soup_15 rfl ?_
    refine gv_9_116 C dX9_soup_16 (fun r16 => ?_)
    refine pw_if_ne (tgt := 25) C dX9_soup_19 rfl (by omega) (fun c19 => ?_) (fun c19 => ?_)
    · refine pw_aload_n C dX9_soup_25 rfl ?_
      refine gv_9_156 C dX9_soup_26 (fun r26 => ?_)
      refine pw_istore_2 C dX9_soup_29 (k := ?_)
      refine pw_aload_n C dX9_soup_30 rfl ?_
      refine pw_iload_n C dX9_soup_31 rfl ?_
      refine pv_9_156 C (by omega) dX9_soup_32 ?_
      refine pw_iload_n C dX9_soup_35 rfl ?_
      exact pw_iret C R dX9_soup_36 ⟨(congrArg (fun q => some (iv q)) (by unfold xSoup; (try unfold has at *); (try unfold place at *); (try unfold hasB at *); (try unfold sw4); (try unfold sw3); (repeat (first | rw [pif_t (by first | omega | assumption)] | rw [pif_f (by first | omega | assumption)])); all_goals (first | rfl | omega | ((repeat' split) <;> first | rfl | omega)))), ⟨_, rfl, (by unfold vSoup; (try unfold has); (try unfold place); (try unfold hasB); first | (rw [vif_f (by omega)]; done) | (rw [mvf_8]; rw [vif_t (by omega)]; done) | (rw [mvf_8]; rw [vif_t (by omega)]; rfl)), (by first | exact P3.rf _ | exact (P3.rf _).up (by omega) | exact (((((P3.rf _).up (by omega)).up (by omega)).up (by omega)).up (by omega)).up (by omega))⟩⟩
    · refine pw_bipush C dX9_soup_22 (by decide) ?_
      exact pw_iret C R dX9_soup_24 ⟨(congrArg (fun q => some (iv q)) (by unfold xSoup; (try unfold has at *); (try unfold place at *); (try unfold hasB at *); (try unfold sw4); (try unfold sw3); (repeat (first | rw [pif_t (by first | omega | assumption)] | rw [pif_f (by first | omega | assumption)])); all_goals (first | rfl | omega | ((repeat' split) <;> first | rfl | omega)))), ⟨_, rfl, (by unfold vSoup; (try unfold has); (try unfold place); (try unfold hasB); first | (rw [vif_f (by omega)]; done) | (rw [mvf_8]; rw [vif_t (by omega)]; done) | (rw [mvf_8]; rw [vif_t (by omega)]; rfl)), (by first | exact P3.rf _ | exact (P3.rf _).up (by omega) | exact (((((P3.rf _).up (by omega)).up (by omega)).up (by omega)).up (by omega)).up (by omega))⟩⟩
  · refine pw_bipush C dX9_soup_12 (by decide) ?_
    exact pw_iret C R dX9_soup_14 ⟨(congrArg (fun q => some (iv q)) (by unfold xSoup; (try unfold has at *); (try unfold place at *); (try unfold hasB at *); (try unfold sw4); (try unfold sw3); (repeat (first | rw [pif_t (by first | omega | assumption)] | rw [pif_f (by first | omega | assumption)])); all_goals (first | rfl | omega | ((repeat' split) <;> first | rfl | omega)))), ⟨_, rfl, (by unfold vSoup; (try unfold has); (try unfold place); (try unfold hasB); first | (rw [vif_f (by omega)]; done) | (rw [mvf_8]; rw [vif_t (by omega)]; done) | (rw [mvf_8]; rw [vif_t (by omega)]; rfl)), (by first | exact P3.rf _ | exact (P3.rf _).up (by omega) | exact (((((P3.rf _).up (by omega)).up (by omega)).up (by omega)).up (by omega)).up (by omega))⟩⟩
set_option maxRecDepth 100000 in
set_option maxHeartbeats 400000 in
theorem c_X9_beside {l : Launch} {S : SW} {M : Mem} {V : DM} {b : Int}  (hb : InR b) (hI : DayOk (mv V)) (hb : b = 0 ∨ b = 1)  : PM l S yX9_beside cX9_beside 3 (some .int) 0 0 [rv S 3 0 0, iv b] (mst M 3 V) (rM (xBeside (mv V) b) M V (vBeside (mv V) b)) := by
  refine PM.of (own := RX9) (by decide) rfl [some (rv S 3 0 0), some (iv b), none] rfl rfl (Nat.le_of_ble_eq_true rfl) (fun X hXl C R => ?_)
  subst hXl
  obtain ⟨i1, i2, i3, i4, i5, i6, i7, i8⟩ := id hI
  have e5 : mv V 1 0 5 = V 0 0 1 := rfl
  have e6 : mv V 1 0 6 = V 0 0 2 := rfl
  have e7 : mv V 1 0 7 = V 0 0 8 := rfl
  have e8 : mv V 1 0 8 = V 0 0 9 := rfl
  have e84 : mv V 8 0 4 = V 0 0 15 := rfl
  refine pw_aload_n C dX9_beside_0 rfl ?_
  refine gv_9_116 C dX9_beside_1 (fun r1 => ?_)
  refine pw_if_ne (tgt := 10) C dX9_beside_4 rfl (by omega) (fun c4 => ?_) (fun c4 => ?_)
  · refine pw_aload_n C dX9_beside_10 rfl ?_
    refine gv_9_159 C dX9_beside_11 (fun r11 => ?_)
    refine pw_iload_n C dX9_beside_14 rfl ?_
    refine pw_icmp_ne (tgt := 22) C dX9_beside_15 rfl (by omega) (by omega) (fun c15 => ?_) (fun c15 => ?_)
    · refine pw_iconst C dX9_beside_22 ?_
      refine pw_istore_2 C dX9_beside_23 (k := ?_)
      refine pw_aload_n C dX9_beside_24 rfl ?_
      refine pw_iload_n C dX9_beside_25 rfl ?_
      refine pv_9_159 C (by omega) dX9_beside_26 ?_
      refine pw_iload_n C dX9_beside_29 rfl ?_
      exact pw_iret C R dX9_beside_30 ⟨(congrArg (fun q => some (iv q)) (by unfold xBeside; (try unfold has at *); (try unfold place at *); (try unfold hasB at *); (try unfold sw4); (try unfold sw3); (repeat (first | rw [pif_t (by first | omega | assumption)] | rw [pif_f (by first | omega | assumption)])); all_goals (first | rfl | omega | ((repeat' split) <;> first | rfl | omega)))), ⟨_, rfl, (by unfold vBeside; (try unfold has); (try unfold place); (try unfold hasB); first | (rw [vif_f (by omega)]; done) | (rw [mvf_9]; rw [vif_t (by omega)]; done) | (rw [mvf_9]; rw [vif_t (by omega)]; rfl)), (by first | exact P3.rf _ | exact (P3.rf _).up (by omega) | exact (((((P3.rf _).up (by omega)).up (by omega)).up (by omega)).up (by omega)).up (by omega))⟩⟩
    · refine pw_iconst C dX9_beside_18 ?_
      refine pw_goto (tgt := 23) C dX9_beside_19 rfl ?_
      refine pw_istore_2 C dX9_beside_23 (k := ?_)
      refine pw_aload_n C dX9_beside_24 rfl ?_
      refine pw_iload_n C dX9_beside_25 rfl ?_
      refine pv_9_159 C (by omega) dX9_beside_26 ?_
      refine pw_iload_n C dX9_beside_29 rfl ?_
      exact pw_iret C R dX9_beside_30 ⟨(congrArg (fun q => some (iv q)) (by unfold xBeside; (try unfold has at *); (try unfold place at *); (try unfold hasB at *); (try unfold sw4); (try unfold sw3); (repeat (first | rw [pif_t (by first | omega | assumption)] | rw [pif_f (by first | omega | assumption)])); all_goals (first | rfl | omega | ((repeat' split) <;> first | rfl | omega)))), ⟨_, rfl, (by unfold vBeside; (try unfold has); (try unfold place); (try unfold hasB); first | (rw [vif_f (by omega)]; done) | (rw [mvf_9]; rw [vif_t (by omega)]; done) | (rw [mvf_9]; rw [vif_t (by omega)]; rfl)), (by first | exact P3.rf _ | exact (P3.rf _).up (by omega) | exact (((((P3.rf _).up (by omega)).up (by omega)).up (by omega)).up (by omega)).up (by omega))⟩⟩
  · refine pw_bipush C dX9_beside_7 (by decide) ?_
    exact pw_iret C R dX9_beside_9 ⟨(congrArg (fun q => some (iv q)) (by unfold xBeside; (try unfold has at *); (try unfold place at *); (try unfold hasB at *); (try unfold sw4); (try unfold sw3); (repeat (first | rw [pif_t (by first | omega | assumption)] | rw [pif_f (by first | omega | assumption)])); all_goals (first | rfl | omega | ((repeat' split) <;> first | rfl | omega)))), ⟨_, rfl, (by unfold vBeside; (try unfold has); (try unfold place); (try unfold hasB); first | (rw [vif_f (by omega)]; done) | (rw [mvf_9]; rw [vif_t (by omega)]; done) | (rw [mvf_9]; rw [vif_t (by omega)]; rfl)), (by first | exact P3.rf _ | exact (P3.rf _).up (by omega) | exact (((((P3.rf _).up (by omega)).up (by omega)).up (by omega)).up (by omega)).up (by omega))⟩⟩
set_option maxRecDepth 100000 in
set_option maxHeartbeats 400000 in
theorem c_X9_write {l : Launch} {S : SW} {M : Mem} {V : DM} {s t v : Int}  (hs : InR s) (ht : InR t) (hv : InR v) (hI : DayOk (mv V))  : PM l S yX9_write cX9_write 5 (some .int) 2 46 [rv S 3 0 0, iv s, iv t, iv v] (mst M 3 V) (rM (xWrite (mv V) s t v) M V (vWrite (mv V) s t v)) := by
  refine PM.of (own := RX9) (by decide) rfl [some (rv S 3 0 0), some (iv s), some (iv t), some (iv v), none] rfl rfl (Nat.le_of_ble_eq_true rfl) (fun X hXl C R => ?_)
  subst hXl
  obtain ⟨i1, i2, i3, i4, i5, i6, i7, i8⟩ := id hI
  have e5 : mv V 1 0 5 = V 0 0 1 := rfl
  have e6 : mv V 1 0 6 = V 0 0 2 := rfl
  have e7 : mv V 1 0 7 = V 0 0 8 := rfl
  have e8 : mv V 1 0 8 = V 0 0 9 := rfl
  have e84 : mv V 8 0 4 = V 0 0 15 := rfl
  refine pw_aload_n C dX9_write_0 rfl ?_
  refine pw_iload_n C dX9_write_1 rfl ?_
  refine pw_cVI C [_] mi_X9_noSort mv_X9_noSort ml_9_163 oM_0 rfl (c_X9_noSort (by omega)) (by decide) rfl (Nat.le_of_ble_eq_true rfl) dX9_write_2 ?_
  refine pw_if_ne_b (tgt := 16) C dX9_write_5 rfl (fun c5 => ?_) (fun c5 => ?_)
  · refine pw_iconst C dX9_write_16 ?_
    exact pw_iret C R dX9_write_17 ⟨(congrArg (fun q => some (iv q)) (by unfold xWrite; (try unfold has at *); (try unfold place at *); (try unfold hasB at *); (try unfold sw4); (try unfold sw3); (repeat (first | rw [pif_t (by first | omega | assumption)] | rw [pif_f (by first | omega | assumption)])); all_goals (first | rfl | omega | ((repeat' split) <;> first | rfl | omega)))), ⟨_, rfl, (by unfold vWrite; (try unfold has); (try unfold place); (try unfold hasB); first | (rw [vif_f (by omega)]; done) | (rw [mvu_8 V _ (by omega) (by omega)]; rw [vif_t (by omega)]; done) | (rw [mvu_8 V _ (by omega) (by omega)]; rw [vif_t (by omega)]; rfl)), (by first | exact P3.rf _ | exact (P3.rf _).up (by omega) | exact (((((P3.rf _).up (by omega)).up (by omega)).up (by omega)).up (by omega)).up (by omega))⟩⟩
  · refine pw_aload_n C dX9_write_8 rfl ?_
    refine pw_iload_n C dX9_write_9 rfl ?_
    refine pw_cVI C [_] mi_X9_noHour mv_X9_noHour ml_9_170 oM_0 rfl (c_X9_noHour (by omega)) (by decide) rfl (Nat.le_of_ble_eq_true rfl) dX9_write_10 ?_
    refine pw_if_eq_b (tgt := 18) C dX9_write_13 rfl (fun c13 => ?_) (fun c13 => ?_)
    · refine pw_iload_n C dX9_write_18 rfl ?_
      refine pw_cSI C [_] mi_X9_isPrice ms_X9_isPrice ml_9_183 (c_X9_isPrice (by omega)) (by decide) rfl (Nat.le_of_ble_eq_true rfl) dX9_write_19 ?_
      refine pw_if_ne_b (tgt := 28) C dX9_write_22 rfl (fun c22 => ?_) (fun c22 => ?_)
      · have e7v : mv V 7 s t = V 8 0 (8 * s + t) := mv_7 V s (by omega) (by omega)
        refine pw_aload_n C dX9_write_28 rfl ?_
        refine pw_iload_n C dX9_write_29 rfl ?_
        refine pw_iload_n C dX9_write_30 rfl ?_
        refine pw_cVI C [_, _] mi_X9_priceOf mv_X9_priceOf ml_9_180 oM_0 rfl (c_X9_priceOf (by omega) (by omega) (by omega) (by omega) (by omega) (by omega)) (by decide) rfl (Nat.le_of_ble_eq_true rfl) dX9_write_31 ?_
        refine pw_istore_4 C dX9_write_34 (k := ?_)
        refine pw_aload_n C dX9_write_36 rfl ?_
        refine gf_9_22 C dX9_write_37 ?_
        refine pw_bipush C dX9_write_40 (by decide) ?_
        refine pw_iload_n C dX9_write_42 rfl ?_
        refine pw_imul C dX9_write_43 ?_
        refine pw_iload_n C dX9_write_44 rfl ?_
        refine pw_iadd C dX9_write_45 ?_
        refine pw_iload_n C dX9_write_46 rfl ?_
        refine pw_iastV C aM_8 (by omega) (by omega) (by decide) (by omega) dX9_write_47 ?_
        refine pw_iload C dX9_write_48 rfl ?_
        exact pw_iret C R dX9_write_50 ⟨(congrArg (fun q => some (iv q)) (by unfold xWrite; (try unfold has at *); (try unfold place at *); (try unfold hasB at *); (try unfold sw4); (try unfold sw3); (repeat (first | rw [pif_t (by first | omega | assumption)] | rw [pif_f (by first | omega | assumption)])); all_goals (first | rfl | omega | ((repeat' split) <;> first | rfl | omega)))), ⟨_, rfl, (by unfold vWrite; (try unfold has); (try unfold place); (try unfold hasB); first | (rw [vif_f (by omega)]; done) | (rw [mvu_8 V _ (by omega) (by omega)]; rw [vif_t (by omega)]; done) | (rw [mvu_8 V _ (by omega) (by omega)]; rw [vif_t (by omega)]; rfl)), (by first | exact P3.rf _ | exact (P3.rf _).up (by omega) | exact (((((P3.rf _).up (by omega)).up (by omega)).up (by omega)).up (by omega)).up (by omega))⟩⟩
      · refine pw_bipush C dX9_write_25 (by decide) ?_
        exact pw_iret C R dX9_write_27 ⟨(congrArg (fun q => some (iv q)) (by unfold xWrite; (try unfold has at *); (try unfold place at *); (try unfold hasB at *); (try unfold sw4); (try unfold sw3); (repeat (first | rw [pif_t (by first | omega | assumption)] | rw [pif_f (by first | omega | assumption)])); all_goals (first | rfl | omega | ((repeat' split) <;> first | rfl | omega)))), ⟨_, rfl, (by unfold vWrite; (try unfold has); (try unfold place); (try unfold hasB); first | (rw [vif_f (by omega)]; done) | (rw [mvu_8 V _ (by omega) (by omega)]; rw [vif_t (by omega)]; done) | (rw [mvu_8 V _ (by omega) (by omega)]; rw [vif_t (by omega)]; rfl)), (by first | exact P3.rf _ | exact (P3.rf _).up (by omega) | exact (((((P3.rf _).up (by omega)).up (by omega)).up (by omega)).up (by omega)).up (by omega))⟩⟩
    · refine pw_iconst C dX9_write_16 ?_
      exact pw_iret C R dX9_write_17 ⟨(congrArg (fun q => some (iv q)) (by unfold xWrite; (try unfold has at *); (try unfold place at *); (try unfold hasB at *); (try unfold sw4); (try unfold sw3); (repeat (first | rw [pif_t (by first | omega | assumption)] | rw [pif_f (by first | omega | assumption)])); all_goals (first | rfl | omega | ((repeat' split) <;> first | rfl | omega)))), ⟨_, rfl, (by unfold vWrite; (try unfold has); (try unfold place); (try unfold hasB); first | (rw [vif_f (by omega)]; done) | (rw [mvu_8 V _ (by omega) (by omega)]; rw [vif_t (by omega)]; done) | (rw [mvu_8 V _ (by omega) (by omega)]; rw [vif_t (by omega)]; rfl)), (by first | exact P3.rf _ | exact (P3.rf _).up (by omega) | exact (((((P3.rf _).up (by omega)).up (by omega)).up (by omega)).up (by omega)).up (by omega))⟩⟩
set_option maxRecDepth 100000 in
set_option maxHeartbeats 400000 in
theorem c_X9_buyer {l : Launch} {S : SW} {M : Mem} {V : DM} {kd s q t : Int}  (hkd : InR kd) (hs : InR s) (hq : InR q) (ht : InR t) (hI : DayOk (mv V))  : PM l S yX9_buyer cX9_buyer 5 (some .int) 2 46 [rv S 3 0 0, iv kd, iv s, iv q, iv t] (mst M 3 V) (rM (xBuyer (mv V) kd s q t) M V (vBuyer (mv V) kd s q t)) := by
  refine PM.of (own := RX9) (by decide) rfl [some (rv S 3 0 0), some (iv kd), some (iv s), some (iv q), some (iv t)] rfl rfl (Nat.le_of_ble_eq_true rfl) (fun X hXl C R => ?_)
  subst hXl
  obtain ⟨i1, i2, i3, i4, i5, i6, i7, i8⟩ := id hI
  have e5 : mv V 1 0 5 = V 0 0 1 := rfl
  have e6 : mv V 1 0 6 = V 0 0 2 := rfl
  have e7 : mv V 1 0 7 = V 0 0 8 := rfl
  have e8 : mv V 1 0 8 = V 0 0 9 := rfl
  have e84 : mv V 8 0 4 = V 0 0 15 := rfl
  refine pw_aload_n C dX9_buyer_0 rfl ?_
  refine pw_iload_n C dX9_buyer_1 rfl ?_
  refine pw_cVI C [_] mi_X9_noSort mv_X9_noSort ml_9_163 oM_0 rfl (c_X9_noSort (by omega)) (by decide) rfl (Nat.le_of_ble_eq_true rfl) dX9_buyer_2 ?_
  refine pw_if_ne_b (tgt := 17) C dX9_buyer_5 rfl (fun c5 => ?_) (fun c5 => ?_)
  · refine pw_iconst C dX9_buyer_17 ?_
    exact pw_iret C R dX9_buyer_18 ⟨(congrArg (fun q => some (iv q)) (by unfold xBuyer; (try unfold has at *); (try unfold place at *); (try unfold hasB at *); (try unfold sw4); (try unfold sw3); (repeat (first | rw [pif_t (by first | omega | assumption)] | rw [pif_f (by first | omega | assumption)])); all_goals (first | rfl | omega | ((repeat' split) <;> first | rfl | omega)))), ⟨_, rfl, (by unfold vBuyer; (try unfold has); (try unfold place); (try unfold hasB); first | (rw [vif_f (by omega)]; done) | (rw [mvf_15, mvu_20, mvu_19, mvu_18, mvu_17]; rw [vif_t (by omega)]; done) | (rw [mvf_15, mvu_20, mvu_19, mvu_18, mvu_17]; rw [vif_t (by omega)]; rfl)), (by first | exact P3.rf _ | exact (P3.rf _).up (by omega) | exact (((((P3.rf _).up (by omega)).up (by omega)).up (by omega)).up (by omega)).up (by omega))⟩⟩
  · refine pw_aload_n C dX9_buyer_8 rfl ?_
    refine pw_iload C dX9_buyer_9 rfl ?_
    refine pw_cVI C [_] mi_X9_noHour mv_X9_noHour ml_9_170 oM_0 rfl (c_X9_noHour (by omega)) (by decide) rfl (Nat.le_of_ble_eq_true rfl) dX9_buyer_11 ?_
    refine pw_if_eq_b (tgt := 19) C dX9_buyer_14 rfl (fun c14 => ?_) (fun c14 => ?_)
    · refine pw_iload_n C dX9_buyer_19 rfl ?_
      refine pw_i2l C (by omega) dX9_buyer_20 ?_
      refine pw_lconst0 C dX9_buyer_21 ?_
      refine pw_ldc2 C (n := 2) (inT4 122 rfl rfl) (by decide) dX9_buyer_22 ?_
      refine pw_cSI C [_, _, _] mi_X9_in ms_X9_in ml_9_87 (c_X9_in (by omega) (by omega) (by omega)) (by decide) rfl (Nat.le_of_ble_eq_true rfl) dX9_buyer_25 ?_
      refine pw_if_eq_b (tgt := 43) C dX9_buyer_28 rfl (fun c28 => ?_) (fun c28 => ?_)
      · refine pw_bipush C dX9_buyer_43 (by decide) ?_
        exact pw_iret C R dX9_buyer_45 ⟨(congrArg (fun q => some (iv q)) (by unfold xBuyer; (try unfold has at *); (try unfold place at *); (try unfold hasB at *); (try unfold sw4); (try unfold sw3); (repeat (first | rw [pif_t (by first | omega | assumption)] | rw [pif_f (by first | omega | assumption)])); all_goals (first | rfl | omega | ((repeat' split) <;> first | rfl | omega)))), ⟨_, rfl, (by unfold vBuyer; (try unfold has); (try unfold place); (try unfold hasB); first | (rw [vif_f (by omega)]; done) | (rw [mvf_15, mvu_20, mvu_19, mvu_18, mvu_17]; rw [vif_t (by omega)]; done) | (rw [mvf_15, mvu_20, mvu_19, mvu_18, mvu_17]; rw [vif_t (by omega)]; rfl)), (by first | exact P3.rf _ | exact (P3.rf _).up (by omega) | exact (((((P3.rf _).up (by omega)).up (by omega)).up (by omega)).up (by omega)).up (by omega))⟩⟩
      · refine pw_iload_n C dX9_buyer_31 rfl ?_
        refine pw_i2l C (by omega) dX9_buyer_32 ?_
        refine pw_lconst0 C dX9_buyer_33 ?_
        refine pw_ldc2 C (n := 40) (inT4 206 rfl rfl) (by decide) dX9_buyer_34 ?_
        refine pw_cSI C [_, _, _] mi_X9_in ms_X9_in ml_9_87 (c_X9_in (by omega) (by omega) (by omega)) (by decide) rfl (Nat.le_of_ble_eq_true rfl) dX9_buyer_37 ?_
        refine pw_if_ne_b (tgt := 46) C dX9_buyer_40 rfl (fun c40 => ?_) (fun c40 => ?_)
        · refine pw_aload_n C dX9_buyer_46 rfl ?_
          refine gv_9_153 C dX9_buyer_47 (fun r47 => ?_)
          refine pw_bipush C dX9_buyer_50 (by decide) ?_
          refine pw_icmp_ne (tgt := 58) C dX9_buyer_52 rfl (by omega) (by omega) (fun c52 => ?_) (fun c52 => ?_)
          · refine pw_aload_n C dX9_buyer_58 rfl ?_
            refine gf_9_28 C dX9_buyer_59 ?_
            refine pw_aload_n C dX9_buyer_62 rfl ?_
            refine gv_9_153 C dX9_buyer_63 (fun r63 => ?_)
            refine pw_iload_n C dX9_buyer_66 rfl ?_
            refine pw_iastV C aM_17 (by omega) (by omega) (by decide) (by omega) dX9_buyer_67 ?_
            refine pw_aload_n C dX9_buyer_68 rfl ?_
            refine gf_9_31 C dX9_buyer_69 ?_
            refine pw_aload_n C dX9_buyer_72 rfl ?_
            refine gv_9_153 C dX9_buyer_73 (fun r73 => ?_)
            rw [vup_k _ _ _ _ (show (0 : Nat) ≠ 17 by omega)]
            refine pw_iload_n C dX9_buyer_76 rfl ?_
            refine pw_iastV C aM_18 (by omega) (by omega) (by decide) (by omega) dX9_buyer_77 ?_
            refine pw_aload_n C dX9_buyer_78 rfl ?_
            refine gf_9_34 C dX9_buyer_79 ?_
            refine pw_aload_n C dX9_buyer_82 rfl ?_
            refine gv_9_153 C dX9_buyer_83 (fun r83 => ?_)
            rw [vup_k _ _ _ _ (show (0 : Nat) ≠ 18 by omega), vup_k _ _ _ _ (show (0 : Nat) ≠ 17 by omega)]
            refine pw_iload_n C dX9_buyer_86 rfl ?_
            refine pw_iastV C aM_19 (by omega) (by omega) (by decide) (by omega) dX9_buyer_87 ?_
            refine pw_aload_n C dX9_buyer_88 rfl ?_
            refine gf_9_37 C dX9_buyer_89 ?_
            refine pw_aload_n C dX9_buyer_92 rfl ?_
            refine gv_9_153 C dX9_buyer_93 (fun r93 => ?_)
            rw [vup_k _ _ _ _ (show (0 : Nat) ≠ 19 by omega), vup_k _ _ _ _ (show (0 : Nat) ≠ 18 by omega), vup_k _ _ _ _ (show (0 : Nat) ≠ 17 by omega)]
            refine pw_iload C dX9_buyer_96 rfl ?_
            refine pw_iastV C aM_20 (by omega) (by omega) (by decide) (by omega) dX9_buyer_98 ?_
            refine pw_aload_n C dX9_buyer_99 rfl ?_
            refine pw_dup C dX9_buyer_100 rfl ?_
            refine gv_9_153 C dX9_buyer_101 (fun r101 => ?_)
            rw [vup_k _ _ _ _ (show (0 : Nat) ≠ 20 by omega), vup_k _ _ _ _ (show (0 : Nat) ≠ 19 by omega), vup_k _ _ _ _ (show (0 : Nat) ≠ 18 by omega), vup_k _ _ _ _ (show (0 : Nat) ≠ 17 by omega)]
            refine pw_iconst C dX9_buyer_104 ?_
            refine pw_iadd C dX9_buyer_105 ?_
            refine pv_9_153 C (by omega) dX9_buyer_106 ?_
            refine pw_aload_n C dX9_buyer_109 rfl ?_
            refine gv_9_153 C dX9_buyer_110 (fun r110 => ?_)
            rw [vup_v]
            refine pw_iconst C dX9_buyer_113 ?_
            refine pw_isub C dX9_buyer_114 ?_
            exact pw_iret C R dX9_buyer_115 ⟨(congrArg (fun q => some (iv q)) (by unfold xBuyer; (try unfold has at *); (try unfold place at *); (try unfold hasB at *); (try unfold sw4); (try unfold sw3); (repeat (first | rw [pif_t (by first | omega | assumption)] | rw [pif_f (by first | omega | assumption)])); all_goals (first | rfl | omega | ((repeat' split) <;> first | rfl | omega)))), ⟨_, rfl, (by unfold vBuyer; (try unfold has); (try unfold place); (try unfold hasB); first | (rw [vif_f (by omega)]; done) | (rw [mvf_15, mvu_20, mvu_19, mvu_18, mvu_17]; rw [vif_t (by omega)]; done) | (rw [mvf_15, mvu_20, mvu_19, mvu_18, mvu_17]; rw [vif_t (by omega)]; rfl)), (by first | exact P3.rf _ | exact (P3.rf _).up (by omega) | exact (((((P3.rf _).up (by omega)).up (by omega)).up (by omega)).up (by omega)).up (by omega))⟩⟩
          · refine pw_bipush C dX9_buyer_55 (by decide) ?_
            exact pw_iret C R dX9_buyer_57 ⟨(congrArg (fun q => some (iv q)) (by unfold xBuyer; (try unfold has at *); (try unfold place at *); (try unfold hasB at *); (try unfold sw4); (try unfold sw3); (repeat (first | rw [pif_t (by first | omega | assumption)] | rw [pif_f (by first | omega | assumption)])); all_goals (first | rfl | omega | ((repeat' split) <;> first | rfl | omega)))), ⟨_, rfl, (by unfold vBuyer; (try unfold has); (try unfold place); (try unfold hasB); first | (rw [vif_f (by omega)]; done) | (rw [mvf_15, mvu_20, mvu_19, mvu_18, mvu_17]; rw [vif_t (by omega)]; done) | (rw [mvf_15, mvu_20, mvu_19, mvu_18, mvu_17]; rw [vif_t (by omega)]; rfl)), (by first | exact P3.rf _ | exact (P3.rf _).up (by omega) | exact (((((P3.rf _).up (by omega)).up (by omega)).up (by omega)).up (by omega)).up (by omega))⟩⟩
        · refine pw_bipush C dX9_buyer_43 (by decide) ?_
          exact pw_iret C R dX9_buyer_45 ⟨(congrArg (fun q => some (iv q)) (by unfold xBuyer; (try unfold has at *); (try unfold place at *); (try unfold hasB at *); (try unfold sw4); (try unfold sw3); (repeat (first | rw [pif_t (by first | omega | assumption)] | rw [pif_f (by first | omega | assumption)])); all_goals (first | rfl | omega | ((repeat' split) <;> first | rfl | omega)))), ⟨_, rfl, (by unfold vBuyer; (try unfold has); (try unfold place); (try unfold hasB); first | (rw [vif_f (by omega)]; done) | (rw [mvf_15, mvu_20, mvu_19, mvu_18, mvu_17]; rw [vif_t (by omega)]; done) | (rw [mvf_15, mvu_20, mvu_19, mvu_18, mvu_17]; rw [vif_t (by omega)]; rfl)), (by first | exact P3.rf _ | exact (P3.rf _).up (by omega) | exact (((((P3.rf _).up (by omega)).up (by omega)).up (by omega)).up (by omega)).up (by omega))⟩⟩
    · refine pw_iconst C dX9_buyer_17 ?_
      exact pw_iret C R dX9_buyer_18 ⟨(congrArg (fun q => some (iv q)) (by unfold xBuyer; (try unfold has at *); (try unfold place at *); (try unfold hasB at *); (try unfold sw4); (try unfold sw3); (repeat (first | rw [pif_t (by first | omega | assumption)] | rw [pif_f (by first | omega | assumption)])); all_goals (first | rfl | omega | ((repeat' split) <;> first | rfl | omega)))), ⟨_, rfl, (by unfold vBuyer; (try unfold has); (try unfold place); (try unfold hasB); first | (rw [vif_f (by omega)]; done) | (rw [mvf_15, mvu_20, mvu_19, mvu_18, mvu_17]; rw [vif_t (by omega)]; done) | (rw [mvf_15, mvu_20, mvu_19, mvu_18, mvu_17]; rw [vif_t (by omega)]; rfl)), (by first | exact P3.rf _ | exact (P3.rf _).up (by omega) | exact (((((P3.rf _).up (by omega)).up (by omega)).up (by omega)).up (by omega)).up (by omega))⟩⟩
