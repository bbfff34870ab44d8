set_option maxRecDepth 100000 in
set_option maxHeartbeats 400000 in
theorem c_X8_lose {l : Launch} {S : SW} {M : Mem} {k : Int}  (hk : InR k) (hI : DayOk (M 0)) (hk : M 0 0 0 11 = -9) (hS : ShOk (M 2))  : PM l S yX8_lose cX8_lose 3 (some .int) 1 21 [rv S 2 0 0, iv k] (M) (rX (xLose (M 2) k) M (M 0) (zLose (M 2) k)) := by
  refine PM.of (own := RX8) (by decide) rfl [some (rv S 2 0 0), some (iv k), none] rfl rfl (Nat.le_of_ble_eq_true rfl) (fun X hXl C R => ?_)
  subst hXl
  obtain ⟨i1, i2, i3, i4, i5, i6, i7, i8⟩ := id hI
  refine pw_aload_n C dX8_lose_0 rfl ?_
  refine gf_8_28 C dX8_lose_1 ?_
  refine pw_iload_n C dX8_lose_4 rfl ?_
  refine pw_cVI C [_] mi_X5_isThere mv_X5_isThere ml_8_276 oC_5 rfl (c_X5_isThere (by omega)) (by decide) rfl (Nat.le_of_ble_eq_true rfl) dX8_lose_5 ?_
  refine pw_if_ne_b (tgt := 13) C dX8_lose_8 rfl (fun c8 => ?_) (fun c8 => ?_)
  · refine pw_aload_n C dX8_lose_13 rfl ?_
    refine gf_8_28 C dX8_lose_14 ?_
    refine pw_iload_n C dX8_lose_17 rfl ?_
    refine pw_V 2 ?_
    refine pw_cVI C [_] mi_X5_hasRow mv_X5_hasRow ml_8_290 oC_5 rfl (c_X5_hasRow (by omega) (by omega) (by omega)) (by decide) rfl (Nat.le_of_ble_eq_true rfl) dX8_lose_18 ?_
    refine pw_U 2 ?_
    refine pw_istore_2 C dX8_lose_21 (k := ?_)
    refine pw_aload_n C dX8_lose_22 rfl ?_
    refine gf_8_28 C dX8_lose_23 ?_
    refine gf_8_293 C dX8_lose_26 ?_
    refine pw_iload_n C dX8_lose_29 rfl ?_
    refine pw_iconst C dX8_lose_30 ?_
    refine pw_iast C aC_9 (by omega) (by omega) (by decide) (by omega) dX8_lose_31 ?_
    refine pw_iload_n C dX8_lose_32 rfl ?_
    refine pw_if_eq_b (tgt := 40) C dX8_lose_33 rfl (fun c33 => ?_) (fun c33 => ?_)
    · refine pw_iconst C dX8_lose_40 ?_
      first
        | (have e : 1 = xLose (M 2) k := by unfold xLose; (try unfold sk at *); (try unfold rch at *); (repeat (first | rw [pif_t (by first | omega | assumption)] | rw [pif_f (by first | omega | assumption)])); all_goals (first | rfl | omega | ((repeat' split) <;> first | rfl | omega))
           exact pw_iret C R dX8_lose_41 ⟨congrArg (fun q => some (iv q)) e, rfl, Fr.rf _, by unfold zLose; rw [vif_t (by unfold sk; omega)]; exact fun _ _ _ _ => rfl⟩)
        | (have e : 0 = xLose (M 2) k := by unfold xLose; (try unfold sk at *); (try unfold rch at *); (repeat (first | rw [pif_t (by first | omega | assumption)] | rw [pif_f (by first | omega | assumption)])); all_goals (first | rfl | omega | ((repeat' split) <;> first | rfl | omega))
           exact pw_iret C R dX8_lose_41 ⟨congrArg (fun q => some (iv q)) e, rfl, Fr.rf _, by unfold zLose; rw [vif_t (by unfold sk; omega)]; exact fun _ _ _ _ => rfl⟩)
    · refine pw_iconst C dX8_lose_36 ?_
      refine pw_goto (tgt := 41) C dX8_lose_37 rfl ?_
      first
        | (have e : 1 = xLose (M 2) k := by unfold xLose; (try unfold sk at *); (try unfold rch at *); (repeat (first | rw [pif_t (by first | omega | assumption)] | rw [pif_f (by first | omega | assumption)])); all_goals (first | rfl | omega | ((repeat' split) <;> first | rfl | omega))
           exact pw_iret C R dX8_lose_41 ⟨congrArg (fun q => some (iv q)) e, rfl, Fr.rf _, by unfold zLose; rw [vif_t (by unfold sk; omega)]; exact fun _ _ _ _ => rfl⟩)
        | (have e : 0 = xLose (M 2) k := by unfold xLose; (try unfold sk at *); (try unfold rch at *); (repeat (first | rw [pif_t (by first | omega | assumption)] | rw [pif_f (by first | omega | assumption)])); all_goals (first | rfl | omega | ((repeat' split) <;> first | rfl | omega))
           exact pw_iret C R dX8_lose_41 ⟨congrArg (fun q => some (iv q)) e, rfl, Fr.rf _, by unfold zLose; rw [vif_t (by unfold sk; omega)]; exact fun _ _ _ _ => rfl⟩)
  · refine pw_iconst C dX8_lose_11 ?_
    first
      | (have e : -1 = xLose (M 2) k := by unfold xLose; (try unfold sk at *); (try unfold rch at *); (repeat (first | rw [pif_t (by first | omega | assumption)] | rw [pif_f (by first | omega | assumption)])); all_goals (first | rfl | omega | ((repeat' split) <;> first | rfl | omega))
         exact pw_iret C R dX8_lose_12 ⟨congrArg (fun q => some (iv q)) e, rfl, Fr.rf _, by unfold zLose; rw [vif_f (by unfold sk; omega)]; exact fun _ _ _ _ => rfl⟩)
set_option maxRecDepth 100000 in
set_option maxHeartbeats 400000 in
theorem c_X8_put {l : Launch} {S : SW} {M : Mem} {k i v : Int}  (hk : InR k) (hi : InR i) (hv : InR v) (hI : DayOk (M 0)) (hk : M 0 0 0 11 = -9) (hS : ShOk (M 2))  : PM l S yX8_put cX8_put 4 (some .int) 1 23 [rv S 2 0 0, iv k, iv i, iv v] (M) (rX (xPut (M 2) k i) M (M 0) (zPut (M 2) k i v)) := by
  refine PM.of (own := RX8) (by decide) rfl [some (rv S 2 0 0), some (iv k), some (iv i), some (iv v)] rfl rfl (Nat.le_of_ble_eq_true rfl) (fun X hXl C R => ?_)
  subst hXl
  obtain ⟨i1, i2, i3, i4, i5, i6, i7, i8⟩ := id hI
  refine pw_aload_n C dX8_put_0 rfl ?_
  refine pw_iconst C dX8_put_1 ?_
  refine pf_8_115 C (by omega) dX8_put_2 ?_
  have e9 : ∀ q, fl (M 2) 0 9 0 q = M 2 9 0 q := fun q => rfl
  have e8 : ∀ q, fl (M 2) 0 8 0 q = M 2 8 0 q := fun q => rfl
  have e9k : vup (M 2) 0 0 6 0 9 0 k = M 2 9 0 k := rfl
  have e8k : vup (M 2) 0 0 6 0 8 0 k = M 2 8 0 k := rfl
  refine pw_aload_n C dX8_put_5 rfl ?_
  refine gf_8_28 C dX8_put_6 ?_
  refine pw_iload_n C dX8_put_9 rfl ?_
  refine pw_cVI C [_] mi_X5_isThere mv_X5_isThere ml_8_276 oC_5 rfl (c_X5_isThere (by omega)) (by decide) rfl (Nat.le_of_ble_eq_true rfl) dX8_put_10 ?_
  refine pw_if_ne_b (tgt := 18) C dX8_put_13 rfl (fun c13 => ?_) (fun c13 => ?_)
  · refine pw_aload_n C dX8_put_18 rfl ?_
    refine gf_8_28 C dX8_put_19 ?_
    refine pw_iload_n C dX8_put_22 rfl ?_
    refine pw_cVI C [_] mi_X5_hasRow mv_X5_hasRow ml_8_290 oC_5 rfl (c_X5_hasRow (by omega) (by omega) (by omega)) (by decide) rfl (Nat.le_of_ble_eq_true rfl) dX8_put_23 ?_
    refine pw_if_ne_b (tgt := 35) C dX8_put_26 rfl (fun c26 => ?_) (fun c26 => ?_)
    · refine pw_aload_n C dX8_put_35 rfl ?_
      refine gf_8_28 C dX8_put_36 ?_
      refine pw_iload_n C dX8_put_39 rfl ?_
      refine pw_iload_n C dX8_put_40 rfl ?_
      refine pw_iconst C dX8_put_41 ?_
      refine pw_cVI C [_, _, _] mi_X5_reaches mv_X5_reaches ml_8_296 oC_5 rfl (c_X5_reaches (by omega) (by omega) (by omega) (by omega) (by omega)) (by decide) rfl (Nat.le_of_ble_eq_true rfl) dX8_put_42 ?_
      refine pw_if_ne_b (tgt := 54) C dX8_put_45 rfl (fun c45 => ?_) (fun c45 => ?_)
      · refine pw_aload_n C dX8_put_54 rfl ?_
        refine gf_8_28 C dX8_put_55 ?_
        refine gf_8_50 C dX8_put_58 ?_
        refine pw_iload_n C dX8_put_61 rfl ?_
        refine pw_aald C qC_6 (by omega) (by omega) (by decide) dX8_put_62 ?_
        refine pw_iload_n C dX8_put_63 rfl ?_
        refine pw_iload_n C dX8_put_64 rfl ?_
        refine pw_aload_n C dX8_put_65 rfl ?_
        refine gf_8_28 C dX8_put_66 ?_
        refine gf_8_299 C dX8_put_69 ?_
        refine pw_iload_n C dX8_put_72 rfl ?_
        refine pw_ialdV C aC_8 (by omega) (by omega) (by decide) dX8_put_73 (fun r73 => ?_)
        refine pw_cSI C [_, _] mi_X5_cut ms_X5_cut ml_8_302 (c_X5_cut (by omega) (by omega)) (by decide) rfl (Nat.le_of_ble_eq_true rfl) dX8_put_74 ?_
        refine pw_iastV C (aC_7 (by omega) (by omega)) (by omega) (by have := hS k (by omega) (by omega); omega) (by decide) (cut_R _ _ hv) dX8_put_77 ?_
        refine pw_iconst C dX8_put_78 ?_
        first
          | (have e : 1 = xPut (M 2) k i := by unfold xPut; (try unfold sk at *); (try unfold rch at *); (repeat (first | rw [pif_t (by first | omega | assumption)] | rw [pif_f (by first | omega | assumption)])); all_goals (first | rfl | omega | ((repeat' split) <;> first | rfl | omega))
             exact pw_iret C R dX8_put_79 ⟨congrArg (fun q => some (iv q)) e, rfl, Fr.rf _, by unfold zPut; rw [vif_t (by omega)]; exact fun _ _ _ _ => rfl⟩)
      · refine pw_aload_n C dX8_put_48 rfl ?_
        refine pw_iconst C dX8_put_49 ?_
        refine pw_cVI C [_] mi_X8_faultOf mv_X8_faultOf ml_8_282 oC_0 rfl (c_X8_faultOf (by omega)) (by decide) rfl (Nat.le_of_ble_eq_true rfl) dX8_put_50 ?_
        first
          | (have e : -10 - 3 = xPut (M 2) k i := by unfold xPut; (try unfold sk at *); (try unfold rch at *); (repeat (first | rw [pif_t (by first | omega | assumption)] | rw [pif_f (by first | omega | assumption)])); all_goals (first | rfl | omega | ((repeat' split) <;> first | rfl | omega))
             exact pw_iret C R dX8_put_53 ⟨congrArg (fun q => some (iv q)) e, rfl, Fr.rf _, by unfold zPut; rw [vif_f (by omega), ← e]; exact fun k r i _ => congrFun (congrFun (congrFun (fl_fl (M 2) 0 3) k) r) i⟩)
    · refine pw_aload_n C dX8_put_29 rfl ?_
      refine pw_iconst C dX8_put_30 ?_
      refine pw_cVI C [_] mi_X8_faultOf mv_X8_faultOf ml_8_282 oC_0 rfl (c_X8_faultOf (by omega)) (by decide) rfl (Nat.le_of_ble_eq_true rfl) dX8_put_31 ?_
      first
        | (have e : -10 - 1 = xPut (M 2) k i := by unfold xPut; (try unfold sk at *); (try unfold rch at *); (repeat (first | rw [pif_t (by first | omega | assumption)] | rw [pif_f (by first | omega | assumption)])); all_goals (first | rfl | omega | ((repeat' split) <;> first | rfl | omega))
           exact pw_iret C R dX8_put_34 ⟨congrArg (fun q => some (iv q)) e, rfl, Fr.rf _, by unfold zPut; rw [vif_f (by omega), ← e]; exact fun k r i _ => congrFun (congrFun (congrFun (fl_fl (M 2) 0 1) k) r) i⟩)
  · refine pw_iconst C dX8_put_16 ?_
    first
      | (have e : -1 = xPut (M 2) k i := by unfold xPut; (try unfold sk at *); (try unfold rch at *); (repeat (first | rw [pif_t (by first | omega | assumption)] | rw [pif_f (by first | omega | assumption)])); all_goals (first | rfl | omega | ((repeat' split) <;> first | rfl | omega))
         exact pw_iret C R dX8_put_17 ⟨congrArg (fun q => some (iv q)) e, rfl, Fr.rf _, by unfold zPut; rw [vif_f (by omega), ← e]; exact fun _ _ _ _ => rfl⟩)
set_option maxRecDepth 100000 in
set_option maxHeartbeats 400000 in
theorem c_X8_cell {l : Launch} {S : SW} {M : Mem} {k i ln : Int}  (hk : InR k) (hi : InR i) (hln : InR ln) (hI : DayOk (M 0)) (hk : M 0 0 0 11 = -9) (hS : ShOk (M 2))  : PM l S yX8_cell cX8_cell 4 (some .long) 2 47 [rv S 2 0 0, iv k, iv i, iv ln] (M) (rY (xCell (M 2) k i ln) M (M 0) (fl (M 2) (lookF (look (M 2) k ln i 1)))) := by
  refine PM.of (own := RX8) (by decide) rfl [some (rv S 2 0 0), some (iv k), some (iv i), some (iv ln)] rfl rfl (Nat.le_of_ble_eq_true rfl) (fun X hXl C R => ?_)
  subst hXl
  obtain ⟨i1, i2, i3, i4, i5, i6, i7, i8⟩ := id hI
  refine pw_aload_n C dX8_cell_0 rfl ?_
  refine pw_iload_n C dX8_cell_1 rfl ?_
  refine pw_iload_n C dX8_cell_2 rfl ?_
  refine pw_iload_n C dX8_cell_3 rfl ?_
  refine pw_iconst C dX8_cell_4 ?_
  refine pw_V 2 ?_
  refine pw_cVI C [_, _, _, _] mi_X8_lookAtCells mv_X8_lookAtCells ml_8_46 oC_0 rfl (c_X8_lookAtCells (by omega) (by omega) (by omega) (by omega)) (by decide) rfl (Nat.le_of_ble_eq_true rfl) dX8_cell_5 ?_
  have hlr := look_r (M 2) k ln i 1
  refine pw_if_eq (tgt := 15) C dX8_cell_8 rfl (by omega) (fun c8 => ?_) (fun c8 => ?_)
  · have hl := look_0 hS (by assumption)
    refine pw_aload_n C dX8_cell_15 rfl ?_
    refine gf_8_28 C dX8_cell_16 ?_
    refine gf_8_50 C dX8_cell_19 ?_
    refine pw_iload_n C dX8_cell_22 rfl ?_
    refine pw_aald C qC_6 (by omega) (by omega) (by decide) dX8_cell_23 ?_
    refine pw_iload_n C dX8_cell_24 rfl ?_
    refine pw_ialdV C (aC_7 (by omega) (by omega)) (by omega) (by omega) (by decide) dX8_cell_25 (fun r25 => ?_)
    refine pw_i2l C (by omega) dX8_cell_26 ?_
    exact pw_lret C R dX8_cell_27 ⟨congrArg (fun q => some (jv q)) (by unfold xCell; rw [pif_t (by assumption)]; rfl), rfl, Fr.rf _, fun _ _ _ _ => rfl⟩
  · refine pw_ldc2 C (n := -9223372036854775808) (inT3 75 rfl rfl) (by decide) dX8_cell_11 ?_
    exact pw_lret C R dX8_cell_14 ⟨congrArg (fun q => some (jv q)) (by unfold xCell; rw [pif_f (by assumption)]; rfl), rfl, Fr.rf _, fun _ _ _ _ => rfl⟩
set_option maxRecDepth 100000 in
set_option maxHeartbeats 400000 in
theorem c_X8_copy {l : Launch} {S : SW} {M : Mem} {k i o j n : Int}  (hk : InR k) (hi : InR i) (ho : InR o) (hj : InR j) (hn : InR n) (hI : DayOk (M 0)) (hk : M 0 0 0 11 = -9) (hS : ShOk (M 2))  : PM l S yX8_copy cX8_copy 6 (some .int) 1 26 [rv S 2 0 0, iv k, iv i, iv o, iv j, iv n] (M) (rX (xCopy (M 2) k i o j n) M (M 0) (zCopy (M 2) k i o j n)) := by
  refine PM.of (own := RX8) (by decide) rfl [some (rv S 2 0 0), some (iv k), some (iv i), some (iv o), some (iv j), some (iv n)] rfl rfl (Nat.le_of_ble_eq_true rfl) (fun X hXl C R => ?_)
  subst hXl
  obtain ⟨i1, i2, i3, i4, i5, i6, i7, i8⟩ := id hI
  refine pw_aload_n C dX8_copy_0 rfl ?_
  refine pw_iconst C dX8_copy_1 ?_
  refine pf_8_115 C (by omega) dX8_copy_2 ?_
  have e9 : ∀ q, fl (M 2) 0 9 0 q = M 2 9 0 q := fun q => rfl
  have e8 : ∀ q, fl (M 2) 0 8 0 q = M 2 8 0 q := fun q => rfl
  have e9k : vup (M 2) 0 0 6 0 9 0 k = M 2 9 0 k := rfl
  have e8k : vup (M 2) 0 0 6 0 8 0 k = M 2 8 0 k := rfl
  have e9o : vup (M 2) 0 0 6 0 9 0 o = M 2 9 0 o := rfl
  have e8o : vup (M 2) 0 0 6 0 8 0 o = M 2 8 0 o := rfl
  refine pw_aload_n C dX8_copy_5 rfl ?_
  refine gf_8_28 C dX8_copy_6 ?_
  refine pw_iload_n C dX8_copy_9 rfl ?_
  refine pw_cVI C [_] mi_X5_isThere mv_X5_isThere ml_8_276 oC_5 rfl (c_X5_isThere (by omega)) (by decide) rfl (Nat.le_of_ble_eq_true rfl) dX8_copy_10 ?_
  refine pw_if_eq_b (tgt := 27) C dX8_copy_13 rfl (fun c13 => ?_) (fun c13 => ?_)
  · refine pw_iconst C dX8_copy_27 ?_
    first
      | (have e : -1 = xCopy (M 2) k i o j n := by unfold xCopy; (try unfold sk at *); (try unfold rch at *); (repeat (first | rw [pif_t (by first | omega | assumption)] | rw [pif_f (by first | omega | assumption)])); all_goals (first | rfl | omega | ((repeat' split) <;> first | rfl | omega))
         exact pw_iret C R dX8_copy_28 ⟨congrArg (fun q => some (iv q)) e, rfl, Fr.rf _, by unfold zCopy; rw [vif_f (by omega), ← e]; exact fun _ _ _ _ => rfl⟩)
  · refine pw_aload_n C dX8_copy_16 rfl ?_
    refine gf_8_28 C dX8_copy_17 ?_
    refine pw_iload_n C dX8_copy_20 rfl ?_
    refine pw_cVI C [_] mi_X5_isThere mv_X5_isThere ml_8_276 oC_5 rfl (c_X5_isThere (by omega)) (by decide) rfl (Nat.le_of_ble_eq_true rfl) dX8_copy_21 ?_
    refine pw_if_ne_b (tgt := 29) C dX8_copy_24 rfl (fun c24 => ?_) (fun c24 => ?_)
    · refine pw_aload_n C dX8_copy_29 rfl ?_
      refine gf_8_28 C dX8_copy_30 ?_
      refine pw_iload_n C dX8_copy_33 rfl ?_
      refine pw_cVI C [_] mi_X5_hasRow mv_X5_hasRow ml_8_290 oC_5 rfl (c_X5_hasRow (by omega) (by omega) (by omega)) (by decide) rfl (Nat.le_of_ble_eq_true rfl) dX8_copy_34 ?_
      refine pw_if_eq_b (tgt := 51) C dX8_copy_37 rfl (fun c37 => ?_) (fun c37 => ?_)
      · refine pw_aload_n C dX8_copy_51 rfl ?_
        refine pw_iconst C dX8_copy_52 ?_
        refine pw_cVI C [_] mi_X8_faultOf mv_X8_faultOf ml_8_282 oC_0 rfl (c_X8_faultOf (by omega)) (by decide) rfl (Nat.le_of_ble_eq_true rfl) dX8_copy_53 ?_
        first
          | (have e : -10 - 1 = xCopy (M 2) k i o j n := by unfold xCopy; (try unfold sk at *); (try unfold rch at *); (repeat (first | rw [pif_t (by first | omega | assumption)] | rw [pif_f (by first | omega | assumption)])); all_goals (first | rfl | omega | ((repeat' split) <;> first | rfl | omega))
             exact pw_iret C R dX8_copy_56 ⟨congrArg (fun q => some (iv q)) e, rfl, Fr.rf _, by unfold zCopy; rw [vif_f (by omega), ← e]; exact fun k r i _ => congrFun (congrFun (congrFun (fl_fl (M 2) 0 1) k) r) i⟩)
      · refine pw_aload_n C dX8_copy_40 rfl ?_
        refine gf_8_28 C dX8_copy_41 ?_
        refine pw_iload_n C dX8_copy_44 rfl ?_
        refine pw_cVI C [_] mi_X5_hasRow mv_X5_hasRow ml_8_290 oC_5 rfl (c_X5_hasRow (by omega) (by omega) (by omega)) (by decide) rfl (Nat.le_of_ble_eq_true rfl) dX8_copy_45 ?_
        refine pw_if_ne_b (tgt := 57) C dX8_copy_48 rfl (fun c48 => ?_) (fun c48 => ?_)
        · refine pw_aload_n C dX8_copy_57 rfl ?_
          refine gf_8_28 C dX8_copy_58 ?_
          refine gf_8_299 C dX8_copy_61 ?_
          refine pw_iload_n C dX8_copy_64 rfl ?_
          refine pw_ialdV C aC_8 (by omega) (by omega) (by decide) dX8_copy_65 (fun r65 => ?_)
          refine pw_aload_n C dX8_copy_66 rfl ?_
          refine gf_8_28 C dX8_copy_67 ?_
          refine gf_8_299 C dX8_copy_70 ?_
          refine pw_iload_n C dX8_copy_73 rfl ?_
          refine pw_ialdV C aC_8 (by omega) (by omega) (by decide) dX8_copy_74 (fun r74 => ?_)
          refine pw_icmp_eq (tgt := 84) C dX8_copy_75 rfl (by omega) (by omega) (fun c75 => ?_) (fun c75 => ?_)
          · refine pw_aload_n C dX8_copy_84 rfl ?_
            refine gf_8_28 C dX8_copy_85 ?_
            refine pw_iload_n C dX8_copy_88 rfl ?_
            refine pw_iload_n C dX8_copy_89 rfl ?_
            refine pw_iload C dX8_copy_90 rfl ?_
            refine pw_cVI C [_, _, _] mi_X5_reaches mv_X5_reaches ml_8_296 oC_5 rfl (c_X5_reaches (by omega) (by omega) (by omega) (by omega) (by omega)) (by decide) rfl (Nat.le_of_ble_eq_true rfl) dX8_copy_92 ?_
            refine pw_if_eq_b (tgt := 113) C dX8_copy_95 rfl (fun c95 => ?_) (fun c95 => ?_)
            · refine pw_aload_n C dX8_copy_113 rfl ?_
              refine pw_iconst C dX8_copy_114 ?_
              refine pw_cVI C [_] mi_X8_faultOf mv_X8_faultOf ml_8_282 oC_0 rfl (c_X8_faultOf (by omega)) (by decide) rfl (Nat.le_of_ble_eq_true rfl) dX8_copy_115 ?_
              first
                | (have e : -10 - 3 = xCopy (M 2) k i o j n := by unfold xCopy; (try unfold sk at *); (try unfold rch at *); (repeat (first | rw [pif_t (by first | omega | assumption)] | rw [pif_f (by first | omega | assumption)])); all_goals (first | rfl | omega | ((repeat' split) <;> first | rfl | omega))
                   exact pw_iret C R dX8_copy_118 ⟨congrArg (fun q => some (iv q)) e, rfl, Fr.rf _, by unfold zCopy; rw [vif_f (by omega), ← e]; exact fun k r i _ => congrFun (congrFun (congrFun (fl_fl (M 2) 0 3) k) r) i⟩)
            · refine pw_aload_n C dX8_copy_98 rfl ?_
              refine gf_8_28 C dX8_copy_99 ?_
              refine pw_iload_n C dX8_copy_102 rfl ?_
              refine pw_iload C dX8_copy_103 rfl ?_
              refine pw_iload C dX8_copy_105 rfl ?_
              refine pw_cVI C [_, _, _] mi_X5_reaches mv_X5_reaches ml_8_296 oC_5 rfl (c_X5_reaches (by omega) (by omega) (by omega) (by omega) (by omega)) (by decide) rfl (Nat.le_of_ble_eq_true rfl) dX8_copy_107 ?_
              refine pw_if_ne_b (tgt := 119) C dX8_copy_110 rfl (fun c110 => ?_) (fun c110 => ?_)
              · have hSk := hS k (by omega) (by omega)
                have hSo := hS o (by omega) (by omega)
                refine pw_aload_n C dX8_copy_119 rfl ?_
                refine gf_8_28 C dX8_copy_120 ?_
                refine gf_8_50 C dX8_copy_123 ?_
                refine pw_iload_n C dX8_copy_126 rfl ?_
                refine pw_aald C qC_6 (by omega) (by omega) (by decide) dX8_copy_127 ?_
                refine pw_iload_n C dX8_copy_128 rfl ?_
                refine pw_aload_n C dX8_copy_129 rfl ?_
                refine gf_8_28 C dX8_copy_130 ?_
                refine gf_8_50 C dX8_copy_133 ?_
                refine pw_iload_n C dX8_copy_136 rfl ?_
                refine pw_aald C qC_6 (by omega) (by omega) (by decide) dX8_copy_137 ?_
                refine pw_iload C dX8_copy_138 rfl ?_
                refine pw_iload C dX8_copy_140 rfl ?_
                refine pw_copy C cpy_8_125 (aC_7 (by omega) (by omega)) (aC_7 (by omega) (by omega)) (by omega) (by omega) (by omega) (by omega) (by omega) (by decide) (by decide) (Nat.le_of_ble_eq_true rfl) (by decide) dX8_copy_142 ?_
                rw [mst_m, mst_s]
                refine pw_iload C dX8_copy_145 rfl ?_
                first
                  | (have e : n = xCopy (M 2) k i o j n := by unfold xCopy; (try unfold sk at *); (try unfold rch at *); (repeat (first | rw [pif_t (by first | omega | assumption)] | rw [pif_f (by first | omega | assumption)])); all_goals (first | rfl | omega | ((repeat' split) <;> first | rfl | omega))
                     exact pw_iret C R dX8_copy_147 ⟨congrArg (fun q => some (iv q)) e, rfl, Fr.rf _, by unfold zCopy; rw [vif_t (by omega)]; exact fun _ _ _ _ => rfl⟩)
              · refine pw_aload_n C dX8_copy_113 rfl ?_
                refine pw_iconst C dX8_copy_114 ?_
                refine pw_cVI C [_] mi_X8_faultOf mv_X8_faultOf ml_8_282 oC_0 rfl (c_X8_faultOf (by omega)) (by decide) rfl (Nat.le_of_ble_eq_true rfl) dX8_copy_115 ?_
                first
                  | (have e : -10 - 3 = xCopy (M 2) k i o j n := by unfold xCopy; (try unfold sk at *); (try unfold rch at *); (repeat (first | rw [pif_t (by first | omega | assumption)] | rw [pif_f (by first | omega | assumption)])); all_goals (first | rfl | omega | ((repeat' split) <;> first | rfl | omega))
                     exact pw_iret C R dX8_copy_118 ⟨congrArg (fun q => some (iv q)) e, rfl, Fr.rf _, by unfold zCopy; rw [vif_f (by omega), ← e]; exact fun k r i _ => congrFun (congrFun (congrFun (fl_fl (M 2) 0 3) k) r) i⟩)
          · refine pw_aload_n C dX8_copy_78 rfl ?_
            refine pw_iconst C dX8_copy_79 ?_
            refine pw_cVI C [_] mi_X8_faultOf mv_X8_faultOf ml_8_282 oC_0 rfl (c_X8_faultOf (by omega)) (by decide) rfl (Nat.le_of_ble_eq_true rfl) dX8_copy_80 ?_
            first
              | (have e : -10 - 2 = xCopy (M 2) k i o j n := by unfold xCopy; (try unfold sk at *); (try unfold rch at *); (repeat (first | rw [pif_t (by first | omega | assumption)] | rw [pif_f (by first | omega | assumption)])); all_goals (first | rfl | omega | ((repeat' split) <;> first | rfl | omega))
                 exact pw_iret C R dX8_copy_83 ⟨congrArg (fun q => some (iv q)) e, rfl, Fr.rf _, by unfold zCopy; rw [vif_f (by omega), ← e]; exact fun k r i _ => congrFun (congrFun (congrFun (fl_fl (M 2) 0 2) k) r) i⟩)
        · refine pw_aload_n C dX8_copy_51 rfl ?_
          refine pw_iconst C dX8_copy_52 ?_
          refine pw_cVI C [_] mi_X8_faultOf mv_X8_faultOf ml_8_282 oC_0 rfl (c_X8_faultOf (by omega)) (by decide) rfl (Nat.le_of_ble_eq_true rfl) dX8_copy_53 ?_
          first
            | (have e : -10 - 1 = xCopy (M 2) k i o j n := by unfold xCopy; (try unfold sk at *); (try unfold rch at *); (repeat (first | rw [pif_t (by first | omega | assumption)] | rw [pif_f (by first | omega | assumption)])); all_goals (first | rfl | omega | ((repeat' split) <;> first | rfl | omega))
               exact pw_iret C R dX8_copy_56 ⟨congrArg (fun q => some (iv q)) e, rfl, Fr.rf _, by unfold zCopy; rw [vif_f (by omega), ← e]; exact fun k r i _ => congrFun (congrFun (congrFun (fl_fl (M 2) 0 1) k) r) i⟩)
    · refine pw_iconst C dX8_copy_27 ?_
      first
        | (have e : -1 = xCopy (M 2) k i o j n := by unfold xCopy; (try unfold sk at *); (try unfold rch at *); (repeat (first | rw [pif_t (by first | omega | assumption)] | rw [pif_f (by first | omega | assumption)])); all_goals (first | rfl | omega | ((repeat' split) <;> first | rfl | omega))
           exact pw_iret C R dX8_copy_28 ⟨congrArg (fun q => some (iv q)) e, rfl, Fr.rf _, by unfold zCopy; rw [vif_f (by omega), ← e]; exact fun _ _ _ _ => rfl⟩)
def allP (Z : DM) (k i n : Int) : Prop := ∀ j, 0 ≤ j → j < n → 0 ≤ Z 7 k (i + j) ∧ Z 7 k (i + j) ≤ 30
noncomputable def xCo (V Z : DM) (s k ln i n : Int) : Int := pif (has V s) (pif (look Z k ln i n = 0) (pif ((1 ≤ n ∧ n ≤ V 1 0 5) ∧ allP Z k i n) n (-2)) (look Z k ln i n)) (-1)
noncomputable def vCo (V Z : DM) (s k ln i n : Int) : DM := vif (has V s ∧ look Z k ln i n = 0 ∧ (1 ≤ n ∧ n ≤ V 1 0 5) ∧ allP Z k i n) (vset V 7 s (vcp (V 7 s) (Z 7 k) i 0 n)) V
noncomputable def fCo (V Z : DM) (s k ln i n : Int) : Int := pif (has V s) (lookF (look Z k ln i n)) 0
theorem look_c {V W : DM} (h8 : ∀ q, W 8 0 q = V 8 0 q) (h9 : ∀ q, W 9 0 q = V 9 0 q) (k ln i n : Int) : look W k ln i n = look V k ln i n := by
  unfold look
  rw [h8, h9]
set_option maxRecDepth 100000 in
set_option maxHeartbeats 400000 in
theorem c_X8_copyOut {l : Launch} {S : SW} {M : Mem} {s k ln i n : Int}  (hs : InR s) (hk : InR k) (hln : InR ln) (hi : InR i) (hn : InR n) (hI : DayOk (M 0)) (hk : M 0 0 0 11 = -9) (hS : ShOk (M 2))  : PM l S yX8_copyOut cX8_copyOut 7 (some .int) 2 47 [rv S 2 0 0, iv s, iv k, iv ln, iv i, iv n] (M) (rX (xCo (M 0) (M 2) s k ln i n) M (vCo (M 0) (M 2) s k ln i n) (fl (M 2) (fCo (M 0) (M 2) s k ln i n))) := by
  refine PM.of (own := RX8) (by decide) rfl [some (rv S 2 0 0), some (iv s), some (iv k), some (iv ln), some (iv i), some (iv n), none] rfl rfl (Nat.le_of_ble_eq_true rfl) (fun X hXl C R => ?_)
  subst hXl
  obtain ⟨i1, i2, i3, i4, i5, i6, i7, i8⟩ := id hI
  refine pw_aload_n C dX8_copyOut_0 rfl ?_
  refine pw_iconst C dX8_copyOut_1 ?_
  refine pf_8_115 C (by omega) dX8_copyOut_2 ?_
  refine pw_aload_n C dX8_copyOut_5 rfl ?_
  refine gf_8_12 C dX8_copyOut_6 ?_
  refine gf_8_60 0 (by decide) C dX8_copyOut_9 ?_
  refine pw_iload_n C dX8_copyOut_12 rfl ?_
  refine pw_Vo 0 (by decide) ?_
  refine pw_cVI C [_] mi_X6_hasSort mv_X6_hasSort ml_8_83 (oD_1 (by decide)) rfl (c_X6_hasSort (by decide) (by omega)) (by decide) rfl (Nat.le_of_ble_eq_true rfl) dX8_copyOut_13 ?_
  refine pw_Uo 0 (by decide) ?_
  refine pw_if_ne_b (tgt := 21) C dX8_copyOut_16 rfl (fun c16 => ?_) (fun c16 => ?_)
  · refine pw_aload_n C dX8_copyOut_21 rfl ?_
    refine pw_iload_n C dX8_copyOut_22 rfl ?_
    refine pw_iload_n C dX8_copyOut_23 rfl ?_
    refine pw_iload C dX8_copyOut_24 rfl ?_
    refine pw_iload C dX8_copyOut_26 rfl ?_
    refine pw_cVI C [_, _, _, _] mi_X8_lookAtCells mv_X8_lookAtCells ml_8_46 oC_0 rfl (c_X8_lookAtCells (by omega) (by omega) (by omega) (by omega)) (by decide) rfl (Nat.le_of_ble_eq_true rfl) dX8_copyOut_28 ?_
    refine pw_istore_6 C dX8_copyOut_31 (k := ?_)
    have eL : look (vup (M 2) 0 0 6 0) k ln i n = look (M 2) k ln i n := look_c (fun _ => rfl) (fun _ => rfl) k ln i n
    rw [eL]
    have hlr := look_r (M 2) k ln i n
    refine pw_iload C dX8_copyOut_33 rfl ?_
    refine pw_if_eq (tgt := 41) C dX8_copyOut_35 rfl (by omega) (fun c35 => ?_) (fun c35 => ?_)
    · have hl := look_0 hS c35
      refine pw_iload C dX8_copyOut_41 rfl ?_
      refine pw_iconst C dX8_copyOut_43 ?_
      refine pw_aload_n C dX8_copyOut_44 rfl ?_
      refine gf_8_12 C dX8_copyOut_45 ?_
      refine gf_8_60 0 (by decide) C dX8_copyOut_48 ?_
      refine go_8_118 0 (by decide) C (by decide) dX8_copyOut_51 (fun r51 => ?_)
      refine pw_cSI C [_, _, _] mi_X8_isWithin ms_X8_isWithin ml_8_108 (c_X8_isWithin (by omega) (by omega) (by omega)) (by decide) rfl (Nat.le_of_ble_eq_true rfl) dX8_copyOut_54 ?_
      refine pw_if_eq_b (tgt := 82) C dX8_copyOut_57 rfl (fun c57 => ?_) (fun c57 => ?_)
      · refine pw_bipush C dX8_copyOut_82 (by decide) ?_
        first
          | (have hN : ¬ ((1 ≤ n ∧ n ≤ M 0 1 0 5) ∧ allP (M 2) k i n) := fun h => c57 h.1
             exact pw_iret C R dX8_copyOut_84 ⟨congrArg (fun q => some (iv q)) (by unfold xCo; rw [pif_t (show has (M 0) s from c16), pif_t c35, pif_f hN]), rfl, (by unfold vCo; rw [vif_f (fun h => hN h.2.2)]; exact Fr.rf _), (by unfold fCo; rw [pif_t (show has (M 0) s from c16)]; exact fun k r i _ => congrFun (congrFun (congrFun (fl_fl (M 2) 0 _) k) r) i)⟩)
          | (have hN : ¬ ((1 ≤ n ∧ n ≤ M 0 1 0 5) ∧ allP (M 2) k i n) := fun h => c79 h.2
             exact pw_iret C R dX8_copyOut_84 ⟨congrArg (fun q => some (iv q)) (by unfold xCo; rw [pif_t (show has (M 0) s from c16), pif_t c35, pif_f hN]), rfl, (by unfold vCo; rw [vif_f (fun h => hN h.2.2)]; exact Fr.rf _), (by unfold fCo; rw [pif_t (show has (M 0) s from c16)]; exact fun k r i _ => congrFun (congrFun (congrFun (fl_fl (M 2) 0 _) k) r) i)⟩)
      · refine pw_aload_n C dX8_copyOut_60 rfl ?_
        refine gf_8_28 C dX8_copyOut_61 ?_
        refine gf_8_50 C dX8_copyOut_64 ?_
        refine pw_iload_n C dX8_copyOut_67 rfl ?_
        refine pw_aald C qC_6 (by omega) (by omega) (by decide) dX8_copyOut_68 ?_
        refine pw_iload C dX8_copyOut_69 rfl ?_
        refine pw_iload C dX8_copyOut_71 rfl ?_
        refine pw_iconst C dX8_copyOut_73 ?_
        refine pw_bipush C dX8_copyOut_74 (by decide) ?_
        refine pw_cSI C [_, _, _, _, _] mi_X8_areAllWithin ms_X8_areAllWithin ml_8_121 (c_X8_areAllWithin (by omega) (by omega) (by omega) (by omega) (by omega) (by omega) (by omega) (by omega) (by omega)) (by decide) rfl (Nat.le_of_ble_eq_true rfl) dX8_copyOut_76 ?_
        refine pw_if_ne_b (tgt := 85) C dX8_copyOut_79 rfl (fun c79 => ?_) (fun c79 => ?_)
        · refine pw_aload_n C dX8_copyOut_85 rfl ?_
          refine gf_8_28 C dX8_copyOut_86 ?_
          refine gf_8_50 C dX8_copyOut_89 ?_
          refine pw_iload_n C dX8_copyOut_92 rfl ?_
          refine pw_aald C qC_6 (by omega) (by omega) (by decide) dX8_copyOut_93 ?_
          refine pw_iload C dX8_copyOut_94 rfl ?_
          refine pw_aload_n C dX8_copyOut_96 rfl ?_
          refine gf_8_12 C dX8_copyOut_97 ?_
          refine gf_8_60 0 (by decide) C dX8_copyOut_100 ?_
          refine gf_8_112 0 (by decide) C dX8_copyOut_103 ?_
          refine pw_iload_n C dX8_copyOut_106 rfl ?_
          refine pw_aald C (qD_6 (by decide)) (by omega) (by omega) (by decide) dX8_copyOut_107 ?_
          refine pw_iconst C dX8_copyOut_108 ?_
          refine pw_iload C dX8_copyOut_109 rfl ?_
          refine pw_copy C cpy_8_125 (aC_7 (by omega) (by omega)) (aD_7 (by decide) (by omega) (by omega)) (by omega) (by omega) (by omega) (by omega) (by omega) (by decide) (by decide) (Nat.le_of_ble_eq_true rfl) (by decide) dX8_copyOut_111 ?_
          
          refine pw_iload C dX8_copyOut_114 rfl ?_
          have hN : (1 ≤ n ∧ n ≤ M 0 1 0 5) ∧ allP (M 2) k i n := ⟨c57, c79⟩
          exact pw_iret C R dX8_copyOut_116 ⟨congrArg (fun q => some (iv q)) (by unfold xCo; rw [pif_t (show has (M 0) s from c16), pif_t c35, pif_t hN]), rfl, (by unfold vCo; rw [vif_t ⟨c16, c35, hN⟩]; exact Fr.rf _), (by unfold fCo; rw [pif_t (show has (M 0) s from c16)]; exact fun k r i _ => congrFun (congrFun (congrFun (fl_fl (M 2) 0 _) k) r) i)⟩
        · refine pw_bipush C dX8_copyOut_82 (by decide) ?_
          first
            | (have hN : ¬ ((1 ≤ n ∧ n ≤ M 0 1 0 5) ∧ allP (M 2) k i n) := fun h => c57 h.1
               exact pw_iret C R dX8_copyOut_84 ⟨congrArg (fun q => some (iv q)) (by unfold xCo; rw [pif_t (show has (M 0) s from c16), pif_t c35, pif_f hN]), rfl, (by unfold vCo; rw [vif_f (fun h => hN h.2.2)]; exact Fr.rf _), (by unfold fCo; rw [pif_t (show has (M 0) s from c16)]; exact fun k r i _ => congrFun (congrFun (congrFun (fl_fl (M 2) 0 _) k) r) i)⟩)
            | (have hN : ¬ ((1 ≤ n ∧ n ≤ M 0 1 0 5) ∧ allP (M 2) k i n) := fun h => c79 h.2
               exact pw_iret C R dX8_copyOut_84 ⟨congrArg (fun q => some (iv q)) (by unfold xCo; rw [pif_t (show has (M 0) s from c16), pif_t c35, pif_f hN]), rfl, (by unfold vCo; rw [vif_f (fun h => hN h.2.2)]; exact Fr.rf _), (by unfold fCo; rw [pif_t (show has (M 0) s from c16)]; exact fun k r i _ => congrFun (congrFun (congrFun (fl_fl (M 2) 0 _) k) r) i)⟩)
    · refine pw_iload C dX8_copyOut_38 rfl ?_
      refine pw_iret C R dX8_copyOut_40 ⟨congrArg (fun q => some (iv q)) (by unfold xCo; rw [pif_t (show has (M 0) s from c16), pif_f c35]), rfl, (by unfold vCo; rw [vif_f (fun h => c35 h.2.1)]; exact Fr.rf _), (by unfold fCo; rw [pif_t (show has (M 0) s from c16)]; exact fun k r i _ => congrFun (congrFun (congrFun (fl_fl (M 2) 0 _) k) r) i)⟩
  · refine pw_iconst C dX8_copyOut_19 ?_
    refine pw_iret C R dX8_copyOut_20 ⟨congrArg (fun q => some (iv q)) (by unfold xCo; rw [pif_f (show ¬ has (M 0) s from c16)]), rfl, (by unfold vCo; rw [vif_f (fun h => c16 h.1)]; exact Fr.rf _), (by unfold fCo; rw [pif_f (show ¬ has (M 0) s from c16)]; exact fun _ _ _ _ => rfl)⟩
