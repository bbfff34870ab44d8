def trM (V : DM) (n : Int) : DM := vup V 0 0 38 (w32 (31 * V 0 0 38 + n))
theorem trM_ms (V : DM) (n : Int) : ms (trM V n) = tr (ms V) n := msf_38 V _
theorem trM_mv (V : DM) (n : Int) : mv (trM V n) = mv V := mvn_38 V _
theorem trM_a (V : DM) (n : Int) {k : Nat} (r i : Int) (h : k ≠ 0) : trM V n k r i = V k r i := vup_n _ (by omega)
set_option maxRecDepth 100000 in
set_option maxHeartbeats 400000 in
theorem c_X9_traced {l : Launch} {S : SW} {M : Mem} {V : DM} {n : Int}  (hn : InR n)  : PM l S yX9_traced cX9_traced 2 none 0 0 [rv S 3 0 0, iv n] (mst M 3 V) (rV (mst M 3 (trM V n))) := by
  refine PM.of (own := RX9) (by decide) rfl [some (rv S 3 0 0), some (iv n)] rfl rfl (Nat.le_of_ble_eq_true rfl) (fun X hXl C R => ?_)
  subst hXl
  refine pw_aload_n C dX9_traced_0 rfl ?_
  refine pw_bipush C dX9_traced_1 (by decide) ?_
  refine pw_aload_n C dX9_traced_3 rfl ?_
  refine gv_9_290 C dX9_traced_4 (fun r4 => ?_)
  refine pw_imul C dX9_traced_7 ?_
  refine pw_iload_n C dX9_traced_8 rfl ?_
  refine pw_iadd C dX9_traced_9 ?_
  refine pw_w ?_
  refine pv_9_290 C (w32_R _) dX9_traced_10 ?_
  exact pw_vreti C R dX9_traced_13 rfl
set_option maxRecDepth 100000 in
set_option maxHeartbeats 400000 in
theorem c_X9_tell {l : Launch} {S : SW} {M : Mem} {V : DM} {x : Int}  (hx : InR x) (hI : DayOk (mv V)) (hS : ShOk (ms V))  : PM l S yX9_tell cX9_tell 4 (some .int) 2 46 [rv S 3 0 0, iv x] (mst M 3 V) (rR (iv (xTell (mv V) x)) M (mv V) (zTell (mv V) (ms V) x)) := by
  refine PM.of (own := RX9) (by decide) rfl [some (rv S 3 0 0), some (iv x), none, none] rfl rfl (Nat.le_of_ble_eq_true rfl) (fun X hXl C R => ?_)
  subst hXl
  obtain ⟨i1, i2, i3, i4, i5, i6, i7, i8⟩ := id hI
  have e5 : mv V 1 0 5 = V 0 0 1 := rfl
  have e6 : mv V 1 0 6 = V 0 0 2 := rfl
  have e7 : mv V 1 0 7 = V 0 0 8 := rfl
  have e8 : mv V 1 0 8 = V 0 0 9 := rfl
  have e84 : mv V 8 0 4 = V 0 0 15 := rfl
  refine pw_aload_n C dX9_tell_0 rfl ?_
  refine pw_iload_n C dX9_tell_1 rfl ?_
  refine pw_cVI C [_] mi_X9_noBuyer mv_X9_noBuyer ml_9_188 oM_0 rfl (c_X9_noBuyer (by omega)) (by decide) rfl (Nat.le_of_ble_eq_true rfl) dX9_tell_2 ?_
  refine pw_if_eq_b (tgt := 10) C dX9_tell_5 rfl (fun c5 => ?_) (fun c5 => ?_)
  · have ix : (0 ≤ V 17 0 x ∧ V 17 0 x ≤ 2) ∧ (0 ≤ V 18 0 x ∧ V 18 0 x < V 0 0 2) ∧ (0 ≤ V 19 0 x ∧ V 19 0 x ≤ 40) ∧ (0 ≤ V 20 0 x ∧ V 20 0 x < V 0 0 1) := i4 x (by omega) (by omega)
    have e9 : mv V 9 0 x = V 17 0 x := rfl
    have e11 : mv V 11 0 x = V 19 0 x := rfl
    refine pw_aload_n C dX9_tell_10 rfl ?_
    refine gf_9_28 C dX9_tell_11 ?_
    refine pw_iload_n C dX9_tell_14 rfl ?_
    refine pw_ialdV C aM_17 (by omega) (by omega) (by decide) dX9_tell_15 (fun r15 => ?_)
    refine pw_istore_2 C dX9_tell_16 (k := ?_)
    refine pw_iload_n C dX9_tell_17 rfl ?_
    refine pw_iconst C dX9_tell_18 ?_
    refine pw_icmp_ne (tgt := 27) C dX9_tell_19 rfl (by omega) (by omega) (fun c19 => ?_) (fun c19 => ?_)
    · refine pw_iload_n C dX9_tell_27 rfl ?_
      refine pw_if_le (tgt := 36) C dX9_tell_28 rfl (by omega) (fun c28 => ?_) (fun c28 => ?_)
      · refine pw_aload_n C dX9_tell_36 rfl ?_
        refine pw_iconst C dX9_tell_37 ?_
        refine pw_cVV C [_] mi_X9_traced mv_X9_traced ml_9_293 oM_0 rfl (c_X9_traced (by omega)) (by decide) rfl (Nat.le_of_ble_eq_true rfl) dX9_tell_38 ?_
        refine pw_iload_n C dX9_tell_41 rfl ?_
        refine pw_iconst C dX9_tell_42 ?_
        refine pw_icmp_ne (tgt := 51) C dX9_tell_43 rfl (by omega) (by omega) (fun c43 => ?_) (fun c43 => ?_)
        · refine pw_aload_n C dX9_tell_51 rfl ?_
          refine gf_9_34 C dX9_tell_52 ?_
          refine pw_iload_n C dX9_tell_55 rfl ?_
          refine pw_ialdV C aM_19 (by omega) (by omega) (by decide) dX9_tell_56 (fun r56 => ?_)
          repeat rw [trM_a _ _ _ _ (show (19 : Nat) ≠ 0 by omega)]
          refine pw_istore_3 C dX9_tell_57 (k := ?_)
          refine pw_iload_n C dX9_tell_58 rfl ?_
          refine pw_if_ne (tgt := 66) C dX9_tell_59 rfl (by omega) (fun c59 => ?_) (fun c59 => ?_)
          · refine pw_iload_n C dX9_tell_66 rfl ?_
            refine pw_iconst C dX9_tell_67 ?_
            refine pw_icmp_ne (tgt := 78) C dX9_tell_68 rfl (by omega) (by omega) (fun c68 => ?_) (fun c68 => ?_)
            · refine pw_iconst C dX9_tell_78 ?_
              refine pw_iload_n C dX9_tell_79 rfl ?_
              refine pw_imul C dX9_tell_80 ?_
              refine pw_bipush C dX9_tell_81 (by decide) ?_
              refine pw_iadd C dX9_tell_83 ?_
              first
                | (exfalso; omega)
                | (exact pw_iret C R dX9_tell_84 ⟨congrArg (fun q => some (iv q)) (by unfold xTell hasB; rw [pif_t (by omega)]; (repeat (first | rw [if_pos (by omega)] | rw [if_neg (by omega)])); first | done | omega), _, rfl, (by rw [trM_mv, trM_mv, trM_mv, trM_mv]; exact EQ.rf 0 0 _), (by rw [trM_ms, trM_ms, trM_ms, trM_ms]; unfold zTell hasB; rw [vif_t (by omega)]; (repeat (first | rw [if_pos (by omega)] | rw [if_neg (by omega)])); first | done | rfl)⟩)
                | (exact pw_iret C R dX9_tell_84 ⟨congrArg (fun q => some (iv q)) (by unfold xTell hasB; rw [pif_t (by omega)]; (repeat (first | rw [if_pos (by omega)] | rw [if_neg (by omega)])); first | done | omega), _, rfl, (by rw [trM_mv, trM_mv]; exact EQ.rf 0 0 _), (by rw [trM_ms, trM_ms]; unfold zTell hasB; rw [vif_t (by omega)]; (repeat (first | rw [if_pos (by omega)] | rw [if_neg (by omega)])); first | done | rfl)⟩)
                | (exact pw_iret C R dX9_tell_84 ⟨congrArg (fun q => some (iv q)) (by unfold xTell hasB; rw [pif_t (by omega)]; (repeat (first | rw [if_pos (by omega)] | rw [if_neg (by omega)])); first | done | omega), _, rfl, (by rw [trM_mv]; exact EQ.rf 0 0 _), (by rw [trM_ms]; unfold zTell hasB; rw [vif_t (by omega)]; (repeat (first | rw [if_pos (by omega)] | rw [if_neg (by omega)])); first | done | rfl)⟩)
            · refine pw_iload_n C dX9_tell_71 rfl ?_
              refine pw_bipush C dX9_tell_72 (by decide) ?_
              refine pw_iadd C dX9_tell_74 ?_
              refine pw_goto (tgt := 84) C dX9_tell_75 rfl ?_
              first
                | (exfalso; omega)
                | (exact pw_iret C R dX9_tell_84 ⟨congrArg (fun q => some (iv q)) (by unfold xTell hasB; rw [pif_t (by omega)]; (repeat (first | rw [if_pos (by omega)] | rw [if_neg (by omega)])); first | done | omega), _, rfl, (by rw [trM_mv, trM_mv, trM_mv, trM_mv]; exact EQ.rf 0 0 _), (by rw [trM_ms, trM_ms, trM_ms, trM_ms]; unfold zTell hasB; rw [vif_t (by omega)]; (repeat (first | rw [if_pos (by omega)] | rw [if_neg (by omega)])); first | done | rfl)⟩)
                | (exact pw_iret C R dX9_tell_84 ⟨congrArg (fun q => some (iv q)) (by unfold xTell hasB; rw [pif_t (by omega)]; (repeat (first | rw [if_pos (by omega)] | rw [if_neg (by omega)])); first | done | omega), _, rfl, (by rw [trM_mv, trM_mv]; exact EQ.rf 0 0 _), (by rw [trM_ms, trM_ms]; unfold zTell hasB; rw [vif_t (by omega)]; (repeat (first | rw [if_pos (by omega)] | rw [if_neg (by omega)])); first | done | rfl)⟩)
                | (exact pw_iret C R dX9_tell_84 ⟨congrArg (fun q => some (iv q)) (by unfold xTell hasB; rw [pif_t (by omega)]; (repeat (first | rw [if_pos (by omega)] | rw [if_neg (by omega)])); first | done | omega), _, rfl, (by rw [trM_mv]; exact EQ.rf 0 0 _), (by rw [trM_ms]; unfold zTell hasB; rw [vif_t (by omega)]; (repeat (first | rw [if_pos (by omega)] | rw [if_neg (by omega)])); first | done | rfl)⟩)
          · refine pw_iload_n C dX9_tell_62 rfl ?_
            refine pw_goto (tgt := 84) C dX9_tell_63 rfl ?_
            first
              | (exfalso; omega)
              | (exact pw_iret C R dX9_tell_84 ⟨congrArg (fun q => some (iv q)) (by unfold xTell hasB; rw [pif_t (by omega)]; (repeat (first | rw [if_pos (by omega)] | rw [if_neg (by omega)])); first | done | omega), _, rfl, (by rw [trM_mv, trM_mv, trM_mv, trM_mv]; exact EQ.rf 0 0 _), (by rw [trM_ms, trM_ms, trM_ms, trM_ms]; unfold zTell hasB; rw [vif_t (by omega)]; (repeat (first | rw [if_pos (by omega)] | rw [if_neg (by omega)])); first | done | rfl)⟩)
              | (exact pw_iret C R dX9_tell_84 ⟨congrArg (fun q => some (iv q)) (by unfold xTell hasB; rw [pif_t (by omega)]; (repeat (first | rw [if_pos (by omega)] | rw [if_neg (by omega)])); first | done | omega), _, rfl, (by rw [trM_mv, trM_mv]; exact EQ.rf 0 0 _), (by rw [trM_ms, trM_ms]; unfold zTell hasB; rw [vif_t (by omega)]; (repeat (first | rw [if_pos (by omega)] | rw [if_neg (by omega)])); first | done | rfl)⟩)
              | (exact pw_iret C R dX9_tell_84 ⟨congrArg (fun q => some (iv q)) (by unfold xTell hasB; rw [pif_t (by omega)]; (repeat (first | rw [if_pos (by omega)] | rw [if_neg (by omega)])); first | done | omega), _, rfl, (by rw [trM_mv]; exact EQ.rf 0 0 _), (by rw [trM_ms]; unfold zTell hasB; rw [vif_t (by omega)]; (repeat (first | rw [if_pos (by omega)] | rw [if_neg (by omega)])); first | done | rfl)⟩)
        · refine pw_aload_n C dX9_tell_46 rfl ?_
          refine pw_iconst C dX9_tell_47 ?_
          refine pw_cVV C [_] mi_X9_traced mv_X9_traced ml_9_293 oM_0 rfl (c_X9_traced (by omega)) (by decide) rfl (Nat.le_of_ble_eq_true rfl) dX9_tell_48 ?_
          refine pw_aload_n C dX9_tell_51 rfl ?_
          refine gf_9_34 C dX9_tell_52 ?_
          refine pw_iload_n C dX9_tell_55 rfl ?_
          refine pw_ialdV C aM_19 (by omega) (by omega) (by decide) dX9_tell_56 (fun r56 => ?_)
          repeat rw [trM_a _ _ _ _ (show (19 : Nat) ≠ 0 by omega)]
          refine pw_istore_3 C dX9_tell_57 (k := ?_)
          refine pw_iload_n C dX9_tell_58 rfl ?_
          refine pw_if_ne (tgt := 66) C dX9_tell_59 rfl (by omega) (fun c59 => ?_) (fun c59 => ?_)
          · refine pw_iload_n C dX9_tell_66 rfl ?_
            refine pw_iconst C dX9_tell_67 ?_
            refine pw_icmp_ne (tgt := 78) C dX9_tell_68 rfl (by omega) (by omega) (fun c68 => ?_) (fun c68 => ?_)
            · refine pw_iconst C dX9_tell_78 ?_
              refine pw_iload_n C dX9_tell_79 rfl ?_
              refine pw_imul C dX9_tell_80 ?_
              refine pw_bipush C dX9_tell_81 (by decide) ?_
              refine pw_iadd C dX9_tell_83 ?_
              first
                | (exfalso; omega)
                | (exact pw_iret C R dX9_tell_84 ⟨congrArg (fun q => some (iv q)) (by unfold xTell hasB; rw [pif_t (by omega)]; (repeat (first | rw [if_pos (by omega)] | rw [if_neg (by omega)])); first | done | omega), _, rfl, (by rw [trM_mv, trM_mv, trM_mv, trM_mv]; exact EQ.rf 0 0 _), (by rw [trM_ms, trM_ms, trM_ms, trM_ms]; unfold zTell hasB; rw [vif_t (by omega)]; (repeat (first | rw [if_pos (by omega)] | rw [if_neg (by omega)])); first | done | rfl)⟩)
                | (exact pw_iret C R dX9_tell_84 ⟨congrArg (fun q => some (iv q)) (by unfold xTell hasB; rw [pif_t (by omega)]; (repeat (first | rw [if_pos (by omega)] | rw [if_neg (by omega)])); first | done | omega), _, rfl, (by rw [trM_mv, trM_mv]; exact EQ.rf 0 0 _), (by rw [trM_ms, trM_ms]; unfold zTell hasB; rw [vif_t (by omega)]; (repeat (first | rw [if_pos (by omega)] | rw [if_neg (by omega)])); first | done | rfl)⟩)
                | (exact pw_iret C R dX9_tell_84 ⟨congrArg (fun q => some (iv q)) (by unfold xTell hasB; rw [pif_t (by omega)]; (repeat (first | rw [if_pos (by omega)] | rw [if_neg (by omega)])); first | done | omega), _, rfl, (by rw [trM_mv]; exact EQ.rf 0 0 _), (by rw [trM_ms]; unfold zTell hasB; rw [vif_t (by omega)]; (repeat (first | rw [if_pos (by omega)] | rw [if_neg (by omega)])); first | done | rfl)⟩)
            · refine pw_iload_n C dX9_tell_71 rfl ?_
              refine pw_bipush C dX9_tell_72 (by decide) ?_
              refine pw_iadd C dX9_tell_74 ?_
              refine pw_goto (tgt := 84) C dX9_tell_75 rfl ?_
              first
                | (exfalso; omega)
                | (exact pw_iret C R dX9_tell_84 ⟨congrArg (fun q => some (iv q)) (by unfold xTell hasB; rw [pif_t (by omega)]; (repeat (first | rw [if_pos (by omega)] | rw [if_neg (by omega)])); first | done | omega), _, rfl, (by rw [trM_mv, trM_mv, trM_mv, trM_mv]; exact EQ.rf 0 0 _), (by rw [trM_ms, trM_ms, trM_ms, trM_ms]; unfold zTell hasB; rw [vif_t (by omega)]; (repeat (first | rw [if_pos (by omega)] | rw [if_neg (by omega)])); first | done | rfl)⟩)
                | (exact pw_iret C R dX9_tell_84 ⟨congrArg (fun q => some (iv q)) (by unfold xTell hasB; rw [pif_t (by omega)]; (repeat (first | rw [if_pos (by omega)] | rw [if_neg (by omega)])); first | done | omega), _, rfl, (by rw [trM_mv, trM_mv]; exact EQ.rf 0 0 _), (by rw [trM_ms, trM_ms]; unfold zTell hasB; rw [vif_t (by omega)]; (repeat (first | rw [if_pos (by omega)] | rw [if_neg (by omega)])); first | done | rfl)⟩)
                | (exact pw_iret C R dX9_tell_84 ⟨congrArg (fun q => some (iv q)) (by unfold xTell hasB; rw [pif_t (by omega)]; (repeat (first | rw [if_pos (by omega)] | rw [if_neg (by omega)])); first | done | omega), _, rfl, (by rw [trM_mv]; exact EQ.rf 0 0 _), (by rw [trM_ms]; unfold zTell hasB; rw [vif_t (by omega)]; (repeat (first | rw [if_pos (by omega)] | rw [if_neg (by omega)])); first | done | rfl)⟩)
          · refine pw_iload_n C dX9_tell_62 rfl ?_
            refine pw_goto (tgt := 84) C dX9_tell_63 rfl ?_
            first
              | (exfalso; omega)
              | (exact pw_iret C R dX9_tell_84 ⟨congrArg (fun q => some (iv q)) (by unfold xTell hasB; rw [pif_t (by omega)]; (repeat (first | rw [if_pos (by omega)] | rw [if_neg (by omega)])); first | done | omega), _, rfl, (by rw [trM_mv, trM_mv, trM_mv, trM_mv]; exact EQ.rf 0 0 _), (by rw [trM_ms, trM_ms, trM_ms, trM_ms]; unfold zTell hasB; rw [vif_t (by omega)]; (repeat (first | rw [if_pos (by omega)] | rw [if_neg (by omega)])); first | done | rfl)⟩)
              | (exact pw_iret C R dX9_tell_84 ⟨congrArg (fun q => some (iv q)) (by unfold xTell hasB; rw [pif_t (by omega)]; (repeat (first | rw [if_pos (by omega)] | rw [if_neg (by omega)])); first | done | omega), _, rfl, (by rw [trM_mv, trM_mv]; exact EQ.rf 0 0 _), (by rw [trM_ms, trM_ms]; unfold zTell hasB; rw [vif_t (by omega)]; (repeat (first | rw [if_pos (by omega)] | rw [if_neg (by omega)])); first | done | rfl)⟩)
              | (exact pw_iret C R dX9_tell_84 ⟨congrArg (fun q => some (iv q)) (by unfold xTell hasB; rw [pif_t (by omega)]; (repeat (first | rw [if_pos (by omega)] | rw [if_neg (by omega)])); first | done | omega), _, rfl, (by rw [trM_mv]; exact EQ.rf 0 0 _), (by rw [trM_ms]; unfold zTell hasB; rw [vif_t (by omega)]; (repeat (first | rw [if_pos (by omega)] | rw [if_neg (by omega)])); first | done | rfl)⟩)
      · refine pw_aload_n C dX9_tell_31 rfl ?_
        refine pw_iconst C dX9_tell_32 ?_
        refine pw_cVV C [_] mi_X9_traced mv_X9_traced ml_9_293 oM_0 rfl (c_X9_traced (by omega)) (by decide) rfl (Nat.le_of_ble_eq_true rfl) dX9_tell_33 ?_
        refine pw_aload_n C dX9_tell_36 rfl ?_
        refine pw_iconst C dX9_tell_37 ?_
        refine pw_cVV C [_] mi_X9_traced mv_X9_traced ml_9_293 oM_0 rfl (c_X9_traced (by omega)) (by decide) rfl (Nat.le_of_ble_eq_true rfl) dX9_tell_38 ?_
        refine pw_iload_n C dX9_tell_41 rfl ?_
        refine pw_iconst C dX9_tell_42 ?_
        refine pw_icmp_ne (tgt := 51) C dX9_tell_43 rfl (by omega) (by omega) (fun c43 => ?_) (fun c43 => ?_)
        · refine pw_aload_n C dX9_tell_51 rfl ?_
          refine gf_9_34 C dX9_tell_52 ?_
          refine pw_iload_n C dX9_tell_55 rfl ?_
          refine pw_ialdV C aM_19 (by omega) (by omega) (by decide) dX9_tell_56 (fun r56 => ?_)
          repeat rw [trM_a _ _ _ _ (show (19 : Nat) ≠ 0 by omega)]
          refine pw_istore_3 C dX9_tell_57 (k := ?_)
          refine pw_iload_n C dX9_tell_58 rfl ?_
          refine pw_if_ne (tgt := 66) C dX9_tell_59 rfl (by omega) (fun c59 => ?_) (fun c59 => ?_)
          · refine pw_iload_n C dX9_tell_66 rfl ?_
            refine pw_iconst C dX9_tell_67 ?_
            refine pw_icmp_ne (tgt := 78) C dX9_tell_68 rfl (by omega) (by omega) (fun c68 => ?_) (fun c68 => ?_)
            · refine pw_iconst C dX9_tell_78 ?_
              refine pw_iload_n C dX9_tell_79 rfl ?_
              refine pw_imul C dX9_tell_80 ?_
              refine pw_bipush C dX9_tell_81 (by decide) ?_
              refine pw_iadd C dX9_tell_83 ?_
              first
                | (exfalso; omega)
                | (exact pw_iret C R dX9_tell_84 ⟨congrArg (fun q => some (iv q)) (by unfold xTell hasB; rw [pif_t (by omega)]; (repeat (first | rw [if_pos (by omega)] | rw [if_neg (by omega)])); first | done | omega), _, rfl, (by rw [trM_mv, trM_mv, trM_mv, trM_mv]; exact EQ.rf 0 0 _), (by rw [trM_ms, trM_ms, trM_ms, trM_ms]; unfold zTell hasB; rw [vif_t (by omega)]; (repeat (first | rw [if_pos (by omega)] | rw [if_neg (by omega)])); first | done | rfl)⟩)
                | (exact pw_iret C R dX9_tell_84 ⟨congrArg (fun q => some (iv q)) (by unfold xTell hasB; rw [pif_t (by omega)]; (repeat (first | rw [if_pos (by omega)] | rw [if_neg (by omega)])); first | done | omega), _, rfl, (by rw [trM_mv, trM_mv]; exact EQ.rf 0 0 _), (by rw [trM_ms, trM_ms]; unfold zTell hasB; rw [vif_t (by omega)]; (repeat (first | rw [if_pos (by omega)] | rw [if_neg (by omega)])); first | done | rfl)⟩)
                | (exact pw_iret C R dX9_tell_84 ⟨congrArg (fun q => some (iv q)) (by unfold xTell hasB; rw [pif_t (by omega)]; (repeat (first | rw [if_pos (by omega)] | rw [if_neg (by omega)])); first | done | omega), _, rfl, (by rw [trM_mv]; exact EQ.rf 0 0 _), (by rw [trM_ms]; unfold zTell hasB; rw [vif_t (by omega)]; (repeat (first | rw [if_pos (by omega)] | rw [if_neg (by omega)])); first | done | rfl)⟩)
            · refine pw_iload_n C dX9_tell_71 rfl ?_
              refine pw_bipush C dX9_tell_72 (by decide) ?_
              refine pw_iadd C dX9_tell_74 ?_
              refine pw_goto (tgt := 84) C dX9_tell_75 rfl ?_
              first
                | (exfalso; omega)
                | (exact pw_iret C R dX9_tell_84 ⟨congrArg (fun q => some (iv q)) (by unfold xTell hasB; rw [pif_t (by omega)]; (repeat (first | rw [if_pos (by omega)] | rw [if_neg (by omega)])); first | done | omega), _, rfl, (by rw [trM_mv, trM_mv, trM_mv, trM_mv]; exact EQ.rf 0 0 _), (by rw [trM_ms, trM_ms, trM_ms, trM_ms]; unfold zTell hasB; rw [vif_t (by omega)]; (repeat (first | rw [if_pos (by omega)] | rw [if_neg (by omega)])); first | done | rfl)⟩)
                | (exact pw_iret C R dX9_tell_84 ⟨congrArg (fun q => some (iv q)) (by unfold xTell hasB; rw [pif_t (by omega)]; (repeat (first | rw [if_pos (by omega)] | rw [if_neg (by omega)])); first | done | omega), _, rfl, (by rw [trM_mv, trM_mv]; exact EQ.rf 0 0 _), (by rw [trM_ms, trM_ms]; unfold zTell hasB; rw [vif_t (by omega)]; (repeat (first | rw [if_pos (by omega)] | rw [if_neg (by omega)])); first | done | rfl)⟩)
                | (exact pw_iret C R dX9_tell_84 ⟨congrArg (fun q => some (iv q)) (by unfold xTell hasB; rw [pif_t (by omega)]; (repeat (first | rw [if_pos (by omega)] | rw [if_neg (by omega)])); first | done | omega), _, rfl, (by rw [trM_mv]; exact EQ.rf 0 0 _), (by rw [trM_ms]; unfold zTell hasB; rw [vif_t (by omega)]; (repeat (first | rw [if_pos (by omega)] | rw [if_neg (by omega)])); first | done | rfl)⟩)
          · refine pw_iload_n C dX9_tell_62 rfl ?_
            refine pw_goto (tgt := 84) C dX9_tell_63 rfl ?_
            first
              | (exfalso; omega)
              | (exact pw_iret C R dX9_tell_84 ⟨congrArg (fun q => some (iv q)) (by unfold xTell hasB; rw [pif_t (by omega)]; (repeat (first | rw [if_pos (by omega)] | rw [if_neg (by omega)])); first | done | omega), _, rfl, (by rw [trM_mv, trM_mv, trM_mv, trM_mv]; exact EQ.rf 0 0 _), (by rw [trM_ms, trM_ms, trM_ms, trM_ms]; unfold zTell hasB; rw [vif_t (by omega)]; (repeat (first | rw [if_pos (by omega)] | rw [if_neg (by omega)])); first | done | rfl)⟩)
              | (exact pw_iret C R dX9_tell_84 ⟨congrArg (fun q => some (iv q)) (by unfold xTell hasB; rw [pif_t (by omega)]; (repeat (first | rw [if_pos (by omega)] | rw [if_neg (by omega)])); first | done | omega), _, rfl, (by rw [trM_mv, trM_mv]; exact EQ.rf 0 0 _), (by rw [trM_ms, trM_ms]; unfold zTell hasB; rw [vif_t (by omega)]; (repeat (first | rw [if_pos (by omega)] | rw [if_neg (by omega)])); first | done | rfl)⟩)
              | (exact pw_iret C R dX9_tell_84 ⟨congrArg (fun q => some (iv q)) (by unfold xTell hasB; rw [pif_t (by omega)]; (repeat (first | rw [if_pos (by omega)] | rw [if_neg (by omega)])); first | done | omega), _, rfl, (by rw [trM_mv]; exact EQ.rf 0 0 _), (by rw [trM_ms]; unfold zTell hasB; rw [vif_t (by omega)]; (repeat (first | rw [if_pos (by omega)] | rw [if_neg (by omega)])); first | done | rfl)⟩)
        · refine pw_aload_n C dX9_tell_46 rfl ?_
          refine pw_iconst C dX9_tell_47 ?_
          refine pw_cVV C [_] mi_X9_traced mv_X9_traced ml_9_293 oM_0 rfl (c_X9_traced (by omega)) (by decide) rfl (Nat.le_of_ble_eq_true rfl) dX9_tell_48 ?_
          refine pw_aload_n C dX9_tell_51 rfl ?_
          refine gf_9_34 C dX9_tell_52 ?_
          refine pw_iload_n C dX9_tell_55 rfl ?_
          refine pw_ialdV C aM_19 (by omega) (by omega) (by decide) dX9_tell_56 (fun r56 => ?_)
          repeat rw [trM_a _ _ _ _ (show (19 : Nat) ≠ 0 by omega)]
          refine pw_istore_3 C dX9_tell_57 (k := ?_)
          refine pw_iload_n C dX9_tell_58 rfl ?_
          refine pw_if_ne (tgt := 66) C dX9_tell_59 rfl (by omega) (fun c59 => ?_) (fun c59 => ?_)
          · refine pw_iload_n C dX9_tell_66 rfl ?_
            refine pw_iconst C dX9_tell_67 ?_
            refine pw_icmp_ne (tgt := 78) C dX9_tell_68 rfl (by omega) (by omega) (fun c68 => ?_) (fun c68 => ?_)
            · refine pw_iconst C dX9_tell_78 ?_
              refine pw_iload_n C dX9_tell_79 rfl ?_
              refine pw_imul C dX9_tell_80 ?_
              refine pw_bipush C dX9_tell_81 (by decide) ?_
              refine pw_iadd C dX9_tell_83 ?_
              first
                | (exfalso; omega)
                | (exact pw_iret C R dX9_tell_84 ⟨congrArg (fun q => some (iv q)) (by unfold xTell hasB; rw [pif_t (by omega)]; (repeat (first | rw [if_pos (by omega)] | rw [if_neg (by omega)])); first | done | omega), _, rfl, (by rw [trM_mv, trM_mv, trM_mv, trM_mv]; exact EQ.rf 0 0 _), (by rw [trM_ms, trM_ms, trM_ms, trM_ms]; unfold zTell hasB; rw [vif_t (by omega)]; (repeat (first | rw [if_pos (by omega)] | rw [if_neg (by omega)])); first | done | rfl)⟩)
                | (exact pw_iret C R dX9_tell_84 ⟨congrArg (fun q => some (iv q)) (by unfold xTell hasB; rw [pif_t (by omega)]; (repeat (first | rw [if_pos (by omega)] | rw [if_neg (by omega)])); first | done | omega), _, rfl, (by rw [trM_mv, trM_mv]; exact EQ.rf 0 0 _), (by rw [trM_ms, trM_ms]; unfold zTell hasB; rw [vif_t (by omega)]; (repeat (first | rw [if_pos (by omega)] | rw [if_neg (by omega)])); first | done | rfl)⟩)
                | (exact pw_iret C R dX9_tell_84 ⟨congrArg (fun q => some (iv q)) (by unfold xTell hasB; rw [pif_t (by omega)]; (repeat (first | rw [if_pos (by omega)] | rw [if_neg (by omega)])); first | done | omega), _, rfl, (by rw [trM_mv]; exact EQ.rf 0 0 _), (by rw [trM_ms]; unfold zTell hasB; rw [vif_t (by omega)]; (repeat (first | rw [if_pos (by omega)] | rw [if_neg (by omega)])); first | done | rfl)⟩)
            · refine pw_iload_n C dX9_tell_71 rfl ?_
              refine pw_bipush C dX9_tell_72 (by decide) ?_
              refine pw_iadd C dX9_tell_74 ?_
              refine pw_goto (tgt := 84) C dX9_tell_75 rfl ?_
              first
                | (exfalso; omega)
                | (exact pw_iret C R dX9_tell_84 ⟨congrArg (fun q => some (iv q)) (by unfold xTell hasB; rw [pif_t (by omega)]; (repeat (first | rw [if_pos (by omega)] | rw [if_neg (by omega)])); first | done | omega), _, rfl, (by rw [trM_mv, trM_mv, trM_mv, trM_mv]; exact EQ.rf 0 0 _), (by rw [trM_ms, trM_ms, trM_ms, trM_ms]; unfold zTell hasB; rw [vif_t (by omega)]; (repeat (first | rw [if_pos (by omega)] | rw [if_neg (by omega)])); first | done | rfl)⟩)
                | (exact pw_iret C R dX9_tell_84 ⟨congrArg (fun q => some (iv q)) (by unfold xTell hasB; rw [pif_t (by omega)]; (repeat (first | rw [if_pos (by omega)] | rw [if_neg (by omega)])); first | done | omega), _, rfl, (by rw [trM_mv, trM_mv]; exact EQ.rf 0 0 _), (by rw [trM_ms, trM_ms]; unfold zTell hasB; rw [vif_t (by omega)]; (repeat (first | rw [if_pos (by omega)] | rw [if_neg (by omega)])); first | done | rfl)⟩)
                | (exact pw_iret C R dX9_tell_84 ⟨congrArg (fun q => some (iv q)) (by unfold xTell hasB; rw [pif_t (by omega)]; (repeat (first | rw [if_pos (by omega)] | rw [if_neg (by omega)])); first | done | omega), _, rfl, (by rw [trM_mv]; exact EQ.rf 0 0 _), (by rw [trM_ms]; unfold zTell hasB; rw [vif_t (by omega)]; (repeat (first | rw [if_pos (by omega)] | rw [if_neg (by omega)])); first | done | rfl)⟩)
          · refine pw_iload_n C dX9_tell_62 rfl ?_
            refine pw_goto (tgt := 84) C dX9_tell_63 rfl ?_
            first
              | (exfalso; omega)
              | (exact pw_iret C R dX9_tell_84 ⟨congrArg (fun q => some (iv q)) (by unfold xTell hasB; rw [pif_t (by omega)]; (repeat (first | rw [if_pos (by omega)] | rw [if_neg (by omega)])); first | done | omega), _, rfl, (by rw [trM_mv, trM_mv, trM_mv, trM_mv]; exact EQ.rf 0 0 _), (by rw [trM_ms, trM_ms, trM_ms, trM_ms]; unfold zTell hasB; rw [vif_t (by omega)]; (repeat (first | rw [if_pos (by omega)] | rw [if_neg (by omega)])); first | done | rfl)⟩)
              | (exact pw_iret C R dX9_tell_84 ⟨congrArg (fun q => some (iv q)) (by unfold xTell hasB; rw [pif_t (by omega)]; (repeat (first | rw [if_pos (by omega)] | rw [if_neg (by omega)])); first | done | omega), _, rfl, (by rw [trM_mv, trM_mv]; exact EQ.rf 0 0 _), (by rw [trM_ms, trM_ms]; unfold zTell hasB; rw [vif_t (by omega)]; (repeat (first | rw [if_pos (by omega)] | rw [if_neg (by omega)])); first | done | rfl)⟩)
              | (exact pw_iret C R dX9_tell_84 ⟨congrArg (fun q => some (iv q)) (by unfold xTell hasB; rw [pif_t (by omega)]; (repeat (first | rw [if_pos (by omega)] | rw [if_neg (by omega)])); first | done | omega), _, rfl, (by rw [trM_mv]; exact EQ.rf 0 0 _), (by rw [trM_ms]; unfold zTell hasB; rw [vif_t (by omega)]; (repeat (first | rw [if_pos (by omega)] | rw [if_neg (by omega)])); first | done | rfl)⟩)
    · refine pw_aload_n C dX9_tell_22 rfl ?_
      refine pw_iconst C dX9_tell_23 ?_
      refine pw_cVV C [_] mi_X9_traced mv_X9_traced ml_9_293 oM_0 rfl (c_X9_traced (by omega)) (by decide) rfl (Nat.le_of_ble_eq_true rfl) dX9_tell_24 ?_
      refine pw_iload_n C dX9_tell_27 rfl ?_
      refine pw_if_le (tgt := 36) C dX9_tell_28 rfl (by omega) (fun c28 => ?_) (fun c28 => ?_)
      · refine pw_aload_n C dX9_tell_36 rfl ?_
        refine pw_iconst C dX9_tell_37 ?_
        refine pw_cVV C [_] mi_X9_traced mv_X9_traced ml_9_293 oM_0 rfl (c_X9_traced (by omega)) (by decide) rfl (Nat.le_of_ble_eq_true rfl) dX9_tell_38 ?_
        refine pw_iload_n C dX9_tell_41 rfl ?_
        refine pw_iconst C dX9_tell_42 ?_
        refine pw_icmp_ne (tgt := 51) C dX9_tell_43 rfl (by omega) (by omega) (fun c43 => ?_) (fun c43 => ?_)
        · refine pw_aload_n C dX9_tell_51 rfl ?_
          refine gf_9_34 C dX9_tell_52 ?_
          refine pw_iload_n C dX9_tell_55 rfl ?_
          refine pw_ialdV C aM_19 (by omega) (by omega) (by decide) dX9_tell_56 (fun r56 => ?_)
          repeat rw [trM_a _ _ _ _ (show (19 : Nat) ≠ 0 by omega)]
          refine pw_istore_3 C dX9_tell_57 (k := ?_)
          refine pw_iload_n C dX9_tell_58 rfl ?_
          refine pw_if_ne (tgt := 66) C dX9_tell_59 rfl (by omega) (fun c59 => ?_) (fun c59 => ?_)
          · refine pw_iload_n C dX9_tell_66 rfl ?_
            refine pw_iconst C dX9_tell_67 ?_
            refine pw_icmp_ne (tgt := 78) C dX9_tell_68 rfl (by omega) (by omega) (fun c68 => ?_) (fun c68 => ?_)
            · refine pw_iconst C dX9_tell_78 ?_
              refine pw_iload_n C dX9_tell_79 rfl ?_
              refine pw_imul C dX9_tell_80 ?_
              refine pw_bipush C dX9_tell_81 (by decide) ?_
              refine pw_iadd C dX9_tell_83 ?_
              first
                | (exfalso; omega)
                | (exact pw_iret C R dX9_tell_84 ⟨congrArg (fun q => some (iv q)) (by unfold xTell hasB; rw [pif_t (by omega)]; (repeat (first | rw [if_pos (by omega)] | rw [if_neg (by omega)])); first | done | omega), _, rfl, (by rw [trM_mv, trM_mv, trM_mv, trM_mv]; exact EQ.rf 0 0 _), (by rw [trM_ms, trM_ms, trM_ms, trM_ms]; unfold zTell hasB; rw [vif_t (by omega)]; (repeat (first | rw [if_pos (by omega)] | rw [if_neg (by omega)])); first | done | rfl)⟩)
                | (exact pw_iret C R dX9_tell_84 ⟨congrArg (fun q => some (iv q)) (by unfold xTell hasB; rw [pif_t (by omega)]; (repeat (first | rw [if_pos (by omega)] | rw [if_neg (by omega)])); first | done | omega), _, rfl, (by rw [trM_mv, trM_mv]; exact EQ.rf 0 0 _), (by rw [trM_ms, trM_ms]; unfold zTell hasB; rw [vif_t (by omega)]; (repeat (first | rw [if_pos (by omega)] | rw [if_neg (by omega)])); first | done | rfl)⟩)
                | (exact pw_iret C R dX9_tell_84 ⟨congrArg (fun q => some (iv q)) (by unfold xTell hasB; rw [pif_t (by omega)]; (repeat (first | rw [if_pos (by omega)] | rw [if_neg (by omega)])); first | done | omega), _, rfl, (by rw [trM_mv]; exact EQ.rf 0 0 _), (by rw [trM_ms]; unfold zTell hasB; rw [vif_t (by omega)]; (repeat (first | rw [if_pos (by omega)] | rw [if_neg (by omega)])); first | done | rfl)⟩)
            · refine pw_iload_n C dX9_tell_71 rfl ?_
              refine pw_bipush C dX9_tell_72 (by decide) ?_
              refine pw_iadd C dX9_tell_74 ?_
              refine pw_goto (tgt := 84) C dX9_tell_75 rfl ?_
              first
                | (exfalso; omega)
                | (exact pw_iret C R dX9_tell_84 ⟨congrArg (fun q => some (iv q)) (by unfold xTell hasB; rw [pif_t (by omega)]; (repeat (first | rw [if_pos (by omega)] | rw [if_neg (by omega)])); first | done | omega), _, rfl, (by rw [trM_mv, trM_mv, trM_mv, trM_mv]; exact EQ.rf 0 0 _), (by rw [trM_ms, trM_ms, trM_ms, trM_ms]; unfold zTell hasB; rw [vif_t (by omega)]; (repeat (first | rw [if_pos (by omega)] | rw [if_neg (by omega)])); first | done | rfl)⟩)
                | (exact pw_iret C R dX9_tell_84 ⟨congrArg (fun q => some (iv q)) (by unfold xTell hasB; rw [pif_t (by omega)]; (repeat (first | rw [if_pos (by omega)] | rw [if_neg (by omega)])); first | done | omega), _, rfl, (by rw [trM_mv, trM_mv]; exact EQ.rf 0 0 _), (by rw [trM_ms, trM_ms]; unfold zTell hasB; rw [vif_t (by omega)]; (repeat (first | rw [if_pos (by omega)] | rw [if_neg (by omega)])); first | done | rfl)⟩)
                | (exact pw_iret C R dX9_tell_84 ⟨congrArg (fun q => some (iv q)) (by unfold xTell hasB; rw [pif_t (by omega)]; (repeat (first | rw [if_pos (by omega)] | rw [if_neg (by omega)])); first | done | omega), _, rfl, (by rw [trM_mv]; exact EQ.rf 0 0 _), (by rw [trM_ms]; unfold zTell hasB; rw [vif_t (by omega)]; (repeat (first | rw [if_pos (by omega)] | rw [if_neg (by omega)])); first | done | rfl)⟩)
          · refine pw_iload_n C dX9_tell_62 rfl ?_
            refine pw_goto (tgt := 84) C dX9_tell_63 rfl ?_
            first
              | (exfalso; omega)
              | (exact pw_iret C R dX9_tell_84 ⟨congrArg (fun q => some (iv q)) (by unfold xTell hasB; rw [pif_t (by omega)]; (repeat (first | rw [if_pos (by omega)] | rw [if_neg (by omega)])); first | done | omega), _, rfl, (by rw [trM_mv, trM_mv, trM_mv, trM_mv]; exact EQ.rf 0 0 _), (by rw [trM_ms, trM_ms, trM_ms, trM_ms]; unfold zTell hasB; rw [vif_t (by omega)]; (repeat (first | rw [if_pos (by omega)] | rw [if_neg (by omega)])); first | done | rfl)⟩)
              | (exact pw_iret C R dX9_tell_84 ⟨congrArg (fun q => some (iv q)) (by unfold xTell hasB; rw [pif_t (by omega)]; (repeat (first | rw [if_pos (by omega)] | rw [if_neg (by omega)])); first | done | omega), _, rfl, (by rw [trM_mv, trM_mv]; exact EQ.rf 0 0 _), (by rw [trM_ms, trM_ms]; unfold zTell hasB; rw [vif_t (by omega)]; (repeat (first | rw [if_pos (by omega)] | rw [if_neg (by omega)])); first | done | rfl)⟩)
              | (exact pw_iret C R dX9_tell_84 ⟨congrArg (fun q => some (iv q)) (by unfold xTell hasB; rw [pif_t (by omega)]; (repeat (first | rw [if_pos (by omega)] | rw [if_neg (by omega)])); first | done | omega), _, rfl, (by rw [trM_mv]; exact EQ.rf 0 0 _), (by rw [trM_ms]; unfold zTell hasB; rw [vif_t (by omega)]; (repeat (first | rw [if_pos (by omega)] | rw [if_neg (by omega)])); first | done | rfl)⟩)
        · refine pw_aload_n C dX9_tell_46 rfl ?_
          refine pw_iconst C dX9_tell_47 ?_
          refine pw_cVV C [_] mi_X9_traced mv_X9_traced ml_9_293 oM_0 rfl (c_X9_traced (by omega)) (by decide) rfl (Nat.le_of_ble_eq_true rfl) dX9_tell_48 ?_
          refine pw_aload_n C dX9_tell_51 rfl ?_
          refine gf_9_34 C dX9_tell_52 ?_
          refine pw_iload_n C dX9_tell_55 rfl ?_
          refine pw_ialdV C aM_19 (by omega) (by omega) (by decide) dX9_tell_56 (fun r56 => ?_)
          repeat rw [trM_a _ _ _ _ (show (19 : Nat) ≠ 0 by omega)]
          refine pw_istore_3 C dX9_tell_57 (k := ?_)
          refine pw_iload_n C dX9_tell_58 rfl ?_
          refine pw_if_ne (tgt := 66) C dX9_tell_59 rfl (by omega) (fun c59 => ?_) (fun c59 => ?_)
          · refine pw_iload_n C dX9_tell_66 rfl ?_
            refine pw_iconst C dX9_tell_67 ?_
            refine pw_icmp_ne (tgt := 78) C dX9_tell_68 rfl (by omega) (by omega) (fun c68 => ?_) (fun c68 => ?_)
            · refine pw_iconst C dX9_tell_78 ?_
              refine pw_iload_n C dX9_tell_79 rfl ?_
              refine pw_imul C dX9_tell_80 ?_
              refine pw_bipush C dX9_tell_81 (by decide) ?_
              refine pw_iadd C dX9_tell_83 ?_
              first
                | (exfalso; omega)
                | (exact pw_iret C R dX9_tell_84 ⟨congrArg (fun q => some (iv q)) (by unfold xTell hasB; rw [pif_t (by omega)]; (repeat (first | rw [if_pos (by omega)] | rw [if_neg (by omega)])); first | done | omega), _, rfl, (by rw [trM_mv, trM_mv, trM_mv, trM_mv]; exact EQ.rf 0 0 _), (by rw [trM_ms, trM_ms, trM_ms, trM_ms]; unfold zTell hasB; rw [vif_t (by omega)]; (repeat (first | rw [if_pos (by omega)] | rw [if_neg (by omega)])); first | done | rfl)⟩)
                | (exact pw_iret C R dX9_tell_84 ⟨congrArg (fun q => some (iv q)) (by unfold xTell hasB; rw [pif_t (by omega)]; (repeat (first | rw [if_pos (by omega)] | rw [if_neg (by omega)])); first | done | omega), _, rfl, (by rw [trM_mv, trM_mv]; exact EQ.rf 0 0 _), (by rw [trM_ms, trM_ms]; unfold zTell hasB; rw [vif_t (by omega)]; (repeat (first | rw [if_pos (by omega)] | rw [if_neg (by omega)])); first | done | rfl)⟩)
                | (exact pw_iret C R dX9_tell_84 ⟨congrArg (fun q => some (iv q)) (by unfold xTell hasB; rw [pif_t (by omega)]; (repeat (first | rw [if_pos (by omega)] | rw [if_neg (by omega)])); first | done | omega), _, rfl, (by rw [trM_mv]; exact EQ.rf 0 0 _), (by rw [trM_ms]; unfold zTell hasB; rw [vif_t (by omega)]; (repeat (first | rw [if_pos (by omega)] | rw [if_neg (by omega)])); first | done | rfl)⟩)
            · refine pw_iload_n C dX9_tell_71 rfl ?_
              refine pw_bipush C dX9_tell_72 (by decide) ?_
              refine pw_iadd C dX9_tell_74 ?_
              refine pw_goto (tgt := 84) C dX9_tell_75 rfl ?_
              first
                | (exfalso; omega)
                | (exact pw_iret C R dX9_tell_84 ⟨congrArg (fun q => some (iv q)) (by unfold xTell hasB; rw [pif_t (by omega)]; (repeat (first | rw [if_pos (by omega)] | rw [if_neg (by omega)])); first | done | omega), _, rfl, (by rw [trM_mv, trM_mv, trM_mv, trM_mv]; exact EQ.rf 0 0 _), (by rw [trM_ms, trM_ms, trM_ms, trM_ms]; unfold zTell hasB; rw [vif_t (by omega)]; (repeat (first | rw [if_pos (by omega)] | rw [if_neg (by omega)])); first | done | rfl)⟩)
                | (exact pw_iret C R dX9_tell_84 ⟨congrArg (fun q => some (iv q)) (by unfold xTell hasB; rw [pif_t (by omega)]; (repeat (first | rw [if_pos (by omega)] | rw [if_neg (by omega)])); first | done | omega), _, rfl, (by rw [trM_mv, trM_mv]; exact EQ.rf 0 0 _), (by rw [trM_ms, trM_ms]; unfold zTell hasB; rw [vif_t (by omega)]; (repeat (first | rw [if_pos (by omega)] | rw [if_neg (by omega)])); first | done | rfl)⟩)
                | (exact pw_iret C R dX9_tell_84 ⟨congrArg (fun q => some (iv q)) (by unfold xTell hasB; rw [pif_t (by omega)]; (repeat (first | rw [if_pos (by omega)] | rw [if_neg (by omega)])); first | done | omega), _, rfl, (by rw [trM_mv]; exact EQ.rf 0 0 _), (by rw [trM_ms]; unfold zTell hasB; rw [vif_t (by omega)]; (repeat (first | rw [if_pos (by omega)] | rw [if_neg (by omega)])); first | done | rfl)⟩)
          · refine pw_iload_n C dX9_tell_62 rfl ?_
            refine pw_goto (tgt := 84) C dX9_tell_63 rfl ?_
            first
              | (exfalso; omega)
              | (exact pw_iret C R dX9_tell_84 ⟨congrArg (fun q => some (iv q)) (by unfold xTell hasB; rw [pif_t (by omega)]; (repeat (first | rw [if_pos (by omega)] | rw [if_neg (by omega)])); first | done | omega), _, rfl, (by rw [trM_mv, trM_mv, trM_mv, trM_mv]; exact EQ.rf 0 0 _), (by rw [trM_ms, trM_ms, trM_ms, trM_ms]; unfold zTell hasB; rw [vif_t (by omega)]; (repeat (first | rw [if_pos (by omega)] | rw [if_neg (by omega)])); first | done | rfl)⟩)
              | (exact pw_iret C R dX9_tell_84 ⟨congrArg (fun q => some (iv q)) (by unfold xTell hasB; rw [pif_t (by omega)]; (repeat (first | rw [if_pos (by omega)] | rw [if_neg (by omega)])); first | done | omega), _, rfl, (by rw [trM_mv, trM_mv]; exact EQ.rf 0 0 _), (by rw [trM_ms, trM_ms]; unfold zTell hasB; rw [vif_t (by omega)]; (repeat (first | rw [if_pos (by omega)] | rw [if_neg (by omega)])); first | done | rfl)⟩)
              | (exact pw_iret C R dX9_tell_84 ⟨congrArg (fun q => some (iv q)) (by unfold xTell hasB; rw [pif_t (by omega)]; (repeat (first | rw [if_pos (by omega)] | rw [if_neg (by omega)])); first | done | omega), _, rfl, (by rw [trM_mv]; exact EQ.rf 0 0 _), (by rw [trM_ms]; unfold zTell hasB; rw [vif_t (by omega)]; (repeat (first | rw [if_pos (by omega)] | rw [if_neg (by omega)])); first | done | rfl)⟩)
      · refine pw_aload_n C dX9_tell_31 rfl ?_
        refine pw_iconst C dX9_tell_32 ?_
        refine pw_cVV C [_] mi_X9_traced mv_X9_traced ml_9_293 oM_0 rfl (c_X9_traced (by omega)) (by decide) rfl (Nat.le_of_ble_eq_true rfl) dX9_tell_33 ?_
        refine pw_aload_n C dX9_tell_36 rfl ?_
        refine pw_iconst C dX9_tell_37 ?_
        refine pw_cVV C [_] mi_X9_traced mv_X9_traced ml_9_293 oM_0 rfl (c_X9_traced (by omega)) (by decide) rfl (Nat.le_of_ble_eq_true rfl) dX9_tell_38 ?_
        refine pw_iload_n C dX9_tell_41 rfl ?_
        refine pw_iconst C dX9_tell_42 ?_
        refine pw_icmp_ne (tgt := 51) C dX9_tell_43 rfl (by omega) (by omega) (fun c43 => ?_) (fun c43 => ?_)
        · refine pw_aload_n C dX9_tell_51 rfl ?_
          refine gf_9_34 C dX9_tell_52 ?_
          refine pw_iload_n C dX9_tell_55 rfl ?_
          refine pw_ialdV C aM_19 (by omega) (by omega) (by decide) dX9_tell_56 (fun r56 => ?_)
          repeat rw [trM_a _ _ _ _ (show (19 : Nat) ≠ 0 by omega)]
          refine pw_istore_3 C dX9_tell_57 (k := ?_)
          refine pw_iload_n C dX9_tell_58 rfl ?_
          refine pw_if_ne (tgt := 66) C dX9_tell_59 rfl (by omega) (fun c59 => ?_) (fun c59 => ?_)
          · refine pw_iload_n C dX9_tell_66 rfl ?_
            refine pw_iconst C dX9_tell_67 ?_
            refine pw_icmp_ne (tgt := 78) C dX9_tell_68 rfl (by omega) (by omega) (fun c68 => ?_) (fun c68 => ?_)
            · refine pw_iconst C dX9_tell_78 ?_
              refine pw_iload_n C dX9_tell_79 rfl ?_
              refine pw_imul C dX9_tell_80 ?_
              refine pw_bipush C dX9_tell_81 (by decide) ?_
              refine pw_iadd C dX9_tell_83 ?_
              first
                | (exfalso; omega)
                | (exact pw_iret C R dX9_tell_84 ⟨congrArg (fun q => some (iv q)) (by unfold xTell hasB; rw [pif_t (by omega)]; (repeat (first | rw [if_pos (by omega)] | rw [if_neg (by omega)])); first | done | omega), _, rfl, (by rw [trM_mv, trM_mv, trM_mv, trM_mv]; exact EQ.rf 0 0 _), (by rw [trM_ms, trM_ms, trM_ms, trM_ms]; unfold zTell hasB; rw [vif_t (by omega)]; (repeat (first | rw [if_pos (by omega)] | rw [if_neg (by omega)])); first | done | rfl)⟩)
                | (exact pw_iret C R dX9_tell_84 ⟨congrArg (fun q => some (iv q)) (by unfold xTell hasB; rw [pif_t (by omega)]; (repeat (first | rw [if_pos (by omega)] | rw [if_neg (by omega)])); first | done | omega), _, rfl, (by rw [trM_mv, trM_mv]; exact EQ.rf 0 0 _), (by rw [trM_ms, trM_ms]; unfold zTell hasB; rw [vif_t (by omega)]; (repeat (first | rw [if_pos (by omega)] | rw [if_neg (by omega)])); first | done | rfl)⟩)
                | (exact pw_iret C R dX9_tell_84 ⟨congrArg (fun q => some (iv q)) (by unfold xTell hasB; rw [pif_t (by omega)]; (repeat (first | rw [if_pos (by omega)] | rw [if_neg (by omega)])); first | done | omega), _, rfl, (by rw [trM_mv]; exact EQ.rf 0 0 _), (by rw [trM_ms]; unfold zTell hasB; rw [vif_t (by omega)]; (repeat (first | rw [if_pos (by omega)] | rw [if_neg (by omega)])); first | done | rfl)⟩)
            · refine pw_iload_n C dX9_tell_71 rfl ?_
              refine pw_bipush C dX9_tell_72 (by decide) ?_
              refine pw_iadd C dX9_tell_74 ?_
              refine pw_goto (tgt := 84) C dX9_tell_75 rfl ?_
              first
                | (exfalso; omega)
                | (exact pw_iret C R dX9_tell_84 ⟨congrArg (fun q => some (iv q)) (by unfold xTell hasB; rw [pif_t (by omega)]; (repeat (first | rw [if_pos (by omega)] | rw [if_neg (by omega)])); first | done | omega), _, rfl, (by rw [trM_mv, trM_mv, trM_mv, trM_mv]; exact EQ.rf 0 0 _), (by rw [trM_ms, trM_ms, trM_ms, trM_ms]; unfold zTell hasB; rw [vif_t (by omega)]; (repeat (first | rw [if_pos (by omega)] | rw [if_neg (by omega)])); first | done | rfl)⟩)
                | (exact pw_iret C R dX9_tell_84 ⟨congrArg (fun q => some (iv q)) (by unfold xTell hasB; rw [pif_t (by omega)]; (repeat (first | rw [if_pos (by omega)] | rw [if_neg (by omega)])); first | done | omega), _, rfl, (by rw [trM_mv, trM_mv]; exact EQ.rf 0 0 _), (by rw [trM_ms, trM_ms]; unfold zTell hasB; rw [vif_t (by omega)]; (repeat (first | rw [if_pos (by omega)] | rw [if_neg (by omega)])); first | done | rfl)⟩)
                | (exact pw_iret C R dX9_tell_84 ⟨congrArg (fun q => some (iv q)) (by unfold xTell hasB; rw [pif_t (by omega)]; (repeat (first | rw [if_pos (by omega)] | rw [if_neg (by omega)])); first | done | omega), _, rfl, (by rw [trM_mv]; exact EQ.rf 0 0 _), (by rw [trM_ms]; unfold zTell hasB; rw [vif_t (by omega)]; (repeat (first | rw [if_pos (by omega)] | rw [if_neg (by omega)])); first | done | rfl)⟩)
          · refine pw_iload_n C dX9_tell_62 rfl ?_
            refine pw_goto (tgt := 84) C dX9_tell_63 rfl ?_
            first
              | (exfalso; omega)
              | (exact pw_iret C R dX9_tell_84 ⟨congrArg (fun q => some (iv q)) (by unfold xTell hasB; rw [pif_t (by omega)]; (repeat (first | rw [if_pos (by omega)] | rw [if_neg (by omega)])); first | done | omega), _, rfl, (by rw [trM_mv, trM_mv, trM_mv, trM_mv]; exact EQ.rf 0 0 _), (by rw [trM_ms, trM_ms, trM_ms, trM_ms]; unfold zTell hasB; rw [vif_t (by omega)]; (repeat (first | rw [if_pos (by omega)] | rw [if_neg (by omega)])); first | done | rfl)⟩)
              | (exact pw_iret C R dX9_tell_84 ⟨congrArg (fun q => some (iv q)) (by unfold xTell hasB; rw [pif_t (by omega)]; (repeat (first | rw [if_pos (by omega)] | rw [if_neg (by omega)])); first | done | omega), _, rfl, (by rw [trM_mv, trM_mv]; exact EQ.rf 0 0 _), (by rw [trM_ms, trM_ms]; unfold zTell hasB; rw [vif_t (by omega)]; (repeat (first | rw [if_pos (by omega)] | rw [if_neg (by omega)])); first | done | rfl)⟩)
              | (exact pw_iret C R dX9_tell_84 ⟨congrArg (fun q => some (iv q)) (by unfold xTell hasB; rw [pif_t (by omega)]; (repeat (first | rw [if_pos (by omega)] | rw [if_neg (by omega)])); first | done | omega), _, rfl, (by rw [trM_mv]; exact EQ.rf 0 0 _), (by rw [trM_ms]; unfold zTell hasB; rw [vif_t (by omega)]; (repeat (first | rw [if_pos (by omega)] | rw [if_neg (by omega)])); first | done | rfl)⟩)
        · refine pw_aload_n C dX9_tell_46 rfl ?_
          refine pw_iconst C dX9_tell_47 ?_
          refine pw_cVV C [_] mi_X9_traced mv_X9_traced ml_9_293 oM_0 rfl (c_X9_traced (by omega)) (by decide) rfl (Nat.le_of_ble_eq_true rfl) dX9_tell_48 ?_
          refine pw_aload_n C dX9_tell_51 rfl ?_
          refine gf_9_34 C dX9_tell_52 ?_
          refine pw_iload_n C dX9_tell_55 rfl ?_
          refine pw_ialdV C aM_19 (by omega) (by omega) (by decide) dX9_tell_56 (fun r56 => ?_)
          repeat rw [trM_a _ _ _ _ (show (19 : Nat) ≠ 0 by omega)]
          refine pw_istore_3 C dX9_tell_57 (k := ?_)
          refine pw_iload_n C dX9_tell_58 rfl ?_
          refine pw_if_ne (tgt := 66) C dX9_tell_59 rfl (by omega) (fun c59 => ?_) (fun c59 => ?_)
          · refine pw_iload_n C dX9_tell_66 rfl ?_
            refine pw_iconst C dX9_tell_67 ?_
            refine pw_icmp_ne (tgt := 78) C dX9_tell_68 rfl (by omega) (by omega) (fun c68 => ?_) (fun c68 => ?_)
            · refine pw_iconst C dX9_tell_78 ?_
              refine pw_iload_n C dX9_tell_79 rfl ?_
              refine pw_imul C dX9_tell_80 ?_
              refine pw_bipush C dX9_tell_81 (by decide) ?_
              refine pw_iadd C dX9_tell_83 ?_
              first
                | (exfalso; omega)
                | (exact pw_iret C R dX9_tell_84 ⟨congrArg (fun q => some (iv q)) (by unfold xTell hasB; rw [pif_t (by omega)]; (repeat (first | rw [if_pos (by omega)] | rw [if_neg (by omega)])); first | done | omega), _, rfl, (by rw [trM_mv, trM_mv, trM_mv, trM_mv]; exact EQ.rf 0 0 _), (by rw [trM_ms, trM_ms, trM_ms, trM_ms]; unfold zTell hasB; rw [vif_t (by omega)]; (repeat (first | rw [if_pos (by omega)] | rw [if_neg (by omega)])); first | done | rfl)⟩)
                | (exact pw_iret C R dX9_tell_84 ⟨congrArg (fun q => some (iv q)) (by unfold xTell hasB; rw [pif_t (by omega)]; (repeat (first | rw [if_pos (by omega)] | rw [if_neg (by omega)])); first | done | omega), _, rfl, (by rw [trM_mv, trM_mv]; exact EQ.rf 0 0 _), (by rw [trM_ms, trM_ms]; unfold zTell hasB; rw [vif_t (by omega)]; (repeat (first | rw [if_pos (by omega)] | rw [if_neg (by omega)])); first | done | rfl)⟩)
                | (exact pw_iret C R dX9_tell_84 ⟨congrArg (fun q => some (iv q)) (by unfold xTell hasB; rw [pif_t (by omega)]; (repeat (first | rw [if_pos (by omega)] | rw [if_neg (by omega)])); first | done | omega), _, rfl, (by rw [trM_mv]; exact EQ.rf 0 0 _), (by rw [trM_ms]; unfold zTell hasB; rw [vif_t (by omega)]; (repeat (first | rw [if_pos (by omega)] | rw [if_neg (by omega)])); first | done | rfl)⟩)
            · refine pw_iload_n C dX9_tell_71 rfl ?_
              refine pw_bipush C dX9_tell_72 (by decide) ?_
              refine pw_iadd C dX9_tell_74 ?_
              refine pw_goto (tgt := 84) C dX9_tell_75 rfl ?_
              first
                | (exfalso; omega)
                | (exact pw_iret C R dX9_tell_84 ⟨congrArg (fun q => some (iv q)) (by unfold xTell hasB; rw [pif_t (by omega)]; (repeat (first | rw [if_pos (by omega)] | rw [if_neg (by omega)])); first | done | omega), _, rfl, (by rw [trM_mv, trM_mv, trM_mv, trM_mv]; exact EQ.rf 0 0 _), (by rw [trM_ms, trM_ms, trM_ms, trM_ms]; unfold zTell hasB; rw [vif_t (by omega)]; (repeat (first | rw [if_pos (by omega)] | rw [if_neg (by omega)])); first | done | rfl)⟩)
                | (exact pw_iret C R dX9_tell_84 ⟨congrArg (fun q => some (iv q)) (by unfold xTell hasB; rw [pif_t (by omega)]; (repeat (first | rw [if_pos (by omega)] | rw [if_neg (by omega)])); first | done | omega), _, rfl, (by rw [trM_mv, trM_mv]; exact EQ.rf 0 0 _), (by rw [trM_ms, trM_ms]; unfold zTell hasB; rw [vif_t (by omega)]; (repeat (first | rw [if_pos (by omega)] | rw [if_neg (by omega)])); first | done | rfl)⟩)
                | (exact pw_iret C R dX9_tell_84 ⟨congrArg (fun q => some (iv q)) (by unfold xTell hasB; rw [pif_t (by omega)]; (repeat (first | rw [if_pos (by omega)] | rw [if_neg (by omega)])); first | done | omega), _, rfl, (by rw [trM_mv]; exact EQ.rf 0 0 _), (by rw [trM_ms]; unfold zTell hasB; rw [vif_t (by omega)]; (repeat (first | rw [if_pos (by omega)] | rw [if_neg (by omega)])); first | done | rfl)⟩)
          · refine pw_iload_n C dX9_tell_62 rfl ?_
            refine pw_goto (tgt := 84) C dX9_tell_63 rfl ?_
            first
              | (exfalso; omega)
              | (exact pw_iret C R dX9_tell_84 ⟨congrArg (fun q => some (iv q)) (by unfold xTell hasB; rw [pif_t (by omega)]; (repeat (first | rw [if_pos (by omega)] | rw [if_neg (by omega)])); first | done | omega), _, rfl, (by rw [trM_mv, trM_mv, trM_mv, trM_mv]; exact EQ.rf 0 0 _), (by rw [trM_ms, trM_ms, trM_ms, trM_ms]; unfold zTell hasB; rw [vif_t (by omega)]; (repeat (first | rw [if_pos (by omega)] | rw [if_neg (by omega)])); first | done | rfl)⟩)
              | (exact pw_iret C R dX9_tell_84 ⟨congrArg (fun q => some (iv q)) (by unfold xTell hasB; rw [pif_t (by omega)]; (repeat (first | rw [if_pos (by omega)] | rw [if_neg (by omega)])); first | done | omega), _, rfl, (by rw [trM_mv, trM_mv]; exact EQ.rf 0 0 _), (by rw [trM_ms, trM_ms]; unfold zTell hasB; rw [vif_t (by omega)]; (repeat (first | rw [if_pos (by omega)] | rw [if_neg (by omega)])); first | done | rfl)⟩)
              | (exact pw_iret C R dX9_tell_84 ⟨congrArg (fun q => some (iv q)) (by unfold xTell hasB; rw [pif_t (by omega)]; (repeat (first | rw [if_pos (by omega)] | rw [if_neg (by omega)])); first | done | omega), _, rfl, (by rw [trM_mv]; exact EQ.rf 0 0 _), (by rw [trM_ms]; unfold zTell hasB; rw [vif_t (by omega)]; (repeat (first | rw [if_pos (by omega)] | rw [if_neg (by omega)])); first | done | rfl)⟩)
  · refine pw_iconst C dX9_tell_8 ?_
    exact pw_iret C R dX9_tell_9 ⟨congrArg (fun q => some (iv q)) (by unfold xTell hasB; rw [pif_f (by omega)]), _, rfl, EQ.rf 0 0 _, (by unfold zTell hasB; rw [vif_f (by omega)])⟩
set_option maxRecDepth 100000 in
set_option maxHeartbeats 400000 in
theorem c_X9_greet {l : Launch} {S : SW} {M : Mem} {V : DM} {x : Int}  (hx : InR x) (hI : DayOk (mv V)) (hS : ShOk (ms V))  : PM l S yX9_greet cX9_greet 2 (some .int) 2 46 [rv S 3 0 0, iv x] (mst M 3 V) (rR (iv (xGreet (mv V) x)) M (mv V) (zGreet (mv V) (ms V) x)) := by
  refine PM.of (own := RX9) (by decide) rfl [some (rv S 3 0 0), some (iv x)] rfl rfl (Nat.le_of_ble_eq_true rfl) (fun X hXl C R => ?_)
  subst hXl
  obtain ⟨i1, i2, i3, i4, i5, i6, i7, i8⟩ := id hI
  have e5 : mv V 1 0 5 = V 0 0 1 := rfl
  have e6 : mv V 1 0 6 = V 0 0 2 := rfl
  have e7 : mv V 1 0 7 = V 0 0 8 := rfl
  have e8 : mv V 1 0 8 = V 0 0 9 := rfl
  have e84 : mv V 8 0 4 = V 0 0 15 := rfl
  refine pw_aload_n C dX9_greet_0 rfl ?_
  refine pw_iload_n C dX9_greet_1 rfl ?_
  refine pw_cVI C [_] mi_X9_noBuyer mv_X9_noBuyer ml_9_188 oM_0 rfl (c_X9_noBuyer (by omega)) (by decide) rfl (Nat.le_of_ble_eq_true rfl) dX9_greet_2 ?_
  refine pw_if_eq_b (tgt := 10) C dX9_greet_5 rfl (fun c5 => ?_) (fun c5 => ?_)
  · have ix : (0 ≤ V 17 0 x ∧ V 17 0 x ≤ 2) ∧ (0 ≤ V 18 0 x ∧ V 18 0 x < V 0 0 2) ∧ (0 ≤ V 19 0 x ∧ V 19 0 x ≤ 40) ∧ (0 ≤ V 20 0 x ∧ V 20 0 x < V 0 0 1) := i4 x (by omega) (by omega)
    have e9 : mv V 9 0 x = V 17 0 x := rfl
    have e11 : mv V 11 0 x = V 19 0 x := rfl
    refine pw_aload_n C dX9_greet_10 rfl ?_
    refine pw_aload_n C dX9_greet_11 rfl ?_
    refine gf_9_28 C dX9_greet_12 ?_
    refine pw_iload_n C dX9_greet_15 rfl ?_
    refine pw_ialdV C aM_17 (by omega) (by omega) (by decide) dX9_greet_16 (fun r16 => ?_)
    refine pw_iconst C dX9_greet_17 ?_
    refine pw_icmp_ne (tgt := 25) C dX9_greet_18 rfl (by omega) (by omega) (fun c18 => ?_) (fun c18 => ?_)
    · refine pw_iconst C dX9_greet_25 ?_
      refine pw_cVV C [_] mi_X9_traced mv_X9_traced ml_9_293 oM_0 rfl (c_X9_traced (by omega)) (by decide) rfl (Nat.le_of_ble_eq_true rfl) dX9_greet_26 ?_
      refine pw_aload_n C dX9_greet_29 rfl ?_
      refine gf_9_28 C dX9_greet_30 ?_
      refine pw_iload_n C dX9_greet_33 rfl ?_
      refine pw_ialdV C aM_17 (by omega) (by omega) (by decide) dX9_greet_34 (fun r34 => ?_)
      rw [trM_a _ _ _ _ (show (17 : Nat) ≠ 0 by omega)]
      refine pw_iconst C dX9_greet_35 ?_
      refine pw_icmp_ne (tgt := 44) C dX9_greet_36 rfl (by omega) (by omega) (fun c36 => ?_) (fun c36 => ?_)
      · refine pw_iload_n C dX9_greet_44 rfl ?_
        first
          | (exfalso; omega)
          | (exact pw_iret C R dX9_greet_45 ⟨congrArg (fun q => some (iv q)) (by unfold xGreet hasB; rw [pif_t (by omega)]; (repeat (first | rw [if_pos (by omega)] | rw [if_neg (by omega)])); first | done | omega), _, rfl, (by rw [trM_mv]; exact EQ.rf 0 0 _), (by rw [trM_ms]; unfold zGreet hasB; rw [vif_t (by omega)]; (repeat (first | rw [if_pos (by omega)] | rw [if_neg (by omega)])); first | done | rfl)⟩)
      · refine pw_bipush C dX9_greet_39 (by decide) ?_
        refine pw_goto (tgt := 45) C dX9_greet_41 rfl ?_
        first
          | (exfalso; omega)
          | (exact pw_iret C R dX9_greet_45 ⟨congrArg (fun q => some (iv q)) (by unfold xGreet hasB; rw [pif_t (by omega)]; (repeat (first | rw [if_pos (by omega)] | rw [if_neg (by omega)])); first | done | omega), _, rfl, (by rw [trM_mv]; exact EQ.rf 0 0 _), (by rw [trM_ms]; unfold zGreet hasB; rw [vif_t (by omega)]; (repeat (first | rw [if_pos (by omega)] | rw [if_neg (by omega)])); first | done | rfl)⟩)
    · refine pw_iconst C dX9_greet_21 ?_
      refine pw_goto (tgt := 26) C dX9_greet_22 rfl ?_
      refine pw_cVV C [_] mi_X9_traced mv_X9_traced ml_9_293 oM_0 rfl (c_X9_traced (by omega)) (by decide) rfl (Nat.le_of_ble_eq_true rfl) dX9_greet_26 ?_
      refine pw_aload_n C dX9_greet_29 rfl ?_
      refine gf_9_28 C dX9_greet_30 ?_
      refine pw_iload_n C dX9_greet_33 rfl ?_
      refine pw_ialdV C aM_17 (by omega) (by omega) (by decide) dX9_greet_34 (fun r34 => ?_)
      rw [trM_a _ _ _ _ (show (17 : Nat) ≠ 0 by omega)]
      refine pw_iconst C dX9_greet_35 ?_
      refine pw_icmp_ne (tgt := 44) C dX9_greet_36 rfl (by omega) (by omega) (fun c36 => ?_) (fun c36 => ?_)
      · refine pw_iload_n C dX9_greet_44 rfl ?_
        first
          | (exfalso; omega)
          | (exact pw_iret C R dX9_greet_45 ⟨congrArg (fun q => some (iv q)) (by unfold xGreet hasB; rw [pif_t (by omega)]; (repeat (first | rw [if_pos (by omega)] | rw [if_neg (by omega)])); first | done | omega), _, rfl, (by rw [trM_mv]; exact EQ.rf 0 0 _), (by rw [trM_ms]; unfold zGreet hasB; rw [vif_t (by omega)]; (repeat (first | rw [if_pos (by omega)] | rw [if_neg (by omega)])); first | done | rfl)⟩)
      · refine pw_bipush C dX9_greet_39 (by decide) ?_
        refine pw_goto (tgt := 45) C dX9_greet_41 rfl ?_
        first
          | (exfalso; omega)
          | (exact pw_iret C R dX9_greet_45 ⟨congrArg (fun q => some (iv q)) (by unfold xGreet hasB; rw [pif_t (by omega)]; (repeat (first | rw [if_pos (by omega)] | rw [if_neg (by omega)])); first | done | omega), _, rfl, (by rw [trM_mv]; exact EQ.rf 0 0 _), (by rw [trM_ms]; unfold zGreet hasB; rw [vif_t (by omega)]; (repeat (first | rw [if_pos (by omega)] | rw [if_neg (by omega)])); first | done | rfl)⟩)
  · refine pw_iconst C dX9_greet_8 ?_
    exact pw_iret C R dX9_greet_9 ⟨congrArg (fun q => some (iv q)) (by unfold xGreet hasB; rw [pif_f (by omega)]), _, rfl, EQ.rf 0 0 _, (by unfold zGreet hasB; rw [vif_f (by omega)])⟩
set_option maxRecDepth 100000 in
set_option maxHeartbeats 400000 in
theorem c_X9_as {l : Launch} {S : SW} {M : Mem} {V : DM} {x kd : Int}  (hx : InR x) (hkd : InR kd) (hI : DayOk (mv V)) (hS : ShOk (ms V))  : PM l S yX9_as cX9_as 3 (some .int) 2 46 [rv S 3 0 0, iv x, iv kd] (mst M 3 V) (rR (iv (xAs (mv V) x kd)) M (mv V) (fl (ms V) (fOf (xAs (mv V) x kd)))) := by
  refine PM.of (own := RX9) (by decide) rfl [some (rv S 3 0 0), some (iv x), some (iv kd)] rfl rfl (Nat.le_of_ble_eq_true rfl) (fun X hXl C R => ?_)
  subst hXl
  obtain ⟨i1, i2, i3, i4, i5, i6, i7, i8⟩ := id hI
  have e5 : mv V 1 0 5 = V 0 0 1 := rfl
  have e6 : mv V 1 0 6 = V 0 0 2 := rfl
  have e7 : mv V 1 0 7 = V 0 0 8 := rfl
  have e8 : mv V 1 0 8 = V 0 0 9 := rfl
  have e84 : mv V 8 0 4 = V 0 0 15 := rfl
  refine pw_aload_n C dX9_as_0 rfl ?_
  refine pw_iload_n C dX9_as_1 rfl ?_
  refine pw_cVI C [_] mi_X9_noBuyer mv_X9_noBuyer ml_9_188 oM_0 rfl (c_X9_noBuyer (by omega)) (by decide) rfl (Nat.le_of_ble_eq_true rfl) dX9_as_2 ?_
  refine pw_if_eq_b (tgt := 14) C dX9_as_5 rfl (fun c5 => ?_) (fun c5 => ?_)
  · have ix : (0 ≤ V 17 0 x ∧ V 17 0 x ≤ 2) ∧ (0 ≤ V 18 0 x ∧ V 18 0 x < V 0 0 2) ∧ (0 ≤ V 19 0 x ∧ V 19 0 x ≤ 40) ∧ (0 ≤ V 20 0 x ∧ V 20 0 x < V 0 0 1) := i4 x (by omega) (by omega)
    have e9 : mv V 9 0 x = V 17 0 x := rfl
    have e11 : mv V 11 0 x = V 19 0 x := rfl
    refine pw_iload_n C dX9_as_14 rfl ?_
    refine pw_i2l C (by omega) dX9_as_15 ?_
    refine pw_lconst0 C dX9_as_16 ?_
    refine pw_ldc2 C (n := 2) (inT4 122 rfl rfl) (by decide) dX9_as_17 ?_
    refine pw_cSI C [_, _, _] mi_X9_in ms_X9_in ml_9_87 (c_X9_in (by omega) (by omega) (by omega)) (by decide) rfl (Nat.le_of_ble_eq_true rfl) dX9_as_20 ?_
    refine pw_if_ne_b (tgt := 33) C dX9_as_23 rfl (fun c23 => ?_) (fun c23 => ?_)
    · refine pw_aload_n C dX9_as_33 rfl ?_
      refine gf_9_28 C dX9_as_34 ?_
      refine pw_iload_n C dX9_as_37 rfl ?_
      refine pw_ialdV C aM_17 (by omega) (by omega) (by decide) dX9_as_38 (fun r38 => ?_)
      refine pw_iload_n C dX9_as_39 rfl ?_
      refine pw_icmp_lt (tgt := 51) C dX9_as_40 rfl (by omega) (by omega) (fun c40 => ?_) (fun c40 => ?_)
      · refine pw_aload_n C dX9_as_51 rfl ?_
        refine pw_iconst C dX9_as_52 ?_
        refine pw_cVI C [_] mi_X9_failed mv_X9_failed ml_9_109 oM_0 rfl (c_X9_failed (by omega)) (by decide) rfl (Nat.le_of_ble_eq_true rfl) dX9_as_53 ?_
        first
          | (have e : 1 = xAs (mv V) x kd := by unfold xAs hasB; (repeat (first | rw [pif_t (by first | omega | assumption)] | rw [pif_f (by first | omega | assumption)])); all_goals (first | rfl | omega | ((repeat' split) <;> first | rfl | omega))
             exact pw_iret C R dX9_as_56 ⟨congrArg (fun q => some (iv q)) e, _, rfl, (by rw [mvn_0]; exact EQ.rf 0 0 _), (by rw [msf_0, ← e]; rfl)⟩)
          | (have e : -10 - 2 = xAs (mv V) x kd := by unfold xAs hasB; (repeat (first | rw [pif_t (by first | omega | assumption)] | rw [pif_f (by first | omega | assumption)])); all_goals (first | rfl | omega | ((repeat' split) <;> first | rfl | omega))
             exact pw_iret C R dX9_as_56 ⟨congrArg (fun q => some (iv q)) e, _, rfl, (by rw [mvn_0]; exact EQ.rf 0 0 _), (by rw [msf_0, ← e]; rfl)⟩)
      · refine pw_aload_n C dX9_as_43 rfl ?_
        refine pw_iconst C dX9_as_44 ?_
        refine pw_cVI C [_] mi_X9_refused mv_X9_refused ml_9_103 oM_0 rfl (c_X9_refused (by omega)) (by decide) rfl (Nat.le_of_ble_eq_true rfl) dX9_as_45 ?_
        refine pw_goto (tgt := 56) C dX9_as_48 rfl ?_
        first
          | (have e : 1 = xAs (mv V) x kd := by unfold xAs hasB; (repeat (first | rw [pif_t (by first | omega | assumption)] | rw [pif_f (by first | omega | assumption)])); all_goals (first | rfl | omega | ((repeat' split) <;> first | rfl | omega))
             exact pw_iret C R dX9_as_56 ⟨congrArg (fun q => some (iv q)) e, _, rfl, (by rw [mvn_0]; exact EQ.rf 0 0 _), (by rw [msf_0, ← e]; rfl)⟩)
          | (have e : -10 - 2 = xAs (mv V) x kd := by unfold xAs hasB; (repeat (first | rw [pif_t (by first | omega | assumption)] | rw [pif_f (by first | omega | assumption)])); all_goals (first | rfl | omega | ((repeat' split) <;> first | rfl | omega))
             exact pw_iret C R dX9_as_56 ⟨congrArg (fun q => some (iv q)) e, _, rfl, (by rw [mvn_0]; exact EQ.rf 0 0 _), (by rw [msf_0, ← e]; rfl)⟩)
    · refine pw_aload_n C dX9_as_26 rfl ?_
      refine pw_bipush C dX9_as_27 (by decide) ?_
      refine pw_cVI C [_] mi_X9_refused mv_X9_refused ml_9_103 oM_0 rfl (c_X9_refused (by omega)) (by decide) rfl (Nat.le_of_ble_eq_true rfl) dX9_as_29 ?_
      first
        | (have e : -2 = xAs (mv V) x kd := by unfold xAs hasB; (repeat (first | rw [pif_t (by first | omega | assumption)] | rw [pif_f (by first | omega | assumption)])); all_goals (first | rfl | omega | ((repeat' split) <;> first | rfl | omega))
           exact pw_iret C R dX9_as_32 ⟨congrArg (fun q => some (iv q)) e, _, rfl, (by rw [mvn_0]; exact EQ.rf 0 0 _), (by rw [msf_0, ← e]; rfl)⟩)
  · refine pw_aload_n C dX9_as_8 rfl ?_
    refine pw_iconst C dX9_as_9 ?_
    refine pw_cVI C [_] mi_X9_refused mv_X9_refused ml_9_103 oM_0 rfl (c_X9_refused (by omega)) (by decide) rfl (Nat.le_of_ble_eq_true rfl) dX9_as_10 ?_
    first
      | (have e : -1 = xAs (mv V) x kd := by unfold xAs hasB; (repeat (first | rw [pif_t (by first | omega | assumption)] | rw [pif_f (by first | omega | assumption)])); all_goals (first | rfl | omega | ((repeat' split) <;> first | rfl | omega))
         exact pw_iret C R dX9_as_13 ⟨congrArg (fun q => some (iv q)) e, _, rfl, (by rw [mvn_0]; exact EQ.rf 0 0 _), (by rw [msf_0, ← e]; rfl)⟩)
set_option maxRecDepth 100000 in
set_option maxHeartbeats 400000 in
theorem c_X9_trace {l : Launch} {S : SW} {M : Mem} {V : DM}  (hI : DayOk (mv V)) (hS : ShOk (ms V))  : PM l S yX9_trace cX9_trace 1 (some .int) 0 0 [rv S 3 0 0] (mst M 3 V) (rR (iv (ms V 0 0 5)) M (mv V) (ms V)) := by
  refine PM.of (own := RX9) (by decide) rfl [some (rv S 3 0 0)] rfl rfl (Nat.le_of_ble_eq_true rfl) (fun X hXl C R => ?_)
  subst hXl
  obtain ⟨i1, i2, i3, i4, i5, i6, i7, i8⟩ := id hI
  have e5 : mv V 1 0 5 = V 0 0 1 := rfl
  have e6 : mv V 1 0 6 = V 0 0 2 := rfl
  have e7 : mv V 1 0 7 = V 0 0 8 := rfl
  have e8 : mv V 1 0 8 = V 0 0 9 := rfl
  have e84 : mv V 8 0 4 = V 0 0 15 := rfl
  refine pw_aload_n C dX9_trace_0 rfl ?_
  refine gv_9_290 C dX9_trace_1 (fun r1 => ?_)
  exact pw_iret C R dX9_trace_4 ⟨congrArg (fun q => some (iv q)) (rfl), _, rfl, EQ.rf 0 0 _, rfl⟩
set_option maxRecDepth 100000 in
set_option maxHeartbeats 400000 in
theorem c_X9_fault {l : Launch} {S : SW} {M : Mem} {V : DM}  (hI : DayOk (mv V)) (hS : ShOk (ms V))  : PM l S yX9_fault cX9_fault 1 (some .int) 0 0 [rv S 3 0 0] (mst M 3 V) (rR (iv (ms V 0 0 6)) M (mv V) (ms V)) := by
  refine PM.of (own := RX9) (by decide) rfl [some (rv S 3 0 0)] rfl rfl (Nat.le_of_ble_eq_true rfl) (fun X hXl C R => ?_)
  subst hXl
  obtain ⟨i1, i2, i3, i4, i5, i6, i7, i8⟩ := id hI
  have e5 : mv V 1 0 5 = V 0 0 1 := rfl
  have e6 : mv V 1 0 6 = V 0 0 2 := rfl
  have e7 : mv V 1 0 7 = V 0 0 8 := rfl
  have e8 : mv V 1 0 8 = V 0 0 9 := rfl
  have e84 : mv V 8 0 4 = V 0 0 15 := rfl
  refine pw_aload_n C dX9_fault_0 rfl ?_
  refine gv_9_91 C dX9_fault_1 (fun r1 => ?_)
  exact pw_iret C R dX9_fault_4 ⟨congrArg (fun q => some (iv q)) (rfl), _, rfl, EQ.rf 0 0 _, rfl⟩
set_option maxRecDepth 100000 in
set_option maxHeartbeats 400000 in
theorem c_X9_many {l : Launch} {S : SW} {M : Mem} {V : DM} {w : Int}  (hw : InR w) (hI : DayOk (mv V)) (hS : ShOk (ms V))  : PM l S yX9_many cX9_many 2 (some .int) 1 22 [rv S 3 0 0, iv w] (mst M 3 V) (rR (iv (xMany (mv V) w)) M (mv V) (ms V)) := by
  refine PM.of (own := RX9) (by decide) rfl [some (rv S 3 0 0), some (iv w)] rfl rfl (Nat.le_of_ble_eq_true rfl) (fun X hXl C R => ?_)
  subst hXl
  obtain ⟨i1, i2, i3, i4, i5, i6, i7, i8⟩ := id hI
  have e5 : mv V 1 0 5 = V 0 0 1 := rfl
  have e6 : mv V 1 0 6 = V 0 0 2 := rfl
  have e7 : mv V 1 0 7 = V 0 0 8 := rfl
  have e8 : mv V 1 0 8 = V 0 0 9 := rfl
  have e84 : mv V 8 0 4 = V 0 0 15 := rfl
  refine pw_iload_n C dX9_many_0 rfl ?_
  refine pw_tsw5 C 36 41 46 51 56 69 (by omega) dX9_many_1 rfl rfl rfl rfl rfl rfl rfl (fun c1 => ?_) (fun c1 => ?_) (fun c1 => ?_) (fun c1 => ?_) (fun c1 => ?_) (fun c1 => ?_)
  · refine pw_aload_n C dX9_many_36 rfl ?_
    refine gv_9_119 C dX9_many_37 (fun r37 => ?_)
    exact pw_iret C R dX9_many_40 ⟨congrArg (fun q => some (iv q)) (by unfold xMany; (repeat (first | rw [if_pos (by omega)] | rw [if_neg (by omega)])); first | done | rfl | omega), _, rfl, EQ.rf 0 0 _, rfl⟩
  · refine pw_aload_n C dX9_many_41 rfl ?_
    refine gv_9_116 C dX9_many_42 (fun r42 => ?_)
    exact pw_iret C R dX9_many_45 ⟨congrArg (fun q => some (iv q)) (by unfold xMany; (repeat (first | rw [if_pos (by omega)] | rw [if_neg (by omega)])); first | done | rfl | omega), _, rfl, EQ.rf 0 0 _, rfl⟩
  · refine pw_aload_n C dX9_many_46 rfl ?_
    refine gv_9_153 C dX9_many_47 (fun r47 => ?_)
    exact pw_iret C R dX9_many_50 ⟨congrArg (fun q => some (iv q)) (by unfold xMany; (repeat (first | rw [if_pos (by omega)] | rw [if_neg (by omega)])); first | done | rfl | omega), _, rfl, EQ.rf 0 0 _, rfl⟩
  · refine pw_aload_n C dX9_many_51 rfl ?_
    refine pw_cVI C [] mi_X9_allFish mv_X9_allFish ml_9_233 oM_0 rfl (c_X9_allFish (by omega) (by omega)) (by decide) rfl (Nat.le_of_ble_eq_true rfl) dX9_many_52 ?_
    exact pw_iret C R dX9_many_55 ⟨congrArg (fun q => some (iv q)) (by unfold xMany; (repeat (first | rw [if_pos (by omega)] | rw [if_neg (by omega)])); first | done | rfl | omega), _, rfl, EQ.rf 0 0 _, rfl⟩
  · refine pw_aload_n C dX9_many_56 rfl ?_
    refine gv_9_159 C dX9_many_57 (fun r57 => ?_)
    refine pw_if_eq (tgt := 67) C dX9_many_60 rfl (by omega) (fun c60 => ?_) (fun c60 => ?_)
    · refine pw_iconst C dX9_many_67 ?_
      exact pw_iret C R dX9_many_68 ⟨congrArg (fun q => some (iv q)) (by unfold xMany; (repeat (first | rw [if_pos (by omega)] | rw [if_neg (by omega)])); first | done | rfl | omega), _, rfl, EQ.rf 0 0 _, rfl⟩
    · refine pw_iconst C dX9_many_63 ?_
      refine pw_goto (tgt := 68) C dX9_many_64 rfl ?_
      exact pw_iret C R dX9_many_68 ⟨congrArg (fun q => some (iv q)) (by unfold xMany; (repeat (first | rw [if_pos (by omega)] | rw [if_neg (by omega)])); first | done | rfl | omega), _, rfl, EQ.rf 0 0 _, rfl⟩
  · refine pw_bipush C dX9_many_69 (by decide) ?_
    exact pw_iret C R dX9_many_71 ⟨congrArg (fun q => some (iv q)) (by unfold xMany; (repeat (first | rw [if_pos (by omega)] | rw [if_neg (by omega)])); first | done | rfl | omega), _, rfl, EQ.rf 0 0 _, rfl⟩
