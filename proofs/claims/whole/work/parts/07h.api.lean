def sk (k : Int) : Prop := 0 ≤ k ∧ k < 4
def rch (Z : DM) (k i n : Int) : Prop := 0 ≤ i ∧ 0 ≤ n ∧ i ≤ Z 9 0 k ∧ n ≤ Z 9 0 k - i
def giveZ (Z : DM) (k ln n : Int) : DM := fun k' r i => if k' = 8 ∧ r = 0 ∧ i = k then ln else if k' = 9 ∧ r = 0 ∧ i = k then n else if k' = 7 ∧ r = k ∧ 0 ≤ i ∧ i < n then 0 else Z k' r i
theorem giveI_z {V W : DM} {k ln n : Int} (h : GiveI V k ln n n W) : P2 (giveZ V k ln n) W := by
  have hr := h.2.2.2.2.1
  intro k' r i hk
  unfold giveZ
  rcases hk with rfl | rfl | rfl | rfl
  · rw [if_neg (by omega), if_neg (by omega), if_neg (by omega)]; exact h.2.2.2.2.2 0 r i (by omega) (by omega) (by omega)
  · rw [if_neg (by omega), if_neg (by omega)]
    by_cases e : r = k
    · subst e
      rw [h.2.2.1 i]
      by_cases q : 0 ≤ i ∧ i < n
      · rw [if_pos q, if_pos (by omega)]
      · rw [if_neg q, if_neg (by omega)]
    · rw [if_neg (by omega)]; exact (h.2.2.2.1 r i e).1
  · by_cases e : r = 0
    · subst e
      by_cases q : i = k
      · rw [q, if_pos (by omega)]; exact h.1
      · rw [if_neg (by omega), if_neg (by omega), if_neg (by omega)]; exact (h.2.2.2.1 i 0 q).2.1
    · rw [if_neg (by omega), if_neg (by omega), if_neg (by omega)]; exact (hr r i e).1
  · by_cases e : r = 0
    · subst e
      by_cases q : i = k
      · rw [q, if_neg (by omega), if_pos (by omega)]; exact h.2.1
      · rw [if_neg (by omega), if_neg (by omega), if_neg (by omega)]; exact (h.2.2.2.1 i 0 q).2.2
    · rw [if_neg (by omega), if_neg (by omega), if_neg (by omega)]; exact (hr r i e).2
noncomputable def xSheet (Z : DM) (k ln n : Int) : Int := pif (sk k) (pif ((0 ≤ ln ∧ ln < 3) ∧ n ≤ 60) (pif (0 ≤ n) 1 (-14)) (-2)) (-1)
noncomputable def zSheet (Z : DM) (k ln n : Int) : DM := vif (sk k ∧ ((0 ≤ ln ∧ ln < 3) ∧ n ≤ 60) ∧ 0 ≤ n) (giveZ (fl Z 0) k ln n) (fl Z (fOf (xSheet Z k ln n)))
noncomputable def xLose (Z : DM) (k : Int) : Int := pif (sk k) (pif (Z 9 0 k = -1) 0 1) (-1)
noncomputable def zLose (Z : DM) (k : Int) : DM := vif (sk k) (vup Z 9 0 k (-1)) Z
noncomputable def xPut (Z : DM) (k i : Int) : Int := pif (sk k) (pif (Z 9 0 k = -1) (-11) (pif (0 ≤ i ∧ i < Z 9 0 k) 1 (-13))) (-1)
noncomputable def zPut (Z : DM) (k i v : Int) : DM := vif (xPut Z k i = 1) (vup (fl Z 0) 7 k i (cutI v (Z 8 0 k))) (fl Z (fOf (xPut Z k i)))
noncomputable def xCell (Z : DM) (k i ln : Int) : Int := pif (look Z k ln i 1 = 0) (Z 7 k i) LOSTv
noncomputable def xCopy (Z : DM) (k i o j n : Int) : Int := pif (sk k ∧ sk o) (pif (Z 9 0 k ≠ -1 ∧ Z 9 0 o ≠ -1) (pif (Z 8 0 k = Z 8 0 o) (pif (rch Z k i n ∧ rch Z o j n) n (-13)) (-12)) (-11)) (-1)
noncomputable def zCopy (Z : DM) (k i o j n : Int) : DM := vif (0 ≤ xCopy Z k i o j n) (vset (fl Z 0) 7 o (vcp (Z 7 o) (Z 7 k) i j n)) (fl Z (fOf (xCopy Z k i o j n)))
theorem cut_R (v ln : Int) (hv : InR v) : InR (cutI v ln) := by
  unfold cutI
  split
  · exact i8_R v
  · split
    · exact i16_R v
    · exact hv
theorem fOf_e {x : Int} {a : Int} (h : x = a) : fOf x = fOf a := by rw [h]
set_option maxRecDepth 100000 in
set_option maxHeartbeats 400000 in
theorem c_X8_tell {l : Launch} {S : SW} {M : Mem} {x : Int}  (hx : InR x) (hI : DayOk (M 0)) (hk : M 0 0 0 11 = -9) (hS : ShOk (M 2))  : PM l S yX8_tell cX8_tell 2 (some .int) 4 85 [rv S 2 0 0, iv x] (M) (rX (xTell (M 0) x) M (M 0) (zTell (M 0) (M 2) x)) := by
  refine PM.of (own := RX8) (by decide) rfl [some (rv S 2 0 0), some (iv x)] rfl rfl (Nat.le_of_ble_eq_true rfl) (fun X hXl C R => ?_)
  subst hXl
  obtain ⟨i1, i2, i3, i4, i5, i6, i7, i8⟩ := id hI
  refine pw_aload_n C dX8_tell_0 rfl ?_
  refine gf_8_12 C dX8_tell_1 ?_
  refine gf_8_70 0 (by decide) C dX8_tell_4 ?_
  refine pw_iload_n C dX8_tell_7 rfl ?_
  refine pw_V 0 ?_
  refine pw_cVI C [_] mi_X0_has mv_X0_has ml_8_145 (oD_8 (by decide)) rfl (c_X0_has (by decide) (by omega)) (by decide) rfl (Nat.le_of_ble_eq_true rfl) dX8_tell_8 ?_
  refine pw_U 0 ?_
  refine pw_if_ne_b (tgt := 16) C dX8_tell_11 rfl (fun c11 => ?_) (fun c11 => ?_)
  · refine pw_aload_n C dX8_tell_16 rfl ?_
    refine gf_8_12 C dX8_tell_17 ?_
    refine gf_8_70 0 (by decide) C dX8_tell_20 ?_
    refine gf_8_148 0 (by decide) C dX8_tell_23 ?_
    refine pw_iload_n C dX8_tell_26 rfl ?_
    refine pw_iald C (aD_9 (by decide)) (by omega) (by omega) (by decide) dX8_tell_27 (fun r27 => ?_)
    refine pw_lsw2 C 62 56 68 (by omega) dX8_tell_28 (by decide) rfl rfl rfl (fun c28 => ?_) (fun c28 => ?_) (fun c28 => ?_)
    · refine pw_aload_n C dX8_tell_62 rfl ?_
      refine pw_iload_n C dX8_tell_63 rfl ?_
      refine pw_V 2 ?_
      refine pw_cVI C [_] mi_X8_tellAsChoosing mv_X8_tellAsChoosing ml_8_308 oC_0 rfl (c_X8_tellAsChoosing (by omega) (by omega) (by omega)) (by decide) rfl (Nat.le_of_ble_eq_true rfl) dX8_tell_64 ?_
      exact pw_iret C R dX8_tell_67 ⟨(congrArg (fun q => some (iv q)) (by unfold xTell; (try unfold has at *); (try unfold place at *); (try unfold hasB at *); (try unfold sw4); (try unfold sw3); (repeat (first | rw [pif_t (by first | omega | assumption)] | rw [pif_f (by first | omega | assumption)])); all_goals (first | rfl | omega | ((repeat' split) <;> first | rfl | omega)))), ⟨rfl, Fr.rf _, by unfold zTell; (try unfold hasB); (repeat (first | rw [vif_t (by omega)] | rw [vif_f (by omega)])); (repeat (first | rw [if_pos (by omega)] | rw [if_neg (by omega)])); all_goals exact fun _ _ _ _ => rfl⟩⟩
    · refine pw_aload_n C dX8_tell_56 rfl ?_
      refine pw_iload_n C dX8_tell_57 rfl ?_
      refine pw_V 2 ?_
      refine pw_cVI C [_] mi_X8_tellAsWaiting mv_X8_tellAsWaiting ml_8_305 oC_0 rfl (c_X8_tellAsWaiting (by omega) (by omega) (by omega)) (by decide) rfl (Nat.le_of_ble_eq_true rfl) dX8_tell_58 ?_
      exact pw_iret C R dX8_tell_61 ⟨(congrArg (fun q => some (iv q)) (by unfold xTell; (try unfold has at *); (try unfold place at *); (try unfold hasB at *); (try unfold sw4); (try unfold sw3); (repeat (first | rw [pif_t (by first | omega | assumption)] | rw [pif_f (by first | omega | assumption)])); all_goals (first | rfl | omega | ((repeat' split) <;> first | rfl | omega)))), ⟨rfl, Fr.rf _, by unfold zTell; (try unfold hasB); (repeat (first | rw [vif_t (by omega)] | rw [vif_f (by omega)])); (repeat (first | rw [if_pos (by omega)] | rw [if_neg (by omega)])); all_goals exact fun _ _ _ _ => rfl⟩⟩
    · refine pw_aload_n C dX8_tell_68 rfl ?_
      refine pw_iload_n C dX8_tell_69 rfl ?_
      refine pw_V 2 ?_
      refine pw_cVI C [_] mi_X8_tellAsBuyer mv_X8_tellAsBuyer ml_8_311 oC_0 rfl (c_X8_tellAsBuyer (by omega) (by omega) (by omega)) (by decide) rfl (Nat.le_of_ble_eq_true rfl) dX8_tell_70 ?_
      exact pw_iret C R dX8_tell_73 ⟨(congrArg (fun q => some (iv q)) (by unfold xTell; (try unfold has at *); (try unfold place at *); (try unfold hasB at *); (try unfold sw4); (try unfold sw3); (repeat (first | rw [pif_t (by first | omega | assumption)] | rw [pif_f (by first | omega | assumption)])); all_goals (first | rfl | omega | ((repeat' split) <;> first | rfl | omega)))), ⟨rfl, Fr.rf _, by unfold zTell; (try unfold hasB); (repeat (first | rw [vif_t (by omega)] | rw [vif_f (by omega)])); (repeat (first | rw [if_pos (by omega)] | rw [if_neg (by omega)])); all_goals exact fun _ _ _ _ => rfl⟩⟩
  · refine pw_iconst C dX8_tell_14 ?_
    exact pw_iret C R dX8_tell_15 ⟨(congrArg (fun q => some (iv q)) (by unfold xTell; (try unfold has at *); (try unfold place at *); (try unfold hasB at *); (try unfold sw4); (try unfold sw3); (repeat (first | rw [pif_t (by first | omega | assumption)] | rw [pif_f (by first | omega | assumption)])); all_goals (first | rfl | omega | ((repeat' split) <;> first | rfl | omega)))), ⟨rfl, Fr.rf _, by unfold zTell; (try unfold hasB); (repeat (first | rw [vif_t (by omega)] | rw [vif_f (by omega)])); (repeat (first | rw [if_pos (by omega)] | rw [if_neg (by omega)])); all_goals exact fun _ _ _ _ => rfl⟩⟩
set_option maxRecDepth 100000 in
set_option maxHeartbeats 400000 in
theorem c_X8_greet {l : Launch} {S : SW} {M : Mem} {x : Int}  (hx : InR x) (hI : DayOk (M 0)) (hk : M 0 0 0 11 = -9) (hS : ShOk (M 2))  : PM l S yX8_greet cX8_greet 2 (some .int) 1 21 [rv S 2 0 0, iv x] (M) (rX (xGreet (M 0) x) M (M 0) (zGreet (M 0) (M 2) x)) := by
  refine PM.of (own := RX8) (by decide) rfl [some (rv S 2 0 0), some (iv x)] rfl rfl (Nat.le_of_ble_eq_true rfl) (fun X hXl C R => ?_)
  subst hXl
  obtain ⟨i1, i2, i3, i4, i5, i6, i7, i8⟩ := id hI
  refine pw_aload_n C dX8_greet_0 rfl ?_
  refine gf_8_12 C dX8_greet_1 ?_
  refine gf_8_70 0 (by decide) C dX8_greet_4 ?_
  refine pw_iload_n C dX8_greet_7 rfl ?_
  refine pw_V 0 ?_
  refine pw_cVI C [_] mi_X0_has mv_X0_has ml_8_145 (oD_8 (by decide)) rfl (c_X0_has (by decide) (by omega)) (by decide) rfl (Nat.le_of_ble_eq_true rfl) dX8_greet_8 ?_
  refine pw_U 0 ?_
  refine pw_if_ne_b (tgt := 16) C dX8_greet_11 rfl (fun c11 => ?_) (fun c11 => ?_)
  · refine pw_aload_n C dX8_greet_16 rfl ?_
    refine gf_8_12 C dX8_greet_17 ?_
    refine gf_8_70 0 (by decide) C dX8_greet_20 ?_
    refine gf_8_148 0 (by decide) C dX8_greet_23 ?_
    refine pw_iload_n C dX8_greet_26 rfl ?_
    refine pw_iald C (aD_9 (by decide)) (by omega) (by omega) (by decide) dX8_greet_27 (fun r27 => ?_)
    refine pw_iconst C dX8_greet_28 ?_
    refine pw_icmp_ne (tgt := 40) C dX8_greet_29 rfl (by omega) (by omega) (fun c29 => ?_) (fun c29 => ?_)
    · refine pw_aload_n C dX8_greet_40 rfl ?_
      refine pw_iconst C dX8_greet_41 ?_
      refine pw_V 2 ?_
      refine pw_cVV C [_] mi_X8_leaveTrace mv_X8_leaveTrace ml_8_314 oC_0 rfl (c_X8_leaveTrace (by omega)) (by decide) rfl (Nat.le_of_ble_eq_true rfl) dX8_greet_42 ?_
      refine pw_iload_n C dX8_greet_45 rfl ?_
      exact pw_iret C R dX8_greet_46 ⟨(congrArg (fun q => some (iv q)) (by unfold xGreet; (try unfold has at *); (try unfold place at *); (try unfold hasB at *); (try unfold sw4); (try unfold sw3); (repeat (first | rw [pif_t (by first | omega | assumption)] | rw [pif_f (by first | omega | assumption)])); all_goals (first | rfl | omega | ((repeat' split) <;> first | rfl | omega)))), ⟨rfl, Fr.rf _, by unfold zGreet; (try unfold hasB); (repeat (first | rw [vif_t (by omega)] | rw [vif_f (by omega)])); (repeat (first | rw [if_pos (by omega)] | rw [if_neg (by omega)])); all_goals exact fun _ _ _ _ => rfl⟩⟩
    · refine pw_aload_n C dX8_greet_32 rfl ?_
      refine pw_iconst C dX8_greet_33 ?_
      refine pw_V 2 ?_
      refine pw_cVV C [_] mi_X8_leaveTrace mv_X8_leaveTrace ml_8_314 oC_0 rfl (c_X8_leaveTrace (by omega)) (by decide) rfl (Nat.le_of_ble_eq_true rfl) dX8_greet_34 ?_
      refine pw_bipush C dX8_greet_37 (by decide) ?_
      exact pw_iret C R dX8_greet_39 ⟨(congrArg (fun q => some (iv q)) (by unfold xGreet; (try unfold has at *); (try unfold place at *); (try unfold hasB at *); (try unfold sw4); (try unfold sw3); (repeat (first | rw [pif_t (by first | omega | assumption)] | rw [pif_f (by first | omega | assumption)])); all_goals (first | rfl | omega | ((repeat' split) <;> first | rfl | omega)))), ⟨rfl, Fr.rf _, by unfold zGreet; (try unfold hasB); (repeat (first | rw [vif_t (by omega)] | rw [vif_f (by omega)])); (repeat (first | rw [if_pos (by omega)] | rw [if_neg (by omega)])); all_goals exact fun _ _ _ _ => rfl⟩⟩
  · refine pw_iconst C dX8_greet_14 ?_
    exact pw_iret C R dX8_greet_15 ⟨(congrArg (fun q => some (iv q)) (by unfold xGreet; (try unfold has at *); (try unfold place at *); (try unfold hasB at *); (try unfold sw4); (try unfold sw3); (repeat (first | rw [pif_t (by first | omega | assumption)] | rw [pif_f (by first | omega | assumption)])); all_goals (first | rfl | omega | ((repeat' split) <;> first | rfl | omega)))), ⟨rfl, Fr.rf _, by unfold zGreet; (try unfold hasB); (repeat (first | rw [vif_t (by omega)] | rw [vif_f (by omega)])); (repeat (first | rw [if_pos (by omega)] | rw [if_neg (by omega)])); all_goals exact fun _ _ _ _ => rfl⟩⟩
set_option maxRecDepth 100000 in
set_option maxHeartbeats 400000 in
theorem c_X8_as {l : Launch} {S : SW} {M : Mem} {x kd : Int}  (hx : InR x) (hkd : InR kd) (hI : DayOk (M 0)) (hk : M 0 0 0 11 = -9) (hS : ShOk (M 2))  : PM l S yX8_as cX8_as 3 (some .int) 1 22 [rv S 2 0 0, iv x, iv kd] (M) (rX (xAs (M 0) x kd) M (M 0) (fl (M 2) (fOf (xAs (M 0) x kd)))) := by
  refine PM.of (own := RX8) (by decide) rfl [some (rv S 2 0 0), some (iv x), some (iv kd)] rfl rfl (Nat.le_of_ble_eq_true rfl) (fun X hXl C R => ?_)
  subst hXl
  obtain ⟨i1, i2, i3, i4, i5, i6, i7, i8⟩ := id hI
  refine pw_aload_n C dX8_as_0 rfl ?_
  refine pw_iconst C dX8_as_1 ?_
  refine pf_8_115 C (by omega) dX8_as_2 ?_
  refine pw_aload_n C dX8_as_5 rfl ?_
  refine gf_8_12 C dX8_as_6 ?_
  refine gf_8_70 0 (by decide) C dX8_as_9 ?_
  refine pw_iload_n C dX8_as_12 rfl ?_
  refine pw_Vo 0 (by decide) ?_
  refine pw_cVI C [_] mi_X0_has mv_X0_has ml_8_145 (oD_8 (by decide)) rfl (c_X0_has (by decide) (by omega)) (by decide) rfl (Nat.le_of_ble_eq_true rfl) dX8_as_13 ?_
  refine pw_Uo 0 (by decide) ?_
  refine pw_if_ne_b (tgt := 21) C dX8_as_16 rfl (fun c16 => ?_) (fun c16 => ?_)
  · refine pw_iload_n C dX8_as_21 rfl ?_
    refine pw_iconst C dX8_as_22 ?_
    refine pw_iconst C dX8_as_23 ?_
    refine pw_cSI C [_, _, _] mi_X8_isWithin ms_X8_isWithin ml_8_108 (c_X8_isWithin (by omega) (by omega) (by omega)) (by decide) rfl (Nat.le_of_ble_eq_true rfl) dX8_as_24 ?_
    refine pw_if_ne_b (tgt := 33) C dX8_as_27 rfl (fun c27 => ?_) (fun c27 => ?_)
    · refine pw_aload_n C dX8_as_33 rfl ?_
      refine gf_8_12 C dX8_as_34 ?_
      refine gf_8_70 0 (by decide) C dX8_as_37 ?_
      refine gf_8_148 0 (by decide) C dX8_as_40 ?_
      refine pw_iload_n C dX8_as_43 rfl ?_
      refine pw_ialdO C (by decide) (aD_9 (by decide)) (by omega) (by omega) (by decide) dX8_as_44 (fun r44 => ?_)
      refine pw_iload_n C dX8_as_45 rfl ?_
      refine pw_icmp_lt (tgt := 53) C dX8_as_46 rfl (by omega) (by omega) (fun c46 => ?_) (fun c46 => ?_)
      · refine pw_aload_n C dX8_as_53 rfl ?_
        refine pw_iconst C dX8_as_54 ?_
        refine pw_cVI C [_] mi_X8_faultOf mv_X8_faultOf ml_8_282 oC_0 rfl (c_X8_faultOf (by omega)) (by decide) rfl (Nat.le_of_ble_eq_true rfl) dX8_as_55 ?_
        first
          | (have e : 1 = xAs (M 0) x kd := by unfold xAs; (try unfold has at *); (try unfold place at *); (try unfold hasB at *); (try unfold sk at *); (try unfold rch at *); (repeat (first | rw [pif_t (by first | omega | assumption)] | rw [pif_f (by first | omega | assumption)])); all_goals (first | rfl | omega | ((repeat' split) <;> first | rfl | omega))
             exact pw_iret C R dX8_as_58 ⟨congrArg (fun q => some (iv q)) e, rfl, Fr.rf _, by rw [← e]; exact fun _ _ _ _ => rfl⟩)
          | (have e : -10 - 2 = xAs (M 0) x kd := by unfold xAs; (try unfold has at *); (try unfold place at *); (try unfold hasB at *); (try unfold sk at *); (try unfold rch at *); (repeat (first | rw [pif_t (by first | omega | assumption)] | rw [pif_f (by first | omega | assumption)])); all_goals (first | rfl | omega | ((repeat' split) <;> first | rfl | omega))
             exact pw_iret C R dX8_as_58 ⟨congrArg (fun q => some (iv q)) e, rfl, Fr.rf _, by rw [← e]; exact fun k r i _ => congrFun (congrFun (congrFun (fl_fl (M 2) 0 2) k) r) i⟩)
      · refine pw_iconst C dX8_as_49 ?_
        refine pw_goto (tgt := 58) C dX8_as_50 rfl ?_
        first
          | (have e : 1 = xAs (M 0) x kd := by unfold xAs; (try unfold has at *); (try unfold place at *); (try unfold hasB at *); (try unfold sk at *); (try unfold rch at *); (repeat (first | rw [pif_t (by first | omega | assumption)] | rw [pif_f (by first | omega | assumption)])); all_goals (first | rfl | omega | ((repeat' split) <;> first | rfl | omega))
             exact pw_iret C R dX8_as_58 ⟨congrArg (fun q => some (iv q)) e, rfl, Fr.rf _, by rw [← e]; exact fun _ _ _ _ => rfl⟩)
          | (have e : -10 - 2 = xAs (M 0) x kd := by unfold xAs; (try unfold has at *); (try unfold place at *); (try unfold hasB at *); (try unfold sk at *); (try unfold rch at *); (repeat (first | rw [pif_t (by first | omega | assumption)] | rw [pif_f (by first | omega | assumption)])); all_goals (first | rfl | omega | ((repeat' split) <;> first | rfl | omega))
             exact pw_iret C R dX8_as_58 ⟨congrArg (fun q => some (iv q)) e, rfl, Fr.rf _, by rw [← e]; exact fun k r i _ => congrFun (congrFun (congrFun (fl_fl (M 2) 0 2) k) r) i⟩)
    · refine pw_bipush C dX8_as_30 (by decide) ?_
      first
        | (have e : -2 = xAs (M 0) x kd := by unfold xAs; (try unfold has at *); (try unfold place at *); (try unfold hasB at *); (try unfold sk at *); (try unfold rch at *); (repeat (first | rw [pif_t (by first | omega | assumption)] | rw [pif_f (by first | omega | assumption)])); all_goals (first | rfl | omega | ((repeat' split) <;> first | rfl | omega))
           exact pw_iret C R dX8_as_32 ⟨congrArg (fun q => some (iv q)) e, rfl, Fr.rf _, by rw [← e]; exact fun _ _ _ _ => rfl⟩)
  · refine pw_iconst C dX8_as_19 ?_
    first
      | (have e : -1 = xAs (M 0) x kd := by unfold xAs; (try unfold has at *); (try unfold place at *); (try unfold hasB at *); (try unfold sk at *); (try unfold rch at *); (repeat (first | rw [pif_t (by first | omega | assumption)] | rw [pif_f (by first | omega | assumption)])); all_goals (first | rfl | omega | ((repeat' split) <;> first | rfl | omega))
         exact pw_iret C R dX8_as_20 ⟨congrArg (fun q => some (iv q)) e, rfl, Fr.rf _, by rw [← e]; exact fun _ _ _ _ => rfl⟩)
set_option maxRecDepth 100000 in
set_option maxHeartbeats 400000 in
theorem c_X8_right {l : Launch} {S : SW} {M : Mem} {a t w : Int}  (ha : InR a) (ht : InR t) (hw : InR w) (hI : DayOk (M 0)) (hk : M 0 0 0 11 = -9) (hS : ShOk (M 2))  : PM l S yX8_right cX8_right 5 (some .long) 2 54 [rv S 2 0 0, iv a, iv t, iv w] (M) (rY (xRight (M 0) a t w) M (M 0) (M 2)) := by
  refine PM.of (own := RX8) (by decide) rfl [some (rv S 2 0 0), some (iv a), some (iv t), some (iv w), none] rfl rfl (Nat.le_of_ble_eq_true rfl) (fun X hXl C R => ?_)
  subst hXl
  obtain ⟨i1, i2, i3, i4, i5, i6, i7, i8⟩ := id hI
  refine pw_aload_n C dX8_right_0 rfl ?_
  refine gf_8_12 C dX8_right_1 ?_
  refine gf_8_60 0 (by decide) C dX8_right_4 ?_
  refine gf_8_118 0 (by decide) C dX8_right_7 (fun r7 => ?_)
  refine pw_istore_4 C dX8_right_10 (k := ?_)
  refine pw_iload_n C dX8_right_12 rfl ?_
  refine pw_iconst C dX8_right_13 ?_
  refine pw_bipush C dX8_right_14 (by decide) ?_
  refine pw_cSI C [_, _, _] mi_X8_isWithin ms_X8_isWithin ml_8_108 (c_X8_isWithin (by omega) (by omega) (by omega)) (by decide) rfl (Nat.le_of_ble_eq_true rfl) dX8_right_16 ?_
  refine pw_if_eq_b (tgt := 41) C dX8_right_19 rfl (fun c19 => ?_) (fun c19 => ?_)
  · refine pw_ldc2 C (n := -9223372036854775808) (inT3 75 rfl rfl) (by decide) dX8_right_41 ?_
    exact pw_lret C R dX8_right_44 ⟨congrArg (fun q => some (jv q)) (by unfold xRight; rw [pif_f (by omega)]; rfl), KP.rf M⟩
  · refine pw_iload_n C dX8_right_22 rfl ?_
    refine pw_iconst C dX8_right_23 ?_
    refine pw_iload C dX8_right_24 rfl ?_
    refine pw_cSI C [_, _, _] mi_X8_isWithin ms_X8_isWithin ml_8_108 (c_X8_isWithin (by omega) (by omega) (by omega)) (by decide) rfl (Nat.le_of_ble_eq_true rfl) dX8_right_26 ?_
    refine pw_if_eq_b (tgt := 41) C dX8_right_29 rfl (fun c29 => ?_) (fun c29 => ?_)
    · refine pw_ldc2 C (n := -9223372036854775808) (inT3 75 rfl rfl) (by decide) dX8_right_41 ?_
      exact pw_lret C R dX8_right_44 ⟨congrArg (fun q => some (jv q)) (by unfold xRight; rw [pif_f (by omega)]; rfl), KP.rf M⟩
    · refine pw_iload_n C dX8_right_32 rfl ?_
      refine pw_iconst C dX8_right_33 ?_
      refine pw_iconst C dX8_right_34 ?_
      refine pw_cSI C [_, _, _] mi_X8_isWithin ms_X8_isWithin ml_8_108 (c_X8_isWithin (by omega) (by omega) (by omega)) (by decide) rfl (Nat.le_of_ble_eq_true rfl) dX8_right_35 ?_
      refine pw_if_ne_b (tgt := 45) C dX8_right_38 rfl (fun c38 => ?_) (fun c38 => ?_)
      · refine pw_iload_n C dX8_right_45 rfl ?_
        refine pw_i2l C (by omega) dX8_right_46 ?_
        refine pw_iload C dX8_right_47 rfl ?_
        refine pw_i2l C (by omega) dX8_right_49 ?_
        refine pw_lmul C dX8_right_50 ?_
        refine pw_iload_n C dX8_right_51 rfl ?_
        refine pw_i2l C (by omega) dX8_right_52 ?_
        refine pw_iload_n C dX8_right_53 rfl ?_
        have hm := mul_r (show 0 ≤ a by omega) (show a ≤ 99 by omega) i2.1 i2.2
        refine pw_cSJ C [_, _, _] mi_X8_partOfShare ms_X8_partOfShare ml_8_248 (c_X8_partOfShare (by omega) (by omega) (by omega) (by omega) (by omega) (by omega)) (by decide) rfl (Nat.le_of_ble_eq_true rfl) dX8_right_54 ?_
        exact pw_lret C R dX8_right_57 ⟨congrArg (fun q => some (jv q)) (by unfold xRight; rw [pif_t (by omega)]), KP.rf M⟩
      · refine pw_ldc2 C (n := -9223372036854775808) (inT3 75 rfl rfl) (by decide) dX8_right_41 ?_
        exact pw_lret C R dX8_right_44 ⟨congrArg (fun q => some (jv q)) (by unfold xRight; rw [pif_f (by omega)]; rfl), KP.rf M⟩
set_option maxRecDepth 100000 in
set_option maxHeartbeats 400000 in
theorem c_X8_sheet {l : Launch} {S : SW} {M : Mem} {k ln n : Int}  (hk : InR k) (hln : InR ln) (hn : InR n) (hI : DayOk (M 0)) (hk : M 0 0 0 11 = -9) (hS : ShOk (M 2))  : PM l S yX8_sheet cX8_sheet 4 (some .int) 1 24 [rv S 2 0 0, iv k, iv ln, iv n] (M) (rX (xSheet (M 2) k ln n) M (M 0) (zSheet (M 2) k ln n)) := by
  refine PM.of (own := RX8) (by decide) rfl [some (rv S 2 0 0), some (iv k), some (iv ln), some (iv n)] rfl rfl (Nat.le_of_ble_eq_true rfl) (fun X hXl C R => ?_)
  subst hXl
  obtain ⟨i1, i2, i3, i4, i5, i6, i7, i8⟩ := id hI
  refine pw_aload_n C dX8_sheet_0 rfl ?_
  refine pw_iconst C dX8_sheet_1 ?_
  refine pf_8_115 C (by omega) dX8_sheet_2 ?_
  refine pw_aload_n C dX8_sheet_5 rfl ?_
  refine gf_8_28 C dX8_sheet_6 ?_
  refine pw_iload_n C dX8_sheet_9 rfl ?_
  refine pw_cVI C [_] mi_X5_isThere mv_X5_isThere ml_8_276 oC_5 rfl (c_X5_isThere (by omega)) (by decide) rfl (Nat.le_of_ble_eq_true rfl) dX8_sheet_10 ?_
  refine pw_if_ne_b (tgt := 18) C dX8_sheet_13 rfl (fun c13 => ?_) (fun c13 => ?_)
  · refine pw_aload_n C dX8_sheet_18 rfl ?_
    refine gf_8_28 C dX8_sheet_19 ?_
    refine pw_iload_n C dX8_sheet_22 rfl ?_
    refine pw_cVI C [_] mi_X5_isLane mv_X5_isLane ml_8_279 oC_5 rfl (c_X5_isLane (by omega)) (by decide) rfl (Nat.le_of_ble_eq_true rfl) dX8_sheet_23 ?_
    refine pw_if_eq_b (tgt := 35) C dX8_sheet_26 rfl (fun c26 => ?_) (fun c26 => ?_)
    · refine pw_bipush C dX8_sheet_35 (by decide) ?_
      first
        | (have e : -2 = xSheet (M 2) k ln n := by unfold xSheet; (try unfold sk at *); (try unfold rch at *); (repeat (first | rw [pif_t (by first | omega | assumption)] | rw [pif_f (by first | omega | assumption)])); all_goals (first | rfl | omega | ((repeat' split) <;> first | rfl | omega))
           exact pw_iret C R dX8_sheet_37 ⟨congrArg (fun q => some (iv q)) e, rfl, Fr.rf _, by unfold zSheet; rw [vif_f (by first | omega | (unfold sk; omega)), ← e]; exact fun _ _ _ _ => rfl⟩)
    · refine pw_iload_n C dX8_sheet_29 rfl ?_
      refine pw_bipush C dX8_sheet_30 (by decide) ?_
      refine pw_icmp_le (tgt := 38) C dX8_sheet_32 rfl (by omega) (by omega) (fun c32 => ?_) (fun c32 => ?_)
      · refine pw_iload_n C dX8_sheet_38 rfl ?_
        refine pw_if_ge (tgt := 48) C dX8_sheet_39 rfl (by omega) (fun c39 => ?_) (fun c39 => ?_)
        · refine pw_aload_n C dX8_sheet_48 rfl ?_
          refine gf_8_28 C dX8_sheet_49 ?_
          refine pw_iload_n C dX8_sheet_52 rfl ?_
          refine pw_iload_n C dX8_sheet_53 rfl ?_
          refine pw_iload_n C dX8_sheet_54 rfl ?_
          refine pw_cVQV C [_, _, _] mi_X5_give mv_X5_give ml_8_286 oC_5 rfl (c_X5_give (by omega) (by omega) (by omega) (by omega) (by omega) (by omega) (by omega)) (by decide) rfl (Nat.le_of_ble_eq_true rfl) dX8_sheet_55 ?_
          rintro N9 ⟨W, rfl, hW⟩
          refine pw_iconst C dX8_sheet_58 ?_
          first
            | (have e : 1 = xSheet (M 2) k ln n := by unfold xSheet; (try unfold sk at *); (try unfold rch at *); (repeat (first | rw [pif_t (by first | omega | assumption)] | rw [pif_f (by first | omega | assumption)])); all_goals (first | rfl | omega | ((repeat' split) <;> first | rfl | omega))
               exact pw_iret C R dX8_sheet_59 ⟨congrArg (fun q => some (iv q)) e, rfl, Fr.rf _, by unfold zSheet; rw [vif_t (by unfold sk; omega)]; exact giveI_z hW⟩)
        · refine pw_aload_n C dX8_sheet_42 rfl ?_
          refine pw_iconst C dX8_sheet_43 ?_
          refine pw_cVI C [_] mi_X8_faultOf mv_X8_faultOf ml_8_282 oC_0 rfl (c_X8_faultOf (by omega)) (by decide) rfl (Nat.le_of_ble_eq_true rfl) dX8_sheet_44 ?_
          first
            | (have e : -10 - 4 = xSheet (M 2) k ln n := by unfold xSheet; (try unfold sk at *); (try unfold rch at *); (repeat (first | rw [pif_t (by first | omega | assumption)] | rw [pif_f (by first | omega | assumption)])); all_goals (first | rfl | omega | ((repeat' split) <;> first | rfl | omega))
               exact pw_iret C R dX8_sheet_47 ⟨congrArg (fun q => some (iv q)) e, rfl, Fr.rf _, by unfold zSheet; rw [vif_f (by first | omega | (unfold sk; omega)), ← e]; exact fun k r i _ => congrFun (congrFun (congrFun (fl_fl (M 2) 0 4) k) r) i⟩)
      · refine pw_bipush C dX8_sheet_35 (by decide) ?_
        first
          | (have e : -2 = xSheet (M 2) k ln n := by unfold xSheet; (try unfold sk at *); (try unfold rch at *); (repeat (first | rw [pif_t (by first | omega | assumption)] | rw [pif_f (by first | omega | assumption)])); all_goals (first | rfl | omega | ((repeat' split) <;> first | rfl | omega))
             exact pw_iret C R dX8_sheet_37 ⟨congrArg (fun q => some (iv q)) e, rfl, Fr.rf _, by unfold zSheet; rw [vif_f (by first | omega | (unfold sk; omega)), ← e]; exact fun _ _ _ _ => rfl⟩)
  · refine pw_iconst C dX8_sheet_16 ?_
    first
      | (have e : -1 = xSheet (M 2) k ln n := by unfold xSheet; (try unfold sk at *); (try unfold rch at *); (repeat (first | rw [pif_t (by first | omega | assumption)] | rw [pif_f (by first | omega | assumption)])); all_goals (first | rfl | omega | ((repeat' split) <;> first | rfl | omega))
         exact pw_iret C R dX8_sheet_17 ⟨congrArg (fun q => some (iv q)) e, rfl, Fr.rf _, by unfold zSheet; rw [vif_f (by first | omega | (unfold sk; omega)), ← e]; exact fun _ _ _ _ => rfl⟩)
