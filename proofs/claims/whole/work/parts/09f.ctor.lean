def pos8 : List (Nat × Nat × Int) := (2, 0, 0) :: (dayPos 0 ++ (searchPos ++ (sheetsPos ++ ([(2, 10, 0), (2, 11, 0)] ++ [(2, 12, 0), (2, 13, 0), (2, 14, 0)]))))
def pos9 : List (Nat × Nat × Int) := [(3, 0, 0), (3, 4, 0), (3, 5, 0), (3, 6, 0), (3, 7, 0), (3, 8, 0), (3, 15, 0), (3, 17, 0), (3, 18, 0), (3, 19, 0), (3, 20, 0), (3, 21, 0), (3, 23, 0), (3, 24, 0), (3, 25, 0), (3, 26, 0), (3, 27, 0), (3, 28, 0), (3, 29, 0), (3, 30, 0), (3, 31, 0), (3, 32, 0), (3, 35, 0), (3, 36, 0), (3, 37, 0), (3, 38, 0)]
set_option maxRecDepth 100000 in
set_option maxHeartbeats 2000000 in
theorem c_X8_init {l : Launch} {D : va_G} {T : CI3}  : PI l D T yX8_init cX8_init 1 4 72 63 649 7 [.null, .null, .null, .null, .null, .int 0, .int 0] (Wd D T pos8 2 0) := by
  refine PI.of (own := RX8) (by decide) rfl rfl [] rfl rfl (fun X h0 hXl C E => ?_)
  subst hXl
  refine iw_aload0 C dX8_init_0 ?_
  refine iw_obj C mo_8 hObjI hObjC (by decide) (by decide) dX8_init_1 ?_
  refine iw_aload0 C dX8_init_4 ?_
  refine iw_new C (N := 13) (ci := 1) (fs := [.null, .null, .null, .null, .null, .null, .null, .null, .null, .int 0, .int 0, .int 0, .int 0]) iX1 tyX1 tyX1_ok cl_8_9 in_X1 mi_X1_init.2.1 rfl (fun j hj => by rcases (show j = 0 ∨ j = 1 ∨ j = 2 ∨ j = 3 ∨ j = 4 ∨ j = 5 ∨ j = 6 ∨ j = 7 ∨ j = 8 ∨ j = 9 ∨ j = 10 ∨ j = 11 ∨ j = 12 by omega) with rfl | rfl | rfl | rfl | rfl | rfl | rfl | rfl | rfl | rfl | rfl | rfl | rfl <;> rfl) (by decide) (by decide) dX8_init_5 (fun q5 => ?_)
  refine iw_dup C dX8_init_8 rfl ?_
  refine iw_initN C mi_X1_init rfl mv_X1_init mn_8_11 (c_X1_init 0 (by decide)) (by decide) (Nat.le_of_ble_eq_true rfl) (by decide) (by decide) dX8_init_9 ?_
  rintro w9 ⟨a9, rfl, rfl⟩
  refine iw_putF C E (j := 0) (v := .ref (a9 0 0 0)) (ty := tyX8 0) 0 rfl iX8 tyX8_ok nmX8 rfl (by decide) (inT2 14 rfl rfl) rfl rfl rfl (tyX8_ok 0 (by decide)) rfl rfl (Nat.le_of_ble_eq_true rfl) dX8_init_12 ?_
  refine iw_eq (ws2 := ([(h0, .inr (7, [.ref (a9 0 0 0), .null, .null, .null, .null, .int 0, .int 0]))] ++ wsL (D, a9, T) Z0 (dayPos 0))) rfl ?_
  refine iw_aload0 C dX8_init_15 ?_
  refine iw_new C (N := 7) (ci := 4) (fs := [.null, .null, .null, .null, .int 0, .int 0, .int 0]) iX4 tyX4 tyX4_ok cl_8_18 in_X4 mi_X4_init.2.1 rfl (fun j hj => by rcases (show j = 0 ∨ j = 1 ∨ j = 2 ∨ j = 3 ∨ j = 4 ∨ j = 5 ∨ j = 6 by omega) with rfl | rfl | rfl | rfl | rfl | rfl | rfl <;> rfl) (by decide) (by decide) dX8_init_16 (fun q16 => ?_)
  refine iw_dup C dX8_init_19 rfl ?_
  refine iw_initN C mi_X4_init rfl mv_X4_init mn_8_20 c_X4_init (by decide) (Nat.le_of_ble_eq_true rfl) (by decide) (by decide) dX8_init_20 ?_
  rintro w20 ⟨a20, rfl, rfl⟩
  refine iw_putF C E (j := 1) (v := .ref (a20 2 1 0)) (ty := tyX8 1) 0 rfl iX8 tyX8_ok nmX8 rfl (by decide) (inT2 15 rfl rfl) rfl rfl rfl (tyX8_ok 1 (by decide)) rfl rfl (Nat.le_of_ble_eq_true rfl) dX8_init_23 ?_
  refine iw_eq (ws2 := (([(h0, .inr (7, [.ref (a9 0 0 0), .ref (a20 2 1 0), .null, .null, .null, .int 0, .int 0]))] ++ wsL (D, a9, T) Z0 (dayPos 0)) ++ wsL (D, a20, T) Z0 searchPos)) rfl ?_
  refine iw_aload0 C dX8_init_26 ?_
  refine iw_new C (N := 3) (ci := 5) (fs := [.null, .null, .null]) iX5 tyX5 tyX5_ok cl_8_25 in_X5 mi_X5_init.2.1 rfl (fun j hj => by rcases (show j = 0 ∨ j = 1 ∨ j = 2 by omega) with rfl | rfl | rfl <;> rfl) (by decide) (by decide) dX8_init_27 (fun q27 => ?_)
  refine iw_dup C dX8_init_30 rfl ?_
  refine iw_initN C mi_X5_init rfl mv_X5_init mn_8_27 c_X5_init (by decide) (Nat.le_of_ble_eq_true rfl) (by decide) (by decide) dX8_init_31 ?_
  rintro w31 ⟨a31, rfl, rfl⟩
  refine iw_putF C E (j := 2) (v := .ref (a31 2 5 0)) (ty := tyX8 2) 0 rfl iX8 tyX8_ok nmX8 rfl (by decide) (inT2 16 rfl rfl) rfl rfl rfl (tyX8_ok 2 (by decide)) rfl rfl (Nat.le_of_ble_eq_true rfl) dX8_init_34 ?_
  refine iw_eq (ws2 := ((([(h0, .inr (7, [.ref (a9 0 0 0), .ref (a20 2 1 0), .ref (a31 2 5 0), .null, .null, .int 0, .int 0]))] ++ wsL (D, a9, T) Z0 (dayPos 0)) ++ wsL (D, a20, T) Z0 searchPos) ++ wsL (D, a31, T) Z0 sheetsPos)) rfl ?_
  refine iw_aload0 C dX8_init_37 ?_
  refine iw_new C (N := 3) (ci := 3) (fs := [.null, .int 0, .int 0]) iX3 tyX3 tyX3_ok cl_8_32 in_X3 mi_X3_init.2.1 rfl (fun j hj => by rcases (show j = 0 ∨ j = 1 ∨ j = 2 by omega) with rfl | rfl | rfl <;> rfl) (by decide) (by decide) dX8_init_38 (fun q38 => ?_)
  refine iw_dup C dX8_init_41 rfl ?_
  refine iw_initN C mi_X3_init rfl mv_X3_init mn_8_34 c_X3_init (by decide) (Nat.le_of_ble_eq_true rfl) (by decide) (by decide) dX8_init_42 ?_
  rintro w42 ⟨a42, rfl, rfl⟩
  refine iw_putF C E (j := 3) (v := .ref (a42 2 10 0)) (ty := tyX8 3) 0 rfl iX8 tyX8_ok nmX8 rfl (by decide) (inT2 17 rfl rfl) rfl rfl rfl (tyX8_ok 3 (by decide)) rfl rfl (Nat.le_of_ble_eq_true rfl) dX8_init_45 ?_
  refine iw_eq (ws2 := (((([(h0, .inr (7, [.ref (a9 0 0 0), .ref (a20 2 1 0), .ref (a31 2 5 0), .ref (a42 2 10 0), .null, .int 0, .int 0]))] ++ wsL (D, a9, T) Z0 (dayPos 0)) ++ wsL (D, a20, T) Z0 searchPos) ++ wsL (D, a31, T) Z0 sheetsPos) ++ wsL (D, a42, T) Z0 [(2, 10, 0), (2, 11, 0)])) rfl ?_
  refine iw_aload0 C dX8_init_48 ?_
  refine iw_new C (N := 2) (ci := 2) (fs := [.null, .null]) iX2 tyX2 tyX2_ok cl_8_39 in_X2 mi_X2_init.2.1 rfl (fun j hj => by rcases (show j = 0 ∨ j = 1 by omega) with rfl | rfl <;> rfl) (by decide) (by decide) dX8_init_49 (fun q49 => ?_)
  refine iw_dup C dX8_init_52 rfl ?_
  refine iw_initN C mi_X2_init rfl mv_X2_init mn_8_41 c_X2_init (by decide) (Nat.le_of_ble_eq_true rfl) (by decide) (by decide) dX8_init_53 ?_
  rintro w53 ⟨a53, rfl, rfl⟩
  refine iw_putF C E (j := 4) (v := .ref (a53 2 12 0)) (ty := tyX8 4) 0 rfl iX8 tyX8_ok nmX8 rfl (by decide) (inT2 18 rfl rfl) rfl rfl rfl (tyX8_ok 4 (by decide)) rfl rfl (Nat.le_of_ble_eq_true rfl) dX8_init_56 ?_
  refine iw_eq (ws2 := ((((([(h0, .inr (7, [.ref (a9 0 0 0), .ref (a20 2 1 0), .ref (a31 2 5 0), .ref (a42 2 10 0), .ref (a53 2 12 0), .int 0, .int 0]))] ++ wsL (D, a9, T) Z0 (dayPos 0)) ++ wsL (D, a20, T) Z0 searchPos) ++ wsL (D, a31, T) Z0 sheetsPos) ++ wsL (D, a42, T) Z0 [(2, 10, 0), (2, 11, 0)]) ++ wsL (D, a53, T) Z0 [(2, 12, 0), (2, 13, 0), (2, 14, 0)])) rfl ?_
  exact iw_ret C E (by decide) (by decide) dX8_init_59 ⟨fun d k r => match d with | 0 => a9 0 k r | 1 => a20 1 k r | _ => match k with | 0 => h0 | 1 => a20 2 1 r | 2 => a20 2 2 r | 3 => a20 2 3 r | 4 => a20 2 4 r | 5 => a31 2 5 r | 6 => a31 2 6 r | 7 => a31 2 7 r | 8 => a31 2 8 r | 9 => a31 2 9 r | 10 => a42 2 10 r | 11 => a42 2 11 r | 12 => a53 2 12 r | 13 => a53 2 13 r | 14 => a53 2 14 r | _ => 0, rfl, rfl⟩
