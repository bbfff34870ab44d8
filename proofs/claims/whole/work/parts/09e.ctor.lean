def searchPos : List (Nat × Nat × Int) := (2, 1, 0) :: (dayPos 1 ++ [(2, 2, 0), (2, 3, 0), (2, 4, 0)])
def sheetsPos : List (Nat × Nat × Int) := [(2, 5, 0), (2, 6, 0), (2, 7, 0), (2, 7, 1), (2, 7, 2), (2, 7, 3), (2, 8, 0), (2, 9, 0)]
theorem upd4z : (fun i : Nat => Int32.ofInt (if 0 ≤ (i : Int) ∧ (i : Int) < 4 then -1 else 0)) = fun i : Nat => Int32.ofInt (Z0 2 9 0 i) := by
  funext i
  show _ = Int32.ofInt (if 9 = 9 ∧ 0 ≤ (i : Int) ∧ (i : Int) < 4 then -1 else 0)
  by_cases h : 0 ≤ (i : Int) ∧ (i : Int) < 4
  · rw [if_pos h, if_pos ⟨rfl, h⟩]
  · rw [if_neg h, if_neg (fun q => h q.2)]
theorem upd4w : (fun i : Nat => Int32.ofInt (if 0 ≤ (i : Int) ∧ (i : Int) < 4 then -1 else 0)) = fun i : Nat => Int32.ofInt (Z0 3 35 0 i) := by
  funext i
  show _ = Int32.ofInt (if 35 = 35 ∧ 0 ≤ (i : Int) ∧ (i : Int) < 4 then -1 else 0)
  by_cases h : 0 ≤ (i : Int) ∧ (i : Int) < 4
  · rw [if_pos h, if_pos ⟨rfl, h⟩]
  · rw [if_neg h, if_neg (fun q => h q.2)]
set_option maxRecDepth 100000 in
set_option maxHeartbeats 2000000 in
theorem c_X3_init {l : Launch} {D : va_G} {T : CI3}  : PI l D T yX3_init cX3_init 1 1 12 1 20 3 [.null, .int 0, .int 0] (Wd D T [(2, 10, 0), (2, 11, 0)] 2 10) := by
  refine PI.of (own := RX3) (by decide) rfl rfl [] rfl rfl (fun X h0 hXl C E => ?_)
  subst hXl
  refine iw_aload0 C dX3_init_0 ?_
  refine iw_obj C mo_3 hObjI hObjC (by decide) (by decide) dX3_init_1 ?_
  refine iw_aload0 C dX3_init_4 ?_
  refine iw_bipush C dX3_init_5 (by decide) ?_
  refine iw_newa C hArrI (by decide) (N := 20) (by decide) (by decide) (by decide) (by decide) dX3_init_7 (fun q7 => ?_)
  refine iw_eq (ws2 := [(h0, .inr (3, [.null, .int 0, .int 0])), (q7, .inl (T.1, 20, .inl (fun _ => 0)))]) rfl ?_
  refine iw_putF C E (j := 0) (v := .ref q7) (ty := tyX3 0) 0 rfl iX3 tyX3_ok nmX3 rfl (by decide) (inT1 230 rfl rfl) rfl rfl rfl (tyX3_ok 0 (by decide)) rfl rfl (Nat.le_of_ble_eq_true rfl) dX3_init_9 ?_
  refine iw_eq (ws2 := [(h0, .inr (3, [.ref q7, .int 0, .int 0])), (q7, .inl (T.1, 20, .inl (fun _ => 0)))]) rfl ?_
  exact iw_ret C E (by decide) (by decide) dX3_init_12 ⟨fun _ k _ => match k with | 10 => h0 | 11 => q7 | _ => 0, rfl, rfl⟩
set_option maxRecDepth 100000 in
set_option maxHeartbeats 2000000 in
theorem c_X2_init {l : Launch} {D : va_G} {T : CI3}  : PI l D T yX2_init cX2_init 1 1 12 2 8 2 [.null, .null] (Wd D T [(2, 12, 0), (2, 13, 0), (2, 14, 0)] 2 12) := by
  refine PI.of (own := RX2) (by decide) rfl rfl [] rfl rfl (fun X h0 hXl C E => ?_)
  subst hXl
  refine iw_aload0 C dX2_init_0 ?_
  refine iw_obj C mo_2 hObjI hObjC (by decide) (by decide) dX2_init_1 ?_
  refine iw_aload0 C dX2_init_4 ?_
  refine iw_iconst C dX2_init_5 ?_
  refine iw_newa C hArrI (by decide) (N := 4) (by decide) (by decide) (by decide) (by decide) dX2_init_6 (fun q6 => ?_)
  refine iw_eq (ws2 := [(h0, .inr (2, [.null, .null])), (q6, .inl (T.1, 4, .inl (fun _ => 0)))]) rfl ?_
  refine iw_putF C E (j := 0) (v := .ref q6) (ty := tyX2 0) 0 rfl iX2 tyX2_ok nmX2 rfl (by decide) (inT2 7 rfl rfl) rfl rfl rfl (tyX2_ok 0 (by decide)) rfl rfl (Nat.le_of_ble_eq_true rfl) dX2_init_8 ?_
  refine iw_eq (ws2 := [(h0, .inr (2, [.ref q6, .null])), (q6, .inl (T.1, 4, .inl (fun _ => 0)))]) rfl ?_
  refine iw_aload0 C dX2_init_11 ?_
  refine iw_iconst C dX2_init_12 ?_
  refine iw_newa C hArrI (by decide) (N := 4) (by decide) (by decide) (by decide) (by decide) dX2_init_13 (fun q13 => ?_)
  refine iw_eq (ws2 := [(h0, .inr (2, [.ref q6, .null])), (q6, .inl (T.1, 4, .inl (fun _ => 0))), (q13, .inl (T.1, 4, .inl (fun _ => 0)))]) rfl ?_
  refine iw_putF C E (j := 1) (v := .ref q13) (ty := tyX2 1) 0 rfl iX2 tyX2_ok nmX2 rfl (by decide) (inT2 8 rfl rfl) rfl rfl rfl (tyX2_ok 1 (by decide)) rfl rfl (Nat.le_of_ble_eq_true rfl) dX2_init_15 ?_
  refine iw_eq (ws2 := [(h0, .inr (2, [.ref q6, .ref q13])), (q6, .inl (T.1, 4, .inl (fun _ => 0))), (q13, .inl (T.1, 4, .inl (fun _ => 0)))]) rfl ?_
  exact iw_ret C E (by decide) (by decide) dX2_init_18 ⟨fun _ k _ => match k with | 12 => h0 | 13 => q6 | 14 => q13 | _ => 0, rfl, rfl⟩
set_option maxRecDepth 100000 in
set_option maxHeartbeats 2000000 in
theorem c_X5_init {l : Launch} {D : va_G} {T : CI3}  : PI l D T yX5_init cX5_init 1 1 12 7 252 5 [.null, .null, .null] (Wd D T sheetsPos 2 5) := by
  refine PI.of (own := RX5) (by decide) rfl rfl [] rfl rfl (fun X h0 hXl C E => ?_)
  subst hXl
  refine iw_aload0 C dX5_init_0 ?_
  refine iw_obj C mo_5 hObjI hObjC (by decide) (by decide) dX5_init_1 ?_
  refine iw_aload0 C dX5_init_4 ?_
  refine iw_iconst C dX5_init_5 ?_
  refine iw_bipush C dX5_init_6 (by decide) ?_
  refine iw_mna C hArrI cl_5_9 (by decide) (K := 60) (by decide) (by decide) (by decide) (by decide) dX5_init_8 (fun q8 r8 => ?_)
  refine iw_eq (ws2 := [(h0, .inr (5, [.null, .null, .null])), (q8, .inl (T.2.2, 4, .inr (.inr (.inr (.inr (fun i => if i < 4 then some (r8 i) else none)))))), (r8 0, .inl (T.1, 60, .inl (fun _ => 0))), (r8 1, .inl (T.1, 60, .inl (fun _ => 0))), (r8 2, .inl (T.1, 60, .inl (fun _ => 0))), (r8 3, .inl (T.1, 60, .inl (fun _ => 0)))]) rfl ?_
  refine iw_putF C E (j := 0) (v := .ref q8) (ty := tyX5 0) 0 rfl iX5 tyX5_ok nmX5 rfl (by decide) (inT1 211 rfl rfl) rfl rfl rfl (tyX5_ok 0 (by decide)) rfl rfl (Nat.le_of_ble_eq_true rfl) dX5_init_12 ?_
  refine iw_eq (ws2 := [(h0, .inr (5, [.ref q8, .null, .null])), (q8, .inl (T.2.2, 4, .inr (.inr (.inr (.inr (fun i => if i < 4 then some (r8 i) else none)))))), (r8 0, .inl (T.1, 60, .inl (fun _ => 0))), (r8 1, .inl (T.1, 60, .inl (fun _ => 0))), (r8 2, .inl (T.1, 60, .inl (fun _ => 0))), (r8 3, .inl (T.1, 60, .inl (fun _ => 0)))]) rfl ?_
  refine iw_aload0 C dX5_init_15 ?_
  refine iw_iconst C dX5_init_16 ?_
  refine iw_newa C hArrI (by decide) (N := 4) (by decide) (by decide) (by decide) (by decide) dX5_init_17 (fun q17 => ?_)
  refine iw_eq (ws2 := [(h0, .inr (5, [.ref q8, .null, .null])), (q8, .inl (T.2.2, 4, .inr (.inr (.inr (.inr (fun i => if i < 4 then some (r8 i) else none)))))), (r8 0, .inl (T.1, 60, .inl (fun _ => 0))), (r8 1, .inl (T.1, 60, .inl (fun _ => 0))), (r8 2, .inl (T.1, 60, .inl (fun _ => 0))), (r8 3, .inl (T.1, 60, .inl (fun _ => 0))), (q17, .inl (T.1, 4, .inl (fun _ => 0)))]) rfl ?_
  refine iw_putF C E (j := 1) (v := .ref q17) (ty := tyX5 1) 0 rfl iX5 tyX5_ok nmX5 rfl (by decide) (inT1 213 rfl rfl) rfl rfl rfl (tyX5_ok 1 (by decide)) rfl rfl (Nat.le_of_ble_eq_true rfl) dX5_init_19 ?_
  refine iw_eq (ws2 := [(h0, .inr (5, [.ref q8, .ref q17, .null])), (q8, .inl (T.2.2, 4, .inr (.inr (.inr (.inr (fun i => if i < 4 then some (r8 i) else none)))))), (r8 0, .inl (T.1, 60, .inl (fun _ => 0))), (r8 1, .inl (T.1, 60, .inl (fun _ => 0))), (r8 2, .inl (T.1, 60, .inl (fun _ => 0))), (r8 3, .inl (T.1, 60, .inl (fun _ => 0))), (q17, .inl (T.1, 4, .inl (fun _ => 0)))]) rfl ?_
  refine iw_aload0 C dX5_init_22 ?_
  refine iw_iconst C dX5_init_23 ?_
  refine iw_newa C hArrI (by decide) (N := 4) (by decide) (by decide) (by decide) (by decide) dX5_init_24 (fun q24 => ?_)
  refine iw_eq (ws2 := [(h0, .inr (5, [.ref q8, .ref q17, .null])), (q8, .inl (T.2.2, 4, .inr (.inr (.inr (.inr (fun i => if i < 4 then some (r8 i) else none)))))), (r8 0, .inl (T.1, 60, .inl (fun _ => 0))), (r8 1, .inl (T.1, 60, .inl (fun _ => 0))), (r8 2, .inl (T.1, 60, .inl (fun _ => 0))), (r8 3, .inl (T.1, 60, .inl (fun _ => 0))), (q17, .inl (T.1, 4, .inl (fun _ => 0))), (q24, .inl (T.1, 4, .inl (fun _ => 0)))]) rfl ?_
  refine iw_dup C dX5_init_26 rfl ?_
  refine iw_iconst C dX5_init_27 ?_
  refine iw_iconst C dX5_init_28 ?_
  refine iw_iast C 7 rfl (inI (n := 4) (by decide) (by decide) (by decide)) dX5_init_29 ?_
  refine iw_eq (ws2 := [(h0, .inr (5, [.ref q8, .ref q17, .null])), (q8, .inl (T.2.2, 4, .inr (.inr (.inr (.inr (fun i => if i < 4 then some (r8 i) else none)))))), (r8 0, .inl (T.1, 60, .inl (fun _ => 0))), (r8 1, .inl (T.1, 60, .inl (fun _ => 0))), (r8 2, .inl (T.1, 60, .inl (fun _ => 0))), (r8 3, .inl (T.1, 60, .inl (fun _ => 0))), (q17, .inl (T.1, 4, .inl (fun _ => 0))), (q24, .inl (T.1, 4, .inl (upd (fun _ => 0) (Int32.ofInt 0).toNatClampNeg (Int32.ofInt (-1)))))]) rfl ?_
  refine iw_dup C dX5_init_30 rfl ?_
  refine iw_iconst C dX5_init_31 ?_
  refine iw_iconst C dX5_init_32 ?_
  refine iw_iast C 7 rfl (inI (n := 4) (by decide) (by decide) (by decide)) dX5_init_33 ?_
  refine iw_eq (ws2 := [(h0, .inr (5, [.ref q8, .ref q17, .null])), (q8, .inl (T.2.2, 4, .inr (.inr (.inr (.inr (fun i => if i < 4 then some (r8 i) else none)))))), (r8 0, .inl (T.1, 60, .inl (fun _ => 0))), (r8 1, .inl (T.1, 60, .inl (fun _ => 0))), (r8 2, .inl (T.1, 60, .inl (fun _ => 0))), (r8 3, .inl (T.1, 60, .inl (fun _ => 0))), (q17, .inl (T.1, 4, .inl (fun _ => 0))), (q24, .inl (T.1, 4, .inl (upd (upd (fun _ => 0) (Int32.ofInt 0).toNatClampNeg (Int32.ofInt (-1))) (Int32.ofInt 1).toNatClampNeg (Int32.ofInt (-1)))))]) rfl ?_
  refine iw_dup C dX5_init_34 rfl ?_
  refine iw_iconst C dX5_init_35 ?_
  refine iw_iconst C dX5_init_36 ?_
  refine iw_iast C 7 rfl (inI (n := 4) (by decide) (by decide) (by decide)) dX5_init_37 ?_
  refine iw_eq (ws2 := [(h0, .inr (5, [.ref q8, .ref q17, .null])), (q8, .inl (T.2.2, 4, .inr (.inr (.inr (.inr (fun i => if i < 4 then some (r8 i) else none)))))), (r8 0, .inl (T.1, 60, .inl (fun _ => 0))), (r8 1, .inl (T.1, 60, .inl (fun _ => 0))), (r8 2, .inl (T.1, 60, .inl (fun _ => 0))), (r8 3, .inl (T.1, 60, .inl (fun _ => 0))), (q17, .inl (T.1, 4, .inl (fun _ => 0))), (q24, .inl (T.1, 4, .inl (upd (upd (upd (fun _ => 0) (Int32.ofInt 0).toNatClampNeg (Int32.ofInt (-1))) (Int32.ofInt 1).toNatClampNeg (Int32.ofInt (-1))) (Int32.ofInt 2).toNatClampNeg (Int32.ofInt (-1)))))]) rfl ?_
  refine iw_dup C dX5_init_38 rfl ?_
  refine iw_iconst C dX5_init_39 ?_
  refine iw_iconst C dX5_init_40 ?_
  refine iw_iast C 7 rfl (inI (n := 4) (by decide) (by decide) (by decide)) dX5_init_41 ?_
  refine iw_eq (ws2 := [(h0, .inr (5, [.ref q8, .ref q17, .null])), (q8, .inl (T.2.2, 4, .inr (.inr (.inr (.inr (fun i => if i < 4 then some (r8 i) else none)))))), (r8 0, .inl (T.1, 60, .inl (fun _ => 0))), (r8 1, .inl (T.1, 60, .inl (fun _ => 0))), (r8 2, .inl (T.1, 60, .inl (fun _ => 0))), (r8 3, .inl (T.1, 60, .inl (fun _ => 0))), (q17, .inl (T.1, 4, .inl (fun _ => 0))), (q24, .inl (T.1, 4, .inl (upd (upd (upd (upd (fun _ => 0) (Int32.ofInt 0).toNatClampNeg (Int32.ofInt (-1))) (Int32.ofInt 1).toNatClampNeg (Int32.ofInt (-1))) (Int32.ofInt 2).toNatClampNeg (Int32.ofInt (-1))) (Int32.ofInt 3).toNatClampNeg (Int32.ofInt (-1)))))]) rfl ?_
  refine iw_putF C E (j := 2) (v := .ref q24) (ty := tyX5 2) 0 rfl iX5 tyX5_ok nmX5 rfl (by decide) (inT1 215 rfl rfl) rfl rfl rfl (tyX5_ok 2 (by decide)) rfl rfl (Nat.le_of_ble_eq_true rfl) dX5_init_42 ?_
  refine iw_eq (ws2 := [(h0, .inr (5, [.ref q8, .ref q17, .ref q24])), (q8, .inl (T.2.2, 4, .inr (.inr (.inr (.inr (fun i => if i < 4 then some (r8 i) else none)))))), (r8 0, .inl (T.1, 60, .inl (fun _ => 0))), (r8 1, .inl (T.1, 60, .inl (fun _ => 0))), (r8 2, .inl (T.1, 60, .inl (fun _ => 0))), (r8 3, .inl (T.1, 60, .inl (fun _ => 0))), (q17, .inl (T.1, 4, .inl (fun _ => 0))), (q24, .inl (T.1, 4, .inl (upd (upd (upd (upd (fun _ => 0) (Int32.ofInt 0).toNatClampNeg (Int32.ofInt (-1))) (Int32.ofInt 1).toNatClampNeg (Int32.ofInt (-1))) (Int32.ofInt 2).toNatClampNeg (Int32.ofInt (-1))) (Int32.ofInt 3).toNatClampNeg (Int32.ofInt (-1)))))]) rfl ?_
  rw [upd4, upd4z]
  exact iw_ret C E (by decide) (by decide) dX5_init_45 ⟨fun _ k r => match k with | 5 => h0 | 6 => q8 | 7 => r8 r.toNat | 8 => q17 | 9 => q24 | _ => 0, rfl, rfl⟩
set_option maxRecDepth 100000 in
set_option maxHeartbeats 2000000 in
theorem c_X4_init {l : Launch} {D : va_G} {T : CI3}  : PI l D T yX4_init cX4_init 1 3 52 26 183 4 [.null, .null, .null, .null, .int 0, .int 0, .int 0] (Wd D T searchPos 2 1) := by
  refine PI.of (own := RX4) (by decide) rfl rfl [] rfl rfl (fun X h0 hXl C E => ?_)
  subst hXl
  refine iw_aload0 C dX4_init_0 ?_
  refine iw_obj C mo_4 hObjI hObjC (by decide) (by decide) dX4_init_1 ?_
  refine iw_aload0 C dX4_init_4 ?_
  refine iw_new C (N := 13) (ci := 1) (fs := [.null, .null, .null, .null, .null, .null, .null, .null, .null, .int 0, .int 0, .int 0, .int 0]) iX1 tyX1 tyX1_ok cl_4_9 in_X1 mi_X1_init.2.1 rfl (fun j hj => by rcases (show j = 0 ∨ j = 1 ∨ j = 2 ∨ j = 3 ∨ j = 4 ∨ j = 5 ∨ j = 6 ∨ j = 7 ∨ j = 8 ∨ j = 9 ∨ j = 10 ∨ j = 11 ∨ j = 12 by omega) with rfl | rfl | rfl | rfl | rfl | rfl | rfl | rfl | rfl | rfl | rfl | rfl | rfl <;> rfl) (by decide) (by decide) dX4_init_5 (fun q5 => ?_)
  refine iw_dup C dX4_init_8 rfl ?_
  refine iw_initN C mi_X1_init rfl mv_X1_init mn_4_11 (c_X1_init 1 (by decide)) (by decide) (Nat.le_of_ble_eq_true rfl) (by decide) (by decide) dX4_init_9 ?_
  rintro w9 ⟨a9, rfl, rfl⟩
  refine iw_putF C E (j := 0) (v := .ref (a9 1 0 0)) (ty := tyX4 0) 0 rfl iX4 tyX4_ok nmX4 rfl (by decide) (inT1 177 rfl rfl) rfl rfl rfl (tyX4_ok 0 (by decide)) rfl rfl (Nat.le_of_ble_eq_true rfl) dX4_init_12 ?_
  refine iw_eq (ws2 := ([(h0, .inr (4, [.ref (a9 1 0 0), .null, .null, .null, .int 0, .int 0, .int 0]))] ++ wsL (D, a9, T) Z0 (dayPos 1))) rfl ?_
  refine iw_aload0 C dX4_init_15 ?_
  refine iw_iconst C dX4_init_16 ?_
  refine iw_newa C hArrI (by decide) (N := 4) (by decide) (by decide) (by decide) (by decide) dX4_init_17 (fun q17 => ?_)
  refine iw_eq (ws2 := (([(h0, .inr (4, [.ref (a9 1 0 0), .null, .null, .null, .int 0, .int 0, .int 0]))] ++ wsL (D, a9, T) Z0 (dayPos 1)) ++ [(q17, .inl (T.1, 4, .inl (fun _ => 0)))])) rfl ?_
  refine iw_putF C E (j := 1) (v := .ref q17) (ty := tyX4 1) 0 rfl iX4 tyX4_ok nmX4 rfl (by decide) (inT1 178 rfl rfl) rfl rfl rfl (tyX4_ok 1 (by decide)) rfl rfl (Nat.le_of_ble_eq_true rfl) dX4_init_19 ?_
  refine iw_eq (ws2 := (([(h0, .inr (4, [.ref (a9 1 0 0), .ref q17, .null, .null, .int 0, .int 0, .int 0]))] ++ wsL (D, a9, T) Z0 (dayPos 1)) ++ [(q17, .inl (T.1, 4, .inl (fun _ => 0)))])) rfl ?_
  refine iw_aload0 C dX4_init_22 ?_
  refine iw_iconst C dX4_init_23 ?_
  refine iw_newz C hArrZ (by decide) (N := 4) (by decide) (by decide) (by decide) (by decide) dX4_init_24 (fun q24 => ?_)
  refine iw_eq (ws2 := ((([(h0, .inr (4, [.ref (a9 1 0 0), .ref q17, .null, .null, .int 0, .int 0, .int 0]))] ++ wsL (D, a9, T) Z0 (dayPos 1)) ++ [(q17, .inl (T.1, 4, .inl (fun _ => 0)))]) ++ [(q24, .inl (T.2.1, 4, .inl (fun _ => 0)))])) rfl ?_
  refine iw_putF C E (j := 2) (v := .ref q24) (ty := tyX4 2) 0 rfl iX4 tyX4_ok nmX4 rfl (by decide) (inT1 180 rfl rfl) rfl rfl rfl (tyX4_ok 2 (by decide)) rfl rfl (Nat.le_of_ble_eq_true rfl) dX4_init_26 ?_
  refine iw_eq (ws2 := ((([(h0, .inr (4, [.ref (a9 1 0 0), .ref q17, .ref q24, .null, .int 0, .int 0, .int 0]))] ++ wsL (D, a9, T) Z0 (dayPos 1)) ++ [(q17, .inl (T.1, 4, .inl (fun _ => 0)))]) ++ [(q24, .inl (T.2.1, 4, .inl (fun _ => 0)))])) rfl ?_
  refine iw_aload0 C dX4_init_29 ?_
  refine iw_iconst C dX4_init_30 ?_
  refine iw_newa C hArrI (by decide) (N := 4) (by decide) (by decide) (by decide) (by decide) dX4_init_31 (fun q31 => ?_)
  refine iw_eq (ws2 := (((([(h0, .inr (4, [.ref (a9 1 0 0), .ref q17, .ref q24, .null, .int 0, .int 0, .int 0]))] ++ wsL (D, a9, T) Z0 (dayPos 1)) ++ [(q17, .inl (T.1, 4, .inl (fun _ => 0)))]) ++ [(q24, .inl (T.2.1, 4, .inl (fun _ => 0)))]) ++ [(q31, .inl (T.1, 4, .inl (fun _ => 0)))])) rfl ?_
  refine iw_putF C E (j := 3) (v := .ref q31) (ty := tyX4 3) 0 rfl iX4 tyX4_ok nmX4 rfl (by decide) (inT1 181 rfl rfl) rfl rfl rfl (tyX4_ok 3 (by decide)) rfl rfl (Nat.le_of_ble_eq_true rfl) dX4_init_33 ?_
  refine iw_eq (ws2 := (((([(h0, .inr (4, [.ref (a9 1 0 0), .ref q17, .ref q24, .ref q31, .int 0, .int 0, .int 0]))] ++ wsL (D, a9, T) Z0 (dayPos 1)) ++ [(q17, .inl (T.1, 4, .inl (fun _ => 0)))]) ++ [(q24, .inl (T.2.1, 4, .inl (fun _ => 0)))]) ++ [(q31, .inl (T.1, 4, .inl (fun _ => 0)))])) rfl ?_
  exact iw_ret C E (by decide) (by decide) dX4_init_36 ⟨fun d k r => match d with | 1 => a9 1 k r | _ => match k with | 1 => h0 | 2 => q17 | 3 => q24 | 4 => q31 | _ => 0, rfl, rfl⟩
