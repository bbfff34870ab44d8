theorem hObjI : Cond.instanceMethod objectInit ∈ tbl0 := (inT1 19 rfl rfl)
theorem hObjC : Cond.code objectInit ⟨#[0xb1]⟩ 1 none ∈ tbl0 := (inT1 20 rfl rfl)
theorem hArrI : Cond.arrayClass .int ∈ tbl0 := (inT1 84 rfl rfl)
theorem hArrZ : Cond.arrayClass .boolean ∈ tbl0 := (inT1 203 rfl rfl)
theorem mi_X0_init : MI yX0_init cX0_init 1 none 0 := ⟨(inT1 89 rfl rfl), (inT1 4 rfl rfl), by decide, by decide, (by decide +kernel)⟩
theorem mv_X0_init : Cond.instanceMethod yX0_init ∈ tbl0 := (inT1 88 rfl rfl)
theorem in_X0 : Cond.instantiable RX0 5 ∈ tbl0 := (inT1 86 rfl rfl)
theorem mi_X1_init : MI yX1_init cX1_init 1 none 0 := ⟨(inT1 25 rfl rfl), (inT1 2 rfl rfl), by decide, by decide, (by decide +kernel)⟩
theorem mv_X1_init : Cond.instanceMethod yX1_init ∈ tbl0 := (inT1 24 rfl rfl)
theorem in_X1 : Cond.instantiable RX1 13 ∈ tbl0 := (inT1 22 rfl rfl)
theorem mi_X2_init : MI yX2_init cX2_init 1 none 0 := ⟨(inT2 5 rfl rfl), (inT1 8 rfl rfl), by decide, by decide, (by decide +kernel)⟩
theorem mv_X2_init : Cond.instanceMethod yX2_init ∈ tbl0 := (inT2 4 rfl rfl)
theorem in_X2 : Cond.instantiable RX2 2 ∈ tbl0 := (inT2 2 rfl rfl)
theorem mi_X3_init : MI yX3_init cX3_init 1 none 0 := ⟨(inT1 228 rfl rfl), (inT1 7 rfl rfl), by decide, by decide, (by decide +kernel)⟩
theorem mv_X3_init : Cond.instanceMethod yX3_init ∈ tbl0 := (inT1 227 rfl rfl)
theorem in_X3 : Cond.instantiable RX3 3 ∈ tbl0 := (inT1 225 rfl rfl)
theorem mi_X4_init : MI yX4_init cX4_init 1 none 0 := ⟨(inT1 173 rfl rfl), (inT1 5 rfl rfl), by decide, by decide, (by decide +kernel)⟩
theorem mv_X4_init : Cond.instanceMethod yX4_init ∈ tbl0 := (inT1 172 rfl rfl)
theorem in_X4 : Cond.instantiable RX4 7 ∈ tbl0 := (inT1 170 rfl rfl)
theorem mi_X5_init : MI yX5_init cX5_init 1 none 0 := ⟨(inT1 208 rfl rfl), (inT1 6 rfl rfl), by decide, by decide, (by decide +kernel)⟩
theorem mv_X5_init : Cond.instanceMethod yX5_init ∈ tbl0 := (inT1 207 rfl rfl)
theorem in_X5 : Cond.instantiable RX5 3 ∈ tbl0 := (inT1 205 rfl rfl)
theorem mi_X6_init : MI yX6_init cX6_init 1 none 0 := ⟨(inT1 31 rfl rfl), (inT1 3 rfl rfl), by decide, by decide, (by decide +kernel)⟩
theorem mv_X6_init : Cond.instanceMethod yX6_init ∈ tbl0 := (inT1 30 rfl rfl)
theorem in_X6 : Cond.instantiable RX6 9 ∈ tbl0 := (inT1 28 rfl rfl)
theorem mi_X8_init : MI yX8_init cX8_init 1 none 0 := ⟨(inT1 17 rfl rfl), (inT1 1 rfl rfl), by decide, by decide, (by decide +kernel)⟩
theorem mv_X8_init : Cond.instanceMethod yX8_init ∈ tbl0 := (inT1 16 rfl rfl)
theorem in_X8 : Cond.instantiable RX8 7 ∈ tbl0 := (inT1 14 rfl rfl)
theorem mi_X9_init : MI yX9_init cX9_init 2 none 0 := ⟨(inT3 223 rfl rfl), (inT1 9 rfl rfl), by decide, by decide, (by decide +kernel)⟩
theorem mv_X9_init : Cond.instanceMethod yX9_init ∈ tbl0 := (inT3 222 rfl rfl)
theorem in_X9 : Cond.instantiable RX9 39 ∈ tbl0 := (inT3 220 rfl rfl)
theorem cl_L_7 : Cond.classLink RL 7 RX8 ∈ tbl0 := (inT1 13 rfl rfl)
theorem ml_L_9 : Cond.methodLink RL 9 yX8_init ∈ tbl0 := (inT1 15 rfl rfl)
theorem mo_8 : Cond.methodLink RX8 3 objectInit ∈ tbl0 := (inT1 18 rfl rfl)
theorem cl_8_9 : Cond.classLink RX8 9 RX1 ∈ tbl0 := (inT1 21 rfl rfl)
theorem mn_8_11 : Cond.methodLinkNest RX8 11 yX1_init "IceSlab" ∈ nst := inN 23 (by decide +kernel)
theorem mo_1 : Cond.methodLink RX1 3 objectInit ∈ tbl0 := (inT1 26 rfl rfl)
theorem cl_1_9 : Cond.classLink RX1 9 RX6 ∈ tbl0 := (inT1 27 rfl rfl)
theorem mn_1_11 : Cond.methodLinkNest RX1 11 yX6_init "IceSlab" ∈ nst := inN 29 (by decide +kernel)
theorem mo_6 : Cond.methodLink RX6 3 objectInit ∈ tbl0 := (inT1 32 rfl rfl)
theorem cl_6_24 : Cond.classLink RX6 24 "[[I" ∈ tbl0 := (inT1 33 rfl rfl)
theorem cl_1_18 : Cond.classLink RX1 18 RX0 ∈ tbl0 := (inT1 85 rfl rfl)
theorem mn_1_20 : Cond.methodLinkNest RX1 20 yX0_init "IceSlab" ∈ nst := inN 87 (by decide +kernel)
theorem mo_0 : Cond.methodLink RX0 3 objectInit ∈ tbl0 := (inT1 90 rfl rfl)
theorem cl_8_18 : Cond.classLink RX8 18 RX4 ∈ tbl0 := (inT1 169 rfl rfl)
theorem mn_8_20 : Cond.methodLinkNest RX8 20 yX4_init "IceSlab" ∈ nst := inN 171 (by decide +kernel)
theorem mo_4 : Cond.methodLink RX4 3 objectInit ∈ tbl0 := (inT1 174 rfl rfl)
theorem cl_4_9 : Cond.classLink RX4 9 RX1 ∈ tbl0 := (inT1 175 rfl rfl)
theorem mn_4_11 : Cond.methodLinkNest RX4 11 yX1_init "IceSlab" ∈ nst := inN 176 (by decide +kernel)
theorem cl_8_25 : Cond.classLink RX8 25 RX5 ∈ tbl0 := (inT1 204 rfl rfl)
theorem mn_8_27 : Cond.methodLinkNest RX8 27 yX5_init "IceSlab" ∈ nst := inN 206 (by decide +kernel)
theorem mo_5 : Cond.methodLink RX5 1 objectInit ∈ tbl0 := (inT1 209 rfl rfl)
theorem cl_5_9 : Cond.classLink RX5 9 "[[I" ∈ tbl0 := (inT1 210 rfl rfl)
theorem cl_8_32 : Cond.classLink RX8 32 RX3 ∈ tbl0 := (inT1 224 rfl rfl)
theorem mn_8_34 : Cond.methodLinkNest RX8 34 yX3_init "IceSlab" ∈ nst := inN 226 (by decide +kernel)
theorem mo_3 : Cond.methodLink RX3 3 objectInit ∈ tbl0 := (inT1 229 rfl rfl)
theorem cl_8_39 : Cond.classLink RX8 39 RX2 ∈ tbl0 := (inT2 1 rfl rfl)
theorem mn_8_41 : Cond.methodLinkNest RX8 41 yX2_init "IceSlab" ∈ nst := inN 243 (by decide +kernel)
theorem mo_2 : Cond.methodLink RX2 1 objectInit ∈ tbl0 := (inT2 6 rfl rfl)
theorem cl_L_10 : Cond.classLink RL 10 RX9 ∈ tbl0 := (inT3 219 rfl rfl)
theorem ml_L_12 : Cond.methodLink RL 12 yX9_init ∈ tbl0 := (inT3 221 rfl rfl)
theorem mo_9 : Cond.methodLink RX9 1 objectInit ∈ tbl0 := (inT3 224 rfl rfl)
def Z0 : Mem := fun d k _ i => if d = 3 then (if k = 35 ∧ 0 ≤ i ∧ i < 4 then -1 else 0) else if d = 2 then (if k = 9 ∧ 0 ≤ i ∧ i < 4 then -1 else 0) else if k = 0 ∧ i = 11 then -9 else 0
theorem Z0_R : MR Z0 := fun d k r i => by
  unfold Z0
  repeat' split
  all_goals exact ⟨by omega, by omega⟩
def wsL (S : SW) (M : Mem) (L : List (Nat × Nat × Int)) : va_W := L.map (fun q => (S.2.1 q.1 q.2.1 q.2.2, cellOf S (shp q.1 q.2.1) (M q.1 q.2.1 q.2.2)))
def stallPos (d : Nat) : List (Nat × Nat × Int) := [(d, 1, 0), (d, 2, 0), (d, 3, 0), (d, 4, 0), (d, 5, 0), (d, 6, 0), (d, 7, 0), (d, 7, 1), (d, 7, 2), (d, 7, 3)]
def buyPos (d : Nat) : List (Nat × Nat × Int) := [(d, 8, 0), (d, 9, 0), (d, 10, 0), (d, 11, 0), (d, 12, 0)]
def dayPos (d : Nat) : List (Nat × Nat × Int) := (d, 0, 0) :: (stallPos d ++ (buyPos d ++ [(d, 13, 0), (d, 14, 0), (d, 15, 0), (d, 16, 0), (d, 17, 0), (d, 18, 0), (d, 19, 0)]))
def Wd (D : va_G) (T : CI3) (L : List (Nat × Nat × Int)) (d k : Nat) (h0 : Nat) (w : va_W) : Prop := ∃ adr : Nat → Nat → Int → Nat, adr d k 0 = h0 ∧ w = wsL (D, adr, T) Z0 L
set_option maxRecDepth 100000 in
set_option maxHeartbeats 2000000 in
theorem c_X0_init {l : Launch} {D : va_G} {T : CI3} (d : Nat) (hd : d < 2) : PI l D T yX0_init cX0_init 1 1 12 4 40 0 [.null, .null, .null, .null, .int 0] (Wd D T (buyPos d) d 8) := by
  refine PI.of (own := RX0) (by decide) rfl rfl [] rfl rfl (fun X h0 hXl C E => ?_)
  subst hXl
  refine iw_aload0 C dX0_init_0 ?_
  refine iw_obj C mo_0 hObjI hObjC (by decide) (by decide) dX0_init_1 ?_
  refine iw_aload0 C dX0_init_4 ?_
  refine iw_bipush C dX0_init_5 (by decide) ?_
  refine iw_newa C hArrI (by decide) (N := 10) (by decide) (by decide) (by decide) (by decide) dX0_init_7 (fun q7 => ?_)
  refine iw_eq (ws2 := [(h0, .inr (0, [.null, .null, .null, .null, .int 0])), (q7, .inl (T.1, 10, .inl (fun _ => 0)))]) rfl ?_
  refine iw_putF C E (j := 0) (v := .ref q7) (ty := tyX0 0) 0 rfl iX0 tyX0_ok nmX0 rfl (by decide) (inT1 91 rfl rfl) rfl rfl rfl (tyX0_ok 0 (by decide)) rfl rfl (Nat.le_of_ble_eq_true rfl) dX0_init_9 ?_
  refine iw_eq (ws2 := [(h0, .inr (0, [.ref q7, .null, .null, .null, .int 0])), (q7, .inl (T.1, 10, .inl (fun _ => 0)))]) rfl ?_
  refine iw_aload0 C dX0_init_12 ?_
  refine iw_bipush C dX0_init_13 (by decide) ?_
  refine iw_newa C hArrI (by decide) (N := 10) (by decide) (by decide) (by decide) (by decide) dX0_init_15 (fun q15 => ?_)
  refine iw_eq (ws2 := [(h0, .inr (0, [.ref q7, .null, .null, .null, .int 0])), (q7, .inl (T.1, 10, .inl (fun _ => 0))), (q15, .inl (T.1, 10, .inl (fun _ => 0)))]) rfl ?_
  refine iw_putF C E (j := 1) (v := .ref q15) (ty := tyX0 1) 0 rfl iX0 tyX0_ok nmX0 rfl (by decide) (inT1 94 rfl rfl) rfl rfl rfl (tyX0_ok 1 (by decide)) rfl rfl (Nat.le_of_ble_eq_true rfl) dX0_init_17 ?_
  refine iw_eq (ws2 := [(h0, .inr (0, [.ref q7, .ref q15, .null, .null, .int 0])), (q7, .inl (T.1, 10, .inl (fun _ => 0))), (q15, .inl (T.1, 10, .inl (fun _ => 0)))]) rfl ?_
  refine iw_aload0 C dX0_init_20 ?_
  refine iw_bipush C dX0_init_21 (by decide) ?_
  refine iw_newa C hArrI (by decide) (N := 10) (by decide) (by decide) (by decide) (by decide) dX0_init_23 (fun q23 => ?_)
  refine iw_eq (ws2 := [(h0, .inr (0, [.ref q7, .ref q15, .null, .null, .int 0])), (q7, .inl (T.1, 10, .inl (fun _ => 0))), (q15, .inl (T.1, 10, .inl (fun _ => 0))), (q23, .inl (T.1, 10, .inl (fun _ => 0)))]) rfl ?_
  refine iw_putF C E (j := 2) (v := .ref q23) (ty := tyX0 2) 0 rfl iX0 tyX0_ok nmX0 rfl (by decide) (inT1 97 rfl rfl) rfl rfl rfl (tyX0_ok 2 (by decide)) rfl rfl (Nat.le_of_ble_eq_true rfl) dX0_init_25 ?_
  refine iw_eq (ws2 := [(h0, .inr (0, [.ref q7, .ref q15, .ref q23, .null, .int 0])), (q7, .inl (T.1, 10, .inl (fun _ => 0))), (q15, .inl (T.1, 10, .inl (fun _ => 0))), (q23, .inl (T.1, 10, .inl (fun _ => 0)))]) rfl ?_
  refine iw_aload0 C dX0_init_28 ?_
  refine iw_bipush C dX0_init_29 (by decide) ?_
  refine iw_newa C hArrI (by decide) (N := 10) (by decide) (by decide) (by decide) (by decide) dX0_init_31 (fun q31 => ?_)
  refine iw_eq (ws2 := [(h0, .inr (0, [.ref q7, .ref q15, .ref q23, .null, .int 0])), (q7, .inl (T.1, 10, .inl (fun _ => 0))), (q15, .inl (T.1, 10, .inl (fun _ => 0))), (q23, .inl (T.1, 10, .inl (fun _ => 0))), (q31, .inl (T.1, 10, .inl (fun _ => 0)))]) rfl ?_
  refine iw_putF C E (j := 3) (v := .ref q31) (ty := tyX0 3) 0 rfl iX0 tyX0_ok nmX0 rfl (by decide) (inT1 100 rfl rfl) rfl rfl rfl (tyX0_ok 3 (by decide)) rfl rfl (Nat.le_of_ble_eq_true rfl) dX0_init_33 ?_
  refine iw_eq (ws2 := [(h0, .inr (0, [.ref q7, .ref q15, .ref q23, .ref q31, .int 0])), (q7, .inl (T.1, 10, .inl (fun _ => 0))), (q15, .inl (T.1, 10, .inl (fun _ => 0))), (q23, .inl (T.1, 10, .inl (fun _ => 0))), (q31, .inl (T.1, 10, .inl (fun _ => 0)))]) rfl ?_
  have R9 : ([(h0, .inr (0, [.ref q7, .ref q15, .ref q23, .ref q31, .int 0])), (q7, .inl (T.1, 10, .inl (fun _ => 0))), (q15, .inl (T.1, 10, .inl (fun _ => 0))), (q23, .inl (T.1, 10, .inl (fun _ => 0))), (q31, .inl (T.1, 10, .inl (fun _ => 0)))] : va_W) = [(h0, .inr (0, [.ref q7, .ref q15, .ref q23, .ref q31, .int 0])), (q7, .inl (T.1, 10, .inl (fun _ => 0))), (q15, .inl (T.1, 10, .inl (fun _ => 0))), (q23, .inl (T.1, 10, .inl (fun _ => 0))), (q31, .inl (T.1, 10, .inl (fun _ => 0)))] := rfl
  rcases d01 hd with rfl | rfl
  · exact iw_ret C E (by decide) (by decide) dX0_init_36 ⟨fun _ k r => match k with | 8 => h0 | 9 => q7 | 10 => q15 | 11 => q23 | 12 => q31 | _ => 0, rfl, rfl⟩
  · exact iw_ret C E (by decide) (by decide) dX0_init_36 ⟨fun _ k r => match k with | 8 => h0 | 9 => q7 | 10 => q15 | 11 => q23 | 12 => q31 | _ => 0, rfl, rfl⟩
set_option maxRecDepth 100000 in
set_option maxHeartbeats 2000000 in
theorem c_X6_init {l : Launch} {D : va_G} {T : CI3} (d : Nat) (hd : d < 2) : PI l D T yX6_init cX6_init 1 1 12 9 52 6 [.null, .null, .null, .null, .null, .int 0, .int 0, .int 0, .int 0] (Wd D T (stallPos d) d 1) := by
  refine PI.of (own := RX6) (by decide) rfl rfl [] rfl rfl (fun X h0 hXl C E => ?_)
  subst hXl
  refine iw_aload0 C dX6_init_0 ?_
  refine iw_obj C mo_6 hObjI hObjC (by decide) (by decide) dX6_init_1 ?_
  refine iw_aload0 C dX6_init_4 ?_
  refine iw_iconst C dX6_init_5 ?_
  refine iw_newa C hArrI (by decide) (N := 4) (by decide) (by decide) (by decide) (by decide) dX6_init_6 (fun q6 => ?_)
  refine iw_eq (ws2 := [(h0, .inr (6, [.null, .null, .null, .null, .null, .int 0, .int 0, .int 0, .int 0])), (q6, .inl (T.1, 4, .inl (fun _ => 0)))]) rfl ?_
  refine iw_putF C E (j := 0) (v := .ref q6) (ty := tyX6 0) 0 rfl iX6 tyX6_ok nmX6 rfl (by decide) (inT1 35 rfl rfl) rfl rfl rfl (tyX6_ok 0 (by decide)) rfl rfl (Nat.le_of_ble_eq_true rfl) dX6_init_8 ?_
  refine iw_eq (ws2 := [(h0, .inr (6, [.ref q6, .null, .null, .null, .null, .int 0, .int 0, .int 0, .int 0])), (q6, .inl (T.1, 4, .inl (fun _ => 0)))]) rfl ?_
  refine iw_aload0 C dX6_init_11 ?_
  refine iw_iconst C dX6_init_12 ?_
  refine iw_newa C hArrI (by decide) (N := 4) (by decide) (by decide) (by decide) (by decide) dX6_init_13 (fun q13 => ?_)
  refine iw_eq (ws2 := [(h0, .inr (6, [.ref q6, .null, .null, .null, .null, .int 0, .int 0, .int 0, .int 0])), (q6, .inl (T.1, 4, .inl (fun _ => 0))), (q13, .inl (T.1, 4, .inl (fun _ => 0)))]) rfl ?_
  refine iw_putF C E (j := 1) (v := .ref q13) (ty := tyX6 1) 0 rfl iX6 tyX6_ok nmX6 rfl (by decide) (inT1 39 rfl rfl) rfl rfl rfl (tyX6_ok 1 (by decide)) rfl rfl (Nat.le_of_ble_eq_true rfl) dX6_init_15 ?_
  refine iw_eq (ws2 := [(h0, .inr (6, [.ref q6, .ref q13, .null, .null, .null, .int 0, .int 0, .int 0, .int 0])), (q6, .inl (T.1, 4, .inl (fun _ => 0))), (q13, .inl (T.1, 4, .inl (fun _ => 0)))]) rfl ?_
  refine iw_aload0 C dX6_init_18 ?_
  refine iw_iconst C dX6_init_19 ?_
  refine iw_newa C hArrI (by decide) (N := 4) (by decide) (by decide) (by decide) (by decide) dX6_init_20 (fun q20 => ?_)
  refine iw_eq (ws2 := [(h0, .inr (6, [.ref q6, .ref q13, .null, .null, .null, .int 0, .int 0, .int 0, .int 0])), (q6, .inl (T.1, 4, .inl (fun _ => 0))), (q13, .inl (T.1, 4, .inl (fun _ => 0))), (q20, .inl (T.1, 4, .inl (fun _ => 0)))]) rfl ?_
  refine iw_putF C E (j := 2) (v := .ref q20) (ty := tyX6 2) 0 rfl iX6 tyX6_ok nmX6 rfl (by decide) (inT1 42 rfl rfl) rfl rfl rfl (tyX6_ok 2 (by decide)) rfl rfl (Nat.le_of_ble_eq_true rfl) dX6_init_22 ?_
  refine iw_eq (ws2 := [(h0, .inr (6, [.ref q6, .ref q13, .ref q20, .null, .null, .int 0, .int 0, .int 0, .int 0])), (q6, .inl (T.1, 4, .inl (fun _ => 0))), (q13, .inl (T.1, 4, .inl (fun _ => 0))), (q20, .inl (T.1, 4, .inl (fun _ => 0)))]) rfl ?_
  refine iw_aload0 C dX6_init_25 ?_
  refine iw_iconst C dX6_init_26 ?_
  refine iw_newa C hArrI (by decide) (N := 4) (by decide) (by decide) (by decide) (by decide) dX6_init_27 (fun q27 => ?_)
  refine iw_eq (ws2 := [(h0, .inr (6, [.ref q6, .ref q13, .ref q20, .null, .null, .int 0, .int 0, .int 0, .int 0])), (q6, .inl (T.1, 4, .inl (fun _ => 0))), (q13, .inl (T.1, 4, .inl (fun _ => 0))), (q20, .inl (T.1, 4, .inl (fun _ => 0))), (q27, .inl (T.1, 4, .inl (fun _ => 0)))]) rfl ?_
  refine iw_putF C E (j := 3) (v := .ref q27) (ty := tyX6 3) 0 rfl iX6 tyX6_ok nmX6 rfl (by decide) (inT1 44 rfl rfl) rfl rfl rfl (tyX6_ok 3 (by decide)) rfl rfl (Nat.le_of_ble_eq_true rfl) dX6_init_29 ?_
  refine iw_eq (ws2 := [(h0, .inr (6, [.ref q6, .ref q13, .ref q20, .ref q27, .null, .int 0, .int 0, .int 0, .int 0])), (q6, .inl (T.1, 4, .inl (fun _ => 0))), (q13, .inl (T.1, 4, .inl (fun _ => 0))), (q20, .inl (T.1, 4, .inl (fun _ => 0))), (q27, .inl (T.1, 4, .inl (fun _ => 0)))]) rfl ?_
  refine iw_aload0 C dX6_init_32 ?_
  refine iw_iconst C dX6_init_33 ?_
  refine iw_bipush C dX6_init_34 (by decide) ?_
  refine iw_mna C hArrI cl_6_24 (by decide) (K := 8) (by decide) (by decide) (by decide) (by decide) dX6_init_36 (fun q36 r36 => ?_)
  refine iw_eq (ws2 := [(h0, .inr (6, [.ref q6, .ref q13, .ref q20, .ref q27, .null, .int 0, .int 0, .int 0, .int 0])), (q6, .inl (T.1, 4, .inl (fun _ => 0))), (q13, .inl (T.1, 4, .inl (fun _ => 0))), (q20, .inl (T.1, 4, .inl (fun _ => 0))), (q27, .inl (T.1, 4, .inl (fun _ => 0))), (q36, .inl (T.2.2, 4, .inr (.inr (.inr (.inr (fun i => if i < 4 then some (r36 i) else none)))))), (r36 0, .inl (T.1, 8, .inl (fun _ => 0))), (r36 1, .inl (T.1, 8, .inl (fun _ => 0))), (r36 2, .inl (T.1, 8, .inl (fun _ => 0))), (r36 3, .inl (T.1, 8, .inl (fun _ => 0)))]) rfl ?_
  refine iw_putF C E (j := 4) (v := .ref q36) (ty := tyX6 4) 0 rfl iX6 tyX6_ok nmX6 rfl (by decide) (inT1 46 rfl rfl) rfl rfl rfl (tyX6_ok 4 (by decide)) rfl rfl (Nat.le_of_ble_eq_true rfl) dX6_init_40 ?_
  refine iw_eq (ws2 := [(h0, .inr (6, [.ref q6, .ref q13, .ref q20, .ref q27, .ref q36, .int 0, .int 0, .int 0, .int 0])), (q6, .inl (T.1, 4, .inl (fun _ => 0))), (q13, .inl (T.1, 4, .inl (fun _ => 0))), (q20, .inl (T.1, 4, .inl (fun _ => 0))), (q27, .inl (T.1, 4, .inl (fun _ => 0))), (q36, .inl (T.2.2, 4, .inr (.inr (.inr (.inr (fun i => if i < 4 then some (r36 i) else none)))))), (r36 0, .inl (T.1, 8, .inl (fun _ => 0))), (r36 1, .inl (T.1, 8, .inl (fun _ => 0))), (r36 2, .inl (T.1, 8, .inl (fun _ => 0))), (r36 3, .inl (T.1, 8, .inl (fun _ => 0)))]) rfl ?_
  rcases d01 hd with rfl | rfl
  · exact iw_ret C E (by decide) (by decide) dX6_init_43 ⟨fun _ k r => match k with | 1 => h0 | 2 => q6 | 3 => q13 | 4 => q20 | 5 => q27 | 6 => q36 | 7 => r36 r.toNat | _ => 0, rfl, rfl⟩
  · exact iw_ret C E (by decide) (by decide) dX6_init_43 ⟨fun _ k r => match k with | 1 => h0 | 2 => q6 | 3 => q13 | 4 => q20 | 5 => q27 | 6 => q36 | 7 => r36 r.toNat | _ => 0, rfl, rfl⟩
set_option maxRecDepth 100000 in
set_option maxHeartbeats 2000000 in
theorem c_X1_init {l : Launch} {D : va_G} {T : CI3} (d : Nat) (hd : d < 2) : PI l D T yX1_init cX1_init 1 2 32 22 158 1 [.null, .null, .null, .null, .null, .null, .null, .null, .null, .int 0, .int 0, .int 0, .int 0] (Wd D T (dayPos d) d 0) := by
  refine PI.of (own := RX1) (by decide) rfl rfl [] rfl rfl (fun X h0 hXl C E => ?_)
  subst hXl
  refine iw_aload0 C dX1_init_0 ?_
  refine iw_obj C mo_1 hObjI hObjC (by decide) (by decide) dX1_init_1 ?_
  refine iw_aload0 C dX1_init_4 ?_
  refine iw_new C (N := 9) (ci := 6) (fs := [.null, .null, .null, .null, .null, .int 0, .int 0, .int 0, .int 0]) iX6 tyX6 tyX6_ok cl_1_9 in_X6 mi_X6_init.2.1 rfl (fun j hj => by rcases (show j = 0 ∨ j = 1 ∨ j = 2 ∨ j = 3 ∨ j = 4 ∨ j = 5 ∨ j = 6 ∨ j = 7 ∨ j = 8 by omega) with rfl | rfl | rfl | rfl | rfl | rfl | rfl | rfl | rfl <;> rfl) (by decide) (by decide) dX1_init_5 (fun q5 => ?_)
  refine iw_dup C dX1_init_8 rfl ?_
  refine iw_initN C mi_X6_init rfl mv_X6_init mn_1_11 (c_X6_init d hd) (by decide) (Nat.le_of_ble_eq_true rfl) (by decide) (by decide) dX1_init_9 ?_
  rintro w9 ⟨a9, rfl, rfl⟩
  refine iw_putF C E (j := 0) (v := .ref (a9 d 1 0)) (ty := tyX1 0) 0 rfl iX1 tyX1_ok nmX1 rfl (by decide) (inT1 117 rfl rfl) rfl rfl rfl (tyX1_ok 0 (by decide)) rfl rfl (Nat.le_of_ble_eq_true rfl) dX1_init_12 ?_
  refine iw_eq (ws2 := ([(h0, .inr (1, [.ref (a9 d 1 0), .null, .null, .null, .null, .null, .null, .null, .null, .int 0, .int 0, .int 0, .int 0]))] ++ wsL (D, a9, T) Z0 (stallPos d))) rfl ?_
  refine iw_aload0 C dX1_init_15 ?_
  refine iw_new C (N := 5) (ci := 0) (fs := [.null, .null, .null, .null, .int 0]) iX0 tyX0 tyX0_ok cl_1_18 in_X0 mi_X0_init.2.1 rfl (fun j hj => by rcases (show j = 0 ∨ j = 1 ∨ j = 2 ∨ j = 3 ∨ j = 4 by omega) with rfl | rfl | rfl | rfl | rfl <;> rfl) (by decide) (by decide) dX1_init_16 (fun q16 => ?_)
  refine iw_dup C dX1_init_19 rfl ?_
  refine iw_initN C mi_X0_init rfl mv_X0_init mn_1_20 (c_X0_init d hd) (by decide) (Nat.le_of_ble_eq_true rfl) (by decide) (by decide) dX1_init_20 ?_
  rintro w20 ⟨a20, rfl, rfl⟩
  refine iw_putF C E (j := 1) (v := .ref (a20 d 8 0)) (ty := tyX1 1) 0 rfl iX1 tyX1_ok nmX1 rfl (by decide) (inT1 120 rfl rfl) rfl rfl rfl (tyX1_ok 1 (by decide)) rfl rfl (Nat.le_of_ble_eq_true rfl) dX1_init_23 ?_
  refine iw_eq (ws2 := (([(h0, .inr (1, [.ref (a9 d 1 0), .ref (a20 d 8 0), .null, .null, .null, .null, .null, .null, .null, .int 0, .int 0, .int 0, .int 0]))] ++ wsL (D, a9, T) Z0 (stallPos d)) ++ wsL (D, a20, T) Z0 (buyPos d))) rfl ?_
  refine iw_aload0 C dX1_init_26 ?_
  refine iw_iconst C dX1_init_27 ?_
  refine iw_newa C hArrI (by decide) (N := 4) (by decide) (by decide) (by decide) (by decide) dX1_init_28 (fun q28 => ?_)
  refine iw_eq (ws2 := ((([(h0, .inr (1, [.ref (a9 d 1 0), .ref (a20 d 8 0), .null, .null, .null, .null, .null, .null, .null, .int 0, .int 0, .int 0, .int 0]))] ++ wsL (D, a9, T) Z0 (stallPos d)) ++ wsL (D, a20, T) Z0 (buyPos d)) ++ [(q28, .inl (T.1, 4, .inl (fun _ => 0)))])) rfl ?_
  refine iw_putF C E (j := 2) (v := .ref q28) (ty := tyX1 2) 0 rfl iX1 tyX1_ok nmX1 rfl (by decide) (inT1 122 rfl rfl) rfl rfl rfl (tyX1_ok 2 (by decide)) rfl rfl (Nat.le_of_ble_eq_true rfl) dX1_init_30 ?_
  refine iw_eq (ws2 := ((([(h0, .inr (1, [.ref (a9 d 1 0), .ref (a20 d 8 0), .ref q28, .null, .null, .null, .null, .null, .null, .int 0, .int 0, .int 0, .int 0]))] ++ wsL (D, a9, T) Z0 (stallPos d)) ++ wsL (D, a20, T) Z0 (buyPos d)) ++ [(q28, .inl (T.1, 4, .inl (fun _ => 0)))])) rfl ?_
  refine iw_aload0 C dX1_init_33 ?_
  refine iw_iconst C dX1_init_34 ?_
  refine iw_newa C hArrI (by decide) (N := 4) (by decide) (by decide) (by decide) (by decide) dX1_init_35 (fun q35 => ?_)
  refine iw_eq (ws2 := (((([(h0, .inr (1, [.ref (a9 d 1 0), .ref (a20 d 8 0), .ref q28, .null, .null, .null, .null, .null, .null, .int 0, .int 0, .int 0, .int 0]))] ++ wsL (D, a9, T) Z0 (stallPos d)) ++ wsL (D, a20, T) Z0 (buyPos d)) ++ [(q28, .inl (T.1, 4, .inl (fun _ => 0)))]) ++ [(q35, .inl (T.1, 4, .inl (fun _ => 0)))])) rfl ?_
  refine iw_putF C E (j := 3) (v := .ref q35) (ty := tyX1 3) 0 rfl iX1 tyX1_ok nmX1 rfl (by decide) (inT1 125 rfl rfl) rfl rfl rfl (tyX1_ok 3 (by decide)) rfl rfl (Nat.le_of_ble_eq_true rfl) dX1_init_37 ?_
  refine iw_eq (ws2 := (((([(h0, .inr (1, [.ref (a9 d 1 0), .ref (a20 d 8 0), .ref q28, .ref q35, .null, .null, .null, .null, .null, .int 0, .int 0, .int 0, .int 0]))] ++ wsL (D, a9, T) Z0 (stallPos d)) ++ wsL (D, a20, T) Z0 (buyPos d)) ++ [(q28, .inl (T.1, 4, .inl (fun _ => 0)))]) ++ [(q35, .inl (T.1, 4, .inl (fun _ => 0)))])) rfl ?_
  refine iw_aload0 C dX1_init_40 ?_
  refine iw_iconst C dX1_init_41 ?_
  refine iw_newa C hArrI (by decide) (N := 4) (by decide) (by decide) (by decide) (by decide) dX1_init_42 (fun q42 => ?_)
  refine iw_eq (ws2 := ((((([(h0, .inr (1, [.ref (a9 d 1 0), .ref (a20 d 8 0), .ref q28, .ref q35, .null, .null, .null, .null, .null, .int 0, .int 0, .int 0, .int 0]))] ++ wsL (D, a9, T) Z0 (stallPos d)) ++ wsL (D, a20, T) Z0 (buyPos d)) ++ [(q28, .inl (T.1, 4, .inl (fun _ => 0)))]) ++ [(q35, .inl (T.1, 4, .inl (fun _ => 0)))]) ++ [(q42, .inl (T.1, 4, .inl (fun _ => 0)))])) rfl ?_
  refine iw_putF C E (j := 4) (v := .ref q42) (ty := tyX1 4) 0 rfl iX1 tyX1_ok nmX1 rfl (by decide) (inT1 127 rfl rfl) rfl rfl rfl (tyX1_ok 4 (by decide)) rfl rfl (Nat.le_of_ble_eq_true rfl) dX1_init_44 ?_
  refine iw_eq (ws2 := ((((([(h0, .inr (1, [.ref (a9 d 1 0), .ref (a20 d 8 0), .ref q28, .ref q35, .ref q42, .null, .null, .null, .null, .int 0, .int 0, .int 0, .int 0]))] ++ wsL (D, a9, T) Z0 (stallPos d)) ++ wsL (D, a20, T) Z0 (buyPos d)) ++ [(q28, .inl (T.1, 4, .inl (fun _ => 0)))]) ++ [(q35, .inl (T.1, 4, .inl (fun _ => 0)))]) ++ [(q42, .inl (T.1, 4, .inl (fun _ => 0)))])) rfl ?_
  refine iw_aload0 C dX1_init_47 ?_
  refine iw_bipush C dX1_init_48 (by decide) ?_
  refine iw_newa C hArrI (by decide) (N := 10) (by decide) (by decide) (by decide) (by decide) dX1_init_50 (fun q50 => ?_)
  refine iw_eq (ws2 := (((((([(h0, .inr (1, [.ref (a9 d 1 0), .ref (a20 d 8 0), .ref q28, .ref q35, .ref q42, .null, .null, .null, .null, .int 0, .int 0, .int 0, .int 0]))] ++ wsL (D, a9, T) Z0 (stallPos d)) ++ wsL (D, a20, T) Z0 (buyPos d)) ++ [(q28, .inl (T.1, 4, .inl (fun _ => 0)))]) ++ [(q35, .inl (T.1, 4, .inl (fun _ => 0)))]) ++ [(q42, .inl (T.1, 4, .inl (fun _ => 0)))]) ++ [(q50, .inl (T.1, 10, .inl (fun _ => 0)))])) rfl ?_
  refine iw_putF C E (j := 5) (v := .ref q50) (ty := tyX1 5) 0 rfl iX1 tyX1_ok nmX1 rfl (by decide) (inT1 129 rfl rfl) rfl rfl rfl (tyX1_ok 5 (by decide)) rfl rfl (Nat.le_of_ble_eq_true rfl) dX1_init_52 ?_
  refine iw_eq (ws2 := (((((([(h0, .inr (1, [.ref (a9 d 1 0), .ref (a20 d 8 0), .ref q28, .ref q35, .ref q42, .ref q50, .null, .null, .null, .int 0, .int 0, .int 0, .int 0]))] ++ wsL (D, a9, T) Z0 (stallPos d)) ++ wsL (D, a20, T) Z0 (buyPos d)) ++ [(q28, .inl (T.1, 4, .inl (fun _ => 0)))]) ++ [(q35, .inl (T.1, 4, .inl (fun _ => 0)))]) ++ [(q42, .inl (T.1, 4, .inl (fun _ => 0)))]) ++ [(q50, .inl (T.1, 10, .inl (fun _ => 0)))])) rfl ?_
  refine iw_aload0 C dX1_init_55 ?_
  refine iw_bipush C dX1_init_56 (by decide) ?_
  refine iw_newa C hArrI (by decide) (N := 10) (by decide) (by decide) (by decide) (by decide) dX1_init_58 (fun q58 => ?_)
  refine iw_eq (ws2 := ((((((([(h0, .inr (1, [.ref (a9 d 1 0), .ref (a20 d 8 0), .ref q28, .ref q35, .ref q42, .ref q50, .null, .null, .null, .int 0, .int 0, .int 0, .int 0]))] ++ wsL (D, a9, T) Z0 (stallPos d)) ++ wsL (D, a20, T) Z0 (buyPos d)) ++ [(q28, .inl (T.1, 4, .inl (fun _ => 0)))]) ++ [(q35, .inl (T.1, 4, .inl (fun _ => 0)))]) ++ [(q42, .inl (T.1, 4, .inl (fun _ => 0)))]) ++ [(q50, .inl (T.1, 10, .inl (fun _ => 0)))]) ++ [(q58, .inl (T.1, 10, .inl (fun _ => 0)))])) rfl ?_
  refine iw_putF C E (j := 6) (v := .ref q58) (ty := tyX1 6) 0 rfl iX1 tyX1_ok nmX1 rfl (by decide) (inT1 131 rfl rfl) rfl rfl rfl (tyX1_ok 6 (by decide)) rfl rfl (Nat.le_of_ble_eq_true rfl) dX1_init_60 ?_
  refine iw_eq (ws2 := ((((((([(h0, .inr (1, [.ref (a9 d 1 0), .ref (a20 d 8 0), .ref q28, .ref q35, .ref q42, .ref q50, .ref q58, .null, .null, .int 0, .int 0, .int 0, .int 0]))] ++ wsL (D, a9, T) Z0 (stallPos d)) ++ wsL (D, a20, T) Z0 (buyPos d)) ++ [(q28, .inl (T.1, 4, .inl (fun _ => 0)))]) ++ [(q35, .inl (T.1, 4, .inl (fun _ => 0)))]) ++ [(q42, .inl (T.1, 4, .inl (fun _ => 0)))]) ++ [(q50, .inl (T.1, 10, .inl (fun _ => 0)))]) ++ [(q58, .inl (T.1, 10, .inl (fun _ => 0)))])) rfl ?_
  refine iw_aload0 C dX1_init_63 ?_
  refine iw_bipush C dX1_init_64 (by decide) ?_
  refine iw_newa C hArrI (by decide) (N := 10) (by decide) (by decide) (by decide) (by decide) dX1_init_66 (fun q66 => ?_)
  refine iw_eq (ws2 := (((((((([(h0, .inr (1, [.ref (a9 d 1 0), .ref (a20 d 8 0), .ref q28, .ref q35, .ref q42, .ref q50, .ref q58, .null, .null, .int 0, .int 0, .int 0, .int 0]))] ++ wsL (D, a9, T) Z0 (stallPos d)) ++ wsL (D, a20, T) Z0 (buyPos d)) ++ [(q28, .inl (T.1, 4, .inl (fun _ => 0)))]) ++ [(q35, .inl (T.1, 4, .inl (fun _ => 0)))]) ++ [(q42, .inl (T.1, 4, .inl (fun _ => 0)))]) ++ [(q50, .inl (T.1, 10, .inl (fun _ => 0)))]) ++ [(q58, .inl (T.1, 10, .inl (fun _ => 0)))]) ++ [(q66, .inl (T.1, 10, .inl (fun _ => 0)))])) rfl ?_
  refine iw_putF C E (j := 7) (v := .ref q66) (ty := tyX1 7) 0 rfl iX1 tyX1_ok nmX1 rfl (by decide) (inT1 133 rfl rfl) rfl rfl rfl (tyX1_ok 7 (by decide)) rfl rfl (Nat.le_of_ble_eq_true rfl) dX1_init_68 ?_
  refine iw_eq (ws2 := (((((((([(h0, .inr (1, [.ref (a9 d 1 0), .ref (a20 d 8 0), .ref q28, .ref q35, .ref q42, .ref q50, .ref q58, .ref q66, .null, .int 0, .int 0, .int 0, .int 0]))] ++ wsL (D, a9, T) Z0 (stallPos d)) ++ wsL (D, a20, T) Z0 (buyPos d)) ++ [(q28, .inl (T.1, 4, .inl (fun _ => 0)))]) ++ [(q35, .inl (T.1, 4, .inl (fun _ => 0)))]) ++ [(q42, .inl (T.1, 4, .inl (fun _ => 0)))]) ++ [(q50, .inl (T.1, 10, .inl (fun _ => 0)))]) ++ [(q58, .inl (T.1, 10, .inl (fun _ => 0)))]) ++ [(q66, .inl (T.1, 10, .inl (fun _ => 0)))])) rfl ?_
  refine iw_aload0 C dX1_init_71 ?_
  refine iw_bipush C dX1_init_72 (by decide) ?_
  refine iw_newa C hArrI (by decide) (N := 10) (by decide) (by decide) (by decide) (by decide) dX1_init_74 (fun q74 => ?_)
  refine iw_eq (ws2 := ((((((((([(h0, .inr (1, [.ref (a9 d 1 0), .ref (a20 d 8 0), .ref q28, .ref q35, .ref q42, .ref q50, .ref q58, .ref q66, .null, .int 0, .int 0, .int 0, .int 0]))] ++ wsL (D, a9, T) Z0 (stallPos d)) ++ wsL (D, a20, T) Z0 (buyPos d)) ++ [(q28, .inl (T.1, 4, .inl (fun _ => 0)))]) ++ [(q35, .inl (T.1, 4, .inl (fun _ => 0)))]) ++ [(q42, .inl (T.1, 4, .inl (fun _ => 0)))]) ++ [(q50, .inl (T.1, 10, .inl (fun _ => 0)))]) ++ [(q58, .inl (T.1, 10, .inl (fun _ => 0)))]) ++ [(q66, .inl (T.1, 10, .inl (fun _ => 0)))]) ++ [(q74, .inl (T.1, 10, .inl (fun _ => 0)))])) rfl ?_
  refine iw_putF C E (j := 8) (v := .ref q74) (ty := tyX1 8) 0 rfl iX1 tyX1_ok nmX1 rfl (by decide) (inT1 135 rfl rfl) rfl rfl rfl (tyX1_ok 8 (by decide)) rfl rfl (Nat.le_of_ble_eq_true rfl) dX1_init_76 ?_
  refine iw_eq (ws2 := ((((((((([(h0, .inr (1, [.ref (a9 d 1 0), .ref (a20 d 8 0), .ref q28, .ref q35, .ref q42, .ref q50, .ref q58, .ref q66, .ref q74, .int 0, .int 0, .int 0, .int 0]))] ++ wsL (D, a9, T) Z0 (stallPos d)) ++ wsL (D, a20, T) Z0 (buyPos d)) ++ [(q28, .inl (T.1, 4, .inl (fun _ => 0)))]) ++ [(q35, .inl (T.1, 4, .inl (fun _ => 0)))]) ++ [(q42, .inl (T.1, 4, .inl (fun _ => 0)))]) ++ [(q50, .inl (T.1, 10, .inl (fun _ => 0)))]) ++ [(q58, .inl (T.1, 10, .inl (fun _ => 0)))]) ++ [(q66, .inl (T.1, 10, .inl (fun _ => 0)))]) ++ [(q74, .inl (T.1, 10, .inl (fun _ => 0)))])) rfl ?_
  refine iw_aload0 C dX1_init_79 ?_
  refine iw_bipush C dX1_init_80 (by decide) ?_
  refine iw_put C (j := 11) (v := iv (-9)) (ty := tyX1 11) 0 rfl iX1 tyX1_ok nmX1 rfl (by decide) (inT1 140 rfl rfl) rfl  rfl (tyX1_ok 11 (by decide)) rfl rfl (Nat.le_of_ble_eq_true rfl) dX1_init_82 ?_
  refine iw_eq (ws2 := ((((((((([(h0, .inr (1, [.ref (a9 d 1 0), .ref (a20 d 8 0), .ref q28, .ref q35, .ref q42, .ref q50, .ref q58, .ref q66, .ref q74, .int 0, .int 0, iv (-9), .int 0]))] ++ wsL (D, a9, T) Z0 (stallPos d)) ++ wsL (D, a20, T) Z0 (buyPos d)) ++ [(q28, .inl (T.1, 4, .inl (fun _ => 0)))]) ++ [(q35, .inl (T.1, 4, .inl (fun _ => 0)))]) ++ [(q42, .inl (T.1, 4, .inl (fun _ => 0)))]) ++ [(q50, .inl (T.1, 10, .inl (fun _ => 0)))]) ++ [(q58, .inl (T.1, 10, .inl (fun _ => 0)))]) ++ [(q66, .inl (T.1, 10, .inl (fun _ => 0)))]) ++ [(q74, .inl (T.1, 10, .inl (fun _ => 0)))])) rfl ?_
  rcases d01 hd with rfl | rfl
  · exact iw_ret C E (by decide) (by decide) dX1_init_85 ⟨fun d k r => match k with | 0 => h0 | 1 => a9 d 1 r | 2 => a9 d 2 r | 3 => a9 d 3 r | 4 => a9 d 4 r | 5 => a9 d 5 r | 6 => a9 d 6 r | 7 => a9 d 7 r | 8 => a20 d 8 r | 9 => a20 d 9 r | 10 => a20 d 10 r | 11 => a20 d 11 r | 12 => a20 d 12 r | 13 => q28 | 14 => q35 | 15 => q42 | 16 => q50 | 17 => q58 | 18 => q66 | 19 => q74 | _ => 0, rfl, rfl⟩
  · exact iw_ret C E (by decide) (by decide) dX1_init_85 ⟨fun d k r => match k with | 0 => h0 | 1 => a9 d 1 r | 2 => a9 d 2 r | 3 => a9 d 3 r | 4 => a9 d 4 r | 5 => a9 d 5 r | 6 => a9 d 6 r | 7 => a9 d 7 r | 8 => a20 d 8 r | 9 => a20 d 9 r | 10 => a20 d 10 r | 11 => a20 d 11 r | 12 => a20 d 12 r | 13 => q28 | 14 => q35 | 15 => q42 | 16 => q50 | 17 => q58 | 18 => q66 | 19 => q74 | _ => 0, rfl, rfl⟩
