theorem worthFr {D A B : DM} (a : Fr D A) (b : Fr D B) (h : ∀ r, 0 ≤ r → r < D 1 0 6 → A 13 0 r = B 13 0 r) (x s t : Int) : worth A x s t = worth B x s t := by
  have ea : ∀ (k : Nat) (r i : Int), 1 ≤ k → k ≤ 12 → A k r i = B k r i := fun k r i p q => (a k r i q (by omega)).trans (b k r i q (by omega)).symm
  have hd : dearer A s t ↔ dearer B s t := by
    unfold dearer
    rw [ea 1 0 6 (by omega) (by omega), ea 7 s t (by omega) (by omega)]
    have e6 : B 1 0 6 = D 1 0 6 := b 1 0 6 (by omega) (by omega)
    constructor
    · rintro ⟨r, c, d, e, f⟩
      exact ⟨r, c, d, by rw [← h r c (by omega)]; exact e, by rw [← ea 7 r t (by omega) (by omega)]; exact f⟩
    · rintro ⟨r, c, d, e, f⟩
      exact ⟨r, c, d, by rw [h r c (by omega)]; exact e, by rw [ea 7 r t (by omega) (by omega)]; exact f⟩
  unfold worth freshAt
  rw [ea 11 0 x (by omega) (by omega), ea 10 0 x (by omega) (by omega), ea 1 0 8 (by omega) (by omega), ea 4 0 s (by omega) (by omega), ea 5 0 s (by omega) (by omega), b01_e (P := B 1 0 8 ≠ 0 ∧ dearer A s t) (Q := B 1 0 8 ≠ 0 ∧ dearer B s t) (by rw [hd])]
theorem allL_e {g : Int} {A B : DM} (h : EQ g 1 A B) : allL B = allL A := by
  unfold allL
  rw [h.n]
  exact sumI_c (fun j a b => h 13 0 j (LC.l a b))
theorem allF_e {g z : Int} {A B : DM} (h : EQ g z A B) : allF B = allF A := by
  unfold allF
  rw [h.n]
  exact sumI_c (fun j a b => h 2 0 j (LC.s (by omega) (by omega) a b))
theorem Fr.e00 {A B : DM} (h : Fr A B) : EQ 0 0 A B := h.eq0
set_option maxRecDepth 100000 in
set_option maxHeartbeats 400000 in
theorem c_X9_worth {l : Launch} {S : SW} {M : Mem} {V : DM} {x s t : Int}  (hx : InR x) (hs : InR s) (ht : InR t) (hI : DayOk (mv V))  : PM l S yX9_worth cX9_worth 4 (some .int) 3 70 [rv S 3 0 0, iv x, iv s, iv t] (mst M 3 V) (rN (xWorth (mv V) x s t) M V (mv V)) := by
  refine PM.of (own := RX9) (by decide) rfl [some (rv S 3 0 0), some (iv x), some (iv s), some (iv t)] rfl rfl (Nat.le_of_ble_eq_true rfl) (fun X hXl C R => ?_)
  subst hXl
  obtain ⟨i1, i2, i3, i4, i5, i6, i7, i8⟩ := id hI
  have e5 : mv V 1 0 5 = V 0 0 1 := rfl
  have e6 : mv V 1 0 6 = V 0 0 2 := rfl
  have e7 : mv V 1 0 7 = V 0 0 8 := rfl
  have e8 : mv V 1 0 8 = V 0 0 9 := rfl
  have e84 : mv V 8 0 4 = V 0 0 15 := rfl
  refine pw_aload_n C dX9_worth_0 rfl ?_
  refine pw_iload_n C dX9_worth_1 rfl ?_
  refine pw_cVI C [_] mi_X9_noBuyer mv_X9_noBuyer ml_9_188 oM_0 rfl (c_X9_noBuyer (by omega)) (by decide) rfl (Nat.le_of_ble_eq_true rfl) dX9_worth_2 ?_
  refine pw_if_ne_b (tgt := 24) C dX9_worth_5 rfl (fun c5 => ?_) (fun c5 => ?_)
  · refine pw_iconst C dX9_worth_24 ?_
    exact pw_iret C R dX9_worth_25 ⟨(congrArg (fun q => some (iv q)) (by unfold xWorth; (try unfold has at *); (try unfold place at *); (try unfold hasB at *); (try unfold sw4); (try unfold sw3); (repeat (first | rw [pif_t (by first | omega | assumption)] | rw [pif_f (by first | omega | assumption)])); all_goals (first | rfl | omega | ((repeat' split) <;> first | rfl | omega)))), _, rfl, EQ.rf 0 0 _, P3.rf _⟩
  · refine pw_aload_n C dX9_worth_8 rfl ?_
    refine pw_iload_n C dX9_worth_9 rfl ?_
    refine pw_cVI C [_] mi_X9_noSort mv_X9_noSort ml_9_163 oM_0 rfl (c_X9_noSort (by omega)) (by decide) rfl (Nat.le_of_ble_eq_true rfl) dX9_worth_10 ?_
    refine pw_if_ne_b (tgt := 24) C dX9_worth_13 rfl (fun c13 => ?_) (fun c13 => ?_)
    · refine pw_iconst C dX9_worth_24 ?_
      exact pw_iret C R dX9_worth_25 ⟨(congrArg (fun q => some (iv q)) (by unfold xWorth; (try unfold has at *); (try unfold place at *); (try unfold hasB at *); (try unfold sw4); (try unfold sw3); (repeat (first | rw [pif_t (by first | omega | assumption)] | rw [pif_f (by first | omega | assumption)])); all_goals (first | rfl | omega | ((repeat' split) <;> first | rfl | omega)))), _, rfl, EQ.rf 0 0 _, P3.rf _⟩
    · refine pw_aload_n C dX9_worth_16 rfl ?_
      refine pw_iload_n C dX9_worth_17 rfl ?_
      refine pw_cVI C [_] mi_X9_noHour mv_X9_noHour ml_9_170 oM_0 rfl (c_X9_noHour (by omega)) (by decide) rfl (Nat.le_of_ble_eq_true rfl) dX9_worth_18 ?_
      refine pw_if_eq_b (tgt := 26) C dX9_worth_21 rfl (fun c21 => ?_) (fun c21 => ?_)
      · refine pw_aload_n C dX9_worth_26 rfl ?_
        refine pw_cVQV C [] mi_X9_layAll mv_X9_layAll ml_9_194 oM_0 rfl (c_X9_layAll hI) (by decide) rfl (Nat.le_of_ble_eq_true rfl) dX9_worth_27 ?_
        rintro N9 ⟨U, rfl, hU⟩
        have u6 : U 0 0 2 = V 0 0 2 := hU.1 1 0 6 (by omega) (by omega)
        have u5 : U 0 0 1 = V 0 0 1 := hU.1 1 0 5 (by omega) (by omega)
        have u15 : U 0 0 15 = V 0 0 15 := hU.1 8 0 4 (by omega) (by omega)
        have hIU := hI.fr hU.1
        obtain ⟨o1, o2, o3, o4⟩ := open_key hI
        have hw := worthFr hU.1 o1 (fun r a b => (hU.2.1 r a b).trans (o3 r a b).1.symm) x s t
        refine pw_aload_n C dX9_worth_30 rfl ?_
        refine pw_iload_n C dX9_worth_31 rfl ?_
        refine pw_iload_n C dX9_worth_32 rfl ?_
        refine pw_iload_n C dX9_worth_33 rfl ?_
        refine pw_cVI C [_, _, _] mi_X9_worthOf mv_X9_worthOf ml_9_197 oM_0 rfl (c_X9_worthOf (by omega) (by omega) (by omega) hIU (by omega) (by omega) (by omega) (by omega) (by omega) (by omega)) (by decide) rfl (Nat.le_of_ble_eq_true rfl) dX9_worth_34 ?_
        exact pw_iret C R dX9_worth_37 ⟨(congrArg (fun q => some (iv q)) (by unfold xWorth; (try unfold has at *); (try unfold place at *); (try unfold hasB at *); (try unfold sw4); (try unfold sw3); (repeat (first | rw [pif_t (by first | omega | assumption)] | rw [pif_f (by first | omega | assumption)])); all_goals (first | rfl | omega | ((repeat' split) <;> first | rfl | omega)))), _, rfl, Fr.e00 hU.1, hU.2.2.p3⟩
      · refine pw_iconst C dX9_worth_24 ?_
        exact pw_iret C R dX9_worth_25 ⟨(congrArg (fun q => some (iv q)) (by unfold xWorth; (try unfold has at *); (try unfold place at *); (try unfold hasB at *); (try unfold sw4); (try unfold sw3); (repeat (first | rw [pif_t (by first | omega | assumption)] | rw [pif_f (by first | omega | assumption)])); all_goals (first | rfl | omega | ((repeat' split) <;> first | rfl | omega)))), _, rfl, EQ.rf 0 0 _, P3.rf _⟩
set_option maxRecDepth 100000 in
set_option maxHeartbeats 400000 in
theorem c_X9_day {l : Launch} {S : SW} {M : Mem} {V : DM} {w : Int}  (hw : InR w) (hI : DayOk (mv V))  : PM l S yX9_day cX9_day 2 (some .int) 7 170 [rv S 3 0 0, iv w] (mst M 3 V) (rN (xDay (mv V) w) M V (mv V)) := by
  refine PM.of (own := RX9) (by decide) rfl [some (rv S 3 0 0), some (iv w)] rfl rfl (Nat.le_of_ble_eq_true rfl) (fun X hXl C R => ?_)
  subst hXl
  obtain ⟨i1, i2, i3, i4, i5, i6, i7, i8⟩ := id hI
  have e5 : mv V 1 0 5 = V 0 0 1 := rfl
  have e6 : mv V 1 0 6 = V 0 0 2 := rfl
  have e7 : mv V 1 0 7 = V 0 0 8 := rfl
  have e8 : mv V 1 0 8 = V 0 0 9 := rfl
  have e84 : mv V 8 0 4 = V 0 0 15 := rfl
  refine pw_iload_n C dX9_day_0 rfl ?_
  refine pw_i2l C (by omega) dX9_day_1 ?_
  refine pw_lconst0 C dX9_day_2 ?_
  refine pw_ldc2 C (n := 3) (inT4 114 rfl rfl) (by decide) dX9_day_3 ?_
  refine pw_cSI C [_, _, _] mi_X9_in ms_X9_in ml_9_87 (c_X9_in (by omega) (by omega) (by omega)) (by decide) rfl (Nat.le_of_ble_eq_true rfl) dX9_day_6 ?_
  refine pw_if_ne_b (tgt := 15) C dX9_day_9 rfl (fun c9 => ?_) (fun c9 => ?_)
  · refine pw_aload_n C dX9_day_15 rfl ?_
    refine gv_9_116 C dX9_day_16 (fun r16 => ?_)
    refine pw_if_ne (tgt := 25) C dX9_day_19 rfl (by omega) (fun c19 => ?_) (fun c19 => ?_)
    · refine pw_aload_n C dX9_day_25 rfl ?_
      refine pw_iconst C dX9_day_26 ?_
      refine pw_bipush C dX9_day_27 (by decide) ?_
      refine pw_iconst C dX9_day_29 ?_
      refine pw_cVQV C [_, _, _] mi_X9_goThrough mv_X9_goThrough ml_9_225 oM_0 rfl (c_X9_goThrough (g := 1) (by omega) (by omega) (by omega) hI (Or.inl rfl) (fun _ => rfl)) (by decide) rfl (Nat.le_of_ble_eq_true rfl) dX9_day_30 ?_
      rintro N9 ⟨U, rfl, hU, kU⟩
      have hU := gtM hI hU
      have u0 := gt_00 hU
      have u6 : U 0 0 2 = V 0 0 2 := u0.n
      have u15 : U 0 0 15 = V 0 0 15 := u0.c
      have u1 : U 0 0 1 = V 0 0 1 := u0.h
      have hin : U 0 0 21 = gt (mv V) 0 0 9 := hU 0 0 9 LC.in0
      have hL := allL_e hU
      have hFs := allF_e hU
      have hP : profitV (mv U) = prf (mv V) := hU.profitE
      have u00 := u0.wk 0 0 (by omega)
      have g6 : gt (mv V) 1 0 6 = V 0 0 2 := (Fr.rf (mv V)).gtF 1 0 6 (by omega) (by omega)
      have g8 : gt (mv V) 8 0 4 = V 0 0 15 := (Fr.rf (mv V)).gtF 8 0 4 (by omega) (by omega)
      refine pw_iload_n C dX9_day_33 rfl ?_
      refine pw_if_ne (tgt := 44) C dX9_day_34 rfl (by omega) (fun c34 => ?_) (fun c34 => ?_)
      · refine pw_iload_n C dX9_day_44 rfl ?_
        refine pw_iconst C dX9_day_45 ?_
        refine pw_icmp_ne (tgt := 61) C dX9_day_46 rfl (by omega) (by omega) (fun c46 => ?_) (fun c46 => ?_)
        · refine pw_iload_n C dX9_day_61 rfl ?_
          refine pw_iconst C dX9_day_62 ?_
          refine pw_icmp_ne (tgt := 73) C dX9_day_63 rfl (by omega) (by omega) (fun c63 => ?_) (fun c63 => ?_)
          · refine pw_aload_n C dX9_day_73 rfl ?_
            refine pw_cVI C [] mi_X9_profitOf mv_X9_profitOf ml_9_228 oM_0 rfl (c_X9_profitOf (by omega) (by omega)) (by decide) rfl (Nat.le_of_ble_eq_true rfl) dX9_day_74 ?_
            exact pw_iret C R dX9_day_77 ⟨(congrArg (fun q => some (iv q)) (by unfold xDay; (try unfold has at *); (try unfold place at *); (try unfold hasB at *); (try unfold sw4); (try unfold sw3); (repeat (first | rw [pif_t (by first | omega | assumption)] | rw [pif_f (by first | omega | assumption)])); all_goals (first | rfl | omega | ((repeat' split) <;> first | rfl | omega)))), _, rfl, u00, kU.p3⟩
          · refine pw_aload_n C dX9_day_66 rfl ?_
            refine pw_cVI C [] mi_X9_left mv_X9_left ml_9_221 oM_0 rfl (c_X9_left (by omega) (by omega)) (by decide) rfl (Nat.le_of_ble_eq_true rfl) dX9_day_67 ?_
            refine pw_goto (tgt := 77) C dX9_day_70 rfl ?_
            exact pw_iret C R dX9_day_77 ⟨(congrArg (fun q => some (iv q)) (by unfold xDay; (try unfold has at *); (try unfold place at *); (try unfold hasB at *); (try unfold sw4); (try unfold sw3); (repeat (first | rw [pif_t (by first | omega | assumption)] | rw [pif_f (by first | omega | assumption)])); all_goals (first | rfl | omega | ((repeat' split) <;> first | rfl | omega)))), _, rfl, u00, kU.p3⟩
        · refine pw_aload_n C dX9_day_49 rfl ?_
          refine pw_cVI C [] mi_X9_allFish mv_X9_allFish ml_9_233 oM_0 rfl (c_X9_allFish (by omega) (by omega)) (by decide) rfl (Nat.le_of_ble_eq_true rfl) dX9_day_50 ?_
          refine pw_aload_n C dX9_day_53 rfl ?_
          refine pw_cVI C [] mi_X9_left mv_X9_left ml_9_221 oM_0 rfl (c_X9_left (by omega) (by omega)) (by decide) rfl (Nat.le_of_ble_eq_true rfl) dX9_day_54 ?_
          refine pw_isub C dX9_day_57 ?_
          refine pw_goto (tgt := 77) C dX9_day_58 rfl ?_
          exact pw_iret C R dX9_day_77 ⟨(congrArg (fun q => some (iv q)) (by unfold xDay; (try unfold has at *); (try unfold place at *); (try unfold hasB at *); (try unfold sw4); (try unfold sw3); (repeat (first | rw [pif_t (by first | omega | assumption)] | rw [pif_f (by first | omega | assumption)])); all_goals (first | rfl | omega | ((repeat' split) <;> first | rfl | omega)))), _, rfl, u00, kU.p3⟩
      · refine pw_aload_n C dX9_day_37 rfl ?_
        refine gv_9_207 C dX9_day_38 (fun r38 => ?_)
        refine pw_goto (tgt := 77) C dX9_day_41 rfl ?_
        exact pw_iret C R dX9_day_77 ⟨(congrArg (fun q => some (iv q)) (by unfold xDay; (try unfold has at *); (try unfold place at *); (try unfold hasB at *); (try unfold sw4); (try unfold sw3); (repeat (first | rw [pif_t (by first | omega | assumption)] | rw [pif_f (by first | omega | assumption)])); all_goals (first | rfl | omega | ((repeat' split) <;> first | rfl | omega)))), _, rfl, u00, kU.p3⟩
    · refine pw_bipush C dX9_day_22 (by decide) ?_
      exact pw_iret C R dX9_day_24 ⟨(congrArg (fun q => some (iv q)) (by unfold xDay; (try unfold has at *); (try unfold place at *); (try unfold hasB at *); (try unfold sw4); (try unfold sw3); (repeat (first | rw [pif_t (by first | omega | assumption)] | rw [pif_f (by first | omega | assumption)])); all_goals (first | rfl | omega | ((repeat' split) <;> first | rfl | omega)))), _, rfl, EQ.rf 0 0 _, P3.rf _⟩
  · refine pw_bipush C dX9_day_12 (by decide) ?_
    exact pw_iret C R dX9_day_14 ⟨(congrArg (fun q => some (iv q)) (by unfold xDay; (try unfold has at *); (try unfold place at *); (try unfold hasB at *); (try unfold sw4); (try unfold sw3); (repeat (first | rw [pif_t (by first | omega | assumption)] | rw [pif_f (by first | omega | assumption)])); all_goals (first | rfl | omega | ((repeat' split) <;> first | rfl | omega)))), _, rfl, EQ.rf 0 0 _, P3.rf _⟩
set_option maxRecDepth 100000 in
set_option maxHeartbeats 400000 in
theorem c_X9_bought {l : Launch} {S : SW} {M : Mem} {V : DM} {x w : Int}  (hx : InR x) (hw : InR w) (hI : DayOk (mv V))  : PM l S yX9_bought cX9_bought 3 (some .int) 7 170 [rv S 3 0 0, iv x, iv w] (mst M 3 V) (rN (xBought (mv V) x w) M V (mv V)) := by
  refine PM.of (own := RX9) (by decide) rfl [some (rv S 3 0 0), some (iv x), some (iv w)] rfl rfl (Nat.le_of_ble_eq_true rfl) (fun X hXl C R => ?_)
  subst hXl
  obtain ⟨i1, i2, i3, i4, i5, i6, i7, i8⟩ := id hI
  have e5 : mv V 1 0 5 = V 0 0 1 := rfl
  have e6 : mv V 1 0 6 = V 0 0 2 := rfl
  have e7 : mv V 1 0 7 = V 0 0 8 := rfl
  have e8 : mv V 1 0 8 = V 0 0 9 := rfl
  have e84 : mv V 8 0 4 = V 0 0 15 := rfl
  refine pw_aload_n C dX9_bought_0 rfl ?_
  refine pw_iload_n C dX9_bought_1 rfl ?_
  refine pw_cVI C [_] mi_X9_noBuyer mv_X9_noBuyer ml_9_188 oM_0 rfl (c_X9_noBuyer (by omega)) (by decide) rfl (Nat.le_of_ble_eq_true rfl) dX9_bought_2 ?_
  refine pw_if_eq_b (tgt := 10) C dX9_bought_5 rfl (fun c5 => ?_) (fun c5 => ?_)
  · refine pw_aload_n C dX9_bought_10 rfl ?_
    refine pw_iconst C dX9_bought_11 ?_
    refine pw_bipush C dX9_bought_12 (by decide) ?_
    refine pw_iconst C dX9_bought_14 ?_
    refine pw_cVQV C [_, _, _] mi_X9_goThrough mv_X9_goThrough ml_9_225 oM_0 rfl (c_X9_goThrough (g := 1) (by omega) (by omega) (by omega) hI (Or.inl rfl) (fun _ => rfl)) (by decide) rfl (Nat.le_of_ble_eq_true rfl) dX9_bought_15 ?_
    rintro N9 ⟨U, rfl, hU, kU⟩
    have hU := gtM hI hU
    have u0 := gt_00 hU
    have u6 : U 0 0 2 = V 0 0 2 := u0.n
    have u15 : U 0 0 15 = V 0 0 15 := u0.c
    have u1 : U 0 0 1 = V 0 0 1 := u0.h
    have hin : U 0 0 21 = gt (mv V) 0 0 9 := hU 0 0 9 LC.in0
    have hL := allL_e hU
    have hFs := allF_e hU
    have hP : profitV (mv U) = prf (mv V) := hU.profitE
    have u00 := u0.wk 0 0 (by omega)
    have g6 : gt (mv V) 1 0 6 = V 0 0 2 := (Fr.rf (mv V)).gtF 1 0 6 (by omega) (by omega)
    have g8 : gt (mv V) 8 0 4 = V 0 0 15 := (Fr.rf (mv V)).gtF 8 0 4 (by omega) (by omega)
    refine pw_iload_n C dX9_bought_18 rfl ?_
    refine pw_tsw4 C 48 55 62 69 76 (by omega) dX9_bought_19 rfl rfl rfl rfl rfl rfl (fun c19 => ?_) (fun c19 => ?_) (fun c19 => ?_) (fun c19 => ?_) (fun c19 => ?_)
    · have b9 : U 23 0 x = gt (mv V) 16 0 x := hU 16 0 x (LC.t (by omega) (by omega) (by omega) (by omega))
      refine pw_aload_n C dX9_bought_48 rfl ?_
      refine gf_9_43 C dX9_bought_49 ?_
      refine pw_iload_n C dX9_bought_52 rfl ?_
      refine pw_ialdV C aM_23 (by omega) (by omega) (by decide) dX9_bought_53 (fun r53 => ?_)
      exact pw_iret C R dX9_bought_54 ⟨(congrArg (fun q => some (iv q)) (by unfold xBought; (try unfold has at *); (try unfold place at *); (try unfold hasB at *); (try unfold sw4); (try unfold sw3); (repeat (first | rw [pif_t (by first | omega | assumption)] | rw [pif_f (by first | omega | assumption)])); all_goals (first | rfl | omega | ((repeat' split) <;> first | rfl | omega)))), _, rfl, u00, kU.p3⟩
    · have b9 : U 24 0 x = gt (mv V) 17 0 x := hU 17 0 x (LC.t (by omega) (by omega) (by omega) (by omega))
      refine pw_aload_n C dX9_bought_55 rfl ?_
      refine gf_9_46 C dX9_bought_56 ?_
      refine pw_iload_n C dX9_bought_59 rfl ?_
      refine pw_ialdV C aM_24 (by omega) (by omega) (by decide) dX9_bought_60 (fun r60 => ?_)
      exact pw_iret C R dX9_bought_61 ⟨(congrArg (fun q => some (iv q)) (by unfold xBought; (try unfold has at *); (try unfold place at *); (try unfold hasB at *); (try unfold sw4); (try unfold sw3); (repeat (first | rw [pif_t (by first | omega | assumption)] | rw [pif_f (by first | omega | assumption)])); all_goals (first | rfl | omega | ((repeat' split) <;> first | rfl | omega)))), _, rfl, u00, kU.p3⟩
    · have b9 : U 25 0 x = gt (mv V) 18 0 x := hU 18 0 x (LC.t (by omega) (by omega) (by omega) (by omega))
      refine pw_aload_n C dX9_bought_62 rfl ?_
      refine gf_9_49 C dX9_bought_63 ?_
      refine pw_iload_n C dX9_bought_66 rfl ?_
      refine pw_ialdV C aM_25 (by omega) (by omega) (by decide) dX9_bought_67 (fun r67 => ?_)
      exact pw_iret C R dX9_bought_68 ⟨(congrArg (fun q => some (iv q)) (by unfold xBought; (try unfold has at *); (try unfold place at *); (try unfold hasB at *); (try unfold sw4); (try unfold sw3); (repeat (first | rw [pif_t (by first | omega | assumption)] | rw [pif_f (by first | omega | assumption)])); all_goals (first | rfl | omega | ((repeat' split) <;> first | rfl | omega)))), _, rfl, u00, kU.p3⟩
    · have b9 : U 26 0 x = gt (mv V) 19 0 x := hU 19 0 x (LC.t (by omega) (by omega) (by omega) (by omega))
      refine pw_aload_n C dX9_bought_69 rfl ?_
      refine gf_9_52 C dX9_bought_70 ?_
      refine pw_iload_n C dX9_bought_73 rfl ?_
      refine pw_ialdV C aM_26 (by omega) (by omega) (by decide) dX9_bought_74 (fun r74 => ?_)
      exact pw_iret C R dX9_bought_75 ⟨(congrArg (fun q => some (iv q)) (by unfold xBought; (try unfold has at *); (try unfold place at *); (try unfold hasB at *); (try unfold sw4); (try unfold sw3); (repeat (first | rw [pif_t (by first | omega | assumption)] | rw [pif_f (by first | omega | assumption)])); all_goals (first | rfl | omega | ((repeat' split) <;> first | rfl | omega)))), _, rfl, u00, kU.p3⟩
    · refine pw_bipush C dX9_bought_76 (by decide) ?_
      exact pw_iret C R dX9_bought_78 ⟨(congrArg (fun q => some (iv q)) (by unfold xBought; (try unfold has at *); (try unfold place at *); (try unfold hasB at *); (try unfold sw4); (try unfold sw3); (repeat (first | rw [pif_t (by first | omega | assumption)] | rw [pif_f (by first | omega | assumption)])); all_goals (first | rfl | omega | ((repeat' split) <;> first | rfl | omega)))), _, rfl, u00, kU.p3⟩
  · refine pw_iconst C dX9_bought_8 ?_
    exact pw_iret C R dX9_bought_9 ⟨(congrArg (fun q => some (iv q)) (by unfold xBought; (try unfold has at *); (try unfold place at *); (try unfold hasB at *); (try unfold sw4); (try unfold sw3); (repeat (first | rw [pif_t (by first | omega | assumption)] | rw [pif_f (by first | omega | assumption)])); all_goals (first | rfl | omega | ((repeat' split) <;> first | rfl | omega)))), _, rfl, EQ.rf 0 0 _, P3.rf _⟩
set_option maxRecDepth 100000 in
set_option maxHeartbeats 400000 in
theorem c_X9_sold {l : Launch} {S : SW} {M : Mem} {V : DM} {s w : Int}  (hs : InR s) (hw : InR w) (hI : DayOk (mv V))  : PM l S yX9_sold cX9_sold 3 (some .int) 7 170 [rv S 3 0 0, iv s, iv w] (mst M 3 V) (rN (xSold (mv V) s w) M V (mv V)) := by
  refine PM.of (own := RX9) (by decide) rfl [some (rv S 3 0 0), some (iv s), some (iv w)] rfl rfl (Nat.le_of_ble_eq_true rfl) (fun X hXl C R => ?_)
  subst hXl
  obtain ⟨i1, i2, i3, i4, i5, i6, i7, i8⟩ := id hI
  have e5 : mv V 1 0 5 = V 0 0 1 := rfl
  have e6 : mv V 1 0 6 = V 0 0 2 := rfl
  have e7 : mv V 1 0 7 = V 0 0 8 := rfl
  have e8 : mv V 1 0 8 = V 0 0 9 := rfl
  have e84 : mv V 8 0 4 = V 0 0 15 := rfl
  refine pw_aload_n C dX9_sold_0 rfl ?_
  refine pw_iload_n C dX9_sold_1 rfl ?_
  refine pw_cVI C [_] mi_X9_noSort mv_X9_noSort ml_9_163 oM_0 rfl (c_X9_noSort (by omega)) (by decide) rfl (Nat.le_of_ble_eq_true rfl) dX9_sold_2 ?_
  refine pw_if_eq_b (tgt := 10) C dX9_sold_5 rfl (fun c5 => ?_) (fun c5 => ?_)
  · refine pw_aload_n C dX9_sold_10 rfl ?_
    refine pw_iconst C dX9_sold_11 ?_
    refine pw_bipush C dX9_sold_12 (by decide) ?_
    refine pw_iconst C dX9_sold_14 ?_
    refine pw_cVQV C [_, _, _] mi_X9_goThrough mv_X9_goThrough ml_9_225 oM_0 rfl (c_X9_goThrough (g := 1) (by omega) (by omega) (by omega) hI (Or.inl rfl) (fun _ => rfl)) (by decide) rfl (Nat.le_of_ble_eq_true rfl) dX9_sold_15 ?_
    rintro N9 ⟨U, rfl, hU, kU⟩
    have hU := gtM hI hU
    have u0 := gt_00 hU
    have u6 : U 0 0 2 = V 0 0 2 := u0.n
    have u15 : U 0 0 15 = V 0 0 15 := u0.c
    have u1 : U 0 0 1 = V 0 0 1 := u0.h
    have hin : U 0 0 21 = gt (mv V) 0 0 9 := hU 0 0 9 LC.in0
    have hL := allL_e hU
    have hFs := allF_e hU
    have hP : profitV (mv U) = prf (mv V) := hU.profitE
    have u00 := u0.wk 0 0 (by omega)
    have g6 : gt (mv V) 1 0 6 = V 0 0 2 := (Fr.rf (mv V)).gtF 1 0 6 (by omega) (by omega)
    have g8 : gt (mv V) 8 0 4 = V 0 0 15 := (Fr.rf (mv V)).gtF 8 0 4 (by omega) (by omega)
    refine pw_iload_n C dX9_sold_18 rfl ?_
    refine pw_if_ne (tgt := 31) C dX9_sold_19 rfl (by omega) (fun c19 => ?_) (fun c19 => ?_)
    · refine pw_iload_n C dX9_sold_31 rfl ?_
      refine pw_iconst C dX9_sold_32 ?_
      refine pw_icmp_ne (tgt := 45) C dX9_sold_33 rfl (by omega) (by omega) (fun c33 => ?_) (fun c33 => ?_)
      · refine pw_iload_n C dX9_sold_45 rfl ?_
        refine pw_iconst C dX9_sold_46 ?_
        refine pw_icmp_ne (tgt := 59) C dX9_sold_47 rfl (by omega) (by omega) (fun c47 => ?_) (fun c47 => ?_)
        · refine pw_bipush C dX9_sold_59 (by decide) ?_
          exact pw_iret C R dX9_sold_61 ⟨(congrArg (fun q => some (iv q)) (by unfold xSold; (try unfold has at *); (try unfold place at *); (try unfold hasB at *); (try unfold sw4); (try unfold sw3); (repeat (first | rw [pif_t (by first | omega | assumption)] | rw [pif_f (by first | omega | assumption)])); all_goals (first | rfl | omega | ((repeat' split) <;> first | rfl | omega)))), _, rfl, u00, kU.p3⟩
        · have b9 : U 28 0 s = gt (mv V) 15 0 s := hU 15 0 s (LC.gp (by omega) (by omega) (by omega))
          refine pw_aload_n C dX9_sold_50 rfl ?_
          refine gf_9_58 C dX9_sold_51 ?_
          refine pw_iload_n C dX9_sold_54 rfl ?_
          refine pw_ialdV C aM_28 (by omega) (by omega) (by decide) dX9_sold_55 (fun r55 => ?_)
          refine pw_goto (tgt := 61) C dX9_sold_56 rfl ?_
          exact pw_iret C R dX9_sold_61 ⟨(congrArg (fun q => some (iv q)) (by unfold xSold; (try unfold has at *); (try unfold place at *); (try unfold hasB at *); (try unfold sw4); (try unfold sw3); (repeat (first | rw [pif_t (by first | omega | assumption)] | rw [pif_f (by first | omega | assumption)])); all_goals (first | rfl | omega | ((repeat' split) <;> first | rfl | omega)))), _, rfl, u00, kU.p3⟩
      · have b9 : U 27 0 s = gt (mv V) 14 0 s := hU 14 0 s (LC.gp (by omega) (by omega) (by omega))
        refine pw_aload_n C dX9_sold_36 rfl ?_
        refine gf_9_55 C dX9_sold_37 ?_
        refine pw_iload_n C dX9_sold_40 rfl ?_
        refine pw_ialdV C aM_27 (by omega) (by omega) (by decide) dX9_sold_41 (fun r41 => ?_)
        refine pw_goto (tgt := 61) C dX9_sold_42 rfl ?_
        exact pw_iret C R dX9_sold_61 ⟨(congrArg (fun q => some (iv q)) (by unfold xSold; (try unfold has at *); (try unfold place at *); (try unfold hasB at *); (try unfold sw4); (try unfold sw3); (repeat (first | rw [pif_t (by first | omega | assumption)] | rw [pif_f (by first | omega | assumption)])); all_goals (first | rfl | omega | ((repeat' split) <;> first | rfl | omega)))), _, rfl, u00, kU.p3⟩
    · have b9 : U 21 0 s = gt (mv V) 13 0 s := hU 13 0 s (LC.l (by omega) (by omega))
      refine pw_aload_n C dX9_sold_22 rfl ?_
      refine gf_9_40 C dX9_sold_23 ?_
      refine pw_iload_n C dX9_sold_26 rfl ?_
      refine pw_ialdV C aM_21 (by omega) (by omega) (by decide) dX9_sold_27 (fun r27 => ?_)
      refine pw_goto (tgt := 61) C dX9_sold_28 rfl ?_
      exact pw_iret C R dX9_sold_61 ⟨(congrArg (fun q => some (iv q)) (by unfold xSold; (try unfold has at *); (try unfold place at *); (try unfold hasB at *); (try unfold sw4); (try unfold sw3); (repeat (first | rw [pif_t (by first | omega | assumption)] | rw [pif_f (by first | omega | assumption)])); all_goals (first | rfl | omega | ((repeat' split) <;> first | rfl | omega)))), _, rfl, u00, kU.p3⟩
  · refine pw_iconst C dX9_sold_8 ?_
    exact pw_iret C R dX9_sold_9 ⟨(congrArg (fun q => some (iv q)) (by unfold xSold; (try unfold has at *); (try unfold place at *); (try unfold hasB at *); (try unfold sw4); (try unfold sw3); (repeat (first | rw [pif_t (by first | omega | assumption)] | rw [pif_f (by first | omega | assumption)])); all_goals (first | rfl | omega | ((repeat' split) <;> first | rfl | omega)))), _, rfl, EQ.rf 0 0 _, P3.rf _⟩
