theorem cookV_q (V : DM) (s t c : Int) : EQ 0 0 V (cookV V s t c) := fun k r i hl => cookV_at _ _ _ _ (by rcases hl with q | q | q | q | q | q | q | q | q <;> omega)
set_option maxRecDepth 100000 in
set_option maxHeartbeats 400000 in
theorem c_X9_carried {l : Launch} {S : SW} {M : Mem} {V : DM} {s : Int}  (hs : InR s) (hI : DayOk (mv V))  : PM l S yX9_carried cX9_carried 5 (some .int) 8 190 [rv S 3 0 0, iv s] (mst M 3 V) (rN (xCarried (mv V) s) M V (mv V)) := by
  refine PM.of (own := RX9) (by decide) rfl [some (rv S 3 0 0), some (iv s), none, none, none] rfl rfl (Nat.le_of_ble_eq_true rfl) (fun X hXl C R => ?_)
  subst hXl
  obtain ⟨i1, i2, i3, i4, i5, i6, i7, i8⟩ := id hI
  have e5 : mv V 1 0 5 = V 0 0 1 := rfl
  have e6 : mv V 1 0 6 = V 0 0 2 := rfl
  have e7 : mv V 1 0 7 = V 0 0 8 := rfl
  have e8 : mv V 1 0 8 = V 0 0 9 := rfl
  have e84 : mv V 8 0 4 = V 0 0 15 := rfl
  refine pw_aload_n C dX9_carried_0 rfl ?_
  refine pw_iload_n C dX9_carried_1 rfl ?_
  refine pw_cVI C [_] mi_X9_noSort mv_X9_noSort ml_9_163 oM_0 rfl (c_X9_noSort (by omega)) (by decide) rfl (Nat.le_of_ble_eq_true rfl) dX9_carried_2 ?_
  refine pw_if_eq_b (tgt := 10) C dX9_carried_5 rfl (fun c5 => ?_) (fun c5 => ?_)
  · refine pw_aload_n C dX9_carried_10 rfl ?_
    refine gf_9_7 C dX9_carried_11 ?_
    refine pw_iload_n C dX9_carried_14 rfl ?_
    refine pw_ialdV C aM_4 (by omega) (by omega) (by decide) dX9_carried_15 (fun r15 => ?_)
    refine pw_istore_2 C dX9_carried_16 (k := ?_)
    have j5 : (0 ≤ V 4 0 s ∧ V 4 0 s ≤ 9) ∧ _ := i5 s (by omega) (by omega)
    refine pw_aload_n C dX9_carried_17 rfl ?_
    refine pw_cVQI C [] mi_X9_profit mv_X9_profit ml_9_236 oM_0 rfl (c_X9_profit hI) (by decide) rfl (Nat.le_of_ble_eq_true rfl) dX9_carried_18 ?_
    rintro x9 N9 ⟨rfl, U1, rfl, hU1, kU1⟩
    have u6 : U1 0 0 2 = V 0 0 2 := hU1.n
    have u15 : U1 0 0 15 = V 0 0 15 := hU1.c
    have u1 : U1 0 0 1 = V 0 0 1 := hU1.h
    have hIU1 := hI.eq hU1
    refine pw_istore_3 C dX9_carried_21 (k := ?_)
    refine pw_aload_n C dX9_carried_22 rfl ?_
    refine gf_9_7 C dX9_carried_23 ?_
    refine pw_iload_n C dX9_carried_26 rfl ?_
    refine pw_iconst C dX9_carried_27 ?_
    refine pw_iastV C aM_4 (by omega) (by omega) (by decide) (by omega) dX9_carried_28 ?_
    refine pw_aload_n C dX9_carried_29 rfl ?_
    have m2 : EQ 0 0 (vup (mv V) 2 0 s 0) (mv (vup U1 4 0 s 0)) := by rw [mvu_4]; exact hU1.up 0 (by omega)
    have hI2 : DayOk (vup (mv V) 2 0 s 0) := fish_ok hI (by omega) (by omega)
    have hI3 := hI2.eq m2
    refine pw_cVQI C [] mi_X9_profit mv_X9_profit ml_9_236 oM_0 rfl (c_X9_profit hI3) (by decide) rfl (Nat.le_of_ble_eq_true rfl) dX9_carried_30 ?_
    rintro x9 N9 ⟨hx9, U2, rfl, hU2, kU2⟩
    rw [prf_e (g := 0) hI2 m2 (Or.inl ⟨rfl, rfl⟩)] at hx9
    subst hx9
    refine pw_istore_4 C dX9_carried_33 (k := ?_)
    refine pw_aload_n C dX9_carried_35 rfl ?_
    refine gf_9_7 C dX9_carried_36 ?_
    refine pw_iload_n C dX9_carried_39 rfl ?_
    refine pw_iload_n C dX9_carried_40 rfl ?_
    refine pw_iastV C aM_4 (by omega) (by omega) (by decide) (by omega) dX9_carried_41 ?_
    refine pw_iload_n C dX9_carried_42 rfl ?_
    refine pw_iload C dX9_carried_43 rfl ?_
    refine pw_isub C dX9_carried_45 ?_
    exact pw_iret C R dX9_carried_46 ⟨(congrArg (fun q => some (iv q)) (by unfold xCarried; (try unfold has at *); (try unfold place at *); (try unfold hasB at *); (try unfold sw4); (try unfold sw3); (repeat (first | rw [pif_t (by first | omega | assumption)] | rw [pif_f (by first | omega | assumption)])); all_goals (first | rfl | omega | ((repeat' split) <;> first | rfl | omega)))), _, rfl, (by have e := (m2.tr hU2).up (k := 2) (r := 0) (i := s) (V 4 0 s) (by omega); have e2 : vup (mv V) 2 0 s (V 4 0 s) = mv V := vup_id (mv V) 2 0 s; rw [vup_2, e2] at e; rw [mvu_4]; exact e), (((kU1.up (by omega)).tr kU2).up (by omega)).p3⟩
  · refine pw_iconst C dX9_carried_8 ?_
    exact pw_iret C R dX9_carried_9 ⟨(congrArg (fun q => some (iv q)) (by unfold xCarried; (try unfold has at *); (try unfold place at *); (try unfold hasB at *); (try unfold sw4); (try unfold sw3); (repeat (first | rw [pif_t (by first | omega | assumption)] | rw [pif_f (by first | omega | assumption)])); all_goals (first | rfl | omega | ((repeat' split) <;> first | rfl | omega)))), _, rfl, EQ.rf 0 0 _, P3.rf _⟩
set_option maxRecDepth 100000 in
set_option maxHeartbeats 400000 in
theorem c_X9_cook {l : Launch} {S : SW} {M : Mem} {V : DM} {s t c : Int}  (hs : InR s) (ht : InR t) (hc : InR c) (hI : DayOk (mv V))  : PM l S yX9_cook cX9_cook 5 (some .int) 8 190 [rv S 3 0 0, iv s, iv t, iv c] (mst M 3 V) (rN (xCook (mv V) s t c) M V (mv V)) := by
  refine PM.of (own := RX9) (by decide) rfl [some (rv S 3 0 0), some (iv s), some (iv t), some (iv c), none] rfl rfl (Nat.le_of_ble_eq_true rfl) (fun X hXl C R => ?_)
  subst hXl
  obtain ⟨i1, i2, i3, i4, i5, i6, i7, i8⟩ := id hI
  have e5 : mv V 1 0 5 = V 0 0 1 := rfl
  have e6 : mv V 1 0 6 = V 0 0 2 := rfl
  have e7 : mv V 1 0 7 = V 0 0 8 := rfl
  have e8 : mv V 1 0 8 = V 0 0 9 := rfl
  have e84 : mv V 8 0 4 = V 0 0 15 := rfl
  refine pw_aload_n C dX9_cook_0 rfl ?_
  refine pw_iload_n C dX9_cook_1 rfl ?_
  refine pw_cVI C [_] mi_X9_noSort mv_X9_noSort ml_9_163 oM_0 rfl (c_X9_noSort (by omega)) (by decide) rfl (Nat.le_of_ble_eq_true rfl) dX9_cook_2 ?_
  refine pw_if_ne_b (tgt := 16) C dX9_cook_5 rfl (fun c5 => ?_) (fun c5 => ?_)
  · refine pw_iconst C dX9_cook_16 ?_
    exact pw_iret C R dX9_cook_17 ⟨(congrArg (fun q => some (iv q)) (by unfold xCook; (try unfold has at *); (try unfold place at *); (try unfold hasB at *); (try unfold sw4); (try unfold sw3); (repeat (first | rw [pif_t (by first | omega | assumption)] | rw [pif_f (by first | omega | assumption)])); all_goals (first | rfl | omega | ((repeat' split) <;> first | rfl | omega)))), _, rfl, EQ.rf 0 0 _, P3.rf _⟩
  · refine pw_aload_n C dX9_cook_8 rfl ?_
    refine pw_iload_n C dX9_cook_9 rfl ?_
    refine pw_cVI C [_] mi_X9_noHour mv_X9_noHour ml_9_170 oM_0 rfl (c_X9_noHour (by omega)) (by decide) rfl (Nat.le_of_ble_eq_true rfl) dX9_cook_10 ?_
    refine pw_if_eq_b (tgt := 18) C dX9_cook_13 rfl (fun c13 => ?_) (fun c13 => ?_)
    · refine pw_iload_n C dX9_cook_18 rfl ?_
      refine pw_cSI C [_] mi_X9_isPrice ms_X9_isPrice ml_9_183 (c_X9_isPrice (by omega)) (by decide) rfl (Nat.le_of_ble_eq_true rfl) dX9_cook_19 ?_
      refine pw_if_ne_b (tgt := 28) C dX9_cook_22 rfl (fun c22 => ?_) (fun c22 => ?_)
      · refine pw_aload_n C dX9_cook_28 rfl ?_
        refine pw_cVQI C [] mi_X9_profit mv_X9_profit ml_9_236 oM_0 rfl (c_X9_profit hI) (by decide) rfl (Nat.le_of_ble_eq_true rfl) dX9_cook_29 ?_
        rintro x9 N9 ⟨rfl, U1, rfl, hU1, kU1⟩
        have u6 : U1 0 0 2 = V 0 0 2 := hU1.n
        have u15 : U1 0 0 15 = V 0 0 15 := hU1.c
        have u1 : U1 0 0 1 = V 0 0 1 := hU1.h
        have hIU1 := hI.eq hU1
        refine pw_istore_4 C dX9_cook_32 (k := ?_)
        refine pw_aload_n C dX9_cook_34 rfl ?_
        refine pw_iload_n C dX9_cook_35 rfl ?_
        refine pw_iload_n C dX9_cook_36 rfl ?_
        refine pw_iload_n C dX9_cook_37 rfl ?_
        refine pw_cVQV C [_, _, _] mi_X9_goThrough mv_X9_goThrough ml_9_225 oM_0 rfl (c_X9_goThrough (g := 0) (by omega) (by omega) (by omega) hIU1 (Or.inr (by omega)) (fun h => absurd h (by decide))) (by decide) rfl (Nat.le_of_ble_eq_true rfl) dX9_cook_38 ?_
        rintro N9 ⟨U2, rfl, hU2, kU2⟩
        have eg10 : ∀ (U : DM), cookV U s t c 0 0 10 = s ∧ cookV U s t c 0 0 11 = t ∧ cookV U s t c 0 0 12 = c := fun U => cookV_0 U s t c
        have hP : profitV (mv U2) = prf (cookV (mv V) s t c) := hU2.profitE.trans (prf_e (g := 0) (cookV_ok hI s t c) (cookV_e hU1 s t c) (Or.inr ⟨by rw [(eg10 _).1, (eg10 _).1], by rw [(eg10 _).2.1, (eg10 _).2.1], by rw [(eg10 _).2.2, (eg10 _).2.2], by rw [(eg10 _).1]; omega, by rw [(eg10 _).1, cookV_at _ _ _ _ (by omega)]; omega⟩))
        have q2 : EQ 0 0 (mv V) (mv U2) := (hU1.tr (cookV_q _ s t c)).tr (gt_00 hU2)
        have v6 : U2 0 0 2 = V 0 0 2 := q2.n
        refine pw_aload_n C dX9_cook_41 rfl ?_
        refine pw_cVI C [] mi_X9_profitOf mv_X9_profitOf ml_9_228 oM_0 rfl (c_X9_profitOf (by omega) (by omega)) (by decide) rfl (Nat.le_of_ble_eq_true rfl) dX9_cook_42 ?_
        refine pw_iload C dX9_cook_45 rfl ?_
        refine pw_isub C dX9_cook_47 ?_
        exact pw_iret C R dX9_cook_48 ⟨(congrArg (fun q => some (iv q)) (by unfold xCook; (try unfold has at *); (try unfold place at *); (try unfold hasB at *); (try unfold sw4); (try unfold sw3); (repeat (first | rw [pif_t (by first | omega | assumption)] | rw [pif_f (by first | omega | assumption)])); all_goals (first | rfl | omega | ((repeat' split) <;> first | rfl | omega)))), _, rfl, q2, (kU1.tr kU2).p3⟩
      · refine pw_bipush C dX9_cook_25 (by decide) ?_
        exact pw_iret C R dX9_cook_27 ⟨(congrArg (fun q => some (iv q)) (by unfold xCook; (try unfold has at *); (try unfold place at *); (try unfold hasB at *); (try unfold sw4); (try unfold sw3); (repeat (first | rw [pif_t (by first | omega | assumption)] | rw [pif_f (by first | omega | assumption)])); all_goals (first | rfl | omega | ((repeat' split) <;> first | rfl | omega)))), _, rfl, EQ.rf 0 0 _, P3.rf _⟩
    · refine pw_iconst C dX9_cook_16 ?_
      exact pw_iret C R dX9_cook_17 ⟨(congrArg (fun q => some (iv q)) (by unfold xCook; (try unfold has at *); (try unfold place at *); (try unfold hasB at *); (try unfold sw4); (try unfold sw3); (repeat (first | rw [pif_t (by first | omega | assumption)] | rw [pif_f (by first | omega | assumption)])); all_goals (first | rfl | omega | ((repeat' split) <;> first | rfl | omega)))), _, rfl, EQ.rf 0 0 _, P3.rf _⟩
