/-- what lasts of the reference beside the day: trace, fault, sheets -/
def P3 (U W : DM) : Prop := ∀ (k : Nat) (r i : Int), (k = 0 ∧ r = 0 ∧ (i = 0 ∨ i = 38)) ∨ (35 ≤ k ∧ k ≤ 37) → W k r i = U k r i
theorem P3.rf (U : DM) : P3 U U := fun _ _ _ _ => rfl
theorem P3.tr {A B C : DM} (h1 : P3 A B) (h2 : P3 B C) : P3 A C := fun k r i h => (h2 k r i h).trans (h1 k r i h)
theorem P3.up {A B : DM} (h : P3 A B) {k : Nat} {r i v : Int} (hk : ¬ ((k = 0 ∧ r = 0 ∧ (i = 0 ∨ i = 38)) ∨ (35 ≤ k ∧ k ≤ 37))) : P3 A (vup B k r i v) := fun k' r' i' hq => by
  rw [vup_n _ (fun e => hk (by obtain ⟨rfl, rfl, rfl⟩ := e; exact hq))]
  exact h k' r' i' hq
def rM (x : Int) (M : Mem) (V W : DM) : Option Value → Mem → Prop := fun o N => o = some (iv x) ∧ ∃ U, N = mst M 3 U ∧ mv U = W ∧ P3 V U
set_option maxRecDepth 100000 in
set_option maxHeartbeats 400000 in
theorem c_X9_noBuyer {l : Launch} {S : SW} {M : Mem} {V : DM} {x : Int}  (hx : InR x)  : PM l S yX9_noBuyer cX9_noBuyer 2 (some .boolean) 1 25 [rv S 3 0 0, iv x] (mst M 3 V) (rI (b01 (¬ (0 ≤ x ∧ x < V 0 0 15))) (mst M 3 V)) := by
  refine PM.of (own := RX9) (by decide) rfl [some (rv S 3 0 0), some (iv x)] rfl rfl (Nat.le_of_ble_eq_true rfl) (fun X hXl C R => ?_)
  subst hXl
  refine pw_iload_n C dX9_noBuyer_0 rfl ?_
  refine pw_i2l C (by omega) dX9_noBuyer_1 ?_
  refine pw_lconst0 C dX9_noBuyer_2 ?_
  refine pw_aload_n C dX9_noBuyer_3 rfl ?_
  refine gv_9_153 C dX9_noBuyer_4 (fun r4 => ?_)
  refine pw_i2l C (by omega) dX9_noBuyer_7 ?_
  refine pw_lconst1 C dX9_noBuyer_8 ?_
  refine pw_lsub C dX9_noBuyer_9 ?_
  refine pw_cSI C [_, _, _] mi_X9_in ms_X9_in ml_9_87 (c_X9_in (by omega) (by omega) (by omega)) (by decide) rfl (Nat.le_of_ble_eq_true rfl) dX9_noBuyer_10 ?_
  refine pw_if_ne_b (tgt := 20) C dX9_noBuyer_13 rfl (fun c13 => ?_) (fun c13 => ?_)
  · refine pw_iconst C dX9_noBuyer_20 ?_
    exact pw_zret0 C R dX9_noBuyer_21 (by omega) rfl
  · refine pw_iconst C dX9_noBuyer_16 ?_
    refine pw_goto (tgt := 21) C dX9_noBuyer_17 rfl ?_
    exact pw_zret1 C R dX9_noBuyer_21 (by omega) rfl
set_option maxRecDepth 100000 in
set_option maxHeartbeats 400000 in
theorem c_X9_freshAt {l : Launch} {S : SW} {M : Mem} {V : DM} {s t : Int}  (hs : InR s) (ht : InR t) (hI : DayOk (mv V)) (s0 : 0 ≤ s) (s1 : s < V 0 0 2) (t0 : 0 ≤ t) (t1 : t < V 0 0 1) : PM l S yX9_freshAt cX9_freshAt 3 (some .int) 1 21 [rv S 3 0 0, iv s, iv t] (mst M 3 V) (rI (freshAt (mv V) s t) (mst M 3 V)) := by
  refine PM.of (own := RX9) (by decide) rfl [some (rv S 3 0 0), some (iv s), some (iv t)] rfl rfl (Nat.le_of_ble_eq_true rfl) (fun X hXl C R => ?_)
  subst hXl
  obtain ⟨i1, i2, i3, i4, i5, i6, i7, i8⟩ := id hI
  have e5 : mv V 1 0 5 = V 0 0 1 := rfl
  have e6 : mv V 1 0 6 = V 0 0 2 := rfl
  have e7 : mv V 1 0 7 = V 0 0 8 := rfl
  have e8 : mv V 1 0 8 = V 0 0 9 := rfl
  have e84 : mv V 8 0 4 = V 0 0 15 := rfl
  have jf : -24 ≤ V 6 0 s - t * V 7 0 s ∧ V 6 0 s - t * V 7 0 s ≤ 9 := fresh_le hI s0 s1 t0 (by omega)
  refine pw_iconst C dX9_freshAt_0 ?_
  refine pw_aload_n C dX9_freshAt_1 rfl ?_
  refine gf_9_16 C dX9_freshAt_2 ?_
  refine pw_iload_n C dX9_freshAt_5 rfl ?_
  refine pw_ialdV C aM_6 (by omega) (by omega) (by decide) dX9_freshAt_6 (fun r6 => ?_)
  refine pw_iload_n C dX9_freshAt_7 rfl ?_
  refine pw_aload_n C dX9_freshAt_8 rfl ?_
  refine gf_9_19 C dX9_freshAt_9 ?_
  refine pw_iload_n C dX9_freshAt_12 rfl ?_
  refine pw_ialdV C aM_7 (by omega) (by omega) (by decide) dX9_freshAt_13 (fun r13 => ?_)
  refine pw_imul C dX9_freshAt_14 ?_
  refine pw_isub C dX9_freshAt_15 ?_
  refine pw_cSI C [_, _] mi_X9_greater ms_X9_greater ml_9_166 (c_X9_greater (by omega) (by omega)) (by decide) rfl (Nat.le_of_ble_eq_true rfl) dX9_freshAt_16 ?_
  exact pw_ireti C R dX9_freshAt_19 (by show _ = if 0 < V 6 0 s - t * V 7 0 s then V 6 0 s - t * V 7 0 s else 0; split <;> split <;> omega) rfl
set_option maxRecDepth 100000 in
set_option maxHeartbeats 400000 in
theorem c_X9_fresh {l : Launch} {S : SW} {M : Mem} {V : DM} {s t : Int}  (hs : InR s) (ht : InR t) (hI : DayOk (mv V))  : PM l S yX9_fresh cX9_fresh 3 (some .int) 2 46 [rv S 3 0 0, iv s, iv t] (mst M 3 V) (rM (xFresh (mv V) s t) M V (mv V)) := by
  refine PM.of (own := RX9) (by decide) rfl [some (rv S 3 0 0), some (iv s), some (iv t)] rfl rfl (Nat.le_of_ble_eq_true rfl) (fun X hXl C R => ?_)
  subst hXl
  obtain ⟨i1, i2, i3, i4, i5, i6, i7, i8⟩ := id hI
  have e5 : mv V 1 0 5 = V 0 0 1 := rfl
  have e6 : mv V 1 0 6 = V 0 0 2 := rfl
  have e7 : mv V 1 0 7 = V 0 0 8 := rfl
  have e8 : mv V 1 0 8 = V 0 0 9 := rfl
  have e84 : mv V 8 0 4 = V 0 0 15 := rfl
  refine pw_aload_n C dX9_fresh_0 rfl ?_
  refine pw_iload_n C dX9_fresh_1 rfl ?_
  refine pw_cVI C [_] mi_X9_noSort mv_X9_noSort ml_9_163 oM_0 rfl (c_X9_noSort (by omega)) (by decide) rfl (Nat.le_of_ble_eq_true rfl) dX9_fresh_2 ?_
  refine pw_if_ne_b (tgt := 16) C dX9_fresh_5 rfl (fun c5 => ?_) (fun c5 => ?_)
  · refine pw_iconst C dX9_fresh_16 ?_
    refine pw_goto (tgt := 26) C dX9_fresh_17 rfl ?_
    exact pw_iret C R dX9_fresh_26 ⟨(congrArg (fun q => some (iv q)) (by unfold xFresh; (try unfold has at *); (try unfold place at *); (try unfold hasB at *); (try unfold sw4); (try unfold sw3); (repeat (first | rw [pif_t (by first | omega | assumption)] | rw [pif_f (by first | omega | assumption)])); all_goals (first | rfl | omega | ((repeat' split) <;> first | rfl | omega)))), ⟨_, rfl, rfl, P3.rf _⟩⟩
  · refine pw_aload_n C dX9_fresh_8 rfl ?_
    refine pw_iload_n C dX9_fresh_9 rfl ?_
    refine pw_cVI C [_] mi_X9_noHour mv_X9_noHour ml_9_170 oM_0 rfl (c_X9_noHour (by omega)) (by decide) rfl (Nat.le_of_ble_eq_true rfl) dX9_fresh_10 ?_
    refine pw_if_eq_b (tgt := 20) C dX9_fresh_13 rfl (fun c13 => ?_) (fun c13 => ?_)
    · refine pw_aload_n C dX9_fresh_20 rfl ?_
      refine pw_iload_n C dX9_fresh_21 rfl ?_
      refine pw_iload_n C dX9_fresh_22 rfl ?_
      refine pw_cVI C [_, _] mi_X9_freshAt mv_X9_freshAt ml_9_173 oM_0 rfl (c_X9_freshAt (by omega) (by omega) (by assumption) (by omega) (by omega) (by omega) (by omega)) (by decide) rfl (Nat.le_of_ble_eq_true rfl) dX9_fresh_23 ?_
      exact pw_iret C R dX9_fresh_26 ⟨(congrArg (fun q => some (iv q)) (by unfold xFresh; (try unfold has at *); (try unfold place at *); (try unfold hasB at *); (try unfold sw4); (try unfold sw3); (repeat (first | rw [pif_t (by first | omega | assumption)] | rw [pif_f (by first | omega | assumption)])); all_goals (first | rfl | omega | ((repeat' split) <;> first | rfl | omega)))), ⟨_, rfl, rfl, P3.rf _⟩⟩
    · refine pw_iconst C dX9_fresh_16 ?_
      refine pw_goto (tgt := 26) C dX9_fresh_17 rfl ?_
      exact pw_iret C R dX9_fresh_26 ⟨(congrArg (fun q => some (iv q)) (by unfold xFresh; (try unfold has at *); (try unfold place at *); (try unfold hasB at *); (try unfold sw4); (try unfold sw3); (repeat (first | rw [pif_t (by first | omega | assumption)] | rw [pif_f (by first | omega | assumption)])); all_goals (first | rfl | omega | ((repeat' split) <;> first | rfl | omega)))), ⟨_, rfl, rfl, P3.rf _⟩⟩
set_option maxRecDepth 100000 in
set_option maxHeartbeats 400000 in
theorem c_X9_ofSort {l : Launch} {S : SW} {M : Mem} {V : DM} {s w : Int}  (hs : InR s) (hw : InR w) (hI : DayOk (mv V))  : PM l S yX9_ofSort cX9_ofSort 3 (some .int) 2 46 [rv S 3 0 0, iv s, iv w] (mst M 3 V) (rM (xOfSort (mv V) s w) M V (mv V)) := by
  refine PM.of (own := RX9) (by decide) rfl [some (rv S 3 0 0), some (iv s), some (iv w)] rfl rfl (Nat.le_of_ble_eq_true rfl) (fun X hXl C R => ?_)
  subst hXl
  obtain ⟨i1, i2, i3, i4, i5, i6, i7, i8⟩ := id hI
  have e5 : mv V 1 0 5 = V 0 0 1 := rfl
  have e6 : mv V 1 0 6 = V 0 0 2 := rfl
  have e7 : mv V 1 0 7 = V 0 0 8 := rfl
  have e8 : mv V 1 0 8 = V 0 0 9 := rfl
  have e84 : mv V 8 0 4 = V 0 0 15 := rfl
  refine pw_aload_n C dX9_ofSort_0 rfl ?_
  refine pw_iload_n C dX9_ofSort_1 rfl ?_
  refine pw_cVI C [_] mi_X9_noSort mv_X9_noSort ml_9_163 oM_0 rfl (c_X9_noSort (by omega)) (by decide) rfl (Nat.le_of_ble_eq_true rfl) dX9_ofSort_2 ?_
  refine pw_if_eq_b (tgt := 10) C dX9_ofSort_5 rfl (fun c5 => ?_) (fun c5 => ?_)
  · refine pw_iload_n C dX9_ofSort_10 rfl ?_
    refine pw_tsw4 C 40 47 54 61 68 (by omega) dX9_ofSort_11 rfl rfl rfl rfl rfl rfl (fun c11 => ?_) (fun c11 => ?_) (fun c11 => ?_) (fun c11 => ?_) (fun c11 => ?_)
    · refine pw_aload_n C dX9_ofSort_40 rfl ?_
      refine gf_9_7 C dX9_ofSort_41 ?_
      refine pw_iload_n C dX9_ofSort_44 rfl ?_
      refine pw_ialdV C aM_4 (by omega) (by omega) (by decide) dX9_ofSort_45 (fun r45 => ?_)
      exact pw_iret C R dX9_ofSort_46 ⟨(congrArg (fun q => some (iv q)) (by unfold xOfSort; (try unfold has at *); (try unfold place at *); (try unfold hasB at *); (try unfold sw4); (try unfold sw3); (repeat (first | rw [pif_t (by first | omega | assumption)] | rw [pif_f (by first | omega | assumption)])); all_goals (first | rfl | omega | ((repeat' split) <;> first | rfl | omega)))), ⟨_, rfl, rfl, P3.rf _⟩⟩
    · refine pw_aload_n C dX9_ofSort_47 rfl ?_
      refine gf_9_13 C dX9_ofSort_48 ?_
      refine pw_iload_n C dX9_ofSort_51 rfl ?_
      refine pw_ialdV C aM_5 (by omega) (by omega) (by decide) dX9_ofSort_52 (fun r52 => ?_)
      exact pw_iret C R dX9_ofSort_53 ⟨(congrArg (fun q => some (iv q)) (by unfold xOfSort; (try unfold has at *); (try unfold place at *); (try unfold hasB at *); (try unfold sw4); (try unfold sw3); (repeat (first | rw [pif_t (by first | omega | assumption)] | rw [pif_f (by first | omega | assumption)])); all_goals (first | rfl | omega | ((repeat' split) <;> first | rfl | omega)))), ⟨_, rfl, rfl, P3.rf _⟩⟩
    · refine pw_aload_n C dX9_ofSort_54 rfl ?_
      refine gf_9_16 C dX9_ofSort_55 ?_
      refine pw_iload_n C dX9_ofSort_58 rfl ?_
      refine pw_ialdV C aM_6 (by omega) (by omega) (by decide) dX9_ofSort_59 (fun r59 => ?_)
      exact pw_iret C R dX9_ofSort_60 ⟨(congrArg (fun q => some (iv q)) (by unfold xOfSort; (try unfold has at *); (try unfold place at *); (try unfold hasB at *); (try unfold sw4); (try unfold sw3); (repeat (first | rw [pif_t (by first | omega | assumption)] | rw [pif_f (by first | omega | assumption)])); all_goals (first | rfl | omega | ((repeat' split) <;> first | rfl | omega)))), ⟨_, rfl, rfl, P3.rf _⟩⟩
    · refine pw_aload_n C dX9_ofSort_61 rfl ?_
      refine gf_9_19 C dX9_ofSort_62 ?_
      refine pw_iload_n C dX9_ofSort_65 rfl ?_
      refine pw_ialdV C aM_7 (by omega) (by omega) (by decide) dX9_ofSort_66 (fun r66 => ?_)
      exact pw_iret C R dX9_ofSort_67 ⟨(congrArg (fun q => some (iv q)) (by unfold xOfSort; (try unfold has at *); (try unfold place at *); (try unfold hasB at *); (try unfold sw4); (try unfold sw3); (repeat (first | rw [pif_t (by first | omega | assumption)] | rw [pif_f (by first | omega | assumption)])); all_goals (first | rfl | omega | ((repeat' split) <;> first | rfl | omega)))), ⟨_, rfl, rfl, P3.rf _⟩⟩
    · refine pw_bipush C dX9_ofSort_68 (by decide) ?_
      exact pw_iret C R dX9_ofSort_70 ⟨(congrArg (fun q => some (iv q)) (by unfold xOfSort; (try unfold has at *); (try unfold place at *); (try unfold hasB at *); (try unfold sw4); (try unfold sw3); (repeat (first | rw [pif_t (by first | omega | assumption)] | rw [pif_f (by first | omega | assumption)])); all_goals (first | rfl | omega | ((repeat' split) <;> first | rfl | omega)))), ⟨_, rfl, rfl, P3.rf _⟩⟩
  · refine pw_iconst C dX9_ofSort_8 ?_
    exact pw_iret C R dX9_ofSort_9 ⟨(congrArg (fun q => some (iv q)) (by unfold xOfSort; (try unfold has at *); (try unfold place at *); (try unfold hasB at *); (try unfold sw4); (try unfold sw3); (repeat (first | rw [pif_t (by first | omega | assumption)] | rw [pif_f (by first | omega | assumption)])); all_goals (first | rfl | omega | ((repeat' split) <;> first | rfl | omega)))), ⟨_, rfl, rfl, P3.rf _⟩⟩
set_option maxRecDepth 100000 in
set_option maxHeartbeats 400000 in
theorem c_X9_ofBuyer {l : Launch} {S : SW} {M : Mem} {V : DM} {x w : Int}  (hx : InR x) (hw : InR w) (hI : DayOk (mv V))  : PM l S yX9_ofBuyer cX9_ofBuyer 3 (some .int) 2 46 [rv S 3 0 0, iv x, iv w] (mst M 3 V) (rM (xOfBuyer (mv V) x w) M V (mv V)) := by
  refine PM.of (own := RX9) (by decide) rfl [some (rv S 3 0 0), some (iv x), some (iv w)] rfl rfl (Nat.le_of_ble_eq_true rfl) (fun X hXl C R => ?_)
  subst hXl
  obtain ⟨i1, i2, i3, i4, i5, i6, i7, i8⟩ := id hI
  have e5 : mv V 1 0 5 = V 0 0 1 := rfl
  have e6 : mv V 1 0 6 = V 0 0 2 := rfl
  have e7 : mv V 1 0 7 = V 0 0 8 := rfl
  have e8 : mv V 1 0 8 = V 0 0 9 := rfl
  have e84 : mv V 8 0 4 = V 0 0 15 := rfl
  refine pw_aload_n C dX9_ofBuyer_0 rfl ?_
  refine pw_iload_n C dX9_ofBuyer_1 rfl ?_
  refine pw_cVI C [_] mi_X9_noBuyer mv_X9_noBuyer ml_9_188 oM_0 rfl (c_X9_noBuyer (by omega)) (by decide) rfl (Nat.le_of_ble_eq_true rfl) dX9_ofBuyer_2 ?_
  refine pw_if_eq_b (tgt := 10) C dX9_ofBuyer_5 rfl (fun c5 => ?_) (fun c5 => ?_)
  · refine pw_iload_n C dX9_ofBuyer_10 rfl ?_
    refine pw_tsw4 C 40 47 54 61 68 (by omega) dX9_ofBuyer_11 rfl rfl rfl rfl rfl rfl (fun c11 => ?_) (fun c11 => ?_) (fun c11 => ?_) (fun c11 => ?_) (fun c11 => ?_)
    · refine pw_aload_n C dX9_ofBuyer_40 rfl ?_
      refine gf_9_28 C dX9_ofBuyer_41 ?_
      refine pw_iload_n C dX9_ofBuyer_44 rfl ?_
      refine pw_ialdV C aM_17 (by omega) (by omega) (by decide) dX9_ofBuyer_45 (fun r45 => ?_)
      exact pw_iret C R dX9_ofBuyer_46 ⟨(congrArg (fun q => some (iv q)) (by unfold xOfBuyer; (try unfold has at *); (try unfold place at *); (try unfold hasB at *); (try unfold sw4); (try unfold sw3); (repeat (first | rw [pif_t (by first | omega | assumption)] | rw [pif_f (by first | omega | assumption)])); all_goals (first | rfl | omega | ((repeat' split) <;> first | rfl | omega)))), ⟨_, rfl, rfl, P3.rf _⟩⟩
    · refine pw_aload_n C dX9_ofBuyer_47 rfl ?_
      refine gf_9_31 C dX9_ofBuyer_48 ?_
      refine pw_iload_n C dX9_ofBuyer_51 rfl ?_
      refine pw_ialdV C aM_18 (by omega) (by omega) (by decide) dX9_ofBuyer_52 (fun r52 => ?_)
      exact pw_iret C R dX9_ofBuyer_53 ⟨(congrArg (fun q => some (iv q)) (by unfold xOfBuyer; (try unfold has at *); (try unfold place at *); (try unfold hasB at *); (try unfold sw4); (try unfold sw3); (repeat (first | rw [pif_t (by first | omega | assumption)] | rw [pif_f (by first | omega | assumption)])); all_goals (first | rfl | omega | ((repeat' split) <;> first | rfl | omega)))), ⟨_, rfl, rfl, P3.rf _⟩⟩
    · refine pw_aload_n C dX9_ofBuyer_54 rfl ?_
      refine gf_9_34 C dX9_ofBuyer_55 ?_
      refine pw_iload_n C dX9_ofBuyer_58 rfl ?_
      refine pw_ialdV C aM_19 (by omega) (by omega) (by decide) dX9_ofBuyer_59 (fun r59 => ?_)
      exact pw_iret C R dX9_ofBuyer_60 ⟨(congrArg (fun q => some (iv q)) (by unfold xOfBuyer; (try unfold has at *); (try unfold place at *); (try unfold hasB at *); (try unfold sw4); (try unfold sw3); (repeat (first | rw [pif_t (by first | omega | assumption)] | rw [pif_f (by first | omega | assumption)])); all_goals (first | rfl | omega | ((repeat' split) <;> first | rfl | omega)))), ⟨_, rfl, rfl, P3.rf _⟩⟩
    · refine pw_aload_n C dX9_ofBuyer_61 rfl ?_
      refine gf_9_37 C dX9_ofBuyer_62 ?_
      refine pw_iload_n C dX9_ofBuyer_65 rfl ?_
      refine pw_ialdV C aM_20 (by omega) (by omega) (by decide) dX9_ofBuyer_66 (fun r66 => ?_)
      exact pw_iret C R dX9_ofBuyer_67 ⟨(congrArg (fun q => some (iv q)) (by unfold xOfBuyer; (try unfold has at *); (try unfold place at *); (try unfold hasB at *); (try unfold sw4); (try unfold sw3); (repeat (first | rw [pif_t (by first | omega | assumption)] | rw [pif_f (by first | omega | assumption)])); all_goals (first | rfl | omega | ((repeat' split) <;> first | rfl | omega)))), ⟨_, rfl, rfl, P3.rf _⟩⟩
    · refine pw_bipush C dX9_ofBuyer_68 (by decide) ?_
      exact pw_iret C R dX9_ofBuyer_70 ⟨(congrArg (fun q => some (iv q)) (by unfold xOfBuyer; (try unfold has at *); (try unfold place at *); (try unfold hasB at *); (try unfold sw4); (try unfold sw3); (repeat (first | rw [pif_t (by first | omega | assumption)] | rw [pif_f (by first | omega | assumption)])); all_goals (first | rfl | omega | ((repeat' split) <;> first | rfl | omega)))), ⟨_, rfl, rfl, P3.rf _⟩⟩
  · refine pw_iconst C dX9_ofBuyer_8 ?_
    exact pw_iret C R dX9_ofBuyer_9 ⟨(congrArg (fun q => some (iv q)) (by unfold xOfBuyer; (try unfold has at *); (try unfold place at *); (try unfold hasB at *); (try unfold sw4); (try unfold sw3); (repeat (first | rw [pif_t (by first | omega | assumption)] | rw [pif_f (by first | omega | assumption)])); all_goals (first | rfl | omega | ((repeat' split) <;> first | rfl | omega)))), ⟨_, rfl, rfl, P3.rf _⟩⟩
set_option maxRecDepth 100000 in
set_option maxHeartbeats 400000 in
theorem c_X9_slate {l : Launch} {S : SW} {M : Mem} {V : DM} {s t : Int}  (hs : InR s) (ht : InR t) (hI : DayOk (mv V))  : PM l S yX9_slate cX9_slate 3 (some .int) 2 46 [rv S 3 0 0, iv s, iv t] (mst M 3 V) (rM (xSlate (mv V) s t) M V (mv V)) := by
  refine PM.of (own := RX9) (by decide) rfl [some (rv S 3 0 0), some (iv s), some (iv t)] rfl rfl (Nat.le_of_ble_eq_true rfl) (fun X hXl C R => ?_)
  subst hXl
  obtain ⟨i1, i2, i3, i4, i5, i6, i7, i8⟩ := id hI
  have e5 : mv V 1 0 5 = V 0 0 1 := rfl
  have e6 : mv V 1 0 6 = V 0 0 2 := rfl
  have e7 : mv V 1 0 7 = V 0 0 8 := rfl
  have e8 : mv V 1 0 8 = V 0 0 9 := rfl
  have e84 : mv V 8 0 4 = V 0 0 15 := rfl
  refine pw_aload_n C dX9_slate_0 rfl ?_
  refine pw_iload_n C dX9_slate_1 rfl ?_
  refine pw_cVI C [_] mi_X9_noSort mv_X9_noSort ml_9_163 oM_0 rfl (c_X9_noSort (by omega)) (by decide) rfl (Nat.le_of_ble_eq_true rfl) dX9_slate_2 ?_
  refine pw_if_ne_b (tgt := 16) C dX9_slate_5 rfl (fun c5 => ?_) (fun c5 => ?_)
  · refine pw_iconst C dX9_slate_16 ?_
    refine pw_goto (tgt := 26) C dX9_slate_17 rfl ?_
    exact pw_iret C R dX9_slate_26 ⟨(congrArg (fun q => some (iv q)) (by unfold xSlate; (try unfold has at *); (try unfold place at *); (try unfold hasB at *); (try unfold sw4); (try unfold sw3); (repeat (first | rw [pif_t (by first | omega | assumption)] | rw [pif_f (by first | omega | assumption)])); all_goals (first | rfl | omega | ((repeat' split) <;> first | rfl | omega)))), ⟨_, rfl, rfl, P3.rf _⟩⟩
  · refine pw_aload_n C dX9_slate_8 rfl ?_
    refine pw_iload_n C dX9_slate_9 rfl ?_
    refine pw_cVI C [_] mi_X9_noHour mv_X9_noHour ml_9_170 oM_0 rfl (c_X9_noHour (by omega)) (by decide) rfl (Nat.le_of_ble_eq_true rfl) dX9_slate_10 ?_
    refine pw_if_eq_b (tgt := 20) C dX9_slate_13 rfl (fun c13 => ?_) (fun c13 => ?_)
    · have e7v : mv V 7 s t = V 8 0 (8 * s + t) := mv_7 V s (by omega) (by omega)
      refine pw_aload_n C dX9_slate_20 rfl ?_
      refine pw_iload_n C dX9_slate_21 rfl ?_
      refine pw_iload_n C dX9_slate_22 rfl ?_
      refine pw_cVI C [_, _] mi_X9_priceOf mv_X9_priceOf ml_9_180 oM_0 rfl (c_X9_priceOf (by omega) (by omega) (by omega) (by omega) (by omega) (by omega)) (by decide) rfl (Nat.le_of_ble_eq_true rfl) dX9_slate_23 ?_
      exact pw_iret C R dX9_slate_26 ⟨(congrArg (fun q => some (iv q)) (by unfold xSlate; (try unfold has at *); (try unfold place at *); (try unfold hasB at *); (try unfold sw4); (try unfold sw3); (repeat (first | rw [pif_t (by first | omega | assumption)] | rw [pif_f (by first | omega | assumption)])); all_goals (first | rfl | omega | ((repeat' split) <;> first | rfl | omega)))), ⟨_, rfl, rfl, P3.rf _⟩⟩
    · refine pw_iconst C dX9_slate_16 ?_
      refine pw_goto (tgt := 26) C dX9_slate_17 rfl ?_
      exact pw_iret C R dX9_slate_26 ⟨(congrArg (fun q => some (iv q)) (by unfold xSlate; (try unfold has at *); (try unfold place at *); (try unfold hasB at *); (try unfold sw4); (try unfold sw3); (repeat (first | rw [pif_t (by first | omega | assumption)] | rw [pif_f (by first | omega | assumption)])); all_goals (first | rfl | omega | ((repeat' split) <;> first | rfl | omega)))), ⟨_, rfl, rfl, P3.rf _⟩⟩
