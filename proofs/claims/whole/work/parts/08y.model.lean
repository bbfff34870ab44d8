theorem ms_c {V U : DM} (h : ∀ (k : Nat) (r i : Int), (k = 0 ∧ r = 0 ∧ (i = 0 ∨ i = 38)) ∨ (35 ≤ k ∧ k ≤ 37) → U k r i = V k r i) : ms U = ms V := P3.msE h
/-- a sheet given anew, j cells cleared -/
def gZ (Z : DM) (k ln n j : Int) : DM := fun k' r i => if k' = 8 ∧ r = 0 ∧ i = k then ln else if k' = 9 ∧ r = 0 ∧ i = k then n else if k' = 7 ∧ r = k ∧ 0 ≤ i ∧ i < j then 0 else Z k' r i
theorem gZ_s (Z : DM) (k ln n : Int) {j : Int} (j0 : 0 ≤ j) : vup (gZ Z k ln n j) 7 k j 0 = gZ Z k ln n (j + 1) := by
  funext k' r i
  by_cases e : k' = 7 ∧ r = k ∧ i = j
  · obtain ⟨rfl, rfl, rfl⟩ := e
    rw [vup_v]
    unfold gZ
    rw [if_neg (by omega), if_neg (by omega), if_pos (by omega)]
  · rw [vup_n _ e]
    unfold gZ
    by_cases c : k' = 7 ∧ r = k ∧ 0 ≤ i ∧ i < j
    · rw [if_pos c, if_pos (show k' = 7 ∧ r = k ∧ 0 ≤ i ∧ i < j + 1 by omega)]
    · rw [if_neg c, if_neg (show ¬ (k' = 7 ∧ r = k ∧ 0 ≤ i ∧ i < j + 1) by omega)]
theorem gZ_0 (Z : DM) (k ln n : Int) : vup (vup Z 9 0 k n) 8 0 k ln = gZ Z k ln n 0 := by
  funext k' r i
  unfold gZ
  by_cases a : k' = 8 ∧ r = 0 ∧ i = k
  · rw [if_pos a]
    obtain ⟨rfl, rfl, rfl⟩ := a
    rw [vup_v]
  · rw [if_neg a, vup_n _ a]
    by_cases b : k' = 9 ∧ r = 0 ∧ i = k
    · rw [if_pos b]
      obtain ⟨rfl, rfl, rfl⟩ := b
      rw [vup_v]
    · rw [if_neg b, vup_n _ b, if_neg (by omega)]
theorem gZ_g (Z : DM) (k ln n : Int) : fl (gZ Z k ln n n) 0 = giveZ (fl Z 0) k ln n := by
  funext k' r i
  unfold fl
  by_cases a : k' = 0 ∧ r = 0 ∧ i = 6
  · obtain ⟨rfl, rfl, rfl⟩ := a
    rw [vup_v]
    unfold giveZ
    rw [if_neg (by omega), if_neg (by omega), if_neg (by omega), vup_v]
  · rw [vup_n _ a]
    unfold giveZ gZ
    rw [vup_n _ a]
set_option maxRecDepth 100000 in
set_option maxHeartbeats 400000 in
theorem L_X9_sheet {X : PX} {S : SW} {M : Mem} {V : DM} {k ln n : Int}  (hk : sk k) (hln : 0 ≤ ln ∧ ln < 3) (hn : 0 ≤ n ∧ n ≤ 60) (C : Cx X S RX9 cX9_sheet 2 45) (R : CR X S (rR (iv (xSheet (ms V) k ln n)) M (mv V) (zSheet (ms V) k ln n)) (some .int)) :
    ∀ (n9 : Nat) (j : Int) (W : DM), (0 ≤ j) → (j ≤ n) → (ms W = gZ (ms V) k ln n j ∧ mv W = mv V) → n - j < n9 → PW X S (mst M 3 W) 65 [some (rv S 3 0 0), some (iv k), some (iv ln), some (iv n), some (iv j)] [] := by
  have hk2 := hk
  unfold sk at hk2
  intro n9
  induction n9 with
  | zero => intro j W j0 j1 hW hn9; omega
  | succ n9 ih =>
    intro j W j0 j1 hW hn9
    refine pw_iload C dX9_sheet_65 rfl ?_
    refine pw_iload_n C dX9_sheet_67 rfl ?_
    refine pw_icmp_ge (tgt := 90) C dX9_sheet_68 rfl (by omega) (by omega) (fun c68 => ?_) (fun c68 => ?_)
    · refine pw_aload_n C dX9_sheet_90 rfl ?_
      refine pw_iconst C dX9_sheet_91 ?_
      refine pw_cVI C [_] mi_X9_refused mv_X9_refused ml_9_103 oM_0 rfl (c_X9_refused (by omega)) (by decide) rfl (Nat.le_of_ble_eq_true rfl) dX9_sheet_92 ?_
      rw [show j = n by omega] at hW
      have e : 1 = xSheet (ms V) k ln n := by unfold xSheet; rw [pif_t hk, pif_t ⟨hln, hn.2⟩, pif_t hn.1]
      exact pw_iret C R dX9_sheet_95 ⟨congrArg (fun q => some (iv q)) e, _, rfl, (by rw [mvn_0, hW.2]; exact EQ.rf 0 0 _), (by unfold zSheet; rw [vif_t ⟨hk, ⟨hln, hn.2⟩, hn.1⟩, msf_0, hW.1]; exact gZ_g _ _ _ _)⟩
    · refine pw_aload_n C dX9_sheet_71 rfl ?_
      refine gf_9_79 C dX9_sheet_72 ?_
      refine pw_bipush C dX9_sheet_75 (by decide) ?_
      refine pw_iload_n C dX9_sheet_77 rfl ?_
      refine pw_imul C dX9_sheet_78 ?_
      refine pw_iload C dX9_sheet_79 rfl ?_
      refine pw_iadd C dX9_sheet_81 ?_
      refine pw_iconst C dX9_sheet_82 ?_
      refine pw_iastV C aM_37 (by omega) (by omega) (by decide) (by omega) dX9_sheet_83 ?_
      refine pw_iinc_4 C dX9_sheet_84 (k := ?_)
      refine pw_goto (tgt := 65) C dX9_sheet_87 rfl ?_
      refine ih (j + 1) _ (by omega) (by omega) ⟨?_, ?_⟩ (by omega)
      · rw [msu_37 W 0 j0 (by omega), hW.1, gZ_s _ _ _ _ j0]
      · rw [mva_37]; exact hW.2
set_option maxRecDepth 100000 in
set_option maxHeartbeats 400000 in
theorem c_X9_sheet {l : Launch} {S : SW} {M : Mem} {V : DM} {k ln n : Int}  (hk : InR k) (hln : InR ln) (hn : InR n) (hI : DayOk (mv V)) (hS : ShOk (ms V))  : PM l S yX9_sheet cX9_sheet 5 (some .int) 2 45 [rv S 3 0 0, iv k, iv ln, iv n] (mst M 3 V) (rR (iv (xSheet (ms V) k ln n)) M (mv V) (zSheet (ms V) k ln n)) := by
  refine PM.of (own := RX9) (by decide) rfl [some (rv S 3 0 0), some (iv k), some (iv ln), some (iv n), none] rfl rfl (Nat.le_of_ble_eq_true rfl) (fun X hXl C R => ?_)
  subst hXl
  obtain ⟨i1, i2, i3, i4, i5, i6, i7, i8⟩ := id hI
  have e5 : mv V 1 0 5 = V 0 0 1 := rfl
  have e6 : mv V 1 0 6 = V 0 0 2 := rfl
  have e7 : mv V 1 0 7 = V 0 0 8 := rfl
  have e8 : mv V 1 0 8 = V 0 0 9 := rfl
  have e84 : mv V 8 0 4 = V 0 0 15 := rfl
  refine pw_iload_n C dX9_sheet_0 rfl ?_
  refine pw_cSI C [_] mi_X9_noSheet ms_X9_noSheet ml_9_99 (c_X9_noSheet (by omega)) (by decide) rfl (Nat.le_of_ble_eq_true rfl) dX9_sheet_1 ?_
  refine pw_if_eq_b (tgt := 13) C dX9_sheet_4 rfl (fun c4 => ?_) (fun c4 => ?_)
  · refine pw_iload_n C dX9_sheet_13 rfl ?_
    refine pw_i2l C (by omega) dX9_sheet_14 ?_
    refine pw_lconst0 C dX9_sheet_15 ?_
    refine pw_ldc2 C (n := 2) (inT4 122 rfl rfl) (by decide) dX9_sheet_16 ?_
    refine pw_cSI C [_, _, _] mi_X9_in ms_X9_in ml_9_87 (c_X9_in (by omega) (by omega) (by omega)) (by decide) rfl (Nat.le_of_ble_eq_true rfl) dX9_sheet_19 ?_
    refine pw_if_eq_b (tgt := 31) C dX9_sheet_22 rfl (fun c22 => ?_) (fun c22 => ?_)
    · refine pw_aload_n C dX9_sheet_31 rfl ?_
      refine pw_bipush C dX9_sheet_32 (by decide) ?_
      refine pw_cVI C [_] mi_X9_refused mv_X9_refused ml_9_103 oM_0 rfl (c_X9_refused (by omega)) (by decide) rfl (Nat.le_of_ble_eq_true rfl) dX9_sheet_34 ?_
      first
        | (have e : -2 = xSheet (ms V) k ln n := by unfold xSheet; (try unfold sk at *); (try unfold rch at *); (repeat (first | rw [pif_t (by first | omega | assumption)] | rw [pif_f (by first | omega | assumption)])); all_goals (first | rfl | omega | ((repeat' split) <;> first | rfl | omega))
           exact pw_iret C R dX9_sheet_37 ⟨congrArg (fun q => some (iv q)) e, _, rfl, (by rw [mvn_0]; exact EQ.rf 0 0 _), by unfold zSheet; rw [vif_f (by (unfold sk; omega)), ← e, msf_0]; rfl⟩)
    · refine pw_iload_n C dX9_sheet_25 rfl ?_
      refine pw_bipush C dX9_sheet_26 (by decide) ?_
      refine pw_icmp_le (tgt := 38) C dX9_sheet_28 rfl (by omega) (by omega) (fun c28 => ?_) (fun c28 => ?_)
      · refine pw_iload_n C dX9_sheet_38 rfl ?_
        refine pw_if_ge (tgt := 48) C dX9_sheet_39 rfl (by omega) (fun c39 => ?_) (fun c39 => ?_)
        · refine pw_aload_n C dX9_sheet_48 rfl ?_
          refine gf_9_73 C dX9_sheet_49 ?_
          refine pw_iload_n C dX9_sheet_52 rfl ?_
          refine pw_iload_n C dX9_sheet_53 rfl ?_
          refine pw_iastV C aM_35 (by omega) (by omega) (by decide) (by omega) dX9_sheet_54 ?_
          refine pw_aload_n C dX9_sheet_55 rfl ?_
          refine gf_9_76 C dX9_sheet_56 ?_
          refine pw_iload_n C dX9_sheet_59 rfl ?_
          refine pw_iload_n C dX9_sheet_60 rfl ?_
          refine pw_iastV C aM_36 (by omega) (by omega) (by decide) (by omega) dX9_sheet_61 ?_
          refine pw_iconst C dX9_sheet_62 ?_
          refine pw_istore_4 C dX9_sheet_63 (k := ?_)
          exact L_X9_sheet (by unfold sk; omega) (by omega) (by omega) C R (n + 1).toNat 0 _ (by omega) (by omega) ⟨by rw [msu_36, msu_35]; exact gZ_0 _ _ _ _, by rw [mva_36, mva_35]⟩ (by omega)
        · refine pw_aload_n C dX9_sheet_42 rfl ?_
          refine pw_iconst C dX9_sheet_43 ?_
          refine pw_cVI C [_] mi_X9_failed mv_X9_failed ml_9_109 oM_0 rfl (c_X9_failed (by omega)) (by decide) rfl (Nat.le_of_ble_eq_true rfl) dX9_sheet_44 ?_
          first
            | (have e : -10 - 4 = xSheet (ms V) k ln n := by unfold xSheet; (try unfold sk at *); (try unfold rch at *); (repeat (first | rw [pif_t (by first | omega | assumption)] | rw [pif_f (by first | omega | assumption)])); all_goals (first | rfl | omega | ((repeat' split) <;> first | rfl | omega))
               exact pw_iret C R dX9_sheet_47 ⟨congrArg (fun q => some (iv q)) e, _, rfl, (by rw [mvn_0]; exact EQ.rf 0 0 _), by unfold zSheet; rw [vif_f (by (unfold sk; omega)), ← e, msf_0]; rfl⟩)
      · refine pw_aload_n C dX9_sheet_31 rfl ?_
        refine pw_bipush C dX9_sheet_32 (by decide) ?_
        refine pw_cVI C [_] mi_X9_refused mv_X9_refused ml_9_103 oM_0 rfl (c_X9_refused (by omega)) (by decide) rfl (Nat.le_of_ble_eq_true rfl) dX9_sheet_34 ?_
        first
          | (have e : -2 = xSheet (ms V) k ln n := by unfold xSheet; (try unfold sk at *); (try unfold rch at *); (repeat (first | rw [pif_t (by first | omega | assumption)] | rw [pif_f (by first | omega | assumption)])); all_goals (first | rfl | omega | ((repeat' split) <;> first | rfl | omega))
             exact pw_iret C R dX9_sheet_37 ⟨congrArg (fun q => some (iv q)) e, _, rfl, (by rw [mvn_0]; exact EQ.rf 0 0 _), by unfold zSheet; rw [vif_f (by (unfold sk; omega)), ← e, msf_0]; rfl⟩)
  · refine pw_aload_n C dX9_sheet_7 rfl ?_
    refine pw_iconst C dX9_sheet_8 ?_
    refine pw_cVI C [_] mi_X9_refused mv_X9_refused ml_9_103 oM_0 rfl (c_X9_refused (by omega)) (by decide) rfl (Nat.le_of_ble_eq_true rfl) dX9_sheet_9 ?_
    first
      | (have e : -1 = xSheet (ms V) k ln n := by unfold xSheet; (try unfold sk at *); (try unfold rch at *); (repeat (first | rw [pif_t (by first | omega | assumption)] | rw [pif_f (by first | omega | assumption)])); all_goals (first | rfl | omega | ((repeat' split) <;> first | rfl | omega))
         exact pw_iret C R dX9_sheet_12 ⟨congrArg (fun q => some (iv q)) e, _, rfl, (by rw [mvn_0]; exact EQ.rf 0 0 _), by unfold zSheet; rw [vif_f (by (unfold sk; omega)), ← e, msf_0]; rfl⟩)
set_option maxRecDepth 100000 in
set_option maxHeartbeats 400000 in
theorem c_X9_lose {l : Launch} {S : SW} {M : Mem} {V : DM} {k : Int}  (hk : InR k) (hI : DayOk (mv V)) (hS : ShOk (ms V))  : PM l S yX9_lose cX9_lose 3 (some .int) 2 45 [rv S 3 0 0, iv k] (mst M 3 V) (rR (iv (xLose (ms V) k)) M (mv V) (zLose (ms V) k)) := by
  refine PM.of (own := RX9) (by decide) rfl [some (rv S 3 0 0), some (iv k), none] rfl rfl (Nat.le_of_ble_eq_true rfl) (fun X hXl C R => ?_)
  subst hXl
  obtain ⟨i1, i2, i3, i4, i5, i6, i7, i8⟩ := id hI
  have e5 : mv V 1 0 5 = V 0 0 1 := rfl
  have e6 : mv V 1 0 6 = V 0 0 2 := rfl
  have e7 : mv V 1 0 7 = V 0 0 8 := rfl
  have e8 : mv V 1 0 8 = V 0 0 9 := rfl
  have e84 : mv V 8 0 4 = V 0 0 15 := rfl
  refine pw_iload_n C dX9_lose_0 rfl ?_
  refine pw_cSI C [_] mi_X9_noSheet ms_X9_noSheet ml_9_99 (c_X9_noSheet (by omega)) (by decide) rfl (Nat.le_of_ble_eq_true rfl) dX9_lose_1 ?_
  refine pw_if_eq_b (tgt := 9) C dX9_lose_4 rfl (fun c4 => ?_) (fun c4 => ?_)
  · have hz9 : -1 ≤ V 35 0 k ∧ V 35 0 k ≤ 60 := hS k (by omega) (by omega)
    have e9 : ms V 9 0 k = V 35 0 k := rfl
    have e8 : ms V 8 0 k = V 36 0 k := rfl
    refine pw_aload_n C dX9_lose_9 rfl ?_
    refine gf_9_73 C dX9_lose_10 ?_
    refine pw_iload_n C dX9_lose_13 rfl ?_
    refine pw_ialdV C aM_35 (by omega) (by omega) (by decide) dX9_lose_14 (fun r14 => ?_)
    refine pw_if_ge (tgt := 22) C dX9_lose_15 rfl (by omega) (fun c15 => ?_) (fun c15 => ?_)
    · refine pw_iconst C dX9_lose_22 ?_
      refine pw_istore_2 C dX9_lose_23 (k := ?_)
      refine pw_aload_n C dX9_lose_24 rfl ?_
      refine gf_9_73 C dX9_lose_25 ?_
      refine pw_iload_n C dX9_lose_28 rfl ?_
      refine pw_iconst C dX9_lose_29 ?_
      refine pw_iastV C aM_35 (by omega) (by omega) (by decide) (by omega) dX9_lose_30 ?_
      refine pw_iload_n C dX9_lose_31 rfl ?_
      first
        | (have e : 0 = xLose (ms V) k := by unfold xLose; (try unfold sk at *); (try unfold rch at *); (repeat (first | rw [pif_t (by first | omega | assumption)] | rw [pif_f (by first | omega | assumption)])); all_goals (first | rfl | omega | ((repeat' split) <;> first | rfl | omega))
           exact pw_iret C R dX9_lose_32 ⟨congrArg (fun q => some (iv q)) e, _, rfl, (by rw [mva_35]; exact EQ.rf 0 0 _), by unfold zLose; rw [vif_t (by unfold sk; omega), msu_35]⟩)
        | (have e : 1 = xLose (ms V) k := by unfold xLose; (try unfold sk at *); (try unfold rch at *); (repeat (first | rw [pif_t (by first | omega | assumption)] | rw [pif_f (by first | omega | assumption)])); all_goals (first | rfl | omega | ((repeat' split) <;> first | rfl | omega))
           exact pw_iret C R dX9_lose_32 ⟨congrArg (fun q => some (iv q)) e, _, rfl, (by rw [mva_35]; exact EQ.rf 0 0 _), by unfold zLose; rw [vif_t (by unfold sk; omega), msu_35]⟩)
    · refine pw_iconst C dX9_lose_18 ?_
      refine pw_goto (tgt := 23) C dX9_lose_19 rfl ?_
      refine pw_istore_2 C dX9_lose_23 (k := ?_)
      refine pw_aload_n C dX9_lose_24 rfl ?_
      refine gf_9_73 C dX9_lose_25 ?_
      refine pw_iload_n C dX9_lose_28 rfl ?_
      refine pw_iconst C dX9_lose_29 ?_
      refine pw_iastV C aM_35 (by omega) (by omega) (by decide) (by omega) dX9_lose_30 ?_
      refine pw_iload_n C dX9_lose_31 rfl ?_
      first
        | (have e : 0 = xLose (ms V) k := by unfold xLose; (try unfold sk at *); (try unfold rch at *); (repeat (first | rw [pif_t (by first | omega | assumption)] | rw [pif_f (by first | omega | assumption)])); all_goals (first | rfl | omega | ((repeat' split) <;> first | rfl | omega))
           exact pw_iret C R dX9_lose_32 ⟨congrArg (fun q => some (iv q)) e, _, rfl, (by rw [mva_35]; exact EQ.rf 0 0 _), by unfold zLose; rw [vif_t (by unfold sk; omega), msu_35]⟩)
        | (have e : 1 = xLose (ms V) k := by unfold xLose; (try unfold sk at *); (try unfold rch at *); (repeat (first | rw [pif_t (by first | omega | assumption)] | rw [pif_f (by first | omega | assumption)])); all_goals (first | rfl | omega | ((repeat' split) <;> first | rfl | omega))
           exact pw_iret C R dX9_lose_32 ⟨congrArg (fun q => some (iv q)) e, _, rfl, (by rw [mva_35]; exact EQ.rf 0 0 _), by unfold zLose; rw [vif_t (by unfold sk; omega), msu_35]⟩)
  · refine pw_iconst C dX9_lose_7 ?_
    first
      | (have e : -1 = xLose (ms V) k := by unfold xLose; (try unfold sk at *); (try unfold rch at *); (repeat (first | rw [pif_t (by first | omega | assumption)] | rw [pif_f (by first | omega | assumption)])); all_goals (first | rfl | omega | ((repeat' split) <;> first | rfl | omega))
         exact pw_iret C R dX9_lose_8 ⟨congrArg (fun q => some (iv q)) e, _, rfl, EQ.rf 0 0 _, by unfold zLose; rw [vif_f (by unfold sk; omega)]⟩)
def nc (Z : DM) (k i : Int) : Int := if Z 9 0 k = -1 then 1 else if 0 ≤ i ∧ i < Z 9 0 k then 0 else 3
set_option maxRecDepth 100000 in
set_option maxHeartbeats 400000 in
theorem c_X9_noCell {l : Launch} {S : SW} {M : Mem} {V : DM} {k i : Int}  (hk : InR k) (hi : InR i) (hS : ShOk (ms V)) (k0 : 0 ≤ k) (k1 : k < 4) : PM l S yX9_noCell cX9_noCell 3 (some .int) 1 25 [rv S 3 0 0, iv k, iv i] (mst M 3 V) (rI (nc (ms V) k i) (mst M 3 V)) := by
  refine PM.of (own := RX9) (by decide) rfl [some (rv S 3 0 0), some (iv k), some (iv i)] rfl rfl (Nat.le_of_ble_eq_true rfl) (fun X hXl C R => ?_)
  subst hXl
  have hz9 : -1 ≤ V 35 0 k ∧ V 35 0 k ≤ 60 := hS k (by omega) (by omega)
  have e9 : ms V 9 0 k = V 35 0 k := rfl
  have e8 : ms V 8 0 k = V 36 0 k := rfl
  refine pw_aload_n C dX9_noCell_0 rfl ?_
  refine gf_9_73 C dX9_noCell_1 ?_
  refine pw_iload_n C dX9_noCell_4 rfl ?_
  refine pw_ialdV C aM_35 (by omega) (by omega) (by decide) dX9_noCell_5 (fun r5 => ?_)
  refine pw_if_ge (tgt := 13) C dX9_noCell_6 rfl (by omega) (fun c6 => ?_) (fun c6 => ?_)
  · refine pw_iload_n C dX9_noCell_13 rfl ?_
    refine pw_i2l C (by omega) dX9_noCell_14 ?_
    refine pw_lconst0 C dX9_noCell_15 ?_
    refine pw_aload_n C dX9_noCell_16 rfl ?_
    refine gf_9_73 C dX9_noCell_17 ?_
    refine pw_iload_n C dX9_noCell_20 rfl ?_
    refine pw_ialdV C aM_35 (by omega) (by omega) (by decide) dX9_noCell_21 (fun r21 => ?_)
    refine pw_i2l C (by omega) dX9_noCell_22 ?_
    refine pw_lconst1 C dX9_noCell_23 ?_
    refine pw_lsub C dX9_noCell_24 ?_
    refine pw_cSI C [_, _, _] mi_X9_in ms_X9_in ml_9_87 (c_X9_in (by omega) (by omega) (by omega)) (by decide) rfl (Nat.le_of_ble_eq_true rfl) dX9_noCell_25 ?_
    refine pw_if_eq_b (tgt := 35) C dX9_noCell_28 rfl (fun c28 => ?_) (fun c28 => ?_)
    · refine pw_iconst C dX9_noCell_35 ?_
      exact pw_ireti C R dX9_noCell_36 (by unfold nc; repeat' split; all_goals omega) rfl
    · refine pw_iconst C dX9_noCell_31 ?_
      refine pw_goto (tgt := 36) C dX9_noCell_32 rfl ?_
      exact pw_ireti C R dX9_noCell_36 (by unfold nc; repeat' split; all_goals omega) rfl
  · refine pw_iconst C dX9_noCell_9 ?_
    refine pw_goto (tgt := 36) C dX9_noCell_10 rfl ?_
    exact pw_ireti C R dX9_noCell_36 (by unfold nc; repeat' split; all_goals omega) rfl
set_option maxRecDepth 100000 in
set_option maxHeartbeats 400000 in
theorem c_X9_put {l : Launch} {S : SW} {M : Mem} {V : DM} {k i v : Int}  (hk : InR k) (hi : InR i) (hv : InR v) (hI : DayOk (mv V)) (hS : ShOk (ms V))  : PM l S yX9_put cX9_put 4 (some .int) 2 47 [rv S 3 0 0, iv k, iv i, iv v] (mst M 3 V) (rR (iv (xPut (ms V) k i)) M (mv V) (zPut (ms V) k i v)) := by
  refine PM.of (own := RX9) (by decide) rfl [some (rv S 3 0 0), some (iv k), some (iv i), some (iv v)] rfl rfl (Nat.le_of_ble_eq_true rfl) (fun X hXl C R => ?_)
  subst hXl
  obtain ⟨i1, i2, i3, i4, i5, i6, i7, i8⟩ := id hI
  have e5 : mv V 1 0 5 = V 0 0 1 := rfl
  have e6 : mv V 1 0 6 = V 0 0 2 := rfl
  have e7 : mv V 1 0 7 = V 0 0 8 := rfl
  have e8 : mv V 1 0 8 = V 0 0 9 := rfl
  have e84 : mv V 8 0 4 = V 0 0 15 := rfl
  refine pw_iload_n C dX9_put_0 rfl ?_
  refine pw_cSI C [_] mi_X9_noSheet ms_X9_noSheet ml_9_99 (c_X9_noSheet (by omega)) (by decide) rfl (Nat.le_of_ble_eq_true rfl) dX9_put_1 ?_
  refine pw_if_eq_b (tgt := 13) C dX9_put_4 rfl (fun c4 => ?_) (fun c4 => ?_)
  · have hz9 : -1 ≤ V 35 0 k ∧ V 35 0 k ≤ 60 := hS k (by omega) (by omega)
    have e9 : ms V 9 0 k = V 35 0 k := rfl
    have e8 : ms V 8 0 k = V 36 0 k := rfl
    have en : nc (ms V) k i = if ms V 9 0 k = -1 then 1 else if 0 ≤ i ∧ i < ms V 9 0 k then 0 else 3 := rfl
    have hnr : (nc (ms V) k i = 1 ∧ V 35 0 k = -1) ∨ (nc (ms V) k i = 0 ∧ V 35 0 k ≠ -1 ∧ 0 ≤ i ∧ i < V 35 0 k) ∨ (nc (ms V) k i = 3 ∧ V 35 0 k ≠ -1 ∧ ¬ (0 ≤ i ∧ i < V 35 0 k)) := by
      rw [e9] at en
      by_cases a : V 35 0 k = -1
      · rw [if_pos a] at en; omega
      · rw [if_neg a] at en
        by_cases b : 0 ≤ i ∧ i < V 35 0 k
        · rw [if_pos b] at en; omega
        · rw [if_neg b] at en; omega
    refine pw_aload_n C dX9_put_13 rfl ?_
    refine pw_iload_n C dX9_put_14 rfl ?_
    refine pw_iload_n C dX9_put_15 rfl ?_
    refine pw_cVI C [_, _] mi_X9_noCell mv_X9_noCell ml_9_283 oM_0 rfl (c_X9_noCell (by omega) (by omega) (by assumption) (by omega) (by omega)) (by decide) rfl (Nat.le_of_ble_eq_true rfl) dX9_put_16 ?_
    refine pw_if_le (tgt := 33) C dX9_put_19 rfl (by omega) (fun c19 => ?_) (fun c19 => ?_)
    · have q8 := i8_R v
      have q16 := i16_R v
      refine pw_aload_n C dX9_put_33 rfl ?_
      refine gf_9_79 C dX9_put_34 ?_
      refine pw_bipush C dX9_put_37 (by decide) ?_
      refine pw_iload_n C dX9_put_39 rfl ?_
      refine pw_imul C dX9_put_40 ?_
      refine pw_iload_n C dX9_put_41 rfl ?_
      refine pw_iadd C dX9_put_42 ?_
      refine pw_aload_n C dX9_put_43 rfl ?_
      refine gf_9_76 C dX9_put_44 ?_
      refine pw_iload_n C dX9_put_47 rfl ?_
      refine pw_ialdV C aM_36 (by omega) (by omega) (by decide) dX9_put_48 (fun r48 => ?_)
      refine pw_if_ne (tgt := 57) C dX9_put_49 rfl (by omega) (fun c49 => ?_) (fun c49 => ?_)
      · refine pw_aload_n C dX9_put_57 rfl ?_
        refine gf_9_76 C dX9_put_58 ?_
        refine pw_iload_n C dX9_put_61 rfl ?_
        refine pw_ialdV C aM_36 (by omega) (by omega) (by decide) dX9_put_62 (fun r62 => ?_)
        refine pw_iconst C dX9_put_63 ?_
        refine pw_icmp_ne (tgt := 72) C dX9_put_64 rfl (by omega) (by omega) (fun c64 => ?_) (fun c64 => ?_)
        · refine pw_iload_n C dX9_put_72 rfl ?_
          refine pw_iastV C aM_37 (by omega) (by omega) (by decide) (by omega) dX9_put_73 ?_
          refine pw_aload_n C dX9_put_74 rfl ?_
          refine pw_iconst C dX9_put_75 ?_
          refine pw_cVI C [_] mi_X9_refused mv_X9_refused ml_9_103 oM_0 rfl (c_X9_refused (by omega)) (by decide) rfl (Nat.le_of_ble_eq_true rfl) dX9_put_76 ?_
          first
            | (have e : 1 = xPut (ms V) k i := by unfold xPut; (try unfold sk at *); (try unfold rch at *); (repeat (first | rw [pif_t (by first | omega | assumption)] | rw [pif_f (by first | omega | assumption)])); all_goals (first | rfl | omega | ((repeat' split) <;> first | rfl | omega))
               exact pw_iret C R dX9_put_79 ⟨congrArg (fun q => some (iv q)) e, _, rfl, (by rw [mvn_0, mva_37]; exact EQ.rf 0 0 _), (by unfold zPut; rw [vif_t (by omega), msf_0, msu_37 V _ (by omega) (by omega)]; show vup (vup (ms V) 7 k i _) 0 0 6 0 = vup (vup (ms V) 0 0 6 0) 7 k i _; rw [vup_x _ _ _ (by omega)]; unfold cutI; first | (rw [if_pos (show ms V 8 0 k = 0 by omega)]; done) | (rw [if_neg (show ¬ (ms V 8 0 k = 0) by omega), if_pos (show ms V 8 0 k = 1 by omega)]; done) | (rw [if_neg (show ¬ (ms V 8 0 k = 0) by omega), if_neg (show ¬ (ms V 8 0 k = 1) by omega)]; done))⟩)
        · refine pw_iload_n C dX9_put_67 rfl ?_
          refine pw_i2s C dX9_put_68 ?_
          refine pw_goto (tgt := 73) C dX9_put_69 rfl ?_
          refine pw_iastV C aM_37 (by omega) (by omega) (by decide) (by omega) dX9_put_73 ?_
          refine pw_aload_n C dX9_put_74 rfl ?_
          refine pw_iconst C dX9_put_75 ?_
          refine pw_cVI C [_] mi_X9_refused mv_X9_refused ml_9_103 oM_0 rfl (c_X9_refused (by omega)) (by decide) rfl (Nat.le_of_ble_eq_true rfl) dX9_put_76 ?_
          first
            | (have e : 1 = xPut (ms V) k i := by unfold xPut; (try unfold sk at *); (try unfold rch at *); (repeat (first | rw [pif_t (by first | omega | assumption)] | rw [pif_f (by first | omega | assumption)])); all_goals (first | rfl | omega | ((repeat' split) <;> first | rfl | omega))
               exact pw_iret C R dX9_put_79 ⟨congrArg (fun q => some (iv q)) e, _, rfl, (by rw [mvn_0, mva_37]; exact EQ.rf 0 0 _), (by unfold zPut; rw [vif_t (by omega), msf_0, msu_37 V _ (by omega) (by omega)]; show vup (vup (ms V) 7 k i _) 0 0 6 0 = vup (vup (ms V) 0 0 6 0) 7 k i _; rw [vup_x _ _ _ (by omega)]; unfold cutI; first | (rw [if_pos (show ms V 8 0 k = 0 by omega)]; done) | (rw [if_neg (show ¬ (ms V 8 0 k = 0) by omega), if_pos (show ms V 8 0 k = 1 by omega)]; done) | (rw [if_neg (show ¬ (ms V 8 0 k = 0) by omega), if_neg (show ¬ (ms V 8 0 k = 1) by omega)]; done))⟩)
      · refine pw_iload_n C dX9_put_52 rfl ?_
        refine pw_i2b C dX9_put_53 ?_
        refine pw_goto (tgt := 73) C dX9_put_54 rfl ?_
        refine pw_iastV C aM_37 (by omega) (by omega) (by decide) (by omega) dX9_put_73 ?_
        refine pw_aload_n C dX9_put_74 rfl ?_
        refine pw_iconst C dX9_put_75 ?_
        refine pw_cVI C [_] mi_X9_refused mv_X9_refused ml_9_103 oM_0 rfl (c_X9_refused (by omega)) (by decide) rfl (Nat.le_of_ble_eq_true rfl) dX9_put_76 ?_
        first
          | (have e : 1 = xPut (ms V) k i := by unfold xPut; (try unfold sk at *); (try unfold rch at *); (repeat (first | rw [pif_t (by first | omega | assumption)] | rw [pif_f (by first | omega | assumption)])); all_goals (first | rfl | omega | ((repeat' split) <;> first | rfl | omega))
             exact pw_iret C R dX9_put_79 ⟨congrArg (fun q => some (iv q)) e, _, rfl, (by rw [mvn_0, mva_37]; exact EQ.rf 0 0 _), (by unfold zPut; rw [vif_t (by omega), msf_0, msu_37 V _ (by omega) (by omega)]; show vup (vup (ms V) 7 k i _) 0 0 6 0 = vup (vup (ms V) 0 0 6 0) 7 k i _; rw [vup_x _ _ _ (by omega)]; unfold cutI; first | (rw [if_pos (show ms V 8 0 k = 0 by omega)]; done) | (rw [if_neg (show ¬ (ms V 8 0 k = 0) by omega), if_pos (show ms V 8 0 k = 1 by omega)]; done) | (rw [if_neg (show ¬ (ms V 8 0 k = 0) by omega), if_neg (show ¬ (ms V 8 0 k = 1) by omega)]; done))⟩)
    · refine pw_aload_n C dX9_put_22 rfl ?_
      refine pw_aload_n C dX9_put_23 rfl ?_
      refine pw_iload_n C dX9_put_24 rfl ?_
      refine pw_iload_n C dX9_put_25 rfl ?_
      refine pw_cVI C [_, _] mi_X9_noCell mv_X9_noCell ml_9_283 oM_0 rfl (c_X9_noCell (by omega) (by omega) (by assumption) (by omega) (by omega)) (by decide) rfl (Nat.le_of_ble_eq_true rfl) dX9_put_26 ?_
      refine pw_cVI C [_] mi_X9_failed mv_X9_failed ml_9_109 oM_0 rfl (c_X9_failed (by omega)) (by decide) rfl (Nat.le_of_ble_eq_true rfl) dX9_put_29 ?_
      have e : -10 - nc (ms V) k i = xPut (ms V) k i := by
        unfold xPut sk
        rcases hnr with hq | hq | hq
        · rw [pif_t (by omega), pif_t (by omega)]; omega
        · omega
        · rw [pif_t (by omega), pif_f (by omega), pif_f (by omega)]; omega
      refine pw_iret C R dX9_put_32 ⟨congrArg (fun q => some (iv q)) e, _, rfl, (by rw [mvn_0]; exact EQ.rf 0 0 _), ?_⟩
      unfold zPut
      rw [vif_f (by omega), ← e, msf_0]
      unfold fOf
      rw [if_pos (by omega), show -10 - (-10 - nc (ms V) k i) = nc (ms V) k i by omega]
      rfl
  · refine pw_aload_n C dX9_put_7 rfl ?_
    refine pw_iconst C dX9_put_8 ?_
    refine pw_cVI C [_] mi_X9_refused mv_X9_refused ml_9_103 oM_0 rfl (c_X9_refused (by omega)) (by decide) rfl (Nat.le_of_ble_eq_true rfl) dX9_put_9 ?_
    first
      | (have e : -1 = xPut (ms V) k i := by unfold xPut; (try unfold sk at *); (try unfold rch at *); (repeat (first | rw [pif_t (by first | omega | assumption)] | rw [pif_f (by first | omega | assumption)])); all_goals (first | rfl | omega | ((repeat' split) <;> first | rfl | omega))
         exact pw_iret C R dX9_put_12 ⟨congrArg (fun q => some (iv q)) e, _, rfl, (by rw [mvn_0]; exact EQ.rf 0 0 _), by unfold zPut; rw [vif_f (by omega), ← e, msf_0]; rfl⟩)
