/-- the reference's cells, read as a day -/
def mv (U : DM) : DM := fun k r i => match k with
  | 0 => if r = 0 ∧ i = 9 then U 0 0 21 else if r = 0 ∧ i = 11 then -9 else 0
  | 1 => if r = 0 ∧ i = 5 then U 0 0 1 else if r = 0 ∧ i = 6 then U 0 0 2 else if r = 0 ∧ i = 7 then U 0 0 8 else if r = 0 ∧ i = 8 then U 0 0 9 else 0
  | 2 => U 4 r i
  | 3 => U 5 r i
  | 4 => U 6 r i
  | 5 => U 7 r i
  | 7 => if 0 ≤ i ∧ i < 8 then U 8 0 (8 * r + i) else 0
  | 8 => if r = 0 ∧ i = 4 then U 0 0 15 else 0
  | 9 => U 17 r i
  | 10 => U 18 r i
  | 11 => U 19 r i
  | 12 => U 20 r i
  | 13 => U 21 r i
  | 14 => U 27 r i
  | 15 => U 28 r i
  | 16 => U 23 r i
  | 17 => U 24 r i
  | 18 => U 25 r i
  | 19 => U 26 r i
  | _ => 0
/-- the reference's cells, read as the class's rest -/
def ms (U : DM) : DM := fun k r i => match k with
  | 0 => if r = 0 ∧ i = 5 then U 0 0 38 else if r = 0 ∧ i = 6 then U 0 0 0 else 0
  | 7 => if 0 ≤ i ∧ i < 60 then U 37 0 (60 * r + i) else 0
  | 8 => U 36 r i
  | 9 => U 35 r i
  | _ => 0
theorem mv_7 (U : DM) (r : Int) {i : Int} (h0 : 0 ≤ i) (h1 : i < 8) : mv U 7 r i = U 8 0 (8 * r + i) := if_pos ⟨h0, h1⟩
theorem ms_7 (U : DM) (r : Int) {i : Int} (h0 : 0 ≤ i) (h1 : i < 60) : ms U 7 r i = U 37 0 (60 * r + i) := if_pos ⟨h0, h1⟩
set_option maxRecDepth 100000 in
set_option maxHeartbeats 400000 in
theorem c_X9_in {l : Launch} {S : SW} {M : Mem} {x a b : Int}  (hx : InL x) (ha : InL a) (hb : InL b)  : PM l S yX9_in cX9_in 6 (some .boolean) 0 0 [jv x, jv a, jv b] (M) (rI (b01 (a ≤ x ∧ x ≤ b)) M) := by
  refine PM.of (own := RX9) (by decide) rfl [some (jv x), none, some (jv a), none, some (jv b), none] rfl rfl (Nat.le_of_ble_eq_true rfl) (fun X hXl C R => ?_)
  subst hXl
  refine pw_lload_n C dX9_in_0 rfl ?_
  refine pw_lload_n C dX9_in_1 rfl ?_
  refine pw_lcmp C (by omega) (by omega) dX9_in_2 ?_
  refine pw_lif_lt (tgt := 17) C dX9_in_3 rfl (fun c3 => ?_) (fun c3 => ?_)
  · refine pw_iconst C dX9_in_17 ?_
    exact pw_zret0 C R dX9_in_18 (by omega) rfl
  · refine pw_lload_n C dX9_in_6 rfl ?_
    refine pw_lload C dX9_in_7 rfl ?_
    refine pw_lcmp C (by omega) (by omega) dX9_in_9 ?_
    refine pw_lif_gt (tgt := 17) C dX9_in_10 rfl (fun c10 => ?_) (fun c10 => ?_)
    · refine pw_iconst C dX9_in_17 ?_
      exact pw_zret0 C R dX9_in_18 (by omega) rfl
    · refine pw_iconst C dX9_in_13 ?_
      refine pw_goto (tgt := 18) C dX9_in_14 rfl ?_
      exact pw_zret1 C R dX9_in_18 (by omega) rfl
set_option maxRecDepth 100000 in
set_option maxHeartbeats 400000 in
theorem c_X9_lost {l : Launch} {S : SW} {M : Mem}   : PM l S yX9_lost cX9_lost 0 (some .long) 0 0 [] (M) (rJ LOSTv M) := by
  refine PM.of (own := RX9) (by decide) rfl [] rfl rfl (Nat.le_of_ble_eq_true rfl) (fun X hXl C R => ?_)
  subst hXl
  refine pw_ldc2 C (n := -9223372036854775808) (inT5 75 rfl rfl) (by decide) dX9_lost_0 ?_
  exact pw_lreti C R dX9_lost_3 rfl rfl
set_option maxRecDepth 100000 in
set_option maxHeartbeats 400000 in
theorem c_X9_greater {l : Launch} {S : SW} {M : Mem} {a b : Int}  (ha : InR a) (hb : InR b)  : PM l S yX9_greater cX9_greater 2 (some .int) 0 0 [iv a, iv b] (M) (rI (if b < a then a else b) M) := by
  refine PM.of (own := RX9) (by decide) rfl [some (iv a), some (iv b)] rfl rfl (Nat.le_of_ble_eq_true rfl) (fun X hXl C R => ?_)
  subst hXl
  refine pw_iload_n C dX9_greater_0 rfl ?_
  refine pw_iload_n C dX9_greater_1 rfl ?_
  refine pw_icmp_le (tgt := 9) C dX9_greater_2 rfl (by omega) (by omega) (fun c2 => ?_) (fun c2 => ?_)
  · refine pw_iload_n C dX9_greater_9 rfl ?_
    exact pw_ireti C R dX9_greater_10 (by first | rfl | omega) rfl
  · refine pw_iload_n C dX9_greater_5 rfl ?_
    refine pw_goto (tgt := 10) C dX9_greater_6 rfl ?_
    exact pw_ireti C R dX9_greater_10 (by first | rfl | omega) rfl
set_option maxRecDepth 100000 in
set_option maxHeartbeats 400000 in
theorem c_X9_isWhich {l : Launch} {S : SW} {M : Mem} {w : Int}  (hw : InR w)  : PM l S yX9_isWhich cX9_isWhich 1 (some .boolean) 1 25 [iv w] (M) (rI (b01 (0 ≤ w ∧ w ≤ 1)) M) := by
  refine PM.of (own := RX9) (by decide) rfl [some (iv w)] rfl rfl (Nat.le_of_ble_eq_true rfl) (fun X hXl C R => ?_)
  subst hXl
  refine pw_iload_n C dX9_isWhich_0 rfl ?_
  refine pw_i2l C (by omega) dX9_isWhich_1 ?_
  refine pw_lconst0 C dX9_isWhich_2 ?_
  refine pw_lconst1 C dX9_isWhich_3 ?_
  refine pw_cSI C [_, _, _] mi_X9_in ms_X9_in ml_9_87 (c_X9_in (by omega) (by omega) (by omega)) (by decide) rfl (Nat.le_of_ble_eq_true rfl) dX9_isWhich_4 ?_
  exact pw_zretb C R dX9_isWhich_7 (by omega) rfl
set_option maxRecDepth 100000 in
set_option maxHeartbeats 400000 in
theorem c_X9_refused {l : Launch} {S : SW} {M : Mem} {V : DM} {x : Int}  (hx : InR x)  : PM l S yX9_refused cX9_refused 2 (some .int) 0 0 [rv S 3 0 0, iv x] (mst M 3 V) (rI x (mst M 3 (vup V 0 0 0 0))) := by
  refine PM.of (own := RX9) (by decide) rfl [some (rv S 3 0 0), some (iv x)] rfl rfl (Nat.le_of_ble_eq_true rfl) (fun X hXl C R => ?_)
  subst hXl
  refine pw_aload_n C dX9_refused_0 rfl ?_
  refine pw_iconst C dX9_refused_1 ?_
  refine pv_9_91 C (by omega) dX9_refused_2 ?_
  refine pw_iload_n C dX9_refused_5 rfl ?_
  exact pw_ireti C R dX9_refused_6 (by first | rfl | omega) rfl
set_option maxRecDepth 100000 in
set_option maxHeartbeats 400000 in
theorem c_X9_failed {l : Launch} {S : SW} {M : Mem} {V : DM} {x : Int}  (hx : InR x)  : PM l S yX9_failed cX9_failed 2 (some .int) 0 0 [rv S 3 0 0, iv x] (mst M 3 V) (rI (-10 - x) (mst M 3 (vup V 0 0 0 x))) := by
  refine PM.of (own := RX9) (by decide) rfl [some (rv S 3 0 0), some (iv x)] rfl rfl (Nat.le_of_ble_eq_true rfl) (fun X hXl C R => ?_)
  subst hXl
  refine pw_aload_n C dX9_failed_0 rfl ?_
  refine pw_iload_n C dX9_failed_1 rfl ?_
  refine pv_9_91 C (by omega) dX9_failed_2 ?_
  refine pw_bipush C dX9_failed_5 (by decide) ?_
  refine pw_iload_n C dX9_failed_7 rfl ?_
  refine pw_isub C dX9_failed_8 ?_
  exact pw_ireti C R dX9_failed_9 (by first | rfl | omega) rfl
set_option maxRecDepth 100000 in
set_option maxHeartbeats 400000 in
theorem c_X9_failedLong {l : Launch} {S : SW} {M : Mem} {V : DM} {x : Int}  (hx : InR x)  : PM l S yX9_failedLong cX9_failedLong 2 (some .long) 1 19 [rv S 3 0 0, iv x] (mst M 3 V) (rJ LOSTv (mst M 3 (vup V 0 0 0 x))) := by
  refine PM.of (own := RX9) (by decide) rfl [some (rv S 3 0 0), some (iv x)] rfl rfl (Nat.le_of_ble_eq_true rfl) (fun X hXl C R => ?_)
  subst hXl
  refine pw_aload_n C dX9_failedLong_0 rfl ?_
  refine pw_iload_n C dX9_failedLong_1 rfl ?_
  refine pv_9_91 C (by omega) dX9_failedLong_2 ?_
  refine pw_cSJ C [] mi_X9_lost ms_X9_lost ml_9_95 (c_X9_lost) (by decide) rfl (Nat.le_of_ble_eq_true rfl) dX9_failedLong_5 ?_
  exact pw_lreti C R dX9_failedLong_8 rfl rfl
set_option maxRecDepth 100000 in
set_option maxHeartbeats 400000 in
theorem c_X9_noSort {l : Launch} {S : SW} {M : Mem} {V : DM} {s : Int}  (hs : InR s)  : PM l S yX9_noSort cX9_noSort 2 (some .boolean) 1 25 [rv S 3 0 0, iv s] (mst M 3 V) (rI (b01 (¬ (0 ≤ s ∧ s < V 0 0 2))) (mst M 3 V)) := by
  refine PM.of (own := RX9) (by decide) rfl [some (rv S 3 0 0), some (iv s)] rfl rfl (Nat.le_of_ble_eq_true rfl) (fun X hXl C R => ?_)
  subst hXl
  refine pw_iload_n C dX9_noSort_0 rfl ?_
  refine pw_i2l C (by omega) dX9_noSort_1 ?_
  refine pw_lconst0 C dX9_noSort_2 ?_
  refine pw_aload_n C dX9_noSort_3 rfl ?_
  refine gv_9_116 C dX9_noSort_4 (fun r4 => ?_)
  refine pw_i2l C (by omega) dX9_noSort_7 ?_
  refine pw_lconst1 C dX9_noSort_8 ?_
  refine pw_lsub C dX9_noSort_9 ?_
  refine pw_cSI C [_, _, _] mi_X9_in ms_X9_in ml_9_87 (c_X9_in (by omega) (by omega) (by omega)) (by decide) rfl (Nat.le_of_ble_eq_true rfl) dX9_noSort_10 ?_
  refine pw_if_ne_b (tgt := 20) C dX9_noSort_13 rfl (fun c13 => ?_) (fun c13 => ?_)
  · refine pw_iconst C dX9_noSort_20 ?_
    exact pw_zret0 C R dX9_noSort_21 (by omega) rfl
  · refine pw_iconst C dX9_noSort_16 ?_
    refine pw_goto (tgt := 21) C dX9_noSort_17 rfl ?_
    exact pw_zret1 C R dX9_noSort_21 (by omega) rfl
set_option maxRecDepth 100000 in
set_option maxHeartbeats 400000 in
theorem c_X9_noHour {l : Launch} {S : SW} {M : Mem} {V : DM} {t : Int}  (ht : InR t)  : PM l S yX9_noHour cX9_noHour 2 (some .boolean) 1 25 [rv S 3 0 0, iv t] (mst M 3 V) (rI (b01 (¬ (0 ≤ t ∧ t < V 0 0 1))) (mst M 3 V)) := by
  refine PM.of (own := RX9) (by decide) rfl [some (rv S 3 0 0), some (iv t)] rfl rfl (Nat.le_of_ble_eq_true rfl) (fun X hXl C R => ?_)
  subst hXl
  refine pw_iload_n C dX9_noHour_0 rfl ?_
  refine pw_i2l C (by omega) dX9_noHour_1 ?_
  refine pw_lconst0 C dX9_noHour_2 ?_
  refine pw_aload_n C dX9_noHour_3 rfl ?_
  refine gv_9_119 C dX9_noHour_4 (fun r4 => ?_)
  refine pw_i2l C (by omega) dX9_noHour_7 ?_
  refine pw_lconst1 C dX9_noHour_8 ?_
  refine pw_lsub C dX9_noHour_9 ?_
  refine pw_cSI C [_, _, _] mi_X9_in ms_X9_in ml_9_87 (c_X9_in (by omega) (by omega) (by omega)) (by decide) rfl (Nat.le_of_ble_eq_true rfl) dX9_noHour_10 ?_
  refine pw_if_ne_b (tgt := 20) C dX9_noHour_13 rfl (fun c13 => ?_) (fun c13 => ?_)
  · refine pw_iconst C dX9_noHour_20 ?_
    exact pw_zret0 C R dX9_noHour_21 (by omega) rfl
  · refine pw_iconst C dX9_noHour_16 ?_
    refine pw_goto (tgt := 21) C dX9_noHour_17 rfl ?_
    exact pw_zret1 C R dX9_noHour_21 (by omega) rfl
set_option maxRecDepth 100000 in
set_option maxHeartbeats 400000 in
theorem c_X9_isPrice {l : Launch} {S : SW} {M : Mem} {t : Int}  (ht : InR t)  : PM l S yX9_isPrice cX9_isPrice 1 (some .boolean) 1 25 [iv t] (M) (rI (b01 (0 ≤ t ∧ t ≤ 30)) M) := by
  refine PM.of (own := RX9) (by decide) rfl [some (iv t)] rfl rfl (Nat.le_of_ble_eq_true rfl) (fun X hXl C R => ?_)
  subst hXl
  refine pw_iload_n C dX9_isPrice_0 rfl ?_
  refine pw_i2l C (by omega) dX9_isPrice_1 ?_
  refine pw_lconst0 C dX9_isPrice_2 ?_
  refine pw_ldc2 C (n := 30) (inT4 189 rfl rfl) (by decide) dX9_isPrice_3 ?_
  refine pw_cSI C [_, _, _] mi_X9_in ms_X9_in ml_9_87 (c_X9_in (by omega) (by omega) (by omega)) (by decide) rfl (Nat.le_of_ble_eq_true rfl) dX9_isPrice_6 ?_
  exact pw_zretb C R dX9_isPrice_9 (by omega) rfl
set_option maxRecDepth 100000 in
set_option maxHeartbeats 400000 in
theorem c_X9_priceOf {l : Launch} {S : SW} {M : Mem} {V : DM} {s t : Int}  (hs : InR s) (ht : InR t) (s0 : 0 ≤ s) (s1 : s < 4) (t0 : 0 ≤ t) (t1 : t < 8) : PM l S yX9_priceOf cX9_priceOf 3 (some .int) 0 0 [rv S 3 0 0, iv s, iv t] (mst M 3 V) (rI (V 8 0 (8 * s + t)) (mst M 3 V)) := by
  refine PM.of (own := RX9) (by decide) rfl [some (rv S 3 0 0), some (iv s), some (iv t)] rfl rfl (Nat.le_of_ble_eq_true rfl) (fun X hXl C R => ?_)
  subst hXl
  refine pw_aload_n C dX9_priceOf_0 rfl ?_
  refine gf_9_22 C dX9_priceOf_1 ?_
  refine pw_bipush C dX9_priceOf_4 (by decide) ?_
  refine pw_iload_n C dX9_priceOf_6 rfl ?_
  refine pw_imul C dX9_priceOf_7 ?_
  refine pw_iload_n C dX9_priceOf_8 rfl ?_
  refine pw_iadd C dX9_priceOf_9 ?_
  refine pw_ialdV C aM_8 (by omega) (by omega) (by decide) dX9_priceOf_10 (fun r10 => ?_)
  exact pw_ireti C R dX9_priceOf_11 (by first | rfl | omega) rfl
