set_option maxRecDepth 100000 in
set_option maxHeartbeats 400000 in
theorem c_X8_isWithin {l : Launch} {S : SW} {M : Mem} {v least most : Int}  (hv : InR v) (hleast : InR least) (hmost : InR most)  : PM l S yX8_isWithin cX8_isWithin 3 (some .boolean) 0 0 [iv v, iv least, iv most] (M) (rI (b01 (least ≤ v ∧ v ≤ most)) M) := by
  refine PM.of (own := RX8) (by decide) rfl [some (iv v), some (iv least), some (iv most)] rfl rfl (Nat.le_of_ble_eq_true rfl) (fun X hXl C R => ?_)
  subst hXl
  refine pw_iload_n C dX8_isWithin_0 rfl ?_
  refine pw_iload_n C dX8_isWithin_1 rfl ?_
  refine pw_icmp_lt (tgt := 14) C dX8_isWithin_2 rfl (by omega) (by omega) (fun c2 => ?_) (fun c2 => ?_)
  · refine pw_iconst C dX8_isWithin_14 ?_
    exact pw_zret0 C R dX8_isWithin_15 (by omega) rfl
  · refine pw_iload_n C dX8_isWithin_5 rfl ?_
    refine pw_iload_n C dX8_isWithin_6 rfl ?_
    refine pw_icmp_gt (tgt := 14) C dX8_isWithin_7 rfl (by omega) (by omega) (fun c7 => ?_) (fun c7 => ?_)
    · refine pw_iconst C dX8_isWithin_14 ?_
      exact pw_zret0 C R dX8_isWithin_15 (by omega) rfl
    · refine pw_iconst C dX8_isWithin_10 ?_
      refine pw_goto (tgt := 15) C dX8_isWithin_11 rfl ?_
      exact pw_zret1 C R dX8_isWithin_15 (by omega) rfl
set_option maxRecDepth 100000 in
set_option maxHeartbeats 400000 in
theorem c_X6_hasSort {l : Launch} {S : SW} {M : Mem} {V : DM} {d : Nat} {s : Int} (hd : d < 2) (hs : InR s)  : PM l S yX6_hasSort cX6_hasSort 2 (some .boolean) 0 0 [rv S d 1 0, iv s] (mst M d V) (rI (b01 (0 ≤ s ∧ s < V 1 0 6)) (mst M d V)) := by
  refine PM.of (own := RX6) (by decide) rfl [some (rv S d 1 0), some (iv s)] rfl rfl (Nat.le_of_ble_eq_true rfl) (fun X hXl C R => ?_)
  subst hXl
  refine pw_iload_n C dX6_hasSort_0 rfl ?_
  refine pw_if_lt (tgt := 16) C dX6_hasSort_1 rfl (by omega) (fun c1 => ?_) (fun c1 => ?_)
  · refine pw_iconst C dX6_hasSort_16 ?_
    exact pw_zret0 C R dX6_hasSort_17 (by omega) rfl
  · refine pw_iload_n C dX6_hasSort_4 rfl ?_
    refine pw_aload_n C dX6_hasSort_5 rfl ?_
    refine gv_6_35 d hd C dX6_hasSort_6 (fun r6 => ?_)
    refine pw_icmp_ge (tgt := 16) C dX6_hasSort_9 rfl (by omega) (by omega) (fun c9 => ?_) (fun c9 => ?_)
    · refine pw_iconst C dX6_hasSort_16 ?_
      exact pw_zret0 C R dX6_hasSort_17 (by omega) rfl
    · refine pw_iconst C dX6_hasSort_12 ?_
      refine pw_goto (tgt := 17) C dX6_hasSort_13 rfl ?_
      exact pw_zret1 C R dX6_hasSort_17 (by omega) rfl
set_option maxRecDepth 100000 in
set_option maxHeartbeats 400000 in
theorem c_X6_isTold {l : Launch} {S : SW} {M : Mem} {V : DM} {d : Nat} (hd : d < 2)  : PM l S yX6_isTold cX6_isTold 1 (some .boolean) 0 0 [rv S d 1 0] (mst M d V) (rI (b01 (0 < V 1 0 6)) (mst M d V)) := by
  refine PM.of (own := RX6) (by decide) rfl [some (rv S d 1 0)] rfl rfl (Nat.le_of_ble_eq_true rfl) (fun X hXl C R => ?_)
  subst hXl
  refine pw_aload_n C dX6_isTold_0 rfl ?_
  refine gv_6_35 d hd C dX6_isTold_1 (fun r1 => ?_)
  refine pw_if_le (tgt := 11) C dX6_isTold_4 rfl (by omega) (fun c4 => ?_) (fun c4 => ?_)
  · refine pw_iconst C dX6_isTold_11 ?_
    exact pw_zret0 C R dX6_isTold_12 (by omega) rfl
  · refine pw_iconst C dX6_isTold_7 ?_
    refine pw_goto (tgt := 12) C dX6_isTold_8 rfl ?_
    exact pw_zret1 C R dX6_isTold_12 (by omega) rfl
set_option maxRecDepth 100000 in
set_option maxHeartbeats 400000 in
theorem c_X6_hasPlace {l : Launch} {S : SW} {M : Mem} {V : DM} {d : Nat} {s t : Int} (hd : d < 2) (hs : InR s) (ht : InR t)  : PM l S yX6_hasPlace cX6_hasPlace 3 (some .boolean) 1 21 [rv S d 1 0, iv s, iv t] (mst M d V) (rI (b01 (0 ≤ s ∧ s < V 1 0 6 ∧ 0 ≤ t ∧ t < V 1 0 5)) (mst M d V)) := by
  refine PM.of (own := RX6) (by decide) rfl [some (rv S d 1 0), some (iv s), some (iv t)] rfl rfl (Nat.le_of_ble_eq_true rfl) (fun X hXl C R => ?_)
  subst hXl
  refine pw_aload_n C dX6_hasPlace_0 rfl ?_
  refine pw_iload_n C dX6_hasPlace_1 rfl ?_
  refine pw_cVI C [_] mi_X6_hasSort mv_X6_hasSort ml_6_51 (oD_1 hd) rfl (c_X6_hasSort hd (by omega)) (by decide) rfl (Nat.le_of_ble_eq_true rfl) dX6_hasPlace_2 ?_
  refine pw_if_eq_b (tgt := 24) C dX6_hasPlace_5 rfl (fun c5 => ?_) (fun c5 => ?_)
  · refine pw_iconst C dX6_hasPlace_24 ?_
    exact pw_zret0 C R dX6_hasPlace_25 (by omega) rfl
  · refine pw_iload_n C dX6_hasPlace_8 rfl ?_
    refine pw_if_lt (tgt := 24) C dX6_hasPlace_9 rfl (by omega) (fun c9 => ?_) (fun c9 => ?_)
    · refine pw_iconst C dX6_hasPlace_24 ?_
      exact pw_zret0 C R dX6_hasPlace_25 (by omega) rfl
    · refine pw_iload_n C dX6_hasPlace_12 rfl ?_
      refine pw_aload_n C dX6_hasPlace_13 rfl ?_
      refine gv_6_29 d hd C dX6_hasPlace_14 (fun r14 => ?_)
      refine pw_icmp_ge (tgt := 24) C dX6_hasPlace_17 rfl (by omega) (by omega) (fun c17 => ?_) (fun c17 => ?_)
      · refine pw_iconst C dX6_hasPlace_24 ?_
        exact pw_zret0 C R dX6_hasPlace_25 (by omega) rfl
      · refine pw_iconst C dX6_hasPlace_20 ?_
        refine pw_goto (tgt := 25) C dX6_hasPlace_21 rfl ?_
        exact pw_zret1 C R dX6_hasPlace_25 (by omega) rfl
set_option maxRecDepth 100000 in
set_option maxHeartbeats 400000 in
theorem c_X0_has {l : Launch} {S : SW} {M : Mem} {V : DM} {d : Nat} {x : Int} (hd : d < 2) (hx : InR x)  : PM l S yX0_has cX0_has 2 (some .boolean) 0 0 [rv S d 8 0, iv x] (mst M d V) (rI (b01 (0 ≤ x ∧ x < V 8 0 4)) (mst M d V)) := by
  refine PM.of (own := RX0) (by decide) rfl [some (rv S d 8 0), some (iv x)] rfl rfl (Nat.le_of_ble_eq_true rfl) (fun X hXl C R => ?_)
  subst hXl
  refine pw_iload_n C dX0_has_0 rfl ?_
  refine pw_if_lt (tgt := 16) C dX0_has_1 rfl (by omega) (fun c1 => ?_) (fun c1 => ?_)
  · refine pw_iconst C dX0_has_16 ?_
    exact pw_zret0 C R dX0_has_17 (by omega) rfl
  · refine pw_iload_n C dX0_has_4 rfl ?_
    refine pw_aload_n C dX0_has_5 rfl ?_
    refine gv_0_24 d hd C dX0_has_6 (fun r6 => ?_)
    refine pw_icmp_ge (tgt := 16) C dX0_has_9 rfl (by omega) (by omega) (fun c9 => ?_) (fun c9 => ?_)
    · refine pw_iconst C dX0_has_16 ?_
      exact pw_zret0 C R dX0_has_17 (by omega) rfl
    · refine pw_iconst C dX0_has_12 ?_
      refine pw_goto (tgt := 17) C dX0_has_13 rfl ?_
      exact pw_zret1 C R dX0_has_17 (by omega) rfl
set_option maxRecDepth 100000 in
set_option maxHeartbeats 400000 in
theorem c_X5_isThere {l : Launch} {S : SW} {M : Mem} {k : Int}  (hk : InR k)  : PM l S yX5_isThere cX5_isThere 2 (some .boolean) 0 0 [rv S 2 5 0, iv k] (M) (rI (b01 (0 ≤ k ∧ k < 4)) M) := by
  refine PM.of (own := RX5) (by decide) rfl [some (rv S 2 5 0), some (iv k)] rfl rfl (Nat.le_of_ble_eq_true rfl) (fun X hXl C R => ?_)
  subst hXl
  refine pw_iload_n C dX5_isThere_0 rfl ?_
  refine pw_if_lt (tgt := 13) C dX5_isThere_1 rfl (by omega) (fun c1 => ?_) (fun c1 => ?_)
  · refine pw_iconst C dX5_isThere_13 ?_
    exact pw_zret0 C R dX5_isThere_14 (by omega) rfl
  · refine pw_iload_n C dX5_isThere_4 rfl ?_
    refine pw_iconst C dX5_isThere_5 ?_
    refine pw_icmp_ge (tgt := 13) C dX5_isThere_6 rfl (by omega) (by omega) (fun c6 => ?_) (fun c6 => ?_)
    · refine pw_iconst C dX5_isThere_13 ?_
      exact pw_zret0 C R dX5_isThere_14 (by omega) rfl
    · refine pw_iconst C dX5_isThere_9 ?_
      refine pw_goto (tgt := 14) C dX5_isThere_10 rfl ?_
      exact pw_zret1 C R dX5_isThere_14 (by omega) rfl
set_option maxRecDepth 100000 in
set_option maxHeartbeats 400000 in
theorem c_X5_isLane {l : Launch} {S : SW} {M : Mem} {n : Int}  (hn : InR n)  : PM l S yX5_isLane cX5_isLane 2 (some .boolean) 0 0 [rv S 2 5 0, iv n] (M) (rI (b01 (0 ≤ n ∧ n < 3)) M) := by
  refine PM.of (own := RX5) (by decide) rfl [some (rv S 2 5 0), some (iv n)] rfl rfl (Nat.le_of_ble_eq_true rfl) (fun X hXl C R => ?_)
  subst hXl
  refine pw_iload_n C dX5_isLane_0 rfl ?_
  refine pw_if_lt (tgt := 13) C dX5_isLane_1 rfl (by omega) (fun c1 => ?_) (fun c1 => ?_)
  · refine pw_iconst C dX5_isLane_13 ?_
    exact pw_zret0 C R dX5_isLane_14 (by omega) rfl
  · refine pw_iload_n C dX5_isLane_4 rfl ?_
    refine pw_iconst C dX5_isLane_5 ?_
    refine pw_icmp_ge (tgt := 13) C dX5_isLane_6 rfl (by omega) (by omega) (fun c6 => ?_) (fun c6 => ?_)
    · refine pw_iconst C dX5_isLane_13 ?_
      exact pw_zret0 C R dX5_isLane_14 (by omega) rfl
    · refine pw_iconst C dX5_isLane_9 ?_
      refine pw_goto (tgt := 14) C dX5_isLane_10 rfl ?_
      exact pw_zret1 C R dX5_isLane_14 (by omega) rfl
set_option maxRecDepth 100000 in
set_option maxHeartbeats 400000 in
theorem c_X5_hasRow {l : Launch} {S : SW} {M : Mem} {V : DM} {k : Int}  (hk : InR k) (k0 : 0 ≤ k) (k1 : k < 4) : PM l S yX5_hasRow cX5_hasRow 2 (some .boolean) 0 0 [rv S 2 5 0, iv k] (mst M 2 V) (rI (b01 (V 9 0 k ≠ -1)) (mst M 2 V)) := by
  refine PM.of (own := RX5) (by decide) rfl [some (rv S 2 5 0), some (iv k)] rfl rfl (Nat.le_of_ble_eq_true rfl) (fun X hXl C R => ?_)
  subst hXl
  refine pw_aload_n C dX5_hasRow_0 rfl ?_
  refine gf_5_18 C dX5_hasRow_1 ?_
  refine pw_iload_n C dX5_hasRow_4 rfl ?_
  refine pw_ialdV C aC_9 (by omega) (by omega) (by decide) dX5_hasRow_5 (fun r5 => ?_)
  refine pw_iconst C dX5_hasRow_6 ?_
  refine pw_icmp_eq (tgt := 14) C dX5_hasRow_7 rfl (by omega) (by omega) (fun c7 => ?_) (fun c7 => ?_)
  · refine pw_iconst C dX5_hasRow_14 ?_
    exact pw_zret0 C R dX5_hasRow_15 (by omega) rfl
  · refine pw_iconst C dX5_hasRow_10 ?_
    refine pw_goto (tgt := 15) C dX5_hasRow_11 rfl ?_
    exact pw_zret1 C R dX5_hasRow_15 (by omega) rfl
set_option maxRecDepth 100000 in
set_option maxHeartbeats 400000 in
theorem c_X5_reaches {l : Launch} {S : SW} {M : Mem} {V : DM} {k i n : Int}  (hk : InR k) (hi : InR i) (hn : InR n) (k0 : 0 ≤ k) (k1 : k < 4) : PM l S yX5_reaches cX5_reaches 4 (some .boolean) 0 0 [rv S 2 5 0, iv k, iv i, iv n] (mst M 2 V) (rI (b01 (0 ≤ i ∧ 0 ≤ n ∧ i ≤ V 9 0 k ∧ n ≤ V 9 0 k - i)) (mst M 2 V)) := by
  refine PM.of (own := RX5) (by decide) rfl [some (rv S 2 5 0), some (iv k), some (iv i), some (iv n)] rfl rfl (Nat.le_of_ble_eq_true rfl) (fun X hXl C R => ?_)
  subst hXl
  refine pw_iload_n C dX5_reaches_0 rfl ?_
  refine pw_if_lt (tgt := 34) C dX5_reaches_1 rfl (by omega) (fun c1 => ?_) (fun c1 => ?_)
  · refine pw_iconst C dX5_reaches_34 ?_
    exact pw_zret0 C R dX5_reaches_35 (by omega) rfl
  · refine pw_iload_n C dX5_reaches_4 rfl ?_
    refine pw_if_lt (tgt := 34) C dX5_reaches_5 rfl (by omega) (fun c5 => ?_) (fun c5 => ?_)
    · refine pw_iconst C dX5_reaches_34 ?_
      exact pw_zret0 C R dX5_reaches_35 (by omega) rfl
    · refine pw_iload_n C dX5_reaches_8 rfl ?_
      refine pw_aload_n C dX5_reaches_9 rfl ?_
      refine gf_5_18 C dX5_reaches_10 ?_
      refine pw_iload_n C dX5_reaches_13 rfl ?_
      refine pw_ialdV C aC_9 (by omega) (by omega) (by decide) dX5_reaches_14 (fun r14 => ?_)
      refine pw_icmp_gt (tgt := 34) C dX5_reaches_15 rfl (by omega) (by omega) (fun c15 => ?_) (fun c15 => ?_)
      · refine pw_iconst C dX5_reaches_34 ?_
        exact pw_zret0 C R dX5_reaches_35 (by omega) rfl
      · refine pw_iload_n C dX5_reaches_18 rfl ?_
        refine pw_aload_n C dX5_reaches_19 rfl ?_
        refine gf_5_18 C dX5_reaches_20 ?_
        refine pw_iload_n C dX5_reaches_23 rfl ?_
        refine pw_ialdV C aC_9 (by omega) (by omega) (by decide) dX5_reaches_24 (fun r24 => ?_)
        refine pw_iload_n C dX5_reaches_25 rfl ?_
        refine pw_isub C dX5_reaches_26 ?_
        refine pw_icmp_gt (tgt := 34) C dX5_reaches_27 rfl (by omega) (by omega) (fun c27 => ?_) (fun c27 => ?_)
        · refine pw_iconst C dX5_reaches_34 ?_
          exact pw_zret0 C R dX5_reaches_35 (by omega) rfl
        · refine pw_iconst C dX5_reaches_30 ?_
          refine pw_goto (tgt := 35) C dX5_reaches_31 rfl ?_
          exact pw_zret1 C R dX5_reaches_35 (by omega) rfl
def cutI (v lane : Int) : Int := if lane = 0 then i8 v else if lane = 1 then i16 v else v
set_option maxRecDepth 100000 in
set_option maxHeartbeats 400000 in
theorem c_X5_cut {l : Launch} {S : SW} {M : Mem} {v lane : Int}  (hv : InR v) (hlane : InR lane)  : PM l S yX5_cut cX5_cut 2 (some .int) 0 0 [iv v, iv lane] (M) (rI (cutI v lane) M) := by
  refine PM.of (own := RX5) (by decide) rfl [some (iv v), some (iv lane)] rfl rfl (Nat.le_of_ble_eq_true rfl) (fun X hXl C R => ?_)
  subst hXl
  refine pw_iload_n C dX5_cut_0 rfl ?_
  refine pw_lsw2 C 28 31 34 (by omega) dX5_cut_1 (by decide) rfl rfl rfl (fun c1 => ?_) (fun c1 => ?_) (fun c1 => ?_)
  · refine pw_iload_n C dX5_cut_28 rfl ?_
    refine pw_i2b C dX5_cut_29 ?_
    exact pw_ireti C R dX5_cut_30 (by simp [cutI, c1]) rfl
  · refine pw_iload_n C dX5_cut_31 rfl ?_
    refine pw_i2s C dX5_cut_32 ?_
    exact pw_ireti C R dX5_cut_33 (by simp [cutI, c1]) rfl
  · refine pw_iload_n C dX5_cut_34 rfl ?_
    exact pw_ireti C R dX5_cut_35 (by simp [cutI, c1]) rfl
def freshAt (V : DM) (s t : Int) : Int := if 0 < V 4 0 s - t * V 5 0 s then V 4 0 s - t * V 5 0 s else 0
set_option maxRecDepth 100000 in
set_option maxHeartbeats 400000 in
theorem c_X6_freshAt {l : Launch} {S : SW} {M : Mem} {V : DM} {d : Nat} {s t : Int} (hd : d < 2) (hs : InR s) (ht : InR t) (s0 : 0 ≤ s) (s1 : s < 4) (hq : InR (V 4 0 s - t * V 5 0 s)) : PM l S yX6_freshAt cX6_freshAt 4 (some .int) 0 0 [rv S d 1 0, iv s, iv t] (mst M d V) (rI (freshAt V s t) (mst M d V)) := by
  refine PM.of (own := RX6) (by decide) rfl [some (rv S d 1 0), some (iv s), some (iv t), none] rfl rfl (Nat.le_of_ble_eq_true rfl) (fun X hXl C R => ?_)
  subst hXl
  refine pw_aload_n C dX6_freshAt_0 rfl ?_
  refine gf_6_18 d hd C dX6_freshAt_1 ?_
  refine pw_iload_n C dX6_freshAt_4 rfl ?_
  refine pw_ialdV C (aD_4 hd) (by omega) (by omega) (by decide) dX6_freshAt_5 (fun r5 => ?_)
  refine pw_iload_n C dX6_freshAt_6 rfl ?_
  refine pw_aload_n C dX6_freshAt_7 rfl ?_
  refine gf_6_21 d hd C dX6_freshAt_8 ?_
  refine pw_iload_n C dX6_freshAt_11 rfl ?_
  refine pw_ialdV C (aD_5 hd) (by omega) (by omega) (by decide) dX6_freshAt_12 (fun r12 => ?_)
  refine pw_imul C dX6_freshAt_13 ?_
  refine pw_isub C dX6_freshAt_14 ?_
  refine pw_istore_3 C dX6_freshAt_15 (k := ?_)
  refine pw_iload_n C dX6_freshAt_16 rfl ?_
  refine pw_if_le (tgt := 24) C dX6_freshAt_17 rfl (by omega) (fun c17 => ?_) (fun c17 => ?_)
  · refine pw_iconst C dX6_freshAt_24 ?_
    exact pw_ireti C R dX6_freshAt_25 (by unfold freshAt; first | rw [if_pos (by omega)] | rw [if_neg (by omega)]) rfl
  · refine pw_iload_n C dX6_freshAt_20 rfl ?_
    refine pw_goto (tgt := 25) C dX6_freshAt_21 rfl ?_
    exact pw_ireti C R dX6_freshAt_25 (by unfold freshAt; first | rw [if_pos (by omega)] | rw [if_neg (by omega)]) rfl
