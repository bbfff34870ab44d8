set_option maxRecDepth 100000 in
set_option maxHeartbeats 400000 in
theorem L_X6_allFish {X : PX} {S : SW} {M : Mem} {V : DM} {d : Nat}  (hd : d < 2) (h4 : V 1 0 6 ≤ 4) (C : Cx X S RX6 cX6_allFish 0 0) (R : CR X S (rI (sumI (fun s => V 2 0 s) (V 1 0 6)) (mst M d V)) (some .int)) :
    ∀ (n9 : Nat) (s : Int), (0 ≤ s) → (s ≤ V 1 0 6) → V 1 0 6 - s < n9 → PW X S (mst M d V) 4 [some (rv S d 1 0), some (iv (sumI (fun s => V 2 0 s) s)), some (iv s)] [] := by
  intro n9
  induction n9 with
  | zero => intro s s0 s1 hn9; omega
  | succ n9 ih =>
    intro s s0 s1 hn9
    refine pw_iload_n C dX6_allFish_4 rfl ?_
    refine pw_aload_n C dX6_allFish_5 rfl ?_
    refine gv_6_35 d hd C dX6_allFish_6 (fun r6 => ?_)
    refine pw_icmp_ge (tgt := 27) C dX6_allFish_9 rfl (by omega) (by omega) (fun c9 => ?_) (fun c9 => ?_)
    · refine pw_iload_n C dX6_allFish_27 rfl ?_
      exact pw_ireti C R dX6_allFish_28 (by have e : V 1 0 6 = s := (by omega); rw [e]) rfl
    · refine pw_iload_n C dX6_allFish_12 rfl ?_
      refine pw_aload_n C dX6_allFish_13 rfl ?_
      refine gf_6_9 d hd C dX6_allFish_14 ?_
      refine pw_iload_n C dX6_allFish_17 rfl ?_
      refine pw_ialdV C (aD_2 hd) (by omega) (by omega) (by decide) dX6_allFish_18 (fun r18 => ?_)
      refine pw_iadd C dX6_allFish_19 ?_
      refine pw_istore_1 C dX6_allFish_20 (k := ?_)
      refine pw_iinc_2 C dX6_allFish_21 (k := ?_)
      refine pw_goto (tgt := 4) C dX6_allFish_24 rfl ?_
      have k := ih (s + 1) (by omega) (by omega) (by omega)
      rw [sumI_s _ s0] at k
      exact k
set_option maxRecDepth 100000 in
set_option maxHeartbeats 400000 in
theorem c_X6_allFish {l : Launch} {S : SW} {M : Mem} {V : DM} {d : Nat} (hd : d < 2) (h3 : 0 ≤ V 1 0 6) (h4 : V 1 0 6 ≤ 4) : PM l S yX6_allFish cX6_allFish 3 (some .int) 0 0 [rv S d 1 0] (mst M d V) (rI (sumI (fun s => V 2 0 s) (V 1 0 6)) (mst M d V)) := by
  refine PM.of (own := RX6) (by decide) rfl [some (rv S d 1 0), none, none] rfl rfl (Nat.le_of_ble_eq_true rfl) (fun X hXl C R => ?_)
  subst hXl
  refine pw_iconst C dX6_allFish_0 ?_
  refine pw_istore_1 C dX6_allFish_1 (k := ?_)
  refine pw_iconst C dX6_allFish_2 ?_
  refine pw_istore_2 C dX6_allFish_3 (k := ?_)
  exact L_X6_allFish hd h4 C R (V 1 0 6 + 1).toNat 0 (by omega) (by omega) (by omega)
set_option maxRecDepth 100000 in
set_option maxHeartbeats 400000 in
theorem L_X6_costOfAll {X : PX} {S : SW} {M : Mem} {V : DM} {d : Nat}  (hd : d < 2) (h4 : V 1 0 6 ≤ 4) (C : Cx X S RX6 cX6_costOfAll 0 0) (R : CR X S (rI (sumI (fun s => V 2 0 s * V 3 0 s) (V 1 0 6)) (mst M d V)) (some .int)) :
    ∀ (n9 : Nat) (s : Int), (0 ≤ s) → (s ≤ V 1 0 6) → V 1 0 6 - s < n9 → PW X S (mst M d V) 4 [some (rv S d 1 0), some (iv (sumI (fun s => V 2 0 s * V 3 0 s) s)), some (iv s)] [] := by
  intro n9
  induction n9 with
  | zero => intro s s0 s1 hn9; omega
  | succ n9 ih =>
    intro s s0 s1 hn9
    refine pw_iload_n C dX6_costOfAll_4 rfl ?_
    refine pw_aload_n C dX6_costOfAll_5 rfl ?_
    refine gv_6_35 d hd C dX6_costOfAll_6 (fun r6 => ?_)
    refine pw_icmp_ge (tgt := 34) C dX6_costOfAll_9 rfl (by omega) (by omega) (fun c9 => ?_) (fun c9 => ?_)
    · refine pw_iload_n C dX6_costOfAll_34 rfl ?_
      exact pw_ireti C R dX6_costOfAll_35 (by have e : V 1 0 6 = s := (by omega); rw [e]) rfl
    · refine pw_iload_n C dX6_costOfAll_12 rfl ?_
      refine pw_aload_n C dX6_costOfAll_13 rfl ?_
      refine gf_6_9 d hd C dX6_costOfAll_14 ?_
      refine pw_iload_n C dX6_costOfAll_17 rfl ?_
      refine pw_ialdV C (aD_2 hd) (by omega) (by omega) (by decide) dX6_costOfAll_18 (fun r18 => ?_)
      refine pw_aload_n C dX6_costOfAll_19 rfl ?_
      refine gf_6_15 d hd C dX6_costOfAll_20 ?_
      refine pw_iload_n C dX6_costOfAll_23 rfl ?_
      refine pw_ialdV C (aD_3 hd) (by omega) (by omega) (by decide) dX6_costOfAll_24 (fun r24 => ?_)
      refine pw_imul C dX6_costOfAll_25 ?_
      refine pw_iadd C dX6_costOfAll_26 ?_
      refine pw_istore_1 C dX6_costOfAll_27 (k := ?_)
      refine pw_iinc_2 C dX6_costOfAll_28 (k := ?_)
      refine pw_goto (tgt := 4) C dX6_costOfAll_31 rfl ?_
      have k := ih (s + 1) (by omega) (by omega) (by omega)
      rw [sumI_s _ s0] at k
      exact k
set_option maxRecDepth 100000 in
set_option maxHeartbeats 400000 in
theorem c_X6_costOfAll {l : Launch} {S : SW} {M : Mem} {V : DM} {d : Nat} (hd : d < 2) (h3 : 0 ≤ V 1 0 6) (h4 : V 1 0 6 ≤ 4) : PM l S yX6_costOfAll cX6_costOfAll 3 (some .int) 0 0 [rv S d 1 0] (mst M d V) (rI (sumI (fun s => V 2 0 s * V 3 0 s) (V 1 0 6)) (mst M d V)) := by
  refine PM.of (own := RX6) (by decide) rfl [some (rv S d 1 0), none, none] rfl rfl (Nat.le_of_ble_eq_true rfl) (fun X hXl C R => ?_)
  subst hXl
  refine pw_iconst C dX6_costOfAll_0 ?_
  refine pw_istore_1 C dX6_costOfAll_1 (k := ?_)
  refine pw_iconst C dX6_costOfAll_2 ?_
  refine pw_istore_2 C dX6_costOfAll_3 (k := ?_)
  exact L_X6_costOfAll hd h4 C R (V 1 0 6 + 1).toNat 0 (by omega) (by omega) (by omega)
set_option maxRecDepth 100000 in
set_option maxHeartbeats 400000 in
theorem L_X1_allLeft {X : PX} {S : SW} {M : Mem} {V : DM} {d : Nat}  (hd : d < 2) (h4 : V 1 0 6 ≤ 4) (C : Cx X S RX1 cX1_allLeft 0 0) (R : CR X S (rI (sumI (fun s => V 13 0 s) (V 1 0 6)) (mst M d V)) (some .int)) :
    ∀ (n9 : Nat) (s : Int), (0 ≤ s) → (s ≤ V 1 0 6) → V 1 0 6 - s < n9 → PW X S (mst M d V) 4 [some (rv S d 0 0), some (iv (sumI (fun s => V 13 0 s) s)), some (iv s)] [] := by
  intro n9
  induction n9 with
  | zero => intro s s0 s1 hn9; omega
  | succ n9 ih =>
    intro s s0 s1 hn9
    refine pw_iload_n C dX1_allLeft_4 rfl ?_
    refine pw_aload_n C dX1_allLeft_5 rfl ?_
    refine gf_1_12 d hd C dX1_allLeft_6 ?_
    refine gv_1_67 d hd C dX1_allLeft_9 (fun r9 => ?_)
    refine pw_icmp_ge (tgt := 30) C dX1_allLeft_12 rfl (by omega) (by omega) (fun c12 => ?_) (fun c12 => ?_)
    · refine pw_iload_n C dX1_allLeft_30 rfl ?_
      exact pw_ireti C R dX1_allLeft_31 (by have e : V 1 0 6 = s := (by omega); rw [e]) rfl
    · refine pw_iload_n C dX1_allLeft_15 rfl ?_
      refine pw_aload_n C dX1_allLeft_16 rfl ?_
      refine gf_1_25 d hd C dX1_allLeft_17 ?_
      refine pw_iload_n C dX1_allLeft_20 rfl ?_
      refine pw_ialdV C (aD_13 hd) (by omega) (by omega) (by decide) dX1_allLeft_21 (fun r21 => ?_)
      refine pw_iadd C dX1_allLeft_22 ?_
      refine pw_istore_1 C dX1_allLeft_23 (k := ?_)
      refine pw_iinc_2 C dX1_allLeft_24 (k := ?_)
      refine pw_goto (tgt := 4) C dX1_allLeft_27 rfl ?_
      have k := ih (s + 1) (by omega) (by omega) (by omega)
      rw [sumI_s _ s0] at k
      exact k
set_option maxRecDepth 100000 in
set_option maxHeartbeats 400000 in
theorem c_X1_allLeft {l : Launch} {S : SW} {M : Mem} {V : DM} {d : Nat} (hd : d < 2) (h3 : 0 ≤ V 1 0 6) (h4 : V 1 0 6 ≤ 4) : PM l S yX1_allLeft cX1_allLeft 3 (some .int) 0 0 [rv S d 0 0] (mst M d V) (rI (sumI (fun s => V 13 0 s) (V 1 0 6)) (mst M d V)) := by
  refine PM.of (own := RX1) (by decide) rfl [some (rv S d 0 0), none, none] rfl rfl (Nat.le_of_ble_eq_true rfl) (fun X hXl C R => ?_)
  subst hXl
  refine pw_iconst C dX1_allLeft_0 ?_
  refine pw_istore_1 C dX1_allLeft_1 (k := ?_)
  refine pw_iconst C dX1_allLeft_2 ?_
  refine pw_istore_2 C dX1_allLeft_3 (k := ?_)
  exact L_X1_allLeft hd h4 C R (V 1 0 6 + 1).toNat 0 (by omega) (by omega) (by omega)
set_option maxRecDepth 100000 in
set_option maxHeartbeats 400000 in
theorem c_X1_profit {l : Launch} {S : SW} {M : Mem} {V : DM} {d : Nat} (hd : d < 2) (h3 : 0 ≤ V 1 0 6) (h4 : V 1 0 6 ≤ 4) : PM l S yX1_profit cX1_profit 1 (some .int) 1 22 [rv S d 0 0] (mst M d V) (rI (profitV V) (mst M d V)) := by
  refine PM.of (own := RX1) (by decide) rfl [some (rv S d 0 0)] rfl rfl (Nat.le_of_ble_eq_true rfl) (fun X hXl C R => ?_)
  subst hXl
  refine pw_aload_n C dX1_profit_0 rfl ?_
  refine gv_1_64 d hd C dX1_profit_1 (fun r1 => ?_)
  refine pw_aload_n C dX1_profit_4 rfl ?_
  refine gf_1_12 d hd C dX1_profit_5 ?_
  refine gv_1_97 d hd C dX1_profit_8 (fun r8 => ?_)
  refine pw_aload_n C dX1_profit_11 rfl ?_
  refine pw_cVI C [] mi_X1_allLeft mv_X1_allLeft ml_1_100 (oD_0 hd) rfl (c_X1_allLeft hd (by omega) (by omega)) (by decide) rfl (Nat.le_of_ble_eq_true rfl) dX1_profit_12 ?_
  refine pw_imul C dX1_profit_15 ?_
  refine pw_iadd C dX1_profit_16 ?_
  refine pw_aload_n C dX1_profit_17 rfl ?_
  refine gf_1_12 d hd C dX1_profit_18 ?_
  refine pw_cVI C [] mi_X6_costOfAll mv_X6_costOfAll ml_1_104 (oD_1 hd) rfl (c_X6_costOfAll hd (by omega) (by omega)) (by decide) rfl (Nat.le_of_ble_eq_true rfl) dX1_profit_21 ?_
  refine pw_isub C dX1_profit_24 ?_
  exact pw_ireti C R dX1_profit_25 (by first | rfl | omega) rfl
set_option maxRecDepth 100000 in
set_option maxHeartbeats 400000 in
theorem c_X1_awaitCook {l : Launch} {S : SW} {M : Mem} {V : DM} {d : Nat} {s t c : Int} (hd : d < 2) (hs : InR s) (ht : InR t) (hc : InR c)  : PM l S yX1_awaitCook cX1_awaitCook 4 none 0 0 [rv S d 0 0, iv s, iv t, iv c] (mst M d V) (rV (mst M d (cookV V s t c))) := by
  refine PM.of (own := RX1) (by decide) rfl [some (rv S d 0 0), some (iv s), some (iv t), some (iv c)] rfl rfl (Nat.le_of_ble_eq_true rfl) (fun X hXl C R => ?_)
  subst hXl
  refine pw_aload_n C dX1_awaitCook_0 rfl ?_
  refine pw_iload_n C dX1_awaitCook_1 rfl ?_
  refine pv_1_58 d hd C (by omega) dX1_awaitCook_2 ?_
  refine pw_aload_n C dX1_awaitCook_5 rfl ?_
  refine pw_iload_n C dX1_awaitCook_6 rfl ?_
  refine pv_1_47 d hd C (by omega) dX1_awaitCook_7 ?_
  refine pw_aload_n C dX1_awaitCook_10 rfl ?_
  refine pw_iload_n C dX1_awaitCook_11 rfl ?_
  refine pv_1_61 d hd C (by omega) dX1_awaitCook_12 ?_
  exact pw_vreti C R dX1_awaitCook_15 rfl
set_option maxRecDepth 100000 in
set_option maxHeartbeats 400000 in
theorem c_X1_sellAllToCook {l : Launch} {S : SW} {M : Mem} {V : DM} {d : Nat} (hd : d < 2) (c0 : 0 ≤ V 0 0 10) (c1 : V 0 0 10 < 4) : PM l S yX1_sellAllToCook cX1_sellAllToCook 1 none 0 0 [rv S d 0 0] (mst M d V) (rV (mst M d (vup (vup V 0 0 9 (w32 (V 0 0 9 + V 13 0 (V 0 0 10) * V 0 0 12))) 13 0 (V 0 0 10) 0))) := by
  refine PM.of (own := RX1) (by decide) rfl [some (rv S d 0 0)] rfl rfl (Nat.le_of_ble_eq_true rfl) (fun X hXl C R => ?_)
  subst hXl
  refine pw_aload_n C dX1_sellAllToCook_0 rfl ?_
  refine pw_dup C dX1_sellAllToCook_1 rfl ?_
  refine gv_1_64 d hd C dX1_sellAllToCook_2 (fun r2 => ?_)
  refine pw_aload_n C dX1_sellAllToCook_5 rfl ?_
  refine gf_1_25 d hd C dX1_sellAllToCook_6 ?_
  refine pw_aload_n C dX1_sellAllToCook_9 rfl ?_
  refine gv_1_58 d hd C dX1_sellAllToCook_10 (fun r10 => ?_)
  refine pw_ialdV C (aD_13 hd) (by omega) (by omega) (by decide) dX1_sellAllToCook_13 (fun r13 => ?_)
  refine pw_aload_n C dX1_sellAllToCook_14 rfl ?_
  refine gv_1_61 d hd C dX1_sellAllToCook_15 (fun r15 => ?_)
  refine pw_imul C dX1_sellAllToCook_18 ?_
  refine pw_iadd C dX1_sellAllToCook_19 ?_
  refine pw_w ?_
  refine pv_1_64 d hd C (w32_R _) dX1_sellAllToCook_20 ?_
  refine pw_aload_n C dX1_sellAllToCook_23 rfl ?_
  refine gf_1_25 d hd C dX1_sellAllToCook_24 ?_
  refine pw_aload_n C dX1_sellAllToCook_27 rfl ?_
  refine gv_1_58 d hd C dX1_sellAllToCook_28 (fun r28 => ?_)
  refine pw_iconst C dX1_sellAllToCook_31 ?_
  refine pw_iastV C (aD_13 hd) (by rw [vup_j _ _ _ _ (by omega)]; omega) (by rw [vup_j _ _ _ _ (by omega)]; omega) (by decide) (by omega) dX1_sellAllToCook_32 ?_
  exact pw_vreti C R dX1_sellAllToCook_33 (by rw [vup_j _ 0 0 _ (show (10 : Int) ≠ 9 by omega)])
set_option maxRecDepth 100000 in
set_option maxHeartbeats 400000 in
theorem L_X1_open2 {X : PX} {S : SW} {M : Mem} {V : DM} {d : Nat} {U0 : DM}  (hd : d < 2) (h10 : U0 8 0 4 ≤ 10) (C : Cx X S RX1 cX1_open 0 0) (R : CR X S (rV (mst M d (iterI openB U0 (U0 8 0 4)))) none) :
    ∀ (n9 : Nat) (x : Int) (W : DM), (0 ≤ x) → (x ≤ U0 8 0 4) → (W = iterI openB U0 x) → U0 8 0 4 - x < n9 → PW X S (mst M d W) 56 [some (rv S d 0 0), some (iv x)] [] := by
  intro n9
  induction n9 with
  | zero => intro x W x0 x1 hW hn9; omega
  | succ n9 ih =>
    intro x W x0 x1 hW hn9
    have hF : Fr U0 W := by rw [hW]; exact iterI_inv (R := fun U => Fr U0 U) (Fr.rf U0) (fun j U _ _ hU => (((hU.up (by omega)).up (by omega)).up (by omega)).up (by omega))
    have e8 : W 8 0 4 = U0 8 0 4 := hF 8 0 4 (by omega) (by omega)
    refine pw_iload_n C dX1_open_56 rfl ?_
    refine pw_aload_n C dX1_open_57 rfl ?_
    refine gf_1_21 d hd C dX1_open_58 ?_
    refine gv_1_73 d hd C dX1_open_61 (fun r61 => ?_)
    refine pw_icmp_ge (tgt := 104) C dX1_open_64 rfl (by omega) (by omega) (fun c64 => ?_) (fun c64 => ?_)
    · exact pw_vreti C R dX1_open_104 (by rw [hW]; have e : U0 8 0 4 = x := (by omega); rw [e])
    · refine pw_aload_n C dX1_open_67 rfl ?_
      refine gf_1_35 d hd C dX1_open_68 ?_
      refine pw_iload_n C dX1_open_71 rfl ?_
      refine pw_bipush C dX1_open_72 (by decide) ?_
      refine pw_iastV C (aD_16 hd) (by omega) (by omega) (by decide) (by omega) dX1_open_74 ?_
      refine pw_aload_n C dX1_open_75 rfl ?_
      refine gf_1_38 d hd C dX1_open_76 ?_
      refine pw_iload_n C dX1_open_79 rfl ?_
      refine pw_bipush C dX1_open_80 (by decide) ?_
      refine pw_iastV C (aD_17 hd) (by omega) (by omega) (by decide) (by omega) dX1_open_82 ?_
      refine pw_aload_n C dX1_open_83 rfl ?_
      refine gf_1_41 d hd C dX1_open_84 ?_
      refine pw_iload_n C dX1_open_87 rfl ?_
      refine pw_bipush C dX1_open_88 (by decide) ?_
      refine pw_iastV C (aD_18 hd) (by omega) (by omega) (by decide) (by omega) dX1_open_90 ?_
      refine pw_aload_n C dX1_open_91 rfl ?_
      refine gf_1_44 d hd C dX1_open_92 ?_
      refine pw_iload_n C dX1_open_95 rfl ?_
      refine pw_iconst C dX1_open_96 ?_
      refine pw_iastV C (aD_19 hd) (by omega) (by omega) (by decide) (by omega) dX1_open_97 ?_
      refine pw_iinc_1 C dX1_open_98 (k := ?_)
      refine pw_goto (tgt := 56) C dX1_open_101 rfl ?_
      refine ih (x + 1) _ (by omega) (by omega) ?_ (by omega)
      rw [iterI_s _ _ x0, ← hW]
      rfl
set_option maxRecDepth 100000 in
set_option maxHeartbeats 400000 in
theorem L_X1_open1 {X : PX} {S : SW} {M : Mem} {V : DM} {d : Nat} {U0 : DM}  (hd : d < 2) (h8 : 0 ≤ U0 8 0 4) (h10 : U0 8 0 4 ≤ 10) (h4 : U0 1 0 6 ≤ 4) (C : Cx X S RX1 cX1_open 0 0) (R : CR X S (rV (mst M d (iterI openB (iterI openS U0 (U0 1 0 6)) (U0 8 0 4)))) none) :
    ∀ (n9 : Nat) (s : Int) (W : DM), (0 ≤ s) → (s ≤ U0 1 0 6) → (W = iterI openS U0 s) → U0 1 0 6 - s < n9 → PW X S (mst M d W) 7 [some (rv S d 0 0), some (iv s)] [] := by
  intro n9
  induction n9 with
  | zero => intro s W s0 s1 hW hn9; omega
  | succ n9 ih =>
    intro s W s0 s1 hW hn9
    have hF : Fr U0 W := by rw [hW]; exact iterI_inv (R := fun U => Fr U0 U) (Fr.rf U0) (fun j U _ _ hU => ((hU.up (by omega)).up (by omega)).up (by omega))
    have e8 : W 8 0 4 = U0 8 0 4 := hF 8 0 4 (by omega) (by omega)
    have e6 : W 1 0 6 = U0 1 0 6 := hF 1 0 6 (by omega) (by omega)
    refine pw_iload_n C dX1_open_7 rfl ?_
    refine pw_aload_n C dX1_open_8 rfl ?_
    refine gf_1_12 d hd C dX1_open_9 ?_
    refine gv_1_67 d hd C dX1_open_12 (fun r12 => ?_)
    refine pw_icmp_ge (tgt := 54) C dX1_open_15 rfl (by omega) (by omega) (fun c15 => ?_) (fun c15 => ?_)
    · refine pw_iconst C dX1_open_54 ?_
      refine pw_istore_1 C dX1_open_55 (k := ?_)
      have e6 : U0 1 0 6 = s := by omega
      have R2 := R
      rw [e6, ← hW, ← e8] at R2
      have k := L_X1_open2 (M := M) (V := V) hd (U0 := W) (by omega) C R2 (W 8 0 4 + 1).toNat 0 W (by omega) (by omega) rfl (by omega)
      exact k
    · refine pw_aload_n C dX1_open_18 rfl ?_
      refine gf_1_25 d hd C dX1_open_19 ?_
      refine pw_iload_n C dX1_open_22 rfl ?_
      refine pw_aload_n C dX1_open_23 rfl ?_
      refine gf_1_12 d hd C dX1_open_24 ?_
      refine gf_1_70 d hd C dX1_open_27 ?_
      refine pw_iload_n C dX1_open_30 rfl ?_
      refine pw_ialdV C (aD_2 hd) (by omega) (by omega) (by decide) dX1_open_31 (fun r31 => ?_)
      refine pw_iastV C (aD_13 hd) (by omega) (by omega) (by decide) (by omega) dX1_open_32 ?_
      refine pw_aload_n C dX1_open_33 rfl ?_
      refine gf_1_29 d hd C dX1_open_34 ?_
      refine pw_iload_n C dX1_open_37 rfl ?_
      refine pw_bipush C dX1_open_38 (by decide) ?_
      refine pw_iastV C (aD_14 hd) (by omega) (by omega) (by decide) (by omega) dX1_open_40 ?_
      refine pw_aload_n C dX1_open_41 rfl ?_
      refine gf_1_32 d hd C dX1_open_42 ?_
      refine pw_iload_n C dX1_open_45 rfl ?_
      refine pw_iconst C dX1_open_46 ?_
      refine pw_iastV C (aD_15 hd) (by omega) (by omega) (by decide) (by omega) dX1_open_47 ?_
      refine pw_iinc_1 C dX1_open_48 (k := ?_)
      refine pw_goto (tgt := 7) C dX1_open_51 rfl ?_
      refine ih (s + 1) _ (by omega) (by omega) ?_ (by omega)
      rw [iterI_s _ _ s0, ← hW]
      rfl
set_option maxRecDepth 100000 in
set_option maxHeartbeats 400000 in
theorem c_X1_open {l : Launch} {S : SW} {M : Mem} {V : DM} {d : Nat} (hd : d < 2) (hI : DayOk V)  : PM l S yX1_open cX1_open 2 none 0 0 [rv S d 0 0] (mst M d V) (rV (mst M d (openV V))) := by
  refine PM.of (own := RX1) (by decide) rfl [some (rv S d 0 0), none] rfl rfl (Nat.le_of_ble_eq_true rfl) (fun X hXl C R => ?_)
  subst hXl
  obtain ⟨i1, i2, i3, i4, i5, i6, i7, i8⟩ := id hI
  refine pw_aload_n C dX1_open_0 rfl ?_
  refine pw_iconst C dX1_open_1 ?_
  refine pv_1_64 d hd C (by omega) dX1_open_2 ?_
  refine pw_iconst C dX1_open_5 ?_
  refine pw_istore_1 C dX1_open_6 (k := ?_)
  exact L_X1_open1 (V := V) hd (U0 := vup V 0 0 9 0) (by show 0 ≤ V 8 0 4; omega) (by show V 8 0 4 ≤ 10; omega) (by show V 1 0 6 ≤ 4; omega) C R (V 1 0 6 + 1).toNat 0 _ (by omega) (by show 0 ≤ V 1 0 6; omega) rfl (by show V 1 0 6 - 0 < _; omega)
