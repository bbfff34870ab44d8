set_option maxRecDepth 100000 in
set_option maxHeartbeats 400000 in
theorem L_X9_left {X : PX} {S : SW} {M : Mem} {V : DM}  (h3 : 0 ≤ V 0 0 2) (h4 : V 0 0 2 ≤ 4) (C : Cx X S RX9 cX9_left 0 0) (R : CR X S (rI (allL (mv V)) (mst M 3 V)) (some .int)) :
    ∀ (n9 : Nat) (s : Int), (0 ≤ s) → (s ≤ V 0 0 2) → V 0 0 2 - s < n9 → PW X S (mst M 3 V) 4 [some (rv S 3 0 0), some (iv (sumI (fun s => V 21 0 s) s)), some (iv s)] [] := by
  intro n9
  induction n9 with
  | zero => intro s s0 s1 hn9; omega
  | succ n9 ih =>
    intro s s0 s1 hn9
    refine pw_iload_n C dX9_left_4 rfl ?_
    refine pw_aload_n C dX9_left_5 rfl ?_
    refine gv_9_116 C dX9_left_6 (fun r6 => ?_)
    refine pw_icmp_ge (tgt := 27) C dX9_left_9 rfl (by omega) (by omega) (fun c9 => ?_) (fun c9 => ?_)
    · refine pw_iload_n C dX9_left_27 rfl ?_
      exact pw_ireti C R dX9_left_28 (by have e : V 0 0 2 = s := (by omega); show _ = sumI (fun s => V 21 0 s) (V 0 0 2); rw [e]) rfl
    · refine pw_iload_n C dX9_left_12 rfl ?_
      refine pw_aload_n C dX9_left_13 rfl ?_
      refine gf_9_40 C dX9_left_14 ?_
      refine pw_iload_n C dX9_left_17 rfl ?_
      refine pw_ialdV C aM_21 (by omega) (by omega) (by decide) dX9_left_18 (fun r18 => ?_)
      refine pw_iadd C dX9_left_19 ?_
      refine pw_istore_1 C dX9_left_20 (k := ?_)
      refine pw_iinc_2 C dX9_left_21 (k := ?_)
      refine pw_goto (tgt := 4) C dX9_left_24 rfl ?_
      have k := ih (s + 1) (by omega) (by omega) (by omega)
      rw [sumI_s _ s0] at k
      exact k
set_option maxRecDepth 100000 in
set_option maxHeartbeats 400000 in
theorem c_X9_left {l : Launch} {S : SW} {M : Mem} {V : DM}  (h3 : 0 ≤ V 0 0 2) (h4 : V 0 0 2 ≤ 4) : PM l S yX9_left cX9_left 3 (some .int) 0 0 [rv S 3 0 0] (mst M 3 V) (rI (allL (mv V)) (mst M 3 V)) := by
  refine PM.of (own := RX9) (by decide) rfl [some (rv S 3 0 0), none, none] rfl rfl (Nat.le_of_ble_eq_true rfl) (fun X hXl C R => ?_)
  subst hXl
  refine pw_iconst C dX9_left_0 ?_
  refine pw_istore_1 C dX9_left_1 (k := ?_)
  refine pw_iconst C dX9_left_2 ?_
  refine pw_istore_2 C dX9_left_3 (k := ?_)
  exact L_X9_left h3 h4 C R (V 0 0 2 + 1).toNat 0 (by omega) (by omega) (by omega)
set_option maxRecDepth 100000 in
set_option maxHeartbeats 400000 in
theorem L_X9_allFish {X : PX} {S : SW} {M : Mem} {V : DM}  (h3 : 0 ≤ V 0 0 2) (h4 : V 0 0 2 ≤ 4) (C : Cx X S RX9 cX9_allFish 0 0) (R : CR X S (rI (allF (mv V)) (mst M 3 V)) (some .int)) :
    ∀ (n9 : Nat) (s : Int), (0 ≤ s) → (s ≤ V 0 0 2) → V 0 0 2 - s < n9 → PW X S (mst M 3 V) 4 [some (rv S 3 0 0), some (iv (sumI (fun s => V 4 0 s) s)), some (iv s)] [] := by
  intro n9
  induction n9 with
  | zero => intro s s0 s1 hn9; omega
  | succ n9 ih =>
    intro s s0 s1 hn9
    refine pw_iload_n C dX9_allFish_4 rfl ?_
    refine pw_aload_n C dX9_allFish_5 rfl ?_
    refine gv_9_116 C dX9_allFish_6 (fun r6 => ?_)
    refine pw_icmp_ge (tgt := 27) C dX9_allFish_9 rfl (by omega) (by omega) (fun c9 => ?_) (fun c9 => ?_)
    · refine pw_iload_n C dX9_allFish_27 rfl ?_
      exact pw_ireti C R dX9_allFish_28 (by have e : V 0 0 2 = s := (by omega); show _ = sumI (fun s => V 4 0 s) (V 0 0 2); rw [e]) rfl
    · refine pw_iload_n C dX9_allFish_12 rfl ?_
      refine pw_aload_n C dX9_allFish_13 rfl ?_
      refine gf_9_7 C dX9_allFish_14 ?_
      refine pw_iload_n C dX9_allFish_17 rfl ?_
      refine pw_ialdV C aM_4 (by omega) (by omega) (by decide) dX9_allFish_18 (fun r18 => ?_)
      refine pw_iadd C dX9_allFish_19 ?_
      refine pw_istore_1 C dX9_allFish_20 (k := ?_)
      refine pw_iinc_2 C dX9_allFish_21 (k := ?_)
      refine pw_goto (tgt := 4) C dX9_allFish_24 rfl ?_
      have k := ih (s + 1) (by omega) (by omega) (by omega)
      rw [sumI_s _ s0] at k
      exact k
set_option maxRecDepth 100000 in
set_option maxHeartbeats 400000 in
theorem c_X9_allFish {l : Launch} {S : SW} {M : Mem} {V : DM}  (h3 : 0 ≤ V 0 0 2) (h4 : V 0 0 2 ≤ 4) : PM l S yX9_allFish cX9_allFish 3 (some .int) 0 0 [rv S 3 0 0] (mst M 3 V) (rI (allF (mv V)) (mst M 3 V)) := by
  refine PM.of (own := RX9) (by decide) rfl [some (rv S 3 0 0), none, none] rfl rfl (Nat.le_of_ble_eq_true rfl) (fun X hXl C R => ?_)
  subst hXl
  refine pw_iconst C dX9_allFish_0 ?_
  refine pw_istore_1 C dX9_allFish_1 (k := ?_)
  refine pw_iconst C dX9_allFish_2 ?_
  refine pw_istore_2 C dX9_allFish_3 (k := ?_)
  exact L_X9_allFish h3 h4 C R (V 0 0 2 + 1).toNat 0 (by omega) (by omega) (by omega)
set_option maxRecDepth 100000 in
set_option maxHeartbeats 400000 in
theorem L_X9_profitOf {X : PX} {S : SW} {M : Mem} {V : DM}  (h3 : 0 ≤ V 0 0 2) (h4 : V 0 0 2 ≤ 4) (C : Cx X S RX9 cX9_profitOf 1 22) (R : CR X S (rI (profitV (mv V)) (mst M 3 V)) (some .int)) :
    ∀ (n9 : Nat) (s : Int), (0 ≤ s) → (s ≤ V 0 0 2) → V 0 0 2 - s < n9 → PW X S (mst M 3 V) 17 [some (rv S 3 0 0), some (iv (V 0 0 21 + V 0 0 8 * allL (mv V) - sumI (fun s => V 5 0 s * V 4 0 s) s)), some (iv s)] [] := by
  intro n9
  induction n9 with
  | zero => intro s s0 s1 hn9; omega
  | succ n9 ih =>
    intro s s0 s1 hn9
    refine pw_iload_n C dX9_profitOf_17 rfl ?_
    refine pw_aload_n C dX9_profitOf_18 rfl ?_
    refine gv_9_116 C dX9_profitOf_19 (fun r19 => ?_)
    refine pw_icmp_ge (tgt := 47) C dX9_profitOf_22 rfl (by omega) (by omega) (fun c22 => ?_) (fun c22 => ?_)
    · refine pw_iload_n C dX9_profitOf_47 rfl ?_
      exact pw_ireti C R dX9_profitOf_48 (by have e : V 0 0 2 = s := (by omega); unfold profitV; rw [sumI_c (f := fun s => mv V 2 0 s * mv V 3 0 s) (g := fun s => V 5 0 s * V 4 0 s) (fun j _ _ => Int.mul_comm _ _)]; show _ = V 0 0 21 + V 0 0 8 * allL (mv V) - sumI (fun s => V 5 0 s * V 4 0 s) (V 0 0 2); rw [e]) rfl
    · refine pw_iload_n C dX9_profitOf_25 rfl ?_
      refine pw_aload_n C dX9_profitOf_26 rfl ?_
      refine gf_9_13 C dX9_profitOf_27 ?_
      refine pw_iload_n C dX9_profitOf_30 rfl ?_
      refine pw_ialdV C aM_5 (by omega) (by omega) (by decide) dX9_profitOf_31 (fun r31 => ?_)
      refine pw_aload_n C dX9_profitOf_32 rfl ?_
      refine gf_9_7 C dX9_profitOf_33 ?_
      refine pw_iload_n C dX9_profitOf_36 rfl ?_
      refine pw_ialdV C aM_4 (by omega) (by omega) (by decide) dX9_profitOf_37 (fun r37 => ?_)
      refine pw_imul C dX9_profitOf_38 ?_
      refine pw_isub C dX9_profitOf_39 ?_
      refine pw_istore_1 C dX9_profitOf_40 (k := ?_)
      refine pw_iinc_2 C dX9_profitOf_41 (k := ?_)
      refine pw_goto (tgt := 17) C dX9_profitOf_44 rfl ?_
      have k := ih (s + 1) (by omega) (by omega) (by omega)
      rw [sumI_s _ s0, ← Int.sub_sub] at k
      exact k
set_option maxRecDepth 100000 in
set_option maxHeartbeats 400000 in
theorem c_X9_profitOf {l : Launch} {S : SW} {M : Mem} {V : DM}  (h3 : 0 ≤ V 0 0 2) (h4 : V 0 0 2 ≤ 4) : PM l S yX9_profitOf cX9_profitOf 3 (some .int) 1 22 [rv S 3 0 0] (mst M 3 V) (rI (profitV (mv V)) (mst M 3 V)) := by
  refine PM.of (own := RX9) (by decide) rfl [some (rv S 3 0 0), none, none] rfl rfl (Nat.le_of_ble_eq_true rfl) (fun X hXl C R => ?_)
  subst hXl
  refine pw_aload_n C dX9_profitOf_0 rfl ?_
  refine gv_9_207 C dX9_profitOf_1 (fun r1 => ?_)
  refine pw_aload_n C dX9_profitOf_4 rfl ?_
  refine gv_9_156 C dX9_profitOf_5 (fun r5 => ?_)
  refine pw_aload_n C dX9_profitOf_8 rfl ?_
  refine pw_cVI C [] mi_X9_left mv_X9_left ml_9_221 oM_0 rfl (c_X9_left (by omega) (by omega)) (by decide) rfl (Nat.le_of_ble_eq_true rfl) dX9_profitOf_9 ?_
  refine pw_imul C dX9_profitOf_12 ?_
  refine pw_iadd C dX9_profitOf_13 ?_
  refine pw_istore_1 C dX9_profitOf_14 (k := ?_)
  refine pw_iconst C dX9_profitOf_15 ?_
  refine pw_istore_2 C dX9_profitOf_16 (k := ?_)
  have k := L_X9_profitOf h3 h4 C R (V 0 0 2 + 1).toNat 0 (by omega) (by omega) (by omega)
  rw [sumI_0, Int.sub_zero] at k
  exact k
theorem gtM {V U : DM} (hI : DayOk (mv V)) (h : EQ 1 1 (gt (cookV (mv V) 0 (-9) 0)) (mv U)) : EQ 1 1 (gt (mv V)) (mv U) := by
  have hQ := cookV_0 (mv V) 0 (-9) 0
  have f : EQ 0 0 (mv V) (cookV (mv V) 0 (-9) 0) := fun k r i hl => cookV_at _ _ _ _ (by rcases hl with q | q | q | q | q | q | q | q | q <;> omega)
  exact (EQ.gtE hI f (Or.inl ⟨rfl, hQ.2.1⟩)).tr h
theorem gt_00 {A B : DM} {g : Int} (h : EQ g 1 (gt A) B) : EQ g 0 A B := fun k r i hl => by
  have hk12 : 1 ≤ k ∧ k ≤ 12 := by rcases hl with q | q | q | q | q | q | q | q | q <;> omega
  have hF := (Fr.rf A).gtF
  rw [← hF k r i (by omega) (by omega)]
  refine h k r i ?_
  rw [hF 1 0 5 (by omega) (by omega), hF 1 0 6 (by omega) (by omega), hF 8 0 4 (by omega) (by omega)]
  rcases hl with q | q | q | q | q | q | q | q | q
  · exact Or.inl q
  · exact Or.inr (Or.inl q)
  · exact Or.inr (Or.inr (Or.inl q))
  · exact Or.inr (Or.inr (Or.inr (Or.inl q)))
  · exact Or.inr (Or.inr (Or.inr (Or.inr (Or.inl q))))
  · omega
  · omega
  · omega
  · omega
def rIM (x : Int) (M : Mem) (V W : DM) : Option Value → Mem → Prop := fun o N => o = some (iv x) ∧ ∃ U, N = mst M 3 U ∧ EQ 0 0 W (mv U) ∧ K3 V U
def rN (x : Int) (M : Mem) (V W : DM) : Option Value → Mem → Prop := fun o N => o = some (iv x) ∧ ∃ U, N = mst M 3 U ∧ EQ 0 0 W (mv U) ∧ P3 V U
set_option maxRecDepth 100000 in
set_option maxHeartbeats 400000 in
theorem c_X9_profit {l : Launch} {S : SW} {M : Mem} {V : DM}  (hI : DayOk (mv V)) : PM l S yX9_profit cX9_profit 1 (some .int) 7 170 [rv S 3 0 0] (mst M 3 V) (rIQ (fun x N => x = prf (mv V) ∧ ∃ U, N = mst M 3 U ∧ EQ 0 0 (mv V) (mv U) ∧ K3 V U)) := by
  refine PM.of (own := RX9) (by decide) rfl [some (rv S 3 0 0)] rfl rfl (Nat.le_of_ble_eq_true rfl) (fun X hXl C R => ?_)
  subst hXl
  obtain ⟨i1, i2, i3, i4, i5, i6, i7, i8⟩ := id hI
  have e5 : mv V 1 0 5 = V 0 0 1 := rfl
  have e6 : mv V 1 0 6 = V 0 0 2 := rfl
  have e7 : mv V 1 0 7 = V 0 0 8 := rfl
  have e8 : mv V 1 0 8 = V 0 0 9 := rfl
  have e84 : mv V 8 0 4 = V 0 0 15 := rfl
  refine pw_aload_n C dX9_profit_0 rfl ?_
  refine pw_iconst C dX9_profit_1 ?_
  refine pw_bipush C dX9_profit_2 (by decide) ?_
  refine pw_iconst C dX9_profit_4 ?_
  refine pw_cVQV C [_, _, _] mi_X9_goThrough mv_X9_goThrough ml_9_225 oM_0 rfl (c_X9_goThrough (g := 1) (by omega) (by omega) (by omega) hI (Or.inl rfl) (fun _ => rfl)) (by decide) rfl (Nat.le_of_ble_eq_true rfl) dX9_profit_5 ?_
  rintro N9 ⟨U, rfl, hU, kU⟩
  have hU := gtM hI hU
  have u0 := gt_00 hU
  have u6 : U 0 0 2 = V 0 0 2 := u0.n
  have u15 : U 0 0 15 = V 0 0 15 := u0.c
  have u1 : U 0 0 1 = V 0 0 1 := u0.h
  refine pw_aload_n C dX9_profit_8 rfl ?_
  refine pw_cVI C [] mi_X9_profitOf mv_X9_profitOf ml_9_228 oM_0 rfl (c_X9_profitOf (by omega) (by omega)) (by decide) rfl (Nat.le_of_ble_eq_true rfl) dX9_profit_9 ?_
  exact pw_iret C R dX9_profit_12 ⟨_, rfl, hU.profitE, _, rfl, u0.wk 0 0 (by omega), kU⟩
