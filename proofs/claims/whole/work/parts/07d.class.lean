theorem sumI_r2 {f : Int → Int} {A B n : Int} (n0 : 0 ≤ n) (h : ∀ j, 0 ≤ j → j < n → A ≤ f j ∧ f j ≤ B) : A * n ≤ sumI f n ∧ sumI f n ≤ B * n := by
  have key : ∀ m : Nat, (m : Int) ≤ n → A * m ≤ sumN f m ∧ sumN f m ≤ B * m := by
    intro m
    induction m with
    | zero => intro _; simp [sumN]
    | succ m ih =>
      intro hm
      have a := ih (by omega)
      have b := h m (by omega) (by omega)
      rw [sumN, show A * ((m + 1 : Nat) : Int) = A * m + A by rw [Int.natCast_add, Int.mul_add]; simp, show B * ((m + 1 : Nat) : Int) = B * m + B by rw [Int.natCast_add, Int.mul_add]; simp]
      omega
  have k := key n.toNat (by omega)
  rw [show ((n.toNat : Nat) : Int) = n by omega] at k
  exact k
/-- weights as told -/
def wtP (f : Int → Int) (i n : Int) : Prop := (1 ≤ n ∧ n ≤ 20) ∧ ∀ j, 0 ≤ j → j < n → 0 ≤ f (i + j) ∧ f (i + j) ≤ 99
def TakeI (V : DM) (k i n : Int) (x : Int) (W : DM) : Prop := (∀ (k2 : Nat) (r j : Int), k2 ≠ 10 → k2 ≠ 11 → W k2 r j = V k2 r j) ∧ (¬ wtP (V 7 k) i n → x = 0) ∧ (wtP (V 7 k) i n → x = b01 (0 < sumI (fun j => V 7 k (i + j)) n) ∧ W 10 0 1 = n ∧ W 10 0 2 = sumI (fun j => V 7 k (i + j)) n ∧ ∀ j, 0 ≤ j → j < n → W 11 0 j = V 7 k (i + j))
set_option maxRecDepth 100000 in
set_option maxHeartbeats 400000 in
theorem L_X3_take {X : PX} {S : SW} {M : Mem} {V : DM} {k i n : Int}  (k0 : 0 ≤ k) (k1 : k < 4) (i0 : 0 ≤ i) (i1 : i + n ≤ 60) (hw : wtP (V 7 k) i n) (C : Cx X S RX3 cX3_take 2 47) (R : CR X S (rIQ (fun x N => ∃ W, N = mst M 2 W ∧ TakeI V k i n x W)) (some .boolean)) :
    ∀ (n9 : Nat) (j : Int) (W : DM), (0 ≤ j) → (j ≤ n) → (W 10 0 1 = n ∧ W 10 0 2 = sumI (fun j => V 7 k (i + j)) j ∧ (∀ q, 0 ≤ q → q < j → W 11 0 q = V 7 k (i + q)) ∧ ∀ (k2 : Nat) (r q : Int), k2 ≠ 10 → k2 ≠ 11 → W k2 r q = V k2 r q) → n - j < n9 → PW X S (mst M 2 W) 37 [some (rv S 2 10 0), some (rv S 2 7 k), some (iv i), some (iv n), some (iv j)] [] := by
  have w1 := hw.1
  intro n9
  induction n9 with
  | zero => intro j W j0 j1 hW hn9; omega
  | succ n9 ih =>
    intro j W j0 j1 hW hn9
    refine pw_iload C dX3_take_37 rfl ?_
    refine pw_iload_n C dX3_take_39 rfl ?_
    refine pw_icmp_ge (tgt := 78) C dX3_take_40 rfl (by omega) (by omega) (fun c40 => ?_) (fun c40 => ?_)
    · refine pw_aload_n C dX3_take_78 rfl ?_
      have e2 := hW.2.1
      rw [show j = n by omega] at e2
      refine gv_3_27 C dX3_take_79 (fun r79 => ?_)
      refine pw_if_le (tgt := 89) C dX3_take_82 rfl (by omega) (fun c82 => ?_) (fun c82 => ?_)
      · refine pw_iconst C dX3_take_89 ?_
        first
          | exact pw_zret C R dX3_take_90 (Or.inr rfl) ⟨1, rfl, W, rfl, hW.2.2.2, fun h => absurd hw h, fun _ => ⟨by rw [b01_t (show 0 < sumI (fun j => V 7 k (i + j)) n by omega)], hW.1, e2, fun q a b => hW.2.2.1 q a (by omega)⟩⟩
          | exact pw_zret C R dX3_take_90 (Or.inl rfl) ⟨0, rfl, W, rfl, hW.2.2.2, fun h => absurd hw h, fun _ => ⟨by rw [b01_f (show ¬ (0 < sumI (fun j => V 7 k (i + j)) n) by omega)], hW.1, e2, fun q a b => hW.2.2.1 q a (by omega)⟩⟩
      · refine pw_iconst C dX3_take_85 ?_
        refine pw_goto (tgt := 90) C dX3_take_86 rfl ?_
        first
          | exact pw_zret C R dX3_take_90 (Or.inr rfl) ⟨1, rfl, W, rfl, hW.2.2.2, fun h => absurd hw h, fun _ => ⟨by rw [b01_t (show 0 < sumI (fun j => V 7 k (i + j)) n by omega)], hW.1, e2, fun q a b => hW.2.2.1 q a (by omega)⟩⟩
          | exact pw_zret C R dX3_take_90 (Or.inl rfl) ⟨0, rfl, W, rfl, hW.2.2.2, fun h => absurd hw h, fun _ => ⟨by rw [b01_f (show ¬ (0 < sumI (fun j => V 7 k (i + j)) n) by omega)], hW.1, e2, fun q a b => hW.2.2.1 q a (by omega)⟩⟩
    · have e7 : W 7 k (i + j) = V 7 k (i + j) := hW.2.2.2 7 k (i + j) (by omega) (by omega)
      have hv := hw.2 j j0 (by omega)
      refine pw_aload_n C dX3_take_43 rfl ?_
      refine gf_3_9 C dX3_take_44 ?_
      refine pw_iload C dX3_take_47 rfl ?_
      refine pw_aload_n C dX3_take_49 rfl ?_
      refine pw_iload_n C dX3_take_50 rfl ?_
      refine pw_iload C dX3_take_51 rfl ?_
      refine pw_iadd C dX3_take_53 ?_
      refine pw_ialdV C (aC_7 (by omega) (by omega)) (by omega) (by omega) (by decide) dX3_take_54 (fun r54 => ?_)
      refine pw_iastV C aC_11 (by omega) (by omega) (by decide) (by omega) dX3_take_55 ?_
      have e2 : (vup W 11 0 j (W 7 k (i + j))) 10 0 2 = W 10 0 2 := rfl
      have e11 : (vup W 11 0 j (W 7 k (i + j))) 11 0 j = W 7 k (i + j) := vup_v _ _ _ _ _
      have hsum := sumI_r (f := fun j => V 7 k (i + j)) (B := 99) j0 (fun q a b => hw.2 q a (by omega))
      refine pw_aload_n C dX3_take_56 rfl ?_
      refine pw_dup C dX3_take_57 rfl ?_
      refine gv_3_27 C dX3_take_58 (fun r58 => ?_)
      refine pw_aload_n C dX3_take_61 rfl ?_
      refine gf_3_9 C dX3_take_62 ?_
      refine pw_iload C dX3_take_65 rfl ?_
      refine pw_ialdV C aC_11 (by omega) (by omega) (by decide) dX3_take_67 (fun r67 => ?_)
      refine pw_iadd C dX3_take_68 ?_
      refine pv_3_27 C (by omega) dX3_take_69 ?_
      refine pw_iinc_4 C dX3_take_72 (k := ?_)
      refine pw_goto (tgt := 37) C dX3_take_75 rfl ?_
      refine ih (j + 1) _ (by omega) (by omega) ⟨?_, ?_, fun q a b => ?_, fun k2 r q a b => ?_⟩ (by omega)
      · rw [vup_n _ (by omega), vup_k _ _ _ _ (by omega)]; exact hW.1
      · rw [vup_v, e2, e11, hW.2.1, e7, sumI_s _ j0]
      · rw [vup_k _ _ _ _ (by omega)]
        by_cases e : q = j
        · rw [e, vup_v, e7]
        · rw [vup_j _ _ _ _ e]; exact hW.2.2.1 q a (by omega)
      · rw [vup_k _ _ _ _ a, vup_k _ _ _ _ b]; exact hW.2.2.2 k2 r q a b
set_option maxRecDepth 100000 in
set_option maxHeartbeats 400000 in
theorem c_X3_take {l : Launch} {S : SW} {M : Mem} {V : DM} {i n : Int} {k : Int}  (hi : InR i) (hn : InR n) (k0 : 0 ≤ k) (k1 : k < 4) (i0 : 0 ≤ i) (n0 : 0 ≤ n) (i1 : i + n ≤ 60) : PM l S yX3_take cX3_take 5 (some .boolean) 2 47 [rv S 2 10 0, rv S 2 7 k, iv i, iv n] (mst M 2 V) (rIQ (fun x N => ∃ W, N = mst M 2 W ∧ TakeI V k i n x W)) := by
  refine PM.of (own := RX3) (by decide) rfl [some (rv S 2 10 0), some (rv S 2 7 k), some (iv i), some (iv n), none] rfl rfl (Nat.le_of_ble_eq_true rfl) (fun X hXl C R => ?_)
  subst hXl
  refine pw_iload_n C dX3_take_0 rfl ?_
  refine pw_iconst C dX3_take_1 ?_
  refine pw_bipush C dX3_take_2 (by decide) ?_
  refine pw_cNI C [_, _, _] mi_X8_isWithin ms_X8_isWithin mn_3_15 (c_X8_isWithin (by omega) (by omega) (by omega)) (by decide) rfl (Nat.le_of_ble_eq_true rfl) dX3_take_4 ?_
  refine pw_if_eq_b (tgt := 22) C dX3_take_7 rfl (fun c7 => ?_) (fun c7 => ?_)
  · refine pw_iconst C dX3_take_22 ?_
    refine pw_zret C R dX3_take_23 (Or.inl rfl) ⟨0, rfl, V, rfl, fun _ _ _ _ _ => rfl, fun _ => rfl, fun h => ?_⟩
    first | exact absurd h.1 c7 | exact absurd h.2 c19
  · refine pw_aload_n C dX3_take_10 rfl ?_
    refine pw_iload_n C dX3_take_11 rfl ?_
    refine pw_iload_n C dX3_take_12 rfl ?_
    refine pw_iconst C dX3_take_13 ?_
    refine pw_bipush C dX3_take_14 (by decide) ?_
    refine pw_cNI C [_, _, _, _, _] mi_X8_areAllWithin ms_X8_areAllWithin mn_3_19 (c_X8_areAllWithin (by omega) (by omega) (by omega) (by omega) (by omega) (by omega) (by omega) (by omega) (by omega)) (by decide) rfl (Nat.le_of_ble_eq_true rfl) dX3_take_16 ?_
    refine pw_if_ne_b (tgt := 24) C dX3_take_19 rfl (fun c19 => ?_) (fun c19 => ?_)
    · refine pw_aload_n C dX3_take_24 rfl ?_
      refine pw_iload_n C dX3_take_25 rfl ?_
      refine pv_3_23 C (by omega) dX3_take_26 ?_
      refine pw_aload_n C dX3_take_29 rfl ?_
      refine pw_iconst C dX3_take_30 ?_
      refine pv_3_27 C (by omega) dX3_take_31 ?_
      refine pw_iconst C dX3_take_34 ?_
      refine pw_istore_4 C dX3_take_35 (k := ?_)
      have hw : wtP (V 7 k) i n := ⟨c7, c19⟩
      exact L_X3_take k0 k1 i0 i1 hw C R (n + 1).toNat 0 _ (by omega) (by omega) ⟨by rw [vup_n _ (by omega), vup_v], by rw [vup_v]; rfl, fun q a b => by omega, fun k2 r q a b => by rw [vup_k _ _ _ _ a, vup_k _ _ _ _ a]⟩ (by omega)
    · refine pw_iconst C dX3_take_22 ?_
      refine pw_zret C R dX3_take_23 (Or.inl rfl) ⟨0, rfl, V, rfl, fun _ _ _ _ _ => rfl, fun _ => rfl, fun h => ?_⟩
      first | exact absurd h.1 c7 | exact absurd h.2 c19
def mn (w q : Int) : Int := if q < w then q else w
def wgh (f : Int → Int) (n s q c p o : Int) : Int := sumI (fun w => f w * (mn w q * p + (q - mn w q) * o)) n - s * q * c
def OdOk (f : Int → Int) (n s : Int) : Prop := (1 ≤ n ∧ n ≤ 20) ∧ (0 ≤ s ∧ s ≤ 1980) ∧ ∀ j, 0 ≤ j → j < n → 0 ≤ f j ∧ f j ≤ 99
theorem mul_r {a b A B : Int} (a0 : 0 ≤ a) (a1 : a ≤ A) (b0 : 0 ≤ b) (b1 : b ≤ B) : 0 ≤ a * b ∧ a * b ≤ A * B := ⟨Int.mul_nonneg a0 b0, Int.mul_le_mul a1 b1 b0 (by omega)⟩
theorem wgh_r {f : Int → Int} {n s q c p o : Int} (h : OdOk f n s) (q0 : 0 ≤ q) (q1 : q ≤ 20) (c0 : 0 ≤ c) (c1 : c ≤ 99) (p0 : 0 ≤ p) (p1 : p ≤ 99) (o0 : 0 ≤ o) (o1 : o ≤ 99) : -3920400 ≤ wgh f n s q c p o ∧ wgh f n s q c p o ≤ 7840800 := by
  have a := sumI_r (f := fun w => f w * (mn w q * p + (q - mn w q) * o)) (B := 392040) (show 0 ≤ n by have := h.1; omega) (fun j j0 j1 => by
    have hm : 0 ≤ mn j q ∧ mn j q ≤ q := by unfold mn; split <;> omega
    have m1 := mul_r hm.1 (show mn j q ≤ 20 by omega) p0 p1
    have m2 := mul_r (show 0 ≤ q - mn j q by omega) (show q - mn j q ≤ 20 by omega) o0 o1
    have hf := h.2.2 j j0 j1
    exact mul_r hf.1 hf.2 (show 0 ≤ mn j q * p + (q - mn j q) * o by omega) (show mn j q * p + (q - mn j q) * o ≤ 3960 by omega))
  have b1 := mul_r h.2.1.1 h.2.1.2 q0 q1
  have b2 := mul_r b1.1 b1.2 c0 c1
  have hn := h.1
  unfold wgh
  omega
set_option maxRecDepth 100000 in
set_option maxHeartbeats 400000 in
theorem L_X3_weighed {X : PX} {S : SW} {M : Mem} {V : DM} {q c p9 o : Int}  (h20 : V 10 0 1 ≤ 20) (hq : InR q) (C : Cx X S RX3 cX3_weighed 1 21) (R : CR X S (rI (wgh (V 11 0) (V 10 0 1) (V 10 0 2) q c p9 o) (mst M 2 V)) (some .int)) :
    ∀ (n9 : Nat) (w : Int), (0 ≤ w) → (w ≤ V 10 0 1) → V 10 0 1 - w < n9 → PW X S (mst M 2 V) 6 [some (rv S 2 10 0), some (iv q), some (iv c), some (iv p9), some (iv o), some (iv (sumI (fun w => V 11 0 w * (mn w q * p9 + (q - mn w q) * o)) w)), some (iv w), none] [] := by
  intro n9
  induction n9 with
  | zero => intro w w0 w1 hn9; omega
  | succ n9 ih =>
    intro w w0 w1 hn9
    refine pw_iload C dX3_weighed_6 rfl ?_
    refine pw_aload_n C dX3_weighed_8 rfl ?_
    refine gv_3_23 C dX3_weighed_9 (fun r9 => ?_)
    refine pw_icmp_ge (tgt := 54) C dX3_weighed_12 rfl (by omega) (by omega) (fun c12 => ?_) (fun c12 => ?_)
    · refine pw_iload C dX3_weighed_54 rfl ?_
      refine pw_aload_n C dX3_weighed_56 rfl ?_
      refine gv_3_27 C dX3_weighed_57 (fun r57 => ?_)
      refine pw_iload_n C dX3_weighed_60 rfl ?_
      refine pw_imul C dX3_weighed_61 ?_
      refine pw_iload_n C dX3_weighed_62 rfl ?_
      refine pw_imul C dX3_weighed_63 ?_
      refine pw_isub C dX3_weighed_64 ?_
      exact pw_ireti C R dX3_weighed_65 (by unfold wgh; rw [show V 10 0 1 = w by omega]) rfl
    · refine pw_iload C dX3_weighed_15 rfl ?_
      refine pw_iload_n C dX3_weighed_17 rfl ?_
      refine pw_min C mx_3_30 (by omega) (by omega) (by decide) (Nat.le_of_ble_eq_true rfl) dX3_weighed_18 ?_
      refine pw_istore_7 C dX3_weighed_21 (k := ?_)
      refine pw_iload C dX3_weighed_23 rfl ?_
      refine pw_aload_n C dX3_weighed_25 rfl ?_
      refine gf_3_9 C dX3_weighed_26 ?_
      refine pw_iload C dX3_weighed_29 rfl ?_
      refine pw_ialdV C aC_11 (by omega) (by omega) (by decide) dX3_weighed_31 (fun r31 => ?_)
      refine pw_iload C dX3_weighed_32 rfl ?_
      refine pw_iload_n C dX3_weighed_34 rfl ?_
      refine pw_imul C dX3_weighed_35 ?_
      refine pw_iload_n C dX3_weighed_36 rfl ?_
      refine pw_iload C dX3_weighed_37 rfl ?_
      refine pw_isub C dX3_weighed_39 ?_
      refine pw_iload C dX3_weighed_40 rfl ?_
      refine pw_imul C dX3_weighed_42 ?_
      refine pw_iadd C dX3_weighed_43 ?_
      refine pw_imul C dX3_weighed_44 ?_
      refine pw_iadd C dX3_weighed_45 ?_
      refine pw_istore_5 C dX3_weighed_46 (k := ?_)
      refine pw_iinc_6 C dX3_weighed_48 (k := ?_)
      refine pw_goto (tgt := 6) C dX3_weighed_51 rfl ?_
      have k := ih (w + 1) (by omega) (by omega) (by omega)
      rw [sumI_s _ w0] at k
      exact pw_fg 7 rfl k
set_option maxRecDepth 100000 in
set_option maxHeartbeats 400000 in
theorem c_X3_weighed {l : Launch} {S : SW} {M : Mem} {V : DM} {q c p9 o : Int}  (hq : InR q) (hc : InR c) (hp9 : InR p9) (ho : InR o) (h0 : 0 ≤ V 10 0 1) (h20 : V 10 0 1 ≤ 20) : PM l S yX3_weighed cX3_weighed 8 (some .int) 1 21 [rv S 2 10 0, iv q, iv c, iv p9, iv o] (mst M 2 V) (rI (wgh (V 11 0) (V 10 0 1) (V 10 0 2) q c p9 o) (mst M 2 V)) := by
  refine PM.of (own := RX3) (by decide) rfl [some (rv S 2 10 0), some (iv q), some (iv c), some (iv p9), some (iv o), none, none, none] rfl rfl (Nat.le_of_ble_eq_true rfl) (fun X hXl C R => ?_)
  subst hXl
  refine pw_iconst C dX3_weighed_0 ?_
  refine pw_istore_5 C dX3_weighed_1 (k := ?_)
  refine pw_iconst C dX3_weighed_3 ?_
  refine pw_istore_6 C dX3_weighed_4 (k := ?_)
  exact L_X3_weighed h20 hq C R (V 10 0 1 + 1).toNat 0 (by omega) (by omega) (by omega)
theorem amax_s {p : Int → Int} {v : Int} (h : 0 < v) : amax p v.toNat = if (amax p (v - 1).toNat).1 < p v then (p v, v) else amax p (v - 1).toNat := by
  rw [show v.toNat = (v - 1).toNat + 1 by omega]
  show (if (amax p (v - 1).toNat).1 < p (((v - 1).toNat : Int) + 1) then (p (((v - 1).toNat : Int) + 1), ((v - 1).toNat : Int) + 1) else _) = _
  rw [show ((v - 1).toNat : Int) + 1 = v by omega]
theorem amax_r {p : Int → Int} {A B : Int} (n : Nat) (h : ∀ v : Int, 0 ≤ v → v ≤ (n : Int) → A ≤ p v ∧ p v ≤ B) : (A ≤ (amax p n).1 ∧ (amax p n).1 ≤ B) ∧ (0 ≤ (amax p n).2 ∧ (amax p n).2 ≤ n) := by
  induction n with
  | zero => exact ⟨h 0 (by omega) (by omega), by show (0 : Int) ≤ 0 ∧ (0 : Int) ≤ _; omega⟩
  | succ n ih =>
    have a := ih (fun v v0 v1 => h v v0 (by omega))
    have b := h (n + 1) (by omega) (by omega)
    rw [amax]
    split
    · exact ⟨b, by show (0 : Int) ≤ n + 1 ∧ (n : Int) + 1 ≤ _; omega⟩
    · exact ⟨a.1, by omega⟩
set_option maxRecDepth 100000 in
set_option maxHeartbeats 400000 in
theorem L_X3_mostWorthwhile {X : PX} {S : SW} {M : Mem} {V : DM} {c p9 o : Int}  (c0 : 0 ≤ c) (c1 : c ≤ 99) (p0 : 0 ≤ p9) (p1 : p9 ≤ 99) (o0 : 0 ≤ o) (o1 : o ≤ 99) (hO : OdOk (V 11 0) (V 10 0 1) (V 10 0 2)) (C : Cx X S RX3 cX3_mostWorthwhile 2 48) (R : CR X S (rI (amax (fun q => wgh (V 11 0) (V 10 0 1) (V 10 0 2) q c p9 o) 20).2 (mst M 2 V)) (some .int)) :
    ∀ (n9 : Nat) (q : Int), (1 ≤ q) → (q ≤ 21) → 22 - q < n9 → PW X S (mst M 2 V) 16 [some (rv S 2 10 0), some (iv c), some (iv p9), some (iv o), some (iv ((amax (fun q => wgh (V 11 0) (V 10 0 1) (V 10 0 2) q c p9 o) (q - 1).toNat).2)), some (iv ((amax (fun q => wgh (V 11 0) (V 10 0 1) (V 10 0 2) q c p9 o) (q - 1).toNat).1)), some (iv q), none] [] := by
  have hO1 := hO.1
  intro n9
  induction n9 with
  | zero => intro q q0 q1 hn9; omega
  | succ n9 ih =>
    intro q q0 q1 hn9
    refine pw_iload C dX3_mostWorthwhile_16 rfl ?_
    refine pw_bipush C dX3_mostWorthwhile_18 (by decide) ?_
    refine pw_icmp_gt (tgt := 55) C dX3_mostWorthwhile_20 rfl (by omega) (by omega) (fun c20 => ?_) (fun c20 => ?_)
    · refine pw_iload C dX3_mostWorthwhile_55 rfl ?_
      exact pw_ireti C R dX3_mostWorthwhile_57 (by rw [show (q - 1).toNat = 20 by omega]) rfl
    · refine pw_aload_n C dX3_mostWorthwhile_23 rfl ?_
      refine pw_iload C dX3_mostWorthwhile_24 rfl ?_
      refine pw_iload_n C dX3_mostWorthwhile_26 rfl ?_
      refine pw_iload_n C dX3_mostWorthwhile_27 rfl ?_
      refine pw_iload_n C dX3_mostWorthwhile_28 rfl ?_
      have hw := wgh_r (q := q) hO (by omega) (by omega) c0 c1 p0 p1 o0 o1
      have hm := amax_r (p := fun q => wgh (V 11 0) (V 10 0 1) (V 10 0 2) q c p9 o) (A := -3920400) (B := 7840800) (q - 1).toNat (fun v a b => wgh_r hO a (by omega) c0 c1 p0 p1 o0 o1)
      refine pw_cVI C [_, _, _, _] mi_X3_weighed mv_X3_weighed ml_3_36 oC_10 rfl (c_X3_weighed (by omega) (by omega) (by omega) (by omega) (by omega) (by omega)) (by decide) rfl (Nat.le_of_ble_eq_true rfl) dX3_mostWorthwhile_29 ?_
      refine pw_istore_7 C dX3_mostWorthwhile_32 (k := ?_)
      refine pw_iload C dX3_mostWorthwhile_34 rfl ?_
      refine pw_iload C dX3_mostWorthwhile_36 rfl ?_
      refine pw_icmp_le (tgt := 49) C dX3_mostWorthwhile_38 rfl (by omega) (by omega) (fun c38 => ?_) (fun c38 => ?_)
      · refine pw_iinc_6 C dX3_mostWorthwhile_49 (k := ?_)
        refine pw_goto (tgt := 16) C dX3_mostWorthwhile_52 rfl ?_
        have hs := amax_s (p := fun q => wgh (V 11 0) (V 10 0 1) (V 10 0 2) q c p9 o) (show 0 < q by omega)
        first | rw [if_pos (by assumption)] at hs | rw [if_neg (by omega)] at hs
        have k := ih (q + 1) (by omega) (by omega) (by omega)
        rw [show (q + 1 - 1).toNat = q.toNat by omega, hs] at k
        exact pw_fg 7 rfl k
      · refine pw_iload C dX3_mostWorthwhile_41 rfl ?_
        refine pw_istore_5 C dX3_mostWorthwhile_43 (k := ?_)
        refine pw_iload C dX3_mostWorthwhile_45 rfl ?_
        refine pw_istore_4 C dX3_mostWorthwhile_47 (k := ?_)
        refine pw_iinc_6 C dX3_mostWorthwhile_49 (k := ?_)
        refine pw_goto (tgt := 16) C dX3_mostWorthwhile_52 rfl ?_
        have hs := amax_s (p := fun q => wgh (V 11 0) (V 10 0 1) (V 10 0 2) q c p9 o) (show 0 < q by omega)
        first | rw [if_pos (by assumption)] at hs | rw [if_neg (by omega)] at hs
        have k := ih (q + 1) (by omega) (by omega) (by omega)
        rw [show (q + 1 - 1).toNat = q.toNat by omega, hs] at k
        exact pw_fg 7 rfl k
set_option maxRecDepth 100000 in
set_option maxHeartbeats 400000 in
theorem c_X3_mostWorthwhile {l : Launch} {S : SW} {M : Mem} {V : DM} {c p9 o : Int}  (hc : InR c) (hp9 : InR p9) (ho : InR o) (c0 : 0 ≤ c) (c1 : c ≤ 99) (p0 : 0 ≤ p9) (p1 : p9 ≤ 99) (o0 : 0 ≤ o) (o1 : o ≤ 99) (hO : OdOk (V 11 0) (V 10 0 1) (V 10 0 2)) : PM l S yX3_mostWorthwhile cX3_mostWorthwhile 8 (some .int) 2 48 [rv S 2 10 0, iv c, iv p9, iv o] (mst M 2 V) (rI (amax (fun q => wgh (V 11 0) (V 10 0 1) (V 10 0 2) q c p9 o) 20).2 (mst M 2 V)) := by
  refine PM.of (own := RX3) (by decide) rfl [some (rv S 2 10 0), some (iv c), some (iv p9), some (iv o), none, none, none, none] rfl rfl (Nat.le_of_ble_eq_true rfl) (fun X hXl C R => ?_)
  subst hXl
  have hO1 := hO.1
  refine pw_iconst C dX3_mostWorthwhile_0 ?_
  refine pw_istore_4 C dX3_mostWorthwhile_1 (k := ?_)
  refine pw_aload_n C dX3_mostWorthwhile_3 rfl ?_
  refine pw_iconst C dX3_mostWorthwhile_4 ?_
  refine pw_iload_n C dX3_mostWorthwhile_5 rfl ?_
  refine pw_iload_n C dX3_mostWorthwhile_6 rfl ?_
  refine pw_iload_n C dX3_mostWorthwhile_7 rfl ?_
  refine pw_cVI C [_, _, _, _] mi_X3_weighed mv_X3_weighed ml_3_36 oC_10 rfl (c_X3_weighed (by omega) (by omega) (by omega) (by omega) (by omega) (by omega)) (by decide) rfl (Nat.le_of_ble_eq_true rfl) dX3_mostWorthwhile_8 ?_
  refine pw_istore_5 C dX3_mostWorthwhile_11 (k := ?_)
  refine pw_iconst C dX3_mostWorthwhile_13 ?_
  refine pw_istore_6 C dX3_mostWorthwhile_14 (k := ?_)
  exact L_X3_mostWorthwhile c0 c1 p0 p1 o0 o1 hO C R 22 1 (by omega) (by omega) (by omega)
