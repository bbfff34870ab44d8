theorem ab_p {u : Int} (h : 0 ≤ u) : ab u = u := by unfold ab; split <;> omega
theorem ab_n {u : Int} (h : u < 0) : ab u = -u := by unfold ab; split <;> omega
set_option maxRecDepth 100000 in
set_option maxHeartbeats 400000 in
theorem L_X9_told {X : PX} {S : SW} {M : Mem} {u z w : Int}  (z0 : 0 < z) (z1 : z < 1000000000000) (u0 : -1000000000000 < u) (u1 : u < 1000000000000) (hw : w = 0 ∨ w = 1) (C : Cx X S RX9 cX9_told 0 0) (R : CR X S (rJ (pos u z w) M) (some .long)) :
    ∀ (n9 : Nat) (a b : Int), (0 ≤ a) → (0 ≤ b) → (a < 9223372036854775808) → (b < 9223372036854775808) → (G a b = G (ab u) (ab z)) → b < n9 → PW X S (M) 17 [some (jv u), none, some (jv z), none, some (iv w), some (jv a), none, some (jv b), none, none, none] [] := by
  have hG := G_pos (a := ab u) (show 0 < ab z by rw [ab_p (by omega)]; omega)
  have hG2 := G_le (a := ab u) (show 0 < ab z by rw [ab_p (by omega)]; omega)
  rw [ab_p (show 0 ≤ z by omega)] at hG2
  intro n9
  induction n9 with
  | zero => intro a b a0 b0 a1 b1 hg hn9; omega
  | succ n9 ih =>
    intro a b a0 b0 a1 b1 hg hn9
    refine pw_lload C dX9_told_17 rfl ?_
    refine pw_lconst0 C dX9_told_19 ?_
    refine pw_lcmp C (by omega) (by omega) dX9_told_20 ?_
    refine pw_lif_eq (tgt := 42) C dX9_told_21 rfl (fun c21 => ?_) (fun c21 => ?_)
    · rw [show b = 0 by omega, G_0 a0] at hg
      refine pw_iload C dX9_told_42 rfl ?_
      refine pw_if_ne (tgt := 51) C dX9_told_44 rfl (by omega) (fun c44 => ?_) (fun c44 => ?_)
      · refine pw_lload_n C dX9_told_51 rfl ?_
        refine pw_lload C dX9_told_52 rfl ?_
        refine pw_ldiv C (by omega) (by omega) (by omega) dX9_told_54 ?_
        exact pw_lreti C R dX9_told_55 (by unfold pos; rw [if_neg (show ¬ (G (ab u) (ab z) = 0) by omega), if_neg (show ¬ (z < 0) by omega), hg]; first | (rw [if_pos (show w = 0 by omega)]; done) | (rw [if_neg (show ¬ (w = 0) by omega)]; done)) rfl
      · refine pw_lload_n C dX9_told_47 rfl ?_
        refine pw_goto (tgt := 52) C dX9_told_48 rfl ?_
        refine pw_lload C dX9_told_52 rfl ?_
        refine pw_ldiv C (by omega) (by omega) (by omega) dX9_told_54 ?_
        exact pw_lreti C R dX9_told_55 (by unfold pos; rw [if_neg (show ¬ (G (ab u) (ab z) = 0) by omega), if_neg (show ¬ (z < 0) by omega), hg]; first | (rw [if_pos (show w = 0 by omega)]; done) | (rw [if_neg (show ¬ (w = 0) by omega)]; done)) rfl
    · refine pw_lload C dX9_told_24 rfl ?_
      refine pw_lload C dX9_told_26 rfl ?_
      refine pw_lrem C (by omega) (by omega) (by omega) (by omega) dX9_told_28 ?_
      refine pw_lstore_9 C dX9_told_29 (k := ?_)
      refine pw_lload C dX9_told_31 rfl ?_
      refine pw_lstore_5 C dX9_told_33 (k := ?_)
      refine pw_lload C dX9_told_35 rfl ?_
      refine pw_lstore_7 C dX9_told_37 (k := ?_)
      refine pw_goto (tgt := 17) C dX9_told_39 rfl ?_
      refine pw_fg 9 rfl ?_
      have h3 : 0 ≤ a % b := Int.emod_nonneg _ (by omega)
      have h4 : a % b < b := Int.emod_lt_of_pos _ (by omega)
      exact ih b (a % b) b0 h3 b1 (by omega) (by rw [G_s a0 (by omega)]; exact hg) (by omega)
set_option maxRecDepth 100000 in
set_option maxHeartbeats 400000 in
theorem c_X9_told {l : Launch} {S : SW} {M : Mem} {u z w : Int}  (hw : InR w) (z0 : 0 < z) (z1 : z < 1000000000000) (u0 : -1000000000000 < u) (u1 : u < 1000000000000) (hw9 : w = 0 ∨ w = 1) : PM l S yX9_told cX9_told 11 (some .long) 0 0 [jv u, jv z, iv w] (M) (rJ (pos u z w) M) := by
  refine PM.of (own := RX9) (by decide) rfl [some (jv u), none, some (jv z), none, some (iv w), none, none, none, none, none, none] rfl rfl (Nat.le_of_ble_eq_true rfl) (fun X hXl C R => ?_)
  subst hXl
  refine pw_lload_n C dX9_told_0 rfl ?_
  refine pw_lconst0 C dX9_told_1 ?_
  refine pw_lcmp C (by omega) (by omega) dX9_told_2 ?_
  refine pw_lif_ge (tgt := 11) C dX9_told_3 rfl (fun c3 => ?_) (fun c3 => ?_)
  · refine pw_lload_n C dX9_told_11 rfl ?_
    refine pw_lstore_5 C dX9_told_12 (k := ?_)
    refine pw_lload_n C dX9_told_14 rfl ?_
    refine pw_lstore_7 C dX9_told_15 (k := ?_)
    first
      | exact L_X9_told z0 z1 u0 u1 hw9 C R (z + 1).toNat _ z (by omega) (by omega) (by omega) (by omega) (by rw [ab_n (show u < 0 by omega), ab_p (show 0 ≤ z by omega)]) (by omega)
      | exact L_X9_told z0 z1 u0 u1 hw9 C R (z + 1).toNat _ z (by omega) (by omega) (by omega) (by omega) (by rw [ab_p (show 0 ≤ u by omega), ab_p (show 0 ≤ z by omega)]) (by omega)
  · refine pw_lload_n C dX9_told_6 rfl ?_
    refine pw_lneg C dX9_told_7 ?_
    refine pw_goto (tgt := 12) C dX9_told_8 rfl ?_
    refine pw_lstore_5 C dX9_told_12 (k := ?_)
    refine pw_lload_n C dX9_told_14 rfl ?_
    refine pw_lstore_7 C dX9_told_15 (k := ?_)
    first
      | exact L_X9_told z0 z1 u0 u1 hw9 C R (z + 1).toNat _ z (by omega) (by omega) (by omega) (by omega) (by rw [ab_n (show u < 0 by omega), ab_p (show 0 ≤ z by omega)]) (by omega)
      | exact L_X9_told z0 z1 u0 u1 hw9 C R (z + 1).toNat _ z (by omega) (by omega) (by omega) (by omega) (by rw [ab_p (show 0 ≤ u by omega), ab_p (show 0 ≤ z by omega)]) (by omega)
def winP (Z : DM) (k i n : Int) : Prop := ∀ j, 0 ≤ j → j < n → 0 ≤ Z 7 k (i + j) ∧ Z 7 k (i + j) ≤ 99
noncomputable def wsm (Z : DM) (k i n : Int) : Int := pif (winP Z k i n) (S9 Z k i n) 0
theorem wsm_r {Z : DM} {k i n : Int} (n0 : 0 ≤ n) (n1 : n ≤ 60) : 0 ≤ wsm Z k i n ∧ wsm Z k i n ≤ 5940 := by
  unfold wsm
  by_cases h : winP Z k i n
  · rw [pif_t h]
    have a := sumI_r (f := fun j => Z 7 k (i + j)) (B := 99) n0 h
    unfold S9
    omega
  · rw [pif_f h]; omega
theorem sheet_at (V : DM) (k : Int) {i j : Int} (h0 : 0 ≤ i + j) (h1 : i + j < 60) : V 37 0 (60 * k + i + j) = ms V 7 k (i + j) := by
  rw [ms_7 V k h0 h1]
  congr 1
  omega
set_option maxRecDepth 100000 in
set_option maxHeartbeats 400000 in
theorem L_X9_weightsOf {X : PX} {S : SW} {M : Mem} {V : DM} {k i n fr : Int}  (k0 : 0 ≤ k) (k1 : k < 4) (i0 : 0 ≤ i) (n1 : i + n ≤ 60) (hfr : fr = 60 * k + i) (C : Cx X S RX9 cX9_weightsOf 1 25) (R : CR X S (rI (wsm (ms V) k i n) (mst M 3 V)) (some .int)) :
    ∀ (n9 : Nat) (j : Int), (0 ≤ j) → (j ≤ n) → (∀ q, 0 ≤ q → q < j → 0 ≤ ms V 7 k (i + q) ∧ ms V 7 k (i + q) ≤ 99) → n - j < n9 → PW X S (mst M 3 V) 5 [some (rv S 3 0 0), some (iv fr), some (iv n), some (iv (sumI (fun q => ms V 7 k (i + q)) j)), some (iv j)] [] := by
  intro n9
  induction n9 with
  | zero => intro j j0 j1 hj hn9; omega
  | succ n9 ih =>
    intro j j0 j1 hj hn9
    refine pw_iload C dX9_weightsOf_5 rfl ?_
    refine pw_iload_n C dX9_weightsOf_7 rfl ?_
    refine pw_icmp_ge (tgt := 51) C dX9_weightsOf_8 rfl (by omega) (by omega) (fun c8 => ?_) (fun c8 => ?_)
    · refine pw_iload_n C dX9_weightsOf_51 rfl ?_
      exact pw_ireti C R dX9_weightsOf_52 (by unfold wsm S9; rw [pif_t (show winP (ms V) k i n from fun q a b => hj q a (by omega)), show n = j by omega]) rfl
    · have e9 : V 37 0 (fr + j) = ms V 7 k (i + j) := by rw [hfr]; exact sheet_at V k (by omega) (by omega)
      refine pw_aload_n C dX9_weightsOf_11 rfl ?_
      refine gf_9_79 C dX9_weightsOf_12 ?_
      refine pw_iload_n C dX9_weightsOf_15 rfl ?_
      refine pw_iload C dX9_weightsOf_16 rfl ?_
      refine pw_iadd C dX9_weightsOf_18 ?_
      refine pw_ialdV C aM_37 (by omega) (by omega) (by decide) dX9_weightsOf_19 (fun r19 => ?_)
      refine pw_i2l C (by omega) dX9_weightsOf_20 ?_
      refine pw_lconst0 C dX9_weightsOf_21 ?_
      refine pw_ldc2 C (n := 99) (inT5 81 rfl rfl) (by decide) dX9_weightsOf_22 ?_
      refine pw_cSI C [_, _, _] mi_X9_in ms_X9_in ml_9_87 (c_X9_in (by omega) (by omega) (by omega)) (by decide) rfl (Nat.le_of_ble_eq_true rfl) dX9_weightsOf_25 ?_
      refine pw_if_ne_b (tgt := 33) C dX9_weightsOf_28 rfl (fun c28 => ?_) (fun c28 => ?_)
      · refine pw_iload_n C dX9_weightsOf_33 rfl ?_
        refine pw_aload_n C dX9_weightsOf_34 rfl ?_
        refine gf_9_79 C dX9_weightsOf_35 ?_
        refine pw_iload_n C dX9_weightsOf_38 rfl ?_
        refine pw_iload C dX9_weightsOf_39 rfl ?_
        refine pw_iadd C dX9_weightsOf_41 ?_
        refine pw_ialdV C aM_37 (by omega) (by omega) (by decide) dX9_weightsOf_42 (fun r42 => ?_)
        refine pw_iadd C dX9_weightsOf_43 ?_
        refine pw_istore_3 C dX9_weightsOf_44 (k := ?_)
        refine pw_iinc_4 C dX9_weightsOf_45 (k := ?_)
        refine pw_goto (tgt := 5) C dX9_weightsOf_48 rfl ?_
        rw [e9]
        have kk := ih (j + 1) (by omega) (by omega) (fun q a b => by rcases Int.lt_or_le q j with h | h; exact hj q a h; (have e : q = j := (by omega)); subst e; omega) (by omega)
        rw [sumI_s _ j0] at kk
        exact kk
      · refine pw_iconst C dX9_weightsOf_31 ?_
        exact pw_ireti C R dX9_weightsOf_32 (by unfold wsm; rw [pif_f (fun h => by have := h j j0 (by omega); omega)]) rfl
set_option maxRecDepth 100000 in
set_option maxHeartbeats 400000 in
theorem c_X9_weightsOf {l : Launch} {S : SW} {M : Mem} {V : DM} {fr n : Int} {k i : Int}  (hfr : InR fr) (hn : InR n) (k0 : 0 ≤ k) (k1 : k < 4) (i0 : 0 ≤ i) (n1 : i + n ≤ 60) (hfr : fr = 60 * k + i) (n0 : 0 ≤ n) : PM l S yX9_weightsOf cX9_weightsOf 5 (some .int) 1 25 [rv S 3 0 0, iv fr, iv n] (mst M 3 V) (rI (wsm (ms V) k i n) (mst M 3 V)) := by
  refine PM.of (own := RX9) (by decide) rfl [some (rv S 3 0 0), some (iv fr), some (iv n), none, none] rfl rfl (Nat.le_of_ble_eq_true rfl) (fun X hXl C R => ?_)
  subst hXl
  refine pw_iconst C dX9_weightsOf_0 ?_
  refine pw_istore_3 C dX9_weightsOf_1 (k := ?_)
  refine pw_iconst C dX9_weightsOf_2 ?_
  refine pw_istore_4 C dX9_weightsOf_3 (k := ?_)
  exact L_X9_weightsOf k0 k1 i0 n1 hfr C R (n + 1).toNat 0 (by omega) (by omega) (fun q a b => by omega) (by omega)
theorem wgh_h (f : Int → Int) (q c p o : Int) {n : Int} (n0 : 0 ≤ n) : sumI (fun w => f w * (mn w q * p + (q - mn w q) * o - q * c)) n = wgh f n (sumI f n) q c p o := by
  have key : ∀ m : Nat, sumN (fun w => f w * (mn w q * p + (q - mn w q) * o - q * c)) m = sumN (fun w => f w * (mn w q * p + (q - mn w q) * o)) m - sumN f m * q * c := by
    intro m
    induction m with
    | zero => simp [sumN]
    | succ m ih =>
      rw [sumN, sumN, sumN, ih, Int.mul_sub, Int.add_mul, Int.add_mul, Int.mul_assoc (f m) q c]
      omega
  exact key n.toNat
set_option maxRecDepth 100000 in
set_option maxHeartbeats 400000 in
theorem L_X9_hadBy {X : PX} {S : SW} {M : Mem} {V : DM} {k i n fr q c p9 o : Int}  (k0 : 0 ≤ k) (k1 : k < 4) (i0 : 0 ≤ i) (n1 : i + n ≤ 60) (hfr : fr = 60 * k + i) (hn : InR n) (hW : winP (ms V) k i n) (q0 : 0 ≤ q ∧ q ≤ 20) (hm : (0 ≤ c ∧ c ≤ 99) ∧ (0 ≤ p9 ∧ p9 ≤ 99) ∧ 0 ≤ o ∧ o ≤ 99) (C : Cx X S RX9 cX9_hadBy 0 0) (R : CR X S (rJ (wgh (fun j => ms V 7 k (i + j)) n (S9 (ms V) k i n) q c p9 o) (mst M 3 V)) (some .long)) :
    ∀ (n9 : Nat) (w : Int), (0 ≤ w) → (w ≤ n) → n - w < n9 → PW X S (mst M 3 V) 6 [some (rv S 3 0 0), some (iv fr), some (iv n), some (iv q), some (iv c), some (iv p9), some (iv o), some (jv (sumI (fun w => ms V 7 k (i + w) * (mn w q * p9 + (q - mn w q) * o - q * c)) w)), none, some (iv w), none] [] := by
  intro n9
  induction n9 with
  | zero => intro w w0 w1 hn9; omega
  | succ n9 ih =>
    intro w w0 w1 hn9
    refine pw_iload C dX9_hadBy_6 rfl ?_
    refine pw_iload_n C dX9_hadBy_8 rfl ?_
    refine pw_icmp_ge (tgt := 66) C dX9_hadBy_9 rfl (by omega) (by omega) (fun c9 => ?_) (fun c9 => ?_)
    · refine pw_lload C dX9_hadBy_66 rfl ?_
      exact pw_lreti C R dX9_hadBy_68 (by have h9 := wgh_h (fun j => ms V 7 k (i + j)) q c p9 o w0; rw [h9]; unfold S9; rw [show n = w by omega]) rfl
    · have e9 : V 37 0 (fr + w) = ms V 7 k (i + w) := by rw [hfr]; exact sheet_at V k (by omega) (by omega)
      have hv := hW w w0 (by omega)
      have hmn : 0 ≤ mn w q ∧ mn w q ≤ q := by unfold mn; split <;> omega
      have m1 := mul_r hmn.1 (show mn w q ≤ 20 by omega) hm.2.1.1 hm.2.1.2
      have m2 := mul_r (show 0 ≤ q - mn w q by omega) (show q - mn w q ≤ 20 by omega) hm.2.2.1 hm.2.2.2
      have m3 := mul_r q0.1 q0.2 hm.1.1 hm.1.2
      have m4 : -(99 * 1980) ≤ ms V 7 k (i + w) * (mn w q * p9 + (q - mn w q) * o - q * c) ∧ ms V 7 k (i + w) * (mn w q * p9 + (q - mn w q) * o - q * c) ≤ 99 * 3960 := by
        have b1 : -1980 ≤ mn w q * p9 + (q - mn w q) * o - q * c ∧ mn w q * p9 + (q - mn w q) * o - q * c ≤ 3960 := by omega
        generalize mn w q * p9 + (q - mn w q) * o - q * c = B9 at *
        generalize ms V 7 k (i + w) = A9 at *
        have a1 := Int.mul_le_mul_of_nonneg_left b1.2 hv.1
        have a2 := Int.mul_le_mul_of_nonneg_left b1.1 hv.1
        omega
      refine pw_iload C dX9_hadBy_12 rfl ?_
      refine pw_iload_n C dX9_hadBy_14 rfl ?_
      refine pw_icmp_ge (tgt := 23) C dX9_hadBy_15 rfl (by omega) (by omega) (fun c15 => ?_) (fun c15 => ?_)
      · refine pw_iload_n C dX9_hadBy_23 rfl ?_
        refine pw_istore_10 C dX9_hadBy_24 (k := ?_)
        skip
        refine pw_lload C dX9_hadBy_26 rfl ?_
        refine pw_aload_n C dX9_hadBy_28 rfl ?_
        refine gf_9_79 C dX9_hadBy_29 ?_
        refine pw_iload_n C dX9_hadBy_32 rfl ?_
        refine pw_iload C dX9_hadBy_33 rfl ?_
        refine pw_iadd C dX9_hadBy_35 ?_
        refine pw_ialdV C aM_37 (by omega) (by omega) (by decide) dX9_hadBy_36 (fun r36 => ?_)
        refine pw_iload C dX9_hadBy_37 rfl ?_
        refine pw_iload C dX9_hadBy_39 rfl ?_
        refine pw_imul C dX9_hadBy_41 ?_
        refine pw_iload_n C dX9_hadBy_42 rfl ?_
        refine pw_iload C dX9_hadBy_43 rfl ?_
        refine pw_isub C dX9_hadBy_45 ?_
        refine pw_iload C dX9_hadBy_46 rfl ?_
        refine pw_imul C dX9_hadBy_48 ?_
        refine pw_iadd C dX9_hadBy_49 ?_
        refine pw_iload_n C dX9_hadBy_50 rfl ?_
        refine pw_iload C dX9_hadBy_51 rfl ?_
        refine pw_imul C dX9_hadBy_53 ?_
        refine pw_isub C dX9_hadBy_54 ?_
        refine pw_imul C dX9_hadBy_55 ?_
        rw [e9]
        have es : ∀ y, y = mn w q → ms V 7 k (i + w) * (y * p9 + (q - y) * o - q * c) = ms V 7 k (i + w) * (mn w q * p9 + (q - mn w q) * o - q * c) := fun y h => by rw [h]
        rw [es _ (by unfold mn; split <;> omega)]
        refine pw_i2l C (by omega) dX9_hadBy_56 ?_
        refine pw_ladd C dX9_hadBy_57 ?_
        refine pw_lstore_7 C dX9_hadBy_58 (k := ?_)
        refine pw_iinc_9 C dX9_hadBy_60 (k := ?_)
        refine pw_goto (tgt := 6) C dX9_hadBy_63 rfl ?_
        have kk := ih (w + 1) (by omega) (by omega) (by omega)
        rw [sumI_s _ w0] at kk
        exact pw_fg 10 rfl kk
      · refine pw_iload C dX9_hadBy_18 rfl ?_
        refine pw_goto (tgt := 24) C dX9_hadBy_20 rfl ?_
        refine pw_istore_10 C dX9_hadBy_24 (k := ?_)
        skip
        refine pw_lload C dX9_hadBy_26 rfl ?_
        refine pw_aload_n C dX9_hadBy_28 rfl ?_
        refine gf_9_79 C dX9_hadBy_29 ?_
        refine pw_iload_n C dX9_hadBy_32 rfl ?_
        refine pw_iload C dX9_hadBy_33 rfl ?_
        refine pw_iadd C dX9_hadBy_35 ?_
        refine pw_ialdV C aM_37 (by omega) (by omega) (by decide) dX9_hadBy_36 (fun r36 => ?_)
        refine pw_iload C dX9_hadBy_37 rfl ?_
        refine pw_iload C dX9_hadBy_39 rfl ?_
        refine pw_imul C dX9_hadBy_41 ?_
        refine pw_iload_n C dX9_hadBy_42 rfl ?_
        refine pw_iload C dX9_hadBy_43 rfl ?_
        refine pw_isub C dX9_hadBy_45 ?_
        refine pw_iload C dX9_hadBy_46 rfl ?_
        refine pw_imul C dX9_hadBy_48 ?_
        refine pw_iadd C dX9_hadBy_49 ?_
        refine pw_iload_n C dX9_hadBy_50 rfl ?_
        refine pw_iload C dX9_hadBy_51 rfl ?_
        refine pw_imul C dX9_hadBy_53 ?_
        refine pw_isub C dX9_hadBy_54 ?_
        refine pw_imul C dX9_hadBy_55 ?_
        rw [e9]
        have es : ∀ y, y = mn w q → ms V 7 k (i + w) * (y * p9 + (q - y) * o - q * c) = ms V 7 k (i + w) * (mn w q * p9 + (q - mn w q) * o - q * c) := fun y h => by rw [h]
        rw [es _ (by unfold mn; split <;> omega)]
        refine pw_i2l C (by omega) dX9_hadBy_56 ?_
        refine pw_ladd C dX9_hadBy_57 ?_
        refine pw_lstore_7 C dX9_hadBy_58 (k := ?_)
        refine pw_iinc_9 C dX9_hadBy_60 (k := ?_)
        refine pw_goto (tgt := 6) C dX9_hadBy_63 rfl ?_
        have kk := ih (w + 1) (by omega) (by omega) (by omega)
        rw [sumI_s _ w0] at kk
        exact pw_fg 10 rfl kk
set_option maxRecDepth 100000 in
set_option maxHeartbeats 400000 in
theorem c_X9_hadBy {l : Launch} {S : SW} {M : Mem} {V : DM} {fr n q c p9 o : Int} {k i : Int}  (hfr : InR fr) (hn : InR n) (hq : InR q) (hc : InR c) (hp9 : InR p9) (ho : InR o) (k0 : 0 ≤ k) (k1 : k < 4) (i0 : 0 ≤ i) (n1 : i + n ≤ 60) (hfr : fr = 60 * k + i) (n0 : 0 ≤ n) (hW : winP (ms V) k i n) (q0 : 0 ≤ q ∧ q ≤ 20) (hm : (0 ≤ c ∧ c ≤ 99) ∧ (0 ≤ p9 ∧ p9 ≤ 99) ∧ 0 ≤ o ∧ o ≤ 99) : PM l S yX9_hadBy cX9_hadBy 11 (some .long) 0 0 [rv S 3 0 0, iv fr, iv n, iv q, iv c, iv p9, iv o] (mst M 3 V) (rJ (wgh (fun j => ms V 7 k (i + j)) n (S9 (ms V) k i n) q c p9 o) (mst M 3 V)) := by
  refine PM.of (own := RX9) (by decide) rfl [some (rv S 3 0 0), some (iv fr), some (iv n), some (iv q), some (iv c), some (iv p9), some (iv o), none, none, none, none] rfl rfl (Nat.le_of_ble_eq_true rfl) (fun X hXl C R => ?_)
  subst hXl
  refine pw_lconst0 C dX9_hadBy_0 ?_
  refine pw_lstore_7 C dX9_hadBy_1 (k := ?_)
  refine pw_iconst C dX9_hadBy_3 ?_
  refine pw_istore_9 C dX9_hadBy_4 (k := ?_)
  exact L_X9_hadBy k0 k1 i0 n1 hfr hn hW q0 hm C R (n + 1).toNat 0 (by omega) (by omega) (by omega)
