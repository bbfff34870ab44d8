def p2 (o : Int) : Int := if o = 0 then 1 else if o = 1 then 2 else if o = 2 then 4 else 8
def x2 (o : Int) : Int := if o < 2 then o + 2 else o - 2
def x1 (o : Int) : Int := if o = 0 then 1 else if o = 1 then 0 else if o = 2 then 3 else 2
theorem x1_r (o : Int) : 0 ≤ x1 o ∧ x1 o < 4 := by
  unfold x1
  repeat' split
  all_goals omega
theorem o4 {o : Int} (h0 : 0 ≤ o) (h1 : o < 4) : o = 0 ∨ o = 1 ∨ o = 2 ∨ o = 3 := by omega
theorem xor2 {o : Int} (h0 : 0 ≤ o) (h1 : o < 4) : Int32.ofInt o ^^^ Int32.ofInt 2 = Int32.ofInt (x2 o) := by rcases o4 h0 h1 with rfl | rfl | rfl | rfl <;> decide
theorem xor1 {o : Int} (h0 : 0 ≤ o) (h1 : o < 4) : Int32.ofInt o ^^^ Int32.ofInt 1 = Int32.ofInt (x1 o) := by rcases o4 h0 h1 with rfl | rfl | rfl | rfl <;> decide
theorem shl1 {o : Int} (h0 : 0 ≤ o) (h1 : o < 4) : Int32.ofInt 1 <<< (Int32.ofInt o &&& 31) = Int32.ofInt (p2 o) := by rcases o4 h0 h1 with rfl | rfl | rfl | rfl <;> decide
theorem orp {o b : Int} (h0 : 0 ≤ o) (h1 : o < 4) (b0 : 0 ≤ b) (b1 : b < p2 o) : Int32.ofInt b ||| Int32.ofInt (p2 o) = Int32.ofInt (b + p2 o) := by
  rcases o4 h0 h1 with rfl | rfl | rfl | rfl
  · have h : b = 0 := by unfold p2 at b1; simp at b1; omega
    subst h; decide
  · have h : b = 0 ∨ b = 1 := by unfold p2 at b1; simp at b1; omega
    rcases h with rfl | rfl <;> decide
  · have h : b = 0 ∨ b = 1 ∨ b = 2 ∨ b = 3 := by unfold p2 at b1; simp at b1; omega
    rcases h with rfl | rfl | rfl | rfl <;> decide
  · have h : b = 0 ∨ b = 1 ∨ b = 2 ∨ b = 3 ∨ b = 4 ∨ b = 5 ∨ b = 6 ∨ b = 7 := by unfold p2 at b1; simp at b1; omega
    rcases h with rfl | rfl | rfl | rfl | rfl | rfl | rfl | rfl <;> decide
def restP (A B : Int → Int) (o : Int) : Prop := A (x2 o) ≤ A o ∧ B (x1 o) ≤ B o
noncomputable def restB (A B : Int → Int) (n : Int) : Int := iterI (fun o b => b + b01 (restP A B o) * p2 o) 0 n
theorem restB_r (A B : Int → Int) {n : Int} (h0 : 0 ≤ n) (h1 : n ≤ 4) : 0 ≤ restB A B n ∧ restB A B n < (if n = 4 then 16 else p2 n) := by
  have h : n = 0 ∨ n = 1 ∨ n = 2 ∨ n = 3 ∨ n = 4 := by omega
  have e : ∀ m : Int, 0 ≤ m → restB A B (m + 1) = restB A B m + b01 (restP A B m) * p2 m := fun m hm => iterI_s _ _ hm
  have a0 : restB A B 0 = 0 := rfl
  have a1 := e 0 (by omega)
  have a2 := e 1 (by omega)
  have a3 := e 2 (by omega)
  have a4 := e 3 (by omega)
  have q0 : p2 0 = 1 := rfl
  have q1 : p2 1 = 2 := rfl
  have q2 : p2 2 = 4 := rfl
  have q3 : p2 3 = 8 := rfl
  rw [q0] at a1
  rw [q1] at a2
  rw [q2] at a3
  rw [q3] at a4
  have c0 := b01_r (restP A B 0)
  have c1 := b01_r (restP A B 1)
  have c2 := b01_r (restP A B 2)
  have c3 := b01_r (restP A B 3)
  simp only [Int.reduceAdd] at a1 a2 a3 a4
  rcases h with rfl | rfl | rfl | rfl | rfl <;> simp [p2] <;> omega
def gameP (f : Int → Int) (i : Int) : Prop := ∀ j, 0 ≤ j → j < 8 → -99 ≤ f (i + j) ∧ f (i + j) ≤ 99
set_option maxRecDepth 100000 in
set_option maxHeartbeats 400000 in
theorem c_X2_take {l : Launch} {S : SW} {M : Mem} {V : DM} {i : Int} {k : Int}  (hi : InR i) (k0 : 0 ≤ k) (k1 : k < 4) (i0 : 0 ≤ i) (i1 : i + 8 ≤ 60) : PM l S yX2_take cX2_take 4 (some .boolean) 2 47 [rv S 2 12 0, rv S 2 7 k, iv i] (mst M 2 V) (rIQ (fun x N => ∃ W, N = mst M 2 W ∧ (∀ (k2 : Nat) (r j : Int), k2 ≠ 13 → k2 ≠ 14 → W k2 r j = V k2 r j) ∧ (¬ gameP (V 7 k) i → x = 0) ∧ (gameP (V 7 k) i → x = 1 ∧ ∀ o, 0 ≤ o → o < 4 → W 13 0 o = V 7 k (i + 2 * o) ∧ W 14 0 o = V 7 k (i + 2 * o + 1)))) := by
  refine PM.of (own := RX2) (by decide) rfl [some (rv S 2 12 0), some (rv S 2 7 k), some (iv i), none] rfl rfl (Nat.le_of_ble_eq_true rfl) (fun X hXl C R => ?_)
  subst hXl
  refine pw_aload_n C dX2_take_0 rfl ?_
  refine pw_iload_n C dX2_take_1 rfl ?_
  refine pw_bipush C dX2_take_2 (by decide) ?_
  refine pw_bipush C dX2_take_4 (by decide) ?_
  refine pw_bipush C dX2_take_6 (by decide) ?_
  refine pw_cNI C [_, _, _, _, _] mi_X8_areAllWithin ms_X8_areAllWithin mn_2_16 (c_X8_areAllWithin (by omega) (by omega) (by omega) (by omega) (by omega) (by omega) (by omega) (by omega) (by omega)) (by decide) rfl (Nat.le_of_ble_eq_true rfl) dX2_take_8 ?_
  refine pw_if_ne_b (tgt := 16) C dX2_take_11 rfl (fun c11 => ?_) (fun c11 => ?_)
  · refine pw_iconst C dX2_take_16 ?_
    refine pw_istore_3 C dX2_take_17 (k := ?_)
    refine pw_iload_n C dX2_take_18 rfl ?_
    refine pw_iconst C dX2_take_19 ?_
    refine pw_icmp_ge (tgt := 57) C dX2_take_20 rfl (by omega) (by omega) (fun q9 => absurd q9 (by decide)) (fun _ => ?_)
    refine pw_aload_n C dX2_take_23 rfl ?_
    refine gf_2_9 C dX2_take_24 ?_
    refine pw_iload_n C dX2_take_27 rfl ?_
    refine pw_aload_n C dX2_take_28 rfl ?_
    refine pw_iload_n C dX2_take_29 rfl ?_
    refine pw_iconst C dX2_take_30 ?_
    refine pw_iload_n C dX2_take_31 rfl ?_
    refine pw_imul C dX2_take_32 ?_
    refine pw_iadd C dX2_take_33 ?_
    refine pw_ialdV C (aC_7 (by omega) (by omega)) (by omega) (by omega) (by decide) dX2_take_34 (fun r34 => ?_)
    refine pw_iastV C aC_13 (by omega) (by omega) (by decide) (by omega) dX2_take_35 ?_
    refine pw_aload_n C dX2_take_36 rfl ?_
    refine gf_2_13 C dX2_take_37 ?_
    refine pw_iload_n C dX2_take_40 rfl ?_
    refine pw_aload_n C dX2_take_41 rfl ?_
    refine pw_iload_n C dX2_take_42 rfl ?_
    refine pw_iconst C dX2_take_43 ?_
    refine pw_iload_n C dX2_take_44 rfl ?_
    refine pw_imul C dX2_take_45 ?_
    refine pw_iadd C dX2_take_46 ?_
    refine pw_iconst C dX2_take_47 ?_
    refine pw_iadd C dX2_take_48 ?_
    refine pw_ialdV C (aC_7 (by omega) (by omega)) (by omega) (by omega) (by decide) dX2_take_49 (fun r49 => ?_)
    refine pw_iastV C aC_14 (by omega) (by omega) (by decide) (by omega) dX2_take_50 ?_
    refine pw_iincq_3 C 1 dX2_take_51 (k := ?_)
    refine pw_goto (tgt := 18) C dX2_take_54 rfl ?_
    refine pw_iload_n C dX2_take_18 rfl ?_
    refine pw_iconst C dX2_take_19 ?_
    refine pw_icmp_ge (tgt := 57) C dX2_take_20 rfl (by omega) (by omega) (fun q9 => absurd q9 (by decide)) (fun _ => ?_)
    refine pw_aload_n C dX2_take_23 rfl ?_
    refine gf_2_9 C dX2_take_24 ?_
    refine pw_iload_n C dX2_take_27 rfl ?_
    refine pw_aload_n C dX2_take_28 rfl ?_
    refine pw_iload_n C dX2_take_29 rfl ?_
    refine pw_iconst C dX2_take_30 ?_
    refine pw_iload_n C dX2_take_31 rfl ?_
    refine pw_imul C dX2_take_32 ?_
    refine pw_iadd C dX2_take_33 ?_
    refine pw_ialdV C (aC_7 (by omega) (by omega)) (by omega) (by omega) (by decide) dX2_take_34 (fun r34 => ?_)
    refine pw_iastV C aC_13 (by omega) (by omega) (by decide) (by omega) dX2_take_35 ?_
    refine pw_aload_n C dX2_take_36 rfl ?_
    refine gf_2_13 C dX2_take_37 ?_
    refine pw_iload_n C dX2_take_40 rfl ?_
    refine pw_aload_n C dX2_take_41 rfl ?_
    refine pw_iload_n C dX2_take_42 rfl ?_
    refine pw_iconst C dX2_take_43 ?_
    refine pw_iload_n C dX2_take_44 rfl ?_
    refine pw_imul C dX2_take_45 ?_
    refine pw_iadd C dX2_take_46 ?_
    refine pw_iconst C dX2_take_47 ?_
    refine pw_iadd C dX2_take_48 ?_
    refine pw_ialdV C (aC_7 (by omega) (by omega)) (by omega) (by omega) (by decide) dX2_take_49 (fun r49 => ?_)
    refine pw_iastV C aC_14 (by omega) (by omega) (by decide) (by omega) dX2_take_50 ?_
    refine pw_iincq_3 C 2 dX2_take_51 (k := ?_)
    refine pw_goto (tgt := 18) C dX2_take_54 rfl ?_
    refine pw_iload_n C dX2_take_18 rfl ?_
    refine pw_iconst C dX2_take_19 ?_
    refine pw_icmp_ge (tgt := 57) C dX2_take_20 rfl (by omega) (by omega) (fun q9 => absurd q9 (by decide)) (fun _ => ?_)
    refine pw_aload_n C dX2_take_23 rfl ?_
    refine gf_2_9 C dX2_take_24 ?_
    refine pw_iload_n C dX2_take_27 rfl ?_
    refine pw_aload_n C dX2_take_28 rfl ?_
    refine pw_iload_n C dX2_take_29 rfl ?_
    refine pw_iconst C dX2_take_30 ?_
    refine pw_iload_n C dX2_take_31 rfl ?_
    refine pw_imul C dX2_take_32 ?_
    refine pw_iadd C dX2_take_33 ?_
    refine pw_ialdV C (aC_7 (by omega) (by omega)) (by omega) (by omega) (by decide) dX2_take_34 (fun r34 => ?_)
    refine pw_iastV C aC_13 (by omega) (by omega) (by decide) (by omega) dX2_take_35 ?_
    refine pw_aload_n C dX2_take_36 rfl ?_
    refine gf_2_13 C dX2_take_37 ?_
    refine pw_iload_n C dX2_take_40 rfl ?_
    refine pw_aload_n C dX2_take_41 rfl ?_
    refine pw_iload_n C dX2_take_42 rfl ?_
    refine pw_iconst C dX2_take_43 ?_
    refine pw_iload_n C dX2_take_44 rfl ?_
    refine pw_imul C dX2_take_45 ?_
    refine pw_iadd C dX2_take_46 ?_
    refine pw_iconst C dX2_take_47 ?_
    refine pw_iadd C dX2_take_48 ?_
    refine pw_ialdV C (aC_7 (by omega) (by omega)) (by omega) (by omega) (by decide) dX2_take_49 (fun r49 => ?_)
    refine pw_iastV C aC_14 (by omega) (by omega) (by decide) (by omega) dX2_take_50 ?_
    refine pw_iincq_3 C 3 dX2_take_51 (k := ?_)
    refine pw_goto (tgt := 18) C dX2_take_54 rfl ?_
    refine pw_iload_n C dX2_take_18 rfl ?_
    refine pw_iconst C dX2_take_19 ?_
    refine pw_icmp_ge (tgt := 57) C dX2_take_20 rfl (by omega) (by omega) (fun q9 => absurd q9 (by decide)) (fun _ => ?_)
    refine pw_aload_n C dX2_take_23 rfl ?_
    refine gf_2_9 C dX2_take_24 ?_
    refine pw_iload_n C dX2_take_27 rfl ?_
    refine pw_aload_n C dX2_take_28 rfl ?_
    refine pw_iload_n C dX2_take_29 rfl ?_
    refine pw_iconst C dX2_take_30 ?_
    refine pw_iload_n C dX2_take_31 rfl ?_
    refine pw_imul C dX2_take_32 ?_
    refine pw_iadd C dX2_take_33 ?_
    refine pw_ialdV C (aC_7 (by omega) (by omega)) (by omega) (by omega) (by decide) dX2_take_34 (fun r34 => ?_)
    refine pw_iastV C aC_13 (by omega) (by omega) (by decide) (by omega) dX2_take_35 ?_
    refine pw_aload_n C dX2_take_36 rfl ?_
    refine gf_2_13 C dX2_take_37 ?_
    refine pw_iload_n C dX2_take_40 rfl ?_
    refine pw_aload_n C dX2_take_41 rfl ?_
    refine pw_iload_n C dX2_take_42 rfl ?_
    refine pw_iconst C dX2_take_43 ?_
    refine pw_iload_n C dX2_take_44 rfl ?_
    refine pw_imul C dX2_take_45 ?_
    refine pw_iadd C dX2_take_46 ?_
    refine pw_iconst C dX2_take_47 ?_
    refine pw_iadd C dX2_take_48 ?_
    refine pw_ialdV C (aC_7 (by omega) (by omega)) (by omega) (by omega) (by decide) dX2_take_49 (fun r49 => ?_)
    refine pw_iastV C aC_14 (by omega) (by omega) (by decide) (by omega) dX2_take_50 ?_
    refine pw_iincq_3 C 4 dX2_take_51 (k := ?_)
    refine pw_goto (tgt := 18) C dX2_take_54 rfl ?_
    refine pw_iload_n C dX2_take_18 rfl ?_
    refine pw_iconst C dX2_take_19 ?_
    refine pw_icmp_ge (tgt := 57) C dX2_take_20 rfl (by omega) (by omega) (fun _ => ?_) (fun q9 => absurd q9 (by decide))
    refine pw_iconst C dX2_take_57 ?_
    refine pw_zret C R dX2_take_58 (Or.inr rfl) ⟨1, rfl, _, rfl, fun k2 r j a b => ?_, fun h => absurd c11 h, fun _ => ⟨rfl, fun o a b => ?_⟩⟩
    · simp only [vup_k _ _ _ _ a, vup_k _ _ _ _ b]
    · rcases o4 a b with rfl | rfl | rfl | rfl <;> exact ⟨rfl, rfl⟩
  · refine pw_iconst C dX2_take_14 ?_
    refine pw_zret C R dX2_take_15 (Or.inl rfl) ⟨0, rfl, V, rfl, fun _ _ _ _ _ => rfl, fun _ => rfl, fun h => absurd h c11⟩
set_option maxRecDepth 100000 in
set_option maxHeartbeats 400000 in
theorem L_X2_restingBits {X : PX} {S : SW} {M : Mem} {V : DM}   (C : Cx X S RX2 cX2_restingBits 0 0) (R : CR X S (rI (restB (V 13 0) (V 14 0) 4) (mst M 2 V)) (some .int)) :
    ∀ (n9 : Nat) (o b : Int), (0 ≤ o) → (o ≤ 4) → (b = restB (V 13 0) (V 14 0) o) → 5 - o < n9 → PW X S (mst M 2 V) 4 [some (rv S 2 12 0), some (iv b), some (iv o)] [] := by
  intro n9
  induction n9 with
  | zero => intro o b o0 o1 hb hn9; omega
  | succ n9 ih =>
    intro o b o0 o1 hb hn9
    refine pw_iload_n C dX2_restingBits_4 rfl ?_
    refine pw_iconst C dX2_restingBits_5 ?_
    refine pw_icmp_ge (tgt := 55) C dX2_restingBits_6 rfl (by omega) (by omega) (fun c6 => ?_) (fun c6 => ?_)
    · refine pw_iload_n C dX2_restingBits_55 rfl ?_
      exact pw_ireti C R dX2_restingBits_56 (by rw [hb, show o = 4 by omega]) rfl
    · have hq := restB_r (V 13 0) (V 14 0) o0 (show o ≤ 4 by omega)
      rw [if_neg (show ¬ (o = 4) by omega), ← hb] at hq
      have hx2 : 0 ≤ x2 o ∧ x2 o < 4 := by unfold x2; split <;> omega
      have hx1 := x1_r o
      refine pw_aload_n C dX2_restingBits_9 rfl ?_
      refine gf_2_9 C dX2_restingBits_10 ?_
      refine pw_iload_n C dX2_restingBits_13 rfl ?_
      refine pw_iconst C dX2_restingBits_14 ?_
      refine pw_ixor C (xor2 o0 (by omega)) dX2_restingBits_15 ?_
      refine pw_ialdV C aC_13 (by omega) (by omega) (by decide) dX2_restingBits_16 (fun r16 => ?_)
      refine pw_aload_n C dX2_restingBits_17 rfl ?_
      refine gf_2_9 C dX2_restingBits_18 ?_
      refine pw_iload_n C dX2_restingBits_21 rfl ?_
      refine pw_ialdV C aC_13 (by omega) (by omega) (by decide) dX2_restingBits_22 (fun r22 => ?_)
      refine pw_icmp_gt (tgt := 49) C dX2_restingBits_23 rfl (by omega) (by omega) (fun c23 => ?_) (fun c23 => ?_)
      · refine pw_iinc_2 C dX2_restingBits_49 (k := ?_)
        refine pw_goto (tgt := 4) C dX2_restingBits_52 rfl ?_
        have es : restB (V 13 0) (V 14 0) (o + 1) = b + b01 (restP (V 13 0) (V 14 0) o) * p2 o := by rw [hb]; exact iterI_s _ _ o0
        first
          | exact ih (o + 1) _ (by omega) (by omega) (by rw [es, b01_t (show restP (V 13 0) (V 14 0) o from ⟨by assumption, by assumption⟩)]; omega) (by omega)
          | exact ih (o + 1) _ (by omega) (by omega) (by rw [es, b01_f (fun h => by have h1 := h.1; have h2 := h.2; omega)]; omega) (by omega)
      · refine pw_aload_n C dX2_restingBits_26 rfl ?_
        refine gf_2_13 C dX2_restingBits_27 ?_
        refine pw_iload_n C dX2_restingBits_30 rfl ?_
        refine pw_iconst C dX2_restingBits_31 ?_
        refine pw_ixor C (xor1 o0 (by omega)) dX2_restingBits_32 ?_
        refine pw_ialdV C aC_14 (by omega) (by omega) (by decide) dX2_restingBits_33 (fun r33 => ?_)
        refine pw_aload_n C dX2_restingBits_34 rfl ?_
        refine gf_2_13 C dX2_restingBits_35 ?_
        refine pw_iload_n C dX2_restingBits_38 rfl ?_
        refine pw_ialdV C aC_14 (by omega) (by omega) (by decide) dX2_restingBits_39 (fun r39 => ?_)
        refine pw_icmp_gt (tgt := 49) C dX2_restingBits_40 rfl (by omega) (by omega) (fun c40 => ?_) (fun c40 => ?_)
        · refine pw_iinc_2 C dX2_restingBits_49 (k := ?_)
          refine pw_goto (tgt := 4) C dX2_restingBits_52 rfl ?_
          have es : restB (V 13 0) (V 14 0) (o + 1) = b + b01 (restP (V 13 0) (V 14 0) o) * p2 o := by rw [hb]; exact iterI_s _ _ o0
          first
            | exact ih (o + 1) _ (by omega) (by omega) (by rw [es, b01_t (show restP (V 13 0) (V 14 0) o from ⟨by assumption, by assumption⟩)]; omega) (by omega)
            | exact ih (o + 1) _ (by omega) (by omega) (by rw [es, b01_f (fun h => by have h1 := h.1; have h2 := h.2; omega)]; omega) (by omega)
        · refine pw_iload_n C dX2_restingBits_43 rfl ?_
          refine pw_iconst C dX2_restingBits_44 ?_
          refine pw_iload_n C dX2_restingBits_45 rfl ?_
          refine pw_ishl C (shl1 o0 (by omega)) dX2_restingBits_46 ?_
          refine pw_ior C (orp o0 (by omega) hq.1 hq.2) dX2_restingBits_47 ?_
          refine pw_istore_1 C dX2_restingBits_48 (k := ?_)
          refine pw_iinc_2 C dX2_restingBits_49 (k := ?_)
          refine pw_goto (tgt := 4) C dX2_restingBits_52 rfl ?_
          have es : restB (V 13 0) (V 14 0) (o + 1) = b + b01 (restP (V 13 0) (V 14 0) o) * p2 o := by rw [hb]; exact iterI_s _ _ o0
          first
            | exact ih (o + 1) _ (by omega) (by omega) (by rw [es, b01_t (show restP (V 13 0) (V 14 0) o from ⟨by assumption, by assumption⟩)]; omega) (by omega)
            | exact ih (o + 1) _ (by omega) (by omega) (by rw [es, b01_f (fun h => by have h1 := h.1; have h2 := h.2; omega)]; omega) (by omega)
set_option maxRecDepth 100000 in
set_option maxHeartbeats 400000 in
theorem c_X2_restingBits {l : Launch} {S : SW} {M : Mem} {V : DM}   : PM l S yX2_restingBits cX2_restingBits 3 (some .int) 0 0 [rv S 2 12 0] (mst M 2 V) (rI (restB (V 13 0) (V 14 0) 4) (mst M 2 V)) := by
  refine PM.of (own := RX2) (by decide) rfl [some (rv S 2 12 0), none, none] rfl rfl (Nat.le_of_ble_eq_true rfl) (fun X hXl C R => ?_)
  subst hXl
  refine pw_iconst C dX2_restingBits_0 ?_
  refine pw_istore_1 C dX2_restingBits_1 (k := ?_)
  refine pw_iconst C dX2_restingBits_2 ?_
  refine pw_istore_2 C dX2_restingBits_3 (k := ?_)
  exact L_X2_restingBits C R 6 0 0 (by omega) (by omega) rfl (by omega)
set_option maxRecDepth 100000 in
set_option maxHeartbeats 400000 in
theorem c_X2_takingOffUpper {l : Launch} {S : SW} {M : Mem} {V : DM}   : PM l S yX2_takingOffUpper cX2_takingOffUpper 1 (some .int) 0 0 [rv S 2 12 0] (mst M 2 V) (rI (V 14 0 3 - V 14 0 2) (mst M 2 V)) := by
  refine PM.of (own := RX2) (by decide) rfl [some (rv S 2 12 0)] rfl rfl (Nat.le_of_ble_eq_true rfl) (fun X hXl C R => ?_)
  subst hXl
  refine pw_aload_n C dX2_takingOffUpper_0 rfl ?_
  refine gf_2_13 C dX2_takingOffUpper_1 ?_
  refine pw_iconst C dX2_takingOffUpper_4 ?_
  refine pw_ialdV C aC_14 (by omega) (by omega) (by decide) dX2_takingOffUpper_5 (fun r5 => ?_)
  refine pw_aload_n C dX2_takingOffUpper_6 rfl ?_
  refine gf_2_13 C dX2_takingOffUpper_7 ?_
  refine pw_iconst C dX2_takingOffUpper_10 ?_
  refine pw_ialdV C aC_14 (by omega) (by omega) (by decide) dX2_takingOffUpper_11 (fun r11 => ?_)
  refine pw_isub C dX2_takingOffUpper_12 ?_
  exact pw_ireti C R dX2_takingOffUpper_13 (by first | rfl | omega) rfl
set_option maxRecDepth 100000 in
set_option maxHeartbeats 400000 in
theorem c_X2_takingOffLower {l : Launch} {S : SW} {M : Mem} {V : DM}   : PM l S yX2_takingOffLower cX2_takingOffLower 1 (some .int) 0 0 [rv S 2 12 0] (mst M 2 V) (rI (V 14 0 0 - V 14 0 1 - V 14 0 2 + V 14 0 3) (mst M 2 V)) := by
  refine PM.of (own := RX2) (by decide) rfl [some (rv S 2 12 0)] rfl rfl (Nat.le_of_ble_eq_true rfl) (fun X hXl C R => ?_)
  subst hXl
  refine pw_aload_n C dX2_takingOffLower_0 rfl ?_
  refine gf_2_13 C dX2_takingOffLower_1 ?_
  refine pw_iconst C dX2_takingOffLower_4 ?_
  refine pw_ialdV C aC_14 (by omega) (by omega) (by decide) dX2_takingOffLower_5 (fun r5 => ?_)
  refine pw_aload_n C dX2_takingOffLower_6 rfl ?_
  refine gf_2_13 C dX2_takingOffLower_7 ?_
  refine pw_iconst C dX2_takingOffLower_10 ?_
  refine pw_ialdV C aC_14 (by omega) (by omega) (by decide) dX2_takingOffLower_11 (fun r11 => ?_)
  refine pw_isub C dX2_takingOffLower_12 ?_
  refine pw_aload_n C dX2_takingOffLower_13 rfl ?_
  refine gf_2_13 C dX2_takingOffLower_14 ?_
  refine pw_iconst C dX2_takingOffLower_17 ?_
  refine pw_ialdV C aC_14 (by omega) (by omega) (by decide) dX2_takingOffLower_18 (fun r18 => ?_)
  refine pw_isub C dX2_takingOffLower_19 ?_
  refine pw_aload_n C dX2_takingOffLower_20 rfl ?_
  refine gf_2_13 C dX2_takingOffLower_21 ?_
  refine pw_iconst C dX2_takingOffLower_24 ?_
  refine pw_ialdV C aC_14 (by omega) (by omega) (by decide) dX2_takingOffLower_25 (fun r25 => ?_)
  refine pw_iadd C dX2_takingOffLower_26 ?_
  exact pw_ireti C R dX2_takingOffLower_27 (by first | rfl | omega) rfl
set_option maxRecDepth 100000 in
set_option maxHeartbeats 400000 in
theorem c_X2_buyingUpper {l : Launch} {S : SW} {M : Mem} {V : DM}   : PM l S yX2_buyingUpper cX2_buyingUpper 1 (some .int) 0 0 [rv S 2 12 0] (mst M 2 V) (rI (V 13 0 3 - V 13 0 1) (mst M 2 V)) := by
  refine PM.of (own := RX2) (by decide) rfl [some (rv S 2 12 0)] rfl rfl (Nat.le_of_ble_eq_true rfl) (fun X hXl C R => ?_)
  subst hXl
  refine pw_aload_n C dX2_buyingUpper_0 rfl ?_
  refine gf_2_9 C dX2_buyingUpper_1 ?_
  refine pw_iconst C dX2_buyingUpper_4 ?_
  refine pw_ialdV C aC_13 (by omega) (by omega) (by decide) dX2_buyingUpper_5 (fun r5 => ?_)
  refine pw_aload_n C dX2_buyingUpper_6 rfl ?_
  refine gf_2_9 C dX2_buyingUpper_7 ?_
  refine pw_iconst C dX2_buyingUpper_10 ?_
  refine pw_ialdV C aC_13 (by omega) (by omega) (by decide) dX2_buyingUpper_11 (fun r11 => ?_)
  refine pw_isub C dX2_buyingUpper_12 ?_
  exact pw_ireti C R dX2_buyingUpper_13 (by first | rfl | omega) rfl
set_option maxRecDepth 100000 in
set_option maxHeartbeats 400000 in
theorem c_X2_buyingLower {l : Launch} {S : SW} {M : Mem} {V : DM}   : PM l S yX2_buyingLower cX2_buyingLower 1 (some .int) 0 0 [rv S 2 12 0] (mst M 2 V) (rI (V 13 0 0 - V 13 0 1 - V 13 0 2 + V 13 0 3) (mst M 2 V)) := by
  refine PM.of (own := RX2) (by decide) rfl [some (rv S 2 12 0)] rfl rfl (Nat.le_of_ble_eq_true rfl) (fun X hXl C R => ?_)
  subst hXl
  refine pw_aload_n C dX2_buyingLower_0 rfl ?_
  refine gf_2_9 C dX2_buyingLower_1 ?_
  refine pw_iconst C dX2_buyingLower_4 ?_
  refine pw_ialdV C aC_13 (by omega) (by omega) (by decide) dX2_buyingLower_5 (fun r5 => ?_)
  refine pw_aload_n C dX2_buyingLower_6 rfl ?_
  refine gf_2_9 C dX2_buyingLower_7 ?_
  refine pw_iconst C dX2_buyingLower_10 ?_
  refine pw_ialdV C aC_13 (by omega) (by omega) (by decide) dX2_buyingLower_11 (fun r11 => ?_)
  refine pw_isub C dX2_buyingLower_12 ?_
  refine pw_aload_n C dX2_buyingLower_13 rfl ?_
  refine gf_2_9 C dX2_buyingLower_14 ?_
  refine pw_iconst C dX2_buyingLower_17 ?_
  refine pw_ialdV C aC_13 (by omega) (by omega) (by decide) dX2_buyingLower_18 (fun r18 => ?_)
  refine pw_isub C dX2_buyingLower_19 ?_
  refine pw_aload_n C dX2_buyingLower_20 rfl ?_
  refine gf_2_9 C dX2_buyingLower_21 ?_
  refine pw_iconst C dX2_buyingLower_24 ?_
  refine pw_ialdV C aC_13 (by omega) (by omega) (by decide) dX2_buyingLower_25 (fun r25 => ?_)
  refine pw_iadd C dX2_buyingLower_26 ?_
  exact pw_ireti C R dX2_buyingLower_27 (by first | rfl | omega) rfl
def btw (u z : Int) : Prop := (0 < z ∧ 0 < u ∧ u < z) ∨ (z ≤ 0 ∧ u < 0 ∧ z < u)
set_option maxRecDepth 100000 in
set_option maxHeartbeats 400000 in
theorem c_X2_isBetween {l : Launch} {S : SW} {M : Mem} {u z : Int}  (hu : InR u) (hz : InR z)  : PM l S yX2_isBetween cX2_isBetween 2 (some .boolean) 0 0 [iv u, iv z] (M) (rI (b01 (btw u z)) M) := by
  refine PM.of (own := RX2) (by decide) rfl [some (iv u), some (iv z)] rfl rfl (Nat.le_of_ble_eq_true rfl) (fun X hXl C R => ?_)
  subst hXl
  refine pw_iload_n C dX2_isBetween_0 rfl ?_
  refine pw_if_le (tgt := 21) C dX2_isBetween_1 rfl (by omega) (fun c1 => ?_) (fun c1 => ?_)
  · refine pw_iload_n C dX2_isBetween_21 rfl ?_
    refine pw_if_ge (tgt := 34) C dX2_isBetween_22 rfl (by omega) (fun c22 => ?_) (fun c22 => ?_)
    · refine pw_iconst C dX2_isBetween_34 ?_
      exact pw_zret0 C R dX2_isBetween_35 (by unfold btw; omega) rfl
    · refine pw_iload_n C dX2_isBetween_25 rfl ?_
      refine pw_iload_n C dX2_isBetween_26 rfl ?_
      refine pw_icmp_le (tgt := 34) C dX2_isBetween_27 rfl (by omega) (by omega) (fun c27 => ?_) (fun c27 => ?_)
      · refine pw_iconst C dX2_isBetween_34 ?_
        exact pw_zret0 C R dX2_isBetween_35 (by unfold btw; omega) rfl
      · refine pw_iconst C dX2_isBetween_30 ?_
        refine pw_goto (tgt := 35) C dX2_isBetween_31 rfl ?_
        exact pw_zret1 C R dX2_isBetween_35 (by unfold btw; omega) rfl
  · refine pw_iload_n C dX2_isBetween_4 rfl ?_
    refine pw_if_le (tgt := 17) C dX2_isBetween_5 rfl (by omega) (fun c5 => ?_) (fun c5 => ?_)
    · refine pw_iconst C dX2_isBetween_17 ?_
      refine pw_goto (tgt := 35) C dX2_isBetween_18 rfl ?_
      exact pw_zret0 C R dX2_isBetween_35 (by unfold btw; omega) rfl
    · refine pw_iload_n C dX2_isBetween_8 rfl ?_
      refine pw_iload_n C dX2_isBetween_9 rfl ?_
      refine pw_icmp_ge (tgt := 17) C dX2_isBetween_10 rfl (by omega) (by omega) (fun c10 => ?_) (fun c10 => ?_)
      · refine pw_iconst C dX2_isBetween_17 ?_
        refine pw_goto (tgt := 35) C dX2_isBetween_18 rfl ?_
        exact pw_zret0 C R dX2_isBetween_35 (by unfold btw; omega) rfl
      · refine pw_iconst C dX2_isBetween_13 ?_
        refine pw_goto (tgt := 35) C dX2_isBetween_14 rfl ?_
        exact pw_zret1 C R dX2_isBetween_35 (by unfold btw; omega) rfl
set_option maxRecDepth 100000 in
set_option maxHeartbeats 400000 in
theorem c_X2_hasMixed {l : Launch} {S : SW} {M : Mem} {V : DM}  (hg : ∀ o, 0 ≤ o → o < 4 → (-99 ≤ V 13 0 o ∧ V 13 0 o ≤ 99) ∧ (-99 ≤ V 14 0 o ∧ V 14 0 o ≤ 99)) : PM l S yX2_hasMixed cX2_hasMixed 1 (some .boolean) 1 21 [rv S 2 12 0] (mst M 2 V) (rI (b01 (btw (V 14 0 3 - V 14 0 2) (V 14 0 0 - V 14 0 1 - V 14 0 2 + V 14 0 3) ∧ btw (V 13 0 3 - V 13 0 1) (V 13 0 0 - V 13 0 1 - V 13 0 2 + V 13 0 3))) (mst M 2 V)) := by
  refine PM.of (own := RX2) (by decide) rfl [some (rv S 2 12 0)] rfl rfl (Nat.le_of_ble_eq_true rfl) (fun X hXl C R => ?_)
  subst hXl
  have g0 := hg 0 (by omega) (by omega)
  have g1 := hg 1 (by omega) (by omega)
  have g2 := hg 2 (by omega) (by omega)
  have g3 := hg 3 (by omega) (by omega)
  refine pw_aload_n C dX2_hasMixed_0 rfl ?_
  refine pw_cVI C [] mi_X2_takingOffUpper mv_X2_takingOffUpper ml_2_22 oC_12 rfl (c_X2_takingOffUpper) (by decide) rfl (Nat.le_of_ble_eq_true rfl) dX2_hasMixed_1 ?_
  refine pw_aload_n C dX2_hasMixed_4 rfl ?_
  refine pw_cVI C [] mi_X2_takingOffLower mv_X2_takingOffLower ml_2_26 oC_12 rfl (c_X2_takingOffLower) (by decide) rfl (Nat.le_of_ble_eq_true rfl) dX2_hasMixed_5 ?_
  refine pw_cSI C [_, _] mi_X2_isBetween ms_X2_isBetween ml_2_29 (c_X2_isBetween (by omega) (by omega)) (by decide) rfl (Nat.le_of_ble_eq_true rfl) dX2_hasMixed_8 ?_
  refine pw_if_eq_b (tgt := 32) C dX2_hasMixed_11 rfl (fun c11 => ?_) (fun c11 => ?_)
  · refine pw_iconst C dX2_hasMixed_32 ?_
    exact pw_zret0 C R dX2_hasMixed_33 (by first | exact ⟨by assumption, by assumption⟩ | exact fun h => absurd h.1 (by assumption) | exact fun h => absurd h.2 (by assumption)) rfl
  · refine pw_aload_n C dX2_hasMixed_14 rfl ?_
    refine pw_cVI C [] mi_X2_buyingUpper mv_X2_buyingUpper ml_2_33 oC_12 rfl (c_X2_buyingUpper) (by decide) rfl (Nat.le_of_ble_eq_true rfl) dX2_hasMixed_15 ?_
    refine pw_aload_n C dX2_hasMixed_18 rfl ?_
    refine pw_cVI C [] mi_X2_buyingLower mv_X2_buyingLower ml_2_36 oC_12 rfl (c_X2_buyingLower) (by decide) rfl (Nat.le_of_ble_eq_true rfl) dX2_hasMixed_19 ?_
    refine pw_cSI C [_, _] mi_X2_isBetween ms_X2_isBetween ml_2_29 (c_X2_isBetween (by omega) (by omega)) (by decide) rfl (Nat.le_of_ble_eq_true rfl) dX2_hasMixed_22 ?_
    refine pw_if_eq_b (tgt := 32) C dX2_hasMixed_25 rfl (fun c25 => ?_) (fun c25 => ?_)
    · refine pw_iconst C dX2_hasMixed_32 ?_
      exact pw_zret0 C R dX2_hasMixed_33 (by first | exact ⟨by assumption, by assumption⟩ | exact fun h => absurd h.1 (by assumption) | exact fun h => absurd h.2 (by assumption)) rfl
    · refine pw_iconst C dX2_hasMixed_28 ?_
      refine pw_goto (tgt := 33) C dX2_hasMixed_29 rfl ?_
      exact pw_zret1 C R dX2_hasMixed_33 (by first | exact ⟨by assumption, by assumption⟩ | exact fun h => absurd h.1 (by assumption) | exact fun h => absurd h.2 (by assumption)) rfl
set_option maxRecDepth 100000 in
set_option maxHeartbeats 400000 in
theorem c_X0_add {l : Launch} {S : SW} {M : Mem} {V : DM} {d : Nat} {kd s q t : Int} (hd : d < 2) (hkd : InR kd) (hs : InR s) (hq : InR q) (ht : InR t) (c0 : 0 ≤ V 8 0 4) (c1 : V 8 0 4 < 10) : PM l S yX0_add cX0_add 6 (some .int) 0 0 [rv S d 8 0, iv kd, iv s, iv q, iv t] (mst M d V) (rI (V 8 0 4) (mst M d (vup (vup (vup (vup (vup V 9 0 (V 8 0 4) kd) 10 0 (V 8 0 4) s) 11 0 (V 8 0 4) q) 12 0 (V 8 0 4) t) 8 0 4 (V 8 0 4 + 1)))) := by
  refine PM.of (own := RX0) (by decide) rfl [some (rv S d 8 0), some (iv kd), some (iv s), some (iv q), some (iv t), none] rfl rfl (Nat.le_of_ble_eq_true rfl) (fun X hXl C R => ?_)
  subst hXl
  refine pw_aload_n C dX0_add_0 rfl ?_
  refine gv_0_24 d hd C dX0_add_1 (fun r1 => ?_)
  refine pw_istore_5 C dX0_add_4 (k := ?_)
  refine pw_aload_n C dX0_add_6 rfl ?_
  refine gf_0_9 d hd C dX0_add_7 ?_
  refine pw_iload C dX0_add_10 rfl ?_
  refine pw_iload_n C dX0_add_12 rfl ?_
  refine pw_iastV C (aD_9 hd) (by omega) (by omega) (by decide) (by omega) dX0_add_13 ?_
  refine pw_aload_n C dX0_add_14 rfl ?_
  refine gf_0_15 d hd C dX0_add_15 ?_
  refine pw_iload C dX0_add_18 rfl ?_
  refine pw_iload_n C dX0_add_20 rfl ?_
  refine pw_iastV C (aD_10 hd) (by omega) (by omega) (by decide) (by omega) dX0_add_21 ?_
  refine pw_aload_n C dX0_add_22 rfl ?_
  refine gf_0_18 d hd C dX0_add_23 ?_
  refine pw_iload C dX0_add_26 rfl ?_
  refine pw_iload_n C dX0_add_28 rfl ?_
  refine pw_iastV C (aD_11 hd) (by omega) (by omega) (by decide) (by omega) dX0_add_29 ?_
  refine pw_aload_n C dX0_add_30 rfl ?_
  refine gf_0_21 d hd C dX0_add_31 ?_
  refine pw_iload C dX0_add_34 rfl ?_
  refine pw_iload C dX0_add_36 rfl ?_
  refine pw_iastV C (aD_12 hd) (by omega) (by omega) (by decide) (by omega) dX0_add_38 ?_
  refine pw_aload_n C dX0_add_39 rfl ?_
  refine pw_iload C dX0_add_40 rfl ?_
  refine pw_iconst C dX0_add_42 ?_
  refine pw_iadd C dX0_add_43 ?_
  refine pv_0_24 d hd C (by omega) dX0_add_44 ?_
  refine pw_iload C dX0_add_47 rfl ?_
  exact pw_ireti C R dX0_add_49 (by first | rfl | omega) rfl
def GiveI (V : DM) (k ln n m : Int) (W : DM) : Prop := W 8 0 k = ln ∧ W 9 0 k = n ∧ (∀ j, W 7 k j = if 0 ≤ j ∧ j < m then 0 else V 7 k j) ∧ (∀ r j, r ≠ k → W 7 r j = V 7 r j ∧ W 8 0 r = V 8 0 r ∧ W 9 0 r = V 9 0 r) ∧ (∀ r i, r ≠ 0 → W 8 r i = V 8 r i ∧ W 9 r i = V 9 r i) ∧ ∀ (k2 : Nat) (r j : Int), k2 ≠ 7 → k2 ≠ 8 → k2 ≠ 9 → W k2 r j = V k2 r j
set_option maxRecDepth 100000 in
set_option maxHeartbeats 400000 in
theorem L_X5_give {X : PX} {S : SW} {M : Mem} {V : DM} {k ln n : Int}  (k0 : 0 ≤ k) (k1 : k < 4) (n1 : n ≤ 60) (C : Cx X S RX5 cX5_give 0 0) (R : CR X S (rVQ (fun N => ∃ W, N = mst M 2 W ∧ GiveI V k ln n n W)) none) :
    ∀ (n9 : Nat) (j : Int) (W : DM), (0 ≤ j) → (j ≤ n) → (GiveI V k ln n j W) → n - j < n9 → PW X S (mst M 2 W) 17 [some (rv S 2 5 0), some (iv k), some (iv ln), some (iv n), some (iv j)] [] := by
  intro n9
  induction n9 with
  | zero => intro j W j0 j1 hW hn9; omega
  | succ n9 ih =>
    intro j W j0 j1 hW hn9
    refine pw_iload C dX5_give_17 rfl ?_
    refine pw_iload_n C dX5_give_19 rfl ?_
    refine pw_icmp_ge (tgt := 39) C dX5_give_20 rfl (by omega) (by omega) (fun c20 => ?_) (fun c20 => ?_)
    · refine pw_vret C R dX5_give_39 ⟨rfl, W, rfl, ?_⟩
      rw [show j = n by omega] at hW
      exact hW
    · refine pw_aload_n C dX5_give_23 rfl ?_
      refine gf_5_11 C dX5_give_24 ?_
      refine pw_iload_n C dX5_give_27 rfl ?_
      refine pw_aald C qC_6 (by omega) (by omega) (by decide) dX5_give_28 ?_
      refine pw_iload C dX5_give_29 rfl ?_
      refine pw_iconst C dX5_give_31 ?_
      refine pw_iastV C (aC_7 (by omega) (by omega)) (by omega) (by omega) (by decide) (by omega) dX5_give_32 ?_
      refine pw_iinc_4 C dX5_give_33 (k := ?_)
      refine pw_goto (tgt := 17) C dX5_give_36 rfl ?_
      refine ih (j + 1) _ (by omega) (by omega) ⟨?_, ?_, fun q => ?_, fun r q hr => ?_, fun r q hr => ?_, fun k2 r q a b c => ?_⟩ (by omega)
      · rw [vup_k _ _ _ _ (by omega)]; exact hW.1
      · rw [vup_k _ _ _ _ (by omega)]; exact hW.2.1
      · by_cases e : q = j
        · rw [e, vup_v, if_pos (by omega)]
        · rw [vup_j _ _ _ _ e, hW.2.2.1 q]
          by_cases h : 0 ≤ q ∧ q < j
          · rw [if_pos h, if_pos (by omega)]
          · rw [if_neg h, if_neg (by omega)]
      · rw [vup_n _ (by omega), vup_k _ _ _ _ (by omega), vup_k _ _ _ _ (by omega)]; exact hW.2.2.2.1 r q hr
      · rw [vup_k _ _ _ _ (by omega), vup_k _ _ _ _ (by omega)]; exact hW.2.2.2.2.1 r q hr
      · rw [vup_k _ _ _ _ a]; exact hW.2.2.2.2.2 k2 r q a b c
set_option maxRecDepth 100000 in
set_option maxHeartbeats 400000 in
theorem c_X5_give {l : Launch} {S : SW} {M : Mem} {V : DM} {k ln n : Int}  (hk : InR k) (hln : InR ln) (hn : InR n) (k0 : 0 ≤ k) (k1 : k < 4) (n0 : 0 ≤ n) (n1 : n ≤ 60) : PM l S yX5_give cX5_give 5 none 0 0 [rv S 2 5 0, iv k, iv ln, iv n] (mst M 2 V) (rVQ (fun N => ∃ W, N = mst M 2 W ∧ GiveI V k ln n n W)) := by
  refine PM.of (own := RX5) (by decide) rfl [some (rv S 2 5 0), some (iv k), some (iv ln), some (iv n), none] rfl rfl (Nat.le_of_ble_eq_true rfl) (fun X hXl C R => ?_)
  subst hXl
  refine pw_aload_n C dX5_give_0 rfl ?_
  refine gf_5_14 C dX5_give_1 ?_
  refine pw_iload_n C dX5_give_4 rfl ?_
  refine pw_iload_n C dX5_give_5 rfl ?_
  refine pw_iastV C aC_8 (by omega) (by omega) (by decide) (by omega) dX5_give_6 ?_
  refine pw_aload_n C dX5_give_7 rfl ?_
  refine gf_5_18 C dX5_give_8 ?_
  refine pw_iload_n C dX5_give_11 rfl ?_
  refine pw_iload_n C dX5_give_12 rfl ?_
  refine pw_iastV C aC_9 (by omega) (by omega) (by decide) (by omega) dX5_give_13 ?_
  refine pw_iconst C dX5_give_14 ?_
  refine pw_istore_4 C dX5_give_15 (k := ?_)
  refine L_X5_give k0 k1 n1 C R (n + 1).toNat 0 _ (by omega) (by omega) ⟨?_, ?_, fun q => ?_, fun r q hr => ⟨?_, ?_, ?_⟩, fun r q hr => ⟨?_, ?_⟩, fun k2 r q a b c => ?_⟩ (by omega)
  · rw [vup_k _ _ _ _ (by omega), vup_v]
  · rw [vup_v]
  · rw [vup_k _ _ _ _ (by omega), vup_k _ _ _ _ (by omega), if_neg (by omega)]
  · rw [vup_k _ _ _ _ (by omega), vup_k _ _ _ _ (by omega)]
  · rw [vup_n _ (by omega), vup_n _ (by omega)]
  · rw [vup_n _ (by omega), vup_n _ (by omega)]
  · rw [vup_n _ (by omega), vup_n _ (by omega)]
  · rw [vup_n _ (by omega), vup_n _ (by omega)]
  · rw [vup_k _ _ _ _ c, vup_k _ _ _ _ b]
