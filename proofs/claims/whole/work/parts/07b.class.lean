def G (a b : Int) : Int := (Nat.gcd a.toNat b.toNat : Int)
theorem G_0 {a : Int} (h : 0 ≤ a) : G a 0 = a := by unfold G; rw [show (0 : Int).toNat = 0 from rfl, Nat.gcd_zero_right]; omega
theorem G_s {a b : Int} (ha : 0 ≤ a) (hb : 0 < b) : G b (a % b) = G a b := by
  unfold G
  rw [Nat.gcd_comm a.toNat b.toNat, Nat.gcd_rec b.toNat a.toNat, Nat.gcd_comm (a.toNat % b.toNat) b.toNat]
  congr 2
  have h1 : 0 ≤ a % b := Int.emod_nonneg _ (by omega)
  have h2 : ((a % b).toNat : Int) = ((a.toNat % b.toNat : Nat) : Int) := by
    rw [Int.natCast_emod, show (a.toNat : Int) = a by omega, show (b.toNat : Int) = b by omega]
    omega
  omega
theorem G_nn (a b : Int) : 0 ≤ G a b := by unfold G; omega
theorem G_pos {a b : Int} (h : 0 < b) : 0 < G a b := by
  unfold G
  have := Nat.gcd_pos_of_pos_right a.toNat (show 0 < b.toNat by omega)
  omega
theorem G_le {a b : Int} (h : 0 < b) : G a b ≤ b := by
  unfold G
  have := Nat.gcd_le_right a.toNat (show 0 < b.toNat by omega)
  omega
/-- how far Euclid's steps may go on -/
def eu (b : Int) (s : Int) : Prop := b = 0 ∨ b < 2 ^ ((99 - s).toNat / 2)
theorem p2_le {m n : Nat} (h : m ≤ n) : (2 : Int) ^ m ≤ 2 ^ n := by
  have := Nat.pow_le_pow_right (show 0 < 2 by omega) h
  exact_mod_cast this
/-- two of Euclid's steps halve the lower number -/
theorem eu_2 {a b : Int} (h1 : 0 < b) (h2 : 0 < a % b) : b % (a % b) < a % b ∧ 2 * (b % (a % b)) < b := by
  have h3 : a % b < b := Int.emod_lt_of_pos _ h1
  have h4 : b % (a % b) < a % b := Int.emod_lt_of_pos _ h2
  refine ⟨h4, ?_⟩
  have h5 := Int.emod_add_mul_ediv b (a % b)
  have h6 : 1 ≤ b / (a % b) := Int.le_ediv_of_mul_le h2 (by omega)
  have h7 : (a % b) * 1 ≤ (a % b) * (b / (a % b)) := Int.mul_le_mul_of_nonneg_left h6 (by omega)
  omega
/-- n steps of Euclid are enough -/
def en : Nat → Int → Int → Prop
  | 0, _, b => b = 0
  | n + 1, a, b => b = 0 ∨ en n b (a % b)
theorem en_0 : ∀ (n : Nat) (a : Int), en n a 0
  | 0, _ => rfl
  | _ + 1, _ => Or.inl rfl
theorem en_p : ∀ (n : Nat) (a b : Int), 0 ≤ b → b < 2 ^ n → en (2 * n) a b
  | 0, a, b, h0, h1 => by show b = 0; simp at h1; omega
  | n + 1, a, b, h0, h1 => by
    show b = 0 ∨ (a % b = 0 ∨ en (2 * n) (a % b) (b % (a % b)))
    by_cases hb : b = 0
    · exact Or.inl hb
    · right
      by_cases hr : a % b = 0
      · exact Or.inl hr
      · right
        have hp : 0 < a % b := by have := Int.emod_nonneg a hb; omega
        have h := eu_2 (show 0 < b by omega) hp
        refine en_p n _ _ (Int.emod_nonneg _ hr) ?_
        rw [Int.pow_succ] at h1
        omega
theorem en_w : ∀ (n : Nat) (a b : Int), en n a b → en (n + 1) a b
  | 0, a, b, h => Or.inl h
  | n + 1, a, b, h => by
    rcases h with h | h
    · exact Or.inl h
    · exact Or.inr (en_w n _ _ h)
theorem en_k {n : Nat} {a b : Int} (h : en n a b) : ∀ k : Nat, en (n + k) a b
  | 0 => h
  | k + 1 => en_w _ _ _ (en_k h k)
set_option maxRecDepth 100000 in
set_option maxHeartbeats 400000 in
theorem L_X8_commonDivisor {X : PX} {S : SW} {M : Mem} {g : Int}   (C : Cx X S RX8 cX8_commonDivisor 0 0) (R : CR X S (rJ g M) (some .long)) :
    ∀ (n9 : Nat) (s a b : Int), (0 ≤ s) → (s ≤ 100) → (0 ≤ a) → (0 ≤ b) → (a < 9223372036854775808) → (b < 9223372036854775808) → (G a b = g) → (en (100 - s).toNat a b) → 101 - s < n9 → PW X S (M) 3 [some (jv a), none, some (jv b), none, some (iv s), none, none] [] := by
  intro n9
  induction n9 with
  | zero => intro s a b s0 s1 a0 b0 a1 b1 hg hf hn9; omega
  | succ n9 ih =>
    intro s a b s0 s1 a0 b0 a1 b1 hg hf hn9
    refine pw_iload C dX8_commonDivisor_3 rfl ?_
    refine pw_bipush C dX8_commonDivisor_5 (by decide) ?_
    refine pw_icmp_ge (tgt := 32) C dX8_commonDivisor_7 rfl (by omega) (by omega) (fun c7 => ?_) (fun c7 => ?_)
    · refine pw_lload_n C dX8_commonDivisor_32 rfl ?_
      first
        | (have hb : b = 0 := by assumption
           rw [hb, G_0 a0] at hg
           exact pw_lreti C R dX8_commonDivisor_33 hg rfl)
        | (rw [show (100 - s).toNat = 0 by omega] at hf
           have hb : b = 0 := hf
           rw [hb, G_0 a0] at hg
           exact pw_lreti C R dX8_commonDivisor_33 hg rfl)
    · refine pw_lload_n C dX8_commonDivisor_10 rfl ?_
      refine pw_lconst0 C dX8_commonDivisor_11 ?_
      refine pw_lcmp C (by omega) (by omega) dX8_commonDivisor_12 ?_
      refine pw_lif_eq (tgt := 32) C dX8_commonDivisor_13 rfl (fun c13 => ?_) (fun c13 => ?_)
      · refine pw_lload_n C dX8_commonDivisor_32 rfl ?_
        first
          | (have hb : b = 0 := by assumption
             rw [hb, G_0 a0] at hg
             exact pw_lreti C R dX8_commonDivisor_33 hg rfl)
          | (rw [show (100 - s).toNat = 0 by omega] at hf
             have hb : b = 0 := hf
             rw [hb, G_0 a0] at hg
             exact pw_lreti C R dX8_commonDivisor_33 hg rfl)
      · refine pw_lload_n C dX8_commonDivisor_16 rfl ?_
        refine pw_lload_n C dX8_commonDivisor_17 rfl ?_
        refine pw_lrem C (by omega) (by omega) (by omega) (by omega) dX8_commonDivisor_18 ?_
        refine pw_lstore_5 C dX8_commonDivisor_19 (k := ?_)
        refine pw_lload_n C dX8_commonDivisor_21 rfl ?_
        refine pw_lstore_0 C dX8_commonDivisor_22 (k := ?_)
        refine pw_lload C dX8_commonDivisor_23 rfl ?_
        refine pw_lstore_2 C dX8_commonDivisor_25 (k := ?_)
        refine pw_iinc_4 C dX8_commonDivisor_26 (k := ?_)
        refine pw_goto (tgt := 3) C dX8_commonDivisor_29 rfl ?_
        refine pw_fg 5 rfl ?_
        have h3 : 0 ≤ a % b := Int.emod_nonneg _ c13
        have h4 : a % b < b := Int.emod_lt_of_pos _ (by omega)
        refine ih (s + 1) b (a % b) (by omega) (by omega) (by omega) h3 (by omega) (by omega) (by rw [G_s a0 (by omega)]; exact hg) ?_ (by omega)
        rw [show (100 - s).toNat = (100 - (s + 1)).toNat + 1 by omega] at hf
        rcases hf with h | h
        · exact absurd h c13
        · exact h
set_option maxRecDepth 100000 in
set_option maxHeartbeats 400000 in
theorem c_X8_commonDivisor {l : Launch} {S : SW} {M : Mem} {a b : Int}  (ha : InL a) (hb : InL b) (a0 : 0 ≤ a) (b0 : 0 ≤ b) (b1 : b < 1125899906842624) : PM l S yX8_commonDivisor cX8_commonDivisor 7 (some .long) 0 0 [jv a, jv b] (M) (rJ (G a b) M) := by
  refine PM.of (own := RX8) (by decide) rfl [some (jv a), none, some (jv b), none, none, none, none] rfl rfl (Nat.le_of_ble_eq_true rfl) (fun X hXl C R => ?_)
  subst hXl
  refine pw_iconst C dX8_commonDivisor_0 ?_
  refine pw_istore_4 C dX8_commonDivisor_1 (k := ?_)
  exact L_X8_commonDivisor C R 102 0 a b (by omega) (by omega) (by omega) (by omega) (by omega) (by omega) rfl (en_p 50 a b b0 b1) (by omega)
def ab (x : Int) : Int := if 0 < x then x else -x
def LOSTv : Int := -9223372036854775808
/-- a part of a share in least terms -/
def pos (u l w : Int) : Int := if G (ab u) (ab l) = 0 then LOSTv else if l < 0 then -((if w = 0 then u else l).tdiv (G (ab u) (ab l))) else (if w = 0 then u else l).tdiv (G (ab u) (ab l))
set_option maxRecDepth 100000 in
set_option maxHeartbeats 1000000 in
theorem c_X8_partOfShare {l : Launch} {S : SW} {M : Mem} {u z w : Int}  (hw : InR w) (u0 : -1000000000000 < u) (u1 : u < 1000000000000) (z0 : -1000000000000 < z) (z1 : z < 1000000000000) (w0 : w = 0 ∨ w = 1) : PM l S yX8_partOfShare cX8_partOfShare 9 (some .long) 1 26 [jv u, jv z, iv w] (M) (rJ (pos u z w) M) := by
  refine PM.of (own := RX8) (by decide) rfl [some (jv u), none, some (jv z), none, some (iv w), none, none, none, none] rfl rfl (Nat.le_of_ble_eq_true rfl) (fun X hXl C R => ?_)
  subst hXl
  have hg0 := G_nn (ab u) (ab z)
  have hab : ∀ x : Int, ab x = if 0 < x then x else -x := fun _ => rfl
  have au : 0 ≤ ab u ∧ ab u < 1000000000000 := by rw [hab]; split <;> omega
  have al : 0 ≤ ab z ∧ ab z < 1000000000000 := by rw [hab]; split <;> omega
  have hg1 : G (ab u) (ab z) < 9223372036854775808 := by
    by_cases h : 0 < ab z
    · have := G_le (a := ab u) h; omega
    · rw [show ab z = 0 by omega, G_0 au.1]; omega
  refine pw_lload_n C dX8_partOfShare_0 rfl ?_
  refine pw_labs C mx_8_321 (by omega) (by decide) (Nat.le_of_ble_eq_true rfl) dX8_partOfShare_1 ?_
  refine pw_lload_n C dX8_partOfShare_4 rfl ?_
  refine pw_labs C mx_8_321 (by omega) (by decide) (Nat.le_of_ble_eq_true rfl) dX8_partOfShare_5 ?_
  refine pw_cSJ C [_, _] mi_X8_commonDivisor ms_X8_commonDivisor ml_8_327 (c_X8_commonDivisor (a := ab u) (b := ab z) (by omega) (by omega) (by omega) (by omega) (by omega)) (by decide) rfl (Nat.le_of_ble_eq_true rfl) dX8_partOfShare_8 ?_
  refine pw_lstore_5 C dX8_partOfShare_11 (k := ?_)
  refine pw_lload C dX8_partOfShare_13 rfl ?_
  refine pw_lconst0 C dX8_partOfShare_15 ?_
  refine pw_lcmp C (by omega) (by omega) dX8_partOfShare_16 ?_
  refine pw_lif_ne (tgt := 24) C dX8_partOfShare_17 rfl (fun c17 => ?_) (fun c17 => ?_)
  · refine pw_iload C dX8_partOfShare_24 rfl ?_
    refine pw_if_ne (tgt := 33) C dX8_partOfShare_26 rfl (by omega) (fun c26 => ?_) (fun c26 => ?_)
    · refine pw_lload_n C dX8_partOfShare_33 rfl ?_
      refine pw_lload C dX8_partOfShare_34 rfl ?_
      refine pw_ldiv C (by omega) (by omega) (by omega) dX8_partOfShare_36 ?_
      refine pw_lstore_7 C dX8_partOfShare_37 (k := ?_)
      refine pw_lload_n C dX8_partOfShare_39 rfl ?_
      refine pw_lconst0 C dX8_partOfShare_40 ?_
      refine pw_lcmp C (by omega) (by omega) dX8_partOfShare_41 ?_
      refine pw_lif_ge (tgt := 51) C dX8_partOfShare_42 rfl (fun c42 => ?_) (fun c42 => ?_)
      · refine pw_lload C dX8_partOfShare_51 rfl ?_
        exact pw_lreti C R dX8_partOfShare_53 (by unfold pos; rw [if_neg (by assumption)]; first | (rw [if_pos (show z < 0 by omega)]; first | rw [if_pos (show w = 0 by omega)] | rw [if_neg (show ¬ (w = 0) by omega)]) | (rw [if_neg (show ¬ (z < 0) by omega)]; first | rw [if_pos (show w = 0 by omega)] | rw [if_neg (show ¬ (w = 0) by omega)])) rfl
      · refine pw_lload C dX8_partOfShare_45 rfl ?_
        refine pw_lneg C dX8_partOfShare_47 ?_
        refine pw_goto (tgt := 53) C dX8_partOfShare_48 rfl ?_
        exact pw_lreti C R dX8_partOfShare_53 (by unfold pos; rw [if_neg (by assumption)]; first | (rw [if_pos (show z < 0 by omega)]; first | rw [if_pos (show w = 0 by omega)] | rw [if_neg (show ¬ (w = 0) by omega)]) | (rw [if_neg (show ¬ (z < 0) by omega)]; first | rw [if_pos (show w = 0 by omega)] | rw [if_neg (show ¬ (w = 0) by omega)])) rfl
    · refine pw_lload_n C dX8_partOfShare_29 rfl ?_
      refine pw_goto (tgt := 34) C dX8_partOfShare_30 rfl ?_
      refine pw_lload C dX8_partOfShare_34 rfl ?_
      refine pw_ldiv C (by omega) (by omega) (by omega) dX8_partOfShare_36 ?_
      refine pw_lstore_7 C dX8_partOfShare_37 (k := ?_)
      refine pw_lload_n C dX8_partOfShare_39 rfl ?_
      refine pw_lconst0 C dX8_partOfShare_40 ?_
      refine pw_lcmp C (by omega) (by omega) dX8_partOfShare_41 ?_
      refine pw_lif_ge (tgt := 51) C dX8_partOfShare_42 rfl (fun c42 => ?_) (fun c42 => ?_)
      · refine pw_lload C dX8_partOfShare_51 rfl ?_
        exact pw_lreti C R dX8_partOfShare_53 (by unfold pos; rw [if_neg (by assumption)]; first | (rw [if_pos (show z < 0 by omega)]; first | rw [if_pos (show w = 0 by omega)] | rw [if_neg (show ¬ (w = 0) by omega)]) | (rw [if_neg (show ¬ (z < 0) by omega)]; first | rw [if_pos (show w = 0 by omega)] | rw [if_neg (show ¬ (w = 0) by omega)])) rfl
      · refine pw_lload C dX8_partOfShare_45 rfl ?_
        refine pw_lneg C dX8_partOfShare_47 ?_
        refine pw_goto (tgt := 53) C dX8_partOfShare_48 rfl ?_
        exact pw_lreti C R dX8_partOfShare_53 (by unfold pos; rw [if_neg (by assumption)]; first | (rw [if_pos (show z < 0 by omega)]; first | rw [if_pos (show w = 0 by omega)] | rw [if_neg (show ¬ (w = 0) by omega)]) | (rw [if_neg (show ¬ (z < 0) by omega)]; first | rw [if_pos (show w = 0 by omega)] | rw [if_neg (show ¬ (w = 0) by omega)])) rfl
  · refine pw_ldc2 C (n := -9223372036854775808) (inT3 75 rfl rfl) (by decide) dX8_partOfShare_20 ?_
    exact pw_lreti C R dX8_partOfShare_23 (by unfold pos; rw [if_pos (by assumption)]; rfl) rfl
