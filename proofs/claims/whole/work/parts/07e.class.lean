/-- the code c goes on a text at place p -/
def gon (c p : Int) : Prop := if p = 0 then c = 104 else if p = 1 then 49 ≤ c ∧ c ≤ 56 else if 26 ≤ p then False else if (p - 2) % 6 = 0 then c = 59 else if (p - 2) % 6 = 1 then c = 102 else if (p - 2) % 6 = 5 then 48 ≤ c ∧ c ≤ 51 else 48 ≤ c ∧ c ≤ 57
/-- the first fault of n codes; -9: none -/
def FF (f : Int → Int) (i n x : Int) : Prop := (∃ j, 0 ≤ j ∧ j < n ∧ ¬ gon (f (i + j)) j ∧ (∀ q, 0 ≤ q → q < j → gon (f (i + q)) q) ∧ x = j) ∨ ((∀ q, 0 ≤ q → q < n → gon (f (i + q)) q) ∧ ((2 < n ∧ (n - 2) % 6 = 0 ∧ x = -9) ∨ (¬ (2 < n ∧ (n - 2) % 6 = 0) ∧ x = n)))
set_option maxRecDepth 100000 in
set_option maxHeartbeats 400000 in
theorem c_X7_goesOn {l : Launch} {S : SW} {M : Mem} {c q : Int}  (hc : InR c) (hq : InR q) (q0 : 0 ≤ q) : PM l S yX7_goesOn cX7_goesOn 2 (some .boolean) 1 22 [iv c, iv q] (M) (rI (b01 (gon c q)) M) := by
  refine PM.of (own := RX7) (by decide) rfl [some (iv c), some (iv q)] rfl rfl (Nat.le_of_ble_eq_true rfl) (fun X hXl C R => ?_)
  subst hXl
  refine pw_iload_n C dX7_goesOn_0 rfl ?_
  refine pw_if_ne (tgt := 16) C dX7_goesOn_1 rfl (by omega) (fun c1 => ?_) (fun c1 => ?_)
  · refine pw_iload_n C dX7_goesOn_16 rfl ?_
    refine pw_iconst C dX7_goesOn_17 ?_
    refine pw_icmp_ne (tgt := 30) C dX7_goesOn_18 rfl (by omega) (by omega) (fun c18 => ?_) (fun c18 => ?_)
    · refine pw_iload_n C dX7_goesOn_30 rfl ?_
      refine pw_bipush C dX7_goesOn_31 (by decide) ?_
      refine pw_icmp_lt (tgt := 38) C dX7_goesOn_33 rfl (by omega) (by omega) (fun c33 => ?_) (fun c33 => ?_)
      · refine pw_iload_n C dX7_goesOn_38 rfl ?_
        refine pw_iconst C dX7_goesOn_39 ?_
        refine pw_isub C dX7_goesOn_40 ?_
        refine pw_bipush C dX7_goesOn_41 (by decide) ?_
        refine pw_irem C (by omega) (by omega) (by omega) (by omega) dX7_goesOn_43 ?_
        refine pw_lsw3 C 80 92 104 113 (by omega) dX7_goesOn_44 (by decide) rfl rfl rfl rfl (fun c44 => ?_) (fun c44 => ?_) (fun c44 => ?_) (fun c44 => ?_)
        · refine pw_iload_n C dX7_goesOn_80 rfl ?_
          refine pw_bipush C dX7_goesOn_81 (by decide) ?_
          refine pw_icmp_ne (tgt := 90) C dX7_goesOn_83 rfl (by omega) (by omega) (fun c83 => ?_) (fun c83 => ?_)
          · refine pw_iconst C dX7_goesOn_90 ?_
            exact pw_zret0 C R dX7_goesOn_91 (by unfold gon; (repeat' split) <;> omega) rfl
          · refine pw_iconst C dX7_goesOn_86 ?_
            refine pw_goto (tgt := 91) C dX7_goesOn_87 rfl ?_
            exact pw_zret1 C R dX7_goesOn_91 (by unfold gon; (repeat' split) <;> omega) rfl
        · refine pw_iload_n C dX7_goesOn_92 rfl ?_
          refine pw_bipush C dX7_goesOn_93 (by decide) ?_
          refine pw_icmp_ne (tgt := 102) C dX7_goesOn_95 rfl (by omega) (by omega) (fun c95 => ?_) (fun c95 => ?_)
          · refine pw_iconst C dX7_goesOn_102 ?_
            exact pw_zret0 C R dX7_goesOn_103 (by unfold gon; (repeat' split) <;> omega) rfl
          · refine pw_iconst C dX7_goesOn_98 ?_
            refine pw_goto (tgt := 103) C dX7_goesOn_99 rfl ?_
            exact pw_zret1 C R dX7_goesOn_103 (by unfold gon; (repeat' split) <;> omega) rfl
        · refine pw_iload_n C dX7_goesOn_104 rfl ?_
          refine pw_bipush C dX7_goesOn_105 (by decide) ?_
          refine pw_bipush C dX7_goesOn_107 (by decide) ?_
          refine pw_cNI C [_, _, _] mi_X8_isWithin ms_X8_isWithin mn_7_15 (c_X8_isWithin (by omega) (by omega) (by omega)) (by decide) rfl (Nat.le_of_ble_eq_true rfl) dX7_goesOn_109 ?_
          exact pw_zretb C R dX7_goesOn_112 (by unfold gon; (repeat' split) <;> omega) rfl
        · refine pw_iload_n C dX7_goesOn_113 rfl ?_
          refine pw_bipush C dX7_goesOn_114 (by decide) ?_
          refine pw_bipush C dX7_goesOn_116 (by decide) ?_
          refine pw_cNI C [_, _, _] mi_X8_isWithin ms_X8_isWithin mn_7_15 (c_X8_isWithin (by omega) (by omega) (by omega)) (by decide) rfl (Nat.le_of_ble_eq_true rfl) dX7_goesOn_118 ?_
          exact pw_zretb C R dX7_goesOn_121 (by unfold gon; (repeat' split) <;> omega) rfl
      · refine pw_iconst C dX7_goesOn_36 ?_
        exact pw_zret0 C R dX7_goesOn_37 (by unfold gon; rw [if_neg (by omega), if_neg (by omega), if_pos (by omega)]; exact id) rfl
    · refine pw_iload_n C dX7_goesOn_21 rfl ?_
      refine pw_bipush C dX7_goesOn_22 (by decide) ?_
      refine pw_bipush C dX7_goesOn_24 (by decide) ?_
      refine pw_cNI C [_, _, _] mi_X8_isWithin ms_X8_isWithin mn_7_15 (c_X8_isWithin (by omega) (by omega) (by omega)) (by decide) rfl (Nat.le_of_ble_eq_true rfl) dX7_goesOn_26 ?_
      exact pw_zretb C R dX7_goesOn_29 (by unfold gon; (repeat' split) <;> omega) rfl
  · refine pw_iload_n C dX7_goesOn_4 rfl ?_
    refine pw_bipush C dX7_goesOn_5 (by decide) ?_
    refine pw_icmp_ne (tgt := 14) C dX7_goesOn_7 rfl (by omega) (by omega) (fun c7 => ?_) (fun c7 => ?_)
    · refine pw_iconst C dX7_goesOn_14 ?_
      exact pw_zret0 C R dX7_goesOn_15 (by unfold gon; (repeat' split) <;> omega) rfl
    · refine pw_iconst C dX7_goesOn_10 ?_
      refine pw_goto (tgt := 15) C dX7_goesOn_11 rfl ?_
      exact pw_zret1 C R dX7_goesOn_15 (by unfold gon; (repeat' split) <;> omega) rfl
set_option maxRecDepth 100000 in
set_option maxHeartbeats 400000 in
theorem L_X7_firstFault {X : PX} {S : SW} {M : Mem} {V : DM} {k i n : Int}  (k0 : 0 ≤ k) (k1 : k < 4) (i0 : 0 ≤ i) (i1 : i + n ≤ 60) (C : Cx X S RX7 cX7_firstFault 2 43) (R : CR X S (rIQ (fun x N => N = mst M 2 V ∧ FF (V 7 k) i n x)) (some .int)) :
    ∀ (n9 : Nat) (j : Int), (0 ≤ j) → (j ≤ n) → (∀ q, 0 ≤ q → q < j → gon (V 7 k (i + q)) q) → n - j < n9 → PW X S (mst M 2 V) 2 [some (rv S 2 7 k), some (iv i), some (iv n), some (iv j)] [] := by
  intro n9
  induction n9 with
  | zero => intro j j0 j1 hj hn9; omega
  | succ n9 ih =>
    intro j j0 j1 hj hn9
    refine pw_iload_n C dX7_firstFault_2 rfl ?_
    refine pw_iload_n C dX7_firstFault_3 rfl ?_
    refine pw_icmp_ge (tgt := 27) C dX7_firstFault_4 rfl (by omega) (by omega) (fun c4 => ?_) (fun c4 => ?_)
    · refine pw_iload_n C dX7_firstFault_27 rfl ?_
      refine pw_iconst C dX7_firstFault_28 ?_
      refine pw_icmp_le (tgt := 45) C dX7_firstFault_29 rfl (by omega) (by omega) (fun c29 => ?_) (fun c29 => ?_)
      · refine pw_iconst C dX7_firstFault_45 ?_
        refine pw_istore_3 C dX7_firstFault_46 (k := ?_)
        refine pw_iload_n C dX7_firstFault_47 rfl ?_
        refine pw_if_eq (tgt := 56) C dX7_firstFault_48 rfl (by omega) (fun _ => ?_) (fun q9 => absurd q9 (by decide))
        refine pw_iload_n C dX7_firstFault_56 rfl ?_
        first
          | exact pw_iret C R dX7_firstFault_57 ⟨-9, rfl, rfl, Or.inr ⟨fun q a b => hj q a (by omega), Or.inl ⟨by omega, by omega, rfl⟩⟩⟩
          | exact pw_iret C R dX7_firstFault_57 ⟨n, rfl, rfl, Or.inr ⟨fun q a b => hj q a (by omega), Or.inr ⟨by omega, rfl⟩⟩⟩
      · refine pw_iload_n C dX7_firstFault_32 rfl ?_
        refine pw_iconst C dX7_firstFault_33 ?_
        refine pw_isub C dX7_firstFault_34 ?_
        refine pw_bipush C dX7_firstFault_35 (by decide) ?_
        refine pw_irem C (by omega) (by omega) (by omega) (by omega) dX7_firstFault_37 ?_
        refine pw_if_ne (tgt := 45) C dX7_firstFault_38 rfl (by omega) (fun c38 => ?_) (fun c38 => ?_)
        · refine pw_iconst C dX7_firstFault_45 ?_
          refine pw_istore_3 C dX7_firstFault_46 (k := ?_)
          refine pw_iload_n C dX7_firstFault_47 rfl ?_
          refine pw_if_eq (tgt := 56) C dX7_firstFault_48 rfl (by omega) (fun _ => ?_) (fun q9 => absurd q9 (by decide))
          refine pw_iload_n C dX7_firstFault_56 rfl ?_
          first
            | exact pw_iret C R dX7_firstFault_57 ⟨-9, rfl, rfl, Or.inr ⟨fun q a b => hj q a (by omega), Or.inl ⟨by omega, by omega, rfl⟩⟩⟩
            | exact pw_iret C R dX7_firstFault_57 ⟨n, rfl, rfl, Or.inr ⟨fun q a b => hj q a (by omega), Or.inr ⟨by omega, rfl⟩⟩⟩
        · refine pw_iconst C dX7_firstFault_41 ?_
          refine pw_goto (tgt := 46) C dX7_firstFault_42 rfl ?_
          refine pw_istore_3 C dX7_firstFault_46 (k := ?_)
          refine pw_iload_n C dX7_firstFault_47 rfl ?_
          refine pw_if_eq (tgt := 56) C dX7_firstFault_48 rfl (by omega) (fun q9 => absurd q9 (by decide)) (fun _ => ?_)
          refine pw_bipush C dX7_firstFault_51 (by decide) ?_
          refine pw_goto (tgt := 57) C dX7_firstFault_53 rfl ?_
          first
            | exact pw_iret C R dX7_firstFault_57 ⟨-9, rfl, rfl, Or.inr ⟨fun q a b => hj q a (by omega), Or.inl ⟨by omega, by omega, rfl⟩⟩⟩
            | exact pw_iret C R dX7_firstFault_57 ⟨n, rfl, rfl, Or.inr ⟨fun q a b => hj q a (by omega), Or.inr ⟨by omega, rfl⟩⟩⟩
    · refine pw_aload_n C dX7_firstFault_7 rfl ?_
      refine pw_iload_n C dX7_firstFault_8 rfl ?_
      refine pw_iload_n C dX7_firstFault_9 rfl ?_
      refine pw_iadd C dX7_firstFault_10 ?_
      refine pw_ialdV C (aC_7 (by omega) (by omega)) (by omega) (by omega) (by decide) dX7_firstFault_11 (fun r11 => ?_)
      refine pw_iload_n C dX7_firstFault_12 rfl ?_
      refine pw_cSI C [_, _] mi_X7_goesOn ms_X7_goesOn ml_7_9 (c_X7_goesOn (by omega) (by omega) (by omega)) (by decide) rfl (Nat.le_of_ble_eq_true rfl) dX7_firstFault_13 ?_
      refine pw_if_ne_b (tgt := 21) C dX7_firstFault_16 rfl (fun c16 => ?_) (fun c16 => ?_)
      · refine pw_iinc_3 C dX7_firstFault_21 (k := ?_)
        refine pw_goto (tgt := 2) C dX7_firstFault_24 rfl ?_
        exact ih (j + 1) (by omega) (by omega) (fun q a b => by rcases Int.lt_or_le q j with h | h; exact hj q a h; (have e : q = j := (by omega)); subst e; assumption) (by omega)
      · refine pw_iload_n C dX7_firstFault_19 rfl ?_
        exact pw_iret C R dX7_firstFault_20 ⟨j, rfl, rfl, Or.inl ⟨j, j0, by assumption, by assumption, hj, rfl⟩⟩
set_option maxRecDepth 100000 in
set_option maxHeartbeats 400000 in
theorem c_X7_firstFault {l : Launch} {S : SW} {M : Mem} {V : DM} {i n : Int} {k : Int}  (hi : InR i) (hn : InR n) (k0 : 0 ≤ k) (k1 : k < 4) (i0 : 0 ≤ i) (n0 : 0 ≤ n) (i1 : i + n ≤ 60) : PM l S yX7_firstFault cX7_firstFault 4 (some .int) 2 43 [rv S 2 7 k, iv i, iv n] (mst M 2 V) (rIQ (fun x N => N = mst M 2 V ∧ FF (V 7 k) i n x)) := by
  refine PM.of (own := RX7) (by decide) rfl [some (rv S 2 7 k), some (iv i), some (iv n), none] rfl rfl (Nat.le_of_ble_eq_true rfl) (fun X hXl C R => ?_)
  subst hXl
  refine pw_iconst C dX7_firstFault_0 ?_
  refine pw_istore_3 C dX7_firstFault_1 (k := ?_)
  exact L_X7_firstFault k0 k1 i0 i1 C R (n + 1).toNat 0 (by omega) (by omega) (fun q a b => by omega) (by omega)
/-- a stall read: m sorts of h hours -/
def ReadI (U V : DM) (k i h m : Int) (W : DM) : Prop := W 1 0 5 = h ∧ W 1 0 6 = m ∧ (∀ k2 : Nat, k2 = 0 ∨ k2 = 6 ∨ 8 ≤ k2 → W k2 = V k2)
def SortI (U : DM) (k i s : Int) (W : DM) : Prop := W 2 0 s = U 7 k (i + 2 + 6 * s + 2) - 48 ∧ W 3 0 s = U 7 k (i + 2 + 6 * s + 3) - 48 ∧ W 4 0 s = U 7 k (i + 2 + 6 * s + 4) - 48 ∧ W 5 0 s = U 7 k (i + 2 + 6 * s + 5) - 48
set_option maxRecDepth 100000 in
set_option maxHeartbeats 400000 in
theorem L_X6_readText2 {X : PX} {S : SW} {M : Mem} {V : DM} {k i m h9 s : Int}  (k0 : 0 ≤ k) (k1 : k < 4) (i0 : 0 ≤ i) (i1 : i + 2 + 6 * m ≤ 60) (m0 : 1 ≤ m) (m4 : m ≤ 4) (h0 : 1 ≤ h9) (h8 : h9 ≤ 8) (hcd : ∀ j, 0 ≤ j → j < 2 + 6 * m → 0 ≤ M 2 7 k (i + j) ∧ M 2 7 k (i + j) ≤ 200) (s0 : 0 ≤ s) (s1 : s < m) (K : ∀ W, ReadI (M 2) V k i h9 m W ∧ (∀ s', 0 ≤ s' → s' < s + 1 → SortI (M 2) k i s' W) ∧ (∀ s' t', 0 ≤ s' → s' < s + 1 → 0 ≤ t' → t' < h9 → W 7 s' t' = 9) → PW X S (mst M 0 W) 139 [some (rv S 0 1 0), some (rv S 2 7 k), some (iv i), some (iv (2 + 6 * m)), some (iv s), none, none] []) (C : Cx X S RX6 cX6_readText 0 0) (R : CR X S (rVQ (fun N => ∃ W, N = mst M 0 W ∧ W 1 0 7 = 0 ∧ W 1 0 8 = 0 ∧ ReadI (M 2) V k i h9 m W ∧ (∀ s', 0 ≤ s' → s' < m → SortI (M 2) k i s' W) ∧ (∀ s' t', 0 ≤ s' → s' < m → 0 ≤ t' → t' < h9 → W 7 s' t' = 9))) none) :
    ∀ (n9 : Nat) (t : Int) (W : DM), (0 ≤ t) → (t ≤ h9) → (ReadI (M 2) V k i h9 m W ∧ (∀ s', 0 ≤ s' → s' < s + 1 → SortI (M 2) k i s' W) ∧ (∀ s' t', 0 ≤ s' → s' < s → 0 ≤ t' → t' < h9 → W 7 s' t' = 9)) → (∀ t', 0 ≤ t' → t' < t → W 7 s t' = 9) → h9 - t < n9 → PW X S (mst M 0 W) 112 [some (rv S 0 1 0), some (rv S 2 7 k), some (iv i), some (iv (2 + 6 * m)), some (iv s), some (iv (i + 2 + s * 6)), some (iv t)] [] := by
  intro n9
  induction n9 with
  | zero => intro t W t0 t1 hW hT hn9; omega
  | succ n9 ih =>
    intro t W t0 t1 hW hT hn9
    have e5 : W 1 0 5 = h9 := hW.1.1
    refine pw_iload C dX6_readText_112 rfl ?_
    refine pw_aload_n C dX6_readText_114 rfl ?_
    refine gv_6_29 0 (by decide) C dX6_readText_115 (fun r115 => ?_)
    refine pw_icmp_ge (tgt := 139) C dX6_readText_118 rfl (by omega) (by omega) (fun c118 => ?_) (fun c118 => ?_)
    · refine pw_fg 5 rfl (pw_fg 6 rfl (K W ⟨hW.1, hW.2.1, fun s' t' a b c d => ?_⟩))
      rcases Int.lt_or_le s' s with h | h
      · exact hW.2.2 s' t' a h c d
      · have e : s' = s := by omega
        subst e
        exact hT t' c (by omega)
    · refine pw_aload_n C dX6_readText_121 rfl ?_
      refine gf_6_26 0 (by decide) C dX6_readText_122 ?_
      refine pw_iload C dX6_readText_125 rfl ?_
      refine pw_aald C (qD_6 (by decide)) (by omega) (by omega) (by decide) dX6_readText_127 ?_
      refine pw_iload C dX6_readText_128 rfl ?_
      refine pw_bipush C dX6_readText_130 (by decide) ?_
      refine pw_iastV C (aD_7 (by decide) (by omega) (by omega)) (by omega) (by omega) (by decide) (by omega) dX6_readText_132 ?_
      refine pw_iinc_6 C dX6_readText_133 (k := ?_)
      refine pw_goto (tgt := 112) C dX6_readText_136 rfl ?_
      refine ih (t + 1) _ (by omega) (by omega) ⟨⟨?_, ?_, fun k2 hk => ?_⟩, fun s' a b => ?_, fun s' t' a b c d => ?_⟩ (fun t' a b => ?_) (by omega)
      · rw [vup_k _ _ _ _ (by omega)]; exact hW.1.1
      · rw [vup_k _ _ _ _ (by omega)]; exact hW.1.2.1
      · funext r
        rw [vup_k _ _ _ _ (by omega), hW.1.2.2 k2 hk]
      · have q := hW.2.1 s' a b
        unfold SortI at *
        rw [vup_k _ _ _ _ (by omega), vup_k _ _ _ _ (by omega), vup_k _ _ _ _ (by omega), vup_k _ _ _ _ (by omega)]
        exact q
      · rw [vup_n _ (by omega)]; exact hW.2.2 s' t' a b c d
      · by_cases e : t' = t
        · rw [e, vup_v]
        · rw [vup_n _ (by omega)]; exact hT t' a (by omega)
set_option maxRecDepth 100000 in
set_option maxHeartbeats 400000 in
theorem L_X6_readText {X : PX} {S : SW} {M : Mem} {V : DM} {k i m h9 : Int}  (k0 : 0 ≤ k) (k1 : k < 4) (i0 : 0 ≤ i) (i1 : i + 2 + 6 * m ≤ 60) (m0 : 1 ≤ m) (m4 : m ≤ 4) (h0 : 1 ≤ h9) (h8 : h9 ≤ 8) (hcd : ∀ j, 0 ≤ j → j < 2 + 6 * m → 0 ≤ M 2 7 k (i + j) ∧ M 2 7 k (i + j) ≤ 200)  (C : Cx X S RX6 cX6_readText 0 0) (R : CR X S (rVQ (fun N => ∃ W, N = mst M 0 W ∧ W 1 0 7 = 0 ∧ W 1 0 8 = 0 ∧ ReadI (M 2) V k i h9 m W ∧ (∀ s', 0 ≤ s' → s' < m → SortI (M 2) k i s' W) ∧ (∀ s' t', 0 ≤ s' → s' < m → 0 ≤ t' → t' < h9 → W 7 s' t' = 9))) none) :
    ∀ (n9 : Nat) (s : Int) (W : DM), (0 ≤ s) → (s ≤ m) → (ReadI (M 2) V k i h9 m W ∧ (∀ s', 0 ≤ s' → s' < s → SortI (M 2) k i s' W) ∧ (∀ s' t', 0 ≤ s' → s' < s → 0 ≤ t' → t' < h9 → W 7 s' t' = 9)) → m - s < n9 → PW X S (mst M 0 W) 25 [some (rv S 0 1 0), some (rv S 2 7 k), some (iv i), some (iv (2 + 6 * m)), some (iv s), none, none] [] := by
  intro n9
  induction n9 with
  | zero => intro s W s0 s1 hW hn9; omega
  | succ n9 ih =>
    intro s W s0 s1 hW hn9
    have e6 : W 1 0 6 = m := hW.1.2.1
    refine pw_iload C dX6_readText_25 rfl ?_
    refine pw_aload_n C dX6_readText_27 rfl ?_
    refine gv_6_35 0 (by decide) C dX6_readText_28 (fun r28 => ?_)
    refine pw_icmp_ge (tgt := 145) C dX6_readText_31 rfl (by omega) (by omega) (fun c31 => ?_) (fun c31 => ?_)
    · refine pw_aload_n C dX6_readText_145 rfl ?_
      refine pw_iconst C dX6_readText_146 ?_
      refine pv_6_38 0 (by decide) C (by omega) dX6_readText_147 ?_
      refine pw_aload_n C dX6_readText_150 rfl ?_
      refine pw_iconst C dX6_readText_151 ?_
      refine pv_6_41 0 (by decide) C (by omega) dX6_readText_152 ?_
      have e : s = m := by omega
      subst e
      refine pw_vret C R dX6_readText_155 ⟨rfl, _, rfl, rfl, rfl, ⟨hW.1.1, hW.1.2.1, fun k2 hk => ?_⟩, fun s' a b => ?_, fun s' t' a b c d => ?_⟩
      · funext r
        rw [vup_k _ _ _ _ (by omega), vup_k _ _ _ _ (by omega), hW.1.2.2 k2 hk]
      · exact hW.2.1 s' a b
      · rw [vup_k _ _ _ _ (by omega), vup_k _ _ _ _ (by omega)]; exact hW.2.2 s' t' a b c d
    · refine pw_iload_n C dX6_readText_34 rfl ?_
      refine pw_iconst C dX6_readText_35 ?_
      refine pw_iadd C dX6_readText_36 ?_
      refine pw_iload C dX6_readText_37 rfl ?_
      refine pw_bipush C dX6_readText_39 (by decide) ?_
      refine pw_imul C dX6_readText_41 ?_
      refine pw_iadd C dX6_readText_42 ?_
      refine pw_istore_5 C dX6_readText_43 (k := ?_)
      have hq : ∀ o, 2 ≤ o → o ≤ 5 → 0 ≤ M 2 7 k (i + 2 + s * 6 + o) ∧ M 2 7 k (i + 2 + s * 6 + o) ≤ 200 := fun o a b => by have h := hcd (2 + 6 * s + o) (by omega) (by omega); rw [show i + (2 + 6 * s + o) = i + 2 + s * 6 + o by omega] at h; exact h
      refine pw_aload_n C dX6_readText_45 rfl ?_
      refine gf_6_9 0 (by decide) C dX6_readText_46 ?_
      refine pw_iload C dX6_readText_49 rfl ?_
      refine pw_aload_n C dX6_readText_51 rfl ?_
      refine pw_iload C dX6_readText_52 rfl ?_
      refine pw_iconst C dX6_readText_54 ?_
      refine pw_iadd C dX6_readText_55 ?_
      refine pw_iald C (aC_7 (by omega) (by omega)) (by omega) (by omega) (by decide) dX6_readText_56 (fun r56 => ?_)
      refine pw_bipush C dX6_readText_57 (by decide) ?_
      refine pw_isub C dX6_readText_59 ?_
      refine pw_iastV C (aD_2 (by decide)) (by omega) (by omega) (by decide) (by have h := hq 2 (by omega) (by omega); exact ⟨by show -2147483648 ≤ M 2 7 k (i + 2 + s * 6 + 2) - 48; omega, by show M 2 7 k (i + 2 + s * 6 + 2) - 48 < 2147483648; omega⟩) dX6_readText_60 ?_
      refine pw_aload_n C dX6_readText_61 rfl ?_
      refine gf_6_15 0 (by decide) C dX6_readText_62 ?_
      refine pw_iload C dX6_readText_65 rfl ?_
      refine pw_aload_n C dX6_readText_67 rfl ?_
      refine pw_iload C dX6_readText_68 rfl ?_
      refine pw_iconst C dX6_readText_70 ?_
      refine pw_iadd C dX6_readText_71 ?_
      refine pw_iald C (aC_7 (by omega) (by omega)) (by omega) (by omega) (by decide) dX6_readText_72 (fun r72 => ?_)
      refine pw_bipush C dX6_readText_73 (by decide) ?_
      refine pw_isub C dX6_readText_75 ?_
      refine pw_iastV C (aD_3 (by decide)) (by omega) (by omega) (by decide) (by have h := hq 3 (by omega) (by omega); exact ⟨by show -2147483648 ≤ M 2 7 k (i + 2 + s * 6 + 3) - 48; omega, by show M 2 7 k (i + 2 + s * 6 + 3) - 48 < 2147483648; omega⟩) dX6_readText_76 ?_
      refine pw_aload_n C dX6_readText_77 rfl ?_
      refine gf_6_18 0 (by decide) C dX6_readText_78 ?_
      refine pw_iload C dX6_readText_81 rfl ?_
      refine pw_aload_n C dX6_readText_83 rfl ?_
      refine pw_iload C dX6_readText_84 rfl ?_
      refine pw_iconst C dX6_readText_86 ?_
      refine pw_iadd C dX6_readText_87 ?_
      refine pw_iald C (aC_7 (by omega) (by omega)) (by omega) (by omega) (by decide) dX6_readText_88 (fun r88 => ?_)
      refine pw_bipush C dX6_readText_89 (by decide) ?_
      refine pw_isub C dX6_readText_91 ?_
      refine pw_iastV C (aD_4 (by decide)) (by omega) (by omega) (by decide) (by have h := hq 4 (by omega) (by omega); exact ⟨by show -2147483648 ≤ M 2 7 k (i + 2 + s * 6 + 4) - 48; omega, by show M 2 7 k (i + 2 + s * 6 + 4) - 48 < 2147483648; omega⟩) dX6_readText_92 ?_
      refine pw_aload_n C dX6_readText_93 rfl ?_
      refine gf_6_21 0 (by decide) C dX6_readText_94 ?_
      refine pw_iload C dX6_readText_97 rfl ?_
      refine pw_aload_n C dX6_readText_99 rfl ?_
      refine pw_iload C dX6_readText_100 rfl ?_
      refine pw_iconst C dX6_readText_102 ?_
      refine pw_iadd C dX6_readText_103 ?_
      refine pw_iald C (aC_7 (by omega) (by omega)) (by omega) (by omega) (by decide) dX6_readText_104 (fun r104 => ?_)
      refine pw_bipush C dX6_readText_105 (by decide) ?_
      refine pw_isub C dX6_readText_107 ?_
      refine pw_iastV C (aD_5 (by decide)) (by omega) (by omega) (by decide) (by have h := hq 5 (by omega) (by omega); exact ⟨by show -2147483648 ≤ M 2 7 k (i + 2 + s * 6 + 5) - 48; omega, by show M 2 7 k (i + 2 + s * 6 + 5) - 48 < 2147483648; omega⟩) dX6_readText_108 ?_
      refine pw_iconst C dX6_readText_109 ?_
      refine pw_istore_6 C dX6_readText_110 (k := ?_)
      refine L_X6_readText2 k0 k1 i0 i1 m0 m4 h0 h8 hcd s0 (by omega) (fun W2 hW2 => ?_) C R (h9 + 1).toNat 0 _ (by omega) (by omega) ⟨⟨?_, ?_, fun k2 hk => ?_⟩, fun s' a b => ?_, fun s' t' a b c d => ?_⟩ (fun t' a b => by omega) (by omega)
      · refine pw_iinc_4 C dX6_readText_139 (k := ?_)
        refine pw_goto (tgt := 25) C dX6_readText_142 rfl ?_
        exact ih (s + 1) W2 (by omega) (by omega) hW2 (by omega)
      · rw [vup_k _ _ _ _ (by omega), vup_k _ _ _ _ (by omega), vup_k _ _ _ _ (by omega), vup_k _ _ _ _ (by omega)]; exact hW.1.1
      · rw [vup_k _ _ _ _ (by omega), vup_k _ _ _ _ (by omega), vup_k _ _ _ _ (by omega), vup_k _ _ _ _ (by omega)]; exact hW.1.2.1
      · funext r
        rw [vup_k _ _ _ _ (by omega), vup_k _ _ _ _ (by omega), vup_k _ _ _ _ (by omega), vup_k _ _ _ _ (by omega), hW.1.2.2 k2 hk]
      · by_cases e : s' = s
        · subst e
          refine ⟨?_, ?_, ?_, ?_⟩
          · rw [vup_k _ _ _ _ (by omega), vup_k _ _ _ _ (by omega), vup_k _ _ _ _ (by omega), vup_v]; show M 2 7 k _ - 48 = _; rw [show i + 2 + s' * 6 + 2 = i + 2 + 6 * s' + 2 by omega]
          · rw [vup_k _ _ _ _ (by omega), vup_k _ _ _ _ (by omega), vup_v]; show M 2 7 k _ - 48 = _; rw [show i + 2 + s' * 6 + 3 = i + 2 + 6 * s' + 3 by omega]
          · rw [vup_k _ _ _ _ (by omega), vup_v]; show M 2 7 k _ - 48 = _; rw [show i + 2 + s' * 6 + 4 = i + 2 + 6 * s' + 4 by omega]
          · rw [vup_v]; show M 2 7 k _ - 48 = _; rw [show i + 2 + s' * 6 + 5 = i + 2 + 6 * s' + 5 by omega]
        · have q := hW.2.1 s' a (by omega)
          unfold SortI at *
          refine ⟨?_, ?_, ?_, ?_⟩
          · rw [vup_n _ (by omega), vup_n _ (by omega), vup_n _ (by omega), vup_n _ (by omega)]; exact q.1
          · rw [vup_n _ (by omega), vup_n _ (by omega), vup_n _ (by omega), vup_n _ (by omega)]; exact q.2.1
          · rw [vup_n _ (by omega), vup_n _ (by omega), vup_n _ (by omega), vup_n _ (by omega)]; exact q.2.2.1
          · rw [vup_n _ (by omega), vup_n _ (by omega), vup_n _ (by omega), vup_n _ (by omega)]; exact q.2.2.2
      · rw [vup_k _ _ _ _ (by omega), vup_k _ _ _ _ (by omega), vup_k _ _ _ _ (by omega), vup_k _ _ _ _ (by omega)]; exact hW.2.2 s' t' a b c d
set_option maxRecDepth 100000 in
set_option maxHeartbeats 400000 in
theorem c_X6_readText {l : Launch} {S : SW} {M : Mem} {V : DM} {i n : Int} {k m : Int}  (hi : InR i) (hn : InR n) (hn : n = 2 + 6 * m) (k0 : 0 ≤ k) (k1 : k < 4) (i0 : 0 ≤ i) (i1 : i + 2 + 6 * m ≤ 60) (m0 : 1 ≤ m) (m4 : m ≤ 4) (h0 : 1 ≤ M 2 7 k (i + 1) - 48) (h8 : M 2 7 k (i + 1) - 48 ≤ 8) (hcd : ∀ j, 0 ≤ j → j < 2 + 6 * m → 0 ≤ M 2 7 k (i + j) ∧ M 2 7 k (i + j) ≤ 200)  : PM l S yX6_readText cX6_readText 7 none 0 0 [rv S 0 1 0, rv S 2 7 k, iv i, iv n] (mst M 0 V) (rVQ (fun N => ∃ W, N = mst M 0 W ∧ W 1 0 7 = 0 ∧ W 1 0 8 = 0 ∧ ReadI (M 2) V k i (M 2 7 k (i + 1) - 48) m W ∧ (∀ s', 0 ≤ s' → s' < m → SortI (M 2) k i s' W) ∧ (∀ s' t', 0 ≤ s' → s' < m → 0 ≤ t' → t' < (M 2 7 k (i + 1) - 48) → W 7 s' t' = 9))) := by
  refine PM.of (own := RX6) (by decide) rfl [some (rv S 0 1 0), some (rv S 2 7 k), some (iv i), some (iv n), none, none, none] rfl rfl (Nat.le_of_ble_eq_true rfl) (fun X hXl C R => ?_)
  subst hXl
  refine pw_aload_n C dX6_readText_0 rfl ?_
  refine pw_aload_n C dX6_readText_1 rfl ?_
  refine pw_iload_n C dX6_readText_2 rfl ?_
  refine pw_iconst C dX6_readText_3 ?_
  refine pw_iadd C dX6_readText_4 ?_
  refine pw_iald C (aC_7 (by omega) (by omega)) (by omega) (by omega) (by decide) dX6_readText_5 (fun r5 => ?_)
  refine pw_bipush C dX6_readText_6 (by decide) ?_
  refine pw_isub C dX6_readText_8 ?_
  refine pv_6_29 0 (by decide) C (by exact ⟨by show -2147483648 ≤ M 2 7 k (i + 1) - 48; omega, by show M 2 7 k (i + 1) - 48 < 2147483648; omega⟩) dX6_readText_9 ?_
  refine pw_aload_n C dX6_readText_12 rfl ?_
  refine pw_iload_n C dX6_readText_13 rfl ?_
  refine pw_iconst C dX6_readText_14 ?_
  refine pw_isub C dX6_readText_15 ?_
  refine pw_bipush C dX6_readText_16 (by decide) ?_
  refine pw_idiv C (by omega) (by omega) (by omega) (by omega) dX6_readText_18 ?_
  refine pv_6_35 0 (by decide) C (by omega) dX6_readText_19 ?_
  refine pw_iconst C dX6_readText_22 ?_
  refine pw_istore_4 C dX6_readText_23 (k := ?_)
  subst hn
  refine L_X6_readText (h9 := M 2 7 k (i + 1) - 48) k0 k1 i0 i1 m0 m4 h0 h8 hcd C R (m + 1).toNat 0 _ (by omega) (by omega) ⟨⟨?_, ?_, fun k2 hk => ?_⟩, fun s' a b => by omega, fun s' t' a b c d => by omega⟩ (by omega)
  · rw [vup_n _ (by omega), vup_v]; rfl
  · rw [vup_v]; omega
  · funext r
    rw [vup_k _ _ _ _ (by omega), vup_k _ _ _ _ (by omega)]
