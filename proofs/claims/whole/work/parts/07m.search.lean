/-- soup over cost -/
def gnM (T : DM) (j : Int) : Int := T 1 0 7 - T 3 0 j
def rzM (T : DM) (j : Int) : Int := if T 13 0 j ≠ 0 ∧ 0 < gnM T j then 9 else T 2 0 j
def brM (T : DM) (n : Int) : Int := profitV T + sumI (fun j => gnM T j * (rzM T j - T 2 0 j)) n
def TrOk (T : DM) : Prop := (0 ≤ T 1 0 6 ∧ T 1 0 6 ≤ 4) ∧ (0 ≤ T 1 0 7 ∧ T 1 0 7 ≤ 9) ∧ (-324 ≤ profitV T ∧ profitV T ≤ 4884) ∧ ∀ s, 0 ≤ s → s < T 1 0 6 → (0 ≤ T 13 0 s ∧ T 13 0 s ≤ 9) ∧ (0 ≤ T 2 0 s ∧ T 2 0 s ≤ 9) ∧ 0 ≤ T 3 0 s ∧ T 3 0 s ≤ 9
def WeighI (T V Z : DM) : Prop :=
  (∀ j, 0 ≤ j → j < T 1 0 6 → Z 3 0 j = if T 13 0 j = 0 then 1 else V 3 0 j) ∧
  (((V 1 0 4 < brM T (T 1 0 6) ∨ (brM T (T 1 0 6) = V 1 0 4 ∧ Lx (T 1 0 6) (rzM T) (V 2 0))) ∧ Z 1 0 4 = brM T (T 1 0 6) ∧ Ag (T 1 0 6) (Z 2 0) (rzM T)) ∨
   (¬ (V 1 0 4 < brM T (T 1 0 6) ∨ (brM T (T 1 0 6) = V 1 0 4 ∧ Lx (T 1 0 6) (rzM T) (V 2 0))) ∧ Z 1 0 4 = V 1 0 4 ∧ Ag (T 1 0 6) (Z 2 0) (V 2 0))) ∧
  ∀ (k : Nat) (r i : Int), k = 0 ∨ 5 ≤ k → Z k r i = V k r i
set_option maxRecDepth 100000 in
set_option maxHeartbeats 400000 in
theorem L_X4_isRaisedFirst {X : PX} {S : SW} {M : Mem} {V : DM}  (n0 : 0 ≤ M 1 1 0 6) (n4 : M 1 1 0 6 ≤ 4) (C : Cx X S RX4 cX4_isRaisedFirst 0 0) (R : CR X S (rI (b01 (Lx (M 1 1 0 6) (V 4 0) (V 2 0))) (mst M 2 V)) (some .boolean)) :
    ∀ (n9 : Nat) (s : Int), (0 ≤ s) → (s ≤ M 1 1 0 6) → (Ag s (V 4 0) (V 2 0)) → M 1 1 0 6 - s < n9 → PW X S (mst M 2 V) 2 [some (rv S 2 1 0), some (iv s)] [] := by
  intro n9
  induction n9 with
  | zero => intro s s0 s1 hA hn9; omega
  | succ n9 ih =>
    intro s s0 s1 hA hn9
    refine pw_iload_n C dX4_isRaisedFirst_2 rfl ?_
    refine pw_aload_n C dX4_isRaisedFirst_3 rfl ?_
    refine gf_4_12 C dX4_isRaisedFirst_4 ?_
    refine gf_4_33 1 (by decide) C dX4_isRaisedFirst_7 ?_
    refine go_4_80 1 (by decide) C (by decide) dX4_isRaisedFirst_10 (fun r10 => ?_)
    refine pw_icmp_ge (tgt := 58) C dX4_isRaisedFirst_13 rfl (by omega) (by omega) (fun c13 => ?_) (fun c13 => ?_)
    · refine pw_iconst C dX4_isRaisedFirst_58 ?_
      exact pw_zret0 C R dX4_isRaisedFirst_59 (fun h => by obtain ⟨u, u0, u1, ua, ul⟩ := h; have := hA u u0 (by omega); omega) rfl
    · refine pw_aload_n C dX4_isRaisedFirst_16 rfl ?_
      refine gf_4_26 C dX4_isRaisedFirst_17 ?_
      refine pw_iload_n C dX4_isRaisedFirst_20 rfl ?_
      refine pw_ialdV C aC_4 (by omega) (by omega) (by decide) dX4_isRaisedFirst_21 (fun r21 => ?_)
      refine pw_aload_n C dX4_isRaisedFirst_22 rfl ?_
      refine gf_4_18 C dX4_isRaisedFirst_23 ?_
      refine pw_iload_n C dX4_isRaisedFirst_26 rfl ?_
      refine pw_ialdV C aC_2 (by omega) (by omega) (by decide) dX4_isRaisedFirst_27 (fun r27 => ?_)
      refine pw_icmp_eq (tgt := 52) C dX4_isRaisedFirst_28 rfl (by omega) (by omega) (fun c28 => ?_) (fun c28 => ?_)
      · refine pw_iinc_1 C dX4_isRaisedFirst_52 (k := ?_)
        refine pw_goto (tgt := 2) C dX4_isRaisedFirst_55 rfl ?_
        exact ih (s + 1) (by omega) (by omega) (fun j a b => by
          by_cases hj : j = s
          · rw [hj]; omega
          · exact hA j a (by omega)) (by omega)
      · refine pw_aload_n C dX4_isRaisedFirst_31 rfl ?_
        refine gf_4_26 C dX4_isRaisedFirst_32 ?_
        refine pw_iload_n C dX4_isRaisedFirst_35 rfl ?_
        refine pw_ialdV C aC_4 (by omega) (by omega) (by decide) dX4_isRaisedFirst_36 (fun r36 => ?_)
        refine pw_aload_n C dX4_isRaisedFirst_37 rfl ?_
        refine gf_4_18 C dX4_isRaisedFirst_38 ?_
        refine pw_iload_n C dX4_isRaisedFirst_41 rfl ?_
        refine pw_ialdV C aC_2 (by omega) (by omega) (by decide) dX4_isRaisedFirst_42 (fun r42 => ?_)
        refine pw_icmp_ge (tgt := 50) C dX4_isRaisedFirst_43 rfl (by omega) (by omega) (fun c43 => ?_) (fun c43 => ?_)
        · refine pw_iconst C dX4_isRaisedFirst_50 ?_
          first
            | exact pw_zret1 C R dX4_isRaisedFirst_51 ⟨s, s0, by omega, hA, by omega⟩ rfl
            | exact pw_zret0 C R dX4_isRaisedFirst_51 (fun h => by
                obtain ⟨u, u0, u1, ua, ul⟩ := h
                rcases Int.lt_trichotomy u s with e | e | e
                · have := hA u u0 e; omega
                · rw [e] at ul; omega
                · have := ua s s0 e; omega) rfl
        · refine pw_iconst C dX4_isRaisedFirst_46 ?_
          refine pw_goto (tgt := 51) C dX4_isRaisedFirst_47 rfl ?_
          first
            | exact pw_zret1 C R dX4_isRaisedFirst_51 ⟨s, s0, by omega, hA, by omega⟩ rfl
            | exact pw_zret0 C R dX4_isRaisedFirst_51 (fun h => by
                obtain ⟨u, u0, u1, ua, ul⟩ := h
                rcases Int.lt_trichotomy u s with e | e | e
                · have := hA u u0 e; omega
                · rw [e] at ul; omega
                · have := ua s s0 e; omega) rfl
set_option maxRecDepth 100000 in
set_option maxHeartbeats 400000 in
theorem c_X4_isRaisedFirst {l : Launch} {S : SW} {M : Mem} {V : DM}  (n0 : 0 ≤ M 1 1 0 6) (n4 : M 1 1 0 6 ≤ 4) : PM l S yX4_isRaisedFirst cX4_isRaisedFirst 2 (some .boolean) 0 0 [rv S 2 1 0] (mst M 2 V) (rI (b01 (Lx (M 1 1 0 6) (V 4 0) (V 2 0))) (mst M 2 V)) := by
  refine PM.of (own := RX4) (by decide) rfl [some (rv S 2 1 0), none] rfl rfl (Nat.le_of_ble_eq_true rfl) (fun X hXl C R => ?_)
  subst hXl
  refine pw_iconst C dX4_isRaisedFirst_0 ?_
  refine pw_istore_1 C dX4_isRaisedFirst_1 (k := ?_)
  exact L_X4_isRaisedFirst n0 n4 C R (M 1 1 0 6 + 1).toNat 0 (by omega) (by omega) (fun j a b => by omega) (by omega)
def NextI (U V : DM) (s : Int) (W Z : DM) : Prop := (∀ j, 0 ≤ j → j < U 1 0 6 → W 2 0 j = nxF (U 2 0) s j ∧ Z 3 0 j = nxR (V 3 0) s j) ∧ (∀ (k : Nat) (r i : Int), k ≠ 2 → W k r i = U k r i) ∧ ∀ (k : Nat) (r i : Int), k ≠ 3 → Z k r i = V k r i
set_option maxRecDepth 100000 in
set_option maxHeartbeats 400000 in
theorem L_X4_goToNextRow {X : PX} {S : SW} {M : Mem} {U V : DM}  (n0 : 0 ≤ U 1 0 6) (n4 : U 1 0 6 ≤ 4) (hf : ∀ j, 0 ≤ j → j < U 1 0 6 → 0 ≤ U 2 0 j ∧ U 2 0 j ≤ 9) (hr : ∀ j, 0 ≤ j → j < U 1 0 6 → V 3 0 j = 0 ∨ V 3 0 j = 1) (C : Cx X S RX4 cX4_goToNextRow 0 0) (R : CR X S (rIQ (fun x N => ∃ s W Z, N = mst (mst M 2 Z) 1 W ∧ x = b01 (0 ≤ s) ∧ NxS (U 1 0 6) s (U 2 0) (V 3 0) ∧ NextI U V s W Z)) (some .boolean)) :
    ∀ (n9 : Nat) (s : Int) (W Z : DM), (-1 ≤ s) → (s < U 1 0 6) → (∀ j, s < j → j < U 1 0 6 → ¬ (V 3 0 j = 1 ∧ U 2 0 j < 9)) → (∀ j, 0 ≤ j → j < U 1 0 6 → (W 2 0 j = if j ≤ s then U 2 0 j else 0) ∧ Z 3 0 j = if j ≤ s then V 3 0 j else 0) → (∀ (k : Nat) (r i : Int), k ≠ 2 → W k r i = U k r i) → (∀ (k : Nat) (r i : Int), k ≠ 3 → Z k r i = V k r i) → s + 2 < n9 → PW X S (mst (mst M 2 Z) 1 W) 13 [some (rv S 2 1 0), some (iv s), none] [] := by
  intro n9
  induction n9 with
  | zero => intro s W Z s0 s1 hno hW hWk hZk hn9; omega
  | succ n9 ih =>
    intro s W Z s0 s1 hno hW hWk hZk hn9
    refine pw_iload_n C dX4_goToNextRow_13 rfl ?_
    refine pw_if_lt (tgt := 97) C dX4_goToNextRow_14 rfl (by omega) (fun c14 => ?_) (fun c14 => ?_)
    · refine pw_iconst C dX4_goToNextRow_97 ?_
      refine pw_zret C R dX4_goToNextRow_98 (Or.inl rfl) ⟨0, rfl, s, _, _, rfl, by rw [b01_f (show ¬ (0 ≤ s) by omega)], ⟨⟨s0, s1⟩, hno, fun h => by omega⟩, fun j a b => ?_, hWk, hZk⟩
      have q := hW j a b
      unfold nxF nxR
      rw [if_neg (by omega), if_neg (by omega), if_neg (by omega)]
      rw [if_neg (by omega), if_neg (by omega)] at q
      exact q
    · have hs := hW s (by omega) s1
      rw [if_pos (Int.le_refl _), if_pos (Int.le_refl _)] at hs
      have hfs := hf s (by omega) s1
      have hrs := hr s (by omega) s1
      refine pw_aload_n C dX4_goToNextRow_17 rfl ?_
      refine gf_4_22 C dX4_goToNextRow_18 ?_
      refine pw_iload_n C dX4_goToNextRow_21 rfl ?_
      refine pw_mem (mst_c _ _ _ (by decide)) ?_
      refine pw_zaldV C bC_3 (by omega) (by omega) (by decide) dX4_goToNextRow_22 (fun r22 => ?_)
      refine pw_if_eq (tgt := 47) C dX4_goToNextRow_23 rfl (by omega) (fun c23 => ?_) (fun c23 => ?_)
      · refine pw_iconst C dX4_goToNextRow_47 ?_
        refine pw_istore_2 C dX4_goToNextRow_48 (k := ?_)
        refine pw_aload_n C dX4_goToNextRow_49 rfl ?_
        refine gf_4_22 C dX4_goToNextRow_50 ?_
        refine pw_iload_n C dX4_goToNextRow_53 rfl ?_
        refine pw_iconst C dX4_goToNextRow_54 ?_
        refine pw_zastV C bC_3 (by omega) (by omega) (by decide) (by omega) dX4_goToNextRow_55 ?_
        refine pw_iload_n C dX4_goToNextRow_56 rfl ?_
        refine pw_if_eq (tgt := 78) C dX4_goToNextRow_57 rfl (by omega) (fun _ => ?_) (fun q9 => absurd q9 (by decide))
        refine pw_aload_n C dX4_goToNextRow_78 rfl ?_
        refine gf_4_12 C dX4_goToNextRow_79 ?_
        refine gf_4_33 1 (by decide) C dX4_goToNextRow_82 ?_
        refine gf_4_37 1 (by decide) C dX4_goToNextRow_85 ?_
        refine pw_iload_n C dX4_goToNextRow_88 rfl ?_
        refine pw_iconst C dX4_goToNextRow_89 ?_
        refine pw_mem (mst_c _ _ _ (by decide)) ?_
        refine pw_iastV C (aD_2 (by decide)) (by omega) (by omega) (by decide) (by omega) dX4_goToNextRow_90 ?_
        refine pw_iinc_1 C dX4_goToNextRow_91 (k := ?_)
        refine pw_goto (tgt := 13) C dX4_goToNextRow_94 rfl ?_
        refine pw_fg 2 rfl (ih (s + -1) _ _ (by omega) (by omega) (fun j a b => ?_) (fun j a b => ?_) (fun k r i hk => ?_) (fun k r i hk => ?_) (by omega))
        · by_cases hj : j = s
          · rw [hj]; omega
          · exact hno j (by omega) b
        · by_cases hj : j = s
          · rw [hj, vup_v, vup_v, if_neg (by omega), if_neg (by omega)]; exact ⟨rfl, rfl⟩
          · rw [vup_j _ _ _ _ hj, vup_j _ _ _ _ hj]
            have q := hW j a b
            by_cases h : j ≤ s
            · rw [if_pos h, if_pos h] at q
              rw [if_pos (show j ≤ s + -1 by omega), if_pos (show j ≤ s + -1 by omega)]; exact q
            · rw [if_neg h, if_neg h] at q
              rw [if_neg (show ¬ (j ≤ s + -1) by omega), if_neg (show ¬ (j ≤ s + -1) by omega)]; exact q
        · rw [vup_k _ _ _ _ hk]; exact hWk k r i hk
        · rw [vup_k _ _ _ _ hk]; exact hZk k r i hk
      · refine pw_aload_n C dX4_goToNextRow_26 rfl ?_
        refine gf_4_12 C dX4_goToNextRow_27 ?_
        refine gf_4_33 1 (by decide) C dX4_goToNextRow_30 ?_
        refine gf_4_37 1 (by decide) C dX4_goToNextRow_33 ?_
        refine pw_iload_n C dX4_goToNextRow_36 rfl ?_
        refine pw_mem (mst_c _ _ _ (by decide)) ?_
        refine pw_ialdV C (aD_2 (by decide)) (by omega) (by omega) (by decide) dX4_goToNextRow_37 (fun r37 => ?_)
        refine pw_bipush C dX4_goToNextRow_38 (by decide) ?_
        refine pw_icmp_ge (tgt := 47) C dX4_goToNextRow_40 rfl (by omega) (by omega) (fun c40 => ?_) (fun c40 => ?_)
        · refine pw_iconst C dX4_goToNextRow_47 ?_
          refine pw_istore_2 C dX4_goToNextRow_48 (k := ?_)
          refine pw_aload_n C dX4_goToNextRow_49 rfl ?_
          refine gf_4_22 C dX4_goToNextRow_50 ?_
          refine pw_iload_n C dX4_goToNextRow_53 rfl ?_
          refine pw_iconst C dX4_goToNextRow_54 ?_
          refine pw_mem (mst_c _ _ _ (by decide)) ?_
          refine pw_zastV C bC_3 (by omega) (by omega) (by decide) (by omega) dX4_goToNextRow_55 ?_
          refine pw_iload_n C dX4_goToNextRow_56 rfl ?_
          refine pw_if_eq (tgt := 78) C dX4_goToNextRow_57 rfl (by omega) (fun _ => ?_) (fun q9 => absurd q9 (by decide))
          refine pw_aload_n C dX4_goToNextRow_78 rfl ?_
          refine gf_4_12 C dX4_goToNextRow_79 ?_
          refine gf_4_33 1 (by decide) C dX4_goToNextRow_82 ?_
          refine gf_4_37 1 (by decide) C dX4_goToNextRow_85 ?_
          refine pw_iload_n C dX4_goToNextRow_88 rfl ?_
          refine pw_iconst C dX4_goToNextRow_89 ?_
          refine pw_mem (mst_c _ _ _ (by decide)) ?_
          refine pw_iastV C (aD_2 (by decide)) (by omega) (by omega) (by decide) (by omega) dX4_goToNextRow_90 ?_
          refine pw_iinc_1 C dX4_goToNextRow_91 (k := ?_)
          refine pw_goto (tgt := 13) C dX4_goToNextRow_94 rfl ?_
          refine pw_fg 2 rfl (ih (s + -1) _ _ (by omega) (by omega) (fun j a b => ?_) (fun j a b => ?_) (fun k r i hk => ?_) (fun k r i hk => ?_) (by omega))
          · by_cases hj : j = s
            · rw [hj]; omega
            · exact hno j (by omega) b
          · by_cases hj : j = s
            · rw [hj, vup_v, vup_v, if_neg (by omega), if_neg (by omega)]; exact ⟨rfl, rfl⟩
            · rw [vup_j _ _ _ _ hj, vup_j _ _ _ _ hj]
              have q := hW j a b
              by_cases h : j ≤ s
              · rw [if_pos h, if_pos h] at q
                rw [if_pos (show j ≤ s + -1 by omega), if_pos (show j ≤ s + -1 by omega)]; exact q
              · rw [if_neg h, if_neg h] at q
                rw [if_neg (show ¬ (j ≤ s + -1) by omega), if_neg (show ¬ (j ≤ s + -1) by omega)]; exact q
          · rw [vup_k _ _ _ _ hk]; exact hWk k r i hk
          · rw [vup_k _ _ _ _ hk]; exact hZk k r i hk
        · refine pw_iconst C dX4_goToNextRow_43 ?_
          refine pw_goto (tgt := 48) C dX4_goToNextRow_44 rfl ?_
          refine pw_istore_2 C dX4_goToNextRow_48 (k := ?_)
          refine pw_aload_n C dX4_goToNextRow_49 rfl ?_
          refine gf_4_22 C dX4_goToNextRow_50 ?_
          refine pw_iload_n C dX4_goToNextRow_53 rfl ?_
          refine pw_iconst C dX4_goToNextRow_54 ?_
          refine pw_mem (mst_c _ _ _ (by decide)) ?_
          refine pw_zastV C bC_3 (by omega) (by omega) (by decide) (by omega) dX4_goToNextRow_55 ?_
          refine pw_iload_n C dX4_goToNextRow_56 rfl ?_
          refine pw_if_eq (tgt := 78) C dX4_goToNextRow_57 rfl (by omega) (fun q9 => absurd q9 (by decide)) (fun _ => ?_)
          refine pw_aload_n C dX4_goToNextRow_60 rfl ?_
          refine gf_4_12 C dX4_goToNextRow_61 ?_
          refine gf_4_33 1 (by decide) C dX4_goToNextRow_64 ?_
          refine gf_4_37 1 (by decide) C dX4_goToNextRow_67 ?_
          refine pw_iload_n C dX4_goToNextRow_70 rfl ?_
          refine pw_dup2 C dX4_goToNextRow_71 rfl rfl ?_
          refine pw_mem (mst_c _ _ _ (by decide)) ?_
          refine pw_ialdV C (aD_2 (by decide)) (by omega) (by omega) (by decide) dX4_goToNextRow_72 (fun r72 => ?_)
          refine pw_iconst C dX4_goToNextRow_73 ?_
          refine pw_iadd C dX4_goToNextRow_74 ?_
          refine pw_iastV C (aD_2 (by decide)) (by omega) (by omega) (by decide) (by omega) dX4_goToNextRow_75 ?_
          refine pw_iconst C dX4_goToNextRow_76 ?_
          refine pw_zret C R dX4_goToNextRow_77 (Or.inr rfl) ⟨1, rfl, s, _, _, rfl, by rw [b01_t (show 0 ≤ s by omega)], ⟨⟨s0, s1⟩, hno, fun _ => ⟨by omega, by omega⟩⟩, fun j a b => ?_, fun k r i hk => ?_, fun k r i hk => ?_⟩
          · have q := hW j a b
            unfold nxF nxR
            rcases Int.lt_trichotomy j s with e | e | e
            · rw [vup_j _ _ _ _ (show j ≠ s by omega), vup_j _ _ _ _ (show j ≠ s by omega), if_pos e, if_pos e]
              rw [if_pos (by omega), if_pos (by omega)] at q
              exact q
            · subst e
              rw [vup_v, vup_v, if_neg (by omega), if_pos rfl, if_neg (by omega)]
              exact ⟨by omega, rfl⟩
            · rw [vup_j _ _ _ _ (show j ≠ s by omega), vup_j _ _ _ _ (show j ≠ s by omega), if_neg (by omega), if_neg (by omega), if_neg (by omega)]
              rw [if_neg (by omega), if_neg (by omega)] at q
              exact q
          · rw [vup_k _ _ _ _ hk]; exact hWk k r i hk
          · rw [vup_k _ _ _ _ hk]; exact hZk k r i hk
set_option maxRecDepth 100000 in
set_option maxHeartbeats 400000 in
theorem c_X4_goToNextRow {l : Launch} {S : SW} {M : Mem} {U V : DM}  (n0 : 0 ≤ U 1 0 6) (n4 : U 1 0 6 ≤ 4) (hf : ∀ j, 0 ≤ j → j < U 1 0 6 → 0 ≤ U 2 0 j ∧ U 2 0 j ≤ 9) (hr : ∀ j, 0 ≤ j → j < U 1 0 6 → V 3 0 j = 0 ∨ V 3 0 j = 1) : PM l S yX4_goToNextRow cX4_goToNextRow 3 (some .boolean) 0 0 [rv S 2 1 0] (mst (mst M 2 V) 1 U) (rIQ (fun x N => ∃ s W Z, N = mst (mst M 2 Z) 1 W ∧ x = b01 (0 ≤ s) ∧ NxS (U 1 0 6) s (U 2 0) (V 3 0) ∧ NextI U V s W Z)) := by
  refine PM.of (own := RX4) (by decide) rfl [some (rv S 2 1 0), none, none] rfl rfl (Nat.le_of_ble_eq_true rfl) (fun X hXl C R => ?_)
  subst hXl
  refine pw_aload_n C dX4_goToNextRow_0 rfl ?_
  refine gf_4_12 C dX4_goToNextRow_1 ?_
  refine gf_4_33 1 (by decide) C dX4_goToNextRow_4 ?_
  refine gv_4_80 1 (by decide) C dX4_goToNextRow_7 (fun r7 => ?_)
  refine pw_iconst C dX4_goToNextRow_10 ?_
  refine pw_isub C dX4_goToNextRow_11 ?_
  refine pw_istore_1 C dX4_goToNextRow_12 (k := ?_)
  refine L_X4_goToNextRow n0 n4 hf hr C R (U 1 0 6 + 2).toNat (U 1 0 6 - 1) U V (by omega) (by omega) (fun j a b => by omega) (fun j a b => ?_) (fun _ _ _ _ => rfl) (fun _ _ _ _ => rfl) (by omega)
  rw [if_pos (by omega), if_pos (by omega)]; exact ⟨rfl, rfl⟩
