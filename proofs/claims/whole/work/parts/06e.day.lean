theorem vcp_in (g h : Int → Int) {n i : Int} (h0 : 0 ≤ i) (h1 : i < n) : vcp g h 0 0 n i = h i := by
  unfold vcp
  rw [if_pos (by omega)]
  congr 1
  omega
/-- a stall's cells copied -/
def CopyS (U V W : DM) : Prop := (∀ i, 5 ≤ i → i ≤ 8 → W 1 0 i = U 1 0 i) ∧ (∀ (k : Nat) i, 2 ≤ k → k ≤ 5 → 0 ≤ i → i < 4 → W k 0 i = U k 0 i) ∧ (∀ s t, 0 ≤ s → s < 4 → 0 ≤ t → t < 8 → W 7 s t = U 7 s t) ∧ (∀ k : Nat, k = 0 ∨ 8 ≤ k → W k = V k)
def CopyB (U V W : DM) : Prop := W 8 0 4 = U 8 0 4 ∧ (∀ (k : Nat) i, 9 ≤ k → k ≤ 12 → 0 ≤ i → i < 10 → W k 0 i = U k 0 i) ∧ (∀ k : Nat, k ≤ 7 ∨ 13 ≤ k → W k = V k)
/-- a day's cells copied: stall, buyers; no cook -/
def CopyD (U W : DM) : Prop := (∀ i, 5 ≤ i → i ≤ 8 → W 1 0 i = U 1 0 i) ∧ (∀ (k : Nat) i, 2 ≤ k → k ≤ 5 → 0 ≤ i → i < 4 → W k 0 i = U k 0 i) ∧ (∀ s t, 0 ≤ s → s < 4 → 0 ≤ t → t < 8 → W 7 s t = U 7 s t) ∧ W 8 0 4 = U 8 0 4 ∧ (∀ (k : Nat) i, 9 ≤ k → k ≤ 12 → 0 ≤ i → i < 10 → W k 0 i = U k 0 i) ∧ W 0 0 11 = -9
set_option maxRecDepth 100000 in
set_option maxHeartbeats 400000 in
theorem c_X0_become {l : Launch} {S : SW} {M : Mem} {V : DM}   : PM l S yX0_become cX0_become 2 none 1 26 [rv S 1 8 0, rv S 0 8 0] (mst M 1 V) (rVQ (fun N => ∃ W, N = mst M 1 W ∧ CopyB (M 0) V W)) := by
  refine PM.of (own := RX0) (by decide) rfl [some (rv S 1 8 0), some (rv S 0 8 0)] rfl rfl (Nat.le_of_ble_eq_true rfl) (fun X hXl C R => ?_)
  subst hXl
  refine pw_aload_n C dX0_become_0 rfl ?_
  refine pw_aload_n C dX0_become_1 rfl ?_
  refine gf_0_24 0 (by decide) C dX0_become_2 (fun r2 => ?_)
  refine pv_0_24 1 (by decide) C (by omega) dX0_become_5 ?_
  refine pw_aload_n C dX0_become_8 rfl ?_
  refine gf_0_9 0 (by decide) C dX0_become_9 ?_
  refine pw_iconst C dX0_become_12 ?_
  refine pw_aload_n C dX0_become_13 rfl ?_
  refine gf_0_9 1 (by decide) C dX0_become_14 ?_
  refine pw_iconst C dX0_become_17 ?_
  refine pw_bipush C dX0_become_18 (by decide) ?_
  refine pw_copy C cpy_0_28 (aD_9 (by decide)) (aD_9 (by decide)) (by omega) (by omega) (by omega) (by omega) (by omega) (by decide) (by decide) (Nat.le_of_ble_eq_true rfl) (by decide) dX0_become_20 ?_
  rw [mst_m, mst_s, mst_o _ _ (show (0 : Nat) ≠ 1 by decide)]
  refine pw_aload_n C dX0_become_23 rfl ?_
  refine gf_0_15 0 (by decide) C dX0_become_24 ?_
  refine pw_iconst C dX0_become_27 ?_
  refine pw_aload_n C dX0_become_28 rfl ?_
  refine gf_0_15 1 (by decide) C dX0_become_29 ?_
  refine pw_iconst C dX0_become_32 ?_
  refine pw_bipush C dX0_become_33 (by decide) ?_
  refine pw_copy C cpy_0_28 (aD_10 (by decide)) (aD_10 (by decide)) (by omega) (by omega) (by omega) (by omega) (by omega) (by decide) (by decide) (Nat.le_of_ble_eq_true rfl) (by decide) dX0_become_35 ?_
  rw [mst_m, mst_s, mst_o _ _ (show (0 : Nat) ≠ 1 by decide)]
  refine pw_aload_n C dX0_become_38 rfl ?_
  refine gf_0_18 0 (by decide) C dX0_become_39 ?_
  refine pw_iconst C dX0_become_42 ?_
  refine pw_aload_n C dX0_become_43 rfl ?_
  refine gf_0_18 1 (by decide) C dX0_become_44 ?_
  refine pw_iconst C dX0_become_47 ?_
  refine pw_bipush C dX0_become_48 (by decide) ?_
  refine pw_copy C cpy_0_28 (aD_11 (by decide)) (aD_11 (by decide)) (by omega) (by omega) (by omega) (by omega) (by omega) (by decide) (by decide) (Nat.le_of_ble_eq_true rfl) (by decide) dX0_become_50 ?_
  rw [mst_m, mst_s, mst_o _ _ (show (0 : Nat) ≠ 1 by decide)]
  refine pw_aload_n C dX0_become_53 rfl ?_
  refine gf_0_21 0 (by decide) C dX0_become_54 ?_
  refine pw_iconst C dX0_become_57 ?_
  refine pw_aload_n C dX0_become_58 rfl ?_
  refine gf_0_21 1 (by decide) C dX0_become_59 ?_
  refine pw_iconst C dX0_become_62 ?_
  refine pw_bipush C dX0_become_63 (by decide) ?_
  refine pw_copy C cpy_0_28 (aD_12 (by decide)) (aD_12 (by decide)) (by omega) (by omega) (by omega) (by omega) (by omega) (by decide) (by decide) (Nat.le_of_ble_eq_true rfl) (by decide) dX0_become_65 ?_
  rw [mst_m, mst_s, mst_o _ _ (show (0 : Nat) ≠ 1 by decide)]
  refine pw_vret C R dX0_become_68 ⟨rfl, _, rfl, rfl, fun k i k0 k1 i0 i1 => ?_, fun k hk => ?_⟩
  · have h : k = 9 ∨ k = 10 ∨ k = 11 ∨ k = 12 := by omega
    rcases h with rfl | rfl | rfl | rfl
    · show vcp _ (M 0 9 0) 0 0 10 i = _; exact vcp_in _ _ i0 i1
    · show vcp _ (M 0 10 0) 0 0 10 i = _; exact vcp_in _ _ i0 i1
    · show vcp _ (M 0 11 0) 0 0 10 i = _; exact vcp_in _ _ i0 i1
    · show vcp _ (M 0 12 0) 0 0 10 i = _; exact vcp_in _ _ i0 i1
  · funext r
    rw [vset_k _ _ _ (by omega), vset_k _ _ _ (by omega), vset_k _ _ _ (by omega), vset_k _ _ _ (by omega), vup_k _ _ _ _ (by omega)]
set_option maxRecDepth 100000 in
set_option maxHeartbeats 400000 in
theorem c_X6_become {l : Launch} {S : SW} {M : Mem} {V : DM}  (hb : M 0 1 0 8 = 0 ∨ M 0 1 0 8 = 1) : PM l S yX6_become cX6_become 3 none 1 26 [rv S 1 1 0, rv S 0 1 0] (mst M 1 V) (rVQ (fun N => ∃ W, N = mst M 1 W ∧ CopyS (M 0) V W)) := by
  refine PM.of (own := RX6) (by decide) rfl [some (rv S 1 1 0), some (rv S 0 1 0), none] rfl rfl (Nat.le_of_ble_eq_true rfl) (fun X hXl C R => ?_)
  subst hXl
  refine pw_aload_n C dX6_become_0 rfl ?_
  refine pw_aload_n C dX6_become_1 rfl ?_
  refine gf_6_29 0 (by decide) C dX6_become_2 (fun r2 => ?_)
  refine pv_6_29 1 (by decide) C (by omega) dX6_become_5 ?_
  refine pw_aload_n C dX6_become_8 rfl ?_
  refine pw_aload_n C dX6_become_9 rfl ?_
  refine gf_6_35 0 (by decide) C dX6_become_10 (fun r10 => ?_)
  refine pv_6_35 1 (by decide) C (by omega) dX6_become_13 ?_
  refine pw_aload_n C dX6_become_16 rfl ?_
  refine pw_aload_n C dX6_become_17 rfl ?_
  refine gf_6_38 0 (by decide) C dX6_become_18 (fun r18 => ?_)
  refine pv_6_38 1 (by decide) C (by omega) dX6_become_21 ?_
  refine pw_aload_n C dX6_become_24 rfl ?_
  refine pw_aload_n C dX6_become_25 rfl ?_
  refine gf_6_41 0 (by decide) C dX6_become_26 (fun r26 => ?_)
  refine pv_6_41 1 (by decide) C (by exact hb) dX6_become_29 ?_
  refine pw_aload_n C dX6_become_32 rfl ?_
  refine gf_6_9 0 (by decide) C dX6_become_33 ?_
  refine pw_iconst C dX6_become_36 ?_
  refine pw_aload_n C dX6_become_37 rfl ?_
  refine gf_6_9 1 (by decide) C dX6_become_38 ?_
  refine pw_iconst C dX6_become_41 ?_
  refine pw_iconst C dX6_become_42 ?_
  refine pw_copy C cpy_6_45 (aD_2 (by decide)) (aD_2 (by decide)) (by omega) (by omega) (by omega) (by omega) (by omega) (by decide) (by decide) (Nat.le_of_ble_eq_true rfl) (by decide) dX6_become_43 ?_
  rw [mst_m, mst_s, mst_o _ _ (show (0 : Nat) ≠ 1 by decide)]
  refine pw_aload_n C dX6_become_46 rfl ?_
  refine gf_6_15 0 (by decide) C dX6_become_47 ?_
  refine pw_iconst C dX6_become_50 ?_
  refine pw_aload_n C dX6_become_51 rfl ?_
  refine gf_6_15 1 (by decide) C dX6_become_52 ?_
  refine pw_iconst C dX6_become_55 ?_
  refine pw_iconst C dX6_become_56 ?_
  refine pw_copy C cpy_6_45 (aD_3 (by decide)) (aD_3 (by decide)) (by omega) (by omega) (by omega) (by omega) (by omega) (by decide) (by decide) (Nat.le_of_ble_eq_true rfl) (by decide) dX6_become_57 ?_
  rw [mst_m, mst_s, mst_o _ _ (show (0 : Nat) ≠ 1 by decide)]
  refine pw_aload_n C dX6_become_60 rfl ?_
  refine gf_6_18 0 (by decide) C dX6_become_61 ?_
  refine pw_iconst C dX6_become_64 ?_
  refine pw_aload_n C dX6_become_65 rfl ?_
  refine gf_6_18 1 (by decide) C dX6_become_66 ?_
  refine pw_iconst C dX6_become_69 ?_
  refine pw_iconst C dX6_become_70 ?_
  refine pw_copy C cpy_6_45 (aD_4 (by decide)) (aD_4 (by decide)) (by omega) (by omega) (by omega) (by omega) (by omega) (by decide) (by decide) (Nat.le_of_ble_eq_true rfl) (by decide) dX6_become_71 ?_
  rw [mst_m, mst_s, mst_o _ _ (show (0 : Nat) ≠ 1 by decide)]
  refine pw_aload_n C dX6_become_74 rfl ?_
  refine gf_6_21 0 (by decide) C dX6_become_75 ?_
  refine pw_iconst C dX6_become_78 ?_
  refine pw_aload_n C dX6_become_79 rfl ?_
  refine gf_6_21 1 (by decide) C dX6_become_80 ?_
  refine pw_iconst C dX6_become_83 ?_
  refine pw_iconst C dX6_become_84 ?_
  refine pw_copy C cpy_6_45 (aD_5 (by decide)) (aD_5 (by decide)) (by omega) (by omega) (by omega) (by omega) (by omega) (by decide) (by decide) (Nat.le_of_ble_eq_true rfl) (by decide) dX6_become_85 ?_
  rw [mst_m, mst_s, mst_o _ _ (show (0 : Nat) ≠ 1 by decide)]
  refine pw_iconst C dX6_become_88 ?_
  refine pw_istore_2 C dX6_become_89 (k := ?_)
  refine pw_iload_n C dX6_become_90 rfl ?_
  refine pw_iconst C dX6_become_91 ?_
  refine pw_icmp_ge (tgt := 120) C dX6_become_92 rfl (by omega) (by omega) (fun q9 => absurd q9 (by decide)) (fun _ => ?_)
  refine pw_aload_n C dX6_become_95 rfl ?_
  refine gf_6_26 0 (by decide) C dX6_become_96 ?_
  refine pw_iload_n C dX6_become_99 rfl ?_
  refine pw_aald C (qD_6 (by decide)) (by omega) (by omega) (by decide) dX6_become_100 ?_
  refine pw_iconst C dX6_become_101 ?_
  refine pw_aload_n C dX6_become_102 rfl ?_
  refine gf_6_26 1 (by decide) C dX6_become_103 ?_
  refine pw_iload_n C dX6_become_106 rfl ?_
  refine pw_aald C (qD_6 (by decide)) (by omega) (by omega) (by decide) dX6_become_107 ?_
  refine pw_iconst C dX6_become_108 ?_
  refine pw_bipush C dX6_become_109 (by decide) ?_
  refine pw_copy C cpy_6_45 (aD_7 (by decide) (by omega) (by omega)) (aD_7 (by decide) (by omega) (by omega)) (by omega) (by omega) (by omega) (by omega) (by omega) (by decide) (by decide) (Nat.le_of_ble_eq_true rfl) (by decide) dX6_become_111 ?_
  rw [mst_m, mst_s, mst_o _ _ (show (0 : Nat) ≠ 1 by decide)]
  refine pw_iincq_2 C 1 dX6_become_114 (k := ?_)
  refine pw_goto (tgt := 90) C dX6_become_117 rfl ?_
  refine pw_iload_n C dX6_become_90 rfl ?_
  refine pw_iconst C dX6_become_91 ?_
  refine pw_icmp_ge (tgt := 120) C dX6_become_92 rfl (by omega) (by omega) (fun q9 => absurd q9 (by decide)) (fun _ => ?_)
  refine pw_aload_n C dX6_become_95 rfl ?_
  refine gf_6_26 0 (by decide) C dX6_become_96 ?_
  refine pw_iload_n C dX6_become_99 rfl ?_
  refine pw_aald C (qD_6 (by decide)) (by omega) (by omega) (by decide) dX6_become_100 ?_
  refine pw_iconst C dX6_become_101 ?_
  refine pw_aload_n C dX6_become_102 rfl ?_
  refine gf_6_26 1 (by decide) C dX6_become_103 ?_
  refine pw_iload_n C dX6_become_106 rfl ?_
  refine pw_aald C (qD_6 (by decide)) (by omega) (by omega) (by decide) dX6_become_107 ?_
  refine pw_iconst C dX6_become_108 ?_
  refine pw_bipush C dX6_become_109 (by decide) ?_
  refine pw_copy C cpy_6_45 (aD_7 (by decide) (by omega) (by omega)) (aD_7 (by decide) (by omega) (by omega)) (by omega) (by omega) (by omega) (by omega) (by omega) (by decide) (by decide) (Nat.le_of_ble_eq_true rfl) (by decide) dX6_become_111 ?_
  rw [mst_m, mst_s, mst_o _ _ (show (0 : Nat) ≠ 1 by decide)]
  refine pw_iincq_2 C 2 dX6_become_114 (k := ?_)
  refine pw_goto (tgt := 90) C dX6_become_117 rfl ?_
  refine pw_iload_n C dX6_become_90 rfl ?_
  refine pw_iconst C dX6_become_91 ?_
  refine pw_icmp_ge (tgt := 120) C dX6_become_92 rfl (by omega) (by omega) (fun q9 => absurd q9 (by decide)) (fun _ => ?_)
  refine pw_aload_n C dX6_become_95 rfl ?_
  refine gf_6_26 0 (by decide) C dX6_become_96 ?_
  refine pw_iload_n C dX6_become_99 rfl ?_
  refine pw_aald C (qD_6 (by decide)) (by omega) (by omega) (by decide) dX6_become_100 ?_
  refine pw_iconst C dX6_become_101 ?_
  refine pw_aload_n C dX6_become_102 rfl ?_
  refine gf_6_26 1 (by decide) C dX6_become_103 ?_
  refine pw_iload_n C dX6_become_106 rfl ?_
  refine pw_aald C (qD_6 (by decide)) (by omega) (by omega) (by decide) dX6_become_107 ?_
  refine pw_iconst C dX6_become_108 ?_
  refine pw_bipush C dX6_become_109 (by decide) ?_
  refine pw_copy C cpy_6_45 (aD_7 (by decide) (by omega) (by omega)) (aD_7 (by decide) (by omega) (by omega)) (by omega) (by omega) (by omega) (by omega) (by omega) (by decide) (by decide) (Nat.le_of_ble_eq_true rfl) (by decide) dX6_become_111 ?_
  rw [mst_m, mst_s, mst_o _ _ (show (0 : Nat) ≠ 1 by decide)]
  refine pw_iincq_2 C 3 dX6_become_114 (k := ?_)
  refine pw_goto (tgt := 90) C dX6_become_117 rfl ?_
  refine pw_iload_n C dX6_become_90 rfl ?_
  refine pw_iconst C dX6_become_91 ?_
  refine pw_icmp_ge (tgt := 120) C dX6_become_92 rfl (by omega) (by omega) (fun q9 => absurd q9 (by decide)) (fun _ => ?_)
  refine pw_aload_n C dX6_become_95 rfl ?_
  refine gf_6_26 0 (by decide) C dX6_become_96 ?_
  refine pw_iload_n C dX6_become_99 rfl ?_
  refine pw_aald C (qD_6 (by decide)) (by omega) (by omega) (by decide) dX6_become_100 ?_
  refine pw_iconst C dX6_become_101 ?_
  refine pw_aload_n C dX6_become_102 rfl ?_
  refine gf_6_26 1 (by decide) C dX6_become_103 ?_
  refine pw_iload_n C dX6_become_106 rfl ?_
  refine pw_aald C (qD_6 (by decide)) (by omega) (by omega) (by decide) dX6_become_107 ?_
  refine pw_iconst C dX6_become_108 ?_
  refine pw_bipush C dX6_become_109 (by decide) ?_
  refine pw_copy C cpy_6_45 (aD_7 (by decide) (by omega) (by omega)) (aD_7 (by decide) (by omega) (by omega)) (by omega) (by omega) (by omega) (by omega) (by omega) (by decide) (by decide) (Nat.le_of_ble_eq_true rfl) (by decide) dX6_become_111 ?_
  rw [mst_m, mst_s, mst_o _ _ (show (0 : Nat) ≠ 1 by decide)]
  refine pw_iincq_2 C 4 dX6_become_114 (k := ?_)
  refine pw_goto (tgt := 90) C dX6_become_117 rfl ?_
  refine pw_iload_n C dX6_become_90 rfl ?_
  refine pw_iconst C dX6_become_91 ?_
  refine pw_icmp_ge (tgt := 120) C dX6_become_92 rfl (by omega) (by omega) (fun _ => ?_) (fun q9 => absurd q9 (by decide))
  refine pw_vret C R dX6_become_120 ⟨rfl, _, rfl, fun i i0 i1 => ?_, fun k i k0 k1 i0 i1 => ?_, fun s t s0 s1 t0 t1 => ?_, fun k hk => ?_⟩
  · have h : i = 5 ∨ i = 6 ∨ i = 7 ∨ i = 8 := by omega
    rcases h with rfl | rfl | rfl | rfl <;> rfl
  · have h : k = 2 ∨ k = 3 ∨ k = 4 ∨ k = 5 := by omega
    rcases h with rfl | rfl | rfl | rfl
    · show vcp _ (M 0 2 0) 0 0 4 i = _; exact vcp_in _ _ i0 i1
    · show vcp _ (M 0 3 0) 0 0 4 i = _; exact vcp_in _ _ i0 i1
    · show vcp _ (M 0 4 0) 0 0 4 i = _; exact vcp_in _ _ i0 i1
    · show vcp _ (M 0 5 0) 0 0 4 i = _; exact vcp_in _ _ i0 i1
  · have h : s = 0 ∨ s = 1 ∨ s = 2 ∨ s = 3 := by omega
    rcases h with rfl | rfl | rfl | rfl
    · show vcp _ (M 0 7 0) 0 0 8 t = _; exact vcp_in _ _ t0 t1
    · show vcp _ (M 0 7 1) 0 0 8 t = _; exact vcp_in _ _ t0 t1
    · show vcp _ (M 0 7 2) 0 0 8 t = _; exact vcp_in _ _ t0 t1
    · show vcp _ (M 0 7 3) 0 0 8 t = _; exact vcp_in _ _ t0 t1
  · funext r
    rw [vset_k _ _ _ (by omega), vset_k _ _ _ (by omega), vset_k _ _ _ (by omega), vset_k _ _ _ (by omega), vset_k _ _ _ (by omega), vset_k _ _ _ (by omega), vset_k _ _ _ (by omega), vset_k _ _ _ (by omega), vup_k _ _ _ _ (by omega), vup_k _ _ _ _ (by omega), vup_k _ _ _ _ (by omega), vup_k _ _ _ _ (by omega)]
set_option maxRecDepth 100000 in
set_option maxHeartbeats 400000 in
theorem c_X1_become {l : Launch} {S : SW} {M : Mem} {V : DM}  (hb : M 0 1 0 8 = 0 ∨ M 0 1 0 8 = 1) : PM l S yX1_become cX1_become 2 none 2 48 [rv S 1 0 0, rv S 0 0 0] (mst M 1 V) (rVQ (fun N => ∃ W, N = mst M 1 W ∧ CopyD (M 0) W)) := by
  refine PM.of (own := RX1) (by decide) rfl [some (rv S 1 0 0), some (rv S 0 0 0)] rfl rfl (Nat.le_of_ble_eq_true rfl) (fun X hXl C R => ?_)
  subst hXl
  refine pw_aload_n C dX1_become_0 rfl ?_
  refine gf_1_12 1 (by decide) C dX1_become_1 ?_
  refine pw_aload_n C dX1_become_4 rfl ?_
  refine gf_1_12 0 (by decide) C dX1_become_5 ?_
  refine pw_cVQV C [_] mi_X6_become mv_X6_become ml_1_51 (oD_1 (by decide)) rfl (c_X6_become hb) (by decide) rfl (Nat.le_of_ble_eq_true rfl) dX1_become_8 ?_
  rintro N9 ⟨W1, rfl, hW1⟩
  refine pw_aload_n C dX1_become_11 rfl ?_
  refine gf_1_21 1 (by decide) C dX1_become_12 ?_
  refine pw_aload_n C dX1_become_15 rfl ?_
  refine gf_1_21 0 (by decide) C dX1_become_16 ?_
  refine pw_cVQV C [_] mi_X0_become mv_X0_become ml_1_55 (oD_8 (by decide)) rfl c_X0_become (by decide) rfl (Nat.le_of_ble_eq_true rfl) dX1_become_19 ?_
  rintro N9 ⟨W2, rfl, hW2⟩
  refine pw_aload_n C dX1_become_22 rfl ?_
  refine pw_bipush C dX1_become_23 (by decide) ?_
  refine pv_1_47 1 (by decide) C (by omega) dX1_become_25 ?_
  refine pw_vret C R dX1_become_28 ⟨rfl, _, rfl, fun i i0 i1 => ?_, fun k i k0 k1 i0 i1 => ?_, fun s t s0 s1 t0 t1 => ?_, hW2.1, fun k i k0 k1 i0 i1 => ?_, rfl⟩
  · rw [vup_k _ _ _ _ (by omega), hW2.2.2 1 (by omega)]; exact hW1.1 i i0 i1
  · rw [vup_k _ _ _ _ (by omega), hW2.2.2 k (by omega)]; exact hW1.2.1 k i k0 k1 i0 i1
  · rw [vup_k _ _ _ _ (by omega), hW2.2.2 7 (by omega)]; exact hW1.2.2.1 s t s0 s1 t0 t1
  · rw [vup_k _ _ _ _ (by omega)]; exact hW2.2.1 k i k0 k1 i0 i1
