theorem w32_48 {c lo hi : Int} (hc : InR c) (h0 : 0 ≤ lo) (h1 : hi ≤ 9) : (lo ≤ w32 (c - 48) ∧ w32 (c - 48) ≤ hi) ↔ (lo ≤ c - 48 ∧ c - 48 ≤ hi) := by
  have hc1 := hc.1
  have hc2 := hc.2
  by_cases h : -2147483648 ≤ c - 48
  · rw [w32_i ⟨h, by omega⟩]
  · have e : w32 (c - 48) = c - 48 + 4294967296 := by
      have e1 : w32 (c - 48) = w32 (c - 48 + 4294967296) := by
        unfold w32
        rw [Int32.ofInt_add, show Int32.ofInt 4294967296 = 0 from rfl, Int32.add_zero]
      rw [e1]
      exact w32_i ⟨by omega, by omega⟩
    rw [e]
    omega
/-- but for how far the text is read -/
def RD1 (V W : DM) : Prop := ∀ (k : Nat) (r j : Int), ¬ (k = 0 ∧ r = 0 ∧ (j = 10 ∨ j = 11)) → W k r j = V k r j
theorem RD1.rf (V : DM) : RD1 V V := fun _ _ _ _ => rfl
theorem RD1.up {V W : DM} (h : RD1 V W) {j v : Int} (hj : j = 10 ∨ j = 11) : RD1 V (vup W 0 0 j v) := fun k r j2 hn => by
  rw [vup_n _ (by rintro ⟨rfl, rfl, rfl⟩; exact hn ⟨rfl, rfl, hj⟩)]
  exact h k r j2 hn
set_option maxRecDepth 100000 in
set_option maxHeartbeats 400000 in
theorem c_X9_takes {l : Launch} {S : SW} {M : Mem} {V : DM} {c fr n : Int}  (hc : InR c) (hfr : InR fr) (hn : InR n) (f0 : 0 ≤ fr) (f1 : fr + n ≤ 240) (a0 : 0 ≤ V 0 0 10) : PM l S yX9_takes cX9_takes 5 (some .boolean) 0 0 [rv S 3 0 0, iv c, iv fr, iv n] (mst M 3 V) (rIQ (fun x N => x = b01 (V 0 0 10 < n ∧ V 37 0 (fr + V 0 0 10) = c) ∧ ∃ W, N = mst M 3 W ∧ RD1 V W ∧ W 0 0 10 = V 0 0 10 + x)) := by
  refine PM.of (own := RX9) (by decide) rfl [some (rv S 3 0 0), some (iv c), some (iv fr), some (iv n), none] rfl rfl (Nat.le_of_ble_eq_true rfl) (fun X hXl C R => ?_)
  subst hXl
  refine pw_aload_n C dX9_takes_0 rfl ?_
  refine gv_9_122 C dX9_takes_1 (fun r1 => ?_)
  refine pw_iload_n C dX9_takes_4 rfl ?_
  refine pw_icmp_ge (tgt := 27) C dX9_takes_5 rfl (by omega) (by omega) (fun c5 => ?_) (fun c5 => ?_)
  · refine pw_iconst C dX9_takes_27 ?_
    refine pw_istore_4 C dX9_takes_28 (k := ?_)
    refine pw_aload_n C dX9_takes_30 rfl ?_
    refine pw_dup C dX9_takes_31 rfl ?_
    refine gv_9_122 C dX9_takes_32 (fun r32 => ?_)
    refine pw_iload C dX9_takes_35 rfl ?_
    refine pw_if_eq (tgt := 44) C dX9_takes_37 rfl (by omega) (fun _ => ?_) (fun q9 => absurd q9 (by decide))
    refine pw_iconst C dX9_takes_44 ?_
    refine pw_iadd C dX9_takes_45 ?_
    refine pv_9_122 C (by omega) dX9_takes_46 ?_
    refine pw_iload C dX9_takes_49 rfl ?_
    first
      | exact pw_zret C R dX9_takes_51 (Or.inr rfl) ⟨1, rfl, (b01_t ⟨by omega, by omega⟩).symm, _, rfl, (RD1.rf V).up (by omega), vup_v _ _ _ _ _⟩
      | exact pw_zret C R dX9_takes_51 (Or.inl rfl) ⟨0, rfl, (b01_f (fun h => by have h1 := h.1; have h2 := h.2; omega)).symm, _, rfl, (RD1.rf V).up (by omega), vup_v _ _ _ _ _⟩
  · refine pw_aload_n C dX9_takes_8 rfl ?_
    refine gf_9_79 C dX9_takes_9 ?_
    refine pw_iload_n C dX9_takes_12 rfl ?_
    refine pw_aload_n C dX9_takes_13 rfl ?_
    refine gv_9_122 C dX9_takes_14 (fun r14 => ?_)
    refine pw_iadd C dX9_takes_17 ?_
    refine pw_ialdV C aM_37 (by omega) (by omega) (by decide) dX9_takes_18 (fun r18 => ?_)
    refine pw_iload_n C dX9_takes_19 rfl ?_
    refine pw_icmp_ne (tgt := 27) C dX9_takes_20 rfl (by omega) (by omega) (fun c20 => ?_) (fun c20 => ?_)
    · refine pw_iconst C dX9_takes_27 ?_
      refine pw_istore_4 C dX9_takes_28 (k := ?_)
      refine pw_aload_n C dX9_takes_30 rfl ?_
      refine pw_dup C dX9_takes_31 rfl ?_
      refine gv_9_122 C dX9_takes_32 (fun r32 => ?_)
      refine pw_iload C dX9_takes_35 rfl ?_
      refine pw_if_eq (tgt := 44) C dX9_takes_37 rfl (by omega) (fun _ => ?_) (fun q9 => absurd q9 (by decide))
      refine pw_iconst C dX9_takes_44 ?_
      refine pw_iadd C dX9_takes_45 ?_
      refine pv_9_122 C (by omega) dX9_takes_46 ?_
      refine pw_iload C dX9_takes_49 rfl ?_
      first
        | exact pw_zret C R dX9_takes_51 (Or.inr rfl) ⟨1, rfl, (b01_t ⟨by omega, by omega⟩).symm, _, rfl, (RD1.rf V).up (by omega), vup_v _ _ _ _ _⟩
        | exact pw_zret C R dX9_takes_51 (Or.inl rfl) ⟨0, rfl, (b01_f (fun h => by have h1 := h.1; have h2 := h.2; omega)).symm, _, rfl, (RD1.rf V).up (by omega), vup_v _ _ _ _ _⟩
    · refine pw_iconst C dX9_takes_23 ?_
      refine pw_goto (tgt := 28) C dX9_takes_24 rfl ?_
      refine pw_istore_4 C dX9_takes_28 (k := ?_)
      refine pw_aload_n C dX9_takes_30 rfl ?_
      refine pw_dup C dX9_takes_31 rfl ?_
      refine gv_9_122 C dX9_takes_32 (fun r32 => ?_)
      refine pw_iload C dX9_takes_35 rfl ?_
      refine pw_if_eq (tgt := 44) C dX9_takes_37 rfl (by omega) (fun q9 => absurd q9 (by decide)) (fun _ => ?_)
      refine pw_iconst C dX9_takes_40 ?_
      refine pw_goto (tgt := 45) C dX9_takes_41 rfl ?_
      refine pw_iadd C dX9_takes_45 ?_
      refine pv_9_122 C (by omega) dX9_takes_46 ?_
      refine pw_iload C dX9_takes_49 rfl ?_
      first
        | exact pw_zret C R dX9_takes_51 (Or.inr rfl) ⟨1, rfl, (b01_t ⟨by omega, by omega⟩).symm, _, rfl, (RD1.rf V).up (by omega), vup_v _ _ _ _ _⟩
        | exact pw_zret C R dX9_takes_51 (Or.inl rfl) ⟨0, rfl, (b01_f (fun h => by have h1 := h.1; have h2 := h.2; omega)).symm, _, rfl, (RD1.rf V).up (by omega), vup_v _ _ _ _ _⟩
set_option maxRecDepth 100000 in
set_option maxHeartbeats 400000 in
theorem c_X9_readsFigure {l : Launch} {S : SW} {M : Mem} {V : DM} {fr n lo hi : Int}  (hfr : InR fr) (hn : InR n) (hlo : InR lo) (hhi : InR hi) (f0 : 0 ≤ fr) (f1 : fr + n ≤ 240) (a0 : 0 ≤ V 0 0 10) (l0 : 0 ≤ lo) (h9 : hi ≤ 9) : PM l S yX9_readsFigure cX9_readsFigure 6 (some .boolean) 1 25 [rv S 3 0 0, iv fr, iv n, iv lo, iv hi] (mst M 3 V) (rIQ (fun x N => x = b01 (V 0 0 10 < n ∧ lo ≤ V 37 0 (fr + V 0 0 10) - 48 ∧ V 37 0 (fr + V 0 0 10) - 48 ≤ hi) ∧ ∃ W, N = mst M 3 W ∧ RD1 V W ∧ W 0 0 10 = V 0 0 10 + x ∧ (x = 1 → W 0 0 11 = V 37 0 (fr + V 0 0 10) - 48))) := by
  refine PM.of (own := RX9) (by decide) rfl [some (rv S 3 0 0), some (iv fr), some (iv n), some (iv lo), some (iv hi), none] rfl rfl (Nat.le_of_ble_eq_true rfl) (fun X hXl C R => ?_)
  subst hXl
  refine pw_aload_n C dX9_readsFigure_0 rfl ?_
  refine pw_aload_n C dX9_readsFigure_1 rfl ?_
  refine gv_9_122 C dX9_readsFigure_2 (fun r2 => ?_)
  refine pw_iload_n C dX9_readsFigure_5 rfl ?_
  refine pw_icmp_ge (tgt := 26) C dX9_readsFigure_6 rfl (by omega) (by omega) (fun c6 => ?_) (fun c6 => ?_)
  · refine pw_bipush C dX9_readsFigure_26 (by decide) ?_
    refine pw_w ?_
    refine pv_9_125 C (w32_R _) dX9_readsFigure_28 ?_
    refine pw_aload_n C dX9_readsFigure_31 rfl ?_
    refine gv_9_125 C dX9_readsFigure_32 (fun r32 => ?_)
    rw [vup_v]
    have r9 := w32_R (-9)
    have e99 : w32 (-9) = -9 := rfl
    have r8 := w32_R (V 37 0 (fr + V 0 0 10) - 48)
    have e10 : ∀ v, vup V 0 0 11 v 0 0 10 = V 0 0 10 := fun v => vup_j _ _ _ _ (by omega)
    refine pw_i2l C (by omega) dX9_readsFigure_35 ?_
    refine pw_iload_n C dX9_readsFigure_36 rfl ?_
    refine pw_i2l C (by omega) dX9_readsFigure_37 ?_
    refine pw_iload C dX9_readsFigure_38 rfl ?_
    refine pw_i2l C (by omega) dX9_readsFigure_40 ?_
    refine pw_cSI C [_, _, _] mi_X9_in ms_X9_in ml_9_87 (c_X9_in (by omega) (by omega) (by omega)) (by decide) rfl (Nat.le_of_ble_eq_true rfl) dX9_readsFigure_41 ?_
    refine pw_istore_5 C dX9_readsFigure_44 (k := ?_)
    refine pw_aload_n C dX9_readsFigure_46 rfl ?_
    refine pw_dup C dX9_readsFigure_47 rfl ?_
    refine gv_9_122 C dX9_readsFigure_48 (fun r48 => ?_)
    refine pw_iload C dX9_readsFigure_51 rfl ?_
    rw [e10]
    refine pw_if_eq_b (tgt := 60) C dX9_readsFigure_53 rfl (fun c53 => ?_) (fun c53 => ?_)
    · refine pw_iconst C dX9_readsFigure_60 ?_
      refine pw_iadd C dX9_readsFigure_61 ?_
      refine pv_9_122 C (by omega) dX9_readsFigure_62 ?_
      refine pw_iload C dX9_readsFigure_65 rfl ?_
      have hq : ∀ c, InR c → ((lo ≤ w32 (c - 48) ∧ w32 (c - 48) ≤ hi) ↔ (lo ≤ c - 48 ∧ c - 48 ≤ hi)) := fun c hc => w32_48 hc l0 h9
      first
        | (exfalso; omega)
        | (have h1 := (hq (V 37 0 (fr + V 0 0 10)) (by assumption)).mp (by assumption)
           exact pw_zret C R dX9_readsFigure_67 (b01_r _) ⟨_, rfl, b01_e ⟨fun _ => ⟨by omega, h1⟩, fun _ => by assumption⟩, _, rfl, ((RD1.rf V).up (by omega)).up (by omega), by rw [vup_v, b01_t (by assumption)], fun _ => by rw [vup_j _ _ _ _ (by omega), vup_v]; exact w32_i ⟨by omega, by omega⟩⟩)
        | (have h1 : ¬ (lo ≤ V 37 0 (fr + V 0 0 10) - 48 ∧ V 37 0 (fr + V 0 0 10) - 48 ≤ hi) := fun h => absurd ((hq (V 37 0 (fr + V 0 0 10)) (by assumption)).mpr h) (by assumption)
           exact pw_zret C R dX9_readsFigure_67 (b01_r _) ⟨_, rfl, b01_e ⟨fun h => absurd h (by assumption), fun h => absurd h.2 h1⟩, _, rfl, ((RD1.rf V).up (by omega)).up (by omega), by rw [vup_v, b01_f (by assumption)], fun h => by rw [b01_f (by assumption)] at h; omega⟩)
        | (have h1 : ¬ (lo ≤ w32 (-9) ∧ w32 (-9) ≤ hi) := by omega
           exact pw_zret C R dX9_readsFigure_67 (b01_r _) ⟨_, rfl, b01_e ⟨fun h => absurd h h1, fun h => by have := h.1; omega⟩, _, rfl, ((RD1.rf V).up (by omega)).up (by omega), by rw [vup_v, b01_f h1], fun h => by rw [b01_f h1] at h; omega⟩)
    · refine pw_iconst C dX9_readsFigure_56 ?_
      refine pw_goto (tgt := 61) C dX9_readsFigure_57 rfl ?_
      refine pw_iadd C dX9_readsFigure_61 ?_
      refine pv_9_122 C (by omega) dX9_readsFigure_62 ?_
      refine pw_iload C dX9_readsFigure_65 rfl ?_
      have hq : ∀ c, InR c → ((lo ≤ w32 (c - 48) ∧ w32 (c - 48) ≤ hi) ↔ (lo ≤ c - 48 ∧ c - 48 ≤ hi)) := fun c hc => w32_48 hc l0 h9
      first
        | (exfalso; omega)
        | (have h1 := (hq (V 37 0 (fr + V 0 0 10)) (by assumption)).mp (by assumption)
           exact pw_zret C R dX9_readsFigure_67 (b01_r _) ⟨_, rfl, b01_e ⟨fun _ => ⟨by omega, h1⟩, fun _ => by assumption⟩, _, rfl, ((RD1.rf V).up (by omega)).up (by omega), by rw [vup_v, b01_t (by assumption)], fun _ => by rw [vup_j _ _ _ _ (by omega), vup_v]; exact w32_i ⟨by omega, by omega⟩⟩)
        | (have h1 : ¬ (lo ≤ V 37 0 (fr + V 0 0 10) - 48 ∧ V 37 0 (fr + V 0 0 10) - 48 ≤ hi) := fun h => absurd ((hq (V 37 0 (fr + V 0 0 10)) (by assumption)).mpr h) (by assumption)
           exact pw_zret C R dX9_readsFigure_67 (b01_r _) ⟨_, rfl, b01_e ⟨fun h => absurd h (by assumption), fun h => absurd h.2 h1⟩, _, rfl, ((RD1.rf V).up (by omega)).up (by omega), by rw [vup_v, b01_f (by assumption)], fun h => by rw [b01_f (by assumption)] at h; omega⟩)
        | (have h1 : ¬ (lo ≤ w32 (-9) ∧ w32 (-9) ≤ hi) := by omega
           exact pw_zret C R dX9_readsFigure_67 (b01_r _) ⟨_, rfl, b01_e ⟨fun h => absurd h h1, fun h => by have := h.1; omega⟩, _, rfl, ((RD1.rf V).up (by omega)).up (by omega), by rw [vup_v, b01_f h1], fun h => by rw [b01_f h1] at h; omega⟩)
  · refine pw_aload_n C dX9_readsFigure_9 rfl ?_
    refine gf_9_79 C dX9_readsFigure_10 ?_
    refine pw_iload_n C dX9_readsFigure_13 rfl ?_
    refine pw_aload_n C dX9_readsFigure_14 rfl ?_
    refine gv_9_122 C dX9_readsFigure_15 (fun r15 => ?_)
    refine pw_iadd C dX9_readsFigure_18 ?_
    refine pw_ialdV C aM_37 (by omega) (by omega) (by decide) dX9_readsFigure_19 (fun r19 => ?_)
    refine pw_bipush C dX9_readsFigure_20 (by decide) ?_
    refine pw_isub C dX9_readsFigure_22 ?_
    refine pw_goto (tgt := 28) C dX9_readsFigure_23 rfl ?_
    refine pw_w ?_
    refine pv_9_125 C (w32_R _) dX9_readsFigure_28 ?_
    refine pw_aload_n C dX9_readsFigure_31 rfl ?_
    refine gv_9_125 C dX9_readsFigure_32 (fun r32 => ?_)
    rw [vup_v]
    have r9 := w32_R (-9)
    have e99 : w32 (-9) = -9 := rfl
    have r8 := w32_R (V 37 0 (fr + V 0 0 10) - 48)
    have e10 : ∀ v, vup V 0 0 11 v 0 0 10 = V 0 0 10 := fun v => vup_j _ _ _ _ (by omega)
    refine pw_i2l C (by omega) dX9_readsFigure_35 ?_
    refine pw_iload_n C dX9_readsFigure_36 rfl ?_
    refine pw_i2l C (by omega) dX9_readsFigure_37 ?_
    refine pw_iload C dX9_readsFigure_38 rfl ?_
    refine pw_i2l C (by omega) dX9_readsFigure_40 ?_
    refine pw_cSI C [_, _, _] mi_X9_in ms_X9_in ml_9_87 (c_X9_in (by omega) (by omega) (by omega)) (by decide) rfl (Nat.le_of_ble_eq_true rfl) dX9_readsFigure_41 ?_
    refine pw_istore_5 C dX9_readsFigure_44 (k := ?_)
    refine pw_aload_n C dX9_readsFigure_46 rfl ?_
    refine pw_dup C dX9_readsFigure_47 rfl ?_
    refine gv_9_122 C dX9_readsFigure_48 (fun r48 => ?_)
    refine pw_iload C dX9_readsFigure_51 rfl ?_
    rw [e10]
    refine pw_if_eq_b (tgt := 60) C dX9_readsFigure_53 rfl (fun c53 => ?_) (fun c53 => ?_)
    · refine pw_iconst C dX9_readsFigure_60 ?_
      refine pw_iadd C dX9_readsFigure_61 ?_
      refine pv_9_122 C (by omega) dX9_readsFigure_62 ?_
      refine pw_iload C dX9_readsFigure_65 rfl ?_
      have hq : ∀ c, InR c → ((lo ≤ w32 (c - 48) ∧ w32 (c - 48) ≤ hi) ↔ (lo ≤ c - 48 ∧ c - 48 ≤ hi)) := fun c hc => w32_48 hc l0 h9
      first
        | (exfalso; omega)
        | (have h1 := (hq (V 37 0 (fr + V 0 0 10)) (by assumption)).mp (by assumption)
           exact pw_zret C R dX9_readsFigure_67 (b01_r _) ⟨_, rfl, b01_e ⟨fun _ => ⟨by omega, h1⟩, fun _ => by assumption⟩, _, rfl, ((RD1.rf V).up (by omega)).up (by omega), by rw [vup_v, b01_t (by assumption)], fun _ => by rw [vup_j _ _ _ _ (by omega), vup_v]; exact w32_i ⟨by omega, by omega⟩⟩)
        | (have h1 : ¬ (lo ≤ V 37 0 (fr + V 0 0 10) - 48 ∧ V 37 0 (fr + V 0 0 10) - 48 ≤ hi) := fun h => absurd ((hq (V 37 0 (fr + V 0 0 10)) (by assumption)).mpr h) (by assumption)
           exact pw_zret C R dX9_readsFigure_67 (b01_r _) ⟨_, rfl, b01_e ⟨fun h => absurd h (by assumption), fun h => absurd h.2 h1⟩, _, rfl, ((RD1.rf V).up (by omega)).up (by omega), by rw [vup_v, b01_f (by assumption)], fun h => by rw [b01_f (by assumption)] at h; omega⟩)
        | (have h1 : ¬ (lo ≤ w32 (-9) ∧ w32 (-9) ≤ hi) := by omega
           exact pw_zret C R dX9_readsFigure_67 (b01_r _) ⟨_, rfl, b01_e ⟨fun h => absurd h h1, fun h => by have := h.1; omega⟩, _, rfl, ((RD1.rf V).up (by omega)).up (by omega), by rw [vup_v, b01_f h1], fun h => by rw [b01_f h1] at h; omega⟩)
    · refine pw_iconst C dX9_readsFigure_56 ?_
      refine pw_goto (tgt := 61) C dX9_readsFigure_57 rfl ?_
      refine pw_iadd C dX9_readsFigure_61 ?_
      refine pv_9_122 C (by omega) dX9_readsFigure_62 ?_
      refine pw_iload C dX9_readsFigure_65 rfl ?_
      have hq : ∀ c, InR c → ((lo ≤ w32 (c - 48) ∧ w32 (c - 48) ≤ hi) ↔ (lo ≤ c - 48 ∧ c - 48 ≤ hi)) := fun c hc => w32_48 hc l0 h9
      first
        | (exfalso; omega)
        | (have h1 := (hq (V 37 0 (fr + V 0 0 10)) (by assumption)).mp (by assumption)
           exact pw_zret C R dX9_readsFigure_67 (b01_r _) ⟨_, rfl, b01_e ⟨fun _ => ⟨by omega, h1⟩, fun _ => by assumption⟩, _, rfl, ((RD1.rf V).up (by omega)).up (by omega), by rw [vup_v, b01_t (by assumption)], fun _ => by rw [vup_j _ _ _ _ (by omega), vup_v]; exact w32_i ⟨by omega, by omega⟩⟩)
        | (have h1 : ¬ (lo ≤ V 37 0 (fr + V 0 0 10) - 48 ∧ V 37 0 (fr + V 0 0 10) - 48 ≤ hi) := fun h => absurd ((hq (V 37 0 (fr + V 0 0 10)) (by assumption)).mpr h) (by assumption)
           exact pw_zret C R dX9_readsFigure_67 (b01_r _) ⟨_, rfl, b01_e ⟨fun h => absurd h (by assumption), fun h => absurd h.2 h1⟩, _, rfl, ((RD1.rf V).up (by omega)).up (by omega), by rw [vup_v, b01_f (by assumption)], fun h => by rw [b01_f (by assumption)] at h; omega⟩)
        | (have h1 : ¬ (lo ≤ w32 (-9) ∧ w32 (-9) ≤ hi) := by omega
           exact pw_zret C R dX9_readsFigure_67 (b01_r _) ⟨_, rfl, b01_e ⟨fun h => absurd h h1, fun h => by have := h.1; omega⟩, _, rfl, ((RD1.rf V).up (by omega)).up (by omega), by rw [vup_v, b01_f h1], fun h => by rw [b01_f h1] at h; omega⟩)
