theorem gaM_e (V : DM) (x s : Int) {t : Int} (t0 : 0 ≤ t) (t1 : t < 8) : gaM V x s t = if 0 ≤ gain (mv V) x s t then gain (mv V) x s t else -9 := by
  have e : gain (mv V) x s t = if 0 < V 21 0 s then worth (mv V) x s t - V 8 0 (8 * s + t) else -1 := by
    unfold gain
    rw [mv_7 V s t0 t1]
    rfl
  unfold gaM
  rw [e]
  by_cases h : 0 < V 21 0 s
  · rw [if_pos h]
    by_cases h2 : 0 ≤ worth (mv V) x s t - V 8 0 (8 * s + t)
    · rw [if_pos ⟨h, h2⟩, if_pos h2]
    · rw [if_neg (fun q => h2 q.2), if_neg h2]
  · rw [if_neg h, if_neg (fun q => h q.1), if_neg (by omega)]
set_option maxRecDepth 100000 in
set_option maxHeartbeats 400000 in
theorem L_X9_wanted {X : PX} {S : SW} {M : Mem} {V : DM} {x t : Int}  (hI : DayOk (mv V)) (x0 : 0 ≤ x) (x1 : x < V 0 0 15) (t0 : 0 ≤ t) (t1 : t < V 0 0 1) (hx : InR x) (ht : InR t) (h1 : ¬ (V 17 0 x = 2 ∧ cheaper (mv V) (V 18 0 x) t)) (h2 : ¬ 0 ≤ gain (mv V) x (V 18 0 x) t) (C : Cx X S RX9 cX9_wanted 4 94) (R : CR X S (rI (choice (mv V) x t) (mst M 3 V)) (some .int)) :
    ∀ (n9 : Nat) (c g s : Int), (0 ≤ s) → (s ≤ V 0 0 2) → (V 17 0 x = 0 → s = 0) → (c = (pick (mv V) x t s).1) → ((g = -9 ∧ (pick (mv V) x t s).2 = -1) ∨ (g = (pick (mv V) x t s).2 ∧ 0 ≤ g)) → V 0 0 2 - s < n9 → PW X S (mst M 3 V) 52 [some (rv S 3 0 0), some (iv x), some (iv t), some (iv (V 18 0 x)), some (iv c), some (iv g), some (iv s), none] [] := by
  obtain ⟨i1, i2, i3, i4, i5, i6, i7, i8⟩ := id hI
  have e5 : mv V 1 0 5 = V 0 0 1 := rfl
  have e6 : mv V 1 0 6 = V 0 0 2 := rfl
  have e7 : mv V 1 0 7 = V 0 0 8 := rfl
  have e8 : mv V 1 0 8 = V 0 0 9 := rfl
  have e84 : mv V 8 0 4 = V 0 0 15 := rfl
  have ix : (0 ≤ V 17 0 x ∧ V 17 0 x ≤ 2) ∧ (0 ≤ V 18 0 x ∧ V 18 0 x < V 0 0 2) ∧ (0 ≤ V 19 0 x ∧ V 19 0 x ≤ 40) ∧ (0 ≤ V 20 0 x ∧ V 20 0 x < V 0 0 1) := i4 x x0 x1
  have ga : ∀ s, (0 ≤ gain (mv V) x s t ∧ gaM V x s t = gain (mv V) x s t) ∨ (gain (mv V) x s t < 0 ∧ gaM V x s t = -9) := fun s => by
    have h := gaM_e V x s t0 (show t < 8 by omega)
    by_cases q : 0 ≤ gain (mv V) x s t
    · rw [if_pos q] at h; exact Or.inl ⟨q, h⟩
    · rw [if_neg q] at h; exact Or.inr ⟨by omega, h⟩
  intro n9
  induction n9 with
  | zero => intro c g s s0 s1 hk0 hc hg hn9; omega
  | succ n9 ih =>
    intro c g s s0 s1 hk0 hc hg hn9
    refine pw_iload C dX9_wanted_52 rfl ?_
    refine pw_aload_n C dX9_wanted_54 rfl ?_
    refine gv_9_116 C dX9_wanted_55 (fun r55 => ?_)
    refine pw_icmp_ge (tgt := 122) C dX9_wanted_58 rfl (by omega) (by omega) (fun c58 => ?_) (fun c58 => ?_)
    · refine pw_iload C dX9_wanted_122 rfl ?_
      have hcc : c = choice (mv V) x t := by
        unfold choice
        rw [if_neg (show ¬ (mv V 9 0 x = 2 ∧ cheaper (mv V) (mv V 10 0 x) t) from h1), if_neg (show ¬ 0 ≤ gain (mv V) x (mv V 10 0 x) t from h2)]
        by_cases h0 : V 17 0 x = 0
        · rw [if_pos (show mv V 9 0 x = 0 from h0), hc, hk0 h0]; rfl
        · rw [if_neg (show ¬ mv V 9 0 x = 0 from h0), e6, show V 0 0 2 = s by omega]; exact hc
      exact pw_ireti C R dX9_wanted_124 hcc rfl
    · refine pw_aload_n C dX9_wanted_61 rfl ?_
      refine gf_9_28 C dX9_wanted_62 ?_
      refine pw_iload_n C dX9_wanted_65 rfl ?_
      refine pw_ialdV C aM_17 (by omega) (by omega) (by decide) dX9_wanted_66 (fun r66 => ?_)
      refine pw_if_le (tgt := 122) C dX9_wanted_67 rfl (by omega) (fun c67 => ?_) (fun c67 => ?_)
      · refine pw_iload C dX9_wanted_122 rfl ?_
        have hcc : c = choice (mv V) x t := by
          unfold choice
          rw [if_neg (show ¬ (mv V 9 0 x = 2 ∧ cheaper (mv V) (mv V 10 0 x) t) from h1), if_neg (show ¬ 0 ≤ gain (mv V) x (mv V 10 0 x) t from h2)]
          by_cases h0 : V 17 0 x = 0
          · rw [if_pos (show mv V 9 0 x = 0 from h0), hc, hk0 h0]; rfl
          · rw [if_neg (show ¬ mv V 9 0 x = 0 from h0), e6, show V 0 0 2 = s by omega]; exact hc
        exact pw_ireti C R dX9_wanted_124 hcc rfl
      · have hs := pick_s (mv V) x t s0
        have gs := ga s
        have h2s : s = V 18 0 x → gain (mv V) x s t < 0 := fun h => by rw [h]; omega
        have gr := gain_r hI x0 x1 s0 (show s < V 0 0 2 by omega) t0 t1
        have pr := (pick_r hI x0 x1 t0 t1 (show s ≤ V 0 0 2 by omega)).2
        refine pw_iload C dX9_wanted_70 rfl ?_
        refine pw_iload_n C dX9_wanted_72 rfl ?_
        refine pw_icmp_ne (tgt := 81) C dX9_wanted_73 rfl (by omega) (by omega) (fun c73 => ?_) (fun c73 => ?_)
        · refine pw_aload_n C dX9_wanted_81 rfl ?_
          refine pw_iload_n C dX9_wanted_82 rfl ?_
          refine pw_iload C dX9_wanted_83 rfl ?_
          refine pw_iload_n C dX9_wanted_85 rfl ?_
          refine pw_cVI C [_, _, _] mi_X9_gainOf mv_X9_gainOf ml_9_204 oM_0 rfl (c_X9_gainOf (by omega) (by omega) (by omega) (by assumption) (by omega) (by omega) (by omega) (by omega) (by omega) (by omega)) (by decide) rfl (Nat.le_of_ble_eq_true rfl) dX9_wanted_86 ?_
          refine pw_istore_7 C dX9_wanted_89 (k := ?_)
          refine pw_iload C dX9_wanted_91 rfl ?_
          refine pw_iload C dX9_wanted_93 rfl ?_
          refine pw_icmp_le (tgt := 103) C dX9_wanted_95 rfl (by omega) (by omega) (fun c95 => ?_) (fun c95 => ?_)
          · refine pw_iload C dX9_wanted_103 rfl ?_
            refine pw_istore_4 C dX9_wanted_105 (k := ?_)
            refine pw_iload C dX9_wanted_107 rfl ?_
            refine pw_iload C dX9_wanted_109 rfl ?_
            refine pw_cSI C [_, _] mi_X9_greater ms_X9_greater ml_9_166 (c_X9_greater (by omega) (by omega)) (by decide) rfl (Nat.le_of_ble_eq_true rfl) dX9_wanted_111 ?_
            refine pw_istore_5 C dX9_wanted_114 (k := ?_)
            refine pw_iinc_6 C dX9_wanted_116 (k := ?_)
            refine pw_goto (tgt := 52) C dX9_wanted_119 rfl ?_
            refine pw_fg 7 rfl (ih _ _ (s + 1) (by omega) (by omega) (fun h => by omega) (by
                rw [hs]
                by_cases q : (pick (mv V) x t s).2 < gain (mv V) x s t
                · first
                    | (rw [if_pos q]; done)
                    | (exfalso; omega)
                · rw [if_neg q]
                  first
                    | exact hc
                    | (exfalso; omega)) (by
                rw [hs]
                by_cases q : (pick (mv V) x t s).2 < gain (mv V) x s t
                · rw [if_pos q]
                  show (_ = -9 ∧ gain (mv V) x s t = -1) ∨ (_ = gain (mv V) x s t ∧ 0 ≤ _)
                  split <;> omega
                · rw [if_neg q]
                  split <;> omega) (by omega))
          · refine pw_iload C dX9_wanted_98 rfl ?_
            refine pw_goto (tgt := 105) C dX9_wanted_100 rfl ?_
            refine pw_istore_4 C dX9_wanted_105 (k := ?_)
            refine pw_iload C dX9_wanted_107 rfl ?_
            refine pw_iload C dX9_wanted_109 rfl ?_
            refine pw_cSI C [_, _] mi_X9_greater ms_X9_greater ml_9_166 (c_X9_greater (by omega) (by omega)) (by decide) rfl (Nat.le_of_ble_eq_true rfl) dX9_wanted_111 ?_
            refine pw_istore_5 C dX9_wanted_114 (k := ?_)
            refine pw_iinc_6 C dX9_wanted_116 (k := ?_)
            refine pw_goto (tgt := 52) C dX9_wanted_119 rfl ?_
            refine pw_fg 7 rfl (ih _ _ (s + 1) (by omega) (by omega) (fun h => by omega) (by
                rw [hs]
                by_cases q : (pick (mv V) x t s).2 < gain (mv V) x s t
                · first
                    | (rw [if_pos q]; done)
                    | (exfalso; omega)
                · rw [if_neg q]
                  first
                    | exact hc
                    | (exfalso; omega)) (by
                rw [hs]
                by_cases q : (pick (mv V) x t s).2 < gain (mv V) x s t
                · rw [if_pos q]
                  show (_ = -9 ∧ gain (mv V) x s t = -1) ∨ (_ = gain (mv V) x s t ∧ 0 ≤ _)
                  split <;> omega
                · rw [if_neg q]
                  split <;> omega) (by omega))
        · refine pw_bipush C dX9_wanted_76 (by decide) ?_
          refine pw_goto (tgt := 89) C dX9_wanted_78 rfl ?_
          refine pw_istore_7 C dX9_wanted_89 (k := ?_)
          refine pw_iload C dX9_wanted_91 rfl ?_
          refine pw_iload C dX9_wanted_93 rfl ?_
          refine pw_icmp_le (tgt := 103) C dX9_wanted_95 rfl (by omega) (by omega) (fun c95 => ?_) (fun c95 => ?_)
          · refine pw_iload C dX9_wanted_103 rfl ?_
            refine pw_istore_4 C dX9_wanted_105 (k := ?_)
            refine pw_iload C dX9_wanted_107 rfl ?_
            refine pw_iload C dX9_wanted_109 rfl ?_
            refine pw_cSI C [_, _] mi_X9_greater ms_X9_greater ml_9_166 (c_X9_greater (by omega) (by omega)) (by decide) rfl (Nat.le_of_ble_eq_true rfl) dX9_wanted_111 ?_
            refine pw_istore_5 C dX9_wanted_114 (k := ?_)
            refine pw_iinc_6 C dX9_wanted_116 (k := ?_)
            refine pw_goto (tgt := 52) C dX9_wanted_119 rfl ?_
            refine pw_fg 7 rfl (ih _ _ (s + 1) (by omega) (by omega) (fun h => by omega) (by
                rw [hs]
                by_cases q : (pick (mv V) x t s).2 < gain (mv V) x s t
                · first
                    | (rw [if_pos q]; done)
                    | (exfalso; omega)
                · rw [if_neg q]
                  first
                    | exact hc
                    | (exfalso; omega)) (by
                rw [hs]
                by_cases q : (pick (mv V) x t s).2 < gain (mv V) x s t
                · rw [if_pos q]
                  show (_ = -9 ∧ gain (mv V) x s t = -1) ∨ (_ = gain (mv V) x s t ∧ 0 ≤ _)
                  split <;> omega
                · rw [if_neg q]
                  split <;> omega) (by omega))
          · refine pw_iload C dX9_wanted_98 rfl ?_
            refine pw_goto (tgt := 105) C dX9_wanted_100 rfl ?_
            refine pw_istore_4 C dX9_wanted_105 (k := ?_)
            refine pw_iload C dX9_wanted_107 rfl ?_
            refine pw_iload C dX9_wanted_109 rfl ?_
            refine pw_cSI C [_, _] mi_X9_greater ms_X9_greater ml_9_166 (c_X9_greater (by omega) (by omega)) (by decide) rfl (Nat.le_of_ble_eq_true rfl) dX9_wanted_111 ?_
            refine pw_istore_5 C dX9_wanted_114 (k := ?_)
            refine pw_iinc_6 C dX9_wanted_116 (k := ?_)
            refine pw_goto (tgt := 52) C dX9_wanted_119 rfl ?_
            refine pw_fg 7 rfl (ih _ _ (s + 1) (by omega) (by omega) (fun h => by omega) (by
                rw [hs]
                by_cases q : (pick (mv V) x t s).2 < gain (mv V) x s t
                · first
                    | (rw [if_pos q]; done)
                    | (exfalso; omega)
                · rw [if_neg q]
                  first
                    | exact hc
                    | (exfalso; omega)) (by
                rw [hs]
                by_cases q : (pick (mv V) x t s).2 < gain (mv V) x s t
                · rw [if_pos q]
                  show (_ = -9 ∧ gain (mv V) x s t = -1) ∨ (_ = gain (mv V) x s t ∧ 0 ≤ _)
                  split <;> omega
                · rw [if_neg q]
                  split <;> omega) (by omega))
set_option maxRecDepth 100000 in
set_option maxHeartbeats 400000 in
theorem c_X9_wanted {l : Launch} {S : SW} {M : Mem} {V : DM} {x t : Int}  (hx : InR x) (ht : InR t) (hI : DayOk (mv V)) (x0 : 0 ≤ x) (x1 : x < V 0 0 15) (t0 : 0 ≤ t) (t1 : t < V 0 0 1) : PM l S yX9_wanted cX9_wanted 8 (some .int) 4 94 [rv S 3 0 0, iv x, iv t] (mst M 3 V) (rI (choice (mv V) x t) (mst M 3 V)) := by
  refine PM.of (own := RX9) (by decide) rfl [some (rv S 3 0 0), some (iv x), some (iv t), none, none, none, none, none] rfl rfl (Nat.le_of_ble_eq_true rfl) (fun X hXl C R => ?_)
  subst hXl
  obtain ⟨i1, i2, i3, i4, i5, i6, i7, i8⟩ := id hI
  have e5 : mv V 1 0 5 = V 0 0 1 := rfl
  have e6 : mv V 1 0 6 = V 0 0 2 := rfl
  have e7 : mv V 1 0 7 = V 0 0 8 := rfl
  have e8 : mv V 1 0 8 = V 0 0 9 := rfl
  have e84 : mv V 8 0 4 = V 0 0 15 := rfl
  have ix : (0 ≤ V 17 0 x ∧ V 17 0 x ≤ 2) ∧ (0 ≤ V 18 0 x ∧ V 18 0 x < V 0 0 2) ∧ (0 ≤ V 19 0 x ∧ V 19 0 x ≤ 40) ∧ (0 ≤ V 20 0 x ∧ V 20 0 x < V 0 0 1) := i4 x x0 x1
  have ga : ∀ s, (0 ≤ gain (mv V) x s t ∧ gaM V x s t = gain (mv V) x s t) ∨ (gain (mv V) x s t < 0 ∧ gaM V x s t = -9) := fun s => by
    have h := gaM_e V x s t0 (show t < 8 by omega)
    by_cases q : 0 ≤ gain (mv V) x s t
    · rw [if_pos q] at h; exact Or.inl ⟨q, h⟩
    · rw [if_neg q] at h; exact Or.inr ⟨by omega, h⟩
  have gr := gain_r hI x0 x1 ix.2.1.1 ix.2.1.2 t0 t1
  have gs := ga (V 18 0 x)
  refine pw_aload_n C dX9_wanted_0 rfl ?_
  refine gf_9_31 C dX9_wanted_1 ?_
  refine pw_iload_n C dX9_wanted_4 rfl ?_
  refine pw_ialdV C aM_18 (by omega) (by omega) (by decide) dX9_wanted_5 (fun r5 => ?_)
  refine pw_istore_3 C dX9_wanted_6 (k := ?_)
  refine pw_aload_n C dX9_wanted_7 rfl ?_
  refine gf_9_28 C dX9_wanted_8 ?_
  refine pw_iload_n C dX9_wanted_11 rfl ?_
  refine pw_ialdV C aM_17 (by omega) (by omega) (by decide) dX9_wanted_12 (fun r12 => ?_)
  refine pw_iconst C dX9_wanted_13 ?_
  refine pw_icmp_ne (tgt := 29) C dX9_wanted_14 rfl (by omega) (by omega) (fun c14 => ?_) (fun c14 => ?_)
  · refine pw_aload_n C dX9_wanted_29 rfl ?_
    refine pw_iload_n C dX9_wanted_30 rfl ?_
    refine pw_iload_n C dX9_wanted_31 rfl ?_
    refine pw_iload_n C dX9_wanted_32 rfl ?_
    refine pw_cVI C [_, _, _] mi_X9_gainOf mv_X9_gainOf ml_9_204 oM_0 rfl (c_X9_gainOf (by omega) (by omega) (by omega) (by assumption) (by omega) (by omega) (by omega) (by omega) (by omega) (by omega)) (by decide) rfl (Nat.le_of_ble_eq_true rfl) dX9_wanted_33 ?_
    refine pw_if_lt (tgt := 41) C dX9_wanted_36 rfl (by omega) (fun c36 => ?_) (fun c36 => ?_)
    · refine pw_bipush C dX9_wanted_41 (by decide) ?_
      refine pw_istore_4 C dX9_wanted_43 (k := ?_)
      refine pw_bipush C dX9_wanted_45 (by decide) ?_
      refine pw_istore_5 C dX9_wanted_47 (k := ?_)
      refine pw_iconst C dX9_wanted_49 ?_
      refine pw_istore_6 C dX9_wanted_50 (k := ?_)
      exact L_X9_wanted hI x0 x1 t0 t1 hx ht (by first | exact fun h => absurd h.1 (by omega) | exact fun h => absurd h.2 (by assumption)) (by omega) C R (V 0 0 2 + 1).toNat (-9) (-9) 0 (by omega) (by omega) (fun _ => rfl) rfl (Or.inl ⟨rfl, rfl⟩) (by omega)
    · refine pw_iload_n C dX9_wanted_39 rfl ?_
      have h1 : ¬ (V 17 0 x = 2 ∧ cheaper (mv V) (V 18 0 x) t) := by first | exact fun h => absurd h.1 (by omega) | exact fun h => absurd h.2 (by assumption)
      have h2 : 0 ≤ gain (mv V) x (V 18 0 x) t := by omega
      have hcc : V 18 0 x = choice (mv V) x t := by
        unfold choice
        rw [if_neg (show ¬ (mv V 9 0 x = 2 ∧ cheaper (mv V) (mv V 10 0 x) t) from h1), if_pos (show 0 ≤ gain (mv V) x (mv V 10 0 x) t from h2)]
        rfl
      exact pw_ireti C R dX9_wanted_40 hcc rfl
  · refine pw_aload_n C dX9_wanted_17 rfl ?_
    refine pw_iload_n C dX9_wanted_18 rfl ?_
    refine pw_iload_n C dX9_wanted_19 rfl ?_
    refine pw_cVI C [_, _] mi_X9_isCheaperNext mv_X9_isCheaperNext ml_9_201 oM_0 rfl (c_X9_isCheaperNext (by omega) (by omega) (by assumption) (by omega) (by omega) (by omega) (by omega)) (by decide) rfl (Nat.le_of_ble_eq_true rfl) dX9_wanted_20 ?_
    refine pw_if_eq_b (tgt := 29) C dX9_wanted_23 rfl (fun c23 => ?_) (fun c23 => ?_)
    · refine pw_aload_n C dX9_wanted_29 rfl ?_
      refine pw_iload_n C dX9_wanted_30 rfl ?_
      refine pw_iload_n C dX9_wanted_31 rfl ?_
      refine pw_iload_n C dX9_wanted_32 rfl ?_
      refine pw_cVI C [_, _, _] mi_X9_gainOf mv_X9_gainOf ml_9_204 oM_0 rfl (c_X9_gainOf (by omega) (by omega) (by omega) (by assumption) (by omega) (by omega) (by omega) (by omega) (by omega) (by omega)) (by decide) rfl (Nat.le_of_ble_eq_true rfl) dX9_wanted_33 ?_
      refine pw_if_lt (tgt := 41) C dX9_wanted_36 rfl (by omega) (fun c36 => ?_) (fun c36 => ?_)
      · refine pw_bipush C dX9_wanted_41 (by decide) ?_
        refine pw_istore_4 C dX9_wanted_43 (k := ?_)
        refine pw_bipush C dX9_wanted_45 (by decide) ?_
        refine pw_istore_5 C dX9_wanted_47 (k := ?_)
        refine pw_iconst C dX9_wanted_49 ?_
        refine pw_istore_6 C dX9_wanted_50 (k := ?_)
        exact L_X9_wanted hI x0 x1 t0 t1 hx ht (by first | exact fun h => absurd h.1 (by omega) | exact fun h => absurd h.2 (by assumption)) (by omega) C R (V 0 0 2 + 1).toNat (-9) (-9) 0 (by omega) (by omega) (fun _ => rfl) rfl (Or.inl ⟨rfl, rfl⟩) (by omega)
      · refine pw_iload_n C dX9_wanted_39 rfl ?_
        have h1 : ¬ (V 17 0 x = 2 ∧ cheaper (mv V) (V 18 0 x) t) := by first | exact fun h => absurd h.1 (by omega) | exact fun h => absurd h.2 (by assumption)
        have h2 : 0 ≤ gain (mv V) x (V 18 0 x) t := by omega
        have hcc : V 18 0 x = choice (mv V) x t := by
          unfold choice
          rw [if_neg (show ¬ (mv V 9 0 x = 2 ∧ cheaper (mv V) (mv V 10 0 x) t) from h1), if_pos (show 0 ≤ gain (mv V) x (mv V 10 0 x) t from h2)]
          rfl
        exact pw_ireti C R dX9_wanted_40 hcc rfl
    · refine pw_bipush C dX9_wanted_26 (by decide) ?_
      exact pw_ireti C R dX9_wanted_28 (by unfold choice; rw [if_pos (show mv V 9 0 x = 2 ∧ cheaper (mv V) (mv V 10 0 x) t from ⟨by assumption, by assumption⟩)]) rfl
