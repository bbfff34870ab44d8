theorem msu_36 (U : DM) (j v : Int) : ms (vup U 36 0 j v) = vup (ms U) 8 0 j v := by
  funext k r i
  match k with
  | 0 => rfl
  | 1 => rfl
  | 2 => rfl
  | 3 => rfl
  | 4 => rfl
  | 5 => rfl
  | 6 => rfl
  | 7 => rfl
  | 8 =>
    show vup U 36 0 j v 36 r i = _
    by_cases e : r = 0 ∧ i = j
    · obtain ⟨rfl, rfl⟩ := e; rw [vup_v, vup_v]
    · rw [vup_n _ (fun h => e h.2), vup_n _ (fun h => e h.2)]; rfl
  | 9 => rfl
  | n + 10 => rfl
theorem msu_35 (U : DM) (j v : Int) : ms (vup U 35 0 j v) = vup (ms U) 9 0 j v := by
  funext k r i
  match k with
  | 0 => rfl
  | 1 => rfl
  | 2 => rfl
  | 3 => rfl
  | 4 => rfl
  | 5 => rfl
  | 6 => rfl
  | 7 => rfl
  | 8 => rfl
  | 9 =>
    show vup U 35 0 j v 35 r i = _
    by_cases e : r = 0 ∧ i = j
    · obtain ⟨rfl, rfl⟩ := e; rw [vup_v, vup_v]
    · rw [vup_n _ (fun h => e h.2), vup_n _ (fun h => e h.2)]; rfl
  | n + 10 => rfl
theorem msf_38 (U : DM) (v : Int) : ms (vup U 0 0 38 v) = vup (ms U) 0 0 5 v := by
  funext k r i
  match k with
  | 0 =>
    by_cases e : r = 0 ∧ i = 5
    · obtain ⟨rfl, rfl⟩ := e; rw [vup_v]; rfl
    · rw [vup_n _ (fun h => e h.2)]
      show (if r = 0 ∧ i = 5 then v else if r = 0 ∧ i = 6 then U 0 0 0 else 0) = if r = 0 ∧ i = 5 then U 0 0 38 else if r = 0 ∧ i = 6 then U 0 0 0 else 0
      simp only [if_neg e]
  | 1 => rfl
  | 2 => rfl
  | 3 => rfl
  | 4 => rfl
  | 5 => rfl
  | 6 => rfl
  | 7 => rfl
  | 8 => rfl
  | 9 => rfl
  | n + 10 => rfl
theorem msf_0 (U : DM) (v : Int) : ms (vup U 0 0 0 v) = vup (ms U) 0 0 6 v := by
  funext k r i
  match k with
  | 0 =>
    by_cases e : r = 0 ∧ i = 6
    · obtain ⟨rfl, rfl⟩ := e; rw [vup_v]; rfl
    · rw [vup_n _ (fun h => e h.2)]
      show (if r = 0 ∧ i = 5 then U 0 0 38 else if r = 0 ∧ i = 6 then v else 0) = if r = 0 ∧ i = 5 then U 0 0 38 else if r = 0 ∧ i = 6 then U 0 0 0 else 0
      simp only [if_neg e]
  | 1 => rfl
  | 2 => rfl
  | 3 => rfl
  | 4 => rfl
  | 5 => rfl
  | 6 => rfl
  | 7 => rfl
  | 8 => rfl
  | 9 => rfl
  | n + 10 => rfl
theorem msu_37 (U : DM) {s t : Int} (v : Int) (t0 : 0 ≤ t) (t1 : t < 60) : ms (vup U 37 0 (60 * s + t) v) = vup (ms U) 7 s t v := by
  funext k r i
  match k with
  | 0 => rfl
  | 1 => rfl
  | 2 => rfl
  | 3 => rfl
  | 4 => rfl
  | 5 => rfl
  | 6 => rfl
  | 7 =>
    show (if 0 ≤ i ∧ i < 60 then vup U 37 0 (60 * s + t) v 37 0 (60 * r + i) else 0) = _
    by_cases e : r = s ∧ i = t
    · obtain ⟨rfl, rfl⟩ := e; rw [vup_v, vup_v, if_pos ⟨t0, t1⟩]
    · rw [vup_n (ms U) (fun h => e h.2)]
      show _ = if 0 ≤ i ∧ i < 60 then U 37 0 (60 * r + i) else 0
      split
      · rw [vup_n _ (by omega)]
      · rfl
  | 8 => rfl
  | 9 => rfl
  | n + 10 => rfl
theorem P3.msE {V U : DM} (h : P3 V U) : ms U = ms V := by
  funext k r i
  unfold ms
  split
  · rw [h 0 0 38 (by omega), h 0 0 0 (by omega)]
  · rw [h 37 0 _ (by omega)]
  · rw [h 36 r i (by omega)]
  · rw [h 35 r i (by omega)]
  · rfl
def rR (v : Value) (M : Mem) (W Z : DM) : Option Value → Mem → Prop := fun o N => o = some v ∧ ∃ U, N = mst M 3 U ∧ EQ 0 0 W (mv U) ∧ ms U = Z
set_option maxRecDepth 100000 in
set_option maxHeartbeats 400000 in
theorem c_X9_noSheet {l : Launch} {S : SW} {M : Mem} {k : Int}  (hk : InR k)  : PM l S yX9_noSheet cX9_noSheet 1 (some .boolean) 1 25 [iv k] (M) (rI (b01 (¬ (0 ≤ k ∧ k < 4))) M) := by
  refine PM.of (own := RX9) (by decide) rfl [some (iv k)] rfl rfl (Nat.le_of_ble_eq_true rfl) (fun X hXl C R => ?_)
  subst hXl
  refine pw_iload_n C dX9_noSheet_0 rfl ?_
  refine pw_i2l C (by omega) dX9_noSheet_1 ?_
  refine pw_lconst0 C dX9_noSheet_2 ?_
  refine pw_ldc2 C (n := 3) (inT4 114 rfl rfl) (by decide) dX9_noSheet_3 ?_
  refine pw_cSI C [_, _, _] mi_X9_in ms_X9_in ml_9_87 (c_X9_in (by omega) (by omega) (by omega)) (by decide) rfl (Nat.le_of_ble_eq_true rfl) dX9_noSheet_6 ?_
  refine pw_if_ne_b (tgt := 16) C dX9_noSheet_9 rfl (fun c9 => ?_) (fun c9 => ?_)
  · refine pw_iconst C dX9_noSheet_16 ?_
    exact pw_zret0 C R dX9_noSheet_17 (by omega) rfl
  · refine pw_iconst C dX9_noSheet_12 ?_
    refine pw_goto (tgt := 17) C dX9_noSheet_13 rfl ?_
    exact pw_zret1 C R dX9_noSheet_17 (by omega) rfl
set_option maxRecDepth 100000 in
set_option maxHeartbeats 400000 in
theorem c_X9_isBeyond {l : Launch} {S : SW} {M : Mem} {i n z : Int}  (hi : InR i) (hn : InL n) (hz : InR z) (n1 : -4294967296 ≤ n ∧ n ≤ 4294967296) : PM l S yX9_isBeyond cX9_isBeyond 4 (some .boolean) 0 0 [iv i, jv n, iv z] (M) (rI (b01 (i < 0 ∨ n < 0 ∨ z < i + n)) M) := by
  refine PM.of (own := RX9) (by decide) rfl [some (iv i), some (jv n), none, some (iv z)] rfl rfl (Nat.le_of_ble_eq_true rfl) (fun X hXl C R => ?_)
  subst hXl
  refine pw_iload_n C dX9_isBeyond_0 rfl ?_
  refine pw_if_lt (tgt := 20) C dX9_isBeyond_1 rfl (by omega) (fun c1 => ?_) (fun c1 => ?_)
  · refine pw_iconst C dX9_isBeyond_20 ?_
    refine pw_goto (tgt := 25) C dX9_isBeyond_21 rfl ?_
    exact pw_zret1 C R dX9_isBeyond_25 (by omega) rfl
  · refine pw_lload_n C dX9_isBeyond_4 rfl ?_
    refine pw_lconst0 C dX9_isBeyond_5 ?_
    refine pw_lcmp C (by omega) (by omega) dX9_isBeyond_6 ?_
    refine pw_lif_lt (tgt := 20) C dX9_isBeyond_7 rfl (fun c7 => ?_) (fun c7 => ?_)
    · refine pw_iconst C dX9_isBeyond_20 ?_
      refine pw_goto (tgt := 25) C dX9_isBeyond_21 rfl ?_
      exact pw_zret1 C R dX9_isBeyond_25 (by omega) rfl
    · refine pw_iload_n C dX9_isBeyond_10 rfl ?_
      refine pw_i2l C (by omega) dX9_isBeyond_11 ?_
      refine pw_lload_n C dX9_isBeyond_12 rfl ?_
      refine pw_ladd C dX9_isBeyond_13 ?_
      refine pw_iload_n C dX9_isBeyond_14 rfl ?_
      refine pw_i2l C (by omega) dX9_isBeyond_15 ?_
      refine pw_lcmp C (by omega) (by omega) dX9_isBeyond_16 ?_
      refine pw_lif_le (tgt := 24) C dX9_isBeyond_17 rfl (fun c17 => ?_) (fun c17 => ?_)
      · refine pw_iconst C dX9_isBeyond_24 ?_
        exact pw_zret0 C R dX9_isBeyond_25 (by omega) rfl
      · refine pw_iconst C dX9_isBeyond_20 ?_
        refine pw_goto (tgt := 25) C dX9_isBeyond_21 rfl ?_
        exact pw_zret1 C R dX9_isBeyond_25 (by omega) rfl
noncomputable def bar (V : DM) (k ln i n : Int) : DM := vif (look (ms V) k ln i n = 0) V (vup V 0 0 0 (lookF (look (ms V) k ln i n)))
set_option maxRecDepth 100000 in
set_option maxHeartbeats 400000 in
theorem c_X9_barred {l : Launch} {S : SW} {M : Mem} {V : DM} {k ln i n : Int}  (hk : InR k) (hln : InR ln) (hi : InR i) (hn : InL n) (hS : ShOk (ms V)) (n1 : -4294967296 ≤ n ∧ n ≤ 4294967296) : PM l S yX9_barred cX9_barred 6 (some .int) 2 45 [rv S 3 0 0, iv k, iv ln, iv i, jv n] (mst M 3 V) (rI (look (ms V) k ln i n) (mst M 3 (bar V k ln i n))) := by
  refine PM.of (own := RX9) (by decide) rfl [some (rv S 3 0 0), some (iv k), some (iv ln), some (iv i), some (jv n), none] rfl rfl (Nat.le_of_ble_eq_true rfl) (fun X hXl C R => ?_)
  subst hXl
  refine pw_iload_n C dX9_barred_0 rfl ?_
  refine pw_cSI C [_] mi_X9_noSheet ms_X9_noSheet ml_9_99 (c_X9_noSheet (by omega)) (by decide) rfl (Nat.le_of_ble_eq_true rfl) dX9_barred_1 ?_
  refine pw_if_eq_b (tgt := 13) C dX9_barred_4 rfl (fun c4 => ?_) (fun c4 => ?_)
  · refine pw_iload_n C dX9_barred_13 rfl ?_
    refine pw_i2l C (by omega) dX9_barred_14 ?_
    refine pw_lconst0 C dX9_barred_15 ?_
    refine pw_ldc2 C (n := 2) (inT4 122 rfl rfl) (by decide) dX9_barred_16 ?_
    refine pw_cSI C [_, _, _] mi_X9_in ms_X9_in ml_9_87 (c_X9_in (by omega) (by omega) (by omega)) (by decide) rfl (Nat.le_of_ble_eq_true rfl) dX9_barred_19 ?_
    refine pw_if_ne_b (tgt := 32) C dX9_barred_22 rfl (fun c22 => ?_) (fun c22 => ?_)
    · have hk : -1 ≤ V 35 0 k ∧ V 35 0 k ≤ 60 := hS k (by omega) (by omega)
      have e9 : ms V 9 0 k = V 35 0 k := rfl
      have e8 : ms V 8 0 k = V 36 0 k := rfl
      refine pw_aload_n C dX9_barred_32 rfl ?_
      refine gf_9_73 C dX9_barred_33 ?_
      refine pw_iload_n C dX9_barred_36 rfl ?_
      refine pw_ialdV C aM_35 (by omega) (by omega) (by decide) dX9_barred_37 (fun r37 => ?_)
      refine pw_if_lt (tgt := 57) C dX9_barred_38 rfl (by omega) (fun c38 => ?_) (fun c38 => ?_)
      · refine pw_aload_n C dX9_barred_57 rfl ?_
        refine gf_9_73 C dX9_barred_58 ?_
        refine pw_iload_n C dX9_barred_61 rfl ?_
        refine pw_ialdV C aM_35 (by omega) (by omega) (by decide) dX9_barred_62 (fun r62 => ?_)
        refine pw_if_ge (tgt := 72) C dX9_barred_63 rfl (by omega) (fun c63 => ?_) (fun c63 => ?_)
        · refine pw_lload C dX9_barred_72 rfl ?_
          refine pw_lconst0 C dX9_barred_74 ?_
          refine pw_lcmp C (by omega) (by omega) dX9_barred_75 ?_
          refine pw_lif_ge (tgt := 85) C dX9_barred_76 rfl (fun c76 => ?_) (fun c76 => ?_)
          · refine pw_iload_n C dX9_barred_85 rfl ?_
            refine pw_lload C dX9_barred_86 rfl ?_
            refine pw_aload_n C dX9_barred_88 rfl ?_
            refine gf_9_73 C dX9_barred_89 ?_
            refine pw_iload_n C dX9_barred_92 rfl ?_
            refine pw_ialdV C aM_35 (by omega) (by omega) (by decide) dX9_barred_93 (fun r93 => ?_)
            refine pw_cSI C [_, _, _] mi_X9_isBeyond ms_X9_isBeyond ml_9_112 (c_X9_isBeyond (by omega) (by omega) (by omega) (by omega)) (by decide) rfl (Nat.le_of_ble_eq_true rfl) dX9_barred_94 ?_
            refine pw_if_eq_b (tgt := 108) C dX9_barred_97 rfl (fun c97 => ?_) (fun c97 => ?_)
            · refine pw_iconst C dX9_barred_108 ?_
              first
                | (have e : 0 = look (ms V) k ln i n := by unfold look; repeat' split; all_goals omega
                   exact pw_ireti C R dX9_barred_109 e (by unfold bar; rw [← e, vif_t rfl] <;> rfl))
                | (have e : -10 - 3 = look (ms V) k ln i n := by unfold look; repeat' split; all_goals omega
                   exact pw_ireti C R dX9_barred_109 e (by unfold bar; rw [← e, vif_f (by decide)] <;> rfl))
            · refine pw_aload_n C dX9_barred_100 rfl ?_
              refine pw_iconst C dX9_barred_101 ?_
              refine pw_cVI C [_] mi_X9_failed mv_X9_failed ml_9_109 oM_0 rfl (c_X9_failed (by omega)) (by decide) rfl (Nat.le_of_ble_eq_true rfl) dX9_barred_102 ?_
              refine pw_goto (tgt := 109) C dX9_barred_105 rfl ?_
              first
                | (have e : 0 = look (ms V) k ln i n := by unfold look; repeat' split; all_goals omega
                   exact pw_ireti C R dX9_barred_109 e (by unfold bar; rw [← e, vif_t rfl] <;> rfl))
                | (have e : -10 - 3 = look (ms V) k ln i n := by unfold look; repeat' split; all_goals omega
                   exact pw_ireti C R dX9_barred_109 e (by unfold bar; rw [← e, vif_f (by decide)] <;> rfl))
          · refine pw_aload_n C dX9_barred_79 rfl ?_
            refine pw_iconst C dX9_barred_80 ?_
            refine pw_cVI C [_] mi_X9_failed mv_X9_failed ml_9_109 oM_0 rfl (c_X9_failed (by omega)) (by decide) rfl (Nat.le_of_ble_eq_true rfl) dX9_barred_81 ?_
            first
              | (have e : -10 - 4 = look (ms V) k ln i n := by unfold look; repeat' split; all_goals omega
                 exact pw_ireti C R dX9_barred_84 e (by unfold bar; rw [← e, vif_f (by decide)] <;> rfl))
        · refine pw_aload_n C dX9_barred_66 rfl ?_
          refine pw_iconst C dX9_barred_67 ?_
          refine pw_cVI C [_] mi_X9_failed mv_X9_failed ml_9_109 oM_0 rfl (c_X9_failed (by omega)) (by decide) rfl (Nat.le_of_ble_eq_true rfl) dX9_barred_68 ?_
          first
            | (have e : -10 - 1 = look (ms V) k ln i n := by unfold look; repeat' split; all_goals omega
               exact pw_ireti C R dX9_barred_71 e (by unfold bar; rw [← e, vif_f (by decide)] <;> rfl))
      · refine pw_aload_n C dX9_barred_41 rfl ?_
        refine gf_9_76 C dX9_barred_42 ?_
        refine pw_iload_n C dX9_barred_45 rfl ?_
        refine pw_ialdV C aM_36 (by omega) (by omega) (by decide) dX9_barred_46 (fun r46 => ?_)
        refine pw_iload_n C dX9_barred_47 rfl ?_
        refine pw_icmp_eq (tgt := 57) C dX9_barred_48 rfl (by omega) (by omega) (fun c48 => ?_) (fun c48 => ?_)
        · refine pw_aload_n C dX9_barred_57 rfl ?_
          refine gf_9_73 C dX9_barred_58 ?_
          refine pw_iload_n C dX9_barred_61 rfl ?_
          refine pw_ialdV C aM_35 (by omega) (by omega) (by decide) dX9_barred_62 (fun r62 => ?_)
          refine pw_if_ge (tgt := 72) C dX9_barred_63 rfl (by omega) (fun c63 => ?_) (fun c63 => ?_)
          · refine pw_lload C dX9_barred_72 rfl ?_
            refine pw_lconst0 C dX9_barred_74 ?_
            refine pw_lcmp C (by omega) (by omega) dX9_barred_75 ?_
            refine pw_lif_ge (tgt := 85) C dX9_barred_76 rfl (fun c76 => ?_) (fun c76 => ?_)
            · refine pw_iload_n C dX9_barred_85 rfl ?_
              refine pw_lload C dX9_barred_86 rfl ?_
              refine pw_aload_n C dX9_barred_88 rfl ?_
              refine gf_9_73 C dX9_barred_89 ?_
              refine pw_iload_n C dX9_barred_92 rfl ?_
              refine pw_ialdV C aM_35 (by omega) (by omega) (by decide) dX9_barred_93 (fun r93 => ?_)
              refine pw_cSI C [_, _, _] mi_X9_isBeyond ms_X9_isBeyond ml_9_112 (c_X9_isBeyond (by omega) (by omega) (by omega) (by omega)) (by decide) rfl (Nat.le_of_ble_eq_true rfl) dX9_barred_94 ?_
              refine pw_if_eq_b (tgt := 108) C dX9_barred_97 rfl (fun c97 => ?_) (fun c97 => ?_)
              · refine pw_iconst C dX9_barred_108 ?_
                first
                  | (have e : 0 = look (ms V) k ln i n := by unfold look; repeat' split; all_goals omega
                     exact pw_ireti C R dX9_barred_109 e (by unfold bar; rw [← e, vif_t rfl] <;> rfl))
                  | (have e : -10 - 3 = look (ms V) k ln i n := by unfold look; repeat' split; all_goals omega
                     exact pw_ireti C R dX9_barred_109 e (by unfold bar; rw [← e, vif_f (by decide)] <;> rfl))
              · refine pw_aload_n C dX9_barred_100 rfl ?_
                refine pw_iconst C dX9_barred_101 ?_
                refine pw_cVI C [_] mi_X9_failed mv_X9_failed ml_9_109 oM_0 rfl (c_X9_failed (by omega)) (by decide) rfl (Nat.le_of_ble_eq_true rfl) dX9_barred_102 ?_
                refine pw_goto (tgt := 109) C dX9_barred_105 rfl ?_
                first
                  | (have e : 0 = look (ms V) k ln i n := by unfold look; repeat' split; all_goals omega
                     exact pw_ireti C R dX9_barred_109 e (by unfold bar; rw [← e, vif_t rfl] <;> rfl))
                  | (have e : -10 - 3 = look (ms V) k ln i n := by unfold look; repeat' split; all_goals omega
                     exact pw_ireti C R dX9_barred_109 e (by unfold bar; rw [← e, vif_f (by decide)] <;> rfl))
            · refine pw_aload_n C dX9_barred_79 rfl ?_
              refine pw_iconst C dX9_barred_80 ?_
              refine pw_cVI C [_] mi_X9_failed mv_X9_failed ml_9_109 oM_0 rfl (c_X9_failed (by omega)) (by decide) rfl (Nat.le_of_ble_eq_true rfl) dX9_barred_81 ?_
              first
                | (have e : -10 - 4 = look (ms V) k ln i n := by unfold look; repeat' split; all_goals omega
                   exact pw_ireti C R dX9_barred_84 e (by unfold bar; rw [← e, vif_f (by decide)] <;> rfl))
          · refine pw_aload_n C dX9_barred_66 rfl ?_
            refine pw_iconst C dX9_barred_67 ?_
            refine pw_cVI C [_] mi_X9_failed mv_X9_failed ml_9_109 oM_0 rfl (c_X9_failed (by omega)) (by decide) rfl (Nat.le_of_ble_eq_true rfl) dX9_barred_68 ?_
            first
              | (have e : -10 - 1 = look (ms V) k ln i n := by unfold look; repeat' split; all_goals omega
                 exact pw_ireti C R dX9_barred_71 e (by unfold bar; rw [← e, vif_f (by decide)] <;> rfl))
        · refine pw_aload_n C dX9_barred_51 rfl ?_
          refine pw_iconst C dX9_barred_52 ?_
          refine pw_cVI C [_] mi_X9_failed mv_X9_failed ml_9_109 oM_0 rfl (c_X9_failed (by omega)) (by decide) rfl (Nat.le_of_ble_eq_true rfl) dX9_barred_53 ?_
          first
            | (have e : -10 - 2 = look (ms V) k ln i n := by unfold look; repeat' split; all_goals omega
               exact pw_ireti C R dX9_barred_56 e (by unfold bar; rw [← e, vif_f (by decide)] <;> rfl))
    · refine pw_aload_n C dX9_barred_25 rfl ?_
      refine pw_bipush C dX9_barred_26 (by decide) ?_
      refine pw_cVI C [_] mi_X9_refused mv_X9_refused ml_9_103 oM_0 rfl (c_X9_refused (by omega)) (by decide) rfl (Nat.le_of_ble_eq_true rfl) dX9_barred_28 ?_
      first
        | (have e : -2 = look (ms V) k ln i n := by unfold look; repeat' split; all_goals omega
           exact pw_ireti C R dX9_barred_31 e (by unfold bar; rw [← e, vif_f (by decide)] <;> rfl))
  · refine pw_aload_n C dX9_barred_7 rfl ?_
    refine pw_iconst C dX9_barred_8 ?_
    refine pw_cVI C [_] mi_X9_refused mv_X9_refused ml_9_103 oM_0 rfl (c_X9_refused (by omega)) (by decide) rfl (Nat.le_of_ble_eq_true rfl) dX9_barred_9 ?_
    first
      | (have e : -1 = look (ms V) k ln i n := by unfold look; repeat' split; all_goals omega
         exact pw_ireti C R dX9_barred_12 e (by unfold bar; rw [← e, vif_f (by decide)] <;> rfl))
set_option maxRecDepth 100000 in
set_option maxHeartbeats 400000 in
theorem c_X9_isMoney {l : Launch} {S : SW} {M : Mem} {c p9 o : Int}  (hc : InR c) (hp9 : InR p9) (ho : InR o)  : PM l S yX9_isMoney cX9_isMoney 3 (some .boolean) 1 25 [iv c, iv p9, iv o] (M) (rI (b01 ((0 ≤ c ∧ c ≤ 99) ∧ (0 ≤ p9 ∧ p9 ≤ 99) ∧ 0 ≤ o ∧ o ≤ 99)) M) := by
  refine PM.of (own := RX9) (by decide) rfl [some (iv c), some (iv p9), some (iv o)] rfl rfl (Nat.le_of_ble_eq_true rfl) (fun X hXl C R => ?_)
  subst hXl
  refine pw_iload_n C dX9_isMoney_0 rfl ?_
  refine pw_i2l C (by omega) dX9_isMoney_1 ?_
  refine pw_lconst0 C dX9_isMoney_2 ?_
  refine pw_ldc2 C (n := 99) (inT5 81 rfl rfl) (by decide) dX9_isMoney_3 ?_
  refine pw_cSI C [_, _, _] mi_X9_in ms_X9_in ml_9_87 (c_X9_in (by omega) (by omega) (by omega)) (by decide) rfl (Nat.le_of_ble_eq_true rfl) dX9_isMoney_6 ?_
  refine pw_if_eq_b (tgt := 40) C dX9_isMoney_9 rfl (fun c9 => ?_) (fun c9 => ?_)
  · refine pw_iconst C dX9_isMoney_40 ?_
    exact pw_zret0 C R dX9_isMoney_41 (by omega) rfl
  · refine pw_iload_n C dX9_isMoney_12 rfl ?_
    refine pw_i2l C (by omega) dX9_isMoney_13 ?_
    refine pw_lconst0 C dX9_isMoney_14 ?_
    refine pw_ldc2 C (n := 99) (inT5 81 rfl rfl) (by decide) dX9_isMoney_15 ?_
    refine pw_cSI C [_, _, _] mi_X9_in ms_X9_in ml_9_87 (c_X9_in (by omega) (by omega) (by omega)) (by decide) rfl (Nat.le_of_ble_eq_true rfl) dX9_isMoney_18 ?_
    refine pw_if_eq_b (tgt := 40) C dX9_isMoney_21 rfl (fun c21 => ?_) (fun c21 => ?_)
    · refine pw_iconst C dX9_isMoney_40 ?_
      exact pw_zret0 C R dX9_isMoney_41 (by omega) rfl
    · refine pw_iload_n C dX9_isMoney_24 rfl ?_
      refine pw_i2l C (by omega) dX9_isMoney_25 ?_
      refine pw_lconst0 C dX9_isMoney_26 ?_
      refine pw_ldc2 C (n := 99) (inT5 81 rfl rfl) (by decide) dX9_isMoney_27 ?_
      refine pw_cSI C [_, _, _] mi_X9_in ms_X9_in ml_9_87 (c_X9_in (by omega) (by omega) (by omega)) (by decide) rfl (Nat.le_of_ble_eq_true rfl) dX9_isMoney_30 ?_
      refine pw_if_eq_b (tgt := 40) C dX9_isMoney_33 rfl (fun c33 => ?_) (fun c33 => ?_)
      · refine pw_iconst C dX9_isMoney_40 ?_
        exact pw_zret0 C R dX9_isMoney_41 (by omega) rfl
      · refine pw_iconst C dX9_isMoney_36 ?_
        refine pw_goto (tgt := 41) C dX9_isMoney_37 rfl ?_
        exact pw_zret1 C R dX9_isMoney_41 (by omega) rfl
