set_option maxRecDepth 100000 in
set_option maxHeartbeats 400000 in
theorem L_X9_fetchB {X : PX} {S : SW} {M : Mem} {V : DM} {k T : Int}  (hI : DayOk (mv V)) (hk1 : -1 ≤ k ∧ k ≤ 3) (hN : 0 < V 0 0 2) (hk : InR k) (hT : T = 10 ^ (V 0 0 2).toNat) (hT1 : 1 ≤ T ∧ T ≤ 10000) (C : Cx X S RX9 cX9_fetch 8 190) (R : CR X S ((fun o9 N => ∃ x, o9 = some (iv x) ∧ FetchR (mv V) k x ∧ ∃ U, N = mst M 3 U ∧ EQ 0 0 (mv V) (mv U) ∧ P3 V U)) (some .int)) :
    ∀ (n9 : Nat) (row A P : Int) (W : DM), (0 ≤ row) → (row ≤ T) → (FtI V W) → ((row = 0 ∧ A = -9) ∨ (0 < row ∧ 0 ≤ A ∧ A < row)) → (-324 ≤ P ∧ P ≤ 4884) → (0 < row → BestR (pD (mv V)) (V 0 0 2) row A P) → T - row < n9 → PW X S (mst M 3 W) 70 [some (rv S 3 0 0), some (iv k), some (iv T), some (iv A), some (iv P), some (iv row), none] [] := by
  obtain ⟨i1, i2, i3, i4, i5, i6, i7, i8⟩ := id hI
  have e5 : mv V 1 0 5 = V 0 0 1 := rfl
  have e6 : mv V 1 0 6 = V 0 0 2 := rfl
  have e7 : mv V 1 0 7 = V 0 0 8 := rfl
  have e8 : mv V 1 0 8 = V 0 0 9 := rfl
  have e84 : mv V 8 0 4 = V 0 0 15 := rfl
  intro n9
  induction n9 with
  | zero => intro row A P W w0 w1 hW hA hPr hB hn9; omega
  | succ n9 ih =>
    intro row A P W w0 w1 hW hA hPr hB hn9
    have w2 : W 0 0 2 = V 0 0 2 := hW.n
    refine pw_iload C dX9_fetch_70 rfl ?_
    refine pw_iload_n C dX9_fetch_72 rfl ?_
    refine pw_icmp_ge (tgt := 112) C dX9_fetch_73 rfl (by omega) (by omega) (fun c73 => ?_) (fun c73 => ?_)
    · have eT : row = T := by omega
      rw [eT] at hB
      obtain ⟨R9, r1, r2, r3⟩ := BestR.fet (by omega) hT (hB (by omega))
      refine pw_aload_n C dX9_fetch_112 rfl ?_
      refine pw_iload_n C dX9_fetch_113 rfl ?_
      refine pw_cVQV C [_] mi_X9_layFish mv_X9_layFish ml_9_241 oM_0 rfl (c_X9_layFish (by omega) (by omega) (by omega) (by omega) (by omega) (by rw [w2, ← hT]; omega)) (by decide) rfl (Nat.le_of_ble_eq_true rfl) dX9_fetch_114 ?_
      rintro N9 ⟨U, rfl, hU⟩
      have hF := hW.lf hU
      have hg : InN (V 0 0 2) (U 4 0) := by
        have h := hU.2.1
        rw [w2] at h
        exact h
      have hrk : rk (U 4 0) (V 0 0 2).toNat = A := by
        have h := hU.2.2
        rw [w2] at h
        exact h
      have hag := rk_inj hg r1 (hrk.trans r2.symm)
      have u2 : U 0 0 2 = V 0 0 2 := hF.n
      refine pw_iload_n C dX9_fetch_117 rfl ?_
      refine pw_if_ge (tgt := 126) C dX9_fetch_118 rfl (by omega) (fun c118 => ?_) (fun c118 => ?_)
      · refine pw_iload_n C dX9_fetch_126 rfl ?_
        refine pw_aload_n C dX9_fetch_127 rfl ?_
        refine gv_9_116 C dX9_fetch_128 (fun r128 => ?_)
        refine pw_icmp_ge (tgt := 143) C dX9_fetch_131 rfl (by omega) (by omega) (fun c131 => ?_) (fun c131 => ?_)
        · refine pw_bipush C dX9_fetch_143 (by decide) ?_
          refine pw_istore_5 C dX9_fetch_145 (k := ?_)
          refine pw_iconst C dX9_fetch_147 ?_
          refine pw_istore_6 C dX9_fetch_148 (k := ?_)
          refine L_X9_fetchC hI hk1 hN hF ?_ C R (V 0 0 2 + 1).toNat 0 U (by omega) (by omega) ⟨fun k r i _ => rfl, fun j a b => by omega⟩ (by omega)
          first
            | exact Or.inr ⟨hk1, Or.inr ⟨hN, Or.inr ⟨fun h => absurd h.1 (by omega), P, R9, r3, (if_pos (show k < 0 by omega)).symm⟩⟩⟩
            | exact Or.inr ⟨hk1, Or.inr ⟨hN, Or.inr ⟨fun h => h.2 ⟨by omega, by show k < V 0 0 2; omega⟩, P, R9, r3, (hag k (by omega) (by omega)).trans (if_neg (show ¬ (k < 0) by omega)).symm⟩⟩⟩
            | exact Or.inr ⟨hk1, Or.inr ⟨hN, Or.inl ⟨by omega, fun h => by have h2 : k < V 0 0 2 := h.2; omega, rfl⟩⟩⟩
        · refine pw_aload_n C dX9_fetch_134 rfl ?_
          refine gf_9_7 C dX9_fetch_135 ?_
          refine pw_iload_n C dX9_fetch_138 rfl ?_
          refine pw_ialdV C aM_4 (by omega) (by omega) (by decide) dX9_fetch_139 (fun r139 => ?_)
          refine pw_goto (tgt := 145) C dX9_fetch_140 rfl ?_
          refine pw_istore_5 C dX9_fetch_145 (k := ?_)
          refine pw_iconst C dX9_fetch_147 ?_
          refine pw_istore_6 C dX9_fetch_148 (k := ?_)
          refine L_X9_fetchC hI hk1 hN hF ?_ C R (V 0 0 2 + 1).toNat 0 U (by omega) (by omega) ⟨fun k r i _ => rfl, fun j a b => by omega⟩ (by omega)
          first
            | exact Or.inr ⟨hk1, Or.inr ⟨hN, Or.inr ⟨fun h => absurd h.1 (by omega), P, R9, r3, (if_pos (show k < 0 by omega)).symm⟩⟩⟩
            | exact Or.inr ⟨hk1, Or.inr ⟨hN, Or.inr ⟨fun h => h.2 ⟨by omega, by show k < V 0 0 2; omega⟩, P, R9, r3, (hag k (by omega) (by omega)).trans (if_neg (show ¬ (k < 0) by omega)).symm⟩⟩⟩
            | exact Or.inr ⟨hk1, Or.inr ⟨hN, Or.inl ⟨by omega, fun h => by have h2 : k < V 0 0 2 := h.2; omega, rfl⟩⟩⟩
      · refine pw_iload C dX9_fetch_121 rfl ?_
        refine pw_goto (tgt := 145) C dX9_fetch_123 rfl ?_
        refine pw_istore_5 C dX9_fetch_145 (k := ?_)
        refine pw_iconst C dX9_fetch_147 ?_
        refine pw_istore_6 C dX9_fetch_148 (k := ?_)
        refine L_X9_fetchC hI hk1 hN hF ?_ C R (V 0 0 2 + 1).toNat 0 U (by omega) (by omega) ⟨fun k r i _ => rfl, fun j a b => by omega⟩ (by omega)
        first
          | exact Or.inr ⟨hk1, Or.inr ⟨hN, Or.inr ⟨fun h => absurd h.1 (by omega), P, R9, r3, (if_pos (show k < 0 by omega)).symm⟩⟩⟩
          | exact Or.inr ⟨hk1, Or.inr ⟨hN, Or.inr ⟨fun h => h.2 ⟨by omega, by show k < V 0 0 2; omega⟩, P, R9, r3, (hag k (by omega) (by omega)).trans (if_neg (show ¬ (k < 0) by omega)).symm⟩⟩⟩
          | exact Or.inr ⟨hk1, Or.inr ⟨hN, Or.inl ⟨by omega, fun h => by have h2 : k < V 0 0 2 := h.2; omega, rfl⟩⟩⟩
    · refine pw_aload_n C dX9_fetch_76 rfl ?_
      refine pw_iload C dX9_fetch_77 rfl ?_
      refine pw_cVQV C [_] mi_X9_layFish mv_X9_layFish ml_9_241 oM_0 rfl (c_X9_layFish (by omega) (by omega) (by omega) (by omega) (by omega) (by rw [w2, ← hT]; omega)) (by decide) rfl (Nat.le_of_ble_eq_true rfl) dX9_fetch_79 ?_
      rintro N9 ⟨U, rfl, hU⟩
      have hF := hW.lf hU
      have hg : InN (mv V 1 0 6) (U 4 0) := by
        have h := hU.2.1
        rw [w2] at h
        exact h
      have hrk : rk (U 4 0) (V 0 0 2).toNat = row := by
        have h := hU.2.2
        rw [w2] at h
        exact h
      have hE : EQ 0 0 (vF (mv V) (U 4 0)) (mv U) := hF.1.e
      have hI2 := vF_ok hI hg
      have hbu := BestR.up (p := pD (mv V)) (N := V 0 0 2) (A := A) (P := P) (fun g h a => pD_ag g h a) w0 hg hrk hB
      refine pw_aload_n C dX9_fetch_82 rfl ?_
      refine pw_cVQI C [] mi_X9_profit mv_X9_profit ml_9_236 oM_0 rfl (c_X9_profit (hI2.eq hE)) (by decide) rfl (Nat.le_of_ble_eq_true rfl) dX9_fetch_83 ?_
      rintro x9 N9 ⟨hx9, U2, rfl, hU2, kU2⟩
      rw [prf_e (g := 0) hI2 hE (Or.inl ⟨rfl, rfl⟩)] at hx9
      have hx9 : x9 = pD (mv V) (U 4 0) := hx9
      have hqr : -324 ≤ pD (mv V) (U 4 0) ∧ pD (mv V) (U 4 0) ≤ 4884 := prf_r hI2 (Or.inl rfl)
      have hF2 := hF.k hU2 kU2
      subst hx9
      refine pw_istore_6 C dX9_fetch_86 (k := ?_)
      refine pw_iload_n C dX9_fetch_88 rfl ?_
      refine pw_if_lt (tgt := 99) C dX9_fetch_89 rfl (by omega) (fun c89 => ?_) (fun c89 => ?_)
      · refine pw_iload C dX9_fetch_99 rfl ?_
        refine pw_istore_3 C dX9_fetch_101 (k := ?_)
        refine pw_iload C dX9_fetch_102 rfl ?_
        refine pw_istore_4 C dX9_fetch_104 (k := ?_)
        refine pw_iinc_5 C dX9_fetch_106 (k := ?_)
        refine pw_goto (tgt := 70) C dX9_fetch_109 rfl ?_
        first
          | exact pw_fg 6 rfl (ih (row + 1) row (pD (mv V) (U 4 0)) U2 (by omega) (by omega) hF2 (by omega) (by omega) (fun _ => hbu.1 (by omega)) (by omega))
          | exact pw_fg 6 rfl (ih (row + 1) A P U2 (by omega) (by omega) hF2 (by omega) hPr (fun _ => hbu.2 (by omega) (by omega)) (by omega))
      · refine pw_iload C dX9_fetch_92 rfl ?_
        refine pw_iload C dX9_fetch_94 rfl ?_
        refine pw_icmp_le (tgt := 106) C dX9_fetch_96 rfl (by omega) (by omega) (fun c96 => ?_) (fun c96 => ?_)
        · refine pw_iinc_5 C dX9_fetch_106 (k := ?_)
          refine pw_goto (tgt := 70) C dX9_fetch_109 rfl ?_
          first
            | exact pw_fg 6 rfl (ih (row + 1) row (pD (mv V) (U 4 0)) U2 (by omega) (by omega) hF2 (by omega) (by omega) (fun _ => hbu.1 (by omega)) (by omega))
            | exact pw_fg 6 rfl (ih (row + 1) A P U2 (by omega) (by omega) hF2 (by omega) hPr (fun _ => hbu.2 (by omega) (by omega)) (by omega))
        · refine pw_iload C dX9_fetch_99 rfl ?_
          refine pw_istore_3 C dX9_fetch_101 (k := ?_)
          refine pw_iload C dX9_fetch_102 rfl ?_
          refine pw_istore_4 C dX9_fetch_104 (k := ?_)
          refine pw_iinc_5 C dX9_fetch_106 (k := ?_)
          refine pw_goto (tgt := 70) C dX9_fetch_109 rfl ?_
          first
            | exact pw_fg 6 rfl (ih (row + 1) row (pD (mv V) (U 4 0)) U2 (by omega) (by omega) hF2 (by omega) (by omega) (fun _ => hbu.1 (by omega)) (by omega))
            | exact pw_fg 6 rfl (ih (row + 1) A P U2 (by omega) (by omega) hF2 (by omega) hPr (fun _ => hbu.2 (by omega) (by omega)) (by omega))
set_option maxRecDepth 100000 in
set_option maxHeartbeats 400000 in
theorem L_X9_fetchA {X : PX} {S : SW} {M : Mem} {V : DM} {k : Int}  (hI : DayOk (mv V)) (hk1 : -1 ≤ k ∧ k ≤ 3) (hN : 0 < V 0 0 2) (hk : InR k) (C : Cx X S RX9 cX9_fetch 8 190) (R : CR X S ((fun o9 N => ∃ x, o9 = some (iv x) ∧ FetchR (mv V) k x ∧ ∃ U, N = mst M 3 U ∧ EQ 0 0 (mv V) (mv U) ∧ P3 V U)) (some .int)) :
    ∀ (n9 : Nat) (s T : Int) (W : DM), (0 ≤ s) → (s ≤ V 0 0 2) → (T = 10 ^ s.toNat) → (1 ≤ T) → ((∀ (k : Nat) (r i : Int), k ≠ 30 → W k r i = V k r i) ∧ ∀ j, 0 ≤ j → j < s → W 30 0 j = V 4 0 j) → V 0 0 2 - s < n9 → PW X S (mst M 3 W) 30 [some (rv S 3 0 0), some (iv k), some (iv T), some (iv s), none, none, none] [] := by
  obtain ⟨i1, i2, i3, i4, i5, i6, i7, i8⟩ := id hI
  have e5 : mv V 1 0 5 = V 0 0 1 := rfl
  have e6 : mv V 1 0 6 = V 0 0 2 := rfl
  have e7 : mv V 1 0 7 = V 0 0 8 := rfl
  have e8 : mv V 1 0 8 = V 0 0 9 := rfl
  have e84 : mv V 8 0 4 = V 0 0 15 := rfl
  intro n9
  induction n9 with
  | zero => intro s T W s0 s1 hT hT1 hW hn9; omega
  | succ n9 ih =>
    intro s T W s0 s1 hT hT1 hW hn9
    have w2 : W 0 0 2 = V 0 0 2 := hW.1 0 0 2 (by omega)
    refine pw_iload_n C dX9_fetch_30 rfl ?_
    refine pw_aload_n C dX9_fetch_31 rfl ?_
    refine gv_9_116 C dX9_fetch_32 (fun r32 => ?_)
    refine pw_icmp_ge (tgt := 61) C dX9_fetch_35 rfl (by omega) (by omega) (fun c35 => ?_) (fun c35 => ?_)
    · refine pw_bipush C dX9_fetch_61 (by decide) ?_
      refine pw_istore_3 C dX9_fetch_63 (k := ?_)
      refine pw_iconst C dX9_fetch_64 ?_
      refine pw_istore_4 C dX9_fetch_65 (k := ?_)
      refine pw_iconst C dX9_fetch_67 ?_
      refine pw_istore_5 C dX9_fetch_68 (k := ?_)
      rw [show s = V 0 0 2 by omega] at hT hW
      have hF : FtI V W := ⟨fun k r i h hl => by rw [mv_c (V := V) (W := W) (fun k r i q => hW.1 k r i (by omega))], fun k r i h => hW.1 k r i (by omega), hW.2⟩
      have hT4 : T ≤ 10000 := by
        have h := i1
        rw [e6] at h
        rw [hT]
        have hc : V 0 0 2 = 0 ∨ V 0 0 2 = 1 ∨ V 0 0 2 = 2 ∨ V 0 0 2 = 3 ∨ V 0 0 2 = 4 := by omega
        rcases hc with h | h | h | h | h <;> rw [h] <;> decide
      exact L_X9_fetchB hI hk1 hN hk hT ⟨hT1, hT4⟩ C R (T + 1).toNat 0 (-9) 0 W (by omega) (by omega) hF (Or.inl ⟨rfl, rfl⟩) (by omega) (fun h => absurd h (by decide)) (by omega)
    · refine pw_aload_n C dX9_fetch_38 rfl ?_
      refine gf_9_64 C dX9_fetch_39 ?_
      refine pw_iload_n C dX9_fetch_42 rfl ?_
      refine pw_aload_n C dX9_fetch_43 rfl ?_
      refine gf_9_7 C dX9_fetch_44 ?_
      refine pw_iload_n C dX9_fetch_47 rfl ?_
      refine pw_ialdV C aM_4 (by omega) (by omega) (by decide) dX9_fetch_48 (fun r48 => ?_)
      have w4 : W 4 0 s = V 4 0 s := hW.1 4 0 s (by omega)
      refine pw_iastV C aM_30 (by omega) (by omega) (by decide) (by omega) dX9_fetch_49 ?_
      refine pw_iload_n C dX9_fetch_50 rfl ?_
      refine pw_bipush C dX9_fetch_51 (by decide) ?_
      refine pw_imul C dX9_fetch_53 ?_
      refine pw_istore_2 C dX9_fetch_54 (k := ?_)
      refine pw_iinc_3 C dX9_fetch_55 (k := ?_)
      refine pw_goto (tgt := 30) C dX9_fetch_58 rfl ?_
      refine ih (s + 1) (T * 10) _ (by omega) (by omega) ?_ (by omega) ⟨fun k r i h => by rw [vup_k _ _ _ _ h]; exact hW.1 k r i h, fun j a b => ?_⟩ (by omega)
      · rw [p10_s s0, ← hT]; omega
      · by_cases e : j = s
        · rw [e, vup_v]; exact w4
        · rw [vup_j _ _ _ _ e]; exact hW.2 j a (by omega)
set_option maxRecDepth 100000 in
set_option maxHeartbeats 400000 in
theorem c_X9_fetch {l : Launch} {S : SW} {M : Mem} {V : DM} {k : Int}  (hk : InR k) (hI : DayOk (mv V)) : PM l S yX9_fetch cX9_fetch 7 (some .int) 8 190 [rv S 3 0 0, iv k] (mst M 3 V) ((fun o9 N => ∃ x, o9 = some (iv x) ∧ FetchR (mv V) k x ∧ ∃ U, N = mst M 3 U ∧ EQ 0 0 (mv V) (mv U) ∧ P3 V U)) := by
  refine PM.of (own := RX9) (by decide) rfl [some (rv S 3 0 0), some (iv k), none, none, none, none, none] rfl rfl (Nat.le_of_ble_eq_true rfl) (fun X hXl C R => ?_)
  subst hXl
  obtain ⟨i1, i2, i3, i4, i5, i6, i7, i8⟩ := id hI
  have e5 : mv V 1 0 5 = V 0 0 1 := rfl
  have e6 : mv V 1 0 6 = V 0 0 2 := rfl
  have e7 : mv V 1 0 7 = V 0 0 8 := rfl
  have e8 : mv V 1 0 8 = V 0 0 9 := rfl
  have e84 : mv V 8 0 4 = V 0 0 15 := rfl
  refine pw_iload_n C dX9_fetch_0 rfl ?_
  refine pw_i2l C (by omega) dX9_fetch_1 ?_
  refine pw_ldc2 C (n := -1) (inT5 55 rfl rfl) (by decide) dX9_fetch_2 ?_
  refine pw_ldc2 C (n := 3) (inT4 114 rfl rfl) (by decide) dX9_fetch_5 ?_
  refine pw_cSI C [_, _, _] mi_X9_in ms_X9_in ml_9_87 (c_X9_in (by omega) (by omega) (by omega)) (by decide) rfl (Nat.le_of_ble_eq_true rfl) dX9_fetch_8 ?_
  refine pw_if_ne_b (tgt := 16) C dX9_fetch_11 rfl (fun c11 => ?_) (fun c11 => ?_)
  · refine pw_aload_n C dX9_fetch_16 rfl ?_
    refine gv_9_116 C dX9_fetch_17 (fun r17 => ?_)
    refine pw_if_ne (tgt := 26) C dX9_fetch_20 rfl (by omega) (fun c20 => ?_) (fun c20 => ?_)
    · refine pw_iconst C dX9_fetch_26 ?_
      refine pw_istore_2 C dX9_fetch_27 (k := ?_)
      refine pw_iconst C dX9_fetch_28 ?_
      refine pw_istore_3 C dX9_fetch_29 (k := ?_)
      exact L_X9_fetchA hI (by omega) (by omega) hk C R (V 0 0 2 + 1).toNat 0 1 V (by omega) (by omega) rfl (by omega) ⟨fun k r i _ => rfl, fun j a b => by omega⟩ (by omega)
    · refine pw_bipush C dX9_fetch_23 (by decide) ?_
      exact pw_iret C R dX9_fetch_25 ⟨_, rfl, Or.inr ⟨by omega, Or.inl ⟨by omega, rfl⟩⟩, _, rfl, EQ.rf 0 0 _, P3.rf _⟩
  · refine pw_iconst C dX9_fetch_14 ?_
    exact pw_iret C R dX9_fetch_15 ⟨_, rfl, Or.inl ⟨by assumption, rfl⟩, _, rfl, EQ.rf 0 0 _, P3.rf _⟩
