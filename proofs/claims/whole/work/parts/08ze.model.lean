def RlO (V : DM) (g : Int → Int) (i n x : Int) (W : DM) : Prop := RdI V W ∧ ((x = 0 ∧ FFp g i n (W 0 0 10)) ∨ (x = 1 ∧ FF g i n (-9) ∧ W 0 0 13 = (n - 2) / 6 ∧ W 0 0 12 = g (i + 1) - 48 ∧ ∀ s j, 0 ≤ s → s < (n - 2) / 6 → 0 ≤ j → j < 4 → W 15 0 (4 * s + j) = g (i + (2 + 6 * s + 2 + j)) - 48))
theorem gon_p0 {c : Int} : gon c 0 ↔ c = 104 := by
  unfold gon
  rw [if_pos rfl]
theorem gon_p1 {c : Int} : gon c 1 ↔ 49 ≤ c ∧ c ≤ 56 := by
  unfold gon
  rw [if_neg (by omega), if_pos rfl]
set_option maxRecDepth 100000 in
set_option maxHeartbeats 400000 in
theorem L_X9_readsStall {X : PX} {S : SW} {M : Mem} {V : DM} {g : Int → Int} {i fr n : Int}  (hf : ∀ q, 0 ≤ q → q < n → V 37 0 (fr + q) = g (i + q)) (f0 : 0 ≤ fr) (f1 : fr + n ≤ 240) (n0 : 0 ≤ n) (hfr : InR fr) (hn : InR n) (C : Cx X S RX9 cX9_readsStall 3 74) (R : CR X S (rIQ (fun x N => ∃ W, N = mst M 3 W ∧ RlO V g i n x W)) (some .boolean)) :
    ∀ (n9 : Nat) (s9 m9 : Int) (W : DM), (RdI V W) → ((s9 = 0 ∧ m9 = 0 ∧ FFp g i n (W 0 0 10)) ∨ (s9 = 1 ∧ m9 = 6 - W 0 0 13 ∧ (0 ≤ W 0 0 13 ∧ W 0 0 13 ≤ 4) ∧ W 0 0 10 = 2 + 6 * W 0 0 13 ∧ W 0 0 10 ≤ n ∧ (∀ q, 0 ≤ q → q < W 0 0 10 → gon (g (i + q)) q) ∧ W 0 0 12 = g (i + 1) - 48 ∧ ∀ s j, 0 ≤ s → s < W 0 0 13 → 0 ≤ j → j < 4 → W 15 0 (4 * s + j) = g (i + (2 + 6 * s + 2 + j)) - 48)) → m9 < n9 → PW X S (mst M 3 W) 47 [some (rv S 3 0 0), some (iv fr), some (iv n), some (iv s9)] [] := by
  intro n9
  induction n9 with
  | zero => intro s9 m9 W hW hs hn9; omega
  | succ n9 ih =>
    intro s9 m9 W hW hs hn9
    refine pw_iload_n C dX9_readsStall_47 rfl ?_
    refine pw_if_eq (tgt := 76) C dX9_readsStall_48 rfl (by omega) (fun c48 => ?_) (fun c48 => ?_)
    · refine pw_iload_n C dX9_readsStall_76 rfl ?_
      rcases hs with h | h
      · exact pw_zret C R dX9_readsStall_77 (Or.inl h.1) ⟨_, rfl, _, rfl, hW, Or.inl ⟨h.1, h.2.2⟩⟩
      · have e : W 0 0 13 = (n - 2) / 6 := by omega
        refine pw_zret C R dX9_readsStall_77 (Or.inr h.1) ⟨_, rfl, _, rfl, hW, Or.inr ⟨h.1, Or.inr ⟨fun q a b => h.2.2.2.2.2.1 q a (by omega), Or.inl ⟨by omega, by omega, rfl⟩⟩, e, h.2.2.2.2.2.2.1, fun s j a b c d => h.2.2.2.2.2.2.2 s j a (by omega) c d⟩⟩
    · have hs1 : s9 = 1 ∧ m9 = 6 - W 0 0 13 ∧ (0 ≤ W 0 0 13 ∧ W 0 0 13 ≤ 4) ∧ W 0 0 10 = 2 + 6 * W 0 0 13 ∧ W 0 0 10 ≤ n ∧ (∀ q, 0 ≤ q → q < W 0 0 10 → gon (g (i + q)) q) ∧ W 0 0 12 = g (i + 1) - 48 ∧ ∀ s j, 0 ≤ s → s < W 0 0 13 → 0 ≤ j → j < 4 → W 15 0 (4 * s + j) = g (i + (2 + 6 * s + 2 + j)) - 48 := by
        rcases hs with h | h
        · exact absurd h.1 (by assumption)
        · exact h
      refine pw_aload_n C dX9_readsStall_51 rfl ?_
      refine gv_9_128 C dX9_readsStall_52 (fun r52 => ?_)
      refine pw_if_eq (tgt := 66) C dX9_readsStall_55 rfl (by omega) (fun c55 => ?_) (fun c55 => ?_)
      · refine pw_aload_n C dX9_readsStall_66 rfl ?_
        refine pw_iload_n C dX9_readsStall_67 rfl ?_
        refine pw_iload_n C dX9_readsStall_68 rfl ?_
        refine pw_cVQI C [_, _] mi_X9_readsSort mv_X9_readsSort ml_9_142 oM_0 rfl (c_X9_readsSort (g := g) (i := i) (by omega) (by omega) (fun q a b => (hW 37 0 _ (by omega) (by omega)).trans (hf q a b)) (by omega) (by omega) (by omega) (by omega) (by omega) (by omega) (by omega) hs1.2.2.2.2.2.1 (by omega)) (by decide) rfl (Nat.le_of_ble_eq_true rfl) dX9_readsStall_69 ?_
        rintro x9 N9 ⟨W2, rfl, hO1, hO2, hO3, hO4⟩
        refine pw_istore_3 C dX9_readsStall_72 (k := ?_)
        refine pw_goto (tgt := 47) C dX9_readsStall_73 rfl ?_
        rcases hO4 with h | h
        · exact ih x9 0 W2 (hW.tr hO1) (Or.inl ⟨h.1, rfl, h.2⟩) (by omega)
        · refine ih x9 (6 - W2 0 0 13) W2 (hW.tr hO1) (Or.inr ⟨h.1, rfl, by omega, by omega, h.2.2.1, h.2.2.2.2.2.1, hO2.trans hs1.2.2.2.2.2.2.1, fun s j a b c d => ?_⟩) (by omega)
          by_cases e : s = W 0 0 13
          · rw [e, h.2.2.2.2.2.2 j c d, show W 0 0 10 + 2 + j = 2 + 6 * W 0 0 13 + 2 + j by omega]
          · rw [hO3 _ (by omega)]
            exact hs1.2.2.2.2.2.2.2 s j a (by omega) c d
      · refine pw_aload_n C dX9_readsStall_58 rfl ?_
        refine gv_9_122 C dX9_readsStall_59 (fun r59 => ?_)
        refine pw_iload_n C dX9_readsStall_62 rfl ?_
        refine pw_icmp_ge (tgt := 76) C dX9_readsStall_63 rfl (by omega) (by omega) (fun c63 => ?_) (fun c63 => ?_)
        · refine pw_iload_n C dX9_readsStall_76 rfl ?_
          rcases hs with h | h
          · exact pw_zret C R dX9_readsStall_77 (Or.inl h.1) ⟨_, rfl, _, rfl, hW, Or.inl ⟨h.1, h.2.2⟩⟩
          · have e : W 0 0 13 = (n - 2) / 6 := by omega
            refine pw_zret C R dX9_readsStall_77 (Or.inr h.1) ⟨_, rfl, _, rfl, hW, Or.inr ⟨h.1, Or.inr ⟨fun q a b => h.2.2.2.2.2.1 q a (by omega), Or.inl ⟨by omega, by omega, rfl⟩⟩, e, h.2.2.2.2.2.2.1, fun s j a b c d => h.2.2.2.2.2.2.2 s j a (by omega) c d⟩⟩
        · refine pw_aload_n C dX9_readsStall_66 rfl ?_
          refine pw_iload_n C dX9_readsStall_67 rfl ?_
          refine pw_iload_n C dX9_readsStall_68 rfl ?_
          refine pw_cVQI C [_, _] mi_X9_readsSort mv_X9_readsSort ml_9_142 oM_0 rfl (c_X9_readsSort (g := g) (i := i) (by omega) (by omega) (fun q a b => (hW 37 0 _ (by omega) (by omega)).trans (hf q a b)) (by omega) (by omega) (by omega) (by omega) (by omega) (by omega) (by omega) hs1.2.2.2.2.2.1 (by omega)) (by decide) rfl (Nat.le_of_ble_eq_true rfl) dX9_readsStall_69 ?_
          rintro x9 N9 ⟨W2, rfl, hO1, hO2, hO3, hO4⟩
          refine pw_istore_3 C dX9_readsStall_72 (k := ?_)
          refine pw_goto (tgt := 47) C dX9_readsStall_73 rfl ?_
          rcases hO4 with h | h
          · exact ih x9 0 W2 (hW.tr hO1) (Or.inl ⟨h.1, rfl, h.2⟩) (by omega)
          · refine ih x9 (6 - W2 0 0 13) W2 (hW.tr hO1) (Or.inr ⟨h.1, rfl, by omega, by omega, h.2.2.1, h.2.2.2.2.2.1, hO2.trans hs1.2.2.2.2.2.2.1, fun s j a b c d => ?_⟩) (by omega)
            by_cases e : s = W 0 0 13
            · rw [e, h.2.2.2.2.2.2 j c d, show W 0 0 10 + 2 + j = 2 + 6 * W 0 0 13 + 2 + j by omega]
            · rw [hO3 _ (by omega)]
              exact hs1.2.2.2.2.2.2.2 s j a (by omega) c d
set_option maxRecDepth 100000 in
set_option maxHeartbeats 400000 in
theorem c_X9_readsStall {l : Launch} {S : SW} {M : Mem} {V : DM} {fr n : Int} {g : Int → Int} {i : Int}  (hfr : InR fr) (hn : InR n) (hf : ∀ q, 0 ≤ q → q < n → V 37 0 (fr + q) = g (i + q)) (f0 : 0 ≤ fr) (f1 : fr + n ≤ 240) (n0 : 0 ≤ n) : PM l S yX9_readsStall cX9_readsStall 4 (some .boolean) 3 74 [rv S 3 0 0, iv fr, iv n] (mst M 3 V) (rIQ (fun x N => ∃ W, N = mst M 3 W ∧ RlO V g i n x W)) := by
  refine PM.of (own := RX9) (by decide) rfl [some (rv S 3 0 0), some (iv fr), some (iv n), none] rfl rfl (Nat.le_of_ble_eq_true rfl) (fun X hXl C R => ?_)
  subst hXl
  refine pw_aload_n C dX9_readsStall_0 rfl ?_
  refine pw_iconst C dX9_readsStall_1 ?_
  refine pv_9_122 C (by omega) dX9_readsStall_2 ?_
  refine pw_aload_n C dX9_readsStall_5 rfl ?_
  refine pw_iconst C dX9_readsStall_6 ?_
  refine pv_9_128 C (by omega) dX9_readsStall_7 ?_
  obtain ⟨V0, hV0⟩ : ∃ V0, V0 = vup (vup V 0 0 10 0) 0 0 13 0 := ⟨_, rfl⟩
  rw [← hV0]
  have hR0 : RdI V V0 := by rw [hV0]; exact ((RdI.rf V).up (by omega)).up (by omega)
  have z10 : V0 0 0 10 = 0 := by rw [hV0, vup_j _ _ _ _ (by omega), vup_v]
  have z13 : V0 0 0 13 = 0 := by rw [hV0, vup_v]
  have hC0 : 0 < n → V0 37 0 (fr + 0) = g (i + 0) := fun h => (hR0 37 0 _ (by omega) (by omega)).trans (hf 0 (by omega) h)
  refine pw_aload_n C dX9_readsStall_10 rfl ?_
  refine pw_bipush C dX9_readsStall_11 (by decide) ?_
  refine pw_iload_n C dX9_readsStall_13 rfl ?_
  refine pw_iload_n C dX9_readsStall_14 rfl ?_
  refine pw_cVQI C [_, _, _] mi_X9_takes mv_X9_takes ml_9_131 oM_0 rfl (c_X9_takes (by omega) (by omega) (by omega) (by omega) (by omega) (by omega)) (by decide) rfl (Nat.le_of_ble_eq_true rfl) dX9_readsStall_15 ?_
  rintro x15 N9 ⟨hx15, W1, rfl, hD1, hA1⟩
  rw [z10] at hx15 hA1
  have hb15 : x15 = 0 ∨ x15 = 1 := hx15 ▸ b01_r _
  have y13 : W1 0 0 13 = 0 := (hD1 0 0 13 (by omega)).trans z13
  refine pw_if_eq (tgt := 37) C dX9_readsStall_18 rfl (by omega) (fun c18 => ?_) (fun c18 => ?_)
  · refine pw_iconst C dX9_readsStall_37 ?_
    refine pw_istore_3 C dX9_readsStall_38 (k := ?_)
    refine pw_aload_n C dX9_readsStall_39 rfl ?_
    refine pw_aload_n C dX9_readsStall_40 rfl ?_
    refine gv_9_125 C dX9_readsStall_41 (fun r41 => ?_)
    refine pv_9_139 C (by omega) dX9_readsStall_44 ?_
    first
      | (have hx0 : x15 = 0 := by omega
         refine L_X9_readsStall hf f0 f1 n0 hfr hn C R 1 0 0 _ ((hR0.tr hD1.d).up (by omega)) (Or.inl ⟨rfl, rfl, ?_⟩) (by omega)
         rw [vup_j _ _ _ _ (by omega), hA1, hx0, Int.add_zero]
         refine FF.s (by omega) n0 (fun q a b => by omega) (fun h1 h2 => ?_) (fun h => by omega)
         rw [b01_t ⟨h1, by rw [hC0 h1]; exact gon_p0.mp h2⟩] at hx15
         omega)
      | (have hx0 : x27 = 0 := by omega
         refine L_X9_readsStall hf f0 f1 n0 hfr hn C R 1 0 0 _ (((hR0.tr hD1.d).tr hD2.d).up (by omega)) (Or.inl ⟨rfl, rfl, ?_⟩) (by omega)
         rw [vup_j _ _ _ _ (by omega), hA2, hx0, Int.add_zero]
         refine FF.s (by omega) (by omega) hgo (fun h1 h2 => ?_) (fun h => by omega)
         have h3 := gon_p1.mp h2
         rw [hC1 h1, b01_t (by omega)] at hx27
         omega)
      | (have hP2 := Classical.byContradiction (fun h => by rw [b01_f h] at hx27; omega)
         have hc1 := hC1 hP2.1
         have hv := hV2 (by omega)
         rw [hc1] at hP2 hv
         have hgn2 : gon (g (i + 1)) 1 := gon_p1.mpr (by omega)
         refine L_X9_readsStall hf f0 f1 n0 hfr hn C R 7 1 6 _ (((hR0.tr hD1.d).tr hD2.d).up (by omega)) (Or.inr ⟨rfl, ?_, ?_, ?_, ?_, ?_, ?_, ?_⟩) (by omega)
         · rw [vup_j _ _ _ _ (by omega), x13]; rfl
         · rw [vup_j _ _ _ _ (by omega), x13]; omega
         · rw [vup_j _ _ _ _ (by omega), vup_j _ _ _ _ (by omega), x13]; omega
         · rw [vup_j _ _ _ _ (by omega)]; omega
         · rw [vup_j _ _ _ _ (by omega)]
           exact fun q a b => gon_x hgo hgn2 q a (by omega)
         · rw [vup_v]; exact hv
         · rw [vup_j _ _ _ _ (by omega), x13]
           exact fun s j a b => by omega)
  · refine pw_aload_n C dX9_readsStall_21 rfl ?_
    refine pw_iload_n C dX9_readsStall_22 rfl ?_
    refine pw_iload_n C dX9_readsStall_23 rfl ?_
    refine pw_iconst C dX9_readsStall_24 ?_
    refine pw_bipush C dX9_readsStall_25 (by decide) ?_
    refine pw_cVQI C [_, _, _, _] mi_X9_readsFigure mv_X9_readsFigure ml_9_135 oM_0 rfl (c_X9_readsFigure (by omega) (by omega) (by omega) (by omega) (by omega) (by omega) (by omega) (by omega) (by omega)) (by decide) rfl (Nat.le_of_ble_eq_true rfl) dX9_readsStall_27 ?_
    rintro x27 N9 ⟨hx27, W2, rfl, hD2, hA2, hV2⟩
    have hP1 : 0 < n ∧ V0 37 0 (fr + 0) = 104 := Classical.byContradiction (fun h => by rw [b01_f h] at hx15; omega)
    have hgn : gon (g (i + 0)) 0 := gon_p0.mpr (by rw [← hC0 hP1.1]; exact hP1.2)
    have w10 : W1 0 0 10 = 1 := by omega
    rw [w10] at hx27 hA2 hV2
    have hb27 : x27 = 0 ∨ x27 = 1 := hx27 ▸ b01_r _
    have x13 : W2 0 0 13 = 0 := (hD2 0 0 13 (by omega)).trans y13
    have hC1 : 1 < n → W1 37 0 (fr + 1) = g (i + 1) := fun h => (hD1 37 0 _ (by omega)).trans ((hR0 37 0 _ (by omega) (by omega)).trans (hf 1 (by omega) h))
    have hgo : ∀ q, 0 ≤ q → q < 1 → gon (g (i + q)) q := fun q a b => by
      rw [show q = 0 by omega]
      exact hgn
    refine pw_if_eq (tgt := 37) C dX9_readsStall_30 rfl (by omega) (fun c30 => ?_) (fun c30 => ?_)
    · refine pw_iconst C dX9_readsStall_37 ?_
      refine pw_istore_3 C dX9_readsStall_38 (k := ?_)
      refine pw_aload_n C dX9_readsStall_39 rfl ?_
      refine pw_aload_n C dX9_readsStall_40 rfl ?_
      refine gv_9_125 C dX9_readsStall_41 (fun r41 => ?_)
      refine pv_9_139 C (by omega) dX9_readsStall_44 ?_
      first
        | (have hx0 : x15 = 0 := by omega
           refine L_X9_readsStall hf f0 f1 n0 hfr hn C R 1 0 0 _ ((hR0.tr hD1.d).up (by omega)) (Or.inl ⟨rfl, rfl, ?_⟩) (by omega)
           rw [vup_j _ _ _ _ (by omega), hA1, hx0, Int.add_zero]
           refine FF.s (by omega) n0 (fun q a b => by omega) (fun h1 h2 => ?_) (fun h => by omega)
           rw [b01_t ⟨h1, by rw [hC0 h1]; exact gon_p0.mp h2⟩] at hx15
           omega)
        | (have hx0 : x27 = 0 := by omega
           refine L_X9_readsStall hf f0 f1 n0 hfr hn C R 1 0 0 _ (((hR0.tr hD1.d).tr hD2.d).up (by omega)) (Or.inl ⟨rfl, rfl, ?_⟩) (by omega)
           rw [vup_j _ _ _ _ (by omega), hA2, hx0, Int.add_zero]
           refine FF.s (by omega) (by omega) hgo (fun h1 h2 => ?_) (fun h => by omega)
           have h3 := gon_p1.mp h2
           rw [hC1 h1, b01_t (by omega)] at hx27
           omega)
        | (have hP2 := Classical.byContradiction (fun h => by rw [b01_f h] at hx27; omega)
           have hc1 := hC1 hP2.1
           have hv := hV2 (by omega)
           rw [hc1] at hP2 hv
           have hgn2 : gon (g (i + 1)) 1 := gon_p1.mpr (by omega)
           refine L_X9_readsStall hf f0 f1 n0 hfr hn C R 7 1 6 _ (((hR0.tr hD1.d).tr hD2.d).up (by omega)) (Or.inr ⟨rfl, ?_, ?_, ?_, ?_, ?_, ?_, ?_⟩) (by omega)
           · rw [vup_j _ _ _ _ (by omega), x13]; rfl
           · rw [vup_j _ _ _ _ (by omega), x13]; omega
           · rw [vup_j _ _ _ _ (by omega), vup_j _ _ _ _ (by omega), x13]; omega
           · rw [vup_j _ _ _ _ (by omega)]; omega
           · rw [vup_j _ _ _ _ (by omega)]
             exact fun q a b => gon_x hgo hgn2 q a (by omega)
           · rw [vup_v]; exact hv
           · rw [vup_j _ _ _ _ (by omega), x13]
             exact fun s j a b => by omega)
    · refine pw_iconst C dX9_readsStall_33 ?_
      refine pw_goto (tgt := 38) C dX9_readsStall_34 rfl ?_
      refine pw_istore_3 C dX9_readsStall_38 (k := ?_)
      refine pw_aload_n C dX9_readsStall_39 rfl ?_
      refine pw_aload_n C dX9_readsStall_40 rfl ?_
      refine gv_9_125 C dX9_readsStall_41 (fun r41 => ?_)
      refine pv_9_139 C (by omega) dX9_readsStall_44 ?_
      first
        | (have hx0 : x15 = 0 := by omega
           refine L_X9_readsStall hf f0 f1 n0 hfr hn C R 1 0 0 _ ((hR0.tr hD1.d).up (by omega)) (Or.inl ⟨rfl, rfl, ?_⟩) (by omega)
           rw [vup_j _ _ _ _ (by omega), hA1, hx0, Int.add_zero]
           refine FF.s (by omega) n0 (fun q a b => by omega) (fun h1 h2 => ?_) (fun h => by omega)
           rw [b01_t ⟨h1, by rw [hC0 h1]; exact gon_p0.mp h2⟩] at hx15
           omega)
        | (have hx0 : x27 = 0 := by omega
           refine L_X9_readsStall hf f0 f1 n0 hfr hn C R 1 0 0 _ (((hR0.tr hD1.d).tr hD2.d).up (by omega)) (Or.inl ⟨rfl, rfl, ?_⟩) (by omega)
           rw [vup_j _ _ _ _ (by omega), hA2, hx0, Int.add_zero]
           refine FF.s (by omega) (by omega) hgo (fun h1 h2 => ?_) (fun h => by omega)
           have h3 := gon_p1.mp h2
           rw [hC1 h1, b01_t (by omega)] at hx27
           omega)
        | (have hP2 := Classical.byContradiction (fun h => by rw [b01_f h] at hx27; omega)
           have hc1 := hC1 hP2.1
           have hv := hV2 (by omega)
           rw [hc1] at hP2 hv
           have hgn2 : gon (g (i + 1)) 1 := gon_p1.mpr (by omega)
           refine L_X9_readsStall hf f0 f1 n0 hfr hn C R 7 1 6 _ (((hR0.tr hD1.d).tr hD2.d).up (by omega)) (Or.inr ⟨rfl, ?_, ?_, ?_, ?_, ?_, ?_, ?_⟩) (by omega)
           · rw [vup_j _ _ _ _ (by omega), x13]; rfl
           · rw [vup_j _ _ _ _ (by omega), x13]; omega
           · rw [vup_j _ _ _ _ (by omega), vup_j _ _ _ _ (by omega), x13]; omega
           · rw [vup_j _ _ _ _ (by omega)]; omega
           · rw [vup_j _ _ _ _ (by omega)]
             exact fun q a b => gon_x hgo hgn2 q a (by omega)
           · rw [vup_v]; exact hv
           · rw [vup_j _ _ _ _ (by omega), x13]
             exact fun s j a b => by omega)
