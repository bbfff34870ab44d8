set_option maxRecDepth 100000 in
set_option maxHeartbeats 400000 in
theorem c_X9_readsSort {l : Launch} {S : SW} {M : Mem} {V : DM} {fr n : Int} {g : Int → Int} {i : Int}  (hfr : InR fr) (hn : InR n) (hf : ∀ q, 0 ≤ q → q < n → V 37 0 (fr + q) = g (i + q)) (f0 : 0 ≤ fr) (f1 : fr + n ≤ 240) (n0 : 0 ≤ n) (s0 : 0 ≤ V 0 0 13) (s4 : V 0 0 13 ≤ 4) (ha : V 0 0 10 = 2 + 6 * V 0 0 13) (hn9 : V 0 0 10 ≤ n) (hgo : ∀ q, 0 ≤ q → q < V 0 0 10 → gon (g (i + q)) q) (hrn : V 0 0 13 = 0 ∨ V 0 0 10 < n) : PM l S yX9_readsSort cX9_readsSort 5 (some .boolean) 2 50 [rv S 3 0 0, iv fr, iv n] (mst M 3 V) (rIQ (fun x N => ∃ W, N = mst M 3 W ∧ RsO V g i n x W)) := by
  refine PM.of (own := RX9) (by decide) rfl [some (rv S 3 0 0), some (iv fr), some (iv n), none, none] rfl rfl (Nat.le_of_ble_eq_true rfl) (fun X hXl C R => ?_)
  subst hXl
  refine pw_aload_n C dX9_readsSort_0 rfl ?_
  refine gv_9_128 C dX9_readsSort_1 (fun r1 => ?_)
  refine pw_iconst C dX9_readsSort_4 ?_
  refine pw_icmp_ge (tgt := 34) C dX9_readsSort_5 rfl (by omega) (by omega) (fun c5 => ?_) (fun c5 => ?_)
  · refine pw_iconst C dX9_readsSort_34 ?_
    refine pw_istore_3 C dX9_readsSort_35 (k := ?_)
    refine pw_iconst C dX9_readsSort_36 ?_
    refine pw_istore_4 C dX9_readsSort_37 (k := ?_)
    first
      | exact L_X9_readsSort hf f0 f1 n0 s0 s4 ha hn9 hgo hfr hn C R 5 0 0 V (by omega) (by omega) ⟨RdI.rf V, rfl, rfl, fun _ _ => rfl⟩ (Or.inl ⟨rfl, FF.s (by omega) hn9 hgo (fun _ => gon_26 (by omega)) (fun h => by omega)⟩) (by omega)
      | (have hx0 : x13 = 0 := by omega
         refine L_X9_readsSort hf f0 f1 n0 s0 s4 ha hn9 hgo hfr hn C R 5 0 0 W1 (by omega) (by omega) ⟨hD1.d, hD1 0 0 13 (by omega), hD1 0 0 12 (by omega), fun y _ => hD1 15 0 y (by omega)⟩ (Or.inl ⟨rfl, ?_⟩) (by omega)
         rw [hA1, hx0, Int.add_zero]
         refine FF.s (by omega) hn9 hgo (fun h1 h2 => ?_) (fun h => by omega)
         rw [b01_t ⟨h1, by rw [hC1 h1]; exact (hg1 (by omega)).mp h2⟩] at hx13
         omega)
      | (have hx0 : x24 = 0 := by omega
         refine L_X9_readsSort hf f0 f1 n0 s0 s4 ha hn9 hgo hfr hn C R 5 0 0 W2 (by omega) (by omega) ⟨hD1.d.tr hD2.d, (hD2 0 0 13 (by omega)).trans (hD1 0 0 13 (by omega)), (hD2 0 0 12 (by omega)).trans (hD1 0 0 12 (by omega)), fun y _ => (hD2 15 0 y (by omega)).trans (hD1 15 0 y (by omega))⟩ (Or.inl ⟨rfl, ?_⟩) (by omega)
         rw [hA2, hx0, Int.add_zero]
         refine FF.s (by omega) (by omega) hgo1 (fun h1 h2 => ?_) (fun h => by omega)
         rw [b01_t ⟨h1, by rw [hC2 h1]; exact hg2.mp h2⟩] at hx24
         omega)
      | (have hP2 : V 0 0 10 + 1 < n ∧ W1 37 0 (fr + (V 0 0 10 + 1)) = 102 := Classical.byContradiction (fun h => by rw [b01_f h] at hx24; omega)
         have hgn2 : gon (g (i + (V 0 0 10 + 1))) (V 0 0 10 + 1) := hg2.mpr (by rw [← hC2 hP2.1]; exact hP2.2)
         exact L_X9_readsSort hf f0 f1 n0 s0 s4 ha hn9 hgo hfr hn C R 5 0 1 W2 (by omega) (by omega) ⟨hD1.d.tr hD2.d, (hD2 0 0 13 (by omega)).trans (hD1 0 0 13 (by omega)), (hD2 0 0 12 (by omega)).trans (hD1 0 0 12 (by omega)), fun y _ => (hD2 15 0 y (by omega)).trans (hD1 15 0 y (by omega))⟩ (Or.inr ⟨rfl, by omega, by omega, by omega, fun q a b => gon_x hgo1 hgn2 q a (by omega), fun j a b => by omega⟩) (by omega))
  · refine pw_aload_n C dX9_readsSort_8 rfl ?_
    refine pw_bipush C dX9_readsSort_9 (by decide) ?_
    refine pw_iload_n C dX9_readsSort_11 rfl ?_
    refine pw_iload_n C dX9_readsSort_12 rfl ?_
    refine pw_cVQI C [_, _, _] mi_X9_takes mv_X9_takes ml_9_131 oM_0 rfl (c_X9_takes (by omega) (by omega) (by omega) (by omega) (by omega) (by omega)) (by decide) rfl (Nat.le_of_ble_eq_true rfl) dX9_readsSort_13 ?_
    rintro x13 N9 ⟨hx13, W1, rfl, hD1, hA1⟩
    have hb13 : x13 = 0 ∨ x13 = 1 := hx13 ▸ b01_r _
    have hC1 : V 0 0 10 < n → V 37 0 (fr + V 0 0 10) = g (i + V 0 0 10) := fun h => hf _ (by omega) h
    have hg1 : V 0 0 13 < 4 → (gon (g (i + V 0 0 10)) (V 0 0 10) ↔ g (i + V 0 0 10) = 59) := fun h => gon_0 (by omega) (by omega) (by omega)
    refine pw_if_eq (tgt := 34) C dX9_readsSort_16 rfl (by omega) (fun c16 => ?_) (fun c16 => ?_)
    · refine pw_iconst C dX9_readsSort_34 ?_
      refine pw_istore_3 C dX9_readsSort_35 (k := ?_)
      refine pw_iconst C dX9_readsSort_36 ?_
      refine pw_istore_4 C dX9_readsSort_37 (k := ?_)
      first
        | exact L_X9_readsSort hf f0 f1 n0 s0 s4 ha hn9 hgo hfr hn C R 5 0 0 V (by omega) (by omega) ⟨RdI.rf V, rfl, rfl, fun _ _ => rfl⟩ (Or.inl ⟨rfl, FF.s (by omega) hn9 hgo (fun _ => gon_26 (by omega)) (fun h => by omega)⟩) (by omega)
        | (have hx0 : x13 = 0 := by omega
           refine L_X9_readsSort hf f0 f1 n0 s0 s4 ha hn9 hgo hfr hn C R 5 0 0 W1 (by omega) (by omega) ⟨hD1.d, hD1 0 0 13 (by omega), hD1 0 0 12 (by omega), fun y _ => hD1 15 0 y (by omega)⟩ (Or.inl ⟨rfl, ?_⟩) (by omega)
           rw [hA1, hx0, Int.add_zero]
           refine FF.s (by omega) hn9 hgo (fun h1 h2 => ?_) (fun h => by omega)
           rw [b01_t ⟨h1, by rw [hC1 h1]; exact (hg1 (by omega)).mp h2⟩] at hx13
           omega)
        | (have hx0 : x24 = 0 := by omega
           refine L_X9_readsSort hf f0 f1 n0 s0 s4 ha hn9 hgo hfr hn C R 5 0 0 W2 (by omega) (by omega) ⟨hD1.d.tr hD2.d, (hD2 0 0 13 (by omega)).trans (hD1 0 0 13 (by omega)), (hD2 0 0 12 (by omega)).trans (hD1 0 0 12 (by omega)), fun y _ => (hD2 15 0 y (by omega)).trans (hD1 15 0 y (by omega))⟩ (Or.inl ⟨rfl, ?_⟩) (by omega)
           rw [hA2, hx0, Int.add_zero]
           refine FF.s (by omega) (by omega) hgo1 (fun h1 h2 => ?_) (fun h => by omega)
           rw [b01_t ⟨h1, by rw [hC2 h1]; exact hg2.mp h2⟩] at hx24
           omega)
        | (have hP2 : V 0 0 10 + 1 < n ∧ W1 37 0 (fr + (V 0 0 10 + 1)) = 102 := Classical.byContradiction (fun h => by rw [b01_f h] at hx24; omega)
           have hgn2 : gon (g (i + (V 0 0 10 + 1))) (V 0 0 10 + 1) := hg2.mpr (by rw [← hC2 hP2.1]; exact hP2.2)
           exact L_X9_readsSort hf f0 f1 n0 s0 s4 ha hn9 hgo hfr hn C R 5 0 1 W2 (by omega) (by omega) ⟨hD1.d.tr hD2.d, (hD2 0 0 13 (by omega)).trans (hD1 0 0 13 (by omega)), (hD2 0 0 12 (by omega)).trans (hD1 0 0 12 (by omega)), fun y _ => (hD2 15 0 y (by omega)).trans (hD1 15 0 y (by omega))⟩ (Or.inr ⟨rfl, by omega, by omega, by omega, fun q a b => gon_x hgo1 hgn2 q a (by omega), fun j a b => by omega⟩) (by omega))
    · refine pw_aload_n C dX9_readsSort_19 rfl ?_
      refine pw_bipush C dX9_readsSort_20 (by decide) ?_
      refine pw_iload_n C dX9_readsSort_22 rfl ?_
      refine pw_iload_n C dX9_readsSort_23 rfl ?_
      refine pw_cVQI C [_, _, _] mi_X9_takes mv_X9_takes ml_9_131 oM_0 rfl (c_X9_takes (by omega) (by omega) (by omega) (by omega) (by omega) (by omega)) (by decide) rfl (Nat.le_of_ble_eq_true rfl) dX9_readsSort_24 ?_
      rintro x24 N9 ⟨hx24, W2, rfl, hD2, hA2⟩
      have hb24 : x24 = 0 ∨ x24 = 1 := hx24 ▸ b01_r _
      have hP1 : V 0 0 10 < n ∧ V 37 0 (fr + V 0 0 10) = 59 := Classical.byContradiction (fun h => by rw [b01_f h] at hx13; omega)
      have hgn1 : gon (g (i + V 0 0 10)) (V 0 0 10) := (hg1 (by omega)).mpr (by rw [← hC1 hP1.1]; exact hP1.2)
      have w10 : W1 0 0 10 = V 0 0 10 + 1 := by omega
      have hC2 : V 0 0 10 + 1 < n → W1 37 0 (fr + (V 0 0 10 + 1)) = g (i + (V 0 0 10 + 1)) := fun h => (hD1 37 0 _ (by omega)).trans (hf _ (by omega) h)
      have hg2 : gon (g (i + (V 0 0 10 + 1))) (V 0 0 10 + 1) ↔ g (i + (V 0 0 10 + 1)) = 102 := gon_102 (by omega) (by omega) (by omega)
      have hgo1 := gon_x hgo hgn1
      rw [w10] at hx24 hA2
      refine pw_if_eq (tgt := 34) C dX9_readsSort_27 rfl (by omega) (fun c27 => ?_) (fun c27 => ?_)
      · refine pw_iconst C dX9_readsSort_34 ?_
        refine pw_istore_3 C dX9_readsSort_35 (k := ?_)
        refine pw_iconst C dX9_readsSort_36 ?_
        refine pw_istore_4 C dX9_readsSort_37 (k := ?_)
        first
          | exact L_X9_readsSort hf f0 f1 n0 s0 s4 ha hn9 hgo hfr hn C R 5 0 0 V (by omega) (by omega) ⟨RdI.rf V, rfl, rfl, fun _ _ => rfl⟩ (Or.inl ⟨rfl, FF.s (by omega) hn9 hgo (fun _ => gon_26 (by omega)) (fun h => by omega)⟩) (by omega)
          | (have hx0 : x13 = 0 := by omega
             refine L_X9_readsSort hf f0 f1 n0 s0 s4 ha hn9 hgo hfr hn C R 5 0 0 W1 (by omega) (by omega) ⟨hD1.d, hD1 0 0 13 (by omega), hD1 0 0 12 (by omega), fun y _ => hD1 15 0 y (by omega)⟩ (Or.inl ⟨rfl, ?_⟩) (by omega)
             rw [hA1, hx0, Int.add_zero]
             refine FF.s (by omega) hn9 hgo (fun h1 h2 => ?_) (fun h => by omega)
             rw [b01_t ⟨h1, by rw [hC1 h1]; exact (hg1 (by omega)).mp h2⟩] at hx13
             omega)
          | (have hx0 : x24 = 0 := by omega
             refine L_X9_readsSort hf f0 f1 n0 s0 s4 ha hn9 hgo hfr hn C R 5 0 0 W2 (by omega) (by omega) ⟨hD1.d.tr hD2.d, (hD2 0 0 13 (by omega)).trans (hD1 0 0 13 (by omega)), (hD2 0 0 12 (by omega)).trans (hD1 0 0 12 (by omega)), fun y _ => (hD2 15 0 y (by omega)).trans (hD1 15 0 y (by omega))⟩ (Or.inl ⟨rfl, ?_⟩) (by omega)
             rw [hA2, hx0, Int.add_zero]
             refine FF.s (by omega) (by omega) hgo1 (fun h1 h2 => ?_) (fun h => by omega)
             rw [b01_t ⟨h1, by rw [hC2 h1]; exact hg2.mp h2⟩] at hx24
             omega)
          | (have hP2 : V 0 0 10 + 1 < n ∧ W1 37 0 (fr + (V 0 0 10 + 1)) = 102 := Classical.byContradiction (fun h => by rw [b01_f h] at hx24; omega)
             have hgn2 : gon (g (i + (V 0 0 10 + 1))) (V 0 0 10 + 1) := hg2.mpr (by rw [← hC2 hP2.1]; exact hP2.2)
             exact L_X9_readsSort hf f0 f1 n0 s0 s4 ha hn9 hgo hfr hn C R 5 0 1 W2 (by omega) (by omega) ⟨hD1.d.tr hD2.d, (hD2 0 0 13 (by omega)).trans (hD1 0 0 13 (by omega)), (hD2 0 0 12 (by omega)).trans (hD1 0 0 12 (by omega)), fun y _ => (hD2 15 0 y (by omega)).trans (hD1 15 0 y (by omega))⟩ (Or.inr ⟨rfl, by omega, by omega, by omega, fun q a b => gon_x hgo1 hgn2 q a (by omega), fun j a b => by omega⟩) (by omega))
      · refine pw_iconst C dX9_readsSort_30 ?_
        refine pw_goto (tgt := 35) C dX9_readsSort_31 rfl ?_
        refine pw_istore_3 C dX9_readsSort_35 (k := ?_)
        refine pw_iconst C dX9_readsSort_36 ?_
        refine pw_istore_4 C dX9_readsSort_37 (k := ?_)
        first
          | exact L_X9_readsSort hf f0 f1 n0 s0 s4 ha hn9 hgo hfr hn C R 5 0 0 V (by omega) (by omega) ⟨RdI.rf V, rfl, rfl, fun _ _ => rfl⟩ (Or.inl ⟨rfl, FF.s (by omega) hn9 hgo (fun _ => gon_26 (by omega)) (fun h => by omega)⟩) (by omega)
          | (have hx0 : x13 = 0 := by omega
             refine L_X9_readsSort hf f0 f1 n0 s0 s4 ha hn9 hgo hfr hn C R 5 0 0 W1 (by omega) (by omega) ⟨hD1.d, hD1 0 0 13 (by omega), hD1 0 0 12 (by omega), fun y _ => hD1 15 0 y (by omega)⟩ (Or.inl ⟨rfl, ?_⟩) (by omega)
             rw [hA1, hx0, Int.add_zero]
             refine FF.s (by omega) hn9 hgo (fun h1 h2 => ?_) (fun h => by omega)
             rw [b01_t ⟨h1, by rw [hC1 h1]; exact (hg1 (by omega)).mp h2⟩] at hx13
             omega)
          | (have hx0 : x24 = 0 := by omega
             refine L_X9_readsSort hf f0 f1 n0 s0 s4 ha hn9 hgo hfr hn C R 5 0 0 W2 (by omega) (by omega) ⟨hD1.d.tr hD2.d, (hD2 0 0 13 (by omega)).trans (hD1 0 0 13 (by omega)), (hD2 0 0 12 (by omega)).trans (hD1 0 0 12 (by omega)), fun y _ => (hD2 15 0 y (by omega)).trans (hD1 15 0 y (by omega))⟩ (Or.inl ⟨rfl, ?_⟩) (by omega)
             rw [hA2, hx0, Int.add_zero]
             refine FF.s (by omega) (by omega) hgo1 (fun h1 h2 => ?_) (fun h => by omega)
             rw [b01_t ⟨h1, by rw [hC2 h1]; exact hg2.mp h2⟩] at hx24
             omega)
          | (have hP2 : V 0 0 10 + 1 < n ∧ W1 37 0 (fr + (V 0 0 10 + 1)) = 102 := Classical.byContradiction (fun h => by rw [b01_f h] at hx24; omega)
             have hgn2 : gon (g (i + (V 0 0 10 + 1))) (V 0 0 10 + 1) := hg2.mpr (by rw [← hC2 hP2.1]; exact hP2.2)
             exact L_X9_readsSort hf f0 f1 n0 s0 s4 ha hn9 hgo hfr hn C R 5 0 1 W2 (by omega) (by omega) ⟨hD1.d.tr hD2.d, (hD2 0 0 13 (by omega)).trans (hD1 0 0 13 (by omega)), (hD2 0 0 12 (by omega)).trans (hD1 0 0 12 (by omega)), fun y _ => (hD2 15 0 y (by omega)).trans (hD1 15 0 y (by omega))⟩ (Or.inr ⟨rfl, by omega, by omega, by omega, fun q a b => gon_x hgo1 hgn2 q a (by omega), fun j a b => by omega⟩) (by omega))
