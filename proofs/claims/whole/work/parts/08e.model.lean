def drB (V : DM) (s t n : Int) : Prop := ∃ q, 0 ≤ q ∧ q < n ∧ 0 < V 21 0 q ∧ V 8 0 (8 * s + t) < V 8 0 (8 * q + t)
theorem drB_s {V : DM} {s t n : Int} (h0 : 0 ≤ n) : drB V s t (n + 1) ↔ drB V s t n ∨ (0 < V 21 0 n ∧ V 8 0 (8 * s + t) < V 8 0 (8 * n + t)) := by
  constructor
  · rintro ⟨q, a, b, c, e⟩
    by_cases h : q = n
    · rw [h] at c e; exact Or.inr ⟨c, e⟩
    · exact Or.inl ⟨q, a, by omega, c, e⟩
  · rintro (⟨q, a, b, c, e⟩ | ⟨c, e⟩)
    · exact ⟨q, a, by omega, c, e⟩
    · exact ⟨n, h0, by omega, c, e⟩
theorem drB_m {V : DM} {s t : Int} (t0 : 0 ≤ t) (t1 : t < 8) : drB V s t (V 0 0 2) ↔ dearer (mv V) s t := by
  unfold drB dearer
  rw [mv_7 V s t0 t1]
  constructor
  · rintro ⟨q, a, b, c, e⟩
    exact ⟨q, a, b, c, by rw [mv_7 V q t0 t1]; exact e⟩
  · rintro ⟨q, a, b, c, e⟩
    rw [mv_7 V q t0 t1] at e
    exact ⟨q, a, b, c, e⟩
set_option maxRecDepth 100000 in
set_option maxHeartbeats 400000 in
theorem L_X9_hasDearer {X : PX} {S : SW} {M : Mem} {V : DM} {s t : Int}  (hI : DayOk (mv V)) (s0 : 0 ≤ s) (s1 : s < V 0 0 2) (t0 : 0 ≤ t) (t1 : t < V 0 0 1) (hs : InR s) (ht : InR t) (C : Cx X S RX9 cX9_hasDearer 1 22) (R : CR X S (rI (b01 (dearer (mv V) s t)) (mst M 3 V)) (some .boolean)) :
    ∀ (n9 : Nat) (f r : Int), (0 ≤ r) → (r ≤ V 0 0 2) → (f = b01 (drB V s t r)) → V 0 0 2 - r < n9 → PW X S (mst M 3 V) 5 [some (rv S 3 0 0), some (iv s), some (iv t), some (iv f), some (iv r)] [] := by
  obtain ⟨i1, i2, i3, i4, i5, i6, i7, i8⟩ := id hI
  have e5 : mv V 1 0 5 = V 0 0 1 := rfl
  have e6 : mv V 1 0 6 = V 0 0 2 := rfl
  have e7 : mv V 1 0 7 = V 0 0 8 := rfl
  have e8 : mv V 1 0 8 = V 0 0 9 := rfl
  have e84 : mv V 8 0 4 = V 0 0 15 := rfl
  have pr : ∀ q, 0 ≤ q → q < V 0 0 2 → 0 ≤ V 8 0 (8 * q + t) ∧ V 8 0 (8 * q + t) ≤ 30 := fun q a b => by
    have h := i6 q t a b t0 t1
    rw [mv_7 V q t0 (by omega)] at h
    exact h
  have ps := pr s s0 s1
  intro n9
  induction n9 with
  | zero => intro f r r0 r1 hf hn9; omega
  | succ n9 ih =>
    intro f r r0 r1 hf hn9
    refine pw_iload C dX9_hasDearer_5 rfl ?_
    refine pw_aload_n C dX9_hasDearer_7 rfl ?_
    refine gv_9_116 C dX9_hasDearer_8 (fun r8 => ?_)
    refine pw_icmp_ge (tgt := 56) C dX9_hasDearer_11 rfl (by omega) (by omega) (fun c11 => ?_) (fun c11 => ?_)
    · refine pw_iload_n C dX9_hasDearer_56 rfl ?_
      rw [show r = V 0 0 2 by omega] at hf
      subst hf
      exact pw_zretb C R dX9_hasDearer_57 (drB_m t0 (by omega)) rfl
    · have px := pr r r0 (by omega)
      have hb := b01_r (drB V s t r)
      have hss := drB_s (V := V) (s := s) (t := t) r0
      refine pw_iload_n C dX9_hasDearer_14 rfl ?_
      refine pw_if_ne (tgt := 44) C dX9_hasDearer_15 rfl (by omega) (fun c15 => ?_) (fun c15 => ?_)
      · refine pw_iconst C dX9_hasDearer_44 ?_
        refine pw_goto (tgt := 49) C dX9_hasDearer_45 rfl ?_
        refine pw_istore_3 C dX9_hasDearer_49 (k := ?_)
        refine pw_iinc_4 C dX9_hasDearer_50 (k := ?_)
        refine pw_goto (tgt := 5) C dX9_hasDearer_53 rfl ?_
        first
          | exact ih 1 (r + 1) (by omega) (by omega) (by
              refine (b01_t (hss.mpr ?_)).symm
              first
                | exact Or.inr ⟨by assumption, by omega⟩
                | (refine Or.inl (Classical.byContradiction fun h => ?_)
                   rw [b01_f h] at hf
                   contradiction)) (by omega)
          | exact ih 0 (r + 1) (by omega) (by omega) (by
              have hn : ¬ drB V s t r := fun h => by rw [b01_t h] at hf; omega
              refine (b01_f (fun h => ?_)).symm
              rcases hss.mp h with h | h
              · exact hn h
              · have := h.1
                have := h.2
                omega) (by omega)
      · refine pw_aload_n C dX9_hasDearer_18 rfl ?_
        refine gf_9_40 C dX9_hasDearer_19 ?_
        refine pw_iload C dX9_hasDearer_22 rfl ?_
        refine pw_ialdV C aM_21 (by omega) (by omega) (by decide) dX9_hasDearer_24 (fun r24 => ?_)
        refine pw_if_le (tgt := 48) C dX9_hasDearer_25 rfl (by omega) (fun c25 => ?_) (fun c25 => ?_)
        · refine pw_iconst C dX9_hasDearer_48 ?_
          refine pw_istore_3 C dX9_hasDearer_49 (k := ?_)
          refine pw_iinc_4 C dX9_hasDearer_50 (k := ?_)
          refine pw_goto (tgt := 5) C dX9_hasDearer_53 rfl ?_
          first
            | exact ih 1 (r + 1) (by omega) (by omega) (by
                refine (b01_t (hss.mpr ?_)).symm
                first
                  | exact Or.inr ⟨by assumption, by omega⟩
                  | (refine Or.inl (Classical.byContradiction fun h => ?_)
                     rw [b01_f h] at hf
                     contradiction)) (by omega)
            | exact ih 0 (r + 1) (by omega) (by omega) (by
                have hn : ¬ drB V s t r := fun h => by rw [b01_t h] at hf; omega
                refine (b01_f (fun h => ?_)).symm
                rcases hss.mp h with h | h
                · exact hn h
                · have := h.1
                  have := h.2
                  omega) (by omega)
        · refine pw_aload_n C dX9_hasDearer_28 rfl ?_
          refine pw_iload C dX9_hasDearer_29 rfl ?_
          refine pw_iload_n C dX9_hasDearer_31 rfl ?_
          refine pw_cVI C [_, _] mi_X9_priceOf mv_X9_priceOf ml_9_180 oM_0 rfl (c_X9_priceOf (by omega) (by omega) (by omega) (by omega) (by omega) (by omega)) (by decide) rfl (Nat.le_of_ble_eq_true rfl) dX9_hasDearer_32 ?_
          refine pw_aload_n C dX9_hasDearer_35 rfl ?_
          refine pw_iload_n C dX9_hasDearer_36 rfl ?_
          refine pw_iload_n C dX9_hasDearer_37 rfl ?_
          refine pw_cVI C [_, _] mi_X9_priceOf mv_X9_priceOf ml_9_180 oM_0 rfl (c_X9_priceOf (by omega) (by omega) (by omega) (by omega) (by omega) (by omega)) (by decide) rfl (Nat.le_of_ble_eq_true rfl) dX9_hasDearer_38 ?_
          refine pw_icmp_le (tgt := 48) C dX9_hasDearer_41 rfl (by omega) (by omega) (fun c41 => ?_) (fun c41 => ?_)
          · refine pw_iconst C dX9_hasDearer_48 ?_
            refine pw_istore_3 C dX9_hasDearer_49 (k := ?_)
            refine pw_iinc_4 C dX9_hasDearer_50 (k := ?_)
            refine pw_goto (tgt := 5) C dX9_hasDearer_53 rfl ?_
            first
              | exact ih 1 (r + 1) (by omega) (by omega) (by
                  refine (b01_t (hss.mpr ?_)).symm
                  first
                    | exact Or.inr ⟨by assumption, by omega⟩
                    | (refine Or.inl (Classical.byContradiction fun h => ?_)
                       rw [b01_f h] at hf
                       contradiction)) (by omega)
              | exact ih 0 (r + 1) (by omega) (by omega) (by
                  have hn : ¬ drB V s t r := fun h => by rw [b01_t h] at hf; omega
                  refine (b01_f (fun h => ?_)).symm
                  rcases hss.mp h with h | h
                  · exact hn h
                  · have := h.1
                    have := h.2
                    omega) (by omega)
          · refine pw_iconst C dX9_hasDearer_44 ?_
            refine pw_goto (tgt := 49) C dX9_hasDearer_45 rfl ?_
            refine pw_istore_3 C dX9_hasDearer_49 (k := ?_)
            refine pw_iinc_4 C dX9_hasDearer_50 (k := ?_)
            refine pw_goto (tgt := 5) C dX9_hasDearer_53 rfl ?_
            first
              | exact ih 1 (r + 1) (by omega) (by omega) (by
                  refine (b01_t (hss.mpr ?_)).symm
                  first
                    | exact Or.inr ⟨by assumption, by omega⟩
                    | (refine Or.inl (Classical.byContradiction fun h => ?_)
                       rw [b01_f h] at hf
                       contradiction)) (by omega)
              | exact ih 0 (r + 1) (by omega) (by omega) (by
                  have hn : ¬ drB V s t r := fun h => by rw [b01_t h] at hf; omega
                  refine (b01_f (fun h => ?_)).symm
                  rcases hss.mp h with h | h
                  · exact hn h
                  · have := h.1
                    have := h.2
                    omega) (by omega)
set_option maxRecDepth 100000 in
set_option maxHeartbeats 400000 in
theorem c_X9_hasDearer {l : Launch} {S : SW} {M : Mem} {V : DM} {s t : Int}  (hs : InR s) (ht : InR t) (hI : DayOk (mv V)) (s0 : 0 ≤ s) (s1 : s < V 0 0 2) (t0 : 0 ≤ t) (t1 : t < V 0 0 1) : PM l S yX9_hasDearer cX9_hasDearer 5 (some .boolean) 1 22 [rv S 3 0 0, iv s, iv t] (mst M 3 V) (rI (b01 (dearer (mv V) s t)) (mst M 3 V)) := by
  refine PM.of (own := RX9) (by decide) rfl [some (rv S 3 0 0), some (iv s), some (iv t), none, none] rfl rfl (Nat.le_of_ble_eq_true rfl) (fun X hXl C R => ?_)
  subst hXl
  obtain ⟨i1, i2, i3, i4, i5, i6, i7, i8⟩ := id hI
  have e5 : mv V 1 0 5 = V 0 0 1 := rfl
  have e6 : mv V 1 0 6 = V 0 0 2 := rfl
  have e7 : mv V 1 0 7 = V 0 0 8 := rfl
  have e8 : mv V 1 0 8 = V 0 0 9 := rfl
  have e84 : mv V 8 0 4 = V 0 0 15 := rfl
  refine pw_iconst C dX9_hasDearer_0 ?_
  refine pw_istore_3 C dX9_hasDearer_1 (k := ?_)
  refine pw_iconst C dX9_hasDearer_2 ?_
  refine pw_istore_4 C dX9_hasDearer_3 (k := ?_)
  exact L_X9_hasDearer hI s0 s1 t0 t1 hs ht C R (V 0 0 2 + 1).toNat 0 0 (by omega) (by omega) (b01_f (fun h => by obtain ⟨q, a, b, -⟩ := h; omega)).symm (by omega)
set_option maxRecDepth 100000 in
set_option maxHeartbeats 400000 in
theorem c_X9_worthOf {l : Launch} {S : SW} {M : Mem} {V : DM} {x s t : Int}  (hx : InR x) (hs : InR s) (ht : InR t) (hI : DayOk (mv V)) (x0 : 0 ≤ x) (x1 : x < V 0 0 15) (s0 : 0 ≤ s) (s1 : s < V 0 0 2) (t0 : 0 ≤ t) (t1 : t < V 0 0 1) : PM l S yX9_worthOf cX9_worthOf 5 (some .int) 2 46 [rv S 3 0 0, iv x, iv s, iv t] (mst M 3 V) (rI (worth (mv V) x s t) (mst M 3 V)) := by
  refine PM.of (own := RX9) (by decide) rfl [some (rv S 3 0 0), some (iv x), some (iv s), some (iv t), none] rfl rfl (Nat.le_of_ble_eq_true rfl) (fun X hXl C R => ?_)
  subst hXl
  obtain ⟨i1, i2, i3, i4, i5, i6, i7, i8⟩ := id hI
  have e5 : mv V 1 0 5 = V 0 0 1 := rfl
  have e6 : mv V 1 0 6 = V 0 0 2 := rfl
  have e7 : mv V 1 0 7 = V 0 0 8 := rfl
  have e8 : mv V 1 0 8 = V 0 0 9 := rfl
  have e84 : mv V 8 0 4 = V 0 0 15 := rfl
  have ix : _ ∧ (0 ≤ V 18 0 x ∧ V 18 0 x < V 0 0 2) ∧ (0 ≤ V 19 0 x ∧ V 19 0 x ≤ 40) ∧ _ := i4 x x0 x1
  have kf := freshAt_r hI s0 s1 t0 (show t ≤ 8 by omega)
  have ps : 0 ≤ V 8 0 (8 * s + t) ∧ V 8 0 (8 * s + t) ≤ 30 := by
    have h := i6 s t s0 s1 t0 t1
    rw [mv_7 V s t0 (by omega)] at h
    exact h
  refine pw_aload_n C dX9_worthOf_0 rfl ?_
  refine gf_9_34 C dX9_worthOf_1 ?_
  refine pw_iload_n C dX9_worthOf_4 rfl ?_
  refine pw_ialdV C aM_19 (by omega) (by omega) (by decide) dX9_worthOf_5 (fun r5 => ?_)
  refine pw_bipush C dX9_worthOf_6 (by decide) ?_
  refine pw_isub C dX9_worthOf_8 ?_
  refine pw_aload_n C dX9_worthOf_9 rfl ?_
  refine pw_iload_n C dX9_worthOf_10 rfl ?_
  refine pw_iload_n C dX9_worthOf_11 rfl ?_
  refine pw_cVI C [_, _] mi_X9_freshAt mv_X9_freshAt ml_9_173 oM_0 rfl (c_X9_freshAt (by omega) (by omega) (by assumption) (by omega) (by omega) (by omega) (by omega)) (by decide) rfl (Nat.le_of_ble_eq_true rfl) dX9_worthOf_12 ?_
  refine pw_iadd C dX9_worthOf_15 ?_
  refine pw_iload_n C dX9_worthOf_16 rfl ?_
  refine pw_aload_n C dX9_worthOf_17 rfl ?_
  refine gf_9_31 C dX9_worthOf_18 ?_
  refine pw_iload_n C dX9_worthOf_21 rfl ?_
  refine pw_ialdV C aM_18 (by omega) (by omega) (by decide) dX9_worthOf_22 (fun r22 => ?_)
  refine pw_icmp_ne (tgt := 30) C dX9_worthOf_23 rfl (by omega) (by omega) (fun c23 => ?_) (fun c23 => ?_)
  · refine pw_iconst C dX9_worthOf_30 ?_
    refine pw_isub C dX9_worthOf_31 ?_
    refine pw_istore_4 C dX9_worthOf_32 (k := ?_)
    refine pw_aload_n C dX9_worthOf_34 rfl ?_
    refine gv_9_159 C dX9_worthOf_35 (fun r35 => ?_)
    refine pw_if_eq (tgt := 57) C dX9_worthOf_38 rfl (by omega) (fun c38 => ?_) (fun c38 => ?_)
    · refine pw_iload C dX9_worthOf_57 rfl ?_
      exact pw_ireti C R dX9_worthOf_59 (by unfold worth; show _ = V 19 0 x - (9 - freshAt (mv V) s t) - 2 * b01 (s ≠ V 18 0 x) + b01 (V 0 0 9 ≠ 0 ∧ dearer (mv V) s t); (first | rw [b01_f (show ¬ (s ≠ V 18 0 x) by omega)] | rw [b01_t (show s ≠ V 18 0 x by omega)]); (first | rw [b01_t (show V 0 0 9 ≠ 0 ∧ dearer (mv V) s t from ⟨by omega, by assumption⟩)] | rw [b01_f (show ¬ (V 0 0 9 ≠ 0 ∧ dearer (mv V) s t) from fun h => absurd h.1 (by omega))] | rw [b01_f (show ¬ (V 0 0 9 ≠ 0 ∧ dearer (mv V) s t) from fun h => absurd h.2 (by assumption))]); omega) rfl
    · refine pw_aload_n C dX9_worthOf_41 rfl ?_
      refine pw_iload_n C dX9_worthOf_42 rfl ?_
      refine pw_iload_n C dX9_worthOf_43 rfl ?_
      refine pw_cVI C [_, _] mi_X9_hasDearer mv_X9_hasDearer ml_9_191 oM_0 rfl (c_X9_hasDearer (by omega) (by omega) (by assumption) (by omega) (by omega) (by omega) (by omega)) (by decide) rfl (Nat.le_of_ble_eq_true rfl) dX9_worthOf_44 ?_
      refine pw_if_eq_b (tgt := 57) C dX9_worthOf_47 rfl (fun c47 => ?_) (fun c47 => ?_)
      · refine pw_iload C dX9_worthOf_57 rfl ?_
        exact pw_ireti C R dX9_worthOf_59 (by unfold worth; show _ = V 19 0 x - (9 - freshAt (mv V) s t) - 2 * b01 (s ≠ V 18 0 x) + b01 (V 0 0 9 ≠ 0 ∧ dearer (mv V) s t); (first | rw [b01_f (show ¬ (s ≠ V 18 0 x) by omega)] | rw [b01_t (show s ≠ V 18 0 x by omega)]); (first | rw [b01_t (show V 0 0 9 ≠ 0 ∧ dearer (mv V) s t from ⟨by omega, by assumption⟩)] | rw [b01_f (show ¬ (V 0 0 9 ≠ 0 ∧ dearer (mv V) s t) from fun h => absurd h.1 (by omega))] | rw [b01_f (show ¬ (V 0 0 9 ≠ 0 ∧ dearer (mv V) s t) from fun h => absurd h.2 (by assumption))]); omega) rfl
      · refine pw_iload C dX9_worthOf_50 rfl ?_
        refine pw_iconst C dX9_worthOf_52 ?_
        refine pw_iadd C dX9_worthOf_53 ?_
        refine pw_goto (tgt := 59) C dX9_worthOf_54 rfl ?_
        exact pw_ireti C R dX9_worthOf_59 (by unfold worth; show _ = V 19 0 x - (9 - freshAt (mv V) s t) - 2 * b01 (s ≠ V 18 0 x) + b01 (V 0 0 9 ≠ 0 ∧ dearer (mv V) s t); (first | rw [b01_f (show ¬ (s ≠ V 18 0 x) by omega)] | rw [b01_t (show s ≠ V 18 0 x by omega)]); (first | rw [b01_t (show V 0 0 9 ≠ 0 ∧ dearer (mv V) s t from ⟨by omega, by assumption⟩)] | rw [b01_f (show ¬ (V 0 0 9 ≠ 0 ∧ dearer (mv V) s t) from fun h => absurd h.1 (by omega))] | rw [b01_f (show ¬ (V 0 0 9 ≠ 0 ∧ dearer (mv V) s t) from fun h => absurd h.2 (by assumption))]); omega) rfl
  · refine pw_iconst C dX9_worthOf_26 ?_
    refine pw_goto (tgt := 31) C dX9_worthOf_27 rfl ?_
    refine pw_isub C dX9_worthOf_31 ?_
    refine pw_istore_4 C dX9_worthOf_32 (k := ?_)
    refine pw_aload_n C dX9_worthOf_34 rfl ?_
    refine gv_9_159 C dX9_worthOf_35 (fun r35 => ?_)
    refine pw_if_eq (tgt := 57) C dX9_worthOf_38 rfl (by omega) (fun c38 => ?_) (fun c38 => ?_)
    · refine pw_iload C dX9_worthOf_57 rfl ?_
      exact pw_ireti C R dX9_worthOf_59 (by unfold worth; show _ = V 19 0 x - (9 - freshAt (mv V) s t) - 2 * b01 (s ≠ V 18 0 x) + b01 (V 0 0 9 ≠ 0 ∧ dearer (mv V) s t); (first | rw [b01_f (show ¬ (s ≠ V 18 0 x) by omega)] | rw [b01_t (show s ≠ V 18 0 x by omega)]); (first | rw [b01_t (show V 0 0 9 ≠ 0 ∧ dearer (mv V) s t from ⟨by omega, by assumption⟩)] | rw [b01_f (show ¬ (V 0 0 9 ≠ 0 ∧ dearer (mv V) s t) from fun h => absurd h.1 (by omega))] | rw [b01_f (show ¬ (V 0 0 9 ≠ 0 ∧ dearer (mv V) s t) from fun h => absurd h.2 (by assumption))]); omega) rfl
    · refine pw_aload_n C dX9_worthOf_41 rfl ?_
      refine pw_iload_n C dX9_worthOf_42 rfl ?_
      refine pw_iload_n C dX9_worthOf_43 rfl ?_
      refine pw_cVI C [_, _] mi_X9_hasDearer mv_X9_hasDearer ml_9_191 oM_0 rfl (c_X9_hasDearer (by omega) (by omega) (by assumption) (by omega) (by omega) (by omega) (by omega)) (by decide) rfl (Nat.le_of_ble_eq_true rfl) dX9_worthOf_44 ?_
      refine pw_if_eq_b (tgt := 57) C dX9_worthOf_47 rfl (fun c47 => ?_) (fun c47 => ?_)
      · refine pw_iload C dX9_worthOf_57 rfl ?_
        exact pw_ireti C R dX9_worthOf_59 (by unfold worth; show _ = V 19 0 x - (9 - freshAt (mv V) s t) - 2 * b01 (s ≠ V 18 0 x) + b01 (V 0 0 9 ≠ 0 ∧ dearer (mv V) s t); (first | rw [b01_f (show ¬ (s ≠ V 18 0 x) by omega)] | rw [b01_t (show s ≠ V 18 0 x by omega)]); (first | rw [b01_t (show V 0 0 9 ≠ 0 ∧ dearer (mv V) s t from ⟨by omega, by assumption⟩)] | rw [b01_f (show ¬ (V 0 0 9 ≠ 0 ∧ dearer (mv V) s t) from fun h => absurd h.1 (by omega))] | rw [b01_f (show ¬ (V 0 0 9 ≠ 0 ∧ dearer (mv V) s t) from fun h => absurd h.2 (by assumption))]); omega) rfl
      · refine pw_iload C dX9_worthOf_50 rfl ?_
        refine pw_iconst C dX9_worthOf_52 ?_
        refine pw_iadd C dX9_worthOf_53 ?_
        refine pw_goto (tgt := 59) C dX9_worthOf_54 rfl ?_
        exact pw_ireti C R dX9_worthOf_59 (by unfold worth; show _ = V 19 0 x - (9 - freshAt (mv V) s t) - 2 * b01 (s ≠ V 18 0 x) + b01 (V 0 0 9 ≠ 0 ∧ dearer (mv V) s t); (first | rw [b01_f (show ¬ (s ≠ V 18 0 x) by omega)] | rw [b01_t (show s ≠ V 18 0 x by omega)]); (first | rw [b01_t (show V 0 0 9 ≠ 0 ∧ dearer (mv V) s t from ⟨by omega, by assumption⟩)] | rw [b01_f (show ¬ (V 0 0 9 ≠ 0 ∧ dearer (mv V) s t) from fun h => absurd h.1 (by omega))] | rw [b01_f (show ¬ (V 0 0 9 ≠ 0 ∧ dearer (mv V) s t) from fun h => absurd h.2 (by assumption))]); omega) rfl
noncomputable def gaM (V : DM) (x s t : Int) : Int := if 0 < V 21 0 s ∧ 0 ≤ worth (mv V) x s t - V 8 0 (8 * s + t) then worth (mv V) x s t - V 8 0 (8 * s + t) else -9
set_option maxRecDepth 100000 in
set_option maxHeartbeats 400000 in
theorem c_X9_gainOf {l : Launch} {S : SW} {M : Mem} {V : DM} {x s t : Int}  (hx : InR x) (hs : InR s) (ht : InR t) (hI : DayOk (mv V)) (x0 : 0 ≤ x) (x1 : x < V 0 0 15) (s0 : 0 ≤ s) (s1 : s < V 0 0 2) (t0 : 0 ≤ t) (t1 : t < V 0 0 1) : PM l S yX9_gainOf cX9_gainOf 5 (some .int) 3 70 [rv S 3 0 0, iv x, iv s, iv t] (mst M 3 V) (rI (gaM V x s t) (mst M 3 V)) := by
  refine PM.of (own := RX9) (by decide) rfl [some (rv S 3 0 0), some (iv x), some (iv s), some (iv t), none] rfl rfl (Nat.le_of_ble_eq_true rfl) (fun X hXl C R => ?_)
  subst hXl
  obtain ⟨i1, i2, i3, i4, i5, i6, i7, i8⟩ := id hI
  have e5 : mv V 1 0 5 = V 0 0 1 := rfl
  have e6 : mv V 1 0 6 = V 0 0 2 := rfl
  have e7 : mv V 1 0 7 = V 0 0 8 := rfl
  have e8 : mv V 1 0 8 = V 0 0 9 := rfl
  have e84 : mv V 8 0 4 = V 0 0 15 := rfl
  have ix : _ ∧ (0 ≤ V 18 0 x ∧ V 18 0 x < V 0 0 2) ∧ (0 ≤ V 19 0 x ∧ V 19 0 x ≤ 40) ∧ _ := i4 x x0 x1
  have kf := freshAt_r hI s0 s1 t0 (show t ≤ 8 by omega)
  have ps : 0 ≤ V 8 0 (8 * s + t) ∧ V 8 0 (8 * s + t) ≤ 30 := by
    have h := i6 s t s0 s1 t0 t1
    rw [mv_7 V s t0 (by omega)] at h
    exact h
  have iw := worth_r hI x0 x1 s0 s1 t0 t1
  refine pw_aload_n C dX9_gainOf_0 rfl ?_
  refine pw_iload_n C dX9_gainOf_1 rfl ?_
  refine pw_iload_n C dX9_gainOf_2 rfl ?_
  refine pw_iload_n C dX9_gainOf_3 rfl ?_
  refine pw_cVI C [_, _, _] mi_X9_worthOf mv_X9_worthOf ml_9_197 oM_0 rfl (c_X9_worthOf (by omega) (by omega) (by omega) (by assumption) (by omega) (by omega) (by omega) (by omega) (by omega) (by omega)) (by decide) rfl (Nat.le_of_ble_eq_true rfl) dX9_gainOf_4 ?_
  refine pw_aload_n C dX9_gainOf_7 rfl ?_
  refine pw_iload_n C dX9_gainOf_8 rfl ?_
  refine pw_iload_n C dX9_gainOf_9 rfl ?_
  refine pw_cVI C [_, _] mi_X9_priceOf mv_X9_priceOf ml_9_180 oM_0 rfl (c_X9_priceOf (by omega) (by omega) (by omega) (by omega) (by omega) (by omega)) (by decide) rfl (Nat.le_of_ble_eq_true rfl) dX9_gainOf_10 ?_
  refine pw_isub C dX9_gainOf_13 ?_
  refine pw_istore_4 C dX9_gainOf_14 (k := ?_)
  refine pw_aload_n C dX9_gainOf_16 rfl ?_
  refine gf_9_40 C dX9_gainOf_17 ?_
  refine pw_iload_n C dX9_gainOf_20 rfl ?_
  refine pw_ialdV C aM_21 (by omega) (by omega) (by decide) dX9_gainOf_21 (fun r21 => ?_)
  refine pw_if_le (tgt := 35) C dX9_gainOf_22 rfl (by omega) (fun c22 => ?_) (fun c22 => ?_)
  · refine pw_bipush C dX9_gainOf_35 (by decide) ?_
    exact pw_ireti C R dX9_gainOf_37 (by unfold gaM; first | rw [if_pos (by omega)] | rw [if_neg (by omega)]) rfl
  · refine pw_iload C dX9_gainOf_25 rfl ?_
    refine pw_if_lt (tgt := 35) C dX9_gainOf_27 rfl (by omega) (fun c27 => ?_) (fun c27 => ?_)
    · refine pw_bipush C dX9_gainOf_35 (by decide) ?_
      exact pw_ireti C R dX9_gainOf_37 (by unfold gaM; first | rw [if_pos (by omega)] | rw [if_neg (by omega)]) rfl
    · refine pw_iload C dX9_gainOf_30 rfl ?_
      refine pw_goto (tgt := 37) C dX9_gainOf_32 rfl ?_
      exact pw_ireti C R dX9_gainOf_37 (by unfold gaM; first | rw [if_pos (by omega)] | rw [if_neg (by omega)]) rfl
set_option maxRecDepth 100000 in
set_option maxHeartbeats 400000 in
theorem c_X9_isCheaperNext {l : Launch} {S : SW} {M : Mem} {V : DM} {s t : Int}  (hs : InR s) (ht : InR t) (hI : DayOk (mv V)) (s0 : 0 ≤ s) (s1 : s < V 0 0 2) (t0 : 0 ≤ t) (t1 : t < V 0 0 1) : PM l S yX9_isCheaperNext cX9_isCheaperNext 3 (some .boolean) 1 22 [rv S 3 0 0, iv s, iv t] (mst M 3 V) (rI (b01 (cheaper (mv V) s t)) (mst M 3 V)) := by
  refine PM.of (own := RX9) (by decide) rfl [some (rv S 3 0 0), some (iv s), some (iv t)] rfl rfl (Nat.le_of_ble_eq_true rfl) (fun X hXl C R => ?_)
  subst hXl
  obtain ⟨i1, i2, i3, i4, i5, i6, i7, i8⟩ := id hI
  have e5 : mv V 1 0 5 = V 0 0 1 := rfl
  have e6 : mv V 1 0 6 = V 0 0 2 := rfl
  have e7 : mv V 1 0 7 = V 0 0 8 := rfl
  have e8 : mv V 1 0 8 = V 0 0 9 := rfl
  have e84 : mv V 8 0 4 = V 0 0 15 := rfl
  have pr : ∀ q u, 0 ≤ q → q < V 0 0 2 → 0 ≤ u → u < V 0 0 1 → 0 ≤ V 8 0 (8 * q + u) ∧ V 8 0 (8 * q + u) ≤ 30 := fun q u a b c e => by
    have h := i6 q u a b c e
    rw [mv_7 V q c (by omega)] at h
    exact h
  have ec : cheaper (mv V) s t ↔ (t + 1 < V 0 0 1 ∧ mv V 7 s (t + 1) < mv V 7 s t) := Iff.rfl
  have e71 : t + 1 < V 0 0 1 → mv V 7 s (t + 1) = V 8 0 (8 * s + (t + 1)) := fun h => mv_7 V s (by omega) (by omega)
  have e72 : mv V 7 s t = V 8 0 (8 * s + t) := mv_7 V s t0 (by omega)
  have pa := pr s t s0 s1 t0 t1
  refine pw_iload_n C dX9_isCheaperNext_0 rfl ?_
  refine pw_iconst C dX9_isCheaperNext_1 ?_
  refine pw_iadd C dX9_isCheaperNext_2 ?_
  refine pw_aload_n C dX9_isCheaperNext_3 rfl ?_
  refine gv_9_119 C dX9_isCheaperNext_4 (fun r4 => ?_)
  refine pw_icmp_ge (tgt := 31) C dX9_isCheaperNext_7 rfl (by omega) (by omega) (fun c7 => ?_) (fun c7 => ?_)
  · refine pw_iconst C dX9_isCheaperNext_31 ?_
    exact pw_zret0 C R dX9_isCheaperNext_32 (by rw [ec]; omega) rfl
  · have pb := pr s (t + 1) s0 s1 (by omega) (by omega)
    have e71 := e71 (by omega)
    refine pw_aload_n C dX9_isCheaperNext_10 rfl ?_
    refine pw_iload_n C dX9_isCheaperNext_11 rfl ?_
    refine pw_iload_n C dX9_isCheaperNext_12 rfl ?_
    refine pw_iconst C dX9_isCheaperNext_13 ?_
    refine pw_iadd C dX9_isCheaperNext_14 ?_
    refine pw_cVI C [_, _] mi_X9_priceOf mv_X9_priceOf ml_9_180 oM_0 rfl (c_X9_priceOf (by omega) (by omega) (by omega) (by omega) (by omega) (by omega)) (by decide) rfl (Nat.le_of_ble_eq_true rfl) dX9_isCheaperNext_15 ?_
    refine pw_aload_n C dX9_isCheaperNext_18 rfl ?_
    refine pw_iload_n C dX9_isCheaperNext_19 rfl ?_
    refine pw_iload_n C dX9_isCheaperNext_20 rfl ?_
    refine pw_cVI C [_, _] mi_X9_priceOf mv_X9_priceOf ml_9_180 oM_0 rfl (c_X9_priceOf (by omega) (by omega) (by omega) (by omega) (by omega) (by omega)) (by decide) rfl (Nat.le_of_ble_eq_true rfl) dX9_isCheaperNext_21 ?_
    refine pw_icmp_ge (tgt := 31) C dX9_isCheaperNext_24 rfl (by omega) (by omega) (fun c24 => ?_) (fun c24 => ?_)
    · refine pw_iconst C dX9_isCheaperNext_31 ?_
      exact pw_zret0 C R dX9_isCheaperNext_32 (by rw [ec]; omega) rfl
    · refine pw_iconst C dX9_isCheaperNext_27 ?_
      refine pw_goto (tgt := 32) C dX9_isCheaperNext_28 rfl ?_
      exact pw_zret1 C R dX9_isCheaperNext_32 (by rw [ec]; omega) rfl
