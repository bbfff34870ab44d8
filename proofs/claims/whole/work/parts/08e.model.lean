def drB (V : DM) (s t n : Int) : Prop := ∃ q, 0 ≤ q ∧ q < n ∧ 0 < V 21 0 q ∧ V 8 0 (8 * s + t) < V 8 0 (8 * q + t)
theorem drB_s {V : DM} {s t n : Int} (h0 : 0 ≤ n) : drB V s t (n + 1) ↔ drB V s t n ∨ (0 < V 21 0 n ∧ V 8 0 (8 * s + t) < V 8 0 (8 * n + t)) := by
  constructor
  · rintro ⟨q, a, b, c, e⟩
    by_cases h : q = n
    · rw [h] at c e; exact Or.inr ⟨c, e⟩
    · exact Or.inl ⟨q, a, by omega, c, e⟩
  · rintro (⟨q, a, b, c, e⟩ | ⟨c, e⟩)
    · exact ⟨q, a, by omega, c, e⟩
    · exact ⟨n, h0, by omega, c, e⟩
theorem drB_m {V : DM} {s t : Int} (t0 : 0 ≤ t) (t1 : t < 8) : drB V s t (V 0 0 2) ↔ dearer (mv V) s t := by
  unfold drB dearer
  rw [mv_7 V s t0 t1]
  constructor
  · rintro ⟨q, a, b, c, e⟩
    exact ⟨q, a, b, c, by rw [mv_7 V q t0 t1]; exact e⟩
  · rintro ⟨q, a, b, c, e⟩
    rw [mv_7 V q t0 t1] at e
    exact ⟨q, a, b, c, e⟩
set_option maxRecDepth 100000 in
set_option maxHeartbeats 400000 in
theorem L_X9_hasDearer {X : PX} {S : SW} {M : Mem} {V : DM} {s t : Int}  (hI : DayOk (mv V)) (s0 : 0 ≤ s) (s1 : s < V 0 0 2) (t0 : 0 ≤ t) (t1 : t < V 0 0 1) (hs : InR s) (ht : InR t) (C : Cx X S RX9 cX9_hasDearer 1 22) (R : CR X S (rI (b01 (dearer (mv V) s t)) (mst M 3 V)) (some .boolean)) :
    ∀ (n9 : Nat) (f r : Int), (0 ≤ r) → (r ≤ V 0 0 2) → (f = b01 (drB V s t r)) → V 0 0 2 - r < n9 → PW X S (mst M 3 V) 5 [some (rv S 3 0 0), some (iv s), some (iv t), some (iv f), some (iv r)] [] := by
  obtain ⟨i1, i2, i3, i4, i5, i6, i7, i8⟩ := id hI
  have e5 : mv V 1 0 5 = V 0 0 1 := rfl
  have e6 : mv V 1 0 6 = V 0 0 2 := rfl
  have e7 : mv V 1 0 7 = V 0 0 8 := rfl
  have e8 : mv V 1 0 8 = V 0 0 9 := rfl
  have e84 : mv V 8 0 4 = V 0 0 15 := rfl
  have pr : ∀ q, 0 ≤ q → q < V 0 0 2 → 0 ≤ V 8 0 (8 * q + t) ∧ V 8 0 (8 * q + t) ≤ 30 := fun q a b => by
    have h := i6 q t a b t0 t1
    rw [mv_7 V q t0 (by omega)] at h
    exact h
  have ps := pr s s0 s1
  intro n9
  induction n9 with
  | zero => intro f r r0 r1 hf hn9; omega
  | succ n9 ih =>
    intro f r r0 r1 hf hn9
    refine pw_iload C dX9_hasDearer_5 rfl ?_
    refine pw_aload_n C dX9_hasDearer_7 rfl ?_
    refine gv_9_116 C dX9_hasDearer_8 (fun r8 => ?_)
    refine pw_icmp_ge (tgt := 56) C dX9_hasDearer_11 rfl (by omega) (by omega) (fun c11 => ?_) (fun c11 => ?_)
    · refine pw_iload_n C dX9_hasDearer_56 rfl ?_
      rw [show r = V 0 0 2 by omega] at hf
      subst hf
      exact pw_zretb C R dX9_hasDearer_57 (drB_m t0 (by omega)) rfl
    · have px := pr r r0 (by omega)
      have hb := b01_r (drB V s t r)
      have hss := drB_s (V := V) (s := s) (t := t) r0
      refine pw_iload_n C dX9_hasDearer_14 rfl ?_
      refine pw_if_ne (tgt := 44) C dX9_hasDearer_15 rfl (by omega) (fun c15 => ?_) (fun c15 => ?_)
      · refine pw_iconst C dX9_hasDearer_44 ?_
        refine pw_goto (tgt := 49) C dX9_hasDearer_45 rfl ?_
        refine pw_istore_3 C dX9_hasDearer_49 (k := ?_)
        refine pw_iinc_4 C dX9_hasDearer_50 (k := ?_)
        refine pw_goto (tgt := 5) C dX9_hasDearer_53 rfl ?_
        first
          | exact ih 1 (r + 1) (by omega) (by omega) (by
              refine (b01_t (hss.mpr ?_)).symm
              first
                | exact Or.inr ⟨by assumption, by omega⟩
                | (refine Or.inl (Classical.byContradiction fun h => ?_)
                   rw [b01_f h] at hf
                   contradiction)) (by omega)
          | exact ih 0 (r + 1) (by omega) (by omega) (by
              have hn : ¬ drB V s t r := fun h => by rw [b01_t h] at hf; omega
              refine (b01_f (fun h => ?_)).symm
              rcases hss.mp h with h | h
              · exact hn h
              · have := h.1
                have := h.2
                omega) (by omega)
      · refine pw_aload_n C dX9_hasDearer_18 rfl ?_
        refine gf_9_40 C dX9_hasDearer_19 ?_
        refine pw_iload C dX9_hasDearer_22 rfl ?_
        refine pw_ialdV C aM_21 (by omega) (by omega) (by decide) dX9_hasDearer_24 (fun r24 => ?_)
        refine pw_if_le (tgt := 48) C dX9_hasDearer_25 rfl (by omega) (fun c25 => ?_) (fun c25 => ?_)
        · refine pw_iconst C dX9_hasDearer_48 ?_
          refine pw_istore_3 C dX9_hasDearer_49 (k := ?_)
          refine pw_iinc_4 C dX9_hasDearer_50 (k := ?_)
          refine pw_goto (tgt := 5) C dX9_hasDearer_53 rfl ?_
          first
            | exact ih 1 (r + 1) (by omega) (by omega) (by
                refine (b01_t (hss.mpr ?_)).symm
                first
                  | exact Or.inr ⟨by assumption, by omega⟩
                  | (refine Or.inl (Classical.byContradiction fun h => ?_)
                     rw [b01_f h] at hf
                     contradiction)) (by omega)
            | exact ih 0 (r + 1) (by omega) (by omega) (by
                have hn : ¬ drB V s t r := fun h => by rw [b01_t h] at hf; omega
                refine (b01_f (fun h => ?_)).symm
                rcases hss.mp h with h | h
                · exact hn h
                · have := h.1
                  have := h.2
                  omega) (by omega)
        · refine pw_aload_n C dX9_hasDearer_28 rfl ?_
          refine pw_iload C dX9_hasDearer_29 rfl ?_
          refine pw_iload_n C dX9_hasDearer_31 rfl ?_
          refine pw_cVI C [_, _] mi_X9_priceOf mv_X9_priceOf ml_9_180 oM_0 rfl (c_X9_priceOf (by omega) (by omega) (by omega) (by omega) (by omega) (by omega)) (by decide) rfl (Nat.le_of_ble_eq_true rfl) dX9_hasDearer_32 ?_
          refine pw_aload_n C dX9_hasDearer_35 rfl ?_
          refine pw_iload_n C dX9_hasDearer_36 rfl ?_
          refine pw_iload_n C dX9_hasDearer_37 rfl ?_
          refine pw_cVI C [_, _] mi_X9_priceOf mv_X9_priceOf ml_9_180 oM_0 rfl (c_X9_priceOf (by omega) (by omega) (by omega) (by omega) (by omega) (by omega)) (by decide) rfl (Nat.le_of_ble_eq_true rfl) dX9_hasDearer_38 ?_
          refine pw_icmp_le (tgt := 48) C dX9_hasDearer_41 rfl (by omega) (by omega) (fun c41 => ?_) (fun c41 => ?_)
          · refine pw_iconst C dX9_hasDearer_48 ?_
            refine pw_istore_3 C dX9_hasDearer_49 (k := ?_)
            refine pw_iinc_4 C dX9_hasDearer_50 (k := ?_)
            refine pw_goto (tgt := 5) C dX9_hasDearer_53 rfl ?_
            first
              | exact ih 1 (r + 1) (by omega) (by omega) (by
                  refine (b01_t (hss.mpr ?_)).symm
                  first
                    | exact Or.inr ⟨by assumption, by omega⟩
                    | (refine Or.inl (Classical.byContradiction fun h => ?_)
                       rw [b01_f h] at hf
                       contradiction)) (by omega)
              | exact ih 0 (r + 1) (by omega) (by omega) (by
                  have hn : ¬ drB V s t r := fun h => by rw [b01_t h] at hf; omega
                  refine (b01_f (fun h => ?_)).symm
                  rcases hss.mp h with h | h
                  · exact hn h
                  · have := h.1
                    have := h.2
                    omega) (by omega)
          · refine pw_iconst C dX9_hasDearer_44 ?_
            refine pw_goto (tgt := 49) C dX9_hasDearer_45 rfl ?_
            refine pw_istore_3 C dX9_hasDearer_49 (k := ?_)
            refine pw_iinc_4 C dX9_hasDearer_50 (k := ?_)
            refine pw_goto (tgt := 5) C dX9_hasDearer_53 rfl ?_
            first
              | exact ih 1 (r + 1) (by omega) (by omega) (by
                  refine (b01_t (hss.mpr ?_)).symm
                  first
                    | exact Or.inr ⟨by assumption, by omega⟩
                    | (refine Or.inl (Classical.byContradiction fun h => ?_)
                       rw [b01_f h] at hf
                       contradiction)) (by omega)
              | exact ih 0 (r + 1) (by omega) (by omega) (by
                  have hn : ¬ drB V s t r := fun h => by rw [b01_t h] at hf; omega
                  refine (b01_f (fun h => ?_)).symm
                  rcases hss.mp h with h | h
                  · exact hn h
                  · have := h.1
                    have := h.2
                    omega) (by omega)
set_option maxRecDepth 100000 in
set_option maxHeartbeats 400000 in
theorem c_X9_hasDearer {l : Launch} {S : SW} {M : Mem} {V : DM} {s t : Int}  (hs : InR s) (ht : InR t) (hI : DayOk (mv V)) (s0 : 0 ≤ s) (s1 : s < V 0 0 2) (t0 : 0 ≤ t) (t1 : t < V 0 0 1) : PM l S yX9_hasDearer cX9_hasDearer 5 (some .boolean) 1 22 [rv S 3 0 0, iv s, iv t] (mst M 3 V) (rI (b01 (dearer (mv V) s t)) (mst M 3 V)) := by
  refine PM.of (own := RX9) (by decide) rfl [some (rv S 3 0 0), some (iv s), some (iv t), none, none] rfl rfl (Nat.le_of_ble_eq_true rfl) (fun X hXl C R => ?_)
  subst hXl
  obtain ⟨i1, i2, i3, i4, i5, i6, i7, i8⟩ := id hI
  have e5 : mv V 1 0 5 = V 0 0 1 := rfl
  have e6 : mv V 1 0 6 = V 0 0 2 := rfl
  have e7 : mv V 1 0 7 = V 0 0 8 := rfl
  have e8 : mv V 1 0 8 = V 0 0 9 := rfl
  have e84 : mv V 8 0 4 = V 0 0 15 := rfl
  refine pw_iconst C dX9_hasDearer_0 ?_
  refine pw_istore_3 C dX9_hasDearer_1 (k := ?_)
  refine pw_iconst C dX9_hasDearer_2 ?_
  refine pw_istore_4 C dX9_hasDearer_3 (k := ?_)
  exact L_X9_hasDearer hI s0 s1 t0 t1 hs ht C R (V 0 0 2 + 1).toNat 0 0 (by omega) (by omega) (b01_f (fun h => by obtain ⟨q, a, b, -⟩ := h; omega)).symm (by omega)
