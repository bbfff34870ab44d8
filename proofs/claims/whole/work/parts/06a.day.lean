set_option maxRecDepth 100000 in
set_option maxHeartbeats 400000 in
theorem c_X6_isCheaperNext {l : Launch} {S : SW} {M : Mem} {V : DM} {d : Nat} {s t : Int} (hd : d < 2) (hs : InR s) (ht : InR t) (hI : DayOk V) (s0 : 0 ≤ s) (s1 : s < V 1 0 6) (t0 : 0 ≤ t) (t1 : t < V 1 0 5) : PM l S yX6_isCheaperNext cX6_isCheaperNext 3 (some .boolean) 0 0 [rv S d 1 0, iv s, iv t] (mst M d V) (rI (b01 (cheaper V s t)) (mst M d V)) := by
  refine PM.of (own := RX6) (by decide) rfl [some (rv S d 1 0), some (iv s), some (iv t)] rfl rfl (Nat.le_of_ble_eq_true rfl) (fun X hXl C R => ?_)
  subst hXl
  obtain ⟨i1, i2, i3, i4, i5, i6, i7, i8⟩ := id hI
  refine pw_iload_n C dX6_isCheaperNext_0 rfl ?_
  refine pw_iconst C dX6_isCheaperNext_1 ?_
  refine pw_iadd C dX6_isCheaperNext_2 ?_
  refine pw_aload_n C dX6_isCheaperNext_3 rfl ?_
  refine gv_6_29 d hd C dX6_isCheaperNext_4 (fun r4 => ?_)
  refine pw_icmp_ge (tgt := 35) C dX6_isCheaperNext_7 rfl (by omega) (by omega) (fun c7 => ?_) (fun c7 => ?_)
  · refine pw_iconst C dX6_isCheaperNext_35 ?_
    exact pw_zret0 C R dX6_isCheaperNext_36 (by unfold cheaper; omega) rfl
  · refine pw_aload_n C dX6_isCheaperNext_10 rfl ?_
    refine gf_6_26 d hd C dX6_isCheaperNext_11 ?_
    refine pw_iload_n C dX6_isCheaperNext_14 rfl ?_
    refine pw_aald C (qD_6 hd) (by omega) (by omega) (by decide) dX6_isCheaperNext_15 ?_
    refine pw_iload_n C dX6_isCheaperNext_16 rfl ?_
    refine pw_iconst C dX6_isCheaperNext_17 ?_
    refine pw_iadd C dX6_isCheaperNext_18 ?_
    refine pw_ialdV C (aD_7 hd (by omega) (by omega)) (by omega) (by omega) (by decide) dX6_isCheaperNext_19 (fun r19 => ?_)
    refine pw_aload_n C dX6_isCheaperNext_20 rfl ?_
    refine gf_6_26 d hd C dX6_isCheaperNext_21 ?_
    refine pw_iload_n C dX6_isCheaperNext_24 rfl ?_
    refine pw_aald C (qD_6 hd) (by omega) (by omega) (by decide) dX6_isCheaperNext_25 ?_
    refine pw_iload_n C dX6_isCheaperNext_26 rfl ?_
    refine pw_ialdV C (aD_7 hd (by omega) (by omega)) (by omega) (by omega) (by decide) dX6_isCheaperNext_27 (fun r27 => ?_)
    refine pw_icmp_ge (tgt := 35) C dX6_isCheaperNext_28 rfl (by omega) (by omega) (fun c28 => ?_) (fun c28 => ?_)
    · refine pw_iconst C dX6_isCheaperNext_35 ?_
      exact pw_zret0 C R dX6_isCheaperNext_36 (by unfold cheaper; omega) rfl
    · refine pw_iconst C dX6_isCheaperNext_31 ?_
      refine pw_goto (tgt := 36) C dX6_isCheaperNext_32 rfl ?_
      exact pw_zret1 C R dX6_isCheaperNext_36 (by unfold cheaper; omega) rfl
theorem fresh_le {V : DM} (hI : DayOk V) {s t : Int} (s0 : 0 ≤ s) (s1 : s < V 1 0 6) (t0 : 0 ≤ t) (t1 : t ≤ 8) : -24 ≤ V 4 0 s - t * V 5 0 s ∧ V 4 0 s - t * V 5 0 s ≤ 9 := by
  obtain ⟨i1, i2, i3, i4, i5, i6, i7, i8⟩ := hI
  have h := i5 s s0 s1
  have a : 0 ≤ t * V 5 0 s := Int.mul_nonneg t0 h.2.2.2.1
  have b : t * V 5 0 s ≤ 8 * 3 := Int.mul_le_mul t1 h.2.2.2.2 h.2.2.2.1 (by omega)
  omega
theorem freshAt_r {V : DM} (hI : DayOk V) {s t : Int} (s0 : 0 ≤ s) (s1 : s < V 1 0 6) (t0 : 0 ≤ t) (t1 : t ≤ 8) : 0 ≤ freshAt V s t ∧ freshAt V s t ≤ 9 := by
  have := fresh_le hI s0 s1 t0 t1
  unfold freshAt
  split <;> omega
theorem L_X1_liesDearer {X : PX} {S : SW} {M : Mem} {V : DM} {d : Nat} {s t : Int} (hd : d < 2) (hI : DayOk V) (s0 : 0 ≤ s) (s1 : s < V 1 0 6) (t0 : 0 ≤ t) (t1 : t < V 1 0 5) {f lo : Nat} (C : Cx X S RX1 cX1_liesDearer f lo) (R : CR X S (rI (b01 (dearer V s t)) (mst M d V)) (some .boolean)) :
    ∀ (n : Nat) (r : Int), 0 ≤ r → r ≤ V 1 0 6 → (∀ q, 0 ≤ q → q < r → ¬ (0 < V 13 0 q ∧ V 7 s t < V 7 q t)) → V 1 0 6 - r < n → PW X S (mst M d V) 2 [some (rv S d 0 0), some (iv s), some (iv t), some (iv r)] [] := by
  obtain ⟨i1, i2, i3, i4, i5, i6, i7, i8⟩ := id hI
  intro n
  induction n with
  | zero => intro r r0 r1 hr hn; omega
  | succ n ih =>
    intro r r0 r1 hr hn
    refine pw_iload_n C dX1_liesDearer_2 rfl ?_
    refine pw_aload_n C dX1_liesDearer_3 rfl ?_
    refine gf_1_12 d hd C dX1_liesDearer_4 ?_
    refine gv_1_67 d hd C dX1_liesDearer_7 (fun r7 => ?_)
    refine pw_icmp_ge (tgt := 55) C dX1_liesDearer_10 rfl (by omega) (by omega) (fun c10 => ?_) (fun c10 => ?_)
    · refine pw_iconst C dX1_liesDearer_55 ?_
      exact pw_zret0 C R dX1_liesDearer_56 (by rintro ⟨q, q0, q1, q2⟩; exact hr q q0 (by omega) q2) rfl
    · refine pw_aload_n C dX1_liesDearer_13 rfl ?_
      refine gf_1_25 d hd C dX1_liesDearer_14 ?_
      refine pw_iload_n C dX1_liesDearer_17 rfl ?_
      refine pw_ialdV C (aD_13 hd) (by omega) (by omega) (by decide) dX1_liesDearer_18 (fun r18 => ?_)
      refine pw_if_le (tgt := 49) C dX1_liesDearer_19 rfl (by omega) (fun c19 => ?_) (fun c19 => ?_)
      · refine pw_iinc_3 C dX1_liesDearer_49 (k := ?_)
        refine pw_goto (tgt := 2) C dX1_liesDearer_52 rfl ?_
        refine ih (r + 1) (by omega) (by omega) (fun q q0 q1 => ?_) (by omega)
        rcases Int.lt_or_le q r with h | h
        · exact hr q q0 h
        · have e : q = r := by omega
          subst e
          first | exact fun h2 => absurd h2.1 (by omega) | exact fun h2 => absurd h2.2 (by omega)
      · refine pw_aload_n C dX1_liesDearer_22 rfl ?_
        refine gf_1_12 d hd C dX1_liesDearer_23 ?_
        refine gf_1_123 d hd C dX1_liesDearer_26 ?_
        refine pw_iload_n C dX1_liesDearer_29 rfl ?_
        refine pw_aald C (qD_6 hd) (by omega) (by omega) (by decide) dX1_liesDearer_30 ?_
        refine pw_iload_n C dX1_liesDearer_31 rfl ?_
        refine pw_ialdV C (aD_7 hd (by omega) (by omega)) (by omega) (by omega) (by decide) dX1_liesDearer_32 (fun r32 => ?_)
        refine pw_aload_n C dX1_liesDearer_33 rfl ?_
        refine gf_1_12 d hd C dX1_liesDearer_34 ?_
        refine gf_1_123 d hd C dX1_liesDearer_37 ?_
        refine pw_iload_n C dX1_liesDearer_40 rfl ?_
        refine pw_aald C (qD_6 hd) (by omega) (by omega) (by decide) dX1_liesDearer_41 ?_
        refine pw_iload_n C dX1_liesDearer_42 rfl ?_
        refine pw_ialdV C (aD_7 hd (by omega) (by omega)) (by omega) (by omega) (by decide) dX1_liesDearer_43 (fun r43 => ?_)
        refine pw_icmp_le (tgt := 49) C dX1_liesDearer_44 rfl (by omega) (by omega) (fun c44 => ?_) (fun c44 => ?_)
        · refine pw_iinc_3 C dX1_liesDearer_49 (k := ?_)
          refine pw_goto (tgt := 2) C dX1_liesDearer_52 rfl ?_
          refine ih (r + 1) (by omega) (by omega) (fun q q0 q1 => ?_) (by omega)
          rcases Int.lt_or_le q r with h | h
          · exact hr q q0 h
          · have e : q = r := by omega
            subst e
            first | exact fun h2 => absurd h2.1 (by omega) | exact fun h2 => absurd h2.2 (by omega)
        · refine pw_iconst C dX1_liesDearer_47 ?_
          exact pw_zret1 C R dX1_liesDearer_48 ⟨r, by omega, by omega, by omega, by omega⟩ rfl
set_option maxRecDepth 100000 in
set_option maxHeartbeats 400000 in
theorem c_X1_liesDearer {l : Launch} {S : SW} {M : Mem} {V : DM} {d : Nat} {s t : Int} (hd : d < 2) (hs : InR s) (ht : InR t) (hI : DayOk V) (s0 : 0 ≤ s) (s1 : s < V 1 0 6) (t0 : 0 ≤ t) (t1 : t < V 1 0 5) : PM l S yX1_liesDearer cX1_liesDearer 4 (some .boolean) 0 0 [rv S d 0 0, iv s, iv t] (mst M d V) (rI (b01 (dearer V s t)) (mst M d V)) := by
  refine PM.of (own := RX1) (by decide) rfl [some (rv S d 0 0), some (iv s), some (iv t), none] rfl rfl (Nat.le_of_ble_eq_true rfl) (fun X hXl C R => ?_)
  subst hXl
  obtain ⟨i1, i2, i3, i4, i5, i6, i7, i8⟩ := id hI
  refine pw_iconst C dX1_liesDearer_0 ?_
  refine pw_istore_3 C dX1_liesDearer_1 (k := ?_)
  exact L_X1_liesDearer hd hI s0 s1 t0 t1 C R (V 1 0 6 + 1).toNat 0 (by omega) (by omega) (fun q q0 q1 => by omega) (by omega)
