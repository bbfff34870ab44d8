theorem worth_r {V : DM} (hI : DayOk V) {x s t : Int} (x0 : 0 ≤ x) (x1 : x < V 8 0 4) (s0 : 0 ≤ s) (s1 : s < V 1 0 6) (t0 : 0 ≤ t) (t1 : t < V 1 0 5) : -11 ≤ worth V x s t ∧ worth V x s t ≤ 41 := by
  have hf := freshAt_r hI s0 s1 t0 (by have := hI.2.1; omega)
  have hx := hI.2.2.2.1 x x0 x1
  have h1 := b01_r (s ≠ V 10 0 x)
  have h2 := b01_r (V 1 0 8 ≠ 0 ∧ dearer V s t)
  unfold worth
  omega
theorem gain_r {V : DM} (hI : DayOk V) {x s t : Int} (x0 : 0 ≤ x) (x1 : x < V 8 0 4) (s0 : 0 ≤ s) (s1 : s < V 1 0 6) (t0 : 0 ≤ t) (t1 : t < V 1 0 5) : -41 ≤ gain V x s t ∧ gain V x s t ≤ 41 := by
  have h1 := worth_r hI x0 x1 s0 s1 t0 t1
  have h2 := hI.2.2.2.2.2.1 s t s0 s1 t0 t1
  unfold gain
  split <;> omega
theorem pick_s (V : DM) (x t : Int) {s : Int} (s0 : 0 ≤ s) : pick V x t (s + 1) = if (pick V x t s).2 < gain V x s t then (s, gain V x s t) else pick V x t s := iterI_s _ _ s0
theorem pick_r {V : DM} (hI : DayOk V) {x t : Int} (x0 : 0 ≤ x) (x1 : x < V 8 0 4) (t0 : 0 ≤ t) (t1 : t < V 1 0 5) {n : Int} (n1 : n ≤ V 1 0 6) : ((pick V x t n).1 = -9 ∨ (0 ≤ (pick V x t n).1 ∧ (pick V x t n).1 < n)) ∧ -1 ≤ (pick V x t n).2 ∧ (pick V x t n).2 ≤ 41 := by
  refine iterI_inv (R := fun p : Int × Int => (p.1 = -9 ∨ (0 ≤ p.1 ∧ p.1 < n)) ∧ -1 ≤ p.2 ∧ p.2 ≤ 41) ⟨Or.inl rfl, by decide, by decide⟩ (fun j p j0 j1 hp => ?_)
  have hg := gain_r hI x0 x1 j0 (show j < V 1 0 6 by omega) t0 t1
  show (fun p : Int × Int => (p.1 = -9 ∨ (0 ≤ p.1 ∧ p.1 < n)) ∧ -1 ≤ p.2 ∧ p.2 ≤ 41) (if p.2 < gain V x j t then (j, gain V x j t) else p)
  split
  · next h => exact ⟨Or.inr ⟨j0, j1⟩, by show -1 ≤ gain V x j t; omega, by show gain V x j t ≤ 41; omega⟩
  · exact hp
theorem choice_r {V : DM} (hI : DayOk V) {x t : Int} (x0 : 0 ≤ x) (x1 : x < V 8 0 4) (t0 : 0 ≤ t) (t1 : t < V 1 0 5) : choice V x t = -9 ∨ (0 ≤ choice V x t ∧ choice V x t < V 1 0 6) := by
  have hx := hI.2.2.2.1 x x0 x1
  unfold choice
  split
  · exact Or.inl rfl
  · split
    · right; omega
    · split
      · exact Or.inl rfl
      · exact (pick_r hI x0 x1 t0 t1 (Int.le_refl _)).1
set_option maxRecDepth 100000 in
set_option maxHeartbeats 400000 in
theorem c_X1_worthTo {l : Launch} {S : SW} {M : Mem} {V : DM} {d : Nat} {x s t : Int} (hd : d < 2) (hx : InR x) (hs : InR s) (ht : InR t) (hI : DayOk V) (x0 : 0 ≤ x) (x1 : x < V 8 0 4) (s0 : 0 ≤ s) (s1 : s < V 1 0 6) (t0 : 0 ≤ t) (t1 : t < V 1 0 5) : PM l S yX1_worthTo cX1_worthTo 5 (some .int) 1 23 [rv S d 0 0, iv x, iv s, iv t] (mst M d V) (rI (worth V x s t) (mst M d V)) := by
  refine PM.of (own := RX1) (by decide) rfl [some (rv S d 0 0), some (iv x), some (iv s), some (iv t), none] rfl rfl (Nat.le_of_ble_eq_true rfl) (fun X hXl C R => ?_)
  subst hXl
  obtain ⟨i1, i2, i3, i4, i5, i6, i7, i8⟩ := id hI
  have ix := i4 x x0 x1
  have jf := fresh_le hI s0 s1 t0 (by omega)
  have kf := freshAt_r hI s0 s1 t0 (by omega)
  refine pw_aload_n C dX1_worthTo_0 rfl ?_
  refine gf_1_21 d hd C dX1_worthTo_1 ?_
  refine gf_1_107 d hd C dX1_worthTo_4 ?_
  refine pw_iload_n C dX1_worthTo_7 rfl ?_
  refine pw_ialdV C (aD_11 hd) (by omega) (by omega) (by decide) dX1_worthTo_8 (fun r8 => ?_)
  refine pw_bipush C dX1_worthTo_9 (by decide) ?_
  refine pw_aload_n C dX1_worthTo_11 rfl ?_
  refine gf_1_12 d hd C dX1_worthTo_12 ?_
  refine pw_iload_n C dX1_worthTo_15 rfl ?_
  refine pw_iload_n C dX1_worthTo_16 rfl ?_
  refine pw_cVI C [_, _] mi_X6_freshAt mv_X6_freshAt ml_1_110 (oD_1 hd) rfl (c_X6_freshAt hd (by omega) (by omega) (by omega) (by omega) (by omega)) (by decide) rfl (Nat.le_of_ble_eq_true rfl) dX1_worthTo_17 ?_
  refine pw_isub C dX1_worthTo_20 ?_
  refine pw_isub C dX1_worthTo_21 ?_
  refine pw_istore_4 C dX1_worthTo_22 (k := ?_)
  refine pw_iload_n C dX1_worthTo_24 rfl ?_
  refine pw_aload_n C dX1_worthTo_25 rfl ?_
  refine gf_1_21 d hd C dX1_worthTo_26 ?_
  refine gf_1_113 d hd C dX1_worthTo_29 ?_
  refine pw_iload_n C dX1_worthTo_32 rfl ?_
  refine pw_ialdV C (aD_10 hd) (by omega) (by omega) (by decide) dX1_worthTo_33 (fun r33 => ?_)
  refine pw_icmp_eq (tgt := 40) C dX1_worthTo_34 rfl (by omega) (by omega) (fun c34 => ?_) (fun c34 => ?_)
  · refine pw_aload_n C dX1_worthTo_40 rfl ?_
    refine gf_1_12 d hd C dX1_worthTo_41 ?_
    refine gv_1_116 d hd C dX1_worthTo_44 (fun r44 => ?_)
    refine pw_if_eq (tgt := 62) C dX1_worthTo_47 rfl (by omega) (fun c47 => ?_) (fun c47 => ?_)
    · refine pw_iload C dX1_worthTo_62 rfl ?_
      exact pw_ireti C R dX1_worthTo_64 (by unfold worth; (first | rw [b01_f (show ¬ (s ≠ V 10 0 x) by omega)] | rw [b01_t (show s ≠ V 10 0 x by omega)]); (first | rw [b01_t (show V 1 0 8 ≠ 0 ∧ dearer V s t from ⟨by omega, by assumption⟩)] | rw [b01_f (show ¬ (V 1 0 8 ≠ 0 ∧ dearer V s t) from fun h => absurd h.1 (by omega))] | rw [b01_f (show ¬ (V 1 0 8 ≠ 0 ∧ dearer V s t) from fun h => absurd h.2 (by assumption))]); omega) rfl
    · refine pw_aload_n C dX1_worthTo_50 rfl ?_
      refine pw_iload_n C dX1_worthTo_51 rfl ?_
      refine pw_iload_n C dX1_worthTo_52 rfl ?_
      refine pw_cVI C [_, _] mi_X1_liesDearer mv_X1_liesDearer ml_1_120 (oD_0 hd) rfl (c_X1_liesDearer hd (by omega) (by omega) (by assumption) (by omega) (by omega) (by omega) (by omega)) (by decide) rfl (Nat.le_of_ble_eq_true rfl) dX1_worthTo_53 ?_
      refine pw_if_eq_b (tgt := 62) C dX1_worthTo_56 rfl (fun c56 => ?_) (fun c56 => ?_)
      · refine pw_iload C dX1_worthTo_62 rfl ?_
        exact pw_ireti C R dX1_worthTo_64 (by unfold worth; (first | rw [b01_f (show ¬ (s ≠ V 10 0 x) by omega)] | rw [b01_t (show s ≠ V 10 0 x by omega)]); (first | rw [b01_t (show V 1 0 8 ≠ 0 ∧ dearer V s t from ⟨by omega, by assumption⟩)] | rw [b01_f (show ¬ (V 1 0 8 ≠ 0 ∧ dearer V s t) from fun h => absurd h.1 (by omega))] | rw [b01_f (show ¬ (V 1 0 8 ≠ 0 ∧ dearer V s t) from fun h => absurd h.2 (by assumption))]); omega) rfl
      · refine pw_iinc_4 C dX1_worthTo_59 (k := ?_)
        refine pw_iload C dX1_worthTo_62 rfl ?_
        exact pw_ireti C R dX1_worthTo_64 (by unfold worth; (first | rw [b01_f (show ¬ (s ≠ V 10 0 x) by omega)] | rw [b01_t (show s ≠ V 10 0 x by omega)]); (first | rw [b01_t (show V 1 0 8 ≠ 0 ∧ dearer V s t from ⟨by omega, by assumption⟩)] | rw [b01_f (show ¬ (V 1 0 8 ≠ 0 ∧ dearer V s t) from fun h => absurd h.1 (by omega))] | rw [b01_f (show ¬ (V 1 0 8 ≠ 0 ∧ dearer V s t) from fun h => absurd h.2 (by assumption))]); omega) rfl
  · refine pw_iinc_4 C dX1_worthTo_37 (k := ?_)
    refine pw_aload_n C dX1_worthTo_40 rfl ?_
    refine gf_1_12 d hd C dX1_worthTo_41 ?_
    refine gv_1_116 d hd C dX1_worthTo_44 (fun r44 => ?_)
    refine pw_if_eq (tgt := 62) C dX1_worthTo_47 rfl (by omega) (fun c47 => ?_) (fun c47 => ?_)
    · refine pw_iload C dX1_worthTo_62 rfl ?_
      exact pw_ireti C R dX1_worthTo_64 (by unfold worth; (first | rw [b01_f (show ¬ (s ≠ V 10 0 x) by omega)] | rw [b01_t (show s ≠ V 10 0 x by omega)]); (first | rw [b01_t (show V 1 0 8 ≠ 0 ∧ dearer V s t from ⟨by omega, by assumption⟩)] | rw [b01_f (show ¬ (V 1 0 8 ≠ 0 ∧ dearer V s t) from fun h => absurd h.1 (by omega))] | rw [b01_f (show ¬ (V 1 0 8 ≠ 0 ∧ dearer V s t) from fun h => absurd h.2 (by assumption))]); omega) rfl
    · refine pw_aload_n C dX1_worthTo_50 rfl ?_
      refine pw_iload_n C dX1_worthTo_51 rfl ?_
      refine pw_iload_n C dX1_worthTo_52 rfl ?_
      refine pw_cVI C [_, _] mi_X1_liesDearer mv_X1_liesDearer ml_1_120 (oD_0 hd) rfl (c_X1_liesDearer hd (by omega) (by omega) (by assumption) (by omega) (by omega) (by omega) (by omega)) (by decide) rfl (Nat.le_of_ble_eq_true rfl) dX1_worthTo_53 ?_
      refine pw_if_eq_b (tgt := 62) C dX1_worthTo_56 rfl (fun c56 => ?_) (fun c56 => ?_)
      · refine pw_iload C dX1_worthTo_62 rfl ?_
        exact pw_ireti C R dX1_worthTo_64 (by unfold worth; (first | rw [b01_f (show ¬ (s ≠ V 10 0 x) by omega)] | rw [b01_t (show s ≠ V 10 0 x by omega)]); (first | rw [b01_t (show V 1 0 8 ≠ 0 ∧ dearer V s t from ⟨by omega, by assumption⟩)] | rw [b01_f (show ¬ (V 1 0 8 ≠ 0 ∧ dearer V s t) from fun h => absurd h.1 (by omega))] | rw [b01_f (show ¬ (V 1 0 8 ≠ 0 ∧ dearer V s t) from fun h => absurd h.2 (by assumption))]); omega) rfl
      · refine pw_iinc_4 C dX1_worthTo_59 (k := ?_)
        refine pw_iload C dX1_worthTo_62 rfl ?_
        exact pw_ireti C R dX1_worthTo_64 (by unfold worth; (first | rw [b01_f (show ¬ (s ≠ V 10 0 x) by omega)] | rw [b01_t (show s ≠ V 10 0 x by omega)]); (first | rw [b01_t (show V 1 0 8 ≠ 0 ∧ dearer V s t from ⟨by omega, by assumption⟩)] | rw [b01_f (show ¬ (V 1 0 8 ≠ 0 ∧ dearer V s t) from fun h => absurd h.1 (by omega))] | rw [b01_f (show ¬ (V 1 0 8 ≠ 0 ∧ dearer V s t) from fun h => absurd h.2 (by assumption))]); omega) rfl
set_option maxRecDepth 100000 in
set_option maxHeartbeats 400000 in
theorem c_X1_gainOf {l : Launch} {S : SW} {M : Mem} {V : DM} {d : Nat} {x s t : Int} (hd : d < 2) (hx : InR x) (hs : InR s) (ht : InR t) (hI : DayOk V) (x0 : 0 ≤ x) (x1 : x < V 8 0 4) (s0 : 0 ≤ s) (s1 : s < V 1 0 6) (t0 : 0 ≤ t) (t1 : t < V 1 0 5) : PM l S yX1_gainOf cX1_gainOf 4 (some .int) 2 47 [rv S d 0 0, iv x, iv s, iv t] (mst M d V) (rI (gain V x s t) (mst M d V)) := by
  refine PM.of (own := RX1) (by decide) rfl [some (rv S d 0 0), some (iv x), some (iv s), some (iv t)] rfl rfl (Nat.le_of_ble_eq_true rfl) (fun X hXl C R => ?_)
  subst hXl
  obtain ⟨i1, i2, i3, i4, i5, i6, i7, i8⟩ := id hI
  have iw := worth_r hI x0 x1 s0 s1 t0 t1
  refine pw_aload_n C dX1_gainOf_0 rfl ?_
  refine gf_1_25 d hd C dX1_gainOf_1 ?_
  refine pw_iload_n C dX1_gainOf_4 rfl ?_
  refine pw_ialdV C (aD_13 hd) (by omega) (by omega) (by decide) dX1_gainOf_5 (fun r5 => ?_)
  refine pw_if_le (tgt := 31) C dX1_gainOf_6 rfl (by omega) (fun c6 => ?_) (fun c6 => ?_)
  · refine pw_iconst C dX1_gainOf_31 ?_
    exact pw_ireti C R dX1_gainOf_32 (by unfold gain; first | rw [if_pos (by omega)] | rw [if_neg (by omega)]) rfl
  · refine pw_aload_n C dX1_gainOf_9 rfl ?_
    refine pw_iload_n C dX1_gainOf_10 rfl ?_
    refine pw_iload_n C dX1_gainOf_11 rfl ?_
    refine pw_iload_n C dX1_gainOf_12 rfl ?_
    refine pw_cVI C [_, _, _] mi_X1_worthTo mv_X1_worthTo ml_1_140 (oD_0 hd) rfl (c_X1_worthTo hd (by omega) (by omega) (by omega) (by assumption) (by omega) (by omega) (by omega) (by omega) (by omega) (by omega)) (by decide) rfl (Nat.le_of_ble_eq_true rfl) dX1_gainOf_13 ?_
    refine pw_aload_n C dX1_gainOf_16 rfl ?_
    refine gf_1_12 d hd C dX1_gainOf_17 ?_
    refine gf_1_123 d hd C dX1_gainOf_20 ?_
    refine pw_iload_n C dX1_gainOf_23 rfl ?_
    refine pw_aald C (qD_6 hd) (by omega) (by omega) (by decide) dX1_gainOf_24 ?_
    refine pw_iload_n C dX1_gainOf_25 rfl ?_
    refine pw_ialdV C (aD_7 hd (by omega) (by omega)) (by omega) (by omega) (by decide) dX1_gainOf_26 (fun r26 => ?_)
    refine pw_isub C dX1_gainOf_27 ?_
    refine pw_goto (tgt := 32) C dX1_gainOf_28 rfl ?_
    exact pw_ireti C R dX1_gainOf_32 (by unfold gain; first | rw [if_pos (by omega)] | rw [if_neg (by omega)]) rfl
set_option maxRecDepth 100000 in
set_option maxHeartbeats 400000 in
theorem L_X1_choiceOf {X : PX} {S : SW} {M : Mem} {V : DM} {d : Nat} {x t : Int}  (hd : d < 2) (hI : DayOk V) (hx : InR x) (ht : InR t) (x0 : 0 ≤ x) (x1 : x < V 8 0 4) (t0 : 0 ≤ t) (t1 : t < V 1 0 5) (h1 : ¬ (V 9 0 x = 2 ∧ cheaper V (V 10 0 x) t)) (h2 : gain V x (V 10 0 x) t < 0) (h3 : V 9 0 x ≠ 0) (C : Cx X S RX1 cX1_choiceOf 3 70) (R : CR X S (rI (choice V x t) (mst M d V)) (some .int)) :
    ∀ (n9 : Nat) (s : Int), (0 ≤ s) → (s ≤ V 1 0 6) → V 1 0 6 - s < n9 → PW X S (mst M d V) 75 [some (rv S d 0 0), some (iv x), some (iv t), some (iv (V 10 0 x)), some (iv ((pick V x t s).1)), some (iv ((pick V x t s).2)), some (iv s), none] [] := by
  obtain ⟨i1, i2, i3, i4, i5, i6, i7, i8⟩ := id hI
  intro n9
  induction n9 with
  | zero => intro s s0 s1 hn9; omega
  | succ n9 ih =>
    intro s s0 s1 hn9
    refine pw_iload C dX1_choiceOf_75 rfl ?_
    refine pw_aload_n C dX1_choiceOf_77 rfl ?_
    refine gf_1_12 d hd C dX1_choiceOf_78 ?_
    refine gv_1_67 d hd C dX1_choiceOf_81 (fun r81 => ?_)
    refine pw_icmp_ge (tgt := 118) C dX1_choiceOf_84 rfl (by omega) (by omega) (fun c84 => ?_) (fun c84 => ?_)
    · refine pw_iload C dX1_choiceOf_118 rfl ?_
      exact pw_ireti C R dX1_choiceOf_120 (by have e : V 1 0 6 = s := (by omega); unfold choice; rw [if_neg h1, if_neg (by omega), if_neg h3, e]) rfl
    · refine pw_aload_n C dX1_choiceOf_87 rfl ?_
      refine pw_iload_n C dX1_choiceOf_88 rfl ?_
      refine pw_iload C dX1_choiceOf_89 rfl ?_
      refine pw_iload_n C dX1_choiceOf_91 rfl ?_
      refine pw_cVI C [_, _, _] mi_X1_gainOf mv_X1_gainOf ml_1_136 (oD_0 hd) rfl (c_X1_gainOf hd (by omega) (by omega) (by omega) hI (by omega) (by omega) (by omega) (by omega) (by omega) (by omega)) (by decide) rfl (Nat.le_of_ble_eq_true rfl) dX1_choiceOf_92 ?_
      refine pw_istore_7 C dX1_choiceOf_95 (k := ?_)
      refine pw_iload C dX1_choiceOf_97 rfl ?_
      refine pw_iload C dX1_choiceOf_99 rfl ?_
      refine pw_icmp_le (tgt := 112) C dX1_choiceOf_101 rfl (by have := gain_r hI x0 x1 s0 (show s < V 1 0 6 by omega) t0 t1; omega) (by have := (pick_r hI x0 x1 t0 t1 s1).2; omega) (fun c101 => ?_) (fun c101 => ?_)
      · refine pw_iinc_6 C dX1_choiceOf_112 (k := ?_)
        refine pw_goto (tgt := 75) C dX1_choiceOf_115 rfl ?_
        have hs := pick_s V x t s0
        first | rw [if_pos (by omega)] at hs | rw [if_neg (by omega)] at hs
        have k := ih (s + 1) (by omega) (by omega) (by omega)
        rw [hs] at k
        exact pw_fg 7 rfl k
      · refine pw_iload C dX1_choiceOf_104 rfl ?_
        refine pw_istore_5 C dX1_choiceOf_106 (k := ?_)
        refine pw_iload C dX1_choiceOf_108 rfl ?_
        refine pw_istore_4 C dX1_choiceOf_110 (k := ?_)
        refine pw_iinc_6 C dX1_choiceOf_112 (k := ?_)
        refine pw_goto (tgt := 75) C dX1_choiceOf_115 rfl ?_
        have hs := pick_s V x t s0
        first | rw [if_pos (by omega)] at hs | rw [if_neg (by omega)] at hs
        have k := ih (s + 1) (by omega) (by omega) (by omega)
        rw [hs] at k
        exact pw_fg 7 rfl k
set_option maxRecDepth 100000 in
set_option maxHeartbeats 400000 in
theorem c_X1_choiceOf {l : Launch} {S : SW} {M : Mem} {V : DM} {d : Nat} {x t : Int} (hd : d < 2) (hx : InR x) (ht : InR t) (hI : DayOk V) (x0 : 0 ≤ x) (x1 : x < V 8 0 4) (t0 : 0 ≤ t) (t1 : t < V 1 0 5) : PM l S yX1_choiceOf cX1_choiceOf 8 (some .int) 3 70 [rv S d 0 0, iv x, iv t] (mst M d V) (rI (choice V x t) (mst M d V)) := by
  refine PM.of (own := RX1) (by decide) rfl [some (rv S d 0 0), some (iv x), some (iv t), none, none, none, none, none] rfl rfl (Nat.le_of_ble_eq_true rfl) (fun X hXl C R => ?_)
  subst hXl
  obtain ⟨i1, i2, i3, i4, i5, i6, i7, i8⟩ := id hI
  have ix := i4 x x0 x1
  have ig := gain_r hI x0 x1 ix.2.1.1 ix.2.1.2 t0 t1
  refine pw_aload_n C dX1_choiceOf_0 rfl ?_
  refine gf_1_21 d hd C dX1_choiceOf_1 ?_
  refine gf_1_113 d hd C dX1_choiceOf_4 ?_
  refine pw_iload_n C dX1_choiceOf_7 rfl ?_
  refine pw_ialdV C (aD_10 hd) (by omega) (by omega) (by decide) dX1_choiceOf_8 (fun r8 => ?_)
  refine pw_istore_3 C dX1_choiceOf_9 (k := ?_)
  refine pw_aload_n C dX1_choiceOf_10 rfl ?_
  refine gf_1_21 d hd C dX1_choiceOf_11 ?_
  refine gf_1_127 d hd C dX1_choiceOf_14 ?_
  refine pw_iload_n C dX1_choiceOf_17 rfl ?_
  refine pw_ialdV C (aD_9 hd) (by omega) (by omega) (by decide) dX1_choiceOf_18 (fun r18 => ?_)
  refine pw_iconst C dX1_choiceOf_19 ?_
  refine pw_icmp_ne (tgt := 38) C dX1_choiceOf_20 rfl (by omega) (by omega) (fun c20 => ?_) (fun c20 => ?_)
  · refine pw_aload_n C dX1_choiceOf_38 rfl ?_
    refine pw_iload_n C dX1_choiceOf_39 rfl ?_
    refine pw_iload_n C dX1_choiceOf_40 rfl ?_
    refine pw_iload_n C dX1_choiceOf_41 rfl ?_
    refine pw_cVI C [_, _, _] mi_X1_gainOf mv_X1_gainOf ml_1_136 (oD_0 hd) rfl (c_X1_gainOf hd (by omega) (by omega) (by omega) hI (by omega) (by omega) (by omega) (by omega) (by omega) (by omega)) (by decide) rfl (Nat.le_of_ble_eq_true rfl) dX1_choiceOf_42 ?_
    refine pw_if_lt (tgt := 50) C dX1_choiceOf_45 rfl (by omega) (fun c45 => ?_) (fun c45 => ?_)
    · refine pw_aload_n C dX1_choiceOf_50 rfl ?_
      refine gf_1_21 d hd C dX1_choiceOf_51 ?_
      refine gf_1_127 d hd C dX1_choiceOf_54 ?_
      refine pw_iload_n C dX1_choiceOf_57 rfl ?_
      refine pw_ialdV C (aD_9 hd) (by omega) (by omega) (by decide) dX1_choiceOf_58 (fun r58 => ?_)
      refine pw_if_ne (tgt := 65) C dX1_choiceOf_59 rfl (by omega) (fun c59 => ?_) (fun c59 => ?_)
      · refine pw_bipush C dX1_choiceOf_65 (by decide) ?_
        refine pw_istore_4 C dX1_choiceOf_67 (k := ?_)
        refine pw_iconst C dX1_choiceOf_69 ?_
        refine pw_istore_5 C dX1_choiceOf_70 (k := ?_)
        refine pw_iconst C dX1_choiceOf_72 ?_
        refine pw_istore_6 C dX1_choiceOf_73 (k := ?_)
        exact L_X1_choiceOf hd hI hx ht x0 x1 t0 t1 (by first | exact fun h => absurd h.1 (by omega) | exact fun h => absurd h.2 (by assumption)) (by omega) (by omega) C R (V 1 0 6 + 1).toNat 0 (by omega) (by omega) (by omega)
      · refine pw_bipush C dX1_choiceOf_62 (by decide) ?_
        exact pw_ireti C R dX1_choiceOf_64 (by unfold choice; rw [if_neg (by first | exact fun h => absurd h.1 (by omega) | exact fun h => absurd h.2 (by assumption)), if_neg (by omega), if_pos (by omega)]) rfl
    · refine pw_iload_n C dX1_choiceOf_48 rfl ?_
      exact pw_ireti C R dX1_choiceOf_49 (by unfold choice; rw [if_neg (by first | exact fun h => absurd h.1 (by omega) | exact fun h => absurd h.2 (by assumption)), if_pos (by omega)]) rfl
  · refine pw_aload_n C dX1_choiceOf_23 rfl ?_
    refine gf_1_12 d hd C dX1_choiceOf_24 ?_
    refine pw_iload_n C dX1_choiceOf_27 rfl ?_
    refine pw_iload_n C dX1_choiceOf_28 rfl ?_
    refine pw_cVI C [_, _] mi_X6_isCheaperNext mv_X6_isCheaperNext ml_1_133 (oD_1 hd) rfl (c_X6_isCheaperNext hd (by omega) (by omega) hI (by omega) (by omega) (by omega) (by omega)) (by decide) rfl (Nat.le_of_ble_eq_true rfl) dX1_choiceOf_29 ?_
    refine pw_if_eq_b (tgt := 38) C dX1_choiceOf_32 rfl (fun c32 => ?_) (fun c32 => ?_)
    · refine pw_aload_n C dX1_choiceOf_38 rfl ?_
      refine pw_iload_n C dX1_choiceOf_39 rfl ?_
      refine pw_iload_n C dX1_choiceOf_40 rfl ?_
      refine pw_iload_n C dX1_choiceOf_41 rfl ?_
      refine pw_cVI C [_, _, _] mi_X1_gainOf mv_X1_gainOf ml_1_136 (oD_0 hd) rfl (c_X1_gainOf hd (by omega) (by omega) (by omega) hI (by omega) (by omega) (by omega) (by omega) (by omega) (by omega)) (by decide) rfl (Nat.le_of_ble_eq_true rfl) dX1_choiceOf_42 ?_
      refine pw_if_lt (tgt := 50) C dX1_choiceOf_45 rfl (by omega) (fun c45 => ?_) (fun c45 => ?_)
      · refine pw_aload_n C dX1_choiceOf_50 rfl ?_
        refine gf_1_21 d hd C dX1_choiceOf_51 ?_
        refine gf_1_127 d hd C dX1_choiceOf_54 ?_
        refine pw_iload_n C dX1_choiceOf_57 rfl ?_
        refine pw_ialdV C (aD_9 hd) (by omega) (by omega) (by decide) dX1_choiceOf_58 (fun r58 => ?_)
        refine pw_if_ne (tgt := 65) C dX1_choiceOf_59 rfl (by omega) (fun c59 => ?_) (fun c59 => ?_)
        · refine pw_bipush C dX1_choiceOf_65 (by decide) ?_
          refine pw_istore_4 C dX1_choiceOf_67 (k := ?_)
          refine pw_iconst C dX1_choiceOf_69 ?_
          refine pw_istore_5 C dX1_choiceOf_70 (k := ?_)
          refine pw_iconst C dX1_choiceOf_72 ?_
          refine pw_istore_6 C dX1_choiceOf_73 (k := ?_)
          exact L_X1_choiceOf hd hI hx ht x0 x1 t0 t1 (by first | exact fun h => absurd h.1 (by omega) | exact fun h => absurd h.2 (by assumption)) (by omega) (by omega) C R (V 1 0 6 + 1).toNat 0 (by omega) (by omega) (by omega)
        · refine pw_bipush C dX1_choiceOf_62 (by decide) ?_
          exact pw_ireti C R dX1_choiceOf_64 (by unfold choice; rw [if_neg (by first | exact fun h => absurd h.1 (by omega) | exact fun h => absurd h.2 (by assumption)), if_neg (by omega), if_pos (by omega)]) rfl
      · refine pw_iload_n C dX1_choiceOf_48 rfl ?_
        exact pw_ireti C R dX1_choiceOf_49 (by unfold choice; rw [if_neg (by first | exact fun h => absurd h.1 (by omega) | exact fun h => absurd h.2 (by assumption)), if_pos (by omega)]) rfl
    · refine pw_bipush C dX1_choiceOf_35 (by decide) ?_
      exact pw_ireti C R dX1_choiceOf_37 (by unfold choice; rw [if_pos ⟨by omega, by assumption⟩]) rfl
set_option maxRecDepth 100000 in
set_option maxHeartbeats 400000 in
theorem c_X1_comes {l : Launch} {S : SW} {M : Mem} {V : DM} {d : Nat} {x t : Int} (hd : d < 2) (hx : InR x) (ht : InR t) (hI : DayOk V) (x0 : 0 ≤ x) (x1 : x < V 8 0 4) : PM l S yX1_comes cX1_comes 3 (some .boolean) 0 0 [rv S d 0 0, iv x, iv t] (mst M d V) (rI (b01 (comesP V x t)) (mst M d V)) := by
  refine PM.of (own := RX1) (by decide) rfl [some (rv S d 0 0), some (iv x), some (iv t)] rfl rfl (Nat.le_of_ble_eq_true rfl) (fun X hXl C R => ?_)
  subst hXl
  obtain ⟨i1, i2, i3, i4, i5, i6, i7, i8⟩ := id hI
  refine pw_aload_n C dX1_comes_0 rfl ?_
  refine gf_1_21 d hd C dX1_comes_1 ?_
  refine gf_1_127 d hd C dX1_comes_4 ?_
  refine pw_iload_n C dX1_comes_7 rfl ?_
  refine pw_ialdV C (aD_9 hd) (by omega) (by omega) (by decide) dX1_comes_8 (fun r8 => ?_)
  refine pw_iconst C dX1_comes_9 ?_
  refine pw_icmp_ne (tgt := 43) C dX1_comes_10 rfl (by omega) (by omega) (fun c10 => ?_) (fun c10 => ?_)
  · refine pw_aload_n C dX1_comes_43 rfl ?_
    refine gf_1_21 d hd C dX1_comes_44 ?_
    refine gf_1_130 d hd C dX1_comes_47 ?_
    refine pw_iload_n C dX1_comes_50 rfl ?_
    refine pw_ialdV C (aD_12 hd) (by omega) (by omega) (by decide) dX1_comes_51 (fun r51 => ?_)
    refine pw_iload_n C dX1_comes_52 rfl ?_
    refine pw_icmp_ne (tgt := 60) C dX1_comes_53 rfl (by omega) (by omega) (fun c53 => ?_) (fun c53 => ?_)
    · refine pw_iconst C dX1_comes_60 ?_
      exact pw_zret0 C R dX1_comes_61 (by unfold comesP; omega) rfl
    · refine pw_iconst C dX1_comes_56 ?_
      refine pw_goto (tgt := 61) C dX1_comes_57 rfl ?_
      exact pw_zret1 C R dX1_comes_61 (by unfold comesP; omega) rfl
  · refine pw_aload_n C dX1_comes_13 rfl ?_
    refine gf_1_21 d hd C dX1_comes_14 ?_
    refine gf_1_130 d hd C dX1_comes_17 ?_
    refine pw_iload_n C dX1_comes_20 rfl ?_
    refine pw_ialdV C (aD_12 hd) (by omega) (by omega) (by decide) dX1_comes_21 (fun r21 => ?_)
    refine pw_iload_n C dX1_comes_22 rfl ?_
    refine pw_icmp_gt (tgt := 41) C dX1_comes_23 rfl (by omega) (by omega) (fun c23 => ?_) (fun c23 => ?_)
    · refine pw_iconst C dX1_comes_41 ?_
      exact pw_zret0 C R dX1_comes_42 (by unfold comesP; omega) rfl
    · refine pw_aload_n C dX1_comes_26 rfl ?_
      refine gf_1_35 d hd C dX1_comes_27 ?_
      refine pw_iload_n C dX1_comes_30 rfl ?_
      refine pw_ialdV C (aD_16 hd) (by omega) (by omega) (by decide) dX1_comes_31 (fun r31 => ?_)
      refine pw_bipush C dX1_comes_32 (by decide) ?_
      refine pw_icmp_ne (tgt := 41) C dX1_comes_34 rfl (by omega) (by omega) (fun c34 => ?_) (fun c34 => ?_)
      · refine pw_iconst C dX1_comes_41 ?_
        exact pw_zret0 C R dX1_comes_42 (by unfold comesP; omega) rfl
      · refine pw_iconst C dX1_comes_37 ?_
        refine pw_goto (tgt := 42) C dX1_comes_38 rfl ?_
        exact pw_zret1 C R dX1_comes_42 (by unfold comesP; omega) rfl
set_option maxRecDepth 100000 in
set_option maxHeartbeats 400000 in
theorem c_X1_sellOne {l : Launch} {S : SW} {M : Mem} {V : DM} {d : Nat} {x s t : Int} (hd : d < 2) (hx : InR x) (hs : InR s) (ht : InR t) (hI : DayOk V) (x0 : 0 ≤ x) (x1 : x < V 8 0 4) (s0 : 0 ≤ s) (s1 : s < V 1 0 6) (t0 : 0 ≤ t) (t1 : t < V 1 0 5) : PM l S yX1_sellOne cX1_sellOne 5 none 0 0 [rv S d 0 0, iv x, iv s, iv t] (mst M d V) (rV (mst M d (sell1 V x s t))) := by
  refine PM.of (own := RX1) (by decide) rfl [some (rv S d 0 0), some (iv x), some (iv s), some (iv t), none] rfl rfl (Nat.le_of_ble_eq_true rfl) (fun X hXl C R => ?_)
  subst hXl
  obtain ⟨i1, i2, i3, i4, i5, i6, i7, i8⟩ := id hI
  have ip := i6 s t s0 s1 t0 t1
  refine pw_aload_n C dX1_sellOne_0 rfl ?_
  refine gf_1_12 d hd C dX1_sellOne_1 ?_
  refine gf_1_123 d hd C dX1_sellOne_4 ?_
  refine pw_iload_n C dX1_sellOne_7 rfl ?_
  refine pw_aald C (qD_6 hd) (by omega) (by omega) (by decide) dX1_sellOne_8 ?_
  refine pw_iload_n C dX1_sellOne_9 rfl ?_
  refine pw_ialdV C (aD_7 hd (by omega) (by omega)) (by omega) (by omega) (by decide) dX1_sellOne_10 (fun r10 => ?_)
  refine pw_istore_4 C dX1_sellOne_11 (k := ?_)
  refine pw_aload_n C dX1_sellOne_13 rfl ?_
  refine gf_1_25 d hd C dX1_sellOne_14 ?_
  refine pw_iload_n C dX1_sellOne_17 rfl ?_
  refine pw_dup2 C dX1_sellOne_18 rfl rfl ?_
  refine pw_ialdV C (aD_13 hd) (by omega) (by omega) (by decide) dX1_sellOne_19 (fun r19 => ?_)
  refine pw_iconst C dX1_sellOne_20 ?_
  refine pw_isub C dX1_sellOne_21 ?_
  refine pw_w ?_
  refine pw_iastV C (aD_13 hd) (by omega) (by omega) (by decide) (w32_R _) dX1_sellOne_22 ?_
  refine pw_aload_n C dX1_sellOne_23 rfl ?_
  refine gf_1_25 d hd C dX1_sellOne_24 ?_
  refine pw_iload_n C dX1_sellOne_27 rfl ?_
  refine pw_ialdV C (aD_13 hd) (by omega) (by omega) (by decide) dX1_sellOne_28 (fun r28 => ?_)
  refine pw_if_ne (tgt := 39) C dX1_sellOne_29 rfl (by omega) (fun c29 => ?_) (fun c29 => ?_)
  · refine pw_aload_n C dX1_sellOne_39 rfl ?_
    refine gf_1_32 d hd C dX1_sellOne_40 ?_
    refine pw_iload_n C dX1_sellOne_43 rfl ?_
    refine pw_dup2 C dX1_sellOne_44 rfl rfl ?_
    refine pw_ialdV C (aD_15 hd) (by omega) (by omega) (by decide) dX1_sellOne_45 (fun r45 => ?_)
    refine pw_iload C dX1_sellOne_46 rfl ?_
    refine pw_iadd C dX1_sellOne_48 ?_
    refine pw_w ?_
    refine pw_iastV C (aD_15 hd) (by omega) (by omega) (by decide) (w32_R _) dX1_sellOne_49 ?_
    refine pw_aload_n C dX1_sellOne_50 rfl ?_
    refine pw_dup C dX1_sellOne_51 rfl ?_
    refine gv_1_64 d hd C dX1_sellOne_52 (fun r52 => ?_)
    refine pw_iload C dX1_sellOne_55 rfl ?_
    refine pw_iadd C dX1_sellOne_57 ?_
    refine pw_w ?_
    refine pv_1_64 d hd C (w32_R _) dX1_sellOne_58 ?_
    refine pw_aload_n C dX1_sellOne_61 rfl ?_
    refine gf_1_35 d hd C dX1_sellOne_62 ?_
    refine pw_iload_n C dX1_sellOne_65 rfl ?_
    refine pw_iload_n C dX1_sellOne_66 rfl ?_
    refine pw_iastV C (aD_16 hd) (by omega) (by omega) (by decide) (by omega) dX1_sellOne_67 ?_
    refine pw_aload_n C dX1_sellOne_68 rfl ?_
    refine gf_1_38 d hd C dX1_sellOne_69 ?_
    refine pw_iload_n C dX1_sellOne_72 rfl ?_
    refine pw_iload_n C dX1_sellOne_73 rfl ?_
    refine pw_iastV C (aD_17 hd) (by omega) (by omega) (by decide) (by omega) dX1_sellOne_74 ?_
    refine pw_aload_n C dX1_sellOne_75 rfl ?_
    refine gf_1_41 d hd C dX1_sellOne_76 ?_
    refine pw_iload_n C dX1_sellOne_79 rfl ?_
    refine pw_iload C dX1_sellOne_80 rfl ?_
    refine pw_iastV C (aD_18 hd) (by omega) (by omega) (by decide) (by omega) dX1_sellOne_82 ?_
    exact pw_vreti C R dX1_sellOne_83 (by first | (simp only [sell1, sell0, gone1, if_pos c29]; done) | (simp only [sell1, sell0, gone1, if_neg c29]; done))
  · refine pw_aload_n C dX1_sellOne_32 rfl ?_
    refine gf_1_29 d hd C dX1_sellOne_33 ?_
    refine pw_iload_n C dX1_sellOne_36 rfl ?_
    refine pw_iload_n C dX1_sellOne_37 rfl ?_
    refine pw_iastV C (aD_14 hd) (by omega) (by omega) (by decide) (by omega) dX1_sellOne_38 ?_
    refine pw_aload_n C dX1_sellOne_39 rfl ?_
    refine gf_1_32 d hd C dX1_sellOne_40 ?_
    refine pw_iload_n C dX1_sellOne_43 rfl ?_
    refine pw_dup2 C dX1_sellOne_44 rfl rfl ?_
    refine pw_ialdV C (aD_15 hd) (by omega) (by omega) (by decide) dX1_sellOne_45 (fun r45 => ?_)
    refine pw_iload C dX1_sellOne_46 rfl ?_
    refine pw_iadd C dX1_sellOne_48 ?_
    refine pw_w ?_
    refine pw_iastV C (aD_15 hd) (by omega) (by omega) (by decide) (w32_R _) dX1_sellOne_49 ?_
    refine pw_aload_n C dX1_sellOne_50 rfl ?_
    refine pw_dup C dX1_sellOne_51 rfl ?_
    refine gv_1_64 d hd C dX1_sellOne_52 (fun r52 => ?_)
    refine pw_iload C dX1_sellOne_55 rfl ?_
    refine pw_iadd C dX1_sellOne_57 ?_
    refine pw_w ?_
    refine pv_1_64 d hd C (w32_R _) dX1_sellOne_58 ?_
    refine pw_aload_n C dX1_sellOne_61 rfl ?_
    refine gf_1_35 d hd C dX1_sellOne_62 ?_
    refine pw_iload_n C dX1_sellOne_65 rfl ?_
    refine pw_iload_n C dX1_sellOne_66 rfl ?_
    refine pw_iastV C (aD_16 hd) (by omega) (by omega) (by decide) (by omega) dX1_sellOne_67 ?_
    refine pw_aload_n C dX1_sellOne_68 rfl ?_
    refine gf_1_38 d hd C dX1_sellOne_69 ?_
    refine pw_iload_n C dX1_sellOne_72 rfl ?_
    refine pw_iload_n C dX1_sellOne_73 rfl ?_
    refine pw_iastV C (aD_17 hd) (by omega) (by omega) (by decide) (by omega) dX1_sellOne_74 ?_
    refine pw_aload_n C dX1_sellOne_75 rfl ?_
    refine gf_1_41 d hd C dX1_sellOne_76 ?_
    refine pw_iload_n C dX1_sellOne_79 rfl ?_
    refine pw_iload C dX1_sellOne_80 rfl ?_
    refine pw_iastV C (aD_18 hd) (by omega) (by omega) (by decide) (by omega) dX1_sellOne_82 ?_
    exact pw_vreti C R dX1_sellOne_83 (by first | (simp only [sell1, sell0, gone1, if_pos c29]; done) | (simp only [sell1, sell0, gone1, if_neg c29]; done))
