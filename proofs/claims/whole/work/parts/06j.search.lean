noncomputable def tofX (V : DM) (t : Int) (st : Int × Int × Int) : Nat → Int × Int × Int
  | 0 => st
  | n + 1 => if (tofX V t st n).1 < prf (offV V t (n + 1)) then (prf (offV V t (n + 1)), t, n + 1) else tofX V t st n
/-- taking off: profit, hour, how much -/
noncomputable def tof (V : DM) (h : Int) : Int × Int × Int := iterI (fun t st => tofX V t st 30) (prf V, -9, 0) h
def EQ7 (U W : DM) : Prop := ∀ (k : Nat) (r i : Int), k ≠ 7 → LC (U 1 0 5) (U 1 0 6) (U 8 0 4) 0 0 k r i → W k r i = U k r i
theorem EQ.e7 {U W : DM} {g z : Int} (h : EQ g z U W) : EQ7 U W := fun k r i _ hl => by
  refine h k r i ?_
  rcases hl with q | q | q | q | q | q | q | q | q
  · exact Or.inl q
  · exact Or.inr (Or.inl q)
  · exact Or.inr (Or.inr (Or.inl q))
  · exact Or.inr (Or.inr (Or.inr (Or.inl q)))
  · exact Or.inr (Or.inr (Or.inr (Or.inr (Or.inl q))))
  · omega
  · omega
  · omega
  · omega
theorem EQ7.fr {U W W2 : DM} (h : EQ7 U W) (f : Fr W W2) : EQ7 U W2 := fun k r i hk hl => by
  have hk12 : 1 ≤ k ∧ k ≤ 12 := by rcases hl with q | q | q | q | q | q | q | q | q <;> omega
  rw [f k r i (by omega) (by omega)]
  exact h k r i hk hl
theorem EQ7.off {U W W2 : DM} (h : EQ7 U W) {f x : Int} (ho : OffI U W f x (W 1 0 6) W2) : EQ 0 0 (offV U f x) W2 := by
  have e6 : W 1 0 6 = U 1 0 6 := h 1 0 6 (by omega) (LC.a (by omega) (by omega))
  have e5 : W 1 0 5 = U 1 0 5 := h 1 0 5 (by omega) (LC.a (by omega) (by omega))
  intro k r i hl
  rw [offV_n U f x 0 5 (by omega), offV_n U f x 0 6 (by omega), offV_n U f x 0 4 (by omega)] at hl
  by_cases hk : k = 7
  · subst hk
    have q : 0 ≤ r ∧ r < U 1 0 6 ∧ 0 ≤ i ∧ i < U 1 0 5 := by rcases hl with q | q | q | q | q | q | q | q | q <;> omega
    rw [ho.1 r i q.1 (by omega) q.2.2.1 (by omega), offV_7]
  · rw [ho.2 k r i hk, h k r i hk hl, offV_n _ _ _ _ _ hk]
set_option maxRecDepth 100000 in
set_option maxHeartbeats 400000 in
theorem L_X4_findTakingOff2 {X : PX} {S : SW} {M : Mem} {t : Int} {st0 : Int × Int × Int}  (hI : DayOk (M 0)) (hk : M 0 0 0 11 = -9) (t0 : 0 ≤ t) (t1 : t < M 0 1 0 5) (K : ∀ (P H A : Int) (W : DM), EQ7 (M 0) W → W 0 0 11 = -9 → (P, H, A) = tofX (M 0) t st0 30 → PW X S (mst (mst M 2 (sF (M 2) P H A)) 1 W) 122 [some (rv S 2 1 0), some (rv S 0 0 0), some (iv t), none] []) (C : Cx X S RX4 cX4_findTakingOff 5 120) (R : CR X S (rVQ (fun N => ∃ W, N = mst (mst M 2 (sF (M 2) (tof (M 0) (M 0 1 0 5)).1 (tof (M 0) (M 0 1 0 5)).2.1 (tof (M 0) (M 0 1 0 5)).2.2)) 1 W)) none) :
    ∀ (n9 : Nat) (x P H A : Int) (W : DM), (1 ≤ x) → (x ≤ 31) → (EQ7 (M 0) W) → (W 0 0 11 = -9) → ((P, H, A) = tofX (M 0) t st0 (x - 1).toNat) → 32 - x < n9 → PW X S (mst (mst M 2 (sF (M 2) P H A)) 1 W) 52 [some (rv S 2 1 0), some (rv S 0 0 0), some (iv t), some (iv x)] [] := by
  obtain ⟨i1, i2, i3, i4, i5, i6, i7, i8⟩ := id hI
  intro n9
  induction n9 with
  | zero => intro x P H A W x0 x1 hW hW11 hp hn9; omega
  | succ n9 ih =>
    intro x P H A W x0 x1 hW hW11 hp hn9
    refine pw_iload_n C dX4_findTakingOff_52 rfl ?_
    refine pw_bipush C dX4_findTakingOff_53 (by decide) ?_
    refine pw_icmp_gt (tgt := 122) C dX4_findTakingOff_55 rfl (by omega) (by omega) (fun c55 => ?_) (fun c55 => ?_)
    · refine pw_fg 3 rfl (K P H A W hW hW11 ?_)
      rw [show (x - 1).toNat = 30 by omega] at hp
      exact hp
    · refine pw_aload_n C dX4_findTakingOff_58 rfl ?_
      refine gf_4_12 C dX4_findTakingOff_59 ?_
      refine gf_4_33 1 (by decide) C dX4_findTakingOff_62 ?_
      refine pw_aload_n C dX4_findTakingOff_65 rfl ?_
      refine gf_4_33 0 (by decide) C dX4_findTakingOff_66 ?_
      refine pw_iload_n C dX4_findTakingOff_69 rfl ?_
      refine pw_iload_n C dX4_findTakingOff_70 rfl ?_
      have e6 : W 1 0 6 = M 0 1 0 6 := hW 1 0 6 (by omega) (LC.a (by omega) (by omega))
      have e5 : W 1 0 5 = M 0 1 0 5 := hW 1 0 5 (by omega) (LC.a (by omega) (by omega))
      refine pw_cVQV C [_, _, _] mi_X6_takeOffFrom mv_X6_takeOffFrom ml_4_69 (oD_1 (by decide)) rfl (c_X6_takeOffFrom (by omega) (by omega) (by omega) (by omega) (by omega) (by omega) (fun s t a b c d => i6 s t a (by omega) c (by omega)) (by omega) (by omega)) (by decide) rfl (Nat.le_of_ble_eq_true rfl) dX4_findTakingOff_71 ?_
      rintro N9 ⟨W2, rfl, ho⟩
      have ho : OffI (M 0) W t x (W 1 0 6) W2 := ho
      have hIu : DayOk (offV (M 0) t x) := offV_ok hI (show 0 ≤ x by omega)
      have hE := hW.off ho
      have hIw := hIu.eq hE
      have h11 : W2 0 0 11 = -9 := by rw [ho.2 0 0 11 (by omega)]; exact hW11
      have hN : gt W2 1 0 6 = M 0 1 0 6 := by rw [(Fr.rf _).gtF 1 0 6 (by omega) (by omega), hE.n, offV_n _ _ _ _ _ (by omega)]
      have hq : profitV (gt W2) = prf (offV (M 0) t x) := prf_e (g := 0) hIu hE (Or.inl ⟨by rw [offV_n _ _ _ _ _ (by omega)]; exact hk, h11⟩)
      have hqr := prf_r hIu (Or.inl (by rw [offV_n _ _ _ _ _ (by omega)]; exact hk))
      refine pw_aload_n C dX4_findTakingOff_74 rfl ?_
      refine gf_4_12 C dX4_findTakingOff_75 ?_
      refine pw_cVV C [] mi_X1_goThrough mv_X1_goThrough ml_4_42 (oD_0 (by decide)) rfl (c_X1_goThrough (by decide) hIw (Or.inl h11)) (by decide) rfl (Nat.le_of_ble_eq_true rfl) dX4_findTakingOff_78 ?_
      refine pw_aload_n C dX4_findTakingOff_81 rfl ?_
      refine gf_4_12 C dX4_findTakingOff_82 ?_
      refine pw_cVI C [] mi_X1_profit mv_X1_profit ml_4_45 (oD_0 (by decide)) rfl (c_X1_profit (by decide) (by omega) (by omega)) (by decide) rfl (Nat.le_of_ble_eq_true rfl) dX4_findTakingOff_85 ?_
      refine pw_aload_n C dX4_findTakingOff_88 rfl ?_
      refine pw_mem (mst_c _ _ _ (by decide)) ?_
      refine gv_4_53 C dX4_findTakingOff_89 (fun r89 => ?_)
      rw [sF_p] at r89
      rw [sF_p, hq]
      refine pw_icmp_le (tgt := 116) C dX4_findTakingOff_92 rfl (by omega) (by omega) (fun c92 => ?_) (fun c92 => ?_)
      · refine pw_iinc_3 C dX4_findTakingOff_116 (k := ?_)
        refine pw_goto (tgt := 52) C dX4_findTakingOff_119 rfl ?_
        refine pw_mem (mst_c _ _ _ (by decide)) ?_
        have hWn : EQ7 (M 0) (gt W2) := (fun k r i hk hl => by
          have q := hE.e7 k r i hk (by rw [offV_n _ _ _ _ _ (by omega), offV_n _ _ _ _ _ (by omega), offV_n _ _ _ _ _ (by omega)]; exact hl)
          have hk12 : 1 ≤ k ∧ k ≤ 12 := by rcases hl with q | q | q | q | q | q | q | q | q <;> omega
          rw [(Fr.rf W2).gtF k r i (by omega) (by omega), q, offV_n _ _ _ _ _ hk])
        have hw2 : gt W2 0 0 11 = -9 := by rw [(Fr.rf _).gtF 0 0 11 (by omega) (by omega)]; exact h11
        have ea : tofX (M 0) t st0 x.toNat = if (tofX (M 0) t st0 (x - 1).toNat).1 < prf (offV (M 0) t x) then (prf (offV (M 0) t x), t, x) else tofX (M 0) t st0 (x - 1).toNat := by
          rw [show x.toNat = (x - 1).toNat + 1 by omega]
          show (if (tofX (M 0) t st0 (x - 1).toNat).1 < prf (offV (M 0) t (((x - 1).toNat : Int) + 1)) then (prf (offV (M 0) t (((x - 1).toNat : Int) + 1)), t, ((x - 1).toNat : Int) + 1) else _) = _
          rw [show ((x - 1).toNat : Int) + 1 = x by omega]
        have ev : (x + 1 - 1).toNat = x.toNat := by omega
        first
          | (rw [sF_P, sF_H, sF_A]
             refine ih (x + 1) _ _ _ _ (by omega) (by omega) hWn hw2 ?_ (by omega)
             rw [ev, ea, ← hp, if_pos (show P < _ by omega)])
          | (refine ih (x + 1) _ _ _ _ (by omega) (by omega) hWn hw2 ?_ (by omega)
             rw [ev, ea, ← hp, if_neg (show ¬ (P < _) by omega)])
      · refine pw_aload_n C dX4_findTakingOff_95 rfl ?_
        refine pw_aload_n C dX4_findTakingOff_96 rfl ?_
        refine gf_4_12 C dX4_findTakingOff_97 ?_
        refine pw_mem (mst_c _ _ _ (by decide)) ?_
        refine pw_cVI C [] mi_X1_profit mv_X1_profit ml_4_45 (oD_0 (by decide)) rfl (c_X1_profit (by decide) (by omega) (by omega)) (by decide) rfl (Nat.le_of_ble_eq_true rfl) dX4_findTakingOff_100 ?_
        rw [hq]
        refine pw_mem (mst_c _ _ _ (by decide)) ?_
        refine pv_4_53 C (by omega) dX4_findTakingOff_103 ?_
        refine pw_aload_n C dX4_findTakingOff_106 rfl ?_
        refine pw_iload_n C dX4_findTakingOff_107 rfl ?_
        refine pv_4_63 C (by omega) dX4_findTakingOff_108 ?_
        refine pw_aload_n C dX4_findTakingOff_111 rfl ?_
        refine pw_iload_n C dX4_findTakingOff_112 rfl ?_
        refine pv_4_60 C (by omega) dX4_findTakingOff_113 ?_
        refine pw_iinc_3 C dX4_findTakingOff_116 (k := ?_)
        refine pw_goto (tgt := 52) C dX4_findTakingOff_119 rfl ?_
        refine pw_mem (mst_c _ _ _ (by decide)) ?_
        have hWn : EQ7 (M 0) (gt W2) := (fun k r i hk hl => by
          have q := hE.e7 k r i hk (by rw [offV_n _ _ _ _ _ (by omega), offV_n _ _ _ _ _ (by omega), offV_n _ _ _ _ _ (by omega)]; exact hl)
          have hk12 : 1 ≤ k ∧ k ≤ 12 := by rcases hl with q | q | q | q | q | q | q | q | q <;> omega
          rw [(Fr.rf W2).gtF k r i (by omega) (by omega), q, offV_n _ _ _ _ _ hk])
        have hw2 : gt W2 0 0 11 = -9 := by rw [(Fr.rf _).gtF 0 0 11 (by omega) (by omega)]; exact h11
        have ea : tofX (M 0) t st0 x.toNat = if (tofX (M 0) t st0 (x - 1).toNat).1 < prf (offV (M 0) t x) then (prf (offV (M 0) t x), t, x) else tofX (M 0) t st0 (x - 1).toNat := by
          rw [show x.toNat = (x - 1).toNat + 1 by omega]
          show (if (tofX (M 0) t st0 (x - 1).toNat).1 < prf (offV (M 0) t (((x - 1).toNat : Int) + 1)) then (prf (offV (M 0) t (((x - 1).toNat : Int) + 1)), t, ((x - 1).toNat : Int) + 1) else _) = _
          rw [show ((x - 1).toNat : Int) + 1 = x by omega]
        have ev : (x + 1 - 1).toNat = x.toNat := by omega
        first
          | (rw [sF_P, sF_H, sF_A]
             refine ih (x + 1) _ _ _ _ (by omega) (by omega) hWn hw2 ?_ (by omega)
             rw [ev, ea, ← hp, if_pos (show P < _ by omega)])
          | (refine ih (x + 1) _ _ _ _ (by omega) (by omega) hWn hw2 ?_ (by omega)
             rw [ev, ea, ← hp, if_neg (show ¬ (P < _) by omega)])
set_option maxRecDepth 100000 in
set_option maxHeartbeats 400000 in
theorem L_X4_findTakingOff {X : PX} {S : SW} {M : Mem}  (hI : DayOk (M 0)) (hk : M 0 0 0 11 = -9) (C : Cx X S RX4 cX4_findTakingOff 5 120) (R : CR X S (rVQ (fun N => ∃ W, N = mst (mst M 2 (sF (M 2) (tof (M 0) (M 0 1 0 5)).1 (tof (M 0) (M 0 1 0 5)).2.1 (tof (M 0) (M 0 1 0 5)).2.2)) 1 W)) none) :
    ∀ (n9 : Nat) (t P H A : Int) (W : DM), (0 ≤ t) → (t ≤ M 0 1 0 5) → (EQ7 (M 0) W) → (W 0 0 11 = -9) → ((P, H, A) = tof (M 0) t) → M 0 1 0 5 - t < n9 → PW X S (mst (mst M 2 (sF (M 2) P H A)) 1 W) 39 [some (rv S 2 1 0), some (rv S 0 0 0), some (iv t), none] [] := by
  obtain ⟨i1, i2, i3, i4, i5, i6, i7, i8⟩ := id hI
  intro n9
  induction n9 with
  | zero => intro t P H A W t0 t1 hW hW11 hp hn9; omega
  | succ n9 ih =>
    intro t P H A W t0 t1 hW hW11 hp hn9
    refine pw_iload_n C dX4_findTakingOff_39 rfl ?_
    refine pw_aload_n C dX4_findTakingOff_40 rfl ?_
    refine gf_4_33 0 (by decide) C dX4_findTakingOff_41 ?_
    refine gf_4_66 0 (by decide) C dX4_findTakingOff_44 (fun r44 => ?_)
    have e0 : (mst (mst M 2 (sF (M 2) P H A)) 1 W) 0 1 0 5 = M 0 1 0 5 := rfl
    refine pw_icmp_ge (tgt := 128) C dX4_findTakingOff_47 rfl (by omega) (by omega) (fun c47 => ?_) (fun c47 => ?_)
    · refine pw_vret C R dX4_findTakingOff_128 ⟨rfl, W, ?_⟩
      rw [show t = M 0 1 0 5 by omega] at hp
      rw [← hp]
    · refine pw_iconst C dX4_findTakingOff_50 ?_
      refine pw_istore_3 C dX4_findTakingOff_51 (k := ?_)
      refine L_X4_findTakingOff2 hI hk t0 (by omega) (st0 := tof (M 0) t) (fun P2 H2 A2 W2 hW2 h11 hp2 => ?_) C R 32 1 P H A W (by omega) (by omega) hW hW11 hp (by omega)
      refine pw_iinc_2 C dX4_findTakingOff_122 (k := ?_)
      refine pw_goto (tgt := 39) C dX4_findTakingOff_125 rfl ?_
      refine ih (t + 1) P2 H2 A2 W2 (by omega) (by omega) hW2 h11 ?_ (by omega)
      unfold tof
      rw [iterI_s _ _ t0]
      exact hp2
set_option maxRecDepth 100000 in
set_option maxHeartbeats 400000 in
theorem c_X4_findTakingOff {l : Launch} {S : SW} {M : Mem}  (hI : DayOk (M 0)) (hk : M 0 0 0 11 = -9)  : PM l S yX4_findTakingOff cX4_findTakingOff 4 none 5 120 [rv S 2 1 0, rv S 0 0 0] (M) (rVQ (fun N => ∃ W, N = mst (mst M 2 (sF (M 2) (tof (M 0) (M 0 1 0 5)).1 (tof (M 0) (M 0 1 0 5)).2.1 (tof (M 0) (M 0 1 0 5)).2.2)) 1 W)) := by
  refine PM.of (own := RX4) (by decide) rfl [some (rv S 2 1 0), some (rv S 0 0 0), none, none] rfl rfl (Nat.le_of_ble_eq_true rfl) (fun X hXl C R => ?_)
  subst hXl
  obtain ⟨i1, i2, i3, i4, i5, i6, i7, i8⟩ := id hI
  refine pw_21 ?_
  refine pw_aload_n C dX4_findTakingOff_0 rfl ?_
  refine gf_4_12 C dX4_findTakingOff_1 ?_
  refine pw_aload_n C dX4_findTakingOff_4 rfl ?_
  refine pw_cVQV C [_] mi_X1_become mv_X1_become ml_4_29 (oD_0 (by decide)) rfl (c_X1_become (by have h8 := hI.2.2.2.2.2.2.2; exact h8)) (by decide) rfl (Nat.le_of_ble_eq_true rfl) dX4_findTakingOff_5 ?_
  rintro N9 ⟨W, rfl, hW⟩
  have hW : CopyD (M 0) W := hW
  have hE := hW.eq hI
  have hN : gt W 1 0 6 = M 0 1 0 6 := by rw [(Fr.rf _).gtF 1 0 6 (by omega) (by omega), hE.n]
  have hq : profitV (gt W) = prf (M 0) := prf_e (g := 0) hI hE (Or.inl ⟨hk, hW.2.2.2.2.2⟩)
  have hqr := prf_r hI (Or.inl hk)
  refine pw_aload_n C dX4_findTakingOff_8 rfl ?_
  refine gf_4_12 C dX4_findTakingOff_9 ?_
  refine pw_cVV C [] mi_X1_goThrough mv_X1_goThrough ml_4_42 (oD_0 (by decide)) rfl (c_X1_goThrough (by decide) (hI.eq hE) (Or.inl hW.2.2.2.2.2)) (by decide) rfl (Nat.le_of_ble_eq_true rfl) dX4_findTakingOff_12 ?_
  refine pw_aload_n C dX4_findTakingOff_15 rfl ?_
  refine pw_aload_n C dX4_findTakingOff_16 rfl ?_
  refine gf_4_12 C dX4_findTakingOff_17 ?_
  refine pw_cVI C [] mi_X1_profit mv_X1_profit ml_4_45 (oD_0 (by decide)) rfl (c_X1_profit (by decide) (by omega) (by omega)) (by decide) rfl (Nat.le_of_ble_eq_true rfl) dX4_findTakingOff_20 ?_
  rw [hq]
  refine pw_mem (mst_c _ _ _ (by decide)) ?_
  refine pv_4_53 C (by omega) dX4_findTakingOff_23 ?_
  refine pw_aload_n C dX4_findTakingOff_26 rfl ?_
  refine pw_bipush C dX4_findTakingOff_27 (by decide) ?_
  refine pv_4_63 C (by omega) dX4_findTakingOff_29 ?_
  refine pw_aload_n C dX4_findTakingOff_32 rfl ?_
  refine pw_iconst C dX4_findTakingOff_33 ?_
  refine pv_4_60 C (by omega) dX4_findTakingOff_34 ?_
  refine pw_iconst C dX4_findTakingOff_37 ?_
  refine pw_istore_2 C dX4_findTakingOff_38 (k := ?_)
  refine pw_mem (mst_c _ _ _ (by decide)) ?_
  have e := sF_P (M 2) (M 2 1 0 4) (M 2 1 0 5) (M 2 1 0 6) (prf (M 0))
  rw [sF_id] at e
  rw [e, sF_H, sF_A]
  exact L_X4_findTakingOff hI hk C R (M 0 1 0 5 + 1).toNat 0 _ _ _ (gt W) (by omega) (by omega) (hE.e7.fr (Fr.rf W).gtF) (by rw [(Fr.rf _).gtF 0 0 11 (by omega) (by omega)]; exact hW.2.2.2.2.2) rfl (by omega)
