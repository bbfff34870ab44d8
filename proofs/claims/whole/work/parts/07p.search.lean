def FetI (D : DM) (n mo : Int) (W Z : DM) : Prop := (mo = 1 ∧ OdI (pD D) (lD D) (D 1 0 6) n (W 2 0) (Z 3 0) (Z 1 0 4) (Z 2 0) ∧ (∀ j, 0 ≤ j → j < D 1 0 6 → Z 3 0 j = 0 ∨ Z 3 0 j = 1) ∧ (Z 1 0 4 = -1000 ∨ (InN (D 1 0 6) (Z 2 0) ∧ pD D (Z 2 0) = Z 1 0 4))) ∨ (mo = 0 ∧ FetR (pD D) (D 1 0 6) (Z 1 0 4) (Z 2 0))
theorem FetI.mo {D : DM} {n mo : Int} {W Z : DM} (h : FetI D n mo W Z) : mo = 0 ∨ mo = 1 := by rcases h with h | h; exact Or.inr h.1; exact Or.inl h.1
theorem FetI.s {D : DM} {n s : Int} {W Z Z2 W3 Z3 : DM} (hI : DayOk D) (hk : D 0 0 11 = -9) (hT : TrM D W) (h : FetI D n 1 W Z) (w : WeighI (gt W) Z Z2) (hs : NxS (gt W 1 0 6) s (gt W 2 0) (Z2 3 0)) (hn : NextI (gt W) Z2 s W3 Z3) : FetI D (n + 1) (b01 (0 ≤ s)) W3 Z3 ∧ TrM D W3 := by
  rcases h with ⟨-, hO, hr, hb⟩ | ⟨h, -⟩
  · have hM := moreV hI hk
    have hf := hO.1
    have e6 : gt W 1 0 6 = D 1 0 6 := hT.gtT 1 0 6 (by omega) (by omega) (by omega)
    obtain ⟨wg, wr⟩ := w.wg hI hk hT hf
    have hJ := hO.wg hM wg wr
    rw [e6, gt2] at hs
    have n1 := hn.1
    rw [e6] at n1
    have e4 : Z3 1 0 4 = Z2 1 0 4 := hn.2.2 1 0 4 (by omega)
    have e2 : Z3 2 0 = Z2 2 0 := funext fun j => hn.2.2 2 0 j (by omega)
    have hb2 : InN (D 1 0 6) (Z2 2 0) ∧ pD D (Z2 2 0) = Z2 1 0 4 := by
      have hz := rz_in (lf := lD D) (gn := gD D) hf
      have hbr : pD D (rz (lD D) (gD D) (W 2 0)) = brg (pD D) (lD D) (gD D) (D 1 0 6) (W 2 0) := hM.1 _ _ hf hz (rz_rp hM hf)
      rcases wg with ⟨-, b, c⟩ | ⟨a, b, c⟩
      · refine ⟨fun j x y => by rw [c j x y]; exact hz j x y, ?_⟩
        rw [b, ← hbr]
        exact congrArg prf (vF_ag c)
      · rcases hb with hb | hb
        · have hp : -324 ≤ pD D (rz (lD D) (gD D) (W 2 0)) := (prf_r (vF_ok hI hz) (Or.inl hk)).1
          exact absurd (Or.inl (by omega)) a
        · refine ⟨fun j x y => by rw [c j x y]; exact hb.1 j x y, ?_⟩
          rw [b, ← hb.2]
          exact congrArg prf (vF_ag c)
    refine ⟨?_, fun k r i a b c => by rw [hn.2.1 k r i c]; exact hT.gtT k r i a b c⟩
    by_cases s0 : 0 ≤ s
    · rw [b01_t s0]
      refine Or.inl ⟨rfl, ?_, fun j a b => ?_, Or.inr ?_⟩
      · rw [e4, e2]
        exact (hJ.nx hM hs s0).c (fun j a b => by rw [(n1 j a b).1, gt2]) (fun j a b => (n1 j a b).2)
      · rw [(n1 j a b).2]
        unfold nxR
        split
        · rw [wr j a b]
          split
          · exact Or.inr rfl
          · exact hr j a b
        · exact Or.inl rfl
      · rw [e4, e2]; exact hb2
    · rw [b01_f s0]
      refine Or.inr ⟨rfl, ?_⟩
      rw [e4, e2]
      exact ⟨hb2, fun g hg => hJ.fin hM hs s0 hg⟩
  · omega
set_option maxRecDepth 100000 in
set_option maxHeartbeats 400000 in
theorem L_X4_findFetched {X : PX} {S : SW} {M : Mem} {D : DM}  (hI : DayOk D) (hk : D 0 0 11 = -9) (hI0 : DayOk (M 0)) (hk0 : M 0 0 0 11 = -9) (hE : EQ 0 0 (M 0) D) (C : Cx X S RX4 cX4_findFetched 5 120) (R : CR X S (rVQ (fun N => ∃ W Z, N = mst (mst M 2 Z) 1 W ∧ FetR (pD (M 0)) (M 0 1 0 6) (Z 1 0 4) (Z 2 0) ∧ ∀ (k : Nat) (r i : Int), k = 0 ∨ 5 ≤ k → Z k r i = M 2 k r i)) none) :
    ∀ (n9 : Nat) (mo n : Int) (W Z : DM), (0 ≤ n) → (n ≤ 10000) → (TrM D W) → (FetI D n mo W Z) → (∀ (k : Nat) (r i : Int), k = 0 ∨ 5 ≤ k → Z k r i = M 2 k r i) → 10001 - n < n9 → PW X S (mst (mst M 2 Z) 1 W) 52 [some (rv S 2 1 0), some (rv S 0 0 0), some (iv mo), some (iv n)] [] := by
  intro n9
  induction n9 with
  | zero => intro mo n W Z n0 n1 hT hF hZ hn9; omega
  | succ n9 ih =>
    intro mo n W Z n0 n1 hT hF hZ hn9
    have hmo := hF.mo
    refine pw_iload_n C dX4_findFetched_52 rfl ?_
    refine pw_if_eq (tgt := 85) C dX4_findFetched_53 rfl (by omega) (fun c53 => ?_) (fun c53 => ?_)
    · refine pw_vret C R dX4_findFetched_85 ⟨rfl, W, Z, rfl, ?_, hZ⟩
      have h : FetR (pD D) (D 1 0 6) (Z 1 0 4) (Z 2 0) := by
        rcases hF with h | h
        · have := h.2.1.n hI.1.2
          have := h.1
          omega
        · exact h.2
      rw [hE.n] at h
      exact h.c (fun g hg => (pD_e hI0 hk0 hk hE hg).symm)
    · refine pw_iload_n C dX4_findFetched_56 rfl ?_
      refine pw_sipush C dX4_findFetched_57 (by decide) ?_
      refine pw_icmp_ge (tgt := 85) C dX4_findFetched_60 rfl (by omega) (by omega) (fun c60 => ?_) (fun c60 => ?_)
      · refine pw_vret C R dX4_findFetched_85 ⟨rfl, W, Z, rfl, ?_, hZ⟩
        have h : FetR (pD D) (D 1 0 6) (Z 1 0 4) (Z 2 0) := by
          rcases hF with h | h
          · have := h.2.1.n hI.1.2
            have := h.1
            omega
          · exact h.2
        rw [hE.n] at h
        exact h.c (fun g hg => (pD_e hI0 hk0 hk hE hg).symm)
      · refine pw_aload_n C dX4_findFetched_63 rfl ?_
        refine gf_4_12 C dX4_findFetched_64 ?_
        have e1 : mo = 1 := by omega
        subst e1
        have hf : InN (D 1 0 6) (W 2 0) := by
          rcases hF with h | h
          · exact h.2.1.1
          · omega
        have hn9k : n < 10000 := by
          rcases hF with h | h
          · exact h.2.1.n hI.1.2
          · omega
        have hTk := hT.ok hI hk hf
        have hIw := (vF_ok hI hf).eq hT.e
        have e6 : gt W 1 0 6 = D 1 0 6 := hT.gtT 1 0 6 (by omega) (by omega) (by omega)
        refine pw_cVV C [] mi_X1_goThrough mv_X1_goThrough ml_4_42 (oD_0 (by decide)) rfl (c_X1_goThrough (by decide) hIw (Or.inl (hT.k hk))) (by decide) rfl (Nat.le_of_ble_eq_true rfl) dX4_findFetched_67 ?_
        refine pw_aload_n C dX4_findFetched_70 rfl ?_
        refine pw_mem (mst_c _ _ _ (by decide)) ?_
        refine pw_cVQV C [] mi_X4_weighRow mv_X4_weighRow ml_4_73 oC_1 rfl (c_X4_weighRow hTk) (by decide) rfl (Nat.le_of_ble_eq_true rfl) dX4_findFetched_71 ?_
        rintro N9 ⟨Z2, rfl, hw⟩
        have hw : WeighI (gt W) Z Z2 := hw
        refine pw_aload_n C dX4_findFetched_74 rfl ?_
        refine pw_mem (mst_c _ _ _ (by decide)) ?_
        have hfl : ∀ j, 0 ≤ j → j < gt W 1 0 6 → Z2 3 0 j = 0 ∨ Z2 3 0 j = 1 := fun j a b => by
          rw [e6] at b
          rw [(hw.wg hI hk hT hf).2 j a b]
          split
          · exact Or.inr rfl
          · rcases hF with h | h
            · exact h.2.2.1 j a b
            · omega
        refine pw_cVQI C [] mi_X4_goToNextRow mv_X4_goToNextRow ml_4_76 oC_1 rfl (c_X4_goToNextRow hTk.1.1 hTk.1.2 (fun j a b => (hTk.2.2.2 j a b).2.1) hfl) (by decide) rfl (Nat.le_of_ble_eq_true rfl) dX4_findFetched_75 ?_
        rintro x9 N9 ⟨s, W3, Z3, rfl, rfl, hs, hnx⟩
        refine pw_istore_2 C dX4_findFetched_78 (k := ?_)
        refine pw_iinc_3 C dX4_findFetched_79 (k := ?_)
        refine pw_goto (tgt := 52) C dX4_findFetched_82 rfl ?_
        have hst := hF.s hI hk hT hw hs hnx
        exact ih _ (n + 1) W3 Z3 (by omega) (by omega) hst.2 hst.1 (fun k r i h => by rw [hnx.2.2 k r i (by omega), hw.2.2 k r i h]; exact hZ k r i h) (by omega)
set_option maxRecDepth 100000 in
set_option maxHeartbeats 400000 in
theorem c_X4_findFetched {l : Launch} {S : SW} {M : Mem}  (hI : DayOk (M 0)) (hk : M 0 0 0 11 = -9)  : PM l S yX4_findFetched cX4_findFetched 4 none 5 120 [rv S 2 1 0, rv S 0 0 0] (M) (rVQ (fun N => ∃ W Z, N = mst (mst M 2 Z) 1 W ∧ FetR (pD (M 0)) (M 0 1 0 6) (Z 1 0 4) (Z 2 0) ∧ ∀ (k : Nat) (r i : Int), k = 0 ∨ 5 ≤ k → Z k r i = M 2 k r i)) := by
  refine PM.of (own := RX4) (by decide) rfl [some (rv S 2 1 0), some (rv S 0 0 0), none, none] rfl rfl (Nat.le_of_ble_eq_true rfl) (fun X hXl C R => ?_)
  subst hXl
  obtain ⟨i1, i2, i3, i4, i5, i6, i7, i8⟩ := id hI
  refine pw_21 ?_
  refine pw_aload_n C dX4_findFetched_0 rfl ?_
  refine gf_4_12 C dX4_findFetched_1 ?_
  refine pw_aload_n C dX4_findFetched_4 rfl ?_
  refine pw_cVQV C [_] mi_X1_become mv_X1_become ml_4_29 (oD_0 (by decide)) rfl (c_X1_become (by have h8 := hI.2.2.2.2.2.2.2; exact h8)) (by decide) rfl (Nat.le_of_ble_eq_true rfl) dX4_findFetched_5 ?_
  rintro N9 ⟨W, rfl, hW⟩
  have hW : CopyD (M 0) W := hW
  have hE := hW.eq hI
  refine pw_aload_n C dX4_findFetched_8 rfl ?_
  refine pw_sipush C dX4_findFetched_9 (by decide) ?_
  refine pw_mem (mst_c _ _ _ (by decide)) ?_
  refine pv_4_53 C (by omega) dX4_findFetched_12 ?_
  refine pw_iconst C dX4_findFetched_15 ?_
  refine pw_istore_2 C dX4_findFetched_16 (k := ?_)
  refine pw_iload_n C dX4_findFetched_17 rfl ?_
  refine pw_iconst C dX4_findFetched_18 ?_
  refine pw_icmp_ge (tgt := 48) C dX4_findFetched_19 rfl (by omega) (by omega) (fun q9 => absurd q9 (by decide)) (fun _ => ?_)
  refine pw_aload_n C dX4_findFetched_22 rfl ?_
  refine gf_4_12 C dX4_findFetched_23 ?_
  refine gf_4_33 1 (by decide) C dX4_findFetched_26 ?_
  refine gf_4_37 1 (by decide) C dX4_findFetched_29 ?_
  refine pw_iload_n C dX4_findFetched_32 rfl ?_
  refine pw_iconst C dX4_findFetched_33 ?_
  refine pw_mem (mst_c _ _ _ (by decide)) ?_
  refine pw_iastV C (aD_2 (by decide)) (by omega) (by omega) (by decide) (by omega) dX4_findFetched_34 ?_
  refine pw_aload_n C dX4_findFetched_35 rfl ?_
  refine gf_4_22 C dX4_findFetched_36 ?_
  refine pw_iload_n C dX4_findFetched_39 rfl ?_
  refine pw_iconst C dX4_findFetched_40 ?_
  refine pw_mem (mst_c _ _ _ (by decide)) ?_
  refine pw_zastV C bC_3 (by omega) (by omega) (by decide) (by omega) dX4_findFetched_41 ?_
  refine pw_iincq_2 C 1 dX4_findFetched_42 (k := ?_)
  refine pw_goto (tgt := 17) C dX4_findFetched_45 rfl ?_
  refine pw_iload_n C dX4_findFetched_17 rfl ?_
  refine pw_iconst C dX4_findFetched_18 ?_
  refine pw_icmp_ge (tgt := 48) C dX4_findFetched_19 rfl (by omega) (by omega) (fun q9 => absurd q9 (by decide)) (fun _ => ?_)
  refine pw_aload_n C dX4_findFetched_22 rfl ?_
  refine gf_4_12 C dX4_findFetched_23 ?_
  refine gf_4_33 1 (by decide) C dX4_findFetched_26 ?_
  refine gf_4_37 1 (by decide) C dX4_findFetched_29 ?_
  refine pw_iload_n C dX4_findFetched_32 rfl ?_
  refine pw_iconst C dX4_findFetched_33 ?_
  refine pw_mem (mst_c _ _ _ (by decide)) ?_
  refine pw_iastV C (aD_2 (by decide)) (by omega) (by omega) (by decide) (by omega) dX4_findFetched_34 ?_
  refine pw_aload_n C dX4_findFetched_35 rfl ?_
  refine gf_4_22 C dX4_findFetched_36 ?_
  refine pw_iload_n C dX4_findFetched_39 rfl ?_
  refine pw_iconst C dX4_findFetched_40 ?_
  refine pw_mem (mst_c _ _ _ (by decide)) ?_
  refine pw_zastV C bC_3 (by omega) (by omega) (by decide) (by omega) dX4_findFetched_41 ?_
  refine pw_iincq_2 C 2 dX4_findFetched_42 (k := ?_)
  refine pw_goto (tgt := 17) C dX4_findFetched_45 rfl ?_
  refine pw_iload_n C dX4_findFetched_17 rfl ?_
  refine pw_iconst C dX4_findFetched_18 ?_
  refine pw_icmp_ge (tgt := 48) C dX4_findFetched_19 rfl (by omega) (by omega) (fun q9 => absurd q9 (by decide)) (fun _ => ?_)
  refine pw_aload_n C dX4_findFetched_22 rfl ?_
  refine gf_4_12 C dX4_findFetched_23 ?_
  refine gf_4_33 1 (by decide) C dX4_findFetched_26 ?_
  refine gf_4_37 1 (by decide) C dX4_findFetched_29 ?_
  refine pw_iload_n C dX4_findFetched_32 rfl ?_
  refine pw_iconst C dX4_findFetched_33 ?_
  refine pw_mem (mst_c _ _ _ (by decide)) ?_
  refine pw_iastV C (aD_2 (by decide)) (by omega) (by omega) (by decide) (by omega) dX4_findFetched_34 ?_
  refine pw_aload_n C dX4_findFetched_35 rfl ?_
  refine gf_4_22 C dX4_findFetched_36 ?_
  refine pw_iload_n C dX4_findFetched_39 rfl ?_
  refine pw_iconst C dX4_findFetched_40 ?_
  refine pw_mem (mst_c _ _ _ (by decide)) ?_
  refine pw_zastV C bC_3 (by omega) (by omega) (by decide) (by omega) dX4_findFetched_41 ?_
  refine pw_iincq_2 C 3 dX4_findFetched_42 (k := ?_)
  refine pw_goto (tgt := 17) C dX4_findFetched_45 rfl ?_
  refine pw_iload_n C dX4_findFetched_17 rfl ?_
  refine pw_iconst C dX4_findFetched_18 ?_
  refine pw_icmp_ge (tgt := 48) C dX4_findFetched_19 rfl (by omega) (by omega) (fun q9 => absurd q9 (by decide)) (fun _ => ?_)
  refine pw_aload_n C dX4_findFetched_22 rfl ?_
  refine gf_4_12 C dX4_findFetched_23 ?_
  refine gf_4_33 1 (by decide) C dX4_findFetched_26 ?_
  refine gf_4_37 1 (by decide) C dX4_findFetched_29 ?_
  refine pw_iload_n C dX4_findFetched_32 rfl ?_
  refine pw_iconst C dX4_findFetched_33 ?_
  refine pw_mem (mst_c _ _ _ (by decide)) ?_
  refine pw_iastV C (aD_2 (by decide)) (by omega) (by omega) (by decide) (by omega) dX4_findFetched_34 ?_
  refine pw_aload_n C dX4_findFetched_35 rfl ?_
  refine gf_4_22 C dX4_findFetched_36 ?_
  refine pw_iload_n C dX4_findFetched_39 rfl ?_
  refine pw_iconst C dX4_findFetched_40 ?_
  refine pw_mem (mst_c _ _ _ (by decide)) ?_
  refine pw_zastV C bC_3 (by omega) (by omega) (by decide) (by omega) dX4_findFetched_41 ?_
  refine pw_iincq_2 C 4 dX4_findFetched_42 (k := ?_)
  refine pw_goto (tgt := 17) C dX4_findFetched_45 rfl ?_
  refine pw_iload_n C dX4_findFetched_17 rfl ?_
  refine pw_iconst C dX4_findFetched_18 ?_
  refine pw_icmp_ge (tgt := 48) C dX4_findFetched_19 rfl (by omega) (by omega) (fun _ => ?_) (fun q9 => absurd q9 (by decide))
  refine pw_iconst C dX4_findFetched_48 ?_
  refine pw_istore_2 C dX4_findFetched_49 (k := ?_)
  refine pw_iconst C dX4_findFetched_50 ?_
  refine pw_istore_3 C dX4_findFetched_51 (k := ?_)
  refine pw_mem (mst_c _ _ _ (by decide)) ?_
  have hIW := hI.eq hE
  refine L_X4_findFetched (D := W) hIW hW.2.2.2.2.2 hI hk hE C R 10002 1 0 _ _ (by omega) (by omega) (fun k r i _ _ c => by rw [vup_k _ _ _ _ c, vup_k _ _ _ _ c, vup_k _ _ _ _ c, vup_k _ _ _ _ c]) (Or.inl ⟨rfl, OdI.z _ _ (fun j a b => ?_), fun j a b => Or.inl ?_, Or.inl ?_⟩) (fun k r i h => by rw [vup_n _ (by omega), vup_n _ (by omega), vup_n _ (by omega), vup_n _ (by omega), vup_n _ (by omega)]) (by omega)
  · have h4 := hIW.1
    have hj : j = 0 ∨ j = 1 ∨ j = 2 ∨ j = 3 := by omega
    rcases hj with rfl | rfl | rfl | rfl <;> rfl
  · have h4 := hIW.1
    have hj : j = 0 ∨ j = 1 ∨ j = 2 ∨ j = 3 := by omega
    rcases hj with rfl | rfl | rfl | rfl <;> rfl
  · rfl
def FetchR (V : DM) (k x : Int) : Prop := (¬ (-1 ≤ k ∧ k ≤ 3) ∧ x = -1) ∨ ((-1 ≤ k ∧ k ≤ 3) ∧ ((¬ 0 < V 1 0 6 ∧ x = -3) ∨ (0 < V 1 0 6 ∧ ((0 ≤ k ∧ ¬ has V k ∧ x = -9) ∨ (¬ (0 ≤ k ∧ ¬ has V k) ∧ ∃ P R, FetR (pD V) (V 1 0 6) P R ∧ x = if k < 0 then P else R k)))))
set_option maxRecDepth 100000 in
set_option maxHeartbeats 400000 in
theorem c_X8_fetch {l : Launch} {S : SW} {M : Mem} {k : Int}  (hk : InR k) (hI : DayOk (M 0)) (hk : M 0 0 0 11 = -9) (hS : ShOk (M 2))  : PM l S yX8_fetch cX8_fetch 2 (some .int) 6 143 [rv S 2 0 0, iv k] (M) (fun o9 N => ∃ x, o9 = some (iv x) ∧ FetchR (M 0) k x ∧ KP M (M 0) (M 2) N) := by
  refine PM.of (own := RX8) (by decide) rfl [some (rv S 2 0 0), some (iv k)] rfl rfl (Nat.le_of_ble_eq_true rfl) (fun X hXl C R => ?_)
  subst hXl
  obtain ⟨i1, i2, i3, i4, i5, i6, i7, i8⟩ := id hI
  refine pw_iload_n C dX8_fetch_0 rfl ?_
  refine pw_iconst C dX8_fetch_1 ?_
  refine pw_iconst C dX8_fetch_2 ?_
  refine pw_cSI C [_, _, _] mi_X8_isWithin ms_X8_isWithin ml_8_108 (c_X8_isWithin (by omega) (by omega) (by omega)) (by decide) rfl (Nat.le_of_ble_eq_true rfl) dX8_fetch_3 ?_
  refine pw_if_ne_b (tgt := 11) C dX8_fetch_6 rfl (fun c6 => ?_) (fun c6 => ?_)
  · refine pw_aload_n C dX8_fetch_11 rfl ?_
    refine gf_8_12 C dX8_fetch_12 ?_
    refine gf_8_60 0 (by decide) C dX8_fetch_15 ?_
    refine pw_V 0 ?_
    refine pw_cVI C [] mi_X6_isTold mv_X6_isTold ml_8_131 (oD_1 (by decide)) rfl (c_X6_isTold (by decide)) (by decide) rfl (Nat.le_of_ble_eq_true rfl) dX8_fetch_18 ?_
    refine pw_U 0 ?_
    refine pw_if_ne_b (tgt := 27) C dX8_fetch_21 rfl (fun c21 => ?_) (fun c21 => ?_)
    · refine pw_iload_n C dX8_fetch_27 rfl ?_
      refine pw_if_lt (tgt := 48) C dX8_fetch_28 rfl (by omega) (fun c28 => ?_) (fun c28 => ?_)
      · refine pw_aload_n C dX8_fetch_48 rfl ?_
        refine gf_8_21 C dX8_fetch_49 ?_
        refine pw_aload_n C dX8_fetch_52 rfl ?_
        refine gf_8_12 C dX8_fetch_53 ?_
        refine pw_cVQV C [_] mi_X4_findFetched mv_X4_findFetched ml_8_219 oC_1 rfl (c_X4_findFetched (by assumption) (by assumption)) (by decide) rfl (Nat.le_of_ble_eq_true rfl) dX8_fetch_56 ?_
        rintro N9 ⟨W, Z, rfl, hR, hZ⟩
        have hR : FetR (pD (M 0)) (M 0 1 0 6) (Z 1 0 4) (Z 2 0) := hR
        refine pw_iload_n C dX8_fetch_59 rfl ?_
        refine pw_if_ge (tgt := 73) C dX8_fetch_60 rfl (by omega) (fun c60 => ?_) (fun c60 => ?_)
        · refine pw_aload_n C dX8_fetch_73 rfl ?_
          refine gf_8_21 C dX8_fetch_74 ?_
          refine gf_8_222 C dX8_fetch_77 ?_
          refine pw_iload_n C dX8_fetch_80 rfl ?_
          refine pw_ialdO C (by decide) aC_2 (by omega) (by omega) (by decide) dX8_fetch_81 (fun r81 => ?_)
          refine pw_iret C R dX8_fetch_82 ⟨_, rfl, Or.inr ⟨c6, Or.inr ⟨c21, Or.inr ⟨fun h => ?_, Z 1 0 4, Z 2 0, hR, ?_⟩⟩⟩, rfl, Fr.rf _, fun k r i h => hZ k r i (by omega)⟩
          · first | exact h.2 c42 | (have := h.1; omega)
          · first | (rw [if_pos (show k < 0 by omega)]; rfl) | (rw [if_neg (show ¬ (k < 0) by omega)]; rfl)
        · refine pw_aload_n C dX8_fetch_63 rfl ?_
          refine gf_8_21 C dX8_fetch_64 ?_
          refine go_8_211 C (by decide) dX8_fetch_67 (fun r67 => ?_)
          refine pw_goto (tgt := 82) C dX8_fetch_70 rfl ?_
          refine pw_iret C R dX8_fetch_82 ⟨_, rfl, Or.inr ⟨c6, Or.inr ⟨c21, Or.inr ⟨fun h => ?_, Z 1 0 4, Z 2 0, hR, ?_⟩⟩⟩, rfl, Fr.rf _, fun k r i h => hZ k r i (by omega)⟩
          · first | exact h.2 c42 | (have := h.1; omega)
          · first | (rw [if_pos (show k < 0 by omega)]; rfl) | (rw [if_neg (show ¬ (k < 0) by omega)]; rfl)
      · refine pw_aload_n C dX8_fetch_31 rfl ?_
        refine gf_8_12 C dX8_fetch_32 ?_
        refine gf_8_60 0 (by decide) C dX8_fetch_35 ?_
        refine pw_iload_n C dX8_fetch_38 rfl ?_
        refine pw_V 0 ?_
        refine pw_cVI C [_] mi_X6_hasSort mv_X6_hasSort ml_8_83 (oD_1 (by decide)) rfl (c_X6_hasSort (by decide) (by omega)) (by decide) rfl (Nat.le_of_ble_eq_true rfl) dX8_fetch_39 ?_
        refine pw_U 0 ?_
        refine pw_if_ne_b (tgt := 48) C dX8_fetch_42 rfl (fun c42 => ?_) (fun c42 => ?_)
        · refine pw_aload_n C dX8_fetch_48 rfl ?_
          refine gf_8_21 C dX8_fetch_49 ?_
          refine pw_aload_n C dX8_fetch_52 rfl ?_
          refine gf_8_12 C dX8_fetch_53 ?_
          refine pw_cVQV C [_] mi_X4_findFetched mv_X4_findFetched ml_8_219 oC_1 rfl (c_X4_findFetched (by assumption) (by assumption)) (by decide) rfl (Nat.le_of_ble_eq_true rfl) dX8_fetch_56 ?_
          rintro N9 ⟨W, Z, rfl, hR, hZ⟩
          have hR : FetR (pD (M 0)) (M 0 1 0 6) (Z 1 0 4) (Z 2 0) := hR
          refine pw_iload_n C dX8_fetch_59 rfl ?_
          refine pw_if_ge (tgt := 73) C dX8_fetch_60 rfl (by omega) (fun c60 => ?_) (fun c60 => ?_)
          · refine pw_aload_n C dX8_fetch_73 rfl ?_
            refine gf_8_21 C dX8_fetch_74 ?_
            refine gf_8_222 C dX8_fetch_77 ?_
            refine pw_iload_n C dX8_fetch_80 rfl ?_
            refine pw_ialdO C (by decide) aC_2 (by omega) (by omega) (by decide) dX8_fetch_81 (fun r81 => ?_)
            refine pw_iret C R dX8_fetch_82 ⟨_, rfl, Or.inr ⟨c6, Or.inr ⟨c21, Or.inr ⟨fun h => ?_, Z 1 0 4, Z 2 0, hR, ?_⟩⟩⟩, rfl, Fr.rf _, fun k r i h => hZ k r i (by omega)⟩
            · first | exact h.2 c42 | (have := h.1; omega)
            · first | (rw [if_pos (show k < 0 by omega)]; rfl) | (rw [if_neg (show ¬ (k < 0) by omega)]; rfl)
          · refine pw_aload_n C dX8_fetch_63 rfl ?_
            refine gf_8_21 C dX8_fetch_64 ?_
            refine go_8_211 C (by decide) dX8_fetch_67 (fun r67 => ?_)
            refine pw_goto (tgt := 82) C dX8_fetch_70 rfl ?_
            refine pw_iret C R dX8_fetch_82 ⟨_, rfl, Or.inr ⟨c6, Or.inr ⟨c21, Or.inr ⟨fun h => ?_, Z 1 0 4, Z 2 0, hR, ?_⟩⟩⟩, rfl, Fr.rf _, fun k r i h => hZ k r i (by omega)⟩
            · first | exact h.2 c42 | (have := h.1; omega)
            · first | (rw [if_pos (show k < 0 by omega)]; rfl) | (rw [if_neg (show ¬ (k < 0) by omega)]; rfl)
        · refine pw_bipush C dX8_fetch_45 (by decide) ?_
          exact pw_iret C R dX8_fetch_47 ⟨_, rfl, Or.inr ⟨c6, Or.inr ⟨c21, Or.inl ⟨c28, c42, rfl⟩⟩⟩, rfl, Fr.rf _, fun _ _ _ _ => rfl⟩
    · refine pw_bipush C dX8_fetch_24 (by decide) ?_
      exact pw_iret C R dX8_fetch_26 ⟨_, rfl, Or.inr ⟨c6, Or.inl ⟨c21, rfl⟩⟩, rfl, Fr.rf _, fun _ _ _ _ => rfl⟩
  · refine pw_iconst C dX8_fetch_9 ?_
    exact pw_iret C R dX8_fetch_10 ⟨_, rfl, Or.inl ⟨c6, rfl⟩, rfl, Fr.rf _, fun _ _ _ _ => rfl⟩
