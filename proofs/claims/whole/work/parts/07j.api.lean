def NewStall (V Z : DM) (k i n : Int) (W : DM) : Prop := W 1 0 5 = Z 7 k (i + 1) - 48 ∧ W 1 0 6 = (n - 2) / 6 ∧ W 1 0 7 = 0 ∧ W 1 0 8 = 0 ∧ W 8 0 4 = 0 ∧ W 0 = V 0 ∧ (∀ s, 0 ≤ s → s < (n - 2) / 6 → SortI Z k i s W) ∧ ∀ s t, 0 ≤ s → s < (n - 2) / 6 → 0 ≤ t → t < Z 7 k (i + 1) - 48 → W 7 s t = 9
def StallR (V Z : DM) (k ln i n x : Int) (W : DM) : Prop := (look Z k ln i n ≠ 0 ∧ x = look Z k ln i n ∧ W = V) ∨ (look Z k ln i n = 0 ∧ ∃ f, FF (Z 7 k) i n f ∧ ((f ≠ -9 ∧ x = -100 - f ∧ W = V) ∨ (f = -9 ∧ x = W 1 0 6 ∧ NewStall V Z k i n W)))
theorem FF.r {f : Int → Int} {i n x : Int} (h : FF f i n x) (n0 : 0 ≤ n) (n1 : n ≤ 60) : -9 ≤ x ∧ x ≤ 60 := by
  rcases h with ⟨j, j0, j1, -, -, rfl⟩ | ⟨-, ⟨-, -, rfl⟩ | ⟨-, rfl⟩⟩ <;> omega
theorem FF.ok {f : Int → Int} {i n : Int} (h : FF f i n (-9)) (n0 : 0 ≤ n) : (2 < n ∧ n ≤ 26 ∧ (n - 2) % 6 = 0) ∧ ∀ q, 0 ≤ q → q < n → gon (f (i + q)) q := by
  rcases h with ⟨j, j0, j1, -, -, h⟩ | ⟨h, ⟨a, b, -⟩ | ⟨-, c⟩⟩
  · omega
  · refine ⟨⟨a, ?_, b⟩, h⟩
    rcases Int.lt_or_le 26 n with q | q
    · have g := h 26 (by omega) q
      unfold gon at g
      rw [if_neg (by omega), if_neg (by omega), if_pos (by omega)] at g
      exact absurd g id
    · exact q
  · omega
theorem gon_r {c p : Int} (h : gon c p) : 0 ≤ c ∧ c ≤ 200 := by
  unfold gon at h
  repeat' split at h
  all_goals first | omega | exact absurd h id
theorem gon_1 {c : Int} (h : gon c 1) : 49 ≤ c ∧ c ≤ 56 := by
  unfold gon at h
  rw [if_neg (by omega), if_pos rfl] at h
  exact h
set_option maxRecDepth 100000 in
set_option maxHeartbeats 400000 in
theorem c_X8_stall {l : Launch} {S : SW} {M : Mem} {k ln i n : Int}  (hk : InR k) (hln : InR ln) (hi : InR i) (hn : InR n) (hI : DayOk (M 0)) (hk : M 0 0 0 11 = -9) (hS : ShOk (M 2))  : PM l S yX8_stall cX8_stall 7 (some .int) 3 66 [rv S 2 0 0, iv k, iv ln, iv i, iv n] (M) (fun o9 N => ∃ x V, o9 = some (iv x) ∧ StallR (M 0) (M 2) k ln i n x V ∧ KP M V (fl (M 2) (lookF (look (M 2) k ln i n))) N) := by
  refine PM.of (own := RX8) (by decide) rfl [some (rv S 2 0 0), some (iv k), some (iv ln), some (iv i), some (iv n), none, none] rfl rfl (Nat.le_of_ble_eq_true rfl) (fun X hXl C R => ?_)
  subst hXl
  obtain ⟨i1, i2, i3, i4, i5, i6, i7, i8⟩ := id hI
  refine pw_aload_n C dX8_stall_0 rfl ?_
  refine pw_iload_n C dX8_stall_1 rfl ?_
  refine pw_iload_n C dX8_stall_2 rfl ?_
  refine pw_iload_n C dX8_stall_3 rfl ?_
  refine pw_iload C dX8_stall_4 rfl ?_
  refine pw_V 2 ?_
  refine pw_cVI C [_, _, _, _] mi_X8_lookAtCells mv_X8_lookAtCells ml_8_46 oC_0 rfl (c_X8_lookAtCells (by omega) (by omega) (by omega) (by omega)) (by decide) rfl (Nat.le_of_ble_eq_true rfl) dX8_stall_6 ?_
  refine pw_istore_5 C dX8_stall_9 (k := ?_)
  refine pw_iload C dX8_stall_11 rfl ?_
  have hlr := look_r (M 2) k ln i n
  refine pw_if_eq (tgt := 19) C dX8_stall_13 rfl (by omega) (fun c13 => ?_) (fun c13 => ?_)
  · have hl := look_0 hS c13
    refine pw_aload_n C dX8_stall_19 rfl ?_
    refine gf_8_28 C dX8_stall_20 ?_
    refine gf_8_50 C dX8_stall_23 ?_
    refine pw_iload_n C dX8_stall_26 rfl ?_
    refine pw_aald C qC_6 (by omega) (by omega) (by decide) dX8_stall_27 ?_
    refine pw_iload_n C dX8_stall_28 rfl ?_
    refine pw_iload C dX8_stall_29 rfl ?_
    refine pw_cSQI C [_, _, _] mi_X7_firstFault ms_X7_firstFault ml_8_54 (c_X7_firstFault (k := k) (by omega) (by omega) (by omega) (by omega) (by omega) (by omega) (by omega)) (by decide) rfl (Nat.le_of_ble_eq_true rfl) dX8_stall_31 ?_
    rintro x9 N9 ⟨rfl, hF⟩
    have hF : FF (M 2 7 k) i n x9 := hF
    refine pw_istore_6 C dX8_stall_34 (k := ?_)
    refine pw_iload C dX8_stall_36 rfl ?_
    refine pw_bipush C dX8_stall_38 (by decide) ?_
    have hxr := hF.r (by omega) (by omega)
    refine pw_icmp_eq (tgt := 49) C dX8_stall_40 rfl (by omega) (by omega) (fun c40 => ?_) (fun c40 => ?_)
    · rw [c40] at hF
      have hok := hF.ok (by omega)
      have hg1 := gon_1 (hok.2 1 (by omega) (by omega))
      refine pw_aload_n C dX8_stall_49 rfl ?_
      refine gf_8_12 C dX8_stall_50 ?_
      refine gf_8_60 0 (by decide) C dX8_stall_53 ?_
      refine pw_aload_n C dX8_stall_56 rfl ?_
      refine gf_8_28 C dX8_stall_57 ?_
      refine gf_8_50 C dX8_stall_60 ?_
      refine pw_iload_n C dX8_stall_63 rfl ?_
      refine pw_aald C qC_6 (by omega) (by omega) (by decide) dX8_stall_64 ?_
      refine pw_iload_n C dX8_stall_65 rfl ?_
      refine pw_iload C dX8_stall_66 rfl ?_
      refine pw_Vo 0 (by decide) ?_
      refine pw_cVQV C [_, _, _] mi_X6_readText mv_X6_readText ml_8_64 (oD_1 (by decide)) rfl (c_X6_readText (m := (n - 2) / 6) (by omega) (by omega) (by omega) (by omega) (by omega) (by omega) (by omega) (by omega) (by omega) (show 1 ≤ M 2 7 k (i + 1) - 48 by omega) (show M 2 7 k (i + 1) - 48 ≤ 8 by omega) (fun j a b => gon_r (hok.2 j a (by omega)))) (by decide) rfl (Nat.le_of_ble_eq_true rfl) dX8_stall_68 ?_
      rintro N9 ⟨W, rfl, hW7, hW8, hWr, hWs, hWp⟩
      refine pw_aload_n C dX8_stall_71 rfl ?_
      refine gf_8_12 C dX8_stall_72 ?_
      refine gf_8_70 0 (by decide) C dX8_stall_75 ?_
      refine pw_iconst C dX8_stall_78 ?_
      refine pv_8_74 0 (by decide) C (by omega) dX8_stall_79 ?_
      refine pw_aload_n C dX8_stall_82 rfl ?_
      refine gf_8_12 C dX8_stall_83 ?_
      refine gf_8_60 0 (by decide) C dX8_stall_86 ?_
      refine gv_8_80 0 (by decide) C dX8_stall_89 (fun r89 => ?_)
      refine pw_iret C R dX8_stall_92 ⟨_, _, rfl, Or.inr ⟨c13, -9, hF, Or.inr ⟨rfl, rfl, ?_⟩⟩, rfl, Fr.rf _, fun _ _ _ _ => rfl⟩
      refine ⟨hWr.1, hWr.2.1, hW7, hW8, vup_v _ _ _ _ _, ?_, fun s a b => ?_, fun s t a b c d => ?_⟩
      · funext r
        rw [vup_k _ _ _ _ (by omega), hWr.2.2 0 (by omega)]
      · have q := hWs s a b
        unfold SortI at *
        rw [vup_k _ _ _ _ (by omega), vup_k _ _ _ _ (by omega), vup_k _ _ _ _ (by omega), vup_k _ _ _ _ (by omega)]
        exact q
      · rw [vup_k _ _ _ _ (by omega)]; exact hWp s t a b c d
    · refine pw_bipush C dX8_stall_43 (by decide) ?_
      refine pw_iload C dX8_stall_45 rfl ?_
      refine pw_isub C dX8_stall_47 ?_
      exact pw_iret C R dX8_stall_48 ⟨_, _, rfl, Or.inr ⟨c13, x9, hF, Or.inl ⟨c40, rfl, rfl⟩⟩, rfl, Fr.rf _, fun _ _ _ _ => rfl⟩
  · refine pw_iload C dX8_stall_16 rfl ?_
    exact pw_iret C R dX8_stall_18 ⟨_, _, rfl, Or.inl ⟨c13, rfl, rfl⟩, rfl, Fr.rf _, fun _ _ _ _ => rfl⟩
def S9 (Z : DM) (k i n : Int) : Int := sumI (fun j => Z 7 k (i + j)) n
def oddP (Z : DM) (k ln i n : Int) : Prop := look Z k ln i n = 0 ∧ wtP (Z 7 k) i n ∧ 0 < S9 Z k i n
def mnyP (c p o : Int) : Prop := (0 ≤ c ∧ c ≤ 99) ∧ (0 ≤ p ∧ p ≤ 99) ∧ 0 ≤ o ∧ o ≤ 99
theorem TakeI.t {V W : DM} {k i n x : Int} (h : TakeI V k i n x W) (hx : x ≠ 0) : wtP (V 7 k) i n ∧ 0 < S9 V k i n ∧ W 10 0 1 = n ∧ W 10 0 2 = S9 V k i n ∧ ∀ j, 0 ≤ j → j < n → W 11 0 j = V 7 k (i + j) := by
  by_cases hw : wtP (V 7 k) i n
  · have a := h.2.2 hw
    refine ⟨hw, ?_, a.2.1, a.2.2.1, a.2.2.2⟩
    by_cases hs : 0 < S9 V k i n
    · exact hs
    · rw [b01_f (show ¬ (0 < sumI (fun j => V 7 k (i + j)) n) from hs)] at a
      exact absurd a.1 hx
  · exact absurd (h.2.1 hw) hx
theorem TakeI.f {V W : DM} {k i n x : Int} (h : TakeI V k i n x W) (hx : x = 0) : ¬ (wtP (V 7 k) i n ∧ 0 < S9 V k i n) := by
  rintro ⟨hw, hs⟩
  have a := h.2.2 hw
  rw [b01_t (show 0 < sumI (fun j => V 7 k (i + j)) n from hs)] at a
  omega
theorem TakeI.r {V W : DM} {k i n x : Int} (h : TakeI V k i n x W) : x = 0 ∨ x = 1 := by
  by_cases hw : wtP (V 7 k) i n
  · rw [(h.2.2 hw).1]; exact b01_r _
  · exact Or.inl (h.2.1 hw)
theorem wgh_c {f g : Int → Int} {n : Int} (h : ∀ j, 0 ≤ j → j < n → f j = g j) (s q c p o : Int) : wgh f n s q c p o = wgh g n s q c p o := by
  unfold wgh
  rw [sumI_c (fun j a b => by show f j * (mn j q * p + (q - mn j q) * o) = g j * (mn j q * p + (q - mn j q) * o); rw [h j a b])]
theorem OdOk.of {V : DM} {k i n : Int} (hw : wtP (V 7 k) i n) : OdOk (fun j => V 7 k (i + j)) n (S9 V k i n) := by
  have hw1 := hw.1
  have a := sumI_r (f := fun j => V 7 k (i + j)) (B := 99) (show 0 ≤ n by omega) (fun j a b => hw.2 j a b)
  refine ⟨hw.1, ?_, fun j a b => hw.2 j a b⟩
  unfold S9
  omega
theorem OdOk.c {f g : Int → Int} {n s : Int} (h : OdOk g n s) (e : ∀ j, 0 ≤ j → j < n → f j = g j) : OdOk f n s := ⟨h.1, h.2.1, fun j a b => by rw [e j a b]; exact h.2.2 j a b⟩
noncomputable def xMean (Z : DM) (k ln i n q c p o w : Int) : Int := pif (oddP Z k ln i n ∧ (0 ≤ q ∧ q ≤ 20) ∧ mnyP c p o ∧ 0 ≤ w ∧ w ≤ 1) (pos (wgh (fun j => Z 7 k (i + j)) n (S9 Z k i n) q c p o) (S9 Z k i n) w) LOSTv
noncomputable def xHow (Z : DM) (k ln i n c p o : Int) : Int := pif (look Z k ln i n = 0) (pif ((wtP (Z 7 k) i n ∧ 0 < S9 Z k i n) ∧ mnyP c p o) (amax (fun q => wgh (fun j => Z 7 k (i + j)) n (S9 Z k i n) q c p o) 20).2 (-2)) (look Z k ln i n)
set_option maxRecDepth 100000 in
set_option maxHeartbeats 400000 in
theorem c_X8_mean {l : Launch} {S : SW} {M : Mem} {k ln i n q c p9 o w : Int}  (hk : InR k) (hln : InR ln) (hi : InR i) (hn : InR n) (hq : InR q) (hc : InR c) (hp9 : InR p9) (ho : InR o) (hw : InR w) (hI : DayOk (M 0)) (hk : M 0 0 0 11 = -9) (hS : ShOk (M 2))  : PM l S yX8_mean cX8_mean 10 (some .long) 3 71 [rv S 2 0 0, iv k, iv ln, iv i, iv n, iv q, iv c, iv p9, iv o, iv w] (M) (rY (xMean (M 2) k ln i n q c p9 o w) M (M 0) (fl (M 2) (lookF (look (M 2) k ln i n)))) := by
  refine PM.of (own := RX8) (by decide) rfl [some (rv S 2 0 0), some (iv k), some (iv ln), some (iv i), some (iv n), some (iv q), some (iv c), some (iv p9), some (iv o), some (iv w)] rfl rfl (Nat.le_of_ble_eq_true rfl) (fun X hXl C R => ?_)
  subst hXl
  obtain ⟨i1, i2, i3, i4, i5, i6, i7, i8⟩ := id hI
  refine pw_aload_n C dX8_mean_0 rfl ?_
  refine pw_iload_n C dX8_mean_1 rfl ?_
  refine pw_iload_n C dX8_mean_2 rfl ?_
  refine pw_iload_n C dX8_mean_3 rfl ?_
  refine pw_iload C dX8_mean_4 rfl ?_
  refine pw_V 2 ?_
  refine pw_cVI C [_, _, _, _] mi_X8_lookAtCells mv_X8_lookAtCells ml_8_46 oC_0 rfl (c_X8_lookAtCells (by omega) (by omega) (by omega) (by omega)) (by decide) rfl (Nat.le_of_ble_eq_true rfl) dX8_mean_6 ?_
  have hlr := look_r (M 2) k ln i n
  refine pw_if_ne (tgt := 34) C dX8_mean_9 rfl (by omega) (fun c9 => ?_) (fun c9 => ?_)
  · refine pw_ldc2 C (n := -9223372036854775808) (inT3 75 rfl rfl) (by decide) dX8_mean_34 ?_
    first
      | exact pw_lret C R dX8_mean_37 ⟨congrArg (fun q => some (jv q)) (by unfold xMean; rw [pif_f (fun h => c9 h.1.1)]; rfl), rfl, Fr.rf _, fun _ _ _ _ => rfl⟩
      | exact pw_lret C R dX8_mean_37 ⟨congrArg (fun q => some (jv q)) (by unfold xMean; rw [pif_f (fun h => hT.f c31 h.1.2)]; rfl), rfl, Fr.rf _, hP2⟩
  · have hl := look_0 hS c9
    refine pw_aload_n C dX8_mean_12 rfl ?_
    refine gf_8_35 C dX8_mean_13 ?_
    refine pw_aload_n C dX8_mean_16 rfl ?_
    refine gf_8_28 C dX8_mean_17 ?_
    refine gf_8_50 C dX8_mean_20 ?_
    refine pw_iload_n C dX8_mean_23 rfl ?_
    refine pw_aald C qC_6 (by omega) (by omega) (by decide) dX8_mean_24 ?_
    refine pw_iload_n C dX8_mean_25 rfl ?_
    refine pw_iload C dX8_mean_26 rfl ?_
    refine pw_cVQI C [_, _, _] mi_X3_take mv_X3_take ml_8_233 oC_10 rfl (c_X3_take (k := k) (by omega) (by omega) (by omega) (by omega) (by omega) (by omega) (by omega)) (by decide) rfl (Nat.le_of_ble_eq_true rfl) dX8_mean_28 ?_
    rintro x9 N9 ⟨W, rfl, hT⟩
    have hx9 := hT.r
    have hP2 : P2 (fl (M 2) (lookF (look (M 2) k ln i n))) W := fun k2 r j h => hT.1 k2 r j (by omega) (by omega)
    refine pw_if_ne (tgt := 38) C dX8_mean_31 rfl (by omega) (fun c31 => ?_) (fun c31 => ?_)
    · have hTt : wtP (M 2 7 k) i n ∧ 0 < S9 (M 2) k i n ∧ W 10 0 1 = n ∧ W 10 0 2 = S9 (M 2) k i n ∧ ∀ j, 0 ≤ j → j < n → W 11 0 j = M 2 7 k (i + j) := hT.t c31
      refine pw_iload C dX8_mean_38 rfl ?_
      refine pw_iconst C dX8_mean_40 ?_
      refine pw_bipush C dX8_mean_41 (by decide) ?_
      refine pw_cSI C [_, _, _] mi_X8_isWithin ms_X8_isWithin ml_8_108 (c_X8_isWithin (by omega) (by omega) (by omega)) (by decide) rfl (Nat.le_of_ble_eq_true rfl) dX8_mean_43 ?_
      refine pw_if_eq_b (tgt := 71) C dX8_mean_46 rfl (fun c46 => ?_) (fun c46 => ?_)
      · refine pw_ldc2 C (n := -9223372036854775808) (inT3 75 rfl rfl) (by decide) dX8_mean_71 ?_
        first
          | exact pw_lret C R dX8_mean_74 ⟨congrArg (fun q => some (jv q)) (by unfold xMean; rw [pif_f (fun h => by first | exact c46 h.2.1 | exact c58 h.2.2.1 | exact c68 h.2.2.2)]; rfl), rfl, Fr.rf _, hP2⟩
      · refine pw_iload C dX8_mean_49 rfl ?_
        refine pw_iload C dX8_mean_51 rfl ?_
        refine pw_iload C dX8_mean_53 rfl ?_
        refine pw_cSI C [_, _, _] mi_X8_areMoney ms_X8_areMoney ml_8_239 (c_X8_areMoney (by omega) (by omega) (by omega)) (by decide) rfl (Nat.le_of_ble_eq_true rfl) dX8_mean_55 ?_
        refine pw_if_eq_b (tgt := 71) C dX8_mean_58 rfl (fun c58 => ?_) (fun c58 => ?_)
        · refine pw_ldc2 C (n := -9223372036854775808) (inT3 75 rfl rfl) (by decide) dX8_mean_71 ?_
          first
            | exact pw_lret C R dX8_mean_74 ⟨congrArg (fun q => some (jv q)) (by unfold xMean; rw [pif_f (fun h => by first | exact c46 h.2.1 | exact c58 h.2.2.1 | exact c68 h.2.2.2)]; rfl), rfl, Fr.rf _, hP2⟩
        · refine pw_iload C dX8_mean_61 rfl ?_
          refine pw_iconst C dX8_mean_63 ?_
          refine pw_iconst C dX8_mean_64 ?_
          refine pw_cSI C [_, _, _] mi_X8_isWithin ms_X8_isWithin ml_8_108 (c_X8_isWithin (by omega) (by omega) (by omega)) (by decide) rfl (Nat.le_of_ble_eq_true rfl) dX8_mean_65 ?_
          refine pw_if_ne_b (tgt := 75) C dX8_mean_68 rfl (fun c68 => ?_) (fun c68 => ?_)
          · have hOd := (OdOk.of hTt.1)
            have hw9 := wgh_c (f := W 11 0) (g := fun j => M 2 7 k (i + j)) hTt.2.2.2.2 (S9 (M 2) k i n) q c p9 o
            have hwr := wgh_r (q := q) hOd c46.1 c46.2 c58.1.1 c58.1.2 c58.2.1.1 c58.2.1.2 c58.2.2.1 c58.2.2.2
            have hw1 := hTt.1.1
            have hs9 := hOd.2.1
            have e1 : W 10 0 1 = n := hTt.2.2.1
            have e2 : W 10 0 2 = S9 (M 2) k i n := hTt.2.2.2.1
            refine pw_aload_n C dX8_mean_75 rfl ?_
            refine gf_8_35 C dX8_mean_76 ?_
            refine pw_iload C dX8_mean_79 rfl ?_
            refine pw_iload C dX8_mean_81 rfl ?_
            refine pw_iload C dX8_mean_83 rfl ?_
            refine pw_iload C dX8_mean_85 rfl ?_
            refine pw_cVI C [_, _, _, _] mi_X3_weighed mv_X3_weighed ml_8_242 oC_10 rfl (c_X3_weighed (by omega) (by omega) (by omega) (by omega) (by omega) (by omega)) (by decide) rfl (Nat.le_of_ble_eq_true rfl) dX8_mean_87 ?_
            rw [e1, e2, hw9]
            refine pw_i2l C (by omega) dX8_mean_90 ?_
            refine pw_aload_n C dX8_mean_91 rfl ?_
            refine gf_8_35 C dX8_mean_92 ?_
            refine gv_8_245 C dX8_mean_95 (fun r95 => ?_)
            rw [e2]
            refine pw_i2l C (by omega) dX8_mean_98 ?_
            refine pw_iload C dX8_mean_99 rfl ?_
            refine pw_cSJ C [_, _, _] mi_X8_partOfShare ms_X8_partOfShare ml_8_248 (c_X8_partOfShare (by omega) (by omega) (by omega) (by omega) (by omega) (by omega)) (by decide) rfl (Nat.le_of_ble_eq_true rfl) dX8_mean_101 ?_
            exact pw_lret C R dX8_mean_104 ⟨congrArg (fun q => some (jv q)) (by unfold xMean; rw [pif_t ⟨⟨c9, hTt.1, hTt.2.1⟩, c46, c58, c68⟩]), rfl, Fr.rf _, hP2⟩
          · refine pw_ldc2 C (n := -9223372036854775808) (inT3 75 rfl rfl) (by decide) dX8_mean_71 ?_
            first
              | exact pw_lret C R dX8_mean_74 ⟨congrArg (fun q => some (jv q)) (by unfold xMean; rw [pif_f (fun h => by first | exact c46 h.2.1 | exact c58 h.2.2.1 | exact c68 h.2.2.2)]; rfl), rfl, Fr.rf _, hP2⟩
    · refine pw_ldc2 C (n := -9223372036854775808) (inT3 75 rfl rfl) (by decide) dX8_mean_34 ?_
      first
        | exact pw_lret C R dX8_mean_37 ⟨congrArg (fun q => some (jv q)) (by unfold xMean; rw [pif_f (fun h => c9 h.1.1)]; rfl), rfl, Fr.rf _, fun _ _ _ _ => rfl⟩
        | exact pw_lret C R dX8_mean_37 ⟨congrArg (fun q => some (jv q)) (by unfold xMean; rw [pif_f (fun h => hT.f c31 h.1.2)]; rfl), rfl, Fr.rf _, hP2⟩
set_option maxRecDepth 100000 in
set_option maxHeartbeats 400000 in
theorem c_X8_howMany {l : Launch} {S : SW} {M : Mem} {k ln i n c p9 o : Int}  (hk : InR k) (hln : InR ln) (hi : InR i) (hn : InR n) (hc : InR c) (hp9 : InR p9) (ho : InR o) (hI : DayOk (M 0)) (hk : M 0 0 0 11 = -9) (hS : ShOk (M 2))  : PM l S yX8_howMany cX8_howMany 9 (some .int) 3 75 [rv S 2 0 0, iv k, iv ln, iv i, iv n, iv c, iv p9, iv o] (M) (rX (xHow (M 2) k ln i n c p9 o) M (M 0) (fl (M 2) (lookF (look (M 2) k ln i n)))) := by
  refine PM.of (own := RX8) (by decide) rfl [some (rv S 2 0 0), some (iv k), some (iv ln), some (iv i), some (iv n), some (iv c), some (iv p9), some (iv o), none] rfl rfl (Nat.le_of_ble_eq_true rfl) (fun X hXl C R => ?_)
  subst hXl
  obtain ⟨i1, i2, i3, i4, i5, i6, i7, i8⟩ := id hI
  refine pw_aload_n C dX8_howMany_0 rfl ?_
  refine pw_iload_n C dX8_howMany_1 rfl ?_
  refine pw_iload_n C dX8_howMany_2 rfl ?_
  refine pw_iload_n C dX8_howMany_3 rfl ?_
  refine pw_iload C dX8_howMany_4 rfl ?_
  refine pw_V 2 ?_
  refine pw_cVI C [_, _, _, _] mi_X8_lookAtCells mv_X8_lookAtCells ml_8_46 oC_0 rfl (c_X8_lookAtCells (by omega) (by omega) (by omega) (by omega)) (by decide) rfl (Nat.le_of_ble_eq_true rfl) dX8_howMany_6 ?_
  have hlr := look_r (M 2) k ln i n
  refine pw_istore_8 C dX8_howMany_9 (k := ?_)
  refine pw_iload C dX8_howMany_11 rfl ?_
  refine pw_if_eq (tgt := 19) C dX8_howMany_13 rfl (by omega) (fun c13 => ?_) (fun c13 => ?_)
  · have hl := look_0 hS c13
    refine pw_aload_n C dX8_howMany_19 rfl ?_
    refine gf_8_35 C dX8_howMany_20 ?_
    refine pw_aload_n C dX8_howMany_23 rfl ?_
    refine gf_8_28 C dX8_howMany_24 ?_
    refine gf_8_50 C dX8_howMany_27 ?_
    refine pw_iload_n C dX8_howMany_30 rfl ?_
    refine pw_aald C qC_6 (by omega) (by omega) (by decide) dX8_howMany_31 ?_
    refine pw_iload_n C dX8_howMany_32 rfl ?_
    refine pw_iload C dX8_howMany_33 rfl ?_
    refine pw_cVQI C [_, _, _] mi_X3_take mv_X3_take ml_8_233 oC_10 rfl (c_X3_take (k := k) (by omega) (by omega) (by omega) (by omega) (by omega) (by omega) (by omega)) (by decide) rfl (Nat.le_of_ble_eq_true rfl) dX8_howMany_35 ?_
    rintro x9 N9 ⟨W, rfl, hT⟩
    have hx9 := hT.r
    have hP2 : P2 (fl (M 2) (lookF (look (M 2) k ln i n))) W := fun k2 r j h => hT.1 k2 r j (by omega) (by omega)
    refine pw_if_eq (tgt := 53) C dX8_howMany_38 rfl (by omega) (fun c38 => ?_) (fun c38 => ?_)
    · refine pw_bipush C dX8_howMany_53 (by decide) ?_
      first
        | exact pw_iret C R dX8_howMany_55 ⟨congrArg (fun q => some (iv q)) (by unfold xHow; rw [pif_t c13, pif_f (fun h => hT.f c38 h.1)]), rfl, Fr.rf _, hP2⟩
        | exact pw_iret C R dX8_howMany_55 ⟨congrArg (fun q => some (iv q)) (by unfold xHow; rw [pif_t c13, pif_f (fun h => c50 h.2)]), rfl, Fr.rf _, hP2⟩
    · refine pw_iload C dX8_howMany_41 rfl ?_
      refine pw_iload C dX8_howMany_43 rfl ?_
      refine pw_iload C dX8_howMany_45 rfl ?_
      refine pw_cSI C [_, _, _] mi_X8_areMoney ms_X8_areMoney ml_8_239 (c_X8_areMoney (by omega) (by omega) (by omega)) (by decide) rfl (Nat.le_of_ble_eq_true rfl) dX8_howMany_47 ?_
      refine pw_if_ne_b (tgt := 56) C dX8_howMany_50 rfl (fun c50 => ?_) (fun c50 => ?_)
      · have hTt : wtP (M 2 7 k) i n ∧ 0 < S9 (M 2) k i n ∧ W 10 0 1 = n ∧ W 10 0 2 = S9 (M 2) k i n ∧ ∀ j, 0 ≤ j → j < n → W 11 0 j = M 2 7 k (i + j) := hT.t c38
        have hOd : OdOk (fun j => M 2 7 k (i + j)) n (S9 (M 2) k i n) := OdOk.of hTt.1
        have e1 : W 10 0 1 = n := hTt.2.2.1
        have e2 : W 10 0 2 = S9 (M 2) k i n := hTt.2.2.2.1
        have hOw : OdOk (W 11 0) (W 10 0 1) (W 10 0 2) := by rw [e1, e2]; exact hOd.c hTt.2.2.2.2
        have em : (amax (fun q => wgh (W 11 0) (W 10 0 1) (W 10 0 2) q c p9 o) 20).2 = (amax (fun q => wgh (fun j => M 2 7 k (i + j)) n (S9 (M 2) k i n) q c p9 o) 20).2 := congrArg (fun f => (amax f 20).2) (funext fun q => by rw [e1, e2]; exact wgh_c hTt.2.2.2.2 _ q c p9 o)
        refine pw_aload_n C dX8_howMany_56 rfl ?_
        refine gf_8_35 C dX8_howMany_57 ?_
        refine pw_iload C dX8_howMany_60 rfl ?_
        refine pw_iload C dX8_howMany_62 rfl ?_
        refine pw_iload C dX8_howMany_64 rfl ?_
        refine pw_cVI C [_, _, _] mi_X3_mostWorthwhile mv_X3_mostWorthwhile ml_8_252 oC_10 rfl (c_X3_mostWorthwhile (by omega) (by omega) (by omega) (by omega) (by omega) (by omega) (by omega) (by omega) (by omega) hOw) (by decide) rfl (Nat.le_of_ble_eq_true rfl) dX8_howMany_66 ?_
        exact pw_iret C R dX8_howMany_69 ⟨congrArg (fun q => some (iv q)) (by unfold xHow; rw [pif_t c13, pif_t ⟨⟨hTt.1, hTt.2.1⟩, c50⟩, em]), rfl, Fr.rf _, hP2⟩
      · refine pw_bipush C dX8_howMany_53 (by decide) ?_
        first
          | exact pw_iret C R dX8_howMany_55 ⟨congrArg (fun q => some (iv q)) (by unfold xHow; rw [pif_t c13, pif_f (fun h => hT.f c38 h.1)]), rfl, Fr.rf _, hP2⟩
          | exact pw_iret C R dX8_howMany_55 ⟨congrArg (fun q => some (iv q)) (by unfold xHow; rw [pif_t c13, pif_f (fun h => c50 h.2)]), rfl, Fr.rf _, hP2⟩
  · refine pw_iload C dX8_howMany_16 rfl ?_
    exact pw_iret C R dX8_howMany_18 ⟨congrArg (fun q => some (iv q)) (by unfold xHow; rw [pif_f (by omega)]), rfl, Fr.rf _, fun _ _ _ _ => rfl⟩
theorem restB_c {A B A1 B1 : Int → Int} (hA : ∀ o, 0 ≤ o → o < 4 → A o = A1 o) (hB : ∀ o, 0 ≤ o → o < 4 → B o = B1 o) : restB A B 4 = restB A1 B1 4 := by
  have e : ∀ (A B : Int → Int) (m : Int), 0 ≤ m → restB A B (m + 1) = restB A B m + b01 (restP A B m) * p2 m := fun A B m hm => iterI_s _ _ hm
  have hp : ∀ o, 0 ≤ o → o < 4 → restP A B o = restP A1 B1 o := fun o a b => by
    unfold restP
    have h2 : 0 ≤ x2 o ∧ x2 o < 4 := by unfold x2; split <;> omega
    have h1 := x1_r o
    rw [hA _ h2.1 h2.2, hA o a b, hB _ h1.1 h1.2, hB o a b]
  have k : ∀ m : Int, 0 ≤ m → m < 4 → restB A B m = restB A1 B1 m → restB A B (m + 1) = restB A1 B1 (m + 1) := fun m a b h => by rw [e _ _ m a, e _ _ m a, h, hp m a b]
  exact k 3 (by omega) (by omega) (k 2 (by omega) (by omega) (k 1 (by omega) (by omega) (k 0 (by omega) (by omega) rfl)))
noncomputable def xRests (Z : DM) (k ln i : Int) : Int := pif (look Z k ln i 8 = 0) (pif (gameP (Z 7 k) i) (restB (fun o => Z 7 k (i + 2 * o)) (fun o => Z 7 k (i + 2 * o + 1)) 4) (-2)) (look Z k ln i 8)
def sl (Z : DM) (k i o : Int) : Int := Z 7 k (i + 2 * o)
def by9 (Z : DM) (k i o : Int) : Int := Z 7 k (i + 2 * o + 1)
def uS (A : Int → Int) : Int := A 3 - A 2
def lS (A : Int → Int) : Int := A 0 - A 1 - A 2 + A 3
def uB (A : Int → Int) : Int := A 3 - A 1
def mixP (A B : Int → Int) : Prop := btw (uS B) (lS B) ∧ btw (uB A) (lS A)
noncomputable def xMixed (Z : DM) (k ln i w h : Int) : Int := pif ((look Z k ln i 8 = 0 ∧ gameP (Z 7 k) i) ∧ (0 ≤ w ∧ w ≤ 1) ∧ (0 ≤ h ∧ h ≤ 1) ∧ mixP (sl Z k i) (by9 Z k i)) (if w = 0 then pos (uS (by9 Z k i)) (lS (by9 Z k i)) h else pos (uB (sl Z k i)) (lS (sl Z k i)) h) LOSTv
set_option maxRecDepth 100000 in
set_option maxHeartbeats 400000 in
theorem c_X8_rests {l : Launch} {S : SW} {M : Mem} {k ln i : Int}  (hk : InR k) (hln : InR ln) (hi : InR i) (hI : DayOk (M 0)) (hk : M 0 0 0 11 = -9) (hS : ShOk (M 2))  : PM l S yX8_rests cX8_rests 5 (some .int) 3 70 [rv S 2 0 0, iv k, iv ln, iv i] (M) (rX (xRests (M 2) k ln i) M (M 0) (fl (M 2) (lookF (look (M 2) k ln i 8)))) := by
  refine PM.of (own := RX8) (by decide) rfl [some (rv S 2 0 0), some (iv k), some (iv ln), some (iv i), none] rfl rfl (Nat.le_of_ble_eq_true rfl) (fun X hXl C R => ?_)
  subst hXl
  obtain ⟨i1, i2, i3, i4, i5, i6, i7, i8⟩ := id hI
  refine pw_aload_n C dX8_rests_0 rfl ?_
  refine pw_iload_n C dX8_rests_1 rfl ?_
  refine pw_iload_n C dX8_rests_2 rfl ?_
  refine pw_iload_n C dX8_rests_3 rfl ?_
  refine pw_bipush C dX8_rests_4 (by decide) ?_
  refine pw_V 2 ?_
  refine pw_cVI C [_, _, _, _] mi_X8_lookAtCells mv_X8_lookAtCells ml_8_46 oC_0 rfl (c_X8_lookAtCells (by omega) (by omega) (by omega) (by omega)) (by decide) rfl (Nat.le_of_ble_eq_true rfl) dX8_rests_6 ?_
  have hlr := look_r (M 2) k ln i 8
  refine pw_istore_4 C dX8_rests_9 (k := ?_)
  refine pw_iload C dX8_rests_11 rfl ?_
  refine pw_if_eq (tgt := 19) C dX8_rests_13 rfl (by omega) (fun c13 => ?_) (fun c13 => ?_)
  · have hl := look_0 hS c13
    refine pw_aload_n C dX8_rests_19 rfl ?_
    refine gf_8_42 C dX8_rests_20 ?_
    refine pw_aload_n C dX8_rests_23 rfl ?_
    refine gf_8_28 C dX8_rests_24 ?_
    refine gf_8_50 C dX8_rests_27 ?_
    refine pw_iload_n C dX8_rests_30 rfl ?_
    refine pw_aald C qC_6 (by omega) (by omega) (by decide) dX8_rests_31 ?_
    refine pw_iload_n C dX8_rests_32 rfl ?_
    refine pw_cVQI C [_, _] mi_X2_take mv_X2_take ml_8_255 oC_12 rfl (c_X2_take (k := k) (by omega) (by omega) (by omega) (by omega) (by omega)) (by decide) rfl (Nat.le_of_ble_eq_true rfl) dX8_rests_33 ?_
    rintro x9 N9 ⟨W, rfl, hK, hF, hT⟩
    have hP2 : P2 (fl (M 2) (lookF (look (M 2) k ln i 8))) W := fun k2 r j h => hK k2 r j (by omega) (by omega)
    have hF : ¬ gameP (M 2 7 k) i → x9 = 0 := hF
    have hT : gameP (M 2 7 k) i → x9 = 1 ∧ ∀ o, 0 ≤ o → o < 4 → W 13 0 o = sl (M 2) k i o ∧ W 14 0 o = by9 (M 2) k i o := hT
    have hx9 : x9 = 0 ∨ x9 = 1 := by
      rcases Classical.em (gameP (M 2 7 k) i) with h | h
      · exact Or.inr (hT h).1
      · exact Or.inl (hF h)
    refine pw_if_ne (tgt := 42) C dX8_rests_36 rfl (by omega) (fun c36 => ?_) (fun c36 => ?_)
    · have hg : gameP (M 2 7 k) i := Classical.byContradiction (fun h => c36 (hF h))
      have hgt := hT hg
      refine pw_aload_n C dX8_rests_42 rfl ?_
      refine gf_8_42 C dX8_rests_43 ?_
      refine pw_cVI C [] mi_X2_restingBits mv_X2_restingBits ml_8_258 oC_12 rfl (c_X2_restingBits) (by decide) rfl (Nat.le_of_ble_eq_true rfl) dX8_rests_46 ?_
      exact pw_iret C R dX8_rests_49 ⟨congrArg (fun q => some (iv q)) (by unfold xRests; rw [pif_t c13, pif_t hg]; exact restB_c (fun o a b => (hgt.2 o a b).1) (fun o a b => (hgt.2 o a b).2)), rfl, Fr.rf _, hP2⟩
    · refine pw_bipush C dX8_rests_39 (by decide) ?_
      exact pw_iret C R dX8_rests_41 ⟨congrArg (fun q => some (iv q)) (by unfold xRests; rw [pif_t c13, pif_f (fun h => by have := hT h; omega)]), rfl, Fr.rf _, hP2⟩
  · refine pw_iload C dX8_rests_16 rfl ?_
    exact pw_iret C R dX8_rests_18 ⟨congrArg (fun q => some (iv q)) (by unfold xRests; rw [pif_f (by omega)]), rfl, Fr.rf _, fun _ _ _ _ => rfl⟩
set_option maxRecDepth 100000 in
set_option maxHeartbeats 400000 in
theorem c_X8_mixed {l : Launch} {S : SW} {M : Mem} {k ln i w h : Int}  (hk : InR k) (hln : InR ln) (hi : InR i) (hw : InR w) (hh : InR h) (hI : DayOk (M 0)) (hk : M 0 0 0 11 = -9) (hS : ShOk (M 2))  : PM l S yX8_mixed cX8_mixed 6 (some .long) 3 70 [rv S 2 0 0, iv k, iv ln, iv i, iv w, iv h] (M) (rY (xMixed (M 2) k ln i w h) M (M 0) (fl (M 2) (lookF (look (M 2) k ln i 8)))) := by
  refine PM.of (own := RX8) (by decide) rfl [some (rv S 2 0 0), some (iv k), some (iv ln), some (iv i), some (iv w), some (iv h)] rfl rfl (Nat.le_of_ble_eq_true rfl) (fun X hXl C R => ?_)
  subst hXl
  obtain ⟨i1, i2, i3, i4, i5, i6, i7, i8⟩ := id hI
  refine pw_aload_n C dX8_mixed_0 rfl ?_
  refine pw_iload_n C dX8_mixed_1 rfl ?_
  refine pw_iload_n C dX8_mixed_2 rfl ?_
  refine pw_iload_n C dX8_mixed_3 rfl ?_
  refine pw_bipush C dX8_mixed_4 (by decide) ?_
  refine pw_V 2 ?_
  refine pw_cVI C [_, _, _, _] mi_X8_lookAtCells mv_X8_lookAtCells ml_8_46 oC_0 rfl (c_X8_lookAtCells (by omega) (by omega) (by omega) (by omega)) (by decide) rfl (Nat.le_of_ble_eq_true rfl) dX8_mixed_6 ?_
  have hlr := look_r (M 2) k ln i 8
  refine pw_if_ne (tgt := 32) C dX8_mixed_9 rfl (by omega) (fun c9 => ?_) (fun c9 => ?_)
  · refine pw_ldc2 C (n := -9223372036854775808) (inT3 75 rfl rfl) (by decide) dX8_mixed_32 ?_
    first
      | exact pw_lret C R dX8_mixed_35 ⟨congrArg (fun q => some (jv q)) (by unfold xMixed; rw [pif_f (fun h => c9 h.1.1)]; rfl), rfl, Fr.rf _, fun _ _ _ _ => rfl⟩
      | exact pw_lret C R dX8_mixed_35 ⟨congrArg (fun q => some (jv q)) (by unfold xMixed; rw [pif_f (fun h => by have := hT h.1.2; omega)]; rfl), rfl, Fr.rf _, hP2⟩
  · have hl := look_0 hS c9
    refine pw_aload_n C dX8_mixed_12 rfl ?_
    refine gf_8_42 C dX8_mixed_13 ?_
    refine pw_aload_n C dX8_mixed_16 rfl ?_
    refine gf_8_28 C dX8_mixed_17 ?_
    refine gf_8_50 C dX8_mixed_20 ?_
    refine pw_iload_n C dX8_mixed_23 rfl ?_
    refine pw_aald C qC_6 (by omega) (by omega) (by decide) dX8_mixed_24 ?_
    refine pw_iload_n C dX8_mixed_25 rfl ?_
    refine pw_cVQI C [_, _] mi_X2_take mv_X2_take ml_8_255 oC_12 rfl (c_X2_take (k := k) (by omega) (by omega) (by omega) (by omega) (by omega)) (by decide) rfl (Nat.le_of_ble_eq_true rfl) dX8_mixed_26 ?_
    rintro x9 N9 ⟨W, rfl, hK, hF, hT⟩
    have hP2 : P2 (fl (M 2) (lookF (look (M 2) k ln i 8))) W := fun k2 r j h => hK k2 r j (by omega) (by omega)
    have hF : ¬ gameP (M 2 7 k) i → x9 = 0 := hF
    have hT : gameP (M 2 7 k) i → x9 = 1 ∧ ∀ o, 0 ≤ o → o < 4 → W 13 0 o = sl (M 2) k i o ∧ W 14 0 o = by9 (M 2) k i o := hT
    have hx9 : x9 = 0 ∨ x9 = 1 := by
      rcases Classical.em (gameP (M 2 7 k) i) with h | h
      · exact Or.inr (hT h).1
      · exact Or.inl (hF h)
    refine pw_if_ne (tgt := 36) C dX8_mixed_29 rfl (by omega) (fun c29 => ?_) (fun c29 => ?_)
    · have hg : gameP (M 2 7 k) i := Classical.byContradiction (fun h => c29 (hF h))
      have hgt := (hT hg).2
      have g0 := hgt 0 (by omega) (by omega)
      have g1 := hgt 1 (by omega) (by omega)
      have g2 := hgt 2 (by omega) (by omega)
      have g3 := hgt 3 (by omega) (by omega)
      have hr : ∀ o, 0 ≤ o → o < 4 → (-99 ≤ W 13 0 o ∧ W 13 0 o ≤ 99) ∧ (-99 ≤ W 14 0 o ∧ W 14 0 o ≤ 99) := fun o a b => by
        have q := hgt o a b
        have q1 := hg (2 * o) (by omega) (by omega)
        have q2 := hg (2 * o + 1) (by omega) (by omega)
        rw [← Int.add_assoc] at q2
        rw [q.1, q.2]
        exact ⟨q1, q2⟩
      have r0 := hr 0 (by omega) (by omega)
      have r1 := hr 1 (by omega) (by omega)
      have r2 := hr 2 (by omega) (by omega)
      have r3 := hr 3 (by omega) (by omega)
      have eu : W 14 0 3 - W 14 0 2 = uS (by9 (M 2) k i) := by unfold uS; rw [g3.2, g2.2]
      have el : W 14 0 0 - W 14 0 1 - W 14 0 2 + W 14 0 3 = lS (by9 (M 2) k i) := by unfold lS; rw [g0.2, g1.2, g2.2, g3.2]
      have fu : W 13 0 3 - W 13 0 1 = uB (sl (M 2) k i) := by unfold uB; rw [g3.1, g1.1]
      have fL : W 13 0 0 - W 13 0 1 - W 13 0 2 + W 13 0 3 = lS (sl (M 2) k i) := by unfold lS; rw [g0.1, g1.1, g2.1, g3.1]
      have emx : (btw (W 14 0 3 - W 14 0 2) (W 14 0 0 - W 14 0 1 - W 14 0 2 + W 14 0 3) ∧ btw (W 13 0 3 - W 13 0 1) (W 13 0 0 - W 13 0 1 - W 13 0 2 + W 13 0 3)) = mixP (sl (M 2) k i) (by9 (M 2) k i) := by rw [eu, el, fu, fL]; rfl
      refine pw_iload C dX8_mixed_36 rfl ?_
      refine pw_iconst C dX8_mixed_38 ?_
      refine pw_iconst C dX8_mixed_39 ?_
      refine pw_cSI C [_, _, _] mi_X8_isWithin ms_X8_isWithin ml_8_108 (c_X8_isWithin (by omega) (by omega) (by omega)) (by decide) rfl (Nat.le_of_ble_eq_true rfl) dX8_mixed_40 ?_
      refine pw_if_eq_b (tgt := 66) C dX8_mixed_43 rfl (fun c43 => ?_) (fun c43 => ?_)
      · refine pw_ldc2 C (n := -9223372036854775808) (inT3 75 rfl rfl) (by decide) dX8_mixed_66 ?_
        exact pw_lret C R dX8_mixed_69 ⟨congrArg (fun q => some (jv q)) (by unfold xMixed; rw [pif_f (fun h => by first | exact c43 h.2.1 | exact c53 h.2.2.1 | exact c63 (emx ▸ h.2.2.2))]; rfl), rfl, Fr.rf _, hP2⟩
      · refine pw_iload C dX8_mixed_46 rfl ?_
        refine pw_iconst C dX8_mixed_48 ?_
        refine pw_iconst C dX8_mixed_49 ?_
        refine pw_cSI C [_, _, _] mi_X8_isWithin ms_X8_isWithin ml_8_108 (c_X8_isWithin (by omega) (by omega) (by omega)) (by decide) rfl (Nat.le_of_ble_eq_true rfl) dX8_mixed_50 ?_
        refine pw_if_eq_b (tgt := 66) C dX8_mixed_53 rfl (fun c53 => ?_) (fun c53 => ?_)
        · refine pw_ldc2 C (n := -9223372036854775808) (inT3 75 rfl rfl) (by decide) dX8_mixed_66 ?_
          exact pw_lret C R dX8_mixed_69 ⟨congrArg (fun q => some (jv q)) (by unfold xMixed; rw [pif_f (fun h => by first | exact c43 h.2.1 | exact c53 h.2.2.1 | exact c63 (emx ▸ h.2.2.2))]; rfl), rfl, Fr.rf _, hP2⟩
        · refine pw_aload_n C dX8_mixed_56 rfl ?_
          refine gf_8_42 C dX8_mixed_57 ?_
          refine pw_cVI C [] mi_X2_hasMixed mv_X2_hasMixed ml_8_261 oC_12 rfl (c_X2_hasMixed hr) (by decide) rfl (Nat.le_of_ble_eq_true rfl) dX8_mixed_60 ?_
          refine pw_if_ne_b (tgt := 70) C dX8_mixed_63 rfl (fun c63 => ?_) (fun c63 => ?_)
          · refine pw_iload C dX8_mixed_70 rfl ?_
            refine pw_if_ne (tgt := 97) C dX8_mixed_72 rfl (by omega) (fun c72 => ?_) (fun c72 => ?_)
            · refine pw_aload_n C dX8_mixed_97 rfl ?_
              refine gf_8_42 C dX8_mixed_98 ?_
              refine pw_cVI C [] mi_X2_buyingUpper mv_X2_buyingUpper ml_8_270 oC_12 rfl (c_X2_buyingUpper) (by decide) rfl (Nat.le_of_ble_eq_true rfl) dX8_mixed_101 ?_
              refine pw_i2l C (by omega) dX8_mixed_104 ?_
              refine pw_aload_n C dX8_mixed_105 rfl ?_
              refine gf_8_42 C dX8_mixed_106 ?_
              refine pw_cVI C [] mi_X2_buyingLower mv_X2_buyingLower ml_8_273 oC_12 rfl (c_X2_buyingLower) (by decide) rfl (Nat.le_of_ble_eq_true rfl) dX8_mixed_109 ?_
              refine pw_i2l C (by omega) dX8_mixed_112 ?_
              refine pw_iload C dX8_mixed_113 rfl ?_
              refine pw_cSJ C [_, _, _] mi_X8_partOfShare ms_X8_partOfShare ml_8_248 (c_X8_partOfShare (by omega) (by omega) (by omega) (by omega) (by omega) (by omega)) (by decide) rfl (Nat.le_of_ble_eq_true rfl) dX8_mixed_115 ?_
              exact pw_lret C R dX8_mixed_118 ⟨congrArg (fun q => some (jv q)) (by unfold xMixed; rw [pif_t ⟨⟨c9, hg⟩, c43, c53, emx ▸ c63⟩, if_neg c72, fu, fL]), rfl, Fr.rf _, hP2⟩
            · refine pw_aload_n C dX8_mixed_75 rfl ?_
              refine gf_8_42 C dX8_mixed_76 ?_
              refine pw_cVI C [] mi_X2_takingOffUpper mv_X2_takingOffUpper ml_8_264 oC_12 rfl (c_X2_takingOffUpper) (by decide) rfl (Nat.le_of_ble_eq_true rfl) dX8_mixed_79 ?_
              refine pw_i2l C (by omega) dX8_mixed_82 ?_
              refine pw_aload_n C dX8_mixed_83 rfl ?_
              refine gf_8_42 C dX8_mixed_84 ?_
              refine pw_cVI C [] mi_X2_takingOffLower mv_X2_takingOffLower ml_8_267 oC_12 rfl (c_X2_takingOffLower) (by decide) rfl (Nat.le_of_ble_eq_true rfl) dX8_mixed_87 ?_
              refine pw_i2l C (by omega) dX8_mixed_90 ?_
              refine pw_iload C dX8_mixed_91 rfl ?_
              refine pw_cSJ C [_, _, _] mi_X8_partOfShare ms_X8_partOfShare ml_8_248 (c_X8_partOfShare (by omega) (by omega) (by omega) (by omega) (by omega) (by omega)) (by decide) rfl (Nat.le_of_ble_eq_true rfl) dX8_mixed_93 ?_
              exact pw_lret C R dX8_mixed_96 ⟨congrArg (fun q => some (jv q)) (by unfold xMixed; rw [pif_t ⟨⟨c9, hg⟩, c43, c53, emx ▸ c63⟩, if_pos c72, eu, el]), rfl, Fr.rf _, hP2⟩
          · refine pw_ldc2 C (n := -9223372036854775808) (inT3 75 rfl rfl) (by decide) dX8_mixed_66 ?_
            exact pw_lret C R dX8_mixed_69 ⟨congrArg (fun q => some (jv q)) (by unfold xMixed; rw [pif_f (fun h => by first | exact c43 h.2.1 | exact c53 h.2.2.1 | exact c63 (emx ▸ h.2.2.2))]; rfl), rfl, Fr.rf _, hP2⟩
    · refine pw_ldc2 C (n := -9223372036854775808) (inT3 75 rfl rfl) (by decide) dX8_mixed_32 ?_
      first
        | exact pw_lret C R dX8_mixed_35 ⟨congrArg (fun q => some (jv q)) (by unfold xMixed; rw [pif_f (fun h => c9 h.1.1)]; rfl), rfl, Fr.rf _, fun _ _ _ _ => rfl⟩
        | exact pw_lret C R dX8_mixed_35 ⟨congrArg (fun q => some (jv q)) (by unfold xMixed; rw [pif_f (fun h => by have := hT h.1.2; omega)]; rfl), rfl, Fr.rf _, hP2⟩
