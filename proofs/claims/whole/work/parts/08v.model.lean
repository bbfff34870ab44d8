theorem wsm_p {Z : DM} {k i n : Int} : (wtP (Z 7 k) i n ∧ 0 < S9 Z k i n) ↔ ((1 ≤ n ∧ n ≤ 20) ∧ wsm Z k i n ≠ 0) := by
  constructor
  · rintro ⟨hw, hs⟩
    refine ⟨hw.1, ?_⟩
    unfold wsm
    rw [pif_t (show winP Z k i n from hw.2)]
    omega
  · rintro ⟨hn, hs⟩
    by_cases h : winP Z k i n
    · unfold wsm at hs
      rw [pif_t h] at hs
      have a := sumI_r (f := fun j => Z 7 k (i + j)) (B := 99) (show 0 ≤ n by omega) h
      refine ⟨⟨hn, h⟩, ?_⟩
      unfold S9 at *
      omega
    · unfold wsm at hs
      rw [pif_f h] at hs
      exact absurd rfl hs
theorem amax_1 (p : Int → Int) : ∀ n : Nat, (amax p n).1 = p (amax p n).2
  | 0 => rfl
  | n + 1 => by
    show (if (amax p n).1 < p (n + 1) then (p (n + 1), (n : Int) + 1) else amax p n).1 = p (if (amax p n).1 < p (n + 1) then (p (n + 1), (n : Int) + 1) else amax p n).2
    split
    · rfl
    · exact amax_1 p n
theorem bar_mv (V : DM) (k ln i n : Int) : mv (bar V k ln i n) = mv V := by
  unfold bar vif
  split
  · rfl
  · exact mvn_0 V _
theorem bar_ms {V : DM} {k ln i n : Int} (h : look (ms V) k ln i n ≠ 0) : ms (bar V k ln i n) = fl (ms V) (lookF (look (ms V) k ln i n)) := by
  unfold bar
  rw [vif_f h, msf_0]
  rfl
theorem flt0 {V : DM} {r : Int} (h : r = 0) : ms (vup V 0 0 0 0) = fl (ms V) (lookF r) := by
  rw [h, msf_0]
  rfl
set_option maxRecDepth 100000 in
set_option maxHeartbeats 400000 in
theorem c_X9_mean {l : Launch} {S : SW} {M : Mem} {V : DM} {k ln i n q c p9 o w : Int}  (hk : InR k) (hln : InR ln) (hi : InR i) (hn : InR n) (hq : InR q) (hc : InR c) (hp9 : InR p9) (ho : InR o) (hw : InR w) (hI : DayOk (mv V)) (hS : ShOk (ms V))  : PM l S yX9_mean cX9_mean 12 (some .long) 3 70 [rv S 3 0 0, iv k, iv ln, iv i, iv n, iv q, iv c, iv p9, iv o, iv w] (mst M 3 V) (rR (jv (xMean (ms V) k ln i n q c p9 o w)) M (mv V) (fl (ms V) (lookF (look (ms V) k ln i n)))) := by
  refine PM.of (own := RX9) (by decide) rfl [some (rv S 3 0 0), some (iv k), some (iv ln), some (iv i), some (iv n), some (iv q), some (iv c), some (iv p9), some (iv o), some (iv w), none, none] rfl rfl (Nat.le_of_ble_eq_true rfl) (fun X hXl C R => ?_)
  subst hXl
  obtain ⟨i1, i2, i3, i4, i5, i6, i7, i8⟩ := id hI
  have e5 : mv V 1 0 5 = V 0 0 1 := rfl
  have e6 : mv V 1 0 6 = V 0 0 2 := rfl
  have e7 : mv V 1 0 7 = V 0 0 8 := rfl
  have e8 : mv V 1 0 8 = V 0 0 9 := rfl
  have e84 : mv V 8 0 4 = V 0 0 15 := rfl
  refine pw_aload_n C dX9_mean_0 rfl ?_
  refine pw_iload_n C dX9_mean_1 rfl ?_
  refine pw_iload_n C dX9_mean_2 rfl ?_
  refine pw_iload_n C dX9_mean_3 rfl ?_
  refine pw_iload C dX9_mean_4 rfl ?_
  refine pw_i2l C (by omega) dX9_mean_6 ?_
  refine pw_cVI C [_, _, _, _] mi_X9_barred mv_X9_barred ml_9_146 oM_0 rfl (c_X9_barred (by omega) (by omega) (by omega) (by omega) (by assumption) (by omega)) (by decide) rfl (Nat.le_of_ble_eq_true rfl) dX9_mean_7 ?_
  have hlr := look_r (ms V) k ln i n
  refine pw_istore_10 C dX9_mean_10 (k := ?_)
  refine pw_iload C dX9_mean_12 rfl ?_
  refine pw_if_ge (tgt := 21) C dX9_mean_14 rfl (by omega) (fun c14 => ?_) (fun c14 => ?_)
  · have hl0 : look (ms V) k ln i n = 0 := by omega
    have eb : bar V k ln i n = V := by unfold bar; rw [vif_t hl0]
    rw [eb]
    have hl := look_0 hS hl0
    refine pw_aload_n C dX9_mean_21 rfl ?_
    refine pw_iconst C dX9_mean_22 ?_
    refine pv_9_91 C (by omega) dX9_mean_23 ?_
    refine pw_bipush C dX9_mean_26 (by decide) ?_
    refine pw_iload_n C dX9_mean_28 rfl ?_
    refine pw_imul C dX9_mean_29 ?_
    refine pw_iload_n C dX9_mean_30 rfl ?_
    refine pw_iadd C dX9_mean_31 ?_
    refine pw_istore_11 C dX9_mean_32 (k := ?_)
    refine pw_iload C dX9_mean_34 rfl ?_
    refine pw_i2l C (by omega) dX9_mean_36 ?_
    refine pw_lconst1 C dX9_mean_37 ?_
    refine pw_ldc2 C (n := 20) (inT5 76 rfl rfl) (by decide) dX9_mean_38 ?_
    refine pw_cSI C [_, _, _] mi_X9_in ms_X9_in ml_9_87 (c_X9_in (by omega) (by omega) (by omega)) (by decide) rfl (Nat.le_of_ble_eq_true rfl) dX9_mean_41 ?_
    refine pw_if_eq_b (tgt := 91) C dX9_mean_44 rfl (fun c44 => ?_) (fun c44 => ?_)
    · refine pw_cSJ C [] mi_X9_lost ms_X9_lost ml_9_95 (c_X9_lost) (by decide) rfl (Nat.le_of_ble_eq_true rfl) dX9_mean_91 ?_
      exact pw_lret C R dX9_mean_94 ⟨congrArg (fun q => some (jv q)) (by unfold xMean; rw [pif_f (fun h => by first | exact c44 h.1.2.1.1 | exact absurd c55 (wsm_p.mp h.1.2).2 | exact c68 h.2.1 | exact c80 h.2.2.1 | exact c88 h.2.2.2)]), _, rfl, (by rw [mvn_0]; exact EQ.rf 0 0 _), flt0 hl0⟩
    · have hwr := wsm_r (Z := ms V) (k := k) (i := i) (n := n) (by omega) (by omega)
      have ew : wsm (ms (vup V 0 0 0 0)) k i n = wsm (ms V) k i n := rfl
      refine pw_aload_n C dX9_mean_47 rfl ?_
      refine pw_iload C dX9_mean_48 rfl ?_
      refine pw_iload C dX9_mean_50 rfl ?_
      refine pw_cVI C [_, _] mi_X9_weightsOf mv_X9_weightsOf ml_9_249 oM_0 rfl (c_X9_weightsOf (V := vup V 0 0 0 0) (k := k) (i := i) (by omega) (by omega) (by omega) (by omega) (by omega) (by omega) rfl (by omega)) (by decide) rfl (Nat.le_of_ble_eq_true rfl) dX9_mean_52 ?_
      rw [ew]
      refine pw_if_eq (tgt := 91) C dX9_mean_55 rfl (by omega) (fun c55 => ?_) (fun c55 => ?_)
      · refine pw_cSJ C [] mi_X9_lost ms_X9_lost ml_9_95 (c_X9_lost) (by decide) rfl (Nat.le_of_ble_eq_true rfl) dX9_mean_91 ?_
        exact pw_lret C R dX9_mean_94 ⟨congrArg (fun q => some (jv q)) (by unfold xMean; rw [pif_f (fun h => by first | exact c44 h.1.2.1.1 | exact absurd c55 (wsm_p.mp h.1.2).2 | exact c68 h.2.1 | exact c80 h.2.2.1 | exact c88 h.2.2.2)]), _, rfl, (by rw [mvn_0]; exact EQ.rf 0 0 _), flt0 hl0⟩
      · refine pw_iload C dX9_mean_58 rfl ?_
        refine pw_i2l C (by omega) dX9_mean_60 ?_
        refine pw_lconst0 C dX9_mean_61 ?_
        refine pw_ldc2 C (n := 20) (inT5 76 rfl rfl) (by decide) dX9_mean_62 ?_
        refine pw_cSI C [_, _, _] mi_X9_in ms_X9_in ml_9_87 (c_X9_in (by omega) (by omega) (by omega)) (by decide) rfl (Nat.le_of_ble_eq_true rfl) dX9_mean_65 ?_
        refine pw_if_eq_b (tgt := 91) C dX9_mean_68 rfl (fun c68 => ?_) (fun c68 => ?_)
        · refine pw_cSJ C [] mi_X9_lost ms_X9_lost ml_9_95 (c_X9_lost) (by decide) rfl (Nat.le_of_ble_eq_true rfl) dX9_mean_91 ?_
          exact pw_lret C R dX9_mean_94 ⟨congrArg (fun q => some (jv q)) (by unfold xMean; rw [pif_f (fun h => by first | exact c44 h.1.2.1.1 | exact absurd c55 (wsm_p.mp h.1.2).2 | exact c68 h.2.1 | exact c80 h.2.2.1 | exact c88 h.2.2.2)]), _, rfl, (by rw [mvn_0]; exact EQ.rf 0 0 _), flt0 hl0⟩
        · refine pw_iload C dX9_mean_71 rfl ?_
          refine pw_iload C dX9_mean_73 rfl ?_
          refine pw_iload C dX9_mean_75 rfl ?_
          refine pw_cSI C [_, _, _] mi_X9_isMoney ms_X9_isMoney ml_9_252 (c_X9_isMoney (by omega) (by omega) (by omega)) (by decide) rfl (Nat.le_of_ble_eq_true rfl) dX9_mean_77 ?_
          refine pw_if_eq_b (tgt := 91) C dX9_mean_80 rfl (fun c80 => ?_) (fun c80 => ?_)
          · refine pw_cSJ C [] mi_X9_lost ms_X9_lost ml_9_95 (c_X9_lost) (by decide) rfl (Nat.le_of_ble_eq_true rfl) dX9_mean_91 ?_
            exact pw_lret C R dX9_mean_94 ⟨congrArg (fun q => some (jv q)) (by unfold xMean; rw [pif_f (fun h => by first | exact c44 h.1.2.1.1 | exact absurd c55 (wsm_p.mp h.1.2).2 | exact c68 h.2.1 | exact c80 h.2.2.1 | exact c88 h.2.2.2)]), _, rfl, (by rw [mvn_0]; exact EQ.rf 0 0 _), flt0 hl0⟩
          · refine pw_iload C dX9_mean_83 rfl ?_
            refine pw_cSI C [_] mi_X9_isWhich ms_X9_isWhich ml_9_255 (c_X9_isWhich (by omega)) (by decide) rfl (Nat.le_of_ble_eq_true rfl) dX9_mean_85 ?_
            refine pw_if_ne_b (tgt := 95) C dX9_mean_88 rfl (fun c88 => ?_) (fun c88 => ?_)
            · have hT := wsm_p.mpr ⟨c44, c55⟩
              have hOd := OdOk.of hT.1
              have hgr := wgh_r (q := q) hOd c68.1 c68.2 c80.1.1 c80.1.2 c80.2.1.1 c80.2.1.2 c80.2.2.1 c80.2.2.2
              have eS : wsm (ms V) k i n = S9 (ms V) k i n := by unfold wsm; rw [pif_t (show winP (ms V) k i n from hT.1.2)]
              have hs9 := hOd.2.1
              have eh : wgh (fun j => ms (vup V 0 0 0 0) 7 k (i + j)) n (S9 (ms (vup V 0 0 0 0)) k i n) q c p9 o = wgh (fun j => ms V 7 k (i + j)) n (S9 (ms V) k i n) q c p9 o := rfl
              refine pw_aload_n C dX9_mean_95 rfl ?_
              refine pw_iload C dX9_mean_96 rfl ?_
              refine pw_iload C dX9_mean_98 rfl ?_
              refine pw_iload C dX9_mean_100 rfl ?_
              refine pw_iload C dX9_mean_102 rfl ?_
              refine pw_iload C dX9_mean_104 rfl ?_
              refine pw_iload C dX9_mean_106 rfl ?_
              refine pw_cVJ C [_, _, _, _, _, _] mi_X9_hadBy mv_X9_hadBy ml_9_258 oM_0 rfl (c_X9_hadBy (V := vup V 0 0 0 0) (k := k) (i := i) (by omega) (by omega) (by omega) (by omega) (by omega) (by omega) (by omega) (by omega) (by omega) (by omega) rfl (by omega) hT.1.2 c68 c80) (by decide) rfl (Nat.le_of_ble_eq_true rfl) dX9_mean_108 ?_
              rw [eh]
              refine pw_aload_n C dX9_mean_111 rfl ?_
              refine pw_iload C dX9_mean_112 rfl ?_
              refine pw_iload C dX9_mean_114 rfl ?_
              refine pw_cVI C [_, _] mi_X9_weightsOf mv_X9_weightsOf ml_9_249 oM_0 rfl (c_X9_weightsOf (V := vup V 0 0 0 0) (k := k) (i := i) (by omega) (by omega) (by omega) (by omega) (by omega) (by omega) rfl (by omega)) (by decide) rfl (Nat.le_of_ble_eq_true rfl) dX9_mean_116 ?_
              rw [ew, eS]
              refine pw_i2l C (by omega) dX9_mean_119 ?_
              refine pw_iload C dX9_mean_120 rfl ?_
              refine pw_cSJ C [_, _, _] mi_X9_told ms_X9_told ml_9_262 (c_X9_told (by omega) (by omega) (by omega) (by omega) (by omega) (by omega)) (by decide) rfl (Nat.le_of_ble_eq_true rfl) dX9_mean_122 ?_
              exact pw_lret C R dX9_mean_125 ⟨congrArg (fun q => some (jv q)) (by unfold xMean; rw [pif_t ⟨⟨hl0, hT⟩, c68, c80, c88⟩]), _, rfl, (by rw [mvn_0]; exact EQ.rf 0 0 _), flt0 hl0⟩
            · refine pw_cSJ C [] mi_X9_lost ms_X9_lost ml_9_95 (c_X9_lost) (by decide) rfl (Nat.le_of_ble_eq_true rfl) dX9_mean_91 ?_
              exact pw_lret C R dX9_mean_94 ⟨congrArg (fun q => some (jv q)) (by unfold xMean; rw [pif_f (fun h => by first | exact c44 h.1.2.1.1 | exact absurd c55 (wsm_p.mp h.1.2).2 | exact c68 h.2.1 | exact c80 h.2.2.1 | exact c88 h.2.2.2)]), _, rfl, (by rw [mvn_0]; exact EQ.rf 0 0 _), flt0 hl0⟩
  · refine pw_cSJ C [] mi_X9_lost ms_X9_lost ml_9_95 (c_X9_lost) (by decide) rfl (Nat.le_of_ble_eq_true rfl) dX9_mean_17 ?_
    exact pw_lret C R dX9_mean_20 ⟨congrArg (fun q => some (jv q)) (by unfold xMean; rw [pif_f (fun h => by have := h.1.1; omega)]), _, rfl, (by rw [bar_mv]; exact EQ.rf 0 0 _), bar_ms (by omega)⟩
set_option maxRecDepth 100000 in
set_option maxHeartbeats 400000 in
theorem L_X9_howMany {X : PX} {S : SW} {M : Mem} {V : DM} {k ln i n c p9 o : Int}  (hl0 : look (ms V) k ln i n = 0) (hl : (0 ≤ k ∧ k < 4) ∧ 0 ≤ i ∧ 0 ≤ n ∧ i + n ≤ 60) (hT : wtP (ms V 7 k) i n ∧ 0 < S9 (ms V) k i n) (hm : (0 ≤ c ∧ c ≤ 99) ∧ (0 ≤ p9 ∧ p9 ≤ 99) ∧ 0 ≤ o ∧ o ≤ 99) (C : Cx X S RX9 cX9_howMany 3 70) (R : CR X S (rR (iv (xHow (ms V) k ln i n c p9 o)) M (mv V) (fl (ms V) (lookF (look (ms V) k ln i n)))) (some .int)) :
    ∀ (n9 : Nat) (q A : Int), (1 ≤ q) → (q ≤ 21) → (0 ≤ A ∧ A < q) → (A = (amax (fun q => wgh (fun j => ms V 7 k (i + j)) n (S9 (ms V) k i n) q c p9 o) (q - 1).toNat).2) → 22 - q < n9 → PW X S (mst M 3 V) 77 [some (rv S 3 0 0), some (iv k), some (iv ln), some (iv i), some (iv n), some (iv c), some (iv p9), some (iv o), some (iv (look (ms V) k ln i n)), some (iv (60 * k + i)), some (iv A), some (iv q)] [] := by
  have hw1 := hT.1.1
  have hOd := OdOk.of hT.1
  have hwg := fun x (a : 0 ≤ x) (b : x ≤ 20) => wgh_r (q := x) (c := c) (p := p9) (o := o) hOd a b hm.1.1 hm.1.2 hm.2.1.1 hm.2.1.2 hm.2.2.1 hm.2.2.2
  intro n9
  induction n9 with
  | zero => intro q A q0 q1 hA hp hn9; omega
  | succ n9 ih =>
    intro q A q0 q1 hA hp hn9
    refine pw_iload C dX9_howMany_77 rfl ?_
    refine pw_bipush C dX9_howMany_79 (by decide) ?_
    refine pw_icmp_gt (tgt := 135) C dX9_howMany_81 rfl (by omega) (by omega) (fun c81 => ?_) (fun c81 => ?_)
    · refine pw_aload_n C dX9_howMany_135 rfl ?_
      refine pw_iload C dX9_howMany_136 rfl ?_
      refine pw_cVI C [_] mi_X9_refused mv_X9_refused ml_9_103 oM_0 rfl (c_X9_refused (by omega)) (by decide) rfl (Nat.le_of_ble_eq_true rfl) dX9_howMany_138 ?_
      exact pw_iret C R dX9_howMany_141 ⟨congrArg (fun q => some (iv q)) (by unfold xHow; rw [pif_t hl0, pif_t ⟨hT, hm⟩, hp, show (q - 1).toNat = 20 by omega]), _, rfl, (by rw [mvn_0]; exact EQ.rf 0 0 _), flt0 hl0⟩
    · have g1 := hwg q (by omega) (by omega)
      have g2 := hwg A (by omega) (by omega)
      have ea := amax_s (p := (fun q => wgh (fun j => ms V 7 k (i + j)) n (S9 (ms V) k i n) q c p9 o)) (v := q) (by omega)
      have e1 := amax_1 (fun q => wgh (fun j => ms V 7 k (i + j)) n (S9 (ms V) k i n) q c p9 o) (q - 1).toNat
      rw [← hp] at e1
      refine pw_aload_n C dX9_howMany_84 rfl ?_
      refine pw_iload C dX9_howMany_85 rfl ?_
      refine pw_iload C dX9_howMany_87 rfl ?_
      refine pw_iload C dX9_howMany_89 rfl ?_
      refine pw_iload C dX9_howMany_91 rfl ?_
      refine pw_iload C dX9_howMany_93 rfl ?_
      refine pw_iload C dX9_howMany_95 rfl ?_
      refine pw_cVJ C [_, _, _, _, _, _] mi_X9_hadBy mv_X9_hadBy ml_9_258 oM_0 rfl (c_X9_hadBy (V := V) (k := k) (i := i) (by omega) (by omega) (by omega) (by omega) (by omega) (by omega) (by omega) (by omega) (by omega) (by omega) rfl (by omega) hT.1.2 (by omega) hm) (by decide) rfl (Nat.le_of_ble_eq_true rfl) dX9_howMany_97 ?_
      refine pw_aload_n C dX9_howMany_100 rfl ?_
      refine pw_iload C dX9_howMany_101 rfl ?_
      refine pw_iload C dX9_howMany_103 rfl ?_
      refine pw_iload C dX9_howMany_105 rfl ?_
      refine pw_iload C dX9_howMany_107 rfl ?_
      refine pw_iload C dX9_howMany_109 rfl ?_
      refine pw_iload C dX9_howMany_111 rfl ?_
      refine pw_cVJ C [_, _, _, _, _, _] mi_X9_hadBy mv_X9_hadBy ml_9_258 oM_0 rfl (c_X9_hadBy (V := V) (k := k) (i := i) (by omega) (by omega) (by omega) (by omega) (by omega) (by omega) (by omega) (by omega) (by omega) (by omega) rfl (by omega) hT.1.2 (by omega) hm) (by decide) rfl (Nat.le_of_ble_eq_true rfl) dX9_howMany_113 ?_
      refine pw_lcmp C (by omega) (by omega) dX9_howMany_116 ?_
      refine pw_lif_le (tgt := 125) C dX9_howMany_117 rfl (fun c117 => ?_) (fun c117 => ?_)
      · refine pw_iload C dX9_howMany_125 rfl ?_
        refine pw_istore_10 C dX9_howMany_127 (k := ?_)
        refine pw_iinc_11 C dX9_howMany_129 (k := ?_)
        refine pw_goto (tgt := 77) C dX9_howMany_132 rfl ?_
        first
          | (refine ih (q + 1) q (by omega) (by omega) (by omega) ?_ (by omega)
             rw [show (q + 1 - 1).toNat = q.toNat by omega, ea, if_pos (by rw [e1]; omega)])
          | (refine ih (q + 1) A (by omega) (by omega) (by omega) ?_ (by omega)
             rw [show (q + 1 - 1).toNat = q.toNat by omega, ea, if_neg (by rw [e1]; omega)]
             exact hp)
      · refine pw_iload C dX9_howMany_120 rfl ?_
        refine pw_goto (tgt := 127) C dX9_howMany_122 rfl ?_
        refine pw_istore_10 C dX9_howMany_127 (k := ?_)
        refine pw_iinc_11 C dX9_howMany_129 (k := ?_)
        refine pw_goto (tgt := 77) C dX9_howMany_132 rfl ?_
        first
          | (refine ih (q + 1) q (by omega) (by omega) (by omega) ?_ (by omega)
             rw [show (q + 1 - 1).toNat = q.toNat by omega, ea, if_pos (by rw [e1]; omega)])
          | (refine ih (q + 1) A (by omega) (by omega) (by omega) ?_ (by omega)
             rw [show (q + 1 - 1).toNat = q.toNat by omega, ea, if_neg (by rw [e1]; omega)]
             exact hp)
set_option maxRecDepth 100000 in
set_option maxHeartbeats 400000 in
theorem c_X9_howMany {l : Launch} {S : SW} {M : Mem} {V : DM} {k ln i n c p9 o : Int}  (hk : InR k) (hln : InR ln) (hi : InR i) (hn : InR n) (hc : InR c) (hp9 : InR p9) (ho : InR o) (hI : DayOk (mv V)) (hS : ShOk (ms V))  : PM l S yX9_howMany cX9_howMany 12 (some .int) 3 70 [rv S 3 0 0, iv k, iv ln, iv i, iv n, iv c, iv p9, iv o] (mst M 3 V) (rR (iv (xHow (ms V) k ln i n c p9 o)) M (mv V) (fl (ms V) (lookF (look (ms V) k ln i n)))) := by
  refine PM.of (own := RX9) (by decide) rfl [some (rv S 3 0 0), some (iv k), some (iv ln), some (iv i), some (iv n), some (iv c), some (iv p9), some (iv o), none, none, none, none] rfl rfl (Nat.le_of_ble_eq_true rfl) (fun X hXl C R => ?_)
  subst hXl
  obtain ⟨i1, i2, i3, i4, i5, i6, i7, i8⟩ := id hI
  have e5 : mv V 1 0 5 = V 0 0 1 := rfl
  have e6 : mv V 1 0 6 = V 0 0 2 := rfl
  have e7 : mv V 1 0 7 = V 0 0 8 := rfl
  have e8 : mv V 1 0 8 = V 0 0 9 := rfl
  have e84 : mv V 8 0 4 = V 0 0 15 := rfl
  refine pw_aload_n C dX9_howMany_0 rfl ?_
  refine pw_iload_n C dX9_howMany_1 rfl ?_
  refine pw_iload_n C dX9_howMany_2 rfl ?_
  refine pw_iload_n C dX9_howMany_3 rfl ?_
  refine pw_iload C dX9_howMany_4 rfl ?_
  refine pw_i2l C (by omega) dX9_howMany_6 ?_
  refine pw_cVI C [_, _, _, _] mi_X9_barred mv_X9_barred ml_9_146 oM_0 rfl (c_X9_barred (by omega) (by omega) (by omega) (by omega) (by assumption) (by omega)) (by decide) rfl (Nat.le_of_ble_eq_true rfl) dX9_howMany_7 ?_
  have hlr := look_r (ms V) k ln i n
  refine pw_istore_8 C dX9_howMany_10 (k := ?_)
  refine pw_iload C dX9_howMany_12 rfl ?_
  refine pw_if_ge (tgt := 20) C dX9_howMany_14 rfl (by omega) (fun c14 => ?_) (fun c14 => ?_)
  · have hl0 : look (ms V) k ln i n = 0 := by omega
    have eb : bar V k ln i n = V := by unfold bar; rw [vif_t hl0]
    rw [eb]
    have hl := look_0 hS hl0
    refine pw_bipush C dX9_howMany_20 (by decide) ?_
    refine pw_iload_n C dX9_howMany_22 rfl ?_
    refine pw_imul C dX9_howMany_23 ?_
    refine pw_iload_n C dX9_howMany_24 rfl ?_
    refine pw_iadd C dX9_howMany_25 ?_
    refine pw_istore_9 C dX9_howMany_26 (k := ?_)
    refine pw_iload C dX9_howMany_28 rfl ?_
    refine pw_i2l C (by omega) dX9_howMany_30 ?_
    refine pw_lconst1 C dX9_howMany_31 ?_
    refine pw_ldc2 C (n := 20) (inT5 76 rfl rfl) (by decide) dX9_howMany_32 ?_
    refine pw_cSI C [_, _, _] mi_X9_in ms_X9_in ml_9_87 (c_X9_in (by omega) (by omega) (by omega)) (by decide) rfl (Nat.le_of_ble_eq_true rfl) dX9_howMany_35 ?_
    refine pw_if_eq_b (tgt := 64) C dX9_howMany_38 rfl (fun c38 => ?_) (fun c38 => ?_)
    · refine pw_aload_n C dX9_howMany_64 rfl ?_
      refine pw_bipush C dX9_howMany_65 (by decide) ?_
      refine pw_cVI C [_] mi_X9_refused mv_X9_refused ml_9_103 oM_0 rfl (c_X9_refused (by omega)) (by decide) rfl (Nat.le_of_ble_eq_true rfl) dX9_howMany_67 ?_
      exact pw_iret C R dX9_howMany_70 ⟨congrArg (fun q => some (iv q)) (by unfold xHow; rw [pif_t hl0, pif_f (fun h => by first | exact c38 h.1.1.1 | exact absurd c49 (wsm_p.mp h.1).2 | exact c61 h.2)]), _, rfl, (by rw [mvn_0]; exact EQ.rf 0 0 _), flt0 hl0⟩
    · have hwr := wsm_r (Z := ms V) (k := k) (i := i) (n := n) (by omega) (by omega)
      refine pw_aload_n C dX9_howMany_41 rfl ?_
      refine pw_iload C dX9_howMany_42 rfl ?_
      refine pw_iload C dX9_howMany_44 rfl ?_
      refine pw_cVI C [_, _] mi_X9_weightsOf mv_X9_weightsOf ml_9_249 oM_0 rfl (c_X9_weightsOf (V := V) (k := k) (i := i) (by omega) (by omega) (by omega) (by omega) (by omega) (by omega) rfl (by omega)) (by decide) rfl (Nat.le_of_ble_eq_true rfl) dX9_howMany_46 ?_
      refine pw_if_eq (tgt := 64) C dX9_howMany_49 rfl (by omega) (fun c49 => ?_) (fun c49 => ?_)
      · refine pw_aload_n C dX9_howMany_64 rfl ?_
        refine pw_bipush C dX9_howMany_65 (by decide) ?_
        refine pw_cVI C [_] mi_X9_refused mv_X9_refused ml_9_103 oM_0 rfl (c_X9_refused (by omega)) (by decide) rfl (Nat.le_of_ble_eq_true rfl) dX9_howMany_67 ?_
        exact pw_iret C R dX9_howMany_70 ⟨congrArg (fun q => some (iv q)) (by unfold xHow; rw [pif_t hl0, pif_f (fun h => by first | exact c38 h.1.1.1 | exact absurd c49 (wsm_p.mp h.1).2 | exact c61 h.2)]), _, rfl, (by rw [mvn_0]; exact EQ.rf 0 0 _), flt0 hl0⟩
      · refine pw_iload C dX9_howMany_52 rfl ?_
        refine pw_iload C dX9_howMany_54 rfl ?_
        refine pw_iload C dX9_howMany_56 rfl ?_
        refine pw_cSI C [_, _, _] mi_X9_isMoney ms_X9_isMoney ml_9_252 (c_X9_isMoney (by omega) (by omega) (by omega)) (by decide) rfl (Nat.le_of_ble_eq_true rfl) dX9_howMany_58 ?_
        refine pw_if_ne_b (tgt := 71) C dX9_howMany_61 rfl (fun c61 => ?_) (fun c61 => ?_)
        · refine pw_iconst C dX9_howMany_71 ?_
          refine pw_istore_10 C dX9_howMany_72 (k := ?_)
          refine pw_iconst C dX9_howMany_74 ?_
          refine pw_istore_11 C dX9_howMany_75 (k := ?_)
          have hT := wsm_p.mpr ⟨c38, c49⟩
          exact L_X9_howMany hl0 hl hT c61 C R 22 1 0 (by omega) (by omega) (by omega) rfl (by omega)
        · refine pw_aload_n C dX9_howMany_64 rfl ?_
          refine pw_bipush C dX9_howMany_65 (by decide) ?_
          refine pw_cVI C [_] mi_X9_refused mv_X9_refused ml_9_103 oM_0 rfl (c_X9_refused (by omega)) (by decide) rfl (Nat.le_of_ble_eq_true rfl) dX9_howMany_67 ?_
          exact pw_iret C R dX9_howMany_70 ⟨congrArg (fun q => some (iv q)) (by unfold xHow; rw [pif_t hl0, pif_f (fun h => by first | exact c38 h.1.1.1 | exact absurd c49 (wsm_p.mp h.1).2 | exact c61 h.2)]), _, rfl, (by rw [mvn_0]; exact EQ.rf 0 0 _), flt0 hl0⟩
  · refine pw_iload C dX9_howMany_17 rfl ?_
    exact pw_iret C R dX9_howMany_19 ⟨congrArg (fun q => some (iv q)) (by unfold xHow; rw [pif_f (by omega)]), _, rfl, (by rw [bar_mv]; exact EQ.rf 0 0 _), bar_ms (by omega)⟩
set_option maxRecDepth 100000 in
set_option maxHeartbeats 400000 in
theorem c_X9_right {l : Launch} {S : SW} {M : Mem} {V : DM} {a t w : Int}  (ha : InR a) (ht : InR t) (hw : InR w) (hI : DayOk (mv V)) (hS : ShOk (ms V)) (hz : V 0 0 2 = 0 → V 0 0 1 = 0) : PM l S yX9_right cX9_right 4 (some .long) 2 45 [rv S 3 0 0, iv a, iv t, iv w] (mst M 3 V) (rR (jv (xRight (mv V) a t w)) M (mv V) (ms V)) := by
  refine PM.of (own := RX9) (by decide) rfl [some (rv S 3 0 0), some (iv a), some (iv t), some (iv w)] rfl rfl (Nat.le_of_ble_eq_true rfl) (fun X hXl C R => ?_)
  subst hXl
  obtain ⟨i1, i2, i3, i4, i5, i6, i7, i8⟩ := id hI
  have e5 : mv V 1 0 5 = V 0 0 1 := rfl
  have e6 : mv V 1 0 6 = V 0 0 2 := rfl
  have e7 : mv V 1 0 7 = V 0 0 8 := rfl
  have e8 : mv V 1 0 8 = V 0 0 9 := rfl
  have e84 : mv V 8 0 4 = V 0 0 15 := rfl
  refine pw_aload_n C dX9_right_0 rfl ?_
  refine gv_9_116 C dX9_right_1 (fun r1 => ?_)
  refine pw_if_eq (tgt := 40) C dX9_right_4 rfl (by omega) (fun c4 => ?_) (fun c4 => ?_)
  · refine pw_cSJ C [] mi_X9_lost ms_X9_lost ml_9_95 (c_X9_lost) (by decide) rfl (Nat.le_of_ble_eq_true rfl) dX9_right_40 ?_
    exact pw_lret C R dX9_right_43 ⟨congrArg (fun q => some (jv q)) (by unfold xRight; rw [pif_f (by omega)]), _, rfl, EQ.rf 0 0 _, rfl⟩
  · refine pw_iload_n C dX9_right_7 rfl ?_
    refine pw_i2l C (by omega) dX9_right_8 ?_
    refine pw_lconst1 C dX9_right_9 ?_
    refine pw_ldc2 C (n := 99) (inT5 81 rfl rfl) (by decide) dX9_right_10 ?_
    refine pw_cSI C [_, _, _] mi_X9_in ms_X9_in ml_9_87 (c_X9_in (by omega) (by omega) (by omega)) (by decide) rfl (Nat.le_of_ble_eq_true rfl) dX9_right_13 ?_
    refine pw_if_eq_b (tgt := 40) C dX9_right_16 rfl (fun c16 => ?_) (fun c16 => ?_)
    · refine pw_cSJ C [] mi_X9_lost ms_X9_lost ml_9_95 (c_X9_lost) (by decide) rfl (Nat.le_of_ble_eq_true rfl) dX9_right_40 ?_
      exact pw_lret C R dX9_right_43 ⟨congrArg (fun q => some (jv q)) (by unfold xRight; rw [pif_f (by omega)]), _, rfl, EQ.rf 0 0 _, rfl⟩
    · refine pw_iload_n C dX9_right_19 rfl ?_
      refine pw_i2l C (by omega) dX9_right_20 ?_
      refine pw_lconst1 C dX9_right_21 ?_
      refine pw_aload_n C dX9_right_22 rfl ?_
      refine gv_9_119 C dX9_right_23 (fun r23 => ?_)
      refine pw_i2l C (by omega) dX9_right_26 ?_
      refine pw_cSI C [_, _, _] mi_X9_in ms_X9_in ml_9_87 (c_X9_in (by omega) (by omega) (by omega)) (by decide) rfl (Nat.le_of_ble_eq_true rfl) dX9_right_27 ?_
      refine pw_if_eq_b (tgt := 40) C dX9_right_30 rfl (fun c30 => ?_) (fun c30 => ?_)
      · refine pw_cSJ C [] mi_X9_lost ms_X9_lost ml_9_95 (c_X9_lost) (by decide) rfl (Nat.le_of_ble_eq_true rfl) dX9_right_40 ?_
        exact pw_lret C R dX9_right_43 ⟨congrArg (fun q => some (jv q)) (by unfold xRight; rw [pif_f (by omega)]), _, rfl, EQ.rf 0 0 _, rfl⟩
      · refine pw_iload_n C dX9_right_33 rfl ?_
        refine pw_cSI C [_] mi_X9_isWhich ms_X9_isWhich ml_9_255 (c_X9_isWhich (by omega)) (by decide) rfl (Nat.le_of_ble_eq_true rfl) dX9_right_34 ?_
        refine pw_if_ne_b (tgt := 44) C dX9_right_37 rfl (fun c37 => ?_) (fun c37 => ?_)
        · have hm := mul_r (show 0 ≤ a by omega) (show a ≤ 99 by omega) i2.1 i2.2
          rw [e5] at hm
          have e1a : 1 * a = a := Int.one_mul a
          refine pw_lconst1 C dX9_right_44 ?_
          refine pw_iload_n C dX9_right_45 rfl ?_
          refine pw_i2l C (by omega) dX9_right_46 ?_
          refine pw_lmul C dX9_right_47 ?_
          refine pw_aload_n C dX9_right_48 rfl ?_
          refine gv_9_119 C dX9_right_49 (fun r49 => ?_)
          refine pw_i2l C (by omega) dX9_right_52 ?_
          refine pw_lmul C dX9_right_53 ?_
          rw [e1a]
          refine pw_iload_n C dX9_right_54 rfl ?_
          refine pw_i2l C (by omega) dX9_right_55 ?_
          refine pw_iload_n C dX9_right_56 rfl ?_
          refine pw_cSJ C [_, _, _] mi_X9_told ms_X9_told ml_9_262 (c_X9_told (by omega) (by omega) (by omega) (by omega) (by omega) (by omega)) (by decide) rfl (Nat.le_of_ble_eq_true rfl) dX9_right_57 ?_
          exact pw_lret C R dX9_right_60 ⟨congrArg (fun q => some (jv q)) (by unfold xRight; rw [pif_t (by omega)] <;> rfl), _, rfl, EQ.rf 0 0 _, rfl⟩
        · refine pw_cSJ C [] mi_X9_lost ms_X9_lost ml_9_95 (c_X9_lost) (by decide) rfl (Nat.le_of_ble_eq_true rfl) dX9_right_40 ?_
          exact pw_lret C R dX9_right_43 ⟨congrArg (fun q => some (jv q)) (by unfold xRight; rw [pif_f (by omega)]), _, rfl, EQ.rf 0 0 _, rfl⟩
