set_option maxRecDepth 100000 in
set_option maxHeartbeats 400000 in
theorem L_X9_best {X : PX} {S : SW} {M : Mem} {V : DM} {s t w : Int}  (hI : DayOk (mv V)) (s0 : 0 ≤ s) (s1 : s < V 0 0 2) (t0 : 0 ≤ t) (t1 : t < V 0 0 1) (hw : 0 ≤ w ∧ w ≤ 1) (hs : InR s) (ht : InR t) (C : Cx X S RX9 cX9_best 8 190) (R : CR X S (rN (xBest (mv V) s t w) M V (mv V)) (some .int)) :
    ∀ (n9 : Nat) (v A P : Int) (W : DM), (0 ≤ v) → (v ≤ 31) → (∀ u, EQ 0 0 (vup (mv V) 7 s t u) (vup (mv W) 7 s t u)) → (K3 V W) → ((v = 0 ∧ A = -9) ∨ (0 < v ∧ 0 ≤ A ∧ A ≤ 30)) → (-324 ≤ P ∧ P ≤ 4884) → (0 < v → (P, A) = amax (bestP (mv V) s t) (v - 1).toNat) → 32 - v < n9 → PW X S (mst M 3 W) 49 [some (rv S 3 0 0), some (iv s), some (iv t), some (iv w), some (iv (V 8 0 (8 * s + t))), some (iv A), some (iv P), some (iv v), none] [] := by
  obtain ⟨i1, i2, i3, i4, i5, i6, i7, i8⟩ := id hI
  have e5 : mv V 1 0 5 = V 0 0 1 := rfl
  have e6 : mv V 1 0 6 = V 0 0 2 := rfl
  have e7 : mv V 1 0 7 = V 0 0 8 := rfl
  have e8 : mv V 1 0 8 = V 0 0 9 := rfl
  have e84 : mv V 8 0 4 = V 0 0 15 := rfl
  have ps : 0 ≤ V 8 0 (8 * s + t) ∧ V 8 0 (8 * s + t) ≤ 30 := by
    have h := i6 s t s0 s1 t0 t1
    rw [mv_7 V s t0 (by omega)] at h
    exact h
  intro n9
  induction n9 with
  | zero => intro v A P W v0 v1 hW hK hA hPr hp hn9; omega
  | succ n9 ih =>
    intro v A P W v0 v1 hW hK hA hPr hp hn9
    refine pw_iload C dX9_best_49 rfl ?_
    refine pw_bipush C dX9_best_51 (by decide) ?_
    refine pw_icmp_gt (tgt := 101) C dX9_best_53 rfl (by omega) (by omega) (fun c53 => ?_) (fun c53 => ?_)
    · refine pw_aload_n C dX9_best_101 rfl ?_
      refine gf_9_22 C dX9_best_102 ?_
      refine pw_bipush C dX9_best_105 (by decide) ?_
      refine pw_iload_n C dX9_best_107 rfl ?_
      refine pw_imul C dX9_best_108 ?_
      refine pw_iload_n C dX9_best_109 rfl ?_
      refine pw_iadd C dX9_best_110 ?_
      refine pw_iload C dX9_best_111 rfl ?_
      refine pw_iastV C aM_8 (by omega) (by omega) (by decide) (by omega) dX9_best_113 ?_
      refine pw_iload_n C dX9_best_114 rfl ?_
      refine pw_if_ne (tgt := 123) C dX9_best_115 rfl (by omega) (fun c115 => ?_) (fun c115 => ?_)
      · refine pw_iload C dX9_best_123 rfl ?_
        have hv := hp (by omega)
        rw [show (v - 1).toNat = 30 by omega] at hv
        have e2 : vup (mv V) 7 s t (V 8 0 (8 * s + t)) = mv V := by
          rw [← mv_7 V s t0 (by omega)]
          exact vup_id _ _ _ _
        have e3 := hW (V 8 0 (8 * s + t))
        rw [e2, ← mvu_8 W _ t0 (by omega)] at e3
        refine pw_iret C R dX9_best_125 ⟨congrArg (fun q => some (iv q)) ?_, _, rfl, e3, (hK.up (by omega)).p3⟩
        unfold xBest place
        rw [pif_t (by omega), pif_t hw, ← hv]
        first
          | (rw [if_pos (by omega)]; done)
          | (rw [if_neg (by omega)]; done)
      · refine pw_iload C dX9_best_118 rfl ?_
        refine pw_goto (tgt := 125) C dX9_best_120 rfl ?_
        have hv := hp (by omega)
        rw [show (v - 1).toNat = 30 by omega] at hv
        have e2 : vup (mv V) 7 s t (V 8 0 (8 * s + t)) = mv V := by
          rw [← mv_7 V s t0 (by omega)]
          exact vup_id _ _ _ _
        have e3 := hW (V 8 0 (8 * s + t))
        rw [e2, ← mvu_8 W _ t0 (by omega)] at e3
        refine pw_iret C R dX9_best_125 ⟨congrArg (fun q => some (iv q)) ?_, _, rfl, e3, (hK.up (by omega)).p3⟩
        unfold xBest place
        rw [pif_t (by omega), pif_t hw, ← hv]
        first
          | (rw [if_pos (by omega)]; done)
          | (rw [if_neg (by omega)]; done)
    · refine pw_aload_n C dX9_best_56 rfl ?_
      refine gf_9_22 C dX9_best_57 ?_
      refine pw_bipush C dX9_best_60 (by decide) ?_
      refine pw_iload_n C dX9_best_62 rfl ?_
      refine pw_imul C dX9_best_63 ?_
      refine pw_iload_n C dX9_best_64 rfl ?_
      refine pw_iadd C dX9_best_65 ?_
      refine pw_iload C dX9_best_66 rfl ?_
      refine pw_iastV C aM_8 (by omega) (by omega) (by decide) (by omega) dX9_best_68 ?_
      refine pw_aload_n C dX9_best_69 rfl ?_
      have m2 : EQ 0 0 (vup (mv V) 7 s t v) (mv (vup W 8 0 (8 * s + t) v)) := by rw [mvu_8 W v t0 (by omega)]; exact hW v
      have hIu : DayOk (vup (mv V) 7 s t v) := price_ok hI v0 (by omega)
      have hI3 := hIu.eq m2
      refine pw_cVQI C [] mi_X9_profit mv_X9_profit ml_9_236 oM_0 rfl (c_X9_profit hI3) (by decide) rfl (Nat.le_of_ble_eq_true rfl) dX9_best_70 ?_
      rintro x9 N9 ⟨hx9, U, rfl, hU, kU⟩
      rw [prf_e (g := 0) hIu m2 (Or.inl ⟨rfl, rfl⟩)] at hx9
      have hx9 : x9 = bestP (mv V) s t v := hx9
      have hqr : -324 ≤ bestP (mv V) s t v ∧ bestP (mv V) s t v ≤ 4884 := prf_r hIu (Or.inl rfl)
      have hW2 : ∀ u, EQ 0 0 (vup (mv V) 7 s t u) (vup (mv U) 7 s t u) := fun u => by
        have e := (m2.tr hU).up (k := 7) (r := s) (i := t) u (by omega)
        rw [vup_2] at e
        exact e
      have hK2 : K3 V U := (hK.up (by omega)).tr kU
      have ea : 0 < v → amax (bestP (mv V) s t) v.toNat = if (amax (bestP (mv V) s t) (v - 1).toNat).1 < bestP (mv V) s t v then (bestP (mv V) s t v, v) else amax (bestP (mv V) s t) (v - 1).toNat := fun h => by
        rw [show v.toNat = (v - 1).toNat + 1 by omega]
        show (if (amax (bestP (mv V) s t) (v - 1).toNat).1 < bestP (mv V) s t (((v - 1).toNat : Int) + 1) then (bestP (mv V) s t (((v - 1).toNat : Int) + 1), ((v - 1).toNat : Int) + 1) else _) = _
        rw [show ((v - 1).toNat : Int) + 1 = v by omega]
      have ev : (v + 1 - 1).toNat = v.toNat := by omega
      subst hx9
      refine pw_istore_8 C dX9_best_73 (k := ?_)
      refine pw_iload C dX9_best_75 rfl ?_
      refine pw_if_lt (tgt := 87) C dX9_best_77 rfl (by omega) (fun c77 => ?_) (fun c77 => ?_)
      · refine pw_iload C dX9_best_87 rfl ?_
        refine pw_istore_5 C dX9_best_89 (k := ?_)
        refine pw_iload C dX9_best_91 rfl ?_
        refine pw_istore_6 C dX9_best_93 (k := ?_)
        refine pw_iinc_7 C dX9_best_95 (k := ?_)
        refine pw_goto (tgt := 49) C dX9_best_98 rfl ?_
        first
          | (refine pw_fg 8 rfl (ih (v + 1) v (bestP (mv V) s t v) U (by omega) (by omega) hW2 hK2 (by omega) (by omega) (fun _ => ?_) (by omega))
             rw [ev]
             rcases hA with ⟨rfl, rfl⟩ | ⟨h, hA⟩
             · rfl
             · rw [ea h, ← hp h, if_pos (show P < _ by omega)])
          | (refine pw_fg 8 rfl (ih (v + 1) A P U (by omega) (by omega) hW2 hK2 (by omega) hPr (fun _ => ?_) (by omega))
             rw [ev]
             rcases hA with ⟨rfl, rfl⟩ | ⟨h, hA⟩
             · omega
             · rw [ea h, ← hp h, if_neg (show ¬ (P < _) by omega)])
      · refine pw_iload C dX9_best_80 rfl ?_
        refine pw_iload C dX9_best_82 rfl ?_
        refine pw_icmp_le (tgt := 95) C dX9_best_84 rfl (by omega) (by omega) (fun c84 => ?_) (fun c84 => ?_)
        · refine pw_iinc_7 C dX9_best_95 (k := ?_)
          refine pw_goto (tgt := 49) C dX9_best_98 rfl ?_
          first
            | (refine pw_fg 8 rfl (ih (v + 1) v (bestP (mv V) s t v) U (by omega) (by omega) hW2 hK2 (by omega) (by omega) (fun _ => ?_) (by omega))
               rw [ev]
               rcases hA with ⟨rfl, rfl⟩ | ⟨h, hA⟩
               · rfl
               · rw [ea h, ← hp h, if_pos (show P < _ by omega)])
            | (refine pw_fg 8 rfl (ih (v + 1) A P U (by omega) (by omega) hW2 hK2 (by omega) hPr (fun _ => ?_) (by omega))
               rw [ev]
               rcases hA with ⟨rfl, rfl⟩ | ⟨h, hA⟩
               · omega
               · rw [ea h, ← hp h, if_neg (show ¬ (P < _) by omega)])
        · refine pw_iload C dX9_best_87 rfl ?_
          refine pw_istore_5 C dX9_best_89 (k := ?_)
          refine pw_iload C dX9_best_91 rfl ?_
          refine pw_istore_6 C dX9_best_93 (k := ?_)
          refine pw_iinc_7 C dX9_best_95 (k := ?_)
          refine pw_goto (tgt := 49) C dX9_best_98 rfl ?_
          first
            | (refine pw_fg 8 rfl (ih (v + 1) v (bestP (mv V) s t v) U (by omega) (by omega) hW2 hK2 (by omega) (by omega) (fun _ => ?_) (by omega))
               rw [ev]
               rcases hA with ⟨rfl, rfl⟩ | ⟨h, hA⟩
               · rfl
               · rw [ea h, ← hp h, if_pos (show P < _ by omega)])
            | (refine pw_fg 8 rfl (ih (v + 1) A P U (by omega) (by omega) hW2 hK2 (by omega) hPr (fun _ => ?_) (by omega))
               rw [ev]
               rcases hA with ⟨rfl, rfl⟩ | ⟨h, hA⟩
               · omega
               · rw [ea h, ← hp h, if_neg (show ¬ (P < _) by omega)])
set_option maxRecDepth 100000 in
set_option maxHeartbeats 400000 in
theorem c_X9_best {l : Launch} {S : SW} {M : Mem} {V : DM} {s t w : Int}  (hs : InR s) (ht : InR t) (hw : InR w) (hI : DayOk (mv V))  : PM l S yX9_best cX9_best 9 (some .int) 8 190 [rv S 3 0 0, iv s, iv t, iv w] (mst M 3 V) (rN (xBest (mv V) s t w) M V (mv V)) := by
  refine PM.of (own := RX9) (by decide) rfl [some (rv S 3 0 0), some (iv s), some (iv t), some (iv w), none, none, none, none, none] rfl rfl (Nat.le_of_ble_eq_true rfl) (fun X hXl C R => ?_)
  subst hXl
  obtain ⟨i1, i2, i3, i4, i5, i6, i7, i8⟩ := id hI
  have e5 : mv V 1 0 5 = V 0 0 1 := rfl
  have e6 : mv V 1 0 6 = V 0 0 2 := rfl
  have e7 : mv V 1 0 7 = V 0 0 8 := rfl
  have e8 : mv V 1 0 8 = V 0 0 9 := rfl
  have e84 : mv V 8 0 4 = V 0 0 15 := rfl
  refine pw_aload_n C dX9_best_0 rfl ?_
  refine pw_iload_n C dX9_best_1 rfl ?_
  refine pw_cVI C [_] mi_X9_noSort mv_X9_noSort ml_9_163 oM_0 rfl (c_X9_noSort (by omega)) (by decide) rfl (Nat.le_of_ble_eq_true rfl) dX9_best_2 ?_
  refine pw_if_ne_b (tgt := 16) C dX9_best_5 rfl (fun c5 => ?_) (fun c5 => ?_)
  · refine pw_iconst C dX9_best_16 ?_
    exact pw_iret C R dX9_best_17 ⟨(congrArg (fun q => some (iv q)) (by unfold xBest; (try unfold has at *); (try unfold place at *); (try unfold hasB at *); (try unfold sw4); (try unfold sw3); (repeat (first | rw [pif_t (by first | omega | assumption)] | rw [pif_f (by first | omega | assumption)])); all_goals (first | rfl | omega | ((repeat' split) <;> first | rfl | omega)))), _, rfl, EQ.rf 0 0 _, P3.rf _⟩
  · refine pw_aload_n C dX9_best_8 rfl ?_
    refine pw_iload_n C dX9_best_9 rfl ?_
    refine pw_cVI C [_] mi_X9_noHour mv_X9_noHour ml_9_170 oM_0 rfl (c_X9_noHour (by omega)) (by decide) rfl (Nat.le_of_ble_eq_true rfl) dX9_best_10 ?_
    refine pw_if_eq_b (tgt := 18) C dX9_best_13 rfl (fun c13 => ?_) (fun c13 => ?_)
    · refine pw_iload_n C dX9_best_18 rfl ?_
      refine pw_i2l C (by omega) dX9_best_19 ?_
      refine pw_lconst0 C dX9_best_20 ?_
      refine pw_lconst1 C dX9_best_21 ?_
      refine pw_cSI C [_, _, _] mi_X9_in ms_X9_in ml_9_87 (c_X9_in (by omega) (by omega) (by omega)) (by decide) rfl (Nat.le_of_ble_eq_true rfl) dX9_best_22 ?_
      refine pw_if_ne_b (tgt := 31) C dX9_best_25 rfl (fun c25 => ?_) (fun c25 => ?_)
      · refine pw_aload_n C dX9_best_31 rfl ?_
        refine pw_iload_n C dX9_best_32 rfl ?_
        refine pw_iload_n C dX9_best_33 rfl ?_
        refine pw_cVI C [_, _] mi_X9_priceOf mv_X9_priceOf ml_9_180 oM_0 rfl (c_X9_priceOf (by omega) (by omega) (by omega) (by omega) (by omega) (by omega)) (by decide) rfl (Nat.le_of_ble_eq_true rfl) dX9_best_34 ?_
        refine pw_istore_4 C dX9_best_37 (k := ?_)
        refine pw_bipush C dX9_best_39 (by decide) ?_
        refine pw_istore_5 C dX9_best_41 (k := ?_)
        refine pw_iconst C dX9_best_43 ?_
        refine pw_istore_6 C dX9_best_44 (k := ?_)
        refine pw_iconst C dX9_best_46 ?_
        refine pw_istore_7 C dX9_best_47 (k := ?_)
        exact L_X9_best hI (by omega) (by omega) (by omega) (by omega) (by omega) hs ht C R 33 0 (-9) 0 V (by omega) (by omega) (fun u => EQ.rf 0 0 _) (K3.rf V) (Or.inl ⟨rfl, rfl⟩) (by omega) (fun h => absurd h (by decide)) (by omega)
      · refine pw_bipush C dX9_best_28 (by decide) ?_
        exact pw_iret C R dX9_best_30 ⟨(congrArg (fun q => some (iv q)) (by unfold xBest; (try unfold has at *); (try unfold place at *); (try unfold hasB at *); (try unfold sw4); (try unfold sw3); (repeat (first | rw [pif_t (by first | omega | assumption)] | rw [pif_f (by first | omega | assumption)])); all_goals (first | rfl | omega | ((repeat' split) <;> first | rfl | omega)))), _, rfl, EQ.rf 0 0 _, P3.rf _⟩
    · refine pw_iconst C dX9_best_16 ?_
      exact pw_iret C R dX9_best_17 ⟨(congrArg (fun q => some (iv q)) (by unfold xBest; (try unfold has at *); (try unfold place at *); (try unfold hasB at *); (try unfold sw4); (try unfold sw3); (repeat (first | rw [pif_t (by first | omega | assumption)] | rw [pif_f (by first | omega | assumption)])); all_goals (first | rfl | omega | ((repeat' split) <;> first | rfl | omega)))), _, rfl, EQ.rf 0 0 _, P3.rf _⟩
