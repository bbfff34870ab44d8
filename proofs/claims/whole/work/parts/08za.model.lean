theorem vset_f (Z : DM) (k : Nat) (o : Int) (f : Int → Int) (t v : Int) : vup (vset Z k o f) k o t v = vset Z k o (fup f t v) := by
  funext k' r i
  by_cases e : k' = k ∧ r = o
  · obtain ⟨rfl, rfl⟩ := e
    rw [vset_s, vup_s, vset_s]
  · unfold vup vset
    rw [if_neg e, if_neg e, if_neg e]
theorem vcp_s (g h : Int → Int) (sp dp : Int) {n : Int} (n0 : 0 ≤ n) : fup (vcp g h sp dp n) (dp + n) (h (sp + n)) = vcp g h sp dp (n + 1) := by
  funext j
  by_cases e : j = dp + n
  · rw [e, fup_s]
    unfold vcp
    rw [if_pos (by omega), show sp + (dp + n - dp) = sp + n by omega]
  · rw [fup_o _ _ e]
    unfold vcp
    by_cases c : dp ≤ j ∧ j < dp + n
    · rw [if_pos c, if_pos (by omega)]
    · rw [if_neg c, if_neg (by omega)]
theorem vcp_0 (g h : Int → Int) (sp dp : Int) : vcp g h sp dp 0 = g := by
  funext j
  unfold vcp
  rw [if_neg (by omega)]
theorem vset_i (Z : DM) (k : Nat) (o : Int) : vset Z k o (Z k o) = Z := by
  funext k' r
  unfold vset
  split
  · next h => rw [h.1, h.2]
  · rfl
theorem fl_vset (Z : DM) (o : Int) (f : Int → Int) (a : Int) : fl (vset Z 7 o f) a = vset (fl Z a) 7 o f := by
  funext k' r i
  unfold fl
  by_cases e : k' = 7 ∧ r = o
  · obtain ⟨rfl, rfl⟩ := e
    rw [vup_k _ _ _ _ (by omega), vset_s, vset_s]
  · have e1 : ∀ Z : DM, vset Z 7 o f k' r i = Z k' r i := fun Z => by
      unfold vset
      rw [if_neg e]
    rw [e1]
    by_cases c : k' = 0 ∧ r = 0 ∧ i = 6
    · obtain ⟨rfl, rfl, rfl⟩ := c
      rw [vup_v, vup_v]
    · rw [vup_n _ c, vup_n _ c, e1]
set_option maxRecDepth 100000 in
set_option maxHeartbeats 400000 in
theorem L_X9_copyB {X : PX} {S : SW} {M : Mem} {V : DM} {k i o j n : Int}  (hk : 0 ≤ k ∧ k < 4) (ho : 0 ≤ o ∧ o < 4) (hi : 0 ≤ i ∧ 0 ≤ n ∧ i + n ≤ 60) (hj : 0 ≤ j ∧ j + n ≤ 60) (hX : xCopy (ms V) k i o j n = n) (C : Cx X S RX9 cX9_copy 2 45) (R : CR X S (rR (iv (xCopy (ms V) k i o j n)) M (mv V) (zCopy (ms V) k i o j n)) (some .int)) :
    ∀ (n9 : Nat) (x : Int) (U : DM), (0 ≤ x) → (x ≤ n) → (ms U = vset (ms V) 7 o (vcp (ms V 7 o) (ms V 7 k) i j x) ∧ mv U = mv V ∧ ∀ y, 0 ≤ y → y < n → U 38 0 y = ms V 7 k (i + y)) → n - x < n9 → PW X S (mst M 3 U) 144 [some (rv S 3 0 0), some (iv k), some (iv i), some (iv o), some (iv j), some (iv n), some (iv x)] [] := by
  intro n9
  induction n9 with
  | zero => intro x U x0 x1 hU hn9; omega
  | succ n9 ih =>
    intro x U x0 x1 hU hn9
    refine pw_iload C dX9_copy_144 rfl ?_
    refine pw_iload C dX9_copy_146 rfl ?_
    refine pw_icmp_ge (tgt := 179) C dX9_copy_148 rfl (by omega) (by omega) (fun c148 => ?_) (fun c148 => ?_)
    · refine pw_aload_n C dX9_copy_179 rfl ?_
      refine pw_iload C dX9_copy_180 rfl ?_
      refine pw_cVI C [_] mi_X9_refused mv_X9_refused ml_9_103 oM_0 rfl (c_X9_refused (by omega)) (by decide) rfl (Nat.le_of_ble_eq_true rfl) dX9_copy_182 ?_
      rw [show x = n by omega] at hU
      exact pw_iret C R dX9_copy_185 ⟨congrArg (fun q => some (iv q)) hX.symm, _, rfl, (by rw [mvn_0, hU.2.1]; exact EQ.rf 0 0 _), (by unfold zCopy; rw [vif_t (by omega), msf_0, hU.1]; exact fl_vset _ _ _ _)⟩
    · refine pw_aload_n C dX9_copy_151 rfl ?_
      refine gf_9_79 C dX9_copy_152 ?_
      refine pw_bipush C dX9_copy_155 (by decide) ?_
      refine pw_iload_n C dX9_copy_157 rfl ?_
      refine pw_imul C dX9_copy_158 ?_
      refine pw_iload C dX9_copy_159 rfl ?_
      refine pw_iadd C dX9_copy_161 ?_
      refine pw_iload C dX9_copy_162 rfl ?_
      refine pw_iadd C dX9_copy_164 ?_
      refine pw_aload_n C dX9_copy_165 rfl ?_
      refine gf_9_82 C dX9_copy_166 ?_
      refine pw_iload C dX9_copy_169 rfl ?_
      refine pw_ialdV C aM_38 (by omega) (by omega) (by decide) dX9_copy_171 (fun r171 => ?_)
      refine pw_iastV C aM_37 (by omega) (by omega) (by decide) (by omega) dX9_copy_172 ?_
      refine pw_iinc_6 C dX9_copy_173 (k := ?_)
      refine pw_goto (tgt := 144) C dX9_copy_176 rfl ?_
      have e38 := hU.2.2 x x0 (by omega)
      rw [e38, show 60 * o + j + x = 60 * o + (j + x) by omega]
      refine ih (x + 1) _ (by omega) (by omega) ⟨?_, ?_, fun y a b => ?_⟩ (by omega)
      · rw [msu_37 U _ (by omega) (by omega), hU.1, vset_f, vcp_s _ _ _ _ x0]
      · rw [mva_37]; exact hU.2.1
      · rw [vup_k _ _ _ _ (by omega)]; exact hU.2.2 y a b
set_option maxRecDepth 100000 in
set_option maxHeartbeats 400000 in
theorem L_X9_copyA {X : PX} {S : SW} {M : Mem} {V : DM} {k i o j n : Int}  (hk : 0 ≤ k ∧ k < 4) (ho : 0 ≤ o ∧ o < 4) (hi : 0 ≤ i ∧ 0 ≤ n ∧ i + n ≤ 60) (hj : 0 ≤ j ∧ j + n ≤ 60) (hX : xCopy (ms V) k i o j n = n) (C : Cx X S RX9 cX9_copy 2 45) (R : CR X S (rR (iv (xCopy (ms V) k i o j n)) M (mv V) (zCopy (ms V) k i o j n)) (some .int)) :
    ∀ (n9 : Nat) (x : Int) (W : DM), (0 ≤ x) → (x ≤ n) → ((∀ (k2 : Nat) (r y : Int), k2 ≠ 38 → W k2 r y = V k2 r y) ∧ ∀ y, 0 ≤ y → y < x → W 38 0 y = ms V 7 k (i + y)) → n - x < n9 → PW X S (mst M 3 W) 107 [some (rv S 3 0 0), some (iv k), some (iv i), some (iv o), some (iv j), some (iv n), some (iv x)] [] := by
  intro n9
  induction n9 with
  | zero => intro x W x0 x1 hW hn9; omega
  | succ n9 ih =>
    intro x W x0 x1 hW hn9
    refine pw_iload C dX9_copy_107 rfl ?_
    refine pw_iload C dX9_copy_109 rfl ?_
    refine pw_icmp_ge (tgt := 141) C dX9_copy_111 rfl (by omega) (by omega) (fun c111 => ?_) (fun c111 => ?_)
    · refine pw_iconst C dX9_copy_141 ?_
      refine pw_istore_6 C dX9_copy_142 (k := ?_)
      rw [show x = n by omega] at hW
      exact L_X9_copyB hk ho hi hj hX C R (n + 1).toNat 0 W (by omega) (by omega) ⟨by rw [vcp_0, vset_i]; exact P3.msE (fun k2 r y h => hW.1 k2 r y (by omega)), mv_c (fun k2 r y h => hW.1 k2 r y (by omega)), hW.2⟩ (by omega)
    · refine pw_aload_n C dX9_copy_114 rfl ?_
      refine gf_9_82 C dX9_copy_115 ?_
      refine pw_iload C dX9_copy_118 rfl ?_
      refine pw_aload_n C dX9_copy_120 rfl ?_
      refine gf_9_79 C dX9_copy_121 ?_
      refine pw_bipush C dX9_copy_124 (by decide) ?_
      refine pw_iload_n C dX9_copy_126 rfl ?_
      refine pw_imul C dX9_copy_127 ?_
      refine pw_iload_n C dX9_copy_128 rfl ?_
      refine pw_iadd C dX9_copy_129 ?_
      refine pw_iload C dX9_copy_130 rfl ?_
      refine pw_iadd C dX9_copy_132 ?_
      refine pw_ialdV C aM_37 (by omega) (by omega) (by decide) dX9_copy_133 (fun r133 => ?_)
      have e37 : W 37 0 (60 * k + i + x) = ms V 7 k (i + x) := by rw [hW.1 37 0 _ (by omega)]; exact sheet_at V k (by omega) (by omega)
      refine pw_iastV C aM_38 (by omega) (by omega) (by decide) (by omega) dX9_copy_134 ?_
      refine pw_iinc_6 C dX9_copy_135 (k := ?_)
      refine pw_goto (tgt := 107) C dX9_copy_138 rfl ?_
      rw [e37]
      refine ih (x + 1) _ (by omega) (by omega) ⟨fun k2 r y h => by rw [vup_k _ _ _ _ h]; exact hW.1 k2 r y h, fun y a b => ?_⟩ (by omega)
      by_cases e : y = x
      · rw [e, vup_v]
      · rw [vup_j _ _ _ _ e]; exact hW.2 y a (by omega)
set_option maxRecDepth 100000 in
set_option maxHeartbeats 400000 in
theorem c_X9_copy {l : Launch} {S : SW} {M : Mem} {V : DM} {k i o j n : Int}  (hk : InR k) (hi : InR i) (ho : InR o) (hj : InR j) (hn : InR n) (hI : DayOk (mv V)) (hS : ShOk (ms V))  : PM l S yX9_copy cX9_copy 7 (some .int) 2 45 [rv S 3 0 0, iv k, iv i, iv o, iv j, iv n] (mst M 3 V) (rR (iv (xCopy (ms V) k i o j n)) M (mv V) (zCopy (ms V) k i o j n)) := by
  refine PM.of (own := RX9) (by decide) rfl [some (rv S 3 0 0), some (iv k), some (iv i), some (iv o), some (iv j), some (iv n), none] rfl rfl (Nat.le_of_ble_eq_true rfl) (fun X hXl C R => ?_)
  subst hXl
  obtain ⟨i1, i2, i3, i4, i5, i6, i7, i8⟩ := id hI
  have e5 : mv V 1 0 5 = V 0 0 1 := rfl
  have e6 : mv V 1 0 6 = V 0 0 2 := rfl
  have e7 : mv V 1 0 7 = V 0 0 8 := rfl
  have e8 : mv V 1 0 8 = V 0 0 9 := rfl
  have e84 : mv V 8 0 4 = V 0 0 15 := rfl
  refine pw_iload_n C dX9_copy_0 rfl ?_
  refine pw_cSI C [_] mi_X9_noSheet ms_X9_noSheet ml_9_99 (c_X9_noSheet (by omega)) (by decide) rfl (Nat.le_of_ble_eq_true rfl) dX9_copy_1 ?_
  refine pw_if_ne_b (tgt := 14) C dX9_copy_4 rfl (fun c4 => ?_) (fun c4 => ?_)
  · refine pw_aload_n C dX9_copy_14 rfl ?_
    refine pw_iconst C dX9_copy_15 ?_
    refine pw_cVI C [_] mi_X9_refused mv_X9_refused ml_9_103 oM_0 rfl (c_X9_refused (by omega)) (by decide) rfl (Nat.le_of_ble_eq_true rfl) dX9_copy_16 ?_
    first
      | (have e : -1 = xCopy (ms V) k i o j n := by unfold xCopy; (try unfold sk at *); (try unfold rch at *); (repeat (first | rw [pif_t (by first | omega | assumption)] | rw [pif_f (by first | omega | assumption)])); all_goals (first | rfl | omega | ((repeat' split) <;> first | rfl | omega))
         exact pw_iret C R dX9_copy_19 ⟨congrArg (fun q => some (iv q)) e, _, rfl, (by rw [mvn_0]; exact EQ.rf 0 0 _), by unfold zCopy; rw [vif_f (by omega), ← e, msf_0]; rfl⟩)
  · refine pw_iload_n C dX9_copy_7 rfl ?_
    refine pw_cSI C [_] mi_X9_noSheet ms_X9_noSheet ml_9_99 (c_X9_noSheet (by omega)) (by decide) rfl (Nat.le_of_ble_eq_true rfl) dX9_copy_8 ?_
    refine pw_if_eq_b (tgt := 20) C dX9_copy_11 rfl (fun c11 => ?_) (fun c11 => ?_)
    · have hz9 : -1 ≤ V 35 0 k ∧ V 35 0 k ≤ 60 := hS k (by omega) (by omega)
      have e9 : ms V 9 0 k = V 35 0 k := rfl
      have e8 : ms V 8 0 k = V 36 0 k := rfl
      have hy9 : -1 ≤ V 35 0 o ∧ V 35 0 o ≤ 60 := hS o (by omega) (by omega)
      have f9 : ms V 9 0 o = V 35 0 o := rfl
      have f8 : ms V 8 0 o = V 36 0 o := rfl
      refine pw_aload_n C dX9_copy_20 rfl ?_
      refine gf_9_73 C dX9_copy_21 ?_
      refine pw_iload_n C dX9_copy_24 rfl ?_
      refine pw_ialdV C aM_35 (by omega) (by omega) (by decide) dX9_copy_25 (fun r25 => ?_)
      refine pw_if_lt (tgt := 38) C dX9_copy_26 rfl (by omega) (fun c26 => ?_) (fun c26 => ?_)
      · refine pw_aload_n C dX9_copy_38 rfl ?_
        refine pw_iconst C dX9_copy_39 ?_
        refine pw_cVI C [_] mi_X9_failed mv_X9_failed ml_9_109 oM_0 rfl (c_X9_failed (by omega)) (by decide) rfl (Nat.le_of_ble_eq_true rfl) dX9_copy_40 ?_
        first
          | (have e : -10 - 1 = xCopy (ms V) k i o j n := by unfold xCopy; (try unfold sk at *); (try unfold rch at *); (repeat (first | rw [pif_t (by first | omega | assumption)] | rw [pif_f (by first | omega | assumption)])); all_goals (first | rfl | omega | ((repeat' split) <;> first | rfl | omega))
             exact pw_iret C R dX9_copy_43 ⟨congrArg (fun q => some (iv q)) e, _, rfl, (by rw [mvn_0]; exact EQ.rf 0 0 _), by unfold zCopy; rw [vif_f (by omega), ← e, msf_0]; rfl⟩)
      · refine pw_aload_n C dX9_copy_29 rfl ?_
        refine gf_9_73 C dX9_copy_30 ?_
        refine pw_iload_n C dX9_copy_33 rfl ?_
        refine pw_ialdV C aM_35 (by omega) (by omega) (by decide) dX9_copy_34 (fun r34 => ?_)
        refine pw_if_ge (tgt := 44) C dX9_copy_35 rfl (by omega) (fun c35 => ?_) (fun c35 => ?_)
        · refine pw_aload_n C dX9_copy_44 rfl ?_
          refine gf_9_76 C dX9_copy_45 ?_
          refine pw_iload_n C dX9_copy_48 rfl ?_
          refine pw_ialdV C aM_36 (by omega) (by omega) (by decide) dX9_copy_49 (fun r49 => ?_)
          refine pw_aload_n C dX9_copy_50 rfl ?_
          refine gf_9_76 C dX9_copy_51 ?_
          refine pw_iload_n C dX9_copy_54 rfl ?_
          refine pw_ialdV C aM_36 (by omega) (by omega) (by decide) dX9_copy_55 (fun r55 => ?_)
          refine pw_icmp_eq (tgt := 65) C dX9_copy_56 rfl (by omega) (by omega) (fun c56 => ?_) (fun c56 => ?_)
          · refine pw_iload_n C dX9_copy_65 rfl ?_
            refine pw_iload C dX9_copy_66 rfl ?_
            refine pw_i2l C (by omega) dX9_copy_68 ?_
            refine pw_aload_n C dX9_copy_69 rfl ?_
            refine gf_9_73 C dX9_copy_70 ?_
            refine pw_iload_n C dX9_copy_73 rfl ?_
            refine pw_ialdV C aM_35 (by omega) (by omega) (by decide) dX9_copy_74 (fun r74 => ?_)
            refine pw_cSI C [_, _, _] mi_X9_isBeyond ms_X9_isBeyond ml_9_112 (c_X9_isBeyond (by omega) (by omega) (by omega) (by omega)) (by decide) rfl (Nat.le_of_ble_eq_true rfl) dX9_copy_75 ?_
            refine pw_if_ne_b (tgt := 98) C dX9_copy_78 rfl (fun c78 => ?_) (fun c78 => ?_)
            · refine pw_aload_n C dX9_copy_98 rfl ?_
              refine pw_iconst C dX9_copy_99 ?_
              refine pw_cVI C [_] mi_X9_failed mv_X9_failed ml_9_109 oM_0 rfl (c_X9_failed (by omega)) (by decide) rfl (Nat.le_of_ble_eq_true rfl) dX9_copy_100 ?_
              first
                | (have e : -10 - 3 = xCopy (ms V) k i o j n := by unfold xCopy; (try unfold sk at *); (try unfold rch at *); (repeat (first | rw [pif_t (by first | omega | assumption)] | rw [pif_f (by first | omega | assumption)])); all_goals (first | rfl | omega | ((repeat' split) <;> first | rfl | omega))
                   exact pw_iret C R dX9_copy_103 ⟨congrArg (fun q => some (iv q)) e, _, rfl, (by rw [mvn_0]; exact EQ.rf 0 0 _), by unfold zCopy; rw [vif_f (by omega), ← e, msf_0]; rfl⟩)
            · refine pw_iload C dX9_copy_81 rfl ?_
              refine pw_iload C dX9_copy_83 rfl ?_
              refine pw_i2l C (by omega) dX9_copy_85 ?_
              refine pw_aload_n C dX9_copy_86 rfl ?_
              refine gf_9_73 C dX9_copy_87 ?_
              refine pw_iload_n C dX9_copy_90 rfl ?_
              refine pw_ialdV C aM_35 (by omega) (by omega) (by decide) dX9_copy_91 (fun r91 => ?_)
              refine pw_cSI C [_, _, _] mi_X9_isBeyond ms_X9_isBeyond ml_9_112 (c_X9_isBeyond (by omega) (by omega) (by omega) (by omega)) (by decide) rfl (Nat.le_of_ble_eq_true rfl) dX9_copy_92 ?_
              refine pw_if_eq_b (tgt := 104) C dX9_copy_95 rfl (fun c95 => ?_) (fun c95 => ?_)
              · refine pw_iconst C dX9_copy_104 ?_
                refine pw_istore_6 C dX9_copy_105 (k := ?_)
                have hX : xCopy (ms V) k i o j n = n := by
                  unfold xCopy sk rch
                  rw [pif_t (by omega), pif_t (by omega), pif_t (by omega), pif_t (by omega)]
                exact L_X9_copyA (by omega) (by omega) (by omega) (by omega) hX C R (n + 1).toNat 0 V (by omega) (by omega) ⟨fun _ _ _ _ => rfl, fun y a b => by omega⟩ (by omega)
              · refine pw_aload_n C dX9_copy_98 rfl ?_
                refine pw_iconst C dX9_copy_99 ?_
                refine pw_cVI C [_] mi_X9_failed mv_X9_failed ml_9_109 oM_0 rfl (c_X9_failed (by omega)) (by decide) rfl (Nat.le_of_ble_eq_true rfl) dX9_copy_100 ?_
                first
                  | (have e : -10 - 3 = xCopy (ms V) k i o j n := by unfold xCopy; (try unfold sk at *); (try unfold rch at *); (repeat (first | rw [pif_t (by first | omega | assumption)] | rw [pif_f (by first | omega | assumption)])); all_goals (first | rfl | omega | ((repeat' split) <;> first | rfl | omega))
                     exact pw_iret C R dX9_copy_103 ⟨congrArg (fun q => some (iv q)) e, _, rfl, (by rw [mvn_0]; exact EQ.rf 0 0 _), by unfold zCopy; rw [vif_f (by omega), ← e, msf_0]; rfl⟩)
          · refine pw_aload_n C dX9_copy_59 rfl ?_
            refine pw_iconst C dX9_copy_60 ?_
            refine pw_cVI C [_] mi_X9_failed mv_X9_failed ml_9_109 oM_0 rfl (c_X9_failed (by omega)) (by decide) rfl (Nat.le_of_ble_eq_true rfl) dX9_copy_61 ?_
            first
              | (have e : -10 - 2 = xCopy (ms V) k i o j n := by unfold xCopy; (try unfold sk at *); (try unfold rch at *); (repeat (first | rw [pif_t (by first | omega | assumption)] | rw [pif_f (by first | omega | assumption)])); all_goals (first | rfl | omega | ((repeat' split) <;> first | rfl | omega))
                 exact pw_iret C R dX9_copy_64 ⟨congrArg (fun q => some (iv q)) e, _, rfl, (by rw [mvn_0]; exact EQ.rf 0 0 _), by unfold zCopy; rw [vif_f (by omega), ← e, msf_0]; rfl⟩)
        · refine pw_aload_n C dX9_copy_38 rfl ?_
          refine pw_iconst C dX9_copy_39 ?_
          refine pw_cVI C [_] mi_X9_failed mv_X9_failed ml_9_109 oM_0 rfl (c_X9_failed (by omega)) (by decide) rfl (Nat.le_of_ble_eq_true rfl) dX9_copy_40 ?_
          first
            | (have e : -10 - 1 = xCopy (ms V) k i o j n := by unfold xCopy; (try unfold sk at *); (try unfold rch at *); (repeat (first | rw [pif_t (by first | omega | assumption)] | rw [pif_f (by first | omega | assumption)])); all_goals (first | rfl | omega | ((repeat' split) <;> first | rfl | omega))
               exact pw_iret C R dX9_copy_43 ⟨congrArg (fun q => some (iv q)) e, _, rfl, (by rw [mvn_0]; exact EQ.rf 0 0 _), by unfold zCopy; rw [vif_f (by omega), ← e, msf_0]; rfl⟩)
    · refine pw_aload_n C dX9_copy_14 rfl ?_
      refine pw_iconst C dX9_copy_15 ?_
      refine pw_cVI C [_] mi_X9_refused mv_X9_refused ml_9_103 oM_0 rfl (c_X9_refused (by omega)) (by decide) rfl (Nat.le_of_ble_eq_true rfl) dX9_copy_16 ?_
      first
        | (have e : -1 = xCopy (ms V) k i o j n := by unfold xCopy; (try unfold sk at *); (try unfold rch at *); (repeat (first | rw [pif_t (by first | omega | assumption)] | rw [pif_f (by first | omega | assumption)])); all_goals (first | rfl | omega | ((repeat' split) <;> first | rfl | omega))
           exact pw_iret C R dX9_copy_19 ⟨congrArg (fun q => some (iv q)) e, _, rfl, (by rw [mvn_0]; exact EQ.rf 0 0 _), by unfold zCopy; rw [vif_f (by omega), ← e, msf_0]; rfl⟩)
set_option maxRecDepth 100000 in
set_option maxHeartbeats 400000 in
theorem L_X9_copyOutB {X : PX} {S : SW} {M : Mem} {V : DM} {s k ln i n g : Int}  (hI : DayOk (mv V)) (hs : 0 ≤ s ∧ s < V 0 0 2) (hl0 : look (ms V) k ln i n = 0) (hl : (0 ≤ k ∧ k < 4) ∧ 0 ≤ i ∧ 0 ≤ n ∧ i + n ≤ 60) (hn : (1 ≤ n ∧ n ≤ mv V 1 0 5) ∧ allP (ms V) k i n) (C : Cx X S RX9 cX9_copyOut 3 70) (R : CR X S (rR (iv (xCo (mv V) (ms V) s k ln i n)) M (vCo (mv V) (ms V) s k ln i n) (fl (ms V) (fCo (mv V) (ms V) s k ln i n))) (some .int)) :
    ∀ (n9 : Nat) (t : Int) (U : DM), (0 ≤ t) → (t ≤ n) → (mv U = vset (mv V) 7 s (vcp (mv V 7 s) (ms V 7 k) i 0 t) ∧ ∀ (k2 : Nat) (r y : Int), k2 ≠ 8 → U k2 r y = V k2 r y) → n - t < n9 → PW X S (mst M 3 U) 105 [some (rv S 3 0 0), some (iv s), some (iv k), some (iv ln), some (iv i), some (iv n), some (iv (look (ms V) k ln i n)), some (iv g), some (iv t)] [] := by
  obtain ⟨i1, i2, i3, i4, i5, i6, i7, i8⟩ := id hI
  have e5 : mv V 1 0 5 = V 0 0 1 := rfl
  have e6 : mv V 1 0 6 = V 0 0 2 := rfl
  have e7 : mv V 1 0 7 = V 0 0 8 := rfl
  have e8 : mv V 1 0 8 = V 0 0 9 := rfl
  have e84 : mv V 8 0 4 = V 0 0 15 := rfl
  intro n9
  induction n9 with
  | zero => intro t U t0 t1 hU hn9; omega
  | succ n9 ih =>
    intro t U t0 t1 hU hn9
    refine pw_iload C dX9_copyOut_105 rfl ?_
    refine pw_iload C dX9_copyOut_107 rfl ?_
    refine pw_icmp_ge (tgt := 145) C dX9_copyOut_109 rfl (by omega) (by omega) (fun c109 => ?_) (fun c109 => ?_)
    · refine pw_aload_n C dX9_copyOut_145 rfl ?_
      refine pw_iload C dX9_copyOut_146 rfl ?_
      refine pw_cVI C [_] mi_X9_refused mv_X9_refused ml_9_103 oM_0 rfl (c_X9_refused (by omega)) (by decide) rfl (Nat.le_of_ble_eq_true rfl) dX9_copyOut_148 ?_
      rw [show t = n by omega] at hU
      exact pw_iret C R dX9_copyOut_151 ⟨congrArg (fun q => some (iv q)) (by unfold xCo; rw [pif_t (show has (mv V) s from hs), pif_t hl0, pif_t hn]), _, rfl, (by unfold vCo; rw [vif_t ⟨(show has (mv V) s from hs), hl0, hn⟩, mvn_0, hU.1]; exact EQ.rf 0 0 _), (by unfold fCo; rw [pif_t (show has (mv V) s from hs), hl0, msf_0, P3.msE (fun k2 r y h => hU.2 k2 r y (by omega))]; rfl)⟩
    · refine pw_aload_n C dX9_copyOut_112 rfl ?_
      refine gf_9_22 C dX9_copyOut_113 ?_
      refine pw_bipush C dX9_copyOut_116 (by decide) ?_
      refine pw_iload_n C dX9_copyOut_118 rfl ?_
      refine pw_imul C dX9_copyOut_119 ?_
      refine pw_iload C dX9_copyOut_120 rfl ?_
      refine pw_iadd C dX9_copyOut_122 ?_
      refine pw_aload_n C dX9_copyOut_123 rfl ?_
      refine gf_9_79 C dX9_copyOut_124 ?_
      refine pw_bipush C dX9_copyOut_127 (by decide) ?_
      refine pw_iload_n C dX9_copyOut_129 rfl ?_
      refine pw_imul C dX9_copyOut_130 ?_
      refine pw_iload C dX9_copyOut_131 rfl ?_
      refine pw_iadd C dX9_copyOut_133 ?_
      refine pw_iload C dX9_copyOut_134 rfl ?_
      refine pw_iadd C dX9_copyOut_136 ?_
      refine pw_ialdV C aM_37 (by omega) (by omega) (by decide) dX9_copyOut_137 (fun r137 => ?_)
      have e37 : U 37 0 (60 * k + i + t) = ms V 7 k (i + t) := by rw [hU.2 37 0 _ (by omega)]; exact sheet_at V k (by omega) (by omega)
      have h37 := hn.2 t t0 (by omega)
      rw [e37]
      refine pw_iastV C aM_8 (by omega) (by omega) (by decide) (by omega) dX9_copyOut_138 ?_
      refine pw_iinc_8 C dX9_copyOut_139 (k := ?_)
      refine pw_goto (tgt := 105) C dX9_copyOut_142 rfl ?_
      have em := mvu_8 U (s := s) (t := t) (ms V 7 k (i + t)) t0 (by omega)
      refine ih (t + 1) _ (by omega) (by omega) ⟨?_, fun k2 r y h => by rw [vup_k _ _ _ _ h]; exact hU.2 k2 r y h⟩ (by omega)
      have hc := vcp_s (mv V 7 s) (ms V 7 k) i 0 t0
      rw [Int.zero_add] at hc
      rw [em, hU.1, vset_f, hc]
set_option maxRecDepth 100000 in
set_option maxHeartbeats 400000 in
theorem L_X9_copyOutA {X : PX} {S : SW} {M : Mem} {V : DM} {s k ln i n : Int}  (hI : DayOk (mv V)) (hs : 0 ≤ s ∧ s < V 0 0 2) (hl0 : look (ms V) k ln i n = 0) (hl : (0 ≤ k ∧ k < 4) ∧ 0 ≤ i ∧ 0 ≤ n ∧ i + n ≤ 60) (hsR : InR s) (C : Cx X S RX9 cX9_copyOut 3 70) (R : CR X S (rR (iv (xCo (mv V) (ms V) s k ln i n)) M (vCo (mv V) (ms V) s k ln i n) (fl (ms V) (fCo (mv V) (ms V) s k ln i n))) (some .int)) :
    ∀ (n9 : Nat) (t g : Int), (0 ≤ t) → (t ≤ n) → (g = b01 ((1 ≤ n ∧ n ≤ V 0 0 1) ∧ allP (ms V) k i t)) → n - t < n9 → PW X S (mst M 3 V) 52 [some (rv S 3 0 0), some (iv s), some (iv k), some (iv ln), some (iv i), some (iv n), some (iv (look (ms V) k ln i n)), some (iv g), some (iv t)] [] := by
  obtain ⟨i1, i2, i3, i4, i5, i6, i7, i8⟩ := id hI
  have e5 : mv V 1 0 5 = V 0 0 1 := rfl
  have e6 : mv V 1 0 6 = V 0 0 2 := rfl
  have e7 : mv V 1 0 7 = V 0 0 8 := rfl
  have e8 : mv V 1 0 8 = V 0 0 9 := rfl
  have e84 : mv V 8 0 4 = V 0 0 15 := rfl
  intro n9
  induction n9 with
  | zero => intro t g t0 t1 hg hn9; omega
  | succ n9 ih =>
    intro t g t0 t1 hg hn9
    have hgr := b01_r ((1 ≤ n ∧ n ≤ V 0 0 1) ∧ allP (ms V) k i t)
    refine pw_iload C dX9_copyOut_52 rfl ?_
    refine pw_iload C dX9_copyOut_54 rfl ?_
    refine pw_icmp_ge (tgt := 90) C dX9_copyOut_56 rfl (by omega) (by omega) (fun c56 => ?_) (fun c56 => ?_)
    · refine pw_iload C dX9_copyOut_90 rfl ?_
      refine pw_if_ne (tgt := 102) C dX9_copyOut_92 rfl (by omega) (fun c92 => ?_) (fun c92 => ?_)
      · have hn : (1 ≤ n ∧ n ≤ mv V 1 0 5) ∧ allP (ms V) k i n := by
          have h : (1 ≤ n ∧ n ≤ V 0 0 1) ∧ allP (ms V) k i t := Classical.byContradiction (fun h => by rw [b01_f h] at hg; omega)
          rw [show t = n by omega] at h
          exact h
        refine pw_iconst C dX9_copyOut_102 ?_
        refine pw_istore_8 C dX9_copyOut_103 (k := ?_)
        exact L_X9_copyOutB hI hs hl0 hl hn C R (n + 1).toNat 0 V (by omega) (by omega) ⟨by rw [vcp_0, vset_i], fun _ _ _ _ => rfl⟩ (by omega)
      · have hng : ¬ ((1 ≤ n ∧ n ≤ mv V 1 0 5) ∧ allP (ms V) k i n) := fun h => by
          have := b01_t (P := (1 ≤ n ∧ n ≤ V 0 0 1) ∧ allP (ms V) k i t) ⟨h.1, fun q a b => h.2 q a (by omega)⟩
          omega
        refine pw_aload_n C dX9_copyOut_95 rfl ?_
        refine pw_bipush C dX9_copyOut_96 (by decide) ?_
        refine pw_cVI C [_] mi_X9_refused mv_X9_refused ml_9_103 oM_0 rfl (c_X9_refused (by omega)) (by decide) rfl (Nat.le_of_ble_eq_true rfl) dX9_copyOut_98 ?_
        exact pw_iret C R dX9_copyOut_101 ⟨congrArg (fun q => some (iv q)) (by unfold xCo; rw [pif_t (show has (mv V) s from hs), pif_t hl0, pif_f hng]), _, rfl, (by unfold vCo; rw [vif_f (fun h => hng h.2.2), mvn_0]; exact EQ.rf 0 0 _), (by unfold fCo; rw [pif_t (show has (mv V) s from hs), hl0, msf_0]; rfl)⟩
    · refine pw_iload C dX9_copyOut_59 rfl ?_
      refine pw_if_eq (tgt := 90) C dX9_copyOut_61 rfl (by omega) (fun c61 => ?_) (fun c61 => ?_)
      · refine pw_iload C dX9_copyOut_90 rfl ?_
        refine pw_if_ne (tgt := 102) C dX9_copyOut_92 rfl (by omega) (fun c92 => ?_) (fun c92 => ?_)
        · have hn : (1 ≤ n ∧ n ≤ mv V 1 0 5) ∧ allP (ms V) k i n := by
            have h : (1 ≤ n ∧ n ≤ V 0 0 1) ∧ allP (ms V) k i t := Classical.byContradiction (fun h => by rw [b01_f h] at hg; omega)
            rw [show t = n by omega] at h
            exact h
          refine pw_iconst C dX9_copyOut_102 ?_
          refine pw_istore_8 C dX9_copyOut_103 (k := ?_)
          exact L_X9_copyOutB hI hs hl0 hl hn C R (n + 1).toNat 0 V (by omega) (by omega) ⟨by rw [vcp_0, vset_i], fun _ _ _ _ => rfl⟩ (by omega)
        · have hng : ¬ ((1 ≤ n ∧ n ≤ mv V 1 0 5) ∧ allP (ms V) k i n) := fun h => by
            have := b01_t (P := (1 ≤ n ∧ n ≤ V 0 0 1) ∧ allP (ms V) k i t) ⟨h.1, fun q a b => h.2 q a (by omega)⟩
            omega
          refine pw_aload_n C dX9_copyOut_95 rfl ?_
          refine pw_bipush C dX9_copyOut_96 (by decide) ?_
          refine pw_cVI C [_] mi_X9_refused mv_X9_refused ml_9_103 oM_0 rfl (c_X9_refused (by omega)) (by decide) rfl (Nat.le_of_ble_eq_true rfl) dX9_copyOut_98 ?_
          exact pw_iret C R dX9_copyOut_101 ⟨congrArg (fun q => some (iv q)) (by unfold xCo; rw [pif_t (show has (mv V) s from hs), pif_t hl0, pif_f hng]), _, rfl, (by unfold vCo; rw [vif_f (fun h => hng h.2.2), mvn_0]; exact EQ.rf 0 0 _), (by unfold fCo; rw [pif_t (show has (mv V) s from hs), hl0, msf_0]; rfl)⟩
      · have e37 : V 37 0 (60 * k + i + t) = ms V 7 k (i + t) := sheet_at V k (by omega) (by omega)
        refine pw_aload_n C dX9_copyOut_64 rfl ?_
        refine gf_9_79 C dX9_copyOut_65 ?_
        refine pw_bipush C dX9_copyOut_68 (by decide) ?_
        refine pw_iload_n C dX9_copyOut_70 rfl ?_
        refine pw_imul C dX9_copyOut_71 ?_
        refine pw_iload C dX9_copyOut_72 rfl ?_
        refine pw_iadd C dX9_copyOut_74 ?_
        refine pw_iload C dX9_copyOut_75 rfl ?_
        refine pw_iadd C dX9_copyOut_77 ?_
        refine pw_ialdV C aM_37 (by omega) (by omega) (by decide) dX9_copyOut_78 (fun r78 => ?_)
        refine pw_cSI C [_] mi_X9_isPrice ms_X9_isPrice ml_9_183 (c_X9_isPrice (by omega)) (by decide) rfl (Nat.le_of_ble_eq_true rfl) dX9_copyOut_79 ?_
        refine pw_istore_7 C dX9_copyOut_82 (k := ?_)
        refine pw_iinc_8 C dX9_copyOut_84 (k := ?_)
        refine pw_goto (tgt := 52) C dX9_copyOut_87 rfl ?_
        rw [e37]
        refine ih (t + 1) _ (by omega) (by omega) ?_ (by omega)
        have h : (1 ≤ n ∧ n ≤ V 0 0 1) ∧ allP (ms V) k i t := Classical.byContradiction (fun h => by rw [b01_f h] at hg; omega)
        refine b01_e ⟨fun q => ⟨h.1, fun y a b => ?_⟩, fun q => q.2 t t0 (by omega)⟩
        by_cases e : y = t
        · rw [e]; exact q
        · exact h.2 y a (by omega)
set_option maxRecDepth 100000 in
set_option maxHeartbeats 400000 in
theorem c_X9_copyOut {l : Launch} {S : SW} {M : Mem} {V : DM} {s k ln i n : Int}  (hs : InR s) (hk : InR k) (hln : InR ln) (hi : InR i) (hn : InR n) (hI : DayOk (mv V)) (hS : ShOk (ms V))  : PM l S yX9_copyOut cX9_copyOut 9 (some .int) 3 70 [rv S 3 0 0, iv s, iv k, iv ln, iv i, iv n] (mst M 3 V) (rR (iv (xCo (mv V) (ms V) s k ln i n)) M (vCo (mv V) (ms V) s k ln i n) (fl (ms V) (fCo (mv V) (ms V) s k ln i n))) := by
  refine PM.of (own := RX9) (by decide) rfl [some (rv S 3 0 0), some (iv s), some (iv k), some (iv ln), some (iv i), some (iv n), none, none, none] rfl rfl (Nat.le_of_ble_eq_true rfl) (fun X hXl C R => ?_)
  subst hXl
  obtain ⟨i1, i2, i3, i4, i5, i6, i7, i8⟩ := id hI
  have e5 : mv V 1 0 5 = V 0 0 1 := rfl
  have e6 : mv V 1 0 6 = V 0 0 2 := rfl
  have e7 : mv V 1 0 7 = V 0 0 8 := rfl
  have e8 : mv V 1 0 8 = V 0 0 9 := rfl
  have e84 : mv V 8 0 4 = V 0 0 15 := rfl
  refine pw_aload_n C dX9_copyOut_0 rfl ?_
  refine pw_iload_n C dX9_copyOut_1 rfl ?_
  refine pw_cVI C [_] mi_X9_noSort mv_X9_noSort ml_9_163 oM_0 rfl (c_X9_noSort (by omega)) (by decide) rfl (Nat.le_of_ble_eq_true rfl) dX9_copyOut_2 ?_
  refine pw_if_eq_b (tgt := 14) C dX9_copyOut_5 rfl (fun c5 => ?_) (fun c5 => ?_)
  · have hs9 : 0 ≤ s ∧ s < V 0 0 2 := by omega
    refine pw_aload_n C dX9_copyOut_14 rfl ?_
    refine pw_iload_n C dX9_copyOut_15 rfl ?_
    refine pw_iload_n C dX9_copyOut_16 rfl ?_
    refine pw_iload C dX9_copyOut_17 rfl ?_
    refine pw_iload C dX9_copyOut_19 rfl ?_
    refine pw_i2l C (by omega) dX9_copyOut_21 ?_
    refine pw_cVI C [_, _, _, _] mi_X9_barred mv_X9_barred ml_9_146 oM_0 rfl (c_X9_barred (by omega) (by omega) (by omega) (by omega) (by assumption) (by omega)) (by decide) rfl (Nat.le_of_ble_eq_true rfl) dX9_copyOut_22 ?_
    have hlr := look_r (ms V) k ln i n
    refine pw_istore_6 C dX9_copyOut_25 (k := ?_)
    refine pw_iload C dX9_copyOut_27 rfl ?_
    refine pw_if_ge (tgt := 35) C dX9_copyOut_29 rfl (by omega) (fun c29 => ?_) (fun c29 => ?_)
    · have hl0 : look (ms V) k ln i n = 0 := by omega
      have eb : bar V k ln i n = V := by unfold bar; rw [vif_t hl0]
      rw [eb]
      have hl := look_0 hS hl0
      refine pw_iload C dX9_copyOut_35 rfl ?_
      refine pw_i2l C (by omega) dX9_copyOut_37 ?_
      refine pw_lconst1 C dX9_copyOut_38 ?_
      refine pw_aload_n C dX9_copyOut_39 rfl ?_
      refine gv_9_119 C dX9_copyOut_40 (fun r40 => ?_)
      refine pw_i2l C (by omega) dX9_copyOut_43 ?_
      refine pw_cSI C [_, _, _] mi_X9_in ms_X9_in ml_9_87 (c_X9_in (by omega) (by omega) (by omega)) (by decide) rfl (Nat.le_of_ble_eq_true rfl) dX9_copyOut_44 ?_
      refine pw_istore_7 C dX9_copyOut_47 (k := ?_)
      refine pw_iconst C dX9_copyOut_49 ?_
      refine pw_istore_8 C dX9_copyOut_50 (k := ?_)
      refine L_X9_copyOutA hI hs9 hl0 hl hs C R (n + 1).toNat 0 _ (by omega) (by omega) (b01_e ⟨fun h => ⟨h, fun q a b => by omega⟩, fun h => h.1⟩) (by omega)
    · refine pw_iload C dX9_copyOut_32 rfl ?_
      exact pw_iret C R dX9_copyOut_34 ⟨congrArg (fun q => some (iv q)) (by unfold xCo; rw [pif_t (show has (mv V) s from hs9), pif_f (by omega)]), _, rfl, (by unfold vCo; rw [vif_f (fun h => by have := h.2.1; omega), bar_mv]; exact EQ.rf 0 0 _), (by unfold fCo; rw [pif_t (show has (mv V) s from hs9)]; exact bar_ms (by omega))⟩
  · refine pw_aload_n C dX9_copyOut_8 rfl ?_
    refine pw_iconst C dX9_copyOut_9 ?_
    refine pw_cVI C [_] mi_X9_refused mv_X9_refused ml_9_103 oM_0 rfl (c_X9_refused (by omega)) (by decide) rfl (Nat.le_of_ble_eq_true rfl) dX9_copyOut_10 ?_
    exact pw_iret C R dX9_copyOut_13 ⟨congrArg (fun q => some (iv q)) (by unfold xCo; rw [pif_f (show ¬ has (mv V) s from c5)]), _, rfl, (by unfold vCo; rw [vif_f (fun h => c5 h.1), mvn_0]; exact EQ.rf 0 0 _), (by unfold fCo; rw [pif_f (show ¬ has (mv V) s from c5), msf_0]; rfl)⟩
