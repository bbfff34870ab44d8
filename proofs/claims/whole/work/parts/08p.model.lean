set_option maxRecDepth 100000 in
set_option maxHeartbeats 400000 in
theorem L_X9_takeOffE {X : PX} {S : SW} {M : Mem} {V : DM} {w P H A : Int} {W : DM}  (hI : DayOk (mv V)) (hw : 0 ≤ w ∧ w ≤ 2) (hN : 0 < V 0 0 2) (hW : TkI V W) (hp : (P, H, A) = tof (mv V) (V 0 0 1)) (C : Cx X S RX9 cX9_takeOff 8 190) (R : CR X S (rN (xTake (mv V) w) M V (mv V)) (some .int)) :
    ∀ (n9 : Nat) (j : Int) (U : DM), (0 ≤ j) → (j ≤ 32) → (RsI V W j U) → 32 - j < n9 → PW X S (mst M 3 U) 178 [some (rv S 3 0 0), some (iv w), some (iv P), some (iv H), some (iv A), some (iv j), none, none] [] := by
  obtain ⟨i1, i2, i3, i4, i5, i6, i7, i8⟩ := id hI
  have e5 : mv V 1 0 5 = V 0 0 1 := rfl
  have e6 : mv V 1 0 6 = V 0 0 2 := rfl
  have e7 : mv V 1 0 7 = V 0 0 8 := rfl
  have e8 : mv V 1 0 8 = V 0 0 9 := rfl
  have e84 : mv V 8 0 4 = V 0 0 15 := rfl
  intro n9
  induction n9 with
  | zero => intro j U j0 j1 hU hn9; omega
  | succ n9 ih =>
    intro j U j0 j1 hU hn9
    refine pw_iload C dX9_takeOff_178 rfl ?_
    refine pw_bipush C dX9_takeOff_180 (by decide) ?_
    refine pw_icmp_ge (tgt := 205) C dX9_takeOff_182 rfl (by omega) (by omega) (fun c182 => ?_) (fun c182 => ?_)
    · refine pw_iload_n C dX9_takeOff_205 rfl ?_
      refine pw_if_ne (tgt := 213) C dX9_takeOff_206 rfl (by omega) (fun c206 => ?_) (fun c206 => ?_)
      · refine pw_iload_n C dX9_takeOff_213 rfl ?_
        refine pw_iconst C dX9_takeOff_214 ?_
        refine pw_icmp_ne (tgt := 222) C dX9_takeOff_215 rfl (by omega) (by omega) (fun c215 => ?_) (fun c215 => ?_)
        · refine pw_iload C dX9_takeOff_222 rfl ?_
          have e : EQ 0 0 (mv V) (mv U) := by
            refine EQ7.rs hI (fun k r i hk hl => ?_) (fun q a b => hU.2 q a (by omega))
            rw [mv_c7 hU.1 r i hk]
            exact hW.1 k r i hk hl
          refine pw_iret C R dX9_takeOff_224 ⟨congrArg (fun q => some (iv q)) ?_, _, rfl, e, fun k r i h => (hU.1 k r i (by omega)).trans (hW.2.1 k r i h)⟩
          unfold xTake sw3
          rw [pif_t hw, pif_t (show 0 < mv V 1 0 6 from hN), show mv V 1 0 5 = V 0 0 1 from rfl, ← hp]
          first
            | (rw [if_pos (by omega)]; done)
            | (rw [if_neg (by omega), if_pos (by omega)]; done)
            | (rw [if_neg (by omega), if_neg (by omega), if_pos (by omega)]; done)
        · refine pw_iload_n C dX9_takeOff_218 rfl ?_
          refine pw_goto (tgt := 224) C dX9_takeOff_219 rfl ?_
          have e : EQ 0 0 (mv V) (mv U) := by
            refine EQ7.rs hI (fun k r i hk hl => ?_) (fun q a b => hU.2 q a (by omega))
            rw [mv_c7 hU.1 r i hk]
            exact hW.1 k r i hk hl
          refine pw_iret C R dX9_takeOff_224 ⟨congrArg (fun q => some (iv q)) ?_, _, rfl, e, fun k r i h => (hU.1 k r i (by omega)).trans (hW.2.1 k r i h)⟩
          unfold xTake sw3
          rw [pif_t hw, pif_t (show 0 < mv V 1 0 6 from hN), show mv V 1 0 5 = V 0 0 1 from rfl, ← hp]
          first
            | (rw [if_pos (by omega)]; done)
            | (rw [if_neg (by omega), if_pos (by omega)]; done)
            | (rw [if_neg (by omega), if_neg (by omega), if_pos (by omega)]; done)
      · refine pw_iload_n C dX9_takeOff_209 rfl ?_
        refine pw_goto (tgt := 224) C dX9_takeOff_210 rfl ?_
        have e : EQ 0 0 (mv V) (mv U) := by
          refine EQ7.rs hI (fun k r i hk hl => ?_) (fun q a b => hU.2 q a (by omega))
          rw [mv_c7 hU.1 r i hk]
          exact hW.1 k r i hk hl
        refine pw_iret C R dX9_takeOff_224 ⟨congrArg (fun q => some (iv q)) ?_, _, rfl, e, fun k r i h => (hU.1 k r i (by omega)).trans (hW.2.1 k r i h)⟩
        unfold xTake sw3
        rw [pif_t hw, pif_t (show 0 < mv V 1 0 6 from hN), show mv V 1 0 5 = V 0 0 1 from rfl, ← hp]
        first
          | (rw [if_pos (by omega)]; done)
          | (rw [if_neg (by omega), if_pos (by omega)]; done)
          | (rw [if_neg (by omega), if_neg (by omega), if_pos (by omega)]; done)
    · refine pw_aload_n C dX9_takeOff_185 rfl ?_
      refine gf_9_22 C dX9_takeOff_186 ?_
      refine pw_iload C dX9_takeOff_189 rfl ?_
      refine pw_aload_n C dX9_takeOff_191 rfl ?_
      refine gf_9_61 C dX9_takeOff_192 ?_
      refine pw_iload C dX9_takeOff_195 rfl ?_
      refine pw_ialdV C aM_29 (by omega) (by omega) (by decide) dX9_takeOff_197 (fun r197 => ?_)
      have e29 : U 29 0 j = V 8 0 j := (hU.1 29 0 j (by omega)).trans (hW.2.2 j j0 (by omega))
      refine pw_iastV C aM_8 (by omega) (by omega) (by decide) (by omega) dX9_takeOff_198 ?_
      refine pw_iinc_5 C dX9_takeOff_199 (k := ?_)
      refine pw_goto (tgt := 178) C dX9_takeOff_202 rfl ?_
      refine ih (j + 1) _ (by omega) (by omega) ?_ (by omega)
      rw [e29]
      exact hU.s
set_option maxRecDepth 100000 in
set_option maxHeartbeats 400000 in
theorem L_X9_takeOffD {X : PX} {S : SW} {M : Mem} {V : DM} {w P H A t x : Int} {W : DM}  (hI : DayOk (mv V)) (hw : 0 ≤ w ∧ w ≤ 2) (hN : 0 < V 0 0 2) (hW : TkI V W) (t0 : 0 ≤ t) (t1 : t < V 0 0 1) (x0 : 1 ≤ x) (x1 : x ≤ 30) (K : ∀ U : DM, SoI V W t x 32 U → PW X S (mst M 3 U) 141 [some (rv S 3 0 0), some (iv w), some (iv P), some (iv H), some (iv A), some (iv t), some (iv x), none] []) (C : Cx X S RX9 cX9_takeOff 8 190) (R : CR X S (rN (xTake (mv V) w) M V (mv V)) (some .int)) :
    ∀ (n9 : Nat) (j : Int) (U : DM), (0 ≤ j) → (j ≤ 32) → (SoI V W t x j U) → 32 - j < n9 → PW X S (mst M 3 U) 87 [some (rv S 3 0 0), some (iv w), some (iv P), some (iv H), some (iv A), some (iv t), some (iv x), some (iv j)] [] := by
  obtain ⟨i1, i2, i3, i4, i5, i6, i7, i8⟩ := id hI
  have e5 : mv V 1 0 5 = V 0 0 1 := rfl
  have e6 : mv V 1 0 6 = V 0 0 2 := rfl
  have e7 : mv V 1 0 7 = V 0 0 8 := rfl
  have e8 : mv V 1 0 8 = V 0 0 9 := rfl
  have e84 : mv V 8 0 4 = V 0 0 15 := rfl
  intro n9
  induction n9 with
  | zero => intro j U j0 j1 hU hn9; omega
  | succ n9 ih =>
    intro j U j0 j1 hU hn9
    refine pw_iload C dX9_takeOff_87 rfl ?_
    refine pw_bipush C dX9_takeOff_89 (by decide) ?_
    refine pw_icmp_ge (tgt := 141) C dX9_takeOff_91 rfl (by omega) (by omega) (fun c91 => ?_) (fun c91 => ?_)
    · rw [show j = 32 by omega] at hU
      exact pw_fg 7 rfl (K U hU)
    · have e29 : U 29 0 j = V 8 0 j := (hU.1 29 0 j (by omega)).trans (hW.2.2 j j0 (by omega))
      have r9 := w32_R (V 8 0 j - x)
      refine pw_aload_n C dX9_takeOff_94 rfl ?_
      refine gf_9_22 C dX9_takeOff_95 ?_
      refine pw_iload C dX9_takeOff_98 rfl ?_
      refine pw_iload C dX9_takeOff_100 rfl ?_
      refine pw_bipush C dX9_takeOff_102 (by decide) ?_
      refine pw_irem C (by omega) (by omega) (by omega) (by omega) dX9_takeOff_104 ?_
      refine pw_iload C dX9_takeOff_105 rfl ?_
      refine pw_icmp_lt (tgt := 127) C dX9_takeOff_107 rfl (by omega) (by omega) (fun c107 => ?_) (fun c107 => ?_)
      · skip
        refine pw_aload_n C dX9_takeOff_127 rfl ?_
        refine gf_9_61 C dX9_takeOff_128 ?_
        refine pw_iload C dX9_takeOff_131 rfl ?_
        refine pw_ialdV C aM_29 (by omega) (by omega) (by decide) dX9_takeOff_133 (fun r133 => ?_)
        refine pw_iastV C aM_8 (by omega) (by omega) (by decide) (by first | omega | (split <;> omega)) dX9_takeOff_134 ?_
        refine pw_iinc_7 C dX9_takeOff_135 (k := ?_)
        refine pw_goto (tgt := 87) C dX9_takeOff_138 rfl ?_
        first
          | (refine ih (j + 1) _ (by omega) (by omega) (hU.s ?_) (by omega)
             unfold offM
             rw [if_neg (show ¬ (j % 8 < t) by omega)])
          | (refine ih (j + 1) _ (by omega) (by omega) (hU.s ?_) (by omega)
             unfold offM
             rw [if_pos (show j % 8 < t by omega)]
             exact e29)
      · refine pw_iconst C dX9_takeOff_110 ?_
        refine pw_aload_n C dX9_takeOff_111 rfl ?_
        refine gf_9_61 C dX9_takeOff_112 ?_
        refine pw_iload C dX9_takeOff_115 rfl ?_
        refine pw_ialdV C aM_29 (by omega) (by omega) (by decide) dX9_takeOff_117 (fun r117 => ?_)
        refine pw_iload C dX9_takeOff_118 rfl ?_
        rw [e29]
        refine pw_isub C dX9_takeOff_120 ?_
        refine pw_w ?_
        refine pw_cSI C [_, _] mi_X9_greater ms_X9_greater ml_9_166 (c_X9_greater (by omega) (by omega)) (by decide) rfl (Nat.le_of_ble_eq_true rfl) dX9_takeOff_121 ?_
        refine pw_goto (tgt := 134) C dX9_takeOff_124 rfl ?_
        refine pw_iastV C aM_8 (by omega) (by omega) (by decide) (by first | omega | (split <;> omega)) dX9_takeOff_134 ?_
        refine pw_iinc_7 C dX9_takeOff_135 (k := ?_)
        refine pw_goto (tgt := 87) C dX9_takeOff_138 rfl ?_
        first
          | (refine ih (j + 1) _ (by omega) (by omega) (hU.s ?_) (by omega)
             unfold offM
             rw [if_neg (show ¬ (j % 8 < t) by omega)])
          | (refine ih (j + 1) _ (by omega) (by omega) (hU.s ?_) (by omega)
             unfold offM
             rw [if_pos (show j % 8 < t by omega)]
             exact e29)
set_option maxRecDepth 100000 in
set_option maxHeartbeats 400000 in
theorem L_X9_takeOffC {X : PX} {S : SW} {M : Mem} {V : DM} {w t : Int} {st0 : Int × Int × Int}  (hI : DayOk (mv V)) (hw : 0 ≤ w ∧ w ≤ 2) (hN : 0 < V 0 0 2) (hwR : InR w) (t0 : 0 ≤ t) (t1 : t < V 0 0 1) (K : ∀ (P H A : Int) (W : DM), TkI V W → (-324 ≤ P ∧ P ≤ 4884) → (P, H, A) = tofX (mv V) t st0 30 → PW X S (mst M 3 W) 169 [some (rv S 3 0 0), some (iv w), some (iv P), some (iv H), some (iv A), some (iv t), none, none] []) (C : Cx X S RX9 cX9_takeOff 8 190) (R : CR X S (rN (xTake (mv V) w) M V (mv V)) (some .int)) :
    ∀ (n9 : Nat) (x P H A : Int) (W : DM), (1 ≤ x) → (x ≤ 31) → (TkI V W) → (-324 ≤ P ∧ P ≤ 4884) → ((P, H, A) = tofX (mv V) t st0 (x - 1).toNat) → 32 - x < n9 → PW X S (mst M 3 W) 77 [some (rv S 3 0 0), some (iv w), some (iv P), some (iv H), some (iv A), some (iv t), some (iv x), none] [] := by
  obtain ⟨i1, i2, i3, i4, i5, i6, i7, i8⟩ := id hI
  have e5 : mv V 1 0 5 = V 0 0 1 := rfl
  have e6 : mv V 1 0 6 = V 0 0 2 := rfl
  have e7 : mv V 1 0 7 = V 0 0 8 := rfl
  have e8 : mv V 1 0 8 = V 0 0 9 := rfl
  have e84 : mv V 8 0 4 = V 0 0 15 := rfl
  intro n9
  induction n9 with
  | zero => intro x P H A W x0 x1 hW hPr hp hn9; omega
  | succ n9 ih =>
    intro x P H A W x0 x1 hW hPr hp hn9
    refine pw_iload C dX9_takeOff_77 rfl ?_
    refine pw_bipush C dX9_takeOff_79 (by decide) ?_
    refine pw_icmp_gt (tgt := 169) C dX9_takeOff_81 rfl (by omega) (by omega) (fun c81 => ?_) (fun c81 => ?_)
    · rw [show (x - 1).toNat = 30 by omega] at hp
      exact pw_fg 6 rfl (K P H A W hW hPr hp)
    · refine pw_iconst C dX9_takeOff_84 ?_
      refine pw_istore_7 C dX9_takeOff_85 (k := ?_)
      refine L_X9_takeOffD hI hw hN hW t0 t1 x0 (by omega) (fun U hU => ?_) C R 33 0 W (by omega) (by omega) ⟨fun k r i _ => rfl, fun j a b => by omega⟩ (by omega)
      have hE := hU.e hI (by omega) (by omega) hW.1
      have hIu : DayOk (offV (mv V) t x) := offV_ok hI (show 0 ≤ x by omega)
      have hI3 := hIu.eq hE
      refine pw_aload_n C dX9_takeOff_141 rfl ?_
      refine pw_cVQI C [] mi_X9_profit mv_X9_profit ml_9_236 oM_0 rfl (c_X9_profit hI3) (by decide) rfl (Nat.le_of_ble_eq_true rfl) dX9_takeOff_142 ?_
      rintro x9 N9 ⟨hx9, U2, rfl, hU2, kU2⟩
      rw [prf_e (g := 0) hIu hE (Or.inl ⟨rfl, rfl⟩)] at hx9
      have hqr := prf_r hIu (Or.inl rfl)
      have hW2 : TkI V U2 := ⟨fun k r i hk hl => by
        have q := (hE.tr hU2).e7 k r i hk (by rw [offV_n _ _ _ _ _ (by omega), offV_n _ _ _ _ _ (by omega), offV_n _ _ _ _ _ (by omega)]; exact hl)
        rw [q, offV_n _ _ _ _ _ hk], fun k r i h => (kU2.p3 k r i h).trans ((hU.1 k r i (by omega)).trans (hW.2.1 k r i h)), fun j a b => (kU2 29 0 j (by omega)).trans ((hU.1 29 0 j (by omega)).trans (hW.2.2 j a b))⟩
      have ea : tofX (mv V) t st0 x.toNat = if (tofX (mv V) t st0 (x - 1).toNat).1 < prf (offV (mv V) t x) then (prf (offV (mv V) t x), t, x) else tofX (mv V) t st0 (x - 1).toNat := by
        rw [show x.toNat = (x - 1).toNat + 1 by omega]
        show (if (tofX (mv V) t st0 (x - 1).toNat).1 < prf (offV (mv V) t (((x - 1).toNat : Int) + 1)) then (prf (offV (mv V) t (((x - 1).toNat : Int) + 1)), t, ((x - 1).toNat : Int) + 1) else _) = _
        rw [show ((x - 1).toNat : Int) + 1 = x by omega]
      have ev : (x + 1 - 1).toNat = x.toNat := by omega
      subst hx9
      refine pw_istore_7 C dX9_takeOff_145 (k := ?_)
      refine pw_iload C dX9_takeOff_147 rfl ?_
      refine pw_iload_n C dX9_takeOff_149 rfl ?_
      refine pw_icmp_le (tgt := 163) C dX9_takeOff_150 rfl (by omega) (by omega) (fun c150 => ?_) (fun c150 => ?_)
      · refine pw_iinc_6 C dX9_takeOff_163 (k := ?_)
        refine pw_goto (tgt := 77) C dX9_takeOff_166 rfl ?_
        first
          | (refine pw_fg 7 rfl (ih (x + 1) _ t x U2 (by omega) (by omega) hW2 (by omega) ?_ (by omega))
             rw [ev, ea, ← hp, if_pos (show P < _ by omega)])
          | (refine pw_fg 7 rfl (ih (x + 1) P H A U2 (by omega) (by omega) hW2 hPr ?_ (by omega))
             rw [ev, ea, ← hp, if_neg (show ¬ (P < _) by omega)])
      · refine pw_iload C dX9_takeOff_153 rfl ?_
        refine pw_istore_2 C dX9_takeOff_155 (k := ?_)
        refine pw_iload C dX9_takeOff_156 rfl ?_
        refine pw_istore_3 C dX9_takeOff_158 (k := ?_)
        refine pw_iload C dX9_takeOff_159 rfl ?_
        refine pw_istore_4 C dX9_takeOff_161 (k := ?_)
        refine pw_iinc_6 C dX9_takeOff_163 (k := ?_)
        refine pw_goto (tgt := 77) C dX9_takeOff_166 rfl ?_
        first
          | (refine pw_fg 7 rfl (ih (x + 1) _ t x U2 (by omega) (by omega) hW2 (by omega) ?_ (by omega))
             rw [ev, ea, ← hp, if_pos (show P < _ by omega)])
          | (refine pw_fg 7 rfl (ih (x + 1) P H A U2 (by omega) (by omega) hW2 hPr ?_ (by omega))
             rw [ev, ea, ← hp, if_neg (show ¬ (P < _) by omega)])
set_option maxRecDepth 100000 in
set_option maxHeartbeats 400000 in
theorem L_X9_takeOffB {X : PX} {S : SW} {M : Mem} {V : DM} {w : Int}  (hI : DayOk (mv V)) (hw : 0 ≤ w ∧ w ≤ 2) (hN : 0 < V 0 0 2) (hwR : InR w) (C : Cx X S RX9 cX9_takeOff 8 190) (R : CR X S (rN (xTake (mv V) w) M V (mv V)) (some .int)) :
    ∀ (n9 : Nat) (t P H A : Int) (W : DM), (0 ≤ t) → (t ≤ V 0 0 1) → (TkI V W) → (-324 ≤ P ∧ P ≤ 4884) → ((P, H, A) = tof (mv V) t) → V 0 0 1 - t < n9 → PW X S (mst M 3 W) 65 [some (rv S 3 0 0), some (iv w), some (iv P), some (iv H), some (iv A), some (iv t), none, none] [] := by
  obtain ⟨i1, i2, i3, i4, i5, i6, i7, i8⟩ := id hI
  have e5 : mv V 1 0 5 = V 0 0 1 := rfl
  have e6 : mv V 1 0 6 = V 0 0 2 := rfl
  have e7 : mv V 1 0 7 = V 0 0 8 := rfl
  have e8 : mv V 1 0 8 = V 0 0 9 := rfl
  have e84 : mv V 8 0 4 = V 0 0 15 := rfl
  intro n9
  induction n9 with
  | zero => intro t P H A W t0 t1 hW hPr hp hn9; omega
  | succ n9 ih =>
    intro t P H A W t0 t1 hW hPr hp hn9
    have w1 : W 0 0 1 = V 0 0 1 := hW.1 1 0 5 (by omega) (LC.a (by omega) (by omega))
    refine pw_iload C dX9_takeOff_65 rfl ?_
    refine pw_aload_n C dX9_takeOff_67 rfl ?_
    refine gv_9_119 C dX9_takeOff_68 (fun r68 => ?_)
    refine pw_icmp_ge (tgt := 175) C dX9_takeOff_71 rfl (by omega) (by omega) (fun c71 => ?_) (fun c71 => ?_)
    · refine pw_iconst C dX9_takeOff_175 ?_
      refine pw_istore_5 C dX9_takeOff_176 (k := ?_)
      rw [show t = V 0 0 1 by omega] at hp
      exact L_X9_takeOffE hI hw hN hW hp C R 33 0 W (by omega) (by omega) ⟨fun k r i _ => rfl, fun j a b => by omega⟩ (by omega)
    · refine pw_iconst C dX9_takeOff_74 ?_
      refine pw_istore_6 C dX9_takeOff_75 (k := ?_)
      refine L_X9_takeOffC hI hw hN hwR t0 (by omega) (st0 := tof (mv V) t) (fun P2 H2 A2 W2 hW2 hPr2 hp2 => ?_) C R 32 1 P H A W (by omega) (by omega) hW hPr hp (by omega)
      refine pw_iinc_5 C dX9_takeOff_169 (k := ?_)
      refine pw_goto (tgt := 65) C dX9_takeOff_172 rfl ?_
      refine ih (t + 1) P2 H2 A2 W2 (by omega) (by omega) hW2 hPr2 ?_ (by omega)
      unfold tof
      rw [iterI_s _ _ t0]
      exact hp2
set_option maxRecDepth 100000 in
set_option maxHeartbeats 400000 in
theorem L_X9_takeOffA {X : PX} {S : SW} {M : Mem} {V : DM} {w : Int}  (hI : DayOk (mv V)) (hw : 0 ≤ w ∧ w ≤ 2) (hN : 0 < V 0 0 2) (hwR : InR w) (C : Cx X S RX9 cX9_takeOff 8 190) (R : CR X S (rN (xTake (mv V) w) M V (mv V)) (some .int)) :
    ∀ (n9 : Nat) (j : Int) (W : DM), (0 ≤ j) → (j ≤ 32) → (SwI V j W) → 32 - j < n9 → PW X S (mst M 3 W) 27 [some (rv S 3 0 0), some (iv w), some (iv j), none, none, none, none, none] [] := by
  obtain ⟨i1, i2, i3, i4, i5, i6, i7, i8⟩ := id hI
  have e5 : mv V 1 0 5 = V 0 0 1 := rfl
  have e6 : mv V 1 0 6 = V 0 0 2 := rfl
  have e7 : mv V 1 0 7 = V 0 0 8 := rfl
  have e8 : mv V 1 0 8 = V 0 0 9 := rfl
  have e84 : mv V 8 0 4 = V 0 0 15 := rfl
  intro n9
  induction n9 with
  | zero => intro j W j0 j1 hW hn9; omega
  | succ n9 ih =>
    intro j W j0 j1 hW hn9
    refine pw_iload_n C dX9_takeOff_27 rfl ?_
    refine pw_bipush C dX9_takeOff_28 (by decide) ?_
    refine pw_icmp_ge (tgt := 51) C dX9_takeOff_30 rfl (by omega) (by omega) (fun c30 => ?_) (fun c30 => ?_)
    · rw [show j = 32 by omega] at hW
      have em : mv W = mv V := mv_c (fun k r i h => hW.1 k r i (by omega))
      have hIW : DayOk (mv W) := by rw [em]; exact hI
      refine pw_aload_n C dX9_takeOff_51 rfl ?_
      refine pw_cVQI C [] mi_X9_profit mv_X9_profit ml_9_236 oM_0 rfl (c_X9_profit hIW) (by decide) rfl (Nat.le_of_ble_eq_true rfl) dX9_takeOff_52 ?_
      rintro x9 N9 ⟨hx9, U2, rfl, hU2, kU2⟩
      rw [em] at hx9 hU2
      have hqr := prf_r hI (Or.inl rfl)
      have hW2 : TkI V U2 := ⟨fun k r i hk hl => hU2 k r i hl, fun k r i h => (kU2.p3 k r i h).trans (hW.1 k r i (by omega)), fun j a b => (kU2 29 0 j (by omega)).trans (hW.2 j a b)⟩
      subst hx9
      refine pw_istore_2 C dX9_takeOff_55 (k := ?_)
      refine pw_bipush C dX9_takeOff_56 (by decide) ?_
      refine pw_istore_3 C dX9_takeOff_58 (k := ?_)
      refine pw_iconst C dX9_takeOff_59 ?_
      refine pw_istore_4 C dX9_takeOff_60 (k := ?_)
      refine pw_iconst C dX9_takeOff_62 ?_
      refine pw_istore_5 C dX9_takeOff_63 (k := ?_)
      exact L_X9_takeOffB hI hw hN hwR C R (V 0 0 1 + 1).toNat 0 _ _ _ U2 (by omega) (by omega) hW2 hqr rfl (by omega)
    · refine pw_aload_n C dX9_takeOff_33 rfl ?_
      refine gf_9_61 C dX9_takeOff_34 ?_
      refine pw_iload_n C dX9_takeOff_37 rfl ?_
      refine pw_aload_n C dX9_takeOff_38 rfl ?_
      refine gf_9_22 C dX9_takeOff_39 ?_
      refine pw_iload_n C dX9_takeOff_42 rfl ?_
      refine pw_ialdV C aM_8 (by omega) (by omega) (by decide) dX9_takeOff_43 (fun r43 => ?_)
      have e8 : W 8 0 j = V 8 0 j := hW.1 8 0 j (by omega)
      refine pw_iastV C aM_29 (by omega) (by omega) (by decide) (by omega) dX9_takeOff_44 ?_
      refine pw_iinc_2 C dX9_takeOff_45 (k := ?_)
      refine pw_goto (tgt := 27) C dX9_takeOff_48 rfl ?_
      refine ih (j + 1) _ (by omega) (by omega) ?_ (by omega)
      rw [e8]
      exact hW.s
set_option maxRecDepth 100000 in
set_option maxHeartbeats 400000 in
theorem c_X9_takeOff {l : Launch} {S : SW} {M : Mem} {V : DM} {w : Int}  (hw : InR w) (hI : DayOk (mv V))  : PM l S yX9_takeOff cX9_takeOff 8 (some .int) 8 190 [rv S 3 0 0, iv w] (mst M 3 V) (rN (xTake (mv V) w) M V (mv V)) := by
  refine PM.of (own := RX9) (by decide) rfl [some (rv S 3 0 0), some (iv w), none, none, none, none, none, none] rfl rfl (Nat.le_of_ble_eq_true rfl) (fun X hXl C R => ?_)
  subst hXl
  obtain ⟨i1, i2, i3, i4, i5, i6, i7, i8⟩ := id hI
  have e5 : mv V 1 0 5 = V 0 0 1 := rfl
  have e6 : mv V 1 0 6 = V 0 0 2 := rfl
  have e7 : mv V 1 0 7 = V 0 0 8 := rfl
  have e8 : mv V 1 0 8 = V 0 0 9 := rfl
  have e84 : mv V 8 0 4 = V 0 0 15 := rfl
  refine pw_iload_n C dX9_takeOff_0 rfl ?_
  refine pw_i2l C (by omega) dX9_takeOff_1 ?_
  refine pw_lconst0 C dX9_takeOff_2 ?_
  refine pw_ldc2 C (n := 2) (inT4 122 rfl rfl) (by decide) dX9_takeOff_3 ?_
  refine pw_cSI C [_, _, _] mi_X9_in ms_X9_in ml_9_87 (c_X9_in (by omega) (by omega) (by omega)) (by decide) rfl (Nat.le_of_ble_eq_true rfl) dX9_takeOff_6 ?_
  refine pw_if_ne_b (tgt := 15) C dX9_takeOff_9 rfl (fun c9 => ?_) (fun c9 => ?_)
  · refine pw_aload_n C dX9_takeOff_15 rfl ?_
    refine gv_9_116 C dX9_takeOff_16 (fun r16 => ?_)
    refine pw_if_ne (tgt := 25) C dX9_takeOff_19 rfl (by omega) (fun c19 => ?_) (fun c19 => ?_)
    · refine pw_iconst C dX9_takeOff_25 ?_
      refine pw_istore_2 C dX9_takeOff_26 (k := ?_)
      exact L_X9_takeOffA hI (by omega) (by omega) hw C R 33 0 V (by omega) (by omega) ⟨fun k r i _ => rfl, fun j a b => by omega⟩ (by omega)
    · refine pw_bipush C dX9_takeOff_22 (by decide) ?_
      exact pw_iret C R dX9_takeOff_24 ⟨(congrArg (fun q => some (iv q)) (by unfold xTake; (try unfold has at *); (try unfold place at *); (try unfold hasB at *); (try unfold sw4); (try unfold sw3); (repeat (first | rw [pif_t (by first | omega | assumption)] | rw [pif_f (by first | omega | assumption)])); all_goals (first | rfl | omega | ((repeat' split) <;> first | rfl | omega)))), _, rfl, EQ.rf 0 0 _, P3.rf _⟩
  · refine pw_bipush C dX9_takeOff_12 (by decide) ?_
    exact pw_iret C R dX9_takeOff_14 ⟨(congrArg (fun q => some (iv q)) (by unfold xTake; (try unfold has at *); (try unfold place at *); (try unfold hasB at *); (try unfold sw4); (try unfold sw3); (repeat (first | rw [pif_t (by first | omega | assumption)] | rw [pif_f (by first | omega | assumption)])); all_goals (first | rfl | omega | ((repeat' split) <;> first | rfl | omega)))), _, rfl, EQ.rf 0 0 _, P3.rf _⟩
