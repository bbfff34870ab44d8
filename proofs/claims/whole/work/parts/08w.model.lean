def GmI (V : DM) (k i n : Int) (U : DM) : Prop := (∀ (k2 : Nat) (r j : Int), k2 ≠ 31 → k2 ≠ 32 → U k2 r j = V k2 r j) ∧ ∀ o, 0 ≤ o → o < n → U 31 0 o = sl (ms V) k i o ∧ U 32 0 o = by9 (ms V) k i o
def gmP (V : DM) (k i n : Int) : Prop := ∀ o, 0 ≤ o → o < n → (-99 ≤ sl (ms V) k i o ∧ sl (ms V) k i o ≤ 99) ∧ (-99 ≤ by9 (ms V) k i o ∧ by9 (ms V) k i o ≤ 99)
theorem gmP_4 {V : DM} {k i : Int} : gmP V k i 4 ↔ gameP (ms V 7 k) i := by
  constructor
  · intro h j j0 j1
    rcases (show j % 2 = 0 ∨ j % 2 = 1 by omega) with e | e
    · have q := (h (j / 2) (by omega) (by omega)).1
      unfold sl at q
      rw [show i + 2 * (j / 2) = i + j by omega] at q
      exact q
    · have q := (h (j / 2) (by omega) (by omega)).2
      unfold by9 at q
      rw [show i + 2 * (j / 2) + 1 = i + j by omega] at q
      exact q
  · intro h o o0 o1
    have a := h (2 * o) (by omega) (by omega)
    have b := h (2 * o + 1) (by omega) (by omega)
    rw [show i + (2 * o + 1) = i + 2 * o + 1 by omega] at b
    exact ⟨a, b⟩
theorem gmP_s {V : DM} {k i n : Int} (h0 : 0 ≤ n) : gmP V k i (n + 1) ↔ gmP V k i n ∧ (-99 ≤ sl (ms V) k i n ∧ sl (ms V) k i n ≤ 99) ∧ (-99 ≤ by9 (ms V) k i n ∧ by9 (ms V) k i n ≤ 99) := by
  constructor
  · intro h
    exact ⟨fun o a b => h o a (by omega), h n h0 (by omega)⟩
  · rintro ⟨h1, h2⟩ o a b
    by_cases e : o = n
    · rw [e]; exact h2
    · exact h1 o a (by omega)
theorem GmI.s {V U : DM} {k i n a b : Int} (h : GmI V k i n U) (ha : a = sl (ms V) k i n) (hb : b = by9 (ms V) k i n) : GmI V k i (n + 1) (vup (vup U 31 0 n a) 32 0 n b) := by
  refine ⟨fun k2 r j x y => by rw [vup_k _ _ _ _ y, vup_k _ _ _ _ x]; exact h.1 k2 r j x y, fun o x y => ?_⟩
  rw [vup_k _ _ _ _ (show (31 : Nat) ≠ 32 by omega)]
  by_cases e : o = n
  · rw [e, vup_v, vup_v]; exact ⟨ha, hb⟩
  · rw [vup_j _ _ _ _ e, vup_j _ _ _ _ e, vup_k _ _ _ _ (show (32 : Nat) ≠ 31 by omega)]
    exact h.2 o x (by omega)
set_option maxRecDepth 100000 in
set_option maxHeartbeats 400000 in
theorem L_X9_takesGame {X : PX} {S : SW} {M : Mem} {V : DM} {k i fr : Int}  (k0 : 0 ≤ k) (k1 : k < 4) (i0 : 0 ≤ i) (i1 : i + 8 ≤ 60) (hfr : fr = 60 * k + i) (C : Cx X S RX9 cX9_takesGame 1 25) (R : CR X S (rIQ (fun x N => ∃ U, N = mst M 3 U ∧ GmI V k i 4 U ∧ x = b01 (gameP (ms V 7 k) i))) (some .boolean)) :
    ∀ (n9 : Nat) (g x : Int) (W : DM), (0 ≤ x) → (x ≤ 4) → (GmI V k i x W) → (g = b01 (gmP V k i x)) → 4 - x < n9 → PW X S (mst M 3 W) 4 [some (rv S 3 0 0), some (iv fr), some (iv g), some (iv x)] [] := by
  intro n9
  induction n9 with
  | zero => intro g x W x0 x1 hW hg hn9; omega
  | succ n9 ih =>
    intro g x W x0 x1 hW hg hn9
    refine pw_iload_n C dX9_takesGame_4 rfl ?_
    refine pw_iconst C dX9_takesGame_5 ?_
    refine pw_icmp_ge (tgt := 97) C dX9_takesGame_6 rfl (by omega) (by omega) (fun c6 => ?_) (fun c6 => ?_)
    · refine pw_iload_n C dX9_takesGame_97 rfl ?_
      rw [show x = 4 by omega] at hW hg
      have hb4 := b01_r (gmP V k i 4)
      refine pw_zret C R dX9_takesGame_98 (by omega) ⟨_, rfl, _, rfl, hW, ?_⟩
      rw [hg]
      exact b01_e gmP_4
    · have a9 : W 37 0 (fr + 2 * x) = sl (ms V) k i x := by
        rw [hW.1 37 0 _ (by omega) (by omega), hfr]
        unfold sl
        rw [ms_7 V k (by omega) (by omega)]
        congr 1
        omega
      have b9 : W 37 0 (fr + 2 * x + 1) = by9 (ms V) k i x := by
        rw [hW.1 37 0 _ (by omega) (by omega), hfr]
        unfold by9
        rw [ms_7 V k (by omega) (by omega)]
        congr 1
        omega
      have hs := gmP_s (V := V) (k := k) (i := i) x0
      have hbr := b01_r (gmP V k i x)
      refine pw_aload_n C dX9_takesGame_9 rfl ?_
      refine gf_9_67 C dX9_takesGame_10 ?_
      refine pw_iload_n C dX9_takesGame_13 rfl ?_
      refine pw_aload_n C dX9_takesGame_14 rfl ?_
      refine gf_9_79 C dX9_takesGame_15 ?_
      refine pw_iload_n C dX9_takesGame_18 rfl ?_
      refine pw_iconst C dX9_takesGame_19 ?_
      refine pw_iload_n C dX9_takesGame_20 rfl ?_
      refine pw_imul C dX9_takesGame_21 ?_
      refine pw_iadd C dX9_takesGame_22 ?_
      refine pw_ialdV C aM_37 (by omega) (by omega) (by decide) dX9_takesGame_23 (fun r23 => ?_)
      rw [a9]
      have r99 : InR (sl (ms V) k i x) := by rw [← a9]; assumption
      refine pw_iastV C aM_31 (by omega) (by omega) (by decide) (by omega) dX9_takesGame_24 ?_
      refine pw_aload_n C dX9_takesGame_25 rfl ?_
      refine gf_9_70 C dX9_takesGame_26 ?_
      refine pw_iload_n C dX9_takesGame_29 rfl ?_
      refine pw_aload_n C dX9_takesGame_30 rfl ?_
      refine gf_9_79 C dX9_takesGame_31 ?_
      refine pw_iload_n C dX9_takesGame_34 rfl ?_
      refine pw_iconst C dX9_takesGame_35 ?_
      refine pw_iload_n C dX9_takesGame_36 rfl ?_
      refine pw_imul C dX9_takesGame_37 ?_
      refine pw_iadd C dX9_takesGame_38 ?_
      refine pw_iconst C dX9_takesGame_39 ?_
      refine pw_iadd C dX9_takesGame_40 ?_
      refine pw_ialdV C aM_37 (by omega) (by omega) (by decide) dX9_takesGame_41 (fun r41 => ?_)
      rw [show vup W 31 0 x (sl (ms V) k i x) 37 0 (fr + 2 * x + 1) = by9 (ms V) k i x from b9]
      have r98 : InR (by9 (ms V) k i x) := by rw [← b9]; assumption
      refine pw_iastV C aM_32 (by omega) (by omega) (by decide) (by omega) dX9_takesGame_42 ?_
      refine pw_iload_n C dX9_takesGame_43 rfl ?_
      refine pw_if_eq (tgt := 89) C dX9_takesGame_44 rfl (by omega) (fun c44 => ?_) (fun c44 => ?_)
      · refine pw_iconst C dX9_takesGame_89 ?_
        refine pw_istore_2 C dX9_takesGame_90 (k := ?_)
        refine pw_iinc_3 C dX9_takesGame_91 (k := ?_)
        refine pw_goto (tgt := 4) C dX9_takesGame_94 rfl ?_
        first
          | exact ih 1 (x + 1) _ (by omega) (by omega) (hW.s rfl rfl) (b01_t (hs.mpr ⟨Classical.byContradiction (fun h => by rw [b01_f h] at hg; omega), by omega, by omega⟩)).symm (by omega)
          | exact ih 0 (x + 1) _ (by omega) (by omega) (hW.s rfl rfl) (b01_f (fun h => by have h2 := hs.mp h; have h3 := b01_t h2.1; omega)).symm (by omega)
      · refine pw_aload_n C dX9_takesGame_47 rfl ?_
        refine gf_9_67 C dX9_takesGame_48 ?_
        refine pw_iload_n C dX9_takesGame_51 rfl ?_
        refine pw_ialdV C aM_31 (by omega) (by omega) (by decide) dX9_takesGame_52 (fun r52 => ?_)
        rw [vup_k _ _ _ _ (show (31 : Nat) ≠ 32 by omega), vup_v]
        refine pw_i2l C (by omega) dX9_takesGame_53 ?_
        refine pw_ldc2 C (n := -99) (inT5 112 rfl rfl) (by decide) dX9_takesGame_54 ?_
        refine pw_ldc2 C (n := 99) (inT5 81 rfl rfl) (by decide) dX9_takesGame_57 ?_
        refine pw_cSI C [_, _, _] mi_X9_in ms_X9_in ml_9_87 (c_X9_in (by omega) (by omega) (by omega)) (by decide) rfl (Nat.le_of_ble_eq_true rfl) dX9_takesGame_60 ?_
        refine pw_if_eq_b (tgt := 89) C dX9_takesGame_63 rfl (fun c63 => ?_) (fun c63 => ?_)
        · refine pw_iconst C dX9_takesGame_89 ?_
          refine pw_istore_2 C dX9_takesGame_90 (k := ?_)
          refine pw_iinc_3 C dX9_takesGame_91 (k := ?_)
          refine pw_goto (tgt := 4) C dX9_takesGame_94 rfl ?_
          first
            | exact ih 1 (x + 1) _ (by omega) (by omega) (hW.s rfl rfl) (b01_t (hs.mpr ⟨Classical.byContradiction (fun h => by rw [b01_f h] at hg; omega), by omega, by omega⟩)).symm (by omega)
            | exact ih 0 (x + 1) _ (by omega) (by omega) (hW.s rfl rfl) (b01_f (fun h => by have h2 := hs.mp h; have h3 := b01_t h2.1; omega)).symm (by omega)
        · refine pw_aload_n C dX9_takesGame_66 rfl ?_
          refine gf_9_70 C dX9_takesGame_67 ?_
          refine pw_iload_n C dX9_takesGame_70 rfl ?_
          refine pw_ialdV C aM_32 (by omega) (by omega) (by decide) dX9_takesGame_71 (fun r71 => ?_)
          rw [vup_v]
          refine pw_i2l C (by omega) dX9_takesGame_72 ?_
          refine pw_ldc2 C (n := -99) (inT5 112 rfl rfl) (by decide) dX9_takesGame_73 ?_
          refine pw_ldc2 C (n := 99) (inT5 81 rfl rfl) (by decide) dX9_takesGame_76 ?_
          refine pw_cSI C [_, _, _] mi_X9_in ms_X9_in ml_9_87 (c_X9_in (by omega) (by omega) (by omega)) (by decide) rfl (Nat.le_of_ble_eq_true rfl) dX9_takesGame_79 ?_
          refine pw_if_eq_b (tgt := 89) C dX9_takesGame_82 rfl (fun c82 => ?_) (fun c82 => ?_)
          · refine pw_iconst C dX9_takesGame_89 ?_
            refine pw_istore_2 C dX9_takesGame_90 (k := ?_)
            refine pw_iinc_3 C dX9_takesGame_91 (k := ?_)
            refine pw_goto (tgt := 4) C dX9_takesGame_94 rfl ?_
            first
              | exact ih 1 (x + 1) _ (by omega) (by omega) (hW.s rfl rfl) (b01_t (hs.mpr ⟨Classical.byContradiction (fun h => by rw [b01_f h] at hg; omega), by omega, by omega⟩)).symm (by omega)
              | exact ih 0 (x + 1) _ (by omega) (by omega) (hW.s rfl rfl) (b01_f (fun h => by have h2 := hs.mp h; have h3 := b01_t h2.1; omega)).symm (by omega)
          · refine pw_iconst C dX9_takesGame_85 ?_
            refine pw_goto (tgt := 90) C dX9_takesGame_86 rfl ?_
            refine pw_istore_2 C dX9_takesGame_90 (k := ?_)
            refine pw_iinc_3 C dX9_takesGame_91 (k := ?_)
            refine pw_goto (tgt := 4) C dX9_takesGame_94 rfl ?_
            first
              | exact ih 1 (x + 1) _ (by omega) (by omega) (hW.s rfl rfl) (b01_t (hs.mpr ⟨Classical.byContradiction (fun h => by rw [b01_f h] at hg; omega), by omega, by omega⟩)).symm (by omega)
              | exact ih 0 (x + 1) _ (by omega) (by omega) (hW.s rfl rfl) (b01_f (fun h => by have h2 := hs.mp h; have h3 := b01_t h2.1; omega)).symm (by omega)
set_option maxRecDepth 100000 in
set_option maxHeartbeats 400000 in
theorem c_X9_takesGame {l : Launch} {S : SW} {M : Mem} {V : DM} {fr : Int} {k i : Int}  (hfr : InR fr) (k0 : 0 ≤ k) (k1 : k < 4) (i0 : 0 ≤ i) (i1 : i + 8 ≤ 60) (hfr : fr = 60 * k + i) : PM l S yX9_takesGame cX9_takesGame 4 (some .boolean) 1 25 [rv S 3 0 0, iv fr] (mst M 3 V) (rIQ (fun x N => ∃ U, N = mst M 3 U ∧ GmI V k i 4 U ∧ x = b01 (gameP (ms V 7 k) i))) := by
  refine PM.of (own := RX9) (by decide) rfl [some (rv S 3 0 0), some (iv fr), none, none] rfl rfl (Nat.le_of_ble_eq_true rfl) (fun X hXl C R => ?_)
  subst hXl
  refine pw_iconst C dX9_takesGame_0 ?_
  refine pw_istore_2 C dX9_takesGame_1 (k := ?_)
  refine pw_iconst C dX9_takesGame_2 ?_
  refine pw_istore_3 C dX9_takesGame_3 (k := ?_)
  exact L_X9_takesGame k0 k1 i0 i1 hfr C R 5 1 0 V (by omega) (by omega) ⟨fun _ _ _ _ _ => rfl, fun o a b => by omega⟩ (b01_t (fun o a b => by omega)).symm (by omega)
theorem restP_m {A B : Int → Int} {o : Int} (h0 : 0 ≤ o) (h1 : o < 4) : restP A B o ↔ (A ((o + 2) % 4) ≤ A o ∧ B (if o % 2 = 0 then o + 1 else o - 1) ≤ B o) := by
  unfold restP
  rcases o4 h0 h1 with rfl | rfl | rfl | rfl <;> exact Iff.rfl
theorem or0 (b : Int) : Int32.ofInt b ||| Int32.ofInt 0 = Int32.ofInt b := by
  show Int32.ofInt b ||| 0 = _
  exact Int32.or_zero
theorem GmI.ev {V U : DM} {k i n : Int} (h : GmI V k i n U) : mv U = mv V := mv_c (fun k2 r j q => h.1 k2 r j (by omega) (by omega))
theorem GmI.es {V U : DM} {k i n : Int} (h : GmI V k i n U) : ms U = ms V := P3.msE (fun k2 r j q => h.1 k2 r j (by omega) (by omega))
set_option maxRecDepth 100000 in
set_option maxHeartbeats 400000 in
theorem L_X9_rests {X : PX} {S : SW} {M : Mem} {V : DM} {k ln i : Int} {U : DM}  (hl0 : look (ms V) k ln i 8 = 0) (hU : GmI V k i 4 U) (hg : gameP (ms V 7 k) i) (C : Cx X S RX9 cX9_rests 3 70) (R : CR X S (rR (iv (xRests (ms V) k ln i)) M (mv V) (fl (ms V) (lookF (look (ms V) k ln i 8)))) (some .int)) :
    ∀ (n9 : Nat) (o b : Int), (0 ≤ o) → (o ≤ 4) → (b = restB (U 31 0) (U 32 0) o) → 5 - o < n9 → PW X S (mst M 3 U) 46 [some (rv S 3 0 0), some (iv k), some (iv ln), some (iv i), some (iv (look (ms V) k ln i 8)), some (iv b), some (iv o), none] [] := by
  intro n9
  induction n9 with
  | zero => intro o b o0 o1 hb hn9; omega
  | succ n9 ih =>
    intro o b o0 o1 hb hn9
    refine pw_iload C dX9_rests_46 rfl ?_
    refine pw_iconst C dX9_rests_48 ?_
    refine pw_icmp_ge (tgt := 137) C dX9_rests_49 rfl (by omega) (by omega) (fun c49 => ?_) (fun c49 => ?_)
    · have hq4 := restB_r (U 31 0) (U 32 0) o0 o1
      rw [if_pos (show o = 4 by omega), ← hb] at hq4
      refine pw_aload_n C dX9_rests_137 rfl ?_
      refine pw_iload C dX9_rests_138 rfl ?_
      refine pw_cVI C [_] mi_X9_refused mv_X9_refused ml_9_103 oM_0 rfl (c_X9_refused (by omega)) (by decide) rfl (Nat.le_of_ble_eq_true rfl) dX9_rests_140 ?_
      exact pw_iret C R dX9_rests_143 ⟨congrArg (fun q => some (iv q)) (by unfold xRests; rw [pif_t hl0, pif_t hg, hb, show o = 4 by omega]; exact restB_c (fun o a b => (hU.2 o a b).1) (fun o a b => (hU.2 o a b).2)), _, rfl, (by rw [mvn_0, hU.ev]; exact EQ.rf 0 0 _), by rw [msf_0, hU.es, hl0]; rfl⟩
    · have hq := restB_r (U 31 0) (U 32 0) o0 (show o ≤ 4 by omega)
      rw [if_neg (show ¬ (o = 4) by omega), ← hb] at hq
      have hrp := restP_m (A := U 31 0) (B := U 32 0) o0 (show o < 4 by omega)
      refine pw_aload_n C dX9_rests_52 rfl ?_
      refine gf_9_67 C dX9_rests_53 ?_
      refine pw_iload C dX9_rests_56 rfl ?_
      refine pw_iconst C dX9_rests_58 ?_
      refine pw_iadd C dX9_rests_59 ?_
      refine pw_iconst C dX9_rests_60 ?_
      refine pw_irem C (by omega) (by omega) (by omega) (by omega) dX9_rests_61 ?_
      refine pw_ialdV C aM_31 (by omega) (by omega) (by decide) dX9_rests_62 (fun r62 => ?_)
      refine pw_aload_n C dX9_rests_63 rfl ?_
      refine gf_9_67 C dX9_rests_64 ?_
      refine pw_iload C dX9_rests_67 rfl ?_
      refine pw_ialdV C aM_31 (by omega) (by omega) (by decide) dX9_rests_69 (fun r69 => ?_)
      refine pw_icmp_gt (tgt := 110) C dX9_rests_70 rfl (by omega) (by omega) (fun c70 => ?_) (fun c70 => ?_)
      · refine pw_iconst C dX9_rests_110 ?_
        refine pw_istore_7 C dX9_rests_111 (k := ?_)
        refine pw_iload C dX9_rests_113 rfl ?_
        refine pw_iload C dX9_rests_115 rfl ?_
        refine pw_if_eq (tgt := 127) C dX9_rests_117 rfl (by omega) (fun _ => ?_) (fun q9 => absurd q9 (by decide))
        refine pw_iconst C dX9_rests_127 ?_
        refine pw_ior C (by first | exact orp o0 (by omega) hq.1 hq.2 | exact or0 _) dX9_rests_128 ?_
        refine pw_istore_5 C dX9_rests_129 (k := ?_)
        refine pw_iinc_6 C dX9_rests_131 (k := ?_)
        refine pw_goto (tgt := 46) C dX9_rests_134 rfl ?_
        refine pw_fg 7 rfl ?_
        have es : restB (U 31 0) (U 32 0) (o + 1) = b + b01 (restP (U 31 0) (U 32 0) o) * p2 o := by rw [hb]; exact iterI_s _ _ o0
        first
          | exact ih (o + 1) _ (by omega) (by omega) (by rw [es, b01_t (hrp.mpr ⟨by assumption, by assumption⟩)]; omega) (by omega)
          | exact ih (o + 1) _ (by omega) (by omega) (by rw [es, b01_f (fun h => by have h1 := (hrp.mp h).1; have h2 := (hrp.mp h).2; omega)]; omega) (by omega)
          | exact ih (o + 1) _ (by omega) (by omega) (by rw [es, b01_f (fun h => by have h1 := (restP_m o0 (show o < 4 by omega)).mp h; omega)]; omega) (by omega)
      · refine pw_aload_n C dX9_rests_73 rfl ?_
        refine gf_9_70 C dX9_rests_74 ?_
        refine pw_iload C dX9_rests_77 rfl ?_
        refine pw_iconst C dX9_rests_79 ?_
        refine pw_irem C (by omega) (by omega) (by omega) (by omega) dX9_rests_80 ?_
        refine pw_if_ne (tgt := 91) C dX9_rests_81 rfl (by omega) (fun c81 => ?_) (fun c81 => ?_)
        · rw [if_neg c81] at hrp
          refine pw_iload C dX9_rests_91 rfl ?_
          refine pw_iconst C dX9_rests_93 ?_
          refine pw_isub C dX9_rests_94 ?_
          refine pw_ialdV C aM_32 (by omega) (by omega) (by decide) dX9_rests_95 (fun r95 => ?_)
          refine pw_aload_n C dX9_rests_96 rfl ?_
          refine gf_9_70 C dX9_rests_97 ?_
          refine pw_iload C dX9_rests_100 rfl ?_
          refine pw_ialdV C aM_32 (by omega) (by omega) (by decide) dX9_rests_102 (fun r102 => ?_)
          refine pw_icmp_gt (tgt := 110) C dX9_rests_103 rfl (by omega) (by omega) (fun c103 => ?_) (fun c103 => ?_)
          · refine pw_iconst C dX9_rests_110 ?_
            refine pw_istore_7 C dX9_rests_111 (k := ?_)
            refine pw_iload C dX9_rests_113 rfl ?_
            refine pw_iload C dX9_rests_115 rfl ?_
            refine pw_if_eq (tgt := 127) C dX9_rests_117 rfl (by omega) (fun _ => ?_) (fun q9 => absurd q9 (by decide))
            refine pw_iconst C dX9_rests_127 ?_
            refine pw_ior C (by first | exact orp o0 (by omega) hq.1 hq.2 | exact or0 _) dX9_rests_128 ?_
            refine pw_istore_5 C dX9_rests_129 (k := ?_)
            refine pw_iinc_6 C dX9_rests_131 (k := ?_)
            refine pw_goto (tgt := 46) C dX9_rests_134 rfl ?_
            refine pw_fg 7 rfl ?_
            have es : restB (U 31 0) (U 32 0) (o + 1) = b + b01 (restP (U 31 0) (U 32 0) o) * p2 o := by rw [hb]; exact iterI_s _ _ o0
            first
              | exact ih (o + 1) _ (by omega) (by omega) (by rw [es, b01_t (hrp.mpr ⟨by assumption, by assumption⟩)]; omega) (by omega)
              | exact ih (o + 1) _ (by omega) (by omega) (by rw [es, b01_f (fun h => by have h1 := (hrp.mp h).1; have h2 := (hrp.mp h).2; omega)]; omega) (by omega)
              | exact ih (o + 1) _ (by omega) (by omega) (by rw [es, b01_f (fun h => by have h1 := (restP_m o0 (show o < 4 by omega)).mp h; omega)]; omega) (by omega)
          · refine pw_iconst C dX9_rests_106 ?_
            refine pw_goto (tgt := 111) C dX9_rests_107 rfl ?_
            refine pw_istore_7 C dX9_rests_111 (k := ?_)
            refine pw_iload C dX9_rests_113 rfl ?_
            refine pw_iload C dX9_rests_115 rfl ?_
            refine pw_if_eq (tgt := 127) C dX9_rests_117 rfl (by omega) (fun q9 => absurd q9 (by decide)) (fun _ => ?_)
            refine pw_iconst C dX9_rests_120 ?_
            refine pw_iload C dX9_rests_121 rfl ?_
            refine pw_ishl C (shl1 o0 (by omega)) dX9_rests_123 ?_
            refine pw_goto (tgt := 128) C dX9_rests_124 rfl ?_
            refine pw_ior C (by first | exact orp o0 (by omega) hq.1 hq.2 | exact or0 _) dX9_rests_128 ?_
            refine pw_istore_5 C dX9_rests_129 (k := ?_)
            refine pw_iinc_6 C dX9_rests_131 (k := ?_)
            refine pw_goto (tgt := 46) C dX9_rests_134 rfl ?_
            refine pw_fg 7 rfl ?_
            have es : restB (U 31 0) (U 32 0) (o + 1) = b + b01 (restP (U 31 0) (U 32 0) o) * p2 o := by rw [hb]; exact iterI_s _ _ o0
            first
              | exact ih (o + 1) _ (by omega) (by omega) (by rw [es, b01_t (hrp.mpr ⟨by assumption, by assumption⟩)]; omega) (by omega)
              | exact ih (o + 1) _ (by omega) (by omega) (by rw [es, b01_f (fun h => by have h1 := (hrp.mp h).1; have h2 := (hrp.mp h).2; omega)]; omega) (by omega)
              | exact ih (o + 1) _ (by omega) (by omega) (by rw [es, b01_f (fun h => by have h1 := (restP_m o0 (show o < 4 by omega)).mp h; omega)]; omega) (by omega)
        · rw [if_pos c81] at hrp
          refine pw_iload C dX9_rests_84 rfl ?_
          refine pw_iconst C dX9_rests_86 ?_
          refine pw_iadd C dX9_rests_87 ?_
          refine pw_goto (tgt := 95) C dX9_rests_88 rfl ?_
          refine pw_ialdV C aM_32 (by omega) (by omega) (by decide) dX9_rests_95 (fun r95 => ?_)
          refine pw_aload_n C dX9_rests_96 rfl ?_
          refine gf_9_70 C dX9_rests_97 ?_
          refine pw_iload C dX9_rests_100 rfl ?_
          refine pw_ialdV C aM_32 (by omega) (by omega) (by decide) dX9_rests_102 (fun r102 => ?_)
          refine pw_icmp_gt (tgt := 110) C dX9_rests_103 rfl (by omega) (by omega) (fun c103 => ?_) (fun c103 => ?_)
          · refine pw_iconst C dX9_rests_110 ?_
            refine pw_istore_7 C dX9_rests_111 (k := ?_)
            refine pw_iload C dX9_rests_113 rfl ?_
            refine pw_iload C dX9_rests_115 rfl ?_
            refine pw_if_eq (tgt := 127) C dX9_rests_117 rfl (by omega) (fun _ => ?_) (fun q9 => absurd q9 (by decide))
            refine pw_iconst C dX9_rests_127 ?_
            refine pw_ior C (by first | exact orp o0 (by omega) hq.1 hq.2 | exact or0 _) dX9_rests_128 ?_
            refine pw_istore_5 C dX9_rests_129 (k := ?_)
            refine pw_iinc_6 C dX9_rests_131 (k := ?_)
            refine pw_goto (tgt := 46) C dX9_rests_134 rfl ?_
            refine pw_fg 7 rfl ?_
            have es : restB (U 31 0) (U 32 0) (o + 1) = b + b01 (restP (U 31 0) (U 32 0) o) * p2 o := by rw [hb]; exact iterI_s _ _ o0
            first
              | exact ih (o + 1) _ (by omega) (by omega) (by rw [es, b01_t (hrp.mpr ⟨by assumption, by assumption⟩)]; omega) (by omega)
              | exact ih (o + 1) _ (by omega) (by omega) (by rw [es, b01_f (fun h => by have h1 := (hrp.mp h).1; have h2 := (hrp.mp h).2; omega)]; omega) (by omega)
              | exact ih (o + 1) _ (by omega) (by omega) (by rw [es, b01_f (fun h => by have h1 := (restP_m o0 (show o < 4 by omega)).mp h; omega)]; omega) (by omega)
          · refine pw_iconst C dX9_rests_106 ?_
            refine pw_goto (tgt := 111) C dX9_rests_107 rfl ?_
            refine pw_istore_7 C dX9_rests_111 (k := ?_)
            refine pw_iload C dX9_rests_113 rfl ?_
            refine pw_iload C dX9_rests_115 rfl ?_
            refine pw_if_eq (tgt := 127) C dX9_rests_117 rfl (by omega) (fun q9 => absurd q9 (by decide)) (fun _ => ?_)
            refine pw_iconst C dX9_rests_120 ?_
            refine pw_iload C dX9_rests_121 rfl ?_
            refine pw_ishl C (shl1 o0 (by omega)) dX9_rests_123 ?_
            refine pw_goto (tgt := 128) C dX9_rests_124 rfl ?_
            refine pw_ior C (by first | exact orp o0 (by omega) hq.1 hq.2 | exact or0 _) dX9_rests_128 ?_
            refine pw_istore_5 C dX9_rests_129 (k := ?_)
            refine pw_iinc_6 C dX9_rests_131 (k := ?_)
            refine pw_goto (tgt := 46) C dX9_rests_134 rfl ?_
            refine pw_fg 7 rfl ?_
            have es : restB (U 31 0) (U 32 0) (o + 1) = b + b01 (restP (U 31 0) (U 32 0) o) * p2 o := by rw [hb]; exact iterI_s _ _ o0
            first
              | exact ih (o + 1) _ (by omega) (by omega) (by rw [es, b01_t (hrp.mpr ⟨by assumption, by assumption⟩)]; omega) (by omega)
              | exact ih (o + 1) _ (by omega) (by omega) (by rw [es, b01_f (fun h => by have h1 := (hrp.mp h).1; have h2 := (hrp.mp h).2; omega)]; omega) (by omega)
              | exact ih (o + 1) _ (by omega) (by omega) (by rw [es, b01_f (fun h => by have h1 := (restP_m o0 (show o < 4 by omega)).mp h; omega)]; omega) (by omega)
set_option maxRecDepth 100000 in
set_option maxHeartbeats 400000 in
theorem c_X9_rests {l : Launch} {S : SW} {M : Mem} {V : DM} {k ln i : Int}  (hk : InR k) (hln : InR ln) (hi : InR i) (hI : DayOk (mv V)) (hS : ShOk (ms V))  : PM l S yX9_rests cX9_rests 8 (some .int) 3 70 [rv S 3 0 0, iv k, iv ln, iv i] (mst M 3 V) (rR (iv (xRests (ms V) k ln i)) M (mv V) (fl (ms V) (lookF (look (ms V) k ln i 8)))) := by
  refine PM.of (own := RX9) (by decide) rfl [some (rv S 3 0 0), some (iv k), some (iv ln), some (iv i), none, none, none, none] rfl rfl (Nat.le_of_ble_eq_true rfl) (fun X hXl C R => ?_)
  subst hXl
  obtain ⟨i1, i2, i3, i4, i5, i6, i7, i8⟩ := id hI
  have e5 : mv V 1 0 5 = V 0 0 1 := rfl
  have e6 : mv V 1 0 6 = V 0 0 2 := rfl
  have e7 : mv V 1 0 7 = V 0 0 8 := rfl
  have e8 : mv V 1 0 8 = V 0 0 9 := rfl
  have e84 : mv V 8 0 4 = V 0 0 15 := rfl
  refine pw_aload_n C dX9_rests_0 rfl ?_
  refine pw_iload_n C dX9_rests_1 rfl ?_
  refine pw_iload_n C dX9_rests_2 rfl ?_
  refine pw_iload_n C dX9_rests_3 rfl ?_
  refine pw_ldc2 C (n := 8) (inT5 107 rfl rfl) (by decide) dX9_rests_4 ?_
  refine pw_cVI C [_, _, _, _] mi_X9_barred mv_X9_barred ml_9_146 oM_0 rfl (c_X9_barred (by omega) (by omega) (by omega) (by omega) (by assumption) (by omega)) (by decide) rfl (Nat.le_of_ble_eq_true rfl) dX9_rests_7 ?_
  have hlr := look_r (ms V) k ln i 8
  refine pw_istore_4 C dX9_rests_10 (k := ?_)
  refine pw_iload C dX9_rests_12 rfl ?_
  refine pw_if_ge (tgt := 20) C dX9_rests_14 rfl (by omega) (fun c14 => ?_) (fun c14 => ?_)
  · have hl0 : look (ms V) k ln i 8 = 0 := by omega
    have eb : bar V k ln i 8 = V := by unfold bar; rw [vif_t hl0]
    rw [eb]
    have hl := look_0 hS hl0
    refine pw_aload_n C dX9_rests_20 rfl ?_
    refine pw_bipush C dX9_rests_21 (by decide) ?_
    refine pw_iload_n C dX9_rests_23 rfl ?_
    refine pw_imul C dX9_rests_24 ?_
    refine pw_iload_n C dX9_rests_25 rfl ?_
    refine pw_iadd C dX9_rests_26 ?_
    refine pw_cVQI C [_] mi_X9_takesGame mv_X9_takesGame ml_9_270 oM_0 rfl (c_X9_takesGame (k := k) (i := i) (by omega) (by omega) (by omega) (by omega) (by omega) rfl) (by decide) rfl (Nat.le_of_ble_eq_true rfl) dX9_rests_27 ?_
    rintro x9 N9 ⟨U, rfl, hU, hx9⟩
    have hbr := b01_r (gameP (ms V 7 k) i)
    refine pw_if_ne (tgt := 40) C dX9_rests_30 rfl (by omega) (fun c30 => ?_) (fun c30 => ?_)
    · refine pw_iconst C dX9_rests_40 ?_
      refine pw_istore_5 C dX9_rests_41 (k := ?_)
      refine pw_iconst C dX9_rests_43 ?_
      refine pw_istore_6 C dX9_rests_44 (k := ?_)
      have hg : gameP (ms V 7 k) i := Classical.byContradiction (fun h => by rw [b01_f h] at hx9; omega)
      exact L_X9_rests hl0 hU hg C R 6 0 0 (by omega) (by omega) rfl (by omega)
    · refine pw_aload_n C dX9_rests_33 rfl ?_
      refine pw_bipush C dX9_rests_34 (by decide) ?_
      refine pw_cVI C [_] mi_X9_refused mv_X9_refused ml_9_103 oM_0 rfl (c_X9_refused (by omega)) (by decide) rfl (Nat.le_of_ble_eq_true rfl) dX9_rests_36 ?_
      exact pw_iret C R dX9_rests_39 ⟨congrArg (fun q => some (iv q)) (by unfold xRests; rw [pif_t hl0, pif_f (fun h => by rw [b01_t h] at hx9; omega)]), _, rfl, (by rw [mvn_0, hU.ev]; exact EQ.rf 0 0 _), by rw [msf_0, hU.es, hl0]; rfl⟩
  · refine pw_iload C dX9_rests_17 rfl ?_
    exact pw_iret C R dX9_rests_19 ⟨congrArg (fun q => some (iv q)) (by unfold xRests; rw [pif_f (by omega)]), _, rfl, (by rw [bar_mv]; exact EQ.rf 0 0 _), bar_ms (by omega)⟩
