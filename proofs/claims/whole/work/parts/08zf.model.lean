theorem mv_d {V W : DM} (h : ∀ (k : Nat) (r i : Int), k ≤ 28 → k ≠ 15 → ¬ (k = 0 ∧ r = 0 ∧ 10 ≤ i ∧ i ≤ 13) → W k r i = V k r i) : mv W = mv V := by
  funext k r i
  unfold mv
  split
  · rw [h 0 0 21 (by omega) (by omega) (by omega)]
  · rw [h 0 0 1 (by omega) (by omega) (by omega), h 0 0 2 (by omega) (by omega) (by omega), h 0 0 8 (by omega) (by omega) (by omega), h 0 0 9 (by omega) (by omega) (by omega)]
  · rw [h 4 r i (by omega) (by omega) (by omega)]
  · rw [h 5 r i (by omega) (by omega) (by omega)]
  · rw [h 6 r i (by omega) (by omega) (by omega)]
  · rw [h 7 r i (by omega) (by omega) (by omega)]
  · rw [h 8 0 _ (by omega) (by omega) (by omega)]
  · rw [h 0 0 15 (by omega) (by omega) (by omega)]
  · rw [h 17 r i (by omega) (by omega) (by omega)]
  · rw [h 18 r i (by omega) (by omega) (by omega)]
  · rw [h 19 r i (by omega) (by omega) (by omega)]
  · rw [h 20 r i (by omega) (by omega) (by omega)]
  · rw [h 21 r i (by omega) (by omega) (by omega)]
  · rw [h 27 r i (by omega) (by omega) (by omega)]
  · rw [h 28 r i (by omega) (by omega) (by omega)]
  · rw [h 23 r i (by omega) (by omega) (by omega)]
  · rw [h 24 r i (by omega) (by omega) (by omega)]
  · rw [h 25 r i (by omega) (by omega) (by omega)]
  · rw [h 26 r i (by omega) (by omega) (by omega)]
  · rfl
/-- a new stall's cells: sorts 0 .. s - 1 laid down -/
def NsI (V : DM) (k i n s : Int) (N : DM) (W : DM) : Prop := (∀ (q : Nat) (r j : Int), ¬ (q = 0 ∧ r = 0 ∧ (j = 1 ∨ j = 2 ∨ (10 ≤ j ∧ j ≤ 13))) → q ≠ 15 → ¬ (4 ≤ q ∧ q ≤ 7) → W q r j = V q r j) ∧ W 0 0 1 = ms V 7 k (i + 1) - 48 ∧ W 0 0 2 = (n - 2) / 6 ∧ (∀ y, W 15 0 y = N 15 0 y) ∧ ∀ s', 0 ≤ s' → s' < s → SortI (ms V) k i s' (mv W)
def NuO (k i n : Int) (V N : DM) : Prop := ∀ s j, 0 ≤ s → s < (n - 2) / 6 → 0 ≤ j → j < 4 → N 15 0 (4 * s + j) = ms V 7 k (i + (2 + 6 * s + 2 + j)) - 48
theorem NsI.s {V N W : DM} {k i n s : Int} (h : NsI V k i n s N W) (hN : NuO k i n V N) (s0 : 0 ≤ s) (s1 : s < (n - 2) / 6) : NsI V k i n (s + 1) N (vup (vup (vup (vup W 4 0 s (W 15 0 (4 * s))) 5 0 s (W 15 0 (4 * s + 1))) 6 0 s (W 15 0 (4 * s + 2))) 7 0 s (W 15 0 (4 * s + 3))) := by
  obtain ⟨h1, h2, h3, h4, h5⟩ := h
  refine ⟨fun q r j a b c => ?_, h2, h3, fun y => h4 y, fun s' a b => ?_⟩
  · rw [vup_k _ _ _ _ (by omega), vup_k _ _ _ _ (by omega), vup_k _ _ _ _ (by omega), vup_k _ _ _ _ (by omega)]
    exact h1 q r j a b c
  · have e4 : ∀ t, mv (vup (vup (vup (vup W 4 0 s (W 15 0 (4 * s))) 5 0 s (W 15 0 (4 * s + 1))) 6 0 s (W 15 0 (4 * s + 2))) 7 0 s (W 15 0 (4 * s + 3))) 2 0 t = vup W 4 0 s (W 15 0 (4 * s)) 4 0 t := fun t => rfl
    have e5 : ∀ t, mv (vup (vup (vup (vup W 4 0 s (W 15 0 (4 * s))) 5 0 s (W 15 0 (4 * s + 1))) 6 0 s (W 15 0 (4 * s + 2))) 7 0 s (W 15 0 (4 * s + 3))) 3 0 t = vup W 5 0 s (W 15 0 (4 * s + 1)) 5 0 t := fun t => rfl
    have e6 : ∀ t, mv (vup (vup (vup (vup W 4 0 s (W 15 0 (4 * s))) 5 0 s (W 15 0 (4 * s + 1))) 6 0 s (W 15 0 (4 * s + 2))) 7 0 s (W 15 0 (4 * s + 3))) 4 0 t = vup W 6 0 s (W 15 0 (4 * s + 2)) 6 0 t := fun t => rfl
    have e7 : ∀ t, mv (vup (vup (vup (vup W 4 0 s (W 15 0 (4 * s))) 5 0 s (W 15 0 (4 * s + 1))) 6 0 s (W 15 0 (4 * s + 2))) 7 0 s (W 15 0 (4 * s + 3))) 5 0 t = vup W 7 0 s (W 15 0 (4 * s + 3)) 7 0 t := fun t => rfl
    unfold SortI
    rw [e4, e5, e6, e7]
    by_cases e : s' = s
    · rw [e, vup_v, vup_v, vup_v, vup_v, h4, h4, h4, h4]
      have a0 := hN s 0 s0 s1 (by omega) (by omega)
      have a1 := hN s 1 s0 s1 (by omega) (by omega)
      have a2 := hN s 2 s0 s1 (by omega) (by omega)
      have a3 := hN s 3 s0 s1 (by omega) (by omega)
      rw [Int.add_zero] at a0
      rw [a0, a1, a2, a3]
      refine ⟨?_, ?_, ?_, ?_⟩
      · rw [show i + (2 + 6 * s + 2 + 0) = i + 2 + 6 * s + 2 by omega]
      · rw [show i + (2 + 6 * s + 2 + 1) = i + 2 + 6 * s + 3 by omega]
      · rw [show i + (2 + 6 * s + 2 + 2) = i + 2 + 6 * s + 4 by omega]
      · rw [show i + (2 + 6 * s + 2 + 3) = i + 2 + 6 * s + 5 by omega]
    · rw [vup_j _ _ _ _ e, vup_j _ _ _ _ e, vup_j _ _ _ _ e, vup_j _ _ _ _ e]
      exact h5 s' a (by omega)
set_option maxRecDepth 100000 in
set_option maxHeartbeats 400000 in
theorem L_X9_stallB {X : PX} {S : SW} {M : Mem} {V : DM} {k ln i n : Int} {N9 W : DM}  (hl0 : look (ms V) k ln i n = 0) (hF : FF (ms V 7 k) i n (-9)) (hN : NuO k i n V N9) (hn0 : 0 ≤ n) (hm : 1 ≤ (n - 2) / 6 ∧ (n - 2) / 6 ≤ 4) (hW : NsI V k i n ((n - 2) / 6) N9 W) (C : Cx X S RX9 cX9_stall 4 97) (R : CR X S ((fun o9 N => ∃ x U, o9 = some (iv x) ∧ N = mst M 3 U ∧ StallR (mv V) (ms V) k ln i n x (mv U) ∧ ms U = fl (ms V) (lookF (look (ms V) k ln i n)))) (some .int)) :
    ∀ (n9 : Nat) (x : Int) (U : DM), (0 ≤ x) → (x ≤ 32) → ((∀ (q : Nat) (r j : Int), q ≠ 8 → U q r j = W q r j) ∧ ∀ y, 0 ≤ y → y < x → U 8 0 y = 9) → 32 - x < n9 → PW X S (mst M 3 U) 154 [some (rv S 3 0 0), some (iv k), some (iv ln), some (iv i), some (iv n), some (iv (look (ms V) k ln i n)), some (iv x)] [] := by
  intro n9
  induction n9 with
  | zero => intro x U x0 x1 hU hn9; omega
  | succ n9 ih =>
    intro x U x0 x1 hU hn9
    refine pw_iload C dX9_stall_154 rfl ?_
    refine pw_bipush C dX9_stall_156 (by decide) ?_
    refine pw_icmp_ge (tgt := 176) C dX9_stall_158 rfl (by omega) (by omega) (fun c158 => ?_) (fun c158 => ?_)
    · have u2 : U 0 0 2 = (n - 2) / 6 := (hU.1 0 0 2 (by omega)).trans hW.2.2.1
      have ux : ∀ a b c : Int, vup (vup (vup U 0 0 15 a) 0 0 8 b) 0 0 9 c 0 0 2 = U 0 0 2 := fun a b c => by rw [vup_j _ _ _ _ (by omega), vup_j _ _ _ _ (by omega), vup_j _ _ _ _ (by omega)]
      refine pw_aload_n C dX9_stall_176 rfl ?_
      refine pw_iconst C dX9_stall_177 ?_
      refine pv_9_153 C (by omega) dX9_stall_178 ?_
      refine pw_aload_n C dX9_stall_181 rfl ?_
      refine pw_iconst C dX9_stall_182 ?_
      refine pv_9_156 C (by omega) dX9_stall_183 ?_
      refine pw_aload_n C dX9_stall_186 rfl ?_
      refine pw_iconst C dX9_stall_187 ?_
      refine pv_9_159 C (by omega) dX9_stall_188 ?_
      refine pw_aload_n C dX9_stall_191 rfl ?_
      refine pw_aload_n C dX9_stall_192 rfl ?_
      refine gv_9_116 C dX9_stall_193 (fun r193 => ?_)
      rw [ux 0 0 0, u2]
      refine pw_cVI C [_] mi_X9_refused mv_X9_refused ml_9_103 oM_0 rfl (c_X9_refused (by omega)) (by decide) rfl (Nat.le_of_ble_eq_true rfl) dX9_stall_196 ?_
      have hU8 : ∀ y, 0 ≤ y → y < 32 → U 8 0 y = 9 := fun y a b => hU.2 y a (by omega)
      refine pw_iret C R dX9_stall_199 ⟨_, _, rfl, rfl, Or.inr ⟨hl0, -9, hF, Or.inr ⟨rfl, ?_, ?_, ?_, rfl, rfl, rfl, ?_, ?_, ?_⟩⟩, ?_⟩
      · exact u2.symm
      · exact (hU.1 0 0 1 (by omega)).trans hW.2.1
      · exact u2
      · funext r j
        show (if r = 0 ∧ j = 9 then vup (vup (vup (vup U 0 0 15 0) 0 0 8 0) 0 0 9 0) 0 0 0 0 0 0 21 else if r = 0 ∧ j = 11 then -9 else 0) = if r = 0 ∧ j = 9 then V 0 0 21 else if r = 0 ∧ j = 11 then -9 else 0
        have e21 : vup (vup (vup (vup U 0 0 15 0) 0 0 8 0) 0 0 9 0) 0 0 0 0 0 0 21 = V 0 0 21 := ((hU.1 0 0 21 (by omega)).trans (hW.1 0 0 21 (by omega) (by omega) (by omega)))
        rw [e21]
      · intro s a b
        have q := hW.2.2.2.2 s a b
        unfold SortI at *
        have f4 : mv (vup (vup (vup (vup U 0 0 15 0) 0 0 8 0) 0 0 9 0) 0 0 0 0) 2 0 s = mv W 2 0 s := hU.1 4 0 s (by omega)
        have f5 : mv (vup (vup (vup (vup U 0 0 15 0) 0 0 8 0) 0 0 9 0) 0 0 0 0) 3 0 s = mv W 3 0 s := hU.1 5 0 s (by omega)
        have f6 : mv (vup (vup (vup (vup U 0 0 15 0) 0 0 8 0) 0 0 9 0) 0 0 0 0) 4 0 s = mv W 4 0 s := hU.1 6 0 s (by omega)
        have f7 : mv (vup (vup (vup (vup U 0 0 15 0) 0 0 8 0) 0 0 9 0) 0 0 0 0) 5 0 s = mv W 5 0 s := hU.1 7 0 s (by omega)
        rw [f4, f5, f6, f7]
        exact q
      · intro s t a b c d
        have hok := hF.ok hn0
        have hg1 := gon_1 (hok.2 1 (by omega) (by omega))
        rw [mv_7 _ s c (by omega)]
        exact hU8 _ (by omega) (by omega)
      · rw [msf_0]
        have e : ms (vup (vup (vup U 0 0 15 0) 0 0 8 0) 0 0 9 0) = ms V := P3.msE (fun q r j h => by
          rw [vup_n _ (by omega), vup_n _ (by omega), vup_n _ (by omega), hU.1 q r j (by omega)]
          exact hW.1 q r j (by omega) (by omega) (by omega))
        rw [e, hl0]
        rfl
    · refine pw_aload_n C dX9_stall_161 rfl ?_
      refine gf_9_22 C dX9_stall_162 ?_
      refine pw_iload C dX9_stall_165 rfl ?_
      refine pw_bipush C dX9_stall_167 (by decide) ?_
      refine pw_iastV C aM_8 (by omega) (by omega) (by decide) (by omega) dX9_stall_169 ?_
      refine pw_iinc_6 C dX9_stall_170 (k := ?_)
      refine pw_goto (tgt := 154) C dX9_stall_173 rfl ?_
      refine ih (x + 1) _ (by omega) (by omega) ⟨fun q r j h => by rw [vup_k _ _ _ _ h]; exact hU.1 q r j h, fun y a b => ?_⟩ (by omega)
      by_cases e : y = x
      · rw [e, vup_v]
      · rw [vup_j _ _ _ _ e]; exact hU.2 y a (by omega)
set_option maxRecDepth 100000 in
set_option maxHeartbeats 400000 in
theorem L_X9_stallA {X : PX} {S : SW} {M : Mem} {V : DM} {k ln i n : Int} {N9 : DM}  (hl0 : look (ms V) k ln i n = 0) (hF : FF (ms V 7 k) i n (-9)) (hN : NuO k i n V N9) (hn0 : 0 ≤ n) (hm : 1 ≤ (n - 2) / 6 ∧ (n - 2) / 6 ≤ 4) (C : Cx X S RX9 cX9_stall 4 97) (R : CR X S ((fun o9 N => ∃ x U, o9 = some (iv x) ∧ N = mst M 3 U ∧ StallR (mv V) (ms V) k ln i n x (mv U) ∧ ms U = fl (ms V) (lookF (look (ms V) k ln i n)))) (some .int)) :
    ∀ (n9 : Nat) (s : Int) (W : DM), (0 ≤ s) → (s ≤ (n - 2) / 6) → (NsI V k i n s N9 W) → (n - 2) / 6 - s < n9 → PW X S (mst M 3 W) 66 [some (rv S 3 0 0), some (iv k), some (iv ln), some (iv i), some (iv n), some (iv (look (ms V) k ln i n)), some (iv s)] [] := by
  intro n9
  induction n9 with
  | zero => intro s W s0 s1 hW hn9; omega
  | succ n9 ih =>
    intro s W s0 s1 hW hn9
    have w2 := hW.2.2.1
    have w15 := hW.2.2.2.1
    refine pw_iload C dX9_stall_66 rfl ?_
    refine pw_aload_n C dX9_stall_68 rfl ?_
    refine gv_9_116 C dX9_stall_69 (fun r69 => ?_)
    refine pw_icmp_ge (tgt := 151) C dX9_stall_72 rfl (by omega) (by omega) (fun c72 => ?_) (fun c72 => ?_)
    · refine pw_iconst C dX9_stall_151 ?_
      refine pw_istore_6 C dX9_stall_152 (k := ?_)
      rw [show s = (n - 2) / 6 by omega] at hW
      exact L_X9_stallB hl0 hF hN hn0 hm hW C R 33 0 W (by omega) (by omega) ⟨fun _ _ _ _ => rfl, fun y a b => by omega⟩ (by omega)
    · refine pw_aload_n C dX9_stall_75 rfl ?_
      refine gf_9_7 C dX9_stall_76 ?_
      refine pw_iload C dX9_stall_79 rfl ?_
      refine pw_aload_n C dX9_stall_81 rfl ?_
      refine gf_9_25 C dX9_stall_82 ?_
      refine pw_iconst C dX9_stall_85 ?_
      refine pw_iload C dX9_stall_86 rfl ?_
      refine pw_imul C dX9_stall_88 ?_
      refine pw_ialdV C aM_15 (by omega) (by omega) (by decide) dX9_stall_89 (fun r89 => ?_)
      refine pw_iastV C aM_4 (by omega) (by omega) (by decide) (by omega) dX9_stall_90 ?_
      refine pw_aload_n C dX9_stall_91 rfl ?_
      refine gf_9_13 C dX9_stall_92 ?_
      refine pw_iload C dX9_stall_95 rfl ?_
      refine pw_aload_n C dX9_stall_97 rfl ?_
      refine gf_9_25 C dX9_stall_98 ?_
      refine pw_iconst C dX9_stall_101 ?_
      refine pw_iload C dX9_stall_102 rfl ?_
      refine pw_imul C dX9_stall_104 ?_
      refine pw_iconst C dX9_stall_105 ?_
      refine pw_iadd C dX9_stall_106 ?_
      refine pw_ialdV C aM_15 (by omega) (by omega) (by decide) dX9_stall_107 (fun r107 => ?_)
      skip
      refine pw_iastV C aM_5 (by omega) (by omega) (by decide) (by omega) dX9_stall_108 ?_
      refine pw_aload_n C dX9_stall_109 rfl ?_
      refine gf_9_16 C dX9_stall_110 ?_
      refine pw_iload C dX9_stall_113 rfl ?_
      refine pw_aload_n C dX9_stall_115 rfl ?_
      refine gf_9_25 C dX9_stall_116 ?_
      refine pw_iconst C dX9_stall_119 ?_
      refine pw_iload C dX9_stall_120 rfl ?_
      refine pw_imul C dX9_stall_122 ?_
      refine pw_iconst C dX9_stall_123 ?_
      refine pw_iadd C dX9_stall_124 ?_
      refine pw_ialdV C aM_15 (by omega) (by omega) (by decide) dX9_stall_125 (fun r125 => ?_)
      refine pw_iastV C aM_6 (by omega) (by omega) (by decide) (by omega) dX9_stall_126 ?_
      refine pw_aload_n C dX9_stall_127 rfl ?_
      refine gf_9_19 C dX9_stall_128 ?_
      refine pw_iload C dX9_stall_131 rfl ?_
      refine pw_aload_n C dX9_stall_133 rfl ?_
      refine gf_9_25 C dX9_stall_134 ?_
      refine pw_iconst C dX9_stall_137 ?_
      refine pw_iload C dX9_stall_138 rfl ?_
      refine pw_imul C dX9_stall_140 ?_
      refine pw_iconst C dX9_stall_141 ?_
      refine pw_iadd C dX9_stall_142 ?_
      refine pw_ialdV C aM_15 (by omega) (by omega) (by decide) dX9_stall_143 (fun r143 => ?_)
      refine pw_iastV C aM_7 (by omega) (by omega) (by decide) (by omega) dX9_stall_144 ?_
      refine pw_iinc_6 C dX9_stall_145 (k := ?_)
      refine pw_goto (tgt := 66) C dX9_stall_148 rfl ?_
      exact ih (s + 1) _ (by omega) (by omega) (hW.s hN s0 (by omega)) (by omega)
set_option maxRecDepth 100000 in
set_option maxHeartbeats 400000 in
theorem c_X9_stall {l : Launch} {S : SW} {M : Mem} {V : DM} {k ln i n : Int}  (hk : InR k) (hln : InR ln) (hi : InR i) (hn : InR n) (hI : DayOk (mv V)) (hS : ShOk (ms V))  : PM l S yX9_stall cX9_stall 7 (some .int) 4 97 [rv S 3 0 0, iv k, iv ln, iv i, iv n] (mst M 3 V) ((fun o9 N => ∃ x U, o9 = some (iv x) ∧ N = mst M 3 U ∧ StallR (mv V) (ms V) k ln i n x (mv U) ∧ ms U = fl (ms V) (lookF (look (ms V) k ln i n)))) := by
  refine PM.of (own := RX9) (by decide) rfl [some (rv S 3 0 0), some (iv k), some (iv ln), some (iv i), some (iv n), none, none] rfl rfl (Nat.le_of_ble_eq_true rfl) (fun X hXl C R => ?_)
  subst hXl
  obtain ⟨i1, i2, i3, i4, i5, i6, i7, i8⟩ := id hI
  have e5 : mv V 1 0 5 = V 0 0 1 := rfl
  have e6 : mv V 1 0 6 = V 0 0 2 := rfl
  have e7 : mv V 1 0 7 = V 0 0 8 := rfl
  have e8 : mv V 1 0 8 = V 0 0 9 := rfl
  have e84 : mv V 8 0 4 = V 0 0 15 := rfl
  refine pw_aload_n C dX9_stall_0 rfl ?_
  refine pw_iload_n C dX9_stall_1 rfl ?_
  refine pw_iload_n C dX9_stall_2 rfl ?_
  refine pw_iload_n C dX9_stall_3 rfl ?_
  refine pw_iload C dX9_stall_4 rfl ?_
  refine pw_i2l C (by omega) dX9_stall_6 ?_
  refine pw_cVI C [_, _, _, _] mi_X9_barred mv_X9_barred ml_9_146 oM_0 rfl (c_X9_barred (by omega) (by omega) (by omega) (by omega) (by assumption) (by omega)) (by decide) rfl (Nat.le_of_ble_eq_true rfl) dX9_stall_7 ?_
  have hlr := look_r (ms V) k ln i n
  refine pw_istore_5 C dX9_stall_10 (k := ?_)
  refine pw_iload C dX9_stall_12 rfl ?_
  refine pw_if_ge (tgt := 20) C dX9_stall_14 rfl (by omega) (fun c14 => ?_) (fun c14 => ?_)
  · have hl0 : look (ms V) k ln i n = 0 := by omega
    have eb : bar V k ln i n = V := by unfold bar; rw [vif_t hl0]
    rw [eb]
    have hl := look_0 hS hl0
    refine pw_aload_n C dX9_stall_20 rfl ?_
    refine pw_bipush C dX9_stall_21 (by decide) ?_
    refine pw_iload_n C dX9_stall_23 rfl ?_
    refine pw_imul C dX9_stall_24 ?_
    refine pw_iload_n C dX9_stall_25 rfl ?_
    refine pw_iadd C dX9_stall_26 ?_
    refine pw_iload C dX9_stall_27 rfl ?_
    refine pw_cVQI C [_, _] mi_X9_readsStall mv_X9_readsStall ml_9_150 oM_0 rfl (c_X9_readsStall (g := ms V 7 k) (i := i) (by omega) (by omega) (fun q a b => sheet_at V k (by omega) (by omega)) (by omega) (by omega) (by omega)) (by decide) rfl (Nat.le_of_ble_eq_true rfl) dX9_stall_29 ?_
    rintro x9 N9 ⟨N9, rfl, hR, hO⟩
    refine pw_if_ne (tgt := 47) C dX9_stall_32 rfl (by omega) (fun c32 => ?_) (fun c32 => ?_)
    · refine pw_aload_n C dX9_stall_47 rfl ?_
      refine pw_aload_n C dX9_stall_48 rfl ?_
      refine gv_9_139 C dX9_stall_49 (fun r49 => ?_)
      refine pv_9_119 C (by omega) dX9_stall_52 ?_
      refine pw_aload_n C dX9_stall_55 rfl ?_
      refine pw_aload_n C dX9_stall_56 rfl ?_
      refine gv_9_128 C dX9_stall_57 (fun r57 => ?_)
      refine pv_9_116 C (by omega) dX9_stall_60 ?_
      refine pw_iconst C dX9_stall_63 ?_
      refine pw_istore_6 C dX9_stall_64 (k := ?_)
      have h1 := hO.resolve_left (fun h => by have := h.1; omega)
      have hok := h1.2.1.ok (by omega)
      refine L_X9_stallA (N9 := N9) hl0 h1.2.1 h1.2.2.2.2 (by omega) (by omega) C R 6 0 _ (by omega) (by omega) ⟨fun q r j a b c => ?_, ?_, ?_, fun y => rfl, fun s a b => by omega⟩ (by omega)
      · rw [vup_n _ (by omega), vup_n _ (by omega)]
        exact hR q r j (by omega) b
      · rw [vup_j _ _ _ _ (by omega), vup_v]; exact h1.2.2.2.1
      · rw [vup_v]; exact h1.2.2.1
    · have h1 := hO.resolve_right (fun h => by have := h.1; omega)
      have hr1 := h1.2.1.r (by omega) (by omega)
      refine pw_aload_n C dX9_stall_35 rfl ?_
      refine pw_bipush C dX9_stall_36 (by decide) ?_
      refine pw_aload_n C dX9_stall_38 rfl ?_
      refine gv_9_122 C dX9_stall_39 (fun r39 => ?_)
      refine pw_isub C dX9_stall_42 ?_
      refine pw_cVI C [_] mi_X9_refused mv_X9_refused ml_9_103 oM_0 rfl (c_X9_refused (by omega)) (by decide) rfl (Nat.le_of_ble_eq_true rfl) dX9_stall_43 ?_
      exact pw_iret C R dX9_stall_46 ⟨_, _, rfl, rfl, Or.inr ⟨hl0, _, h1.2.1, Or.inl ⟨by have := h1.2.2; omega, rfl, by rw [mvn_0]; exact mv_d (fun q r j _ a b => hR q r j b a)⟩⟩, by rw [msf_0, P3.msE (fun q r j h => hR q r j (by omega) (by omega)), hl0]; rfl⟩
  · refine pw_iload C dX9_stall_17 rfl ?_
    exact pw_iret C R dX9_stall_19 ⟨_, _, rfl, rfl, Or.inl ⟨by omega, rfl, bar_mv _ _ _ _ _⟩, bar_ms (by omega)⟩
