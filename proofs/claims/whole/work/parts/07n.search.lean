theorem brM_t {T : DM} (h : TrOk T) {j : Int} (a : 0 ≤ j) (b : j < T 1 0 6) : 0 ≤ gnM T j * (rzM T j - T 2 0 j) ∧ gnM T j * (rzM T j - T 2 0 j) ≤ 81 := by
  have q := h.2.2.2 j a b
  have q7 := h.2.1
  unfold rzM
  split
  · next c =>
    have g : gnM T j = T 1 0 7 - T 3 0 j := rfl
    have m := mul_r (show 0 ≤ gnM T j by omega) (show gnM T j ≤ 9 by omega) (show 0 ≤ 9 - T 2 0 j by omega) (show 9 - T 2 0 j ≤ 9 by omega)
    omega
  · rw [Int.sub_self, Int.mul_zero]; omega
theorem brM_r {T : DM} (h : TrOk T) {s : Int} (s0 : 0 ≤ s) (s1 : s ≤ T 1 0 6) : -324 ≤ brM T s ∧ brM T s ≤ 4884 + 81 * s := by
  have a := sumI_r (f := fun j => gnM T j * (rzM T j - T 2 0 j)) (B := 81) s0 (fun j a b => brM_t h a (by omega))
  have := h.2.2.1
  unfold brM
  omega
theorem brM_s (T : DM) {s : Int} (s0 : 0 ≤ s) : brM T (s + 1) = brM T s + gnM T s * (rzM T s - T 2 0 s) := by
  unfold brM
  rw [sumI_s _ s0]
  omega
def WgI (T V : DM) (s : Int) (Z : DM) : Prop := (∀ j, 0 ≤ j → j < s → Z 4 0 j = rzM T j ∧ Z 3 0 j = if T 13 0 j = 0 then 1 else V 3 0 j) ∧ (∀ j, s ≤ j → Z 3 0 j = V 3 0 j) ∧ ∀ (k : Nat) (r i : Int), k ≠ 3 → k ≠ 4 → Z k r i = V k r i
theorem WgI.s {T V Z Z2 : DM} {s : Int} (h : WgI T V s Z) (e4 : Z2 4 0 s = rzM T s) (e3 : Z2 3 0 s = if T 13 0 s = 0 then 1 else V 3 0 s) (o : ∀ (k : Nat) (r i : Int), ¬ ((k = 3 ∨ k = 4) ∧ r = 0 ∧ i = s) → Z2 k r i = Z k r i) : WgI T V (s + 1) Z2 := by
  refine ⟨fun j a b => ?_, fun j a => ?_, fun k r i a b => ?_⟩
  · by_cases hj : j = s
    · rw [hj]; exact ⟨e4, e3⟩
    · rw [o 4 0 j (by omega), o 3 0 j (by omega)]; exact h.1 j a (by omega)
  · rw [o 3 0 j (by omega)]; exact h.2.1 j (by omega)
  · rw [o k r i (by omega)]; exact h.2.2 k r i a b
theorem WgI.lx {T V Z : DM} (h : WgI T V (T 1 0 6) Z) : Lx (T 1 0 6) (Z 4 0) (Z 2 0) ↔ Lx (T 1 0 6) (rzM T) (V 2 0) := by
  have e : Z 2 0 = V 2 0 := funext fun j => h.2.2 2 0 j (by omega) (by omega)
  rw [e]
  constructor
  · rintro ⟨u, u0, u1, ua, ul⟩
    exact ⟨u, u0, u1, fun j a b => by rw [← (h.1 j a (by omega)).1]; exact ua j a b, by rw [← (h.1 u u0 u1).1]; exact ul⟩
  · rintro ⟨u, u0, u1, ua, ul⟩
    exact ⟨u, u0, u1, fun j a b => by rw [(h.1 j a (by omega)).1]; exact ua j a b, by rw [(h.1 u u0 u1).1]; exact ul⟩
theorem WgI.no {T V Z : DM} (h : WgI T V (T 1 0 6) Z) (hc : ¬ (V 1 0 4 < brM T (T 1 0 6) ∨ (brM T (T 1 0 6) = V 1 0 4 ∧ Lx (T 1 0 6) (rzM T) (V 2 0)))) : WeighI T V Z :=
  ⟨fun j a b => (h.1 j a b).2, Or.inr ⟨hc, h.2.2 1 0 4 (by omega) (by omega), fun j _ _ => h.2.2 2 0 j (by omega) (by omega)⟩, fun k r i hk => h.2.2 k r i (by omega) (by omega)⟩
theorem WgI.yes {T V Z : DM} {b : Int} (h : WgI T V (T 1 0 6) Z) (hb : b = brM T (T 1 0 6)) (hc : V 1 0 4 < brM T (T 1 0 6) ∨ (brM T (T 1 0 6) = V 1 0 4 ∧ Lx (T 1 0 6) (rzM T) (V 2 0))) : WeighI T V (vset (vup Z 1 0 4 b) 2 0 (vcp (vup Z 1 0 4 b 2 0) (vup Z 1 0 4 b 4 0) 0 0 (T 1 0 6))) := by
  refine ⟨fun j a b => ?_, Or.inl ⟨hc, ?_, fun j a b => ?_⟩, fun k r i hk => ?_⟩
  · rw [vset_k _ _ _ (by omega), vup_k _ _ _ _ (by omega)]; exact (h.1 j a b).2
  · rw [vset_k _ _ _ (by omega), vup_v]; exact hb
  · rw [vset_s, vcp_in _ _ a b, vup_k _ _ _ _ (by omega)]; exact (h.1 j a b).1
  · rw [vset_k _ _ _ (by omega), vup_k _ _ _ _ (by omega)]; exact h.2.2 k r i (by omega) (by omega)
set_option maxRecDepth 100000 in
set_option maxHeartbeats 400000 in
theorem L_X4_weighRow {X : PX} {S : SW} {M : Mem} {V : DM}  (hT : TrOk (M 1)) (C : Cx X S RX4 cX4_weighRow 2 42) (R : CR X S (rVQ (fun N => ∃ Z, N = mst M 2 Z ∧ WeighI (M 1) V Z)) none) :
    ∀ (n9 : Nat) (b s : Int) (Z : DM), (0 ≤ s) → (s ≤ M 1 1 0 6) → (b = brM (M 1) s) → (WgI (M 1) V s Z) → M 1 1 0 6 - s < n9 → PW X S (mst M 2 Z) 18 [some (rv S 2 1 0), some (rv S 1 1 0), some (iv b), some (iv s), none] [] := by
  have hT1 := hT.1
  have hT7 := hT.2.1
  intro n9
  induction n9 with
  | zero => intro b s Z s0 s1 hb hZ hn9; omega
  | succ n9 ih =>
    intro b s Z s0 s1 hb hZ hn9
    refine pw_iload_n C dX4_weighRow_18 rfl ?_
    refine pw_aload_n C dX4_weighRow_19 rfl ?_
    refine go_4_80 1 (by decide) C (by decide) dX4_weighRow_20 (fun r20 => ?_)
    refine pw_icmp_ge (tgt := 107) C dX4_weighRow_23 rfl (by omega) (by omega) (fun c23 => ?_) (fun c23 => ?_)
    · have es : s = M 1 1 0 6 := by omega
      have hbr := brM_r hT s0 (show s ≤ M 1 1 0 6 by omega)
      rw [es] at hb hbr
      rw [es] at hZ
      have e4 : Z 1 0 4 = V 1 0 4 := hZ.2.2 1 0 4 (by omega) (by omega)
      have hlx := hZ.lx
      refine pw_iload_n C dX4_weighRow_107 rfl ?_
      refine pw_aload_n C dX4_weighRow_108 rfl ?_
      refine gv_4_53 C dX4_weighRow_109 (fun r109 => ?_)
      refine pw_icmp_gt (tgt := 130) C dX4_weighRow_112 rfl (by omega) (by omega) (fun c112 => ?_) (fun c112 => ?_)
      · refine pw_aload_n C dX4_weighRow_130 rfl ?_
        refine pw_iload_n C dX4_weighRow_131 rfl ?_
        refine pv_4_53 C (by omega) dX4_weighRow_132 ?_
        refine pw_aload_n C dX4_weighRow_135 rfl ?_
        refine gf_4_26 C dX4_weighRow_136 ?_
        refine pw_iconst C dX4_weighRow_139 ?_
        refine pw_aload_n C dX4_weighRow_140 rfl ?_
        refine gf_4_18 C dX4_weighRow_141 ?_
        refine pw_iconst C dX4_weighRow_144 ?_
        refine pw_aload_n C dX4_weighRow_145 rfl ?_
        refine go_4_80 1 (by decide) C (by decide) dX4_weighRow_146 (fun r146 => ?_)
        refine pw_copy C cpy_4_95 aC_4 aC_2 (by omega) (by omega) (by omega) (by omega) (by omega) (by decide) (by decide) (Nat.le_of_ble_eq_true rfl) (by decide) dX4_weighRow_149 ?_
        rw [mst_m, mst_s]
        first
          | exact pw_vret C R dX4_weighRow_152 ⟨rfl, _, rfl, hZ.yes hb (Or.inl (by omega))⟩
          | exact pw_vret C R dX4_weighRow_152 ⟨rfl, _, rfl, hZ.yes hb (Or.inr ⟨by omega, hlx.mp c127⟩)⟩
          | exact pw_vret C R dX4_weighRow_152 ⟨rfl, _, rfl, hZ.no (fun h => c127 (hlx.mpr (by rcases h with h | h; exact absurd h (by omega); exact h.2)))⟩
          | exact pw_vret C R dX4_weighRow_152 ⟨rfl, _, rfl, hZ.no (fun h => by rcases h with h | h; omega; have := h.1; omega)⟩
      · refine pw_iload_n C dX4_weighRow_115 rfl ?_
        refine pw_aload_n C dX4_weighRow_116 rfl ?_
        refine gv_4_53 C dX4_weighRow_117 (fun r117 => ?_)
        refine pw_icmp_ne (tgt := 152) C dX4_weighRow_120 rfl (by omega) (by omega) (fun c120 => ?_) (fun c120 => ?_)
        · first
            | exact pw_vret C R dX4_weighRow_152 ⟨rfl, _, rfl, hZ.yes hb (Or.inl (by omega))⟩
            | exact pw_vret C R dX4_weighRow_152 ⟨rfl, _, rfl, hZ.yes hb (Or.inr ⟨by omega, hlx.mp c127⟩)⟩
            | exact pw_vret C R dX4_weighRow_152 ⟨rfl, _, rfl, hZ.no (fun h => c127 (hlx.mpr (by rcases h with h | h; exact absurd h (by omega); exact h.2)))⟩
            | exact pw_vret C R dX4_weighRow_152 ⟨rfl, _, rfl, hZ.no (fun h => by rcases h with h | h; omega; have := h.1; omega)⟩
        · refine pw_aload_n C dX4_weighRow_123 rfl ?_
          refine pw_cVI C [] mi_X4_isRaisedFirst mv_X4_isRaisedFirst ml_4_92 oC_1 rfl (c_X4_isRaisedFirst (by omega) (by omega)) (by decide) rfl (Nat.le_of_ble_eq_true rfl) dX4_weighRow_124 ?_
          refine pw_if_eq_b (tgt := 152) C dX4_weighRow_127 rfl (fun c127 => ?_) (fun c127 => ?_)
          · first
              | exact pw_vret C R dX4_weighRow_152 ⟨rfl, _, rfl, hZ.yes hb (Or.inl (by omega))⟩
              | exact pw_vret C R dX4_weighRow_152 ⟨rfl, _, rfl, hZ.yes hb (Or.inr ⟨by omega, hlx.mp c127⟩)⟩
              | exact pw_vret C R dX4_weighRow_152 ⟨rfl, _, rfl, hZ.no (fun h => c127 (hlx.mpr (by rcases h with h | h; exact absurd h (by omega); exact h.2)))⟩
              | exact pw_vret C R dX4_weighRow_152 ⟨rfl, _, rfl, hZ.no (fun h => by rcases h with h | h; omega; have := h.1; omega)⟩
          · refine pw_aload_n C dX4_weighRow_130 rfl ?_
            refine pw_iload_n C dX4_weighRow_131 rfl ?_
            refine pv_4_53 C (by omega) dX4_weighRow_132 ?_
            refine pw_aload_n C dX4_weighRow_135 rfl ?_
            refine gf_4_26 C dX4_weighRow_136 ?_
            refine pw_iconst C dX4_weighRow_139 ?_
            refine pw_aload_n C dX4_weighRow_140 rfl ?_
            refine gf_4_18 C dX4_weighRow_141 ?_
            refine pw_iconst C dX4_weighRow_144 ?_
            refine pw_aload_n C dX4_weighRow_145 rfl ?_
            refine go_4_80 1 (by decide) C (by decide) dX4_weighRow_146 (fun r146 => ?_)
            refine pw_copy C cpy_4_95 aC_4 aC_2 (by omega) (by omega) (by omega) (by omega) (by omega) (by decide) (by decide) (Nat.le_of_ble_eq_true rfl) (by decide) dX4_weighRow_149 ?_
            rw [mst_m, mst_s]
            first
              | exact pw_vret C R dX4_weighRow_152 ⟨rfl, _, rfl, hZ.yes hb (Or.inl (by omega))⟩
              | exact pw_vret C R dX4_weighRow_152 ⟨rfl, _, rfl, hZ.yes hb (Or.inr ⟨by omega, hlx.mp c127⟩)⟩
              | exact pw_vret C R dX4_weighRow_152 ⟨rfl, _, rfl, hZ.no (fun h => c127 (hlx.mpr (by rcases h with h | h; exact absurd h (by omega); exact h.2)))⟩
              | exact pw_vret C R dX4_weighRow_152 ⟨rfl, _, rfl, hZ.no (fun h => by rcases h with h | h; omega; have := h.1; omega)⟩
    · have hTs := hT.2.2.2 s s0 (by omega)
      have hbr := brM_r hT s0 (show s ≤ M 1 1 0 6 by omega)
      have hbs := brM_s (M 1) s0
      have hbt := brM_t hT s0 (show s < M 1 1 0 6 by omega)
      have egn : gnM (M 1) s = M 1 1 0 7 - M 1 3 0 s := rfl
      have h3 := hZ.2.1 s (Int.le_refl _)
      refine pw_aload_n C dX4_weighRow_26 rfl ?_
      refine gf_4_26 C dX4_weighRow_27 ?_
      refine pw_iload_n C dX4_weighRow_30 rfl ?_
      refine pw_aload_n C dX4_weighRow_31 rfl ?_
      refine gf_4_37 1 (by decide) C dX4_weighRow_32 ?_
      refine pw_iload_n C dX4_weighRow_35 rfl ?_
      refine pw_ialdO C (by decide) (aD_2 (by decide)) (by omega) (by omega) (by decide) dX4_weighRow_36 (fun r36 => ?_)
      refine pw_iastV C aC_4 (by omega) (by omega) (by decide) (by omega) dX4_weighRow_37 ?_
      refine pw_aload_n C dX4_weighRow_38 rfl ?_
      refine go_4_83 1 (by decide) C (by decide) dX4_weighRow_39 (fun r39 => ?_)
      refine pw_aload_n C dX4_weighRow_42 rfl ?_
      refine gf_4_86 1 (by decide) C dX4_weighRow_43 ?_
      refine pw_iload_n C dX4_weighRow_46 rfl ?_
      refine pw_ialdO C (by decide) (aD_3 (by decide)) (by omega) (by omega) (by decide) dX4_weighRow_47 (fun r47 => ?_)
      refine pw_isub C dX4_weighRow_48 ?_
      refine pw_istore_4 C dX4_weighRow_49 (k := ?_)
      refine pw_aload_n C dX4_weighRow_51 rfl ?_
      refine gf_4_12 C dX4_weighRow_52 ?_
      refine gf_4_89 1 (by decide) C dX4_weighRow_55 ?_
      refine pw_iload_n C dX4_weighRow_58 rfl ?_
      refine pw_ialdO C (by decide) (aD_13 (by decide)) (by omega) (by omega) (by decide) dX4_weighRow_59 (fun r59 => ?_)
      refine pw_if_ne (tgt := 73) C dX4_weighRow_60 rfl (by omega) (fun c60 => ?_) (fun c60 => ?_)
      · refine pw_iload C dX4_weighRow_73 rfl ?_
        refine pw_if_le (tgt := 101) C dX4_weighRow_75 rfl (by omega) (fun c75 => ?_) (fun c75 => ?_)
        · refine pw_iinc_3 C dX4_weighRow_101 (k := ?_)
          refine pw_goto (tgt := 18) C dX4_weighRow_104 rfl ?_
          first
            | (have ez : rzM (M 1) s = M 1 2 0 s := by unfold rzM; rw [if_neg (by omega)]
               rw [ez, Int.sub_self, Int.mul_zero] at hbs
               first
               | exact pw_fg 4 rfl (ih _ (s + 1) _ (by omega) (by omega) (by omega) (hZ.s (by rw [ez, vup_k _ _ _ _ (by omega), vup_v]) (by rw [vup_v, if_pos (by assumption)]) (fun k r i h => by first | (rw [vup_n _ (by omega), vup_n _ (by omega)]) | (rw [vup_n _ (by omega)]))) (by omega))
               | exact pw_fg 4 rfl (ih _ (s + 1) _ (by omega) (by omega) (by omega) (hZ.s (by rw [ez, vup_v]) (by rw [vup_k _ _ _ _ (by omega), if_neg (by assumption), h3]) (fun k r i h => by first | (rw [vup_n _ (by omega), vup_n _ (by omega)]) | (rw [vup_n _ (by omega)]))) (by omega)))
            | (have ez : rzM (M 1) s = 9 := by unfold rzM; rw [if_pos (by omega)]
               rw [ez, egn, ← hb] at hbs
               exact pw_fg 4 rfl (ih _ (s + 1) _ (by omega) (by omega) hbs.symm (hZ.s (by rw [ez, vup_v]) (by rw [vup_k _ _ _ _ (by omega), vup_k _ _ _ _ (by omega), if_neg (by assumption), h3]) (fun k r i h => by first | (rw [vup_n _ (by omega), vup_n _ (by omega)]) | (rw [vup_n _ (by omega)]))) (by omega)))
        · refine pw_aload_n C dX4_weighRow_78 rfl ?_
          refine gf_4_26 C dX4_weighRow_79 ?_
          refine pw_iload_n C dX4_weighRow_82 rfl ?_
          refine pw_bipush C dX4_weighRow_83 (by decide) ?_
          refine pw_iastV C aC_4 (by omega) (by omega) (by decide) (by omega) dX4_weighRow_85 ?_
          refine pw_iload_n C dX4_weighRow_86 rfl ?_
          refine pw_iload C dX4_weighRow_87 rfl ?_
          refine pw_bipush C dX4_weighRow_89 (by decide) ?_
          refine pw_aload_n C dX4_weighRow_91 rfl ?_
          refine gf_4_37 1 (by decide) C dX4_weighRow_92 ?_
          refine pw_iload_n C dX4_weighRow_95 rfl ?_
          refine pw_ialdO C (by decide) (aD_2 (by decide)) (by omega) (by omega) (by decide) dX4_weighRow_96 (fun r96 => ?_)
          refine pw_isub C dX4_weighRow_97 ?_
          refine pw_imul C dX4_weighRow_98 ?_
          refine pw_iadd C dX4_weighRow_99 ?_
          refine pw_istore_2 C dX4_weighRow_100 (k := ?_)
          refine pw_iinc_3 C dX4_weighRow_101 (k := ?_)
          refine pw_goto (tgt := 18) C dX4_weighRow_104 rfl ?_
          first
            | (have ez : rzM (M 1) s = M 1 2 0 s := by unfold rzM; rw [if_neg (by omega)]
               rw [ez, Int.sub_self, Int.mul_zero] at hbs
               first
               | exact pw_fg 4 rfl (ih _ (s + 1) _ (by omega) (by omega) (by omega) (hZ.s (by rw [ez, vup_k _ _ _ _ (by omega), vup_v]) (by rw [vup_v, if_pos (by assumption)]) (fun k r i h => by first | (rw [vup_n _ (by omega), vup_n _ (by omega)]) | (rw [vup_n _ (by omega)]))) (by omega))
               | exact pw_fg 4 rfl (ih _ (s + 1) _ (by omega) (by omega) (by omega) (hZ.s (by rw [ez, vup_v]) (by rw [vup_k _ _ _ _ (by omega), if_neg (by assumption), h3]) (fun k r i h => by first | (rw [vup_n _ (by omega), vup_n _ (by omega)]) | (rw [vup_n _ (by omega)]))) (by omega)))
            | (have ez : rzM (M 1) s = 9 := by unfold rzM; rw [if_pos (by omega)]
               rw [ez, egn, ← hb] at hbs
               exact pw_fg 4 rfl (ih _ (s + 1) _ (by omega) (by omega) hbs.symm (hZ.s (by rw [ez, vup_v]) (by rw [vup_k _ _ _ _ (by omega), vup_k _ _ _ _ (by omega), if_neg (by assumption), h3]) (fun k r i h => by first | (rw [vup_n _ (by omega), vup_n _ (by omega)]) | (rw [vup_n _ (by omega)]))) (by omega)))
      · refine pw_aload_n C dX4_weighRow_63 rfl ?_
        refine gf_4_22 C dX4_weighRow_64 ?_
        refine pw_iload_n C dX4_weighRow_67 rfl ?_
        refine pw_iconst C dX4_weighRow_68 ?_
        refine pw_zastV C bC_3 (by omega) (by omega) (by decide) (by omega) dX4_weighRow_69 ?_
        refine pw_goto (tgt := 101) C dX4_weighRow_70 rfl ?_
        refine pw_iinc_3 C dX4_weighRow_101 (k := ?_)
        refine pw_goto (tgt := 18) C dX4_weighRow_104 rfl ?_
        first
          | (have ez : rzM (M 1) s = M 1 2 0 s := by unfold rzM; rw [if_neg (by omega)]
             rw [ez, Int.sub_self, Int.mul_zero] at hbs
             first
             | exact pw_fg 4 rfl (ih _ (s + 1) _ (by omega) (by omega) (by omega) (hZ.s (by rw [ez, vup_k _ _ _ _ (by omega), vup_v]) (by rw [vup_v, if_pos (by assumption)]) (fun k r i h => by first | (rw [vup_n _ (by omega), vup_n _ (by omega)]) | (rw [vup_n _ (by omega)]))) (by omega))
             | exact pw_fg 4 rfl (ih _ (s + 1) _ (by omega) (by omega) (by omega) (hZ.s (by rw [ez, vup_v]) (by rw [vup_k _ _ _ _ (by omega), if_neg (by assumption), h3]) (fun k r i h => by first | (rw [vup_n _ (by omega), vup_n _ (by omega)]) | (rw [vup_n _ (by omega)]))) (by omega)))
          | (have ez : rzM (M 1) s = 9 := by unfold rzM; rw [if_pos (by omega)]
             rw [ez, egn, ← hb] at hbs
             exact pw_fg 4 rfl (ih _ (s + 1) _ (by omega) (by omega) hbs.symm (hZ.s (by rw [ez, vup_v]) (by rw [vup_k _ _ _ _ (by omega), vup_k _ _ _ _ (by omega), if_neg (by assumption), h3]) (fun k r i h => by first | (rw [vup_n _ (by omega), vup_n _ (by omega)]) | (rw [vup_n _ (by omega)]))) (by omega)))
set_option maxRecDepth 100000 in
set_option maxHeartbeats 400000 in
theorem c_X4_weighRow {l : Launch} {S : SW} {M : Mem} {V : DM}  (hT : TrOk (M 1)) : PM l S yX4_weighRow cX4_weighRow 5 none 2 42 [rv S 2 1 0] (mst M 2 V) (rVQ (fun N => ∃ Z, N = mst M 2 Z ∧ WeighI (M 1) V Z)) := by
  refine PM.of (own := RX4) (by decide) rfl [some (rv S 2 1 0), none, none, none, none] rfl rfl (Nat.le_of_ble_eq_true rfl) (fun X hXl C R => ?_)
  subst hXl
  have hT1 := hT.1
  refine pw_aload_n C dX4_weighRow_0 rfl ?_
  refine gf_4_12 C dX4_weighRow_1 ?_
  refine gf_4_33 1 (by decide) C dX4_weighRow_4 ?_
  refine pw_astore_1 C dX4_weighRow_7 (kk := ?_)
  refine pw_aload_n C dX4_weighRow_8 rfl ?_
  refine gf_4_12 C dX4_weighRow_9 ?_
  refine pw_Vo 1 (by decide) ?_
  refine pw_cVI C [] mi_X1_profit mv_X1_profit ml_4_45 (oD_0 (by decide)) rfl (c_X1_profit (by decide) (by omega) (by omega)) (by decide) rfl (Nat.le_of_ble_eq_true rfl) dX4_weighRow_12 ?_
  refine pw_Uo 1 (by decide) ?_
  refine pw_istore_2 C dX4_weighRow_15 (k := ?_)
  refine pw_iconst C dX4_weighRow_16 ?_
  refine pw_istore_3 C dX4_weighRow_17 (k := ?_)
  exact L_X4_weighRow hT C R (M 1 1 0 6 + 1).toNat _ 0 V (by omega) (by omega) (by unfold brM; rw [sumI_0]; omega) ⟨fun j a b => by omega, fun _ _ => rfl, fun _ _ _ _ _ => rfl⟩ (by omega)
