/-- but for what is noted while a text is read -/
def RdI (V W : DM) : Prop := ∀ (k : Nat) (r j : Int), ¬ (k = 0 ∧ r = 0 ∧ 10 ≤ j ∧ j ≤ 13) → k ≠ 15 → W k r j = V k r j
theorem RdI.rf (V : DM) : RdI V V := fun _ _ _ _ _ => rfl
theorem RdI.tr {A B C : DM} (h : RdI A B) (h2 : RdI B C) : RdI A C := fun k r j a b => (h2 k r j a b).trans (h k r j a b)
theorem RD1.d {A B : DM} (h : RD1 A B) : RdI A B := fun k r j a _ => h k r j (by omega)
theorem RdI.up {V W : DM} (h : RdI V W) {j v : Int} (hj : 10 ≤ j ∧ j ≤ 13) : RdI V (vup W 0 0 j v) := fun k r j2 hn hk => by
  rw [vup_n _ (by rintro ⟨rfl, rfl, rfl⟩; exact hn ⟨rfl, rfl, hj⟩)]
  exact h k r j2 hn hk
theorem RdI.u16 {V W : DM} (h : RdI V W) {j v : Int} : RdI V (vup W 15 0 j v) := fun k r j2 hn hk => by
  rw [vup_k _ _ _ _ hk]
  exact h k r j2 hn hk
theorem gon_0 {c p : Int} (a : 2 ≤ p) (b : p < 26) (h : (p - 2) % 6 = 0) : gon c p ↔ c = 59 := by
  unfold gon
  rw [if_neg (by omega), if_neg (by omega), if_neg (by omega), if_pos h]
theorem gon_102 {c p : Int} (a : 2 ≤ p) (b : p < 26) (h : (p - 2) % 6 = 1) : gon c p ↔ c = 102 := by
  unfold gon
  rw [if_neg (by omega), if_neg (by omega), if_neg (by omega), if_neg (by omega), if_pos h]
theorem gon_5 {c p : Int} (a : 2 ≤ p) (b : p < 26) (h : (p - 2) % 6 = 5) : gon c p ↔ 48 ≤ c ∧ c ≤ 51 := by
  unfold gon
  rw [if_neg (by omega), if_neg (by omega), if_neg (by omega), if_neg (by omega), if_neg (by omega), if_pos h]
theorem gon_d {c p : Int} (a : 2 ≤ p) (b : p < 26) (h : 2 ≤ (p - 2) % 6 ∧ (p - 2) % 6 ≤ 4) : gon c p ↔ 48 ≤ c ∧ c ≤ 57 := by
  unfold gon
  rw [if_neg (by omega), if_neg (by omega), if_neg (by omega), if_neg (by omega), if_neg (by omega), if_neg (by omega)]
theorem gon_26 {c p : Int} (b : 26 ≤ p) : ¬ gon c p := by
  unfold gon
  rw [if_neg (by omega), if_neg (by omega), if_pos b]
  exact id
theorem gon_x {g : Int → Int} {i p : Int} (h : ∀ q, 0 ≤ q → q < p → gon (g (i + q)) q) (hp : gon (g (i + p)) p) : ∀ q, 0 ≤ q → q < p + 1 → gon (g (i + q)) q := fun q a b => by
  by_cases e : q = p
  · rw [e]; exact hp
  · exact h q a (by omega)
def FFp (g : Int → Int) (i n p : Int) : Prop := FF g i n p ∧ 0 ≤ p
theorem FF.s {g : Int → Int} {i n p : Int} (p0 : 0 ≤ p) (p1 : p ≤ n) (h : ∀ q, 0 ≤ q → q < p → gon (g (i + q)) q) (h1 : p < n → ¬ gon (g (i + p)) p) (h2 : p = n → ¬ (2 < n ∧ (n - 2) % 6 = 0)) : FFp g i n p := by
  refine ⟨?_, p0⟩
  by_cases e : p = n
  · subst e
    exact Or.inr ⟨h, Or.inr ⟨h2 rfl, rfl⟩⟩
  · exact Or.inl ⟨p, p0, by omega, h1 (by omega), h, rfl⟩
def RsO (V : DM) (g : Int → Int) (i n x : Int) (W : DM) : Prop := RdI V W ∧ W 0 0 12 = V 0 0 12 ∧ (∀ y, y < 4 * V 0 0 13 → W 15 0 y = V 15 0 y) ∧ ((x = 0 ∧ FFp g i n (W 0 0 10)) ∨ (x = 1 ∧ W 0 0 10 = V 0 0 10 + 6 ∧ W 0 0 10 ≤ n ∧ W 0 0 13 = V 0 0 13 + 1 ∧ V 0 0 13 < 4 ∧ (∀ q, 0 ≤ q → q < W 0 0 10 → gon (g (i + q)) q) ∧ (∀ j, 0 ≤ j → j < 4 → W 15 0 (4 * V 0 0 13 + j) = g (i + (V 0 0 10 + 2 + j)) - 48)))
set_option maxRecDepth 100000 in
set_option maxHeartbeats 400000 in
theorem L_X9_readsSort {X : PX} {S : SW} {M : Mem} {V : DM} {g : Int → Int} {i fr n : Int}  (hf : ∀ q, 0 ≤ q → q < n → V 37 0 (fr + q) = g (i + q)) (f0 : 0 ≤ fr) (f1 : fr + n ≤ 240) (n0 : 0 ≤ n) (s0 : 0 ≤ V 0 0 13) (s4 : V 0 0 13 ≤ 4) (ha : V 0 0 10 = 2 + 6 * V 0 0 13) (hn9 : V 0 0 10 ≤ n) (hgo : ∀ q, 0 ≤ q → q < V 0 0 10 → gon (g (i + q)) q) (hfr : InR fr) (hn : InR n) (C : Cx X S RX9 cX9_readsSort 2 50) (R : CR X S (rIQ (fun x N => ∃ W, N = mst M 3 W ∧ RsO V g i n x W)) (some .boolean)) :
    ∀ (n9 : Nat) (x s9 : Int) (W : DM), (0 ≤ x) → (x ≤ 4) → (RdI V W ∧ W 0 0 13 = V 0 0 13 ∧ W 0 0 12 = V 0 0 12 ∧ ∀ y, y < 4 * V 0 0 13 → W 15 0 y = V 15 0 y) → ((s9 = 0 ∧ FFp g i n (W 0 0 10)) ∨ (s9 = 1 ∧ V 0 0 13 < 4 ∧ W 0 0 10 = V 0 0 10 + 2 + x ∧ V 0 0 10 + 2 + x ≤ n ∧ (∀ q, 0 ≤ q → q < V 0 0 10 + 2 + x → gon (g (i + q)) q) ∧ ∀ j, 0 ≤ j → j < x → W 15 0 (4 * V 0 0 13 + j) = g (i + (V 0 0 10 + 2 + j)) - 48)) → 4 - x < n9 → PW X S (mst M 3 W) 39 [some (rv S 3 0 0), some (iv fr), some (iv n), some (iv s9), some (iv x)] [] := by
  intro n9
  induction n9 with
  | zero => intro x s9 W x0 x1 hW hs hn9; omega
  | succ n9 ih =>
    intro x s9 W x0 x1 hW hs hn9
    refine pw_iload C dX9_readsSort_39 rfl ?_
    refine pw_iconst C dX9_readsSort_41 ?_
    refine pw_icmp_ge (tgt := 93) C dX9_readsSort_42 rfl (by omega) (by omega) (fun c42 => ?_) (fun c42 => ?_)
    · refine pw_aload_n C dX9_readsSort_93 rfl ?_
      refine pw_dup C dX9_readsSort_94 rfl ?_
      refine gv_9_128 C dX9_readsSort_95 (fun r95 => ?_)
      refine pw_iload_n C dX9_readsSort_98 rfl ?_
      refine pw_if_eq (tgt := 106) C dX9_readsSort_99 rfl (by omega) (fun c99 => ?_) (fun c99 => ?_)
      · refine pw_iconst C dX9_readsSort_106 ?_
        refine pw_iadd C dX9_readsSort_107 ?_
        refine pv_9_128 C (by omega) dX9_readsSort_108 ?_
        refine pw_iload_n C dX9_readsSort_111 rfl ?_
        first
          | (have hs1 := hs.resolve_left (by omega)
             refine pw_zret C R dX9_readsSort_112 (Or.inr hs1.1) ⟨_, rfl, _, rfl, hW.1.up (by omega), ?_, fun y h => hW.2.2.2 y h, Or.inr ⟨hs1.1, ?_, ?_, ?_, hs1.2.1, fun q a b => ?_, fun j a b => ?_⟩⟩
             · rw [vup_j _ _ _ _ (by omega)]; exact hW.2.2.1
             · rw [vup_j _ _ _ _ (by omega)]; omega
             · rw [vup_j _ _ _ _ (by omega)]; omega
             · rw [vup_v]; omega
             · rw [vup_j _ _ _ _ (by omega)] at b
               exact hs1.2.2.2.2.1 q a (by omega)
             · exact hs1.2.2.2.2.2 j a (by omega))
          | (have hs1 := hs.resolve_right (by omega)
             refine pw_zret C R dX9_readsSort_112 (Or.inl hs1.1) ⟨_, rfl, _, rfl, hW.1.up (by omega), ?_, fun y h => hW.2.2.2 y h, Or.inl ⟨hs1.1, ?_⟩⟩
             · rw [vup_j _ _ _ _ (by omega)]; exact hW.2.2.1
             · rw [vup_j _ _ _ _ (by omega)]; exact hs1.2)
      · refine pw_iconst C dX9_readsSort_102 ?_
        refine pw_goto (tgt := 107) C dX9_readsSort_103 rfl ?_
        refine pw_iadd C dX9_readsSort_107 ?_
        refine pv_9_128 C (by omega) dX9_readsSort_108 ?_
        refine pw_iload_n C dX9_readsSort_111 rfl ?_
        first
          | (have hs1 := hs.resolve_left (by omega)
             refine pw_zret C R dX9_readsSort_112 (Or.inr hs1.1) ⟨_, rfl, _, rfl, hW.1.up (by omega), ?_, fun y h => hW.2.2.2 y h, Or.inr ⟨hs1.1, ?_, ?_, ?_, hs1.2.1, fun q a b => ?_, fun j a b => ?_⟩⟩
             · rw [vup_j _ _ _ _ (by omega)]; exact hW.2.2.1
             · rw [vup_j _ _ _ _ (by omega)]; omega
             · rw [vup_j _ _ _ _ (by omega)]; omega
             · rw [vup_v]; omega
             · rw [vup_j _ _ _ _ (by omega)] at b
               exact hs1.2.2.2.2.1 q a (by omega)
             · exact hs1.2.2.2.2.2 j a (by omega))
          | (have hs1 := hs.resolve_right (by omega)
             refine pw_zret C R dX9_readsSort_112 (Or.inl hs1.1) ⟨_, rfl, _, rfl, hW.1.up (by omega), ?_, fun y h => hW.2.2.2 y h, Or.inl ⟨hs1.1, ?_⟩⟩
             · rw [vup_j _ _ _ _ (by omega)]; exact hW.2.2.1
             · rw [vup_j _ _ _ _ (by omega)]; exact hs1.2)
    · refine pw_iload_n C dX9_readsSort_45 rfl ?_
      refine pw_if_eq (tgt := 93) C dX9_readsSort_46 rfl (by omega) (fun c46 => ?_) (fun c46 => ?_)
      · refine pw_aload_n C dX9_readsSort_93 rfl ?_
        refine pw_dup C dX9_readsSort_94 rfl ?_
        refine gv_9_128 C dX9_readsSort_95 (fun r95 => ?_)
        refine pw_iload_n C dX9_readsSort_98 rfl ?_
        refine pw_if_eq (tgt := 106) C dX9_readsSort_99 rfl (by omega) (fun c99 => ?_) (fun c99 => ?_)
        · refine pw_iconst C dX9_readsSort_106 ?_
          refine pw_iadd C dX9_readsSort_107 ?_
          refine pv_9_128 C (by omega) dX9_readsSort_108 ?_
          refine pw_iload_n C dX9_readsSort_111 rfl ?_
          first
            | (have hs1 := hs.resolve_left (by omega)
               refine pw_zret C R dX9_readsSort_112 (Or.inr hs1.1) ⟨_, rfl, _, rfl, hW.1.up (by omega), ?_, fun y h => hW.2.2.2 y h, Or.inr ⟨hs1.1, ?_, ?_, ?_, hs1.2.1, fun q a b => ?_, fun j a b => ?_⟩⟩
               · rw [vup_j _ _ _ _ (by omega)]; exact hW.2.2.1
               · rw [vup_j _ _ _ _ (by omega)]; omega
               · rw [vup_j _ _ _ _ (by omega)]; omega
               · rw [vup_v]; omega
               · rw [vup_j _ _ _ _ (by omega)] at b
                 exact hs1.2.2.2.2.1 q a (by omega)
               · exact hs1.2.2.2.2.2 j a (by omega))
            | (have hs1 := hs.resolve_right (by omega)
               refine pw_zret C R dX9_readsSort_112 (Or.inl hs1.1) ⟨_, rfl, _, rfl, hW.1.up (by omega), ?_, fun y h => hW.2.2.2 y h, Or.inl ⟨hs1.1, ?_⟩⟩
               · rw [vup_j _ _ _ _ (by omega)]; exact hW.2.2.1
               · rw [vup_j _ _ _ _ (by omega)]; exact hs1.2)
        · refine pw_iconst C dX9_readsSort_102 ?_
          refine pw_goto (tgt := 107) C dX9_readsSort_103 rfl ?_
          refine pw_iadd C dX9_readsSort_107 ?_
          refine pv_9_128 C (by omega) dX9_readsSort_108 ?_
          refine pw_iload_n C dX9_readsSort_111 rfl ?_
          first
            | (have hs1 := hs.resolve_left (by omega)
               refine pw_zret C R dX9_readsSort_112 (Or.inr hs1.1) ⟨_, rfl, _, rfl, hW.1.up (by omega), ?_, fun y h => hW.2.2.2 y h, Or.inr ⟨hs1.1, ?_, ?_, ?_, hs1.2.1, fun q a b => ?_, fun j a b => ?_⟩⟩
               · rw [vup_j _ _ _ _ (by omega)]; exact hW.2.2.1
               · rw [vup_j _ _ _ _ (by omega)]; omega
               · rw [vup_j _ _ _ _ (by omega)]; omega
               · rw [vup_v]; omega
               · rw [vup_j _ _ _ _ (by omega)] at b
                 exact hs1.2.2.2.2.1 q a (by omega)
               · exact hs1.2.2.2.2.2 j a (by omega))
            | (have hs1 := hs.resolve_right (by omega)
               refine pw_zret C R dX9_readsSort_112 (Or.inl hs1.1) ⟨_, rfl, _, rfl, hW.1.up (by omega), ?_, fun y h => hW.2.2.2 y h, Or.inl ⟨hs1.1, ?_⟩⟩
               · rw [vup_j _ _ _ _ (by omega)]; exact hW.2.2.1
               · rw [vup_j _ _ _ _ (by omega)]; exact hs1.2)
      · have hs1 : s9 = 1 ∧ V 0 0 13 < 4 ∧ W 0 0 10 = V 0 0 10 + 2 + x ∧ V 0 0 10 + 2 + x ≤ n ∧ (∀ q, 0 ≤ q → q < V 0 0 10 + 2 + x → gon (g (i + q)) q) ∧ ∀ j, 0 ≤ j → j < x → W 15 0 (4 * V 0 0 13 + j) = g (i + (V 0 0 10 + 2 + j)) - 48 := by
          rcases hs with h | h
          · exact absurd h.1 (by assumption)
          · exact h
        have w10 := hs1.2.2.1
        refine pw_aload_n C dX9_readsSort_49 rfl ?_
        refine pw_iload_n C dX9_readsSort_50 rfl ?_
        refine pw_iload_n C dX9_readsSort_51 rfl ?_
        refine pw_iconst C dX9_readsSort_52 ?_
        refine pw_iload C dX9_readsSort_53 rfl ?_
        refine pw_iconst C dX9_readsSort_55 ?_
        refine pw_icmp_ne (tgt := 63) C dX9_readsSort_56 rfl (by omega) (by omega) (fun c56 => ?_) (fun c56 => ?_)
        · refine pw_bipush C dX9_readsSort_63 (by decide) ?_
          refine pw_cVQI C [_, _, _, _] mi_X9_readsFigure mv_X9_readsFigure ml_9_135 oM_0 rfl (c_X9_readsFigure (by omega) (by omega) (by omega) (by omega) (by omega) (by omega) (by omega) (by omega) (by omega)) (by decide) rfl (Nat.le_of_ble_eq_true rfl) dX9_readsSort_65 ?_
          rintro x9 N9 ⟨hx9, W2, rfl, hD, hA, hV⟩
          have e13 : W2 0 0 13 = V 0 0 13 := (hD 0 0 13 (by omega)).trans hW.2.1
          refine pw_istore_3 C dX9_readsSort_68 (k := ?_)
          refine pw_aload_n C dX9_readsSort_69 rfl ?_
          refine gf_9_25 C dX9_readsSort_70 ?_
          refine pw_iconst C dX9_readsSort_73 ?_
          refine pw_aload_n C dX9_readsSort_74 rfl ?_
          refine gv_9_128 C dX9_readsSort_75 (fun r75 => ?_)
          refine pw_imul C dX9_readsSort_78 ?_
          refine pw_iload C dX9_readsSort_79 rfl ?_
          refine pw_iadd C dX9_readsSort_81 ?_
          refine pw_aload_n C dX9_readsSort_82 rfl ?_
          refine gv_9_125 C dX9_readsSort_83 (fun r83 => ?_)
          refine pw_iastV C aM_15 (by omega) (by omega) (by decide) (by omega) dX9_readsSort_86 ?_
          refine pw_iinc_4 C dX9_readsSort_87 (k := ?_)
          refine pw_goto (tgt := 39) C dX9_readsSort_90 rfl ?_
          have hC : V 0 0 10 + 2 + x < n → W 37 0 (fr + (V 0 0 10 + 2 + x)) = g (i + (V 0 0 10 + 2 + x)) := fun h => (hW.1 37 0 _ (by omega) (by omega)).trans (hf _ (by omega) h)
          rw [w10] at hx9 hA hV
          have hI2 : RdI V (vup W2 15 0 (4 * W2 0 0 13 + x) (W2 0 0 11)) := (hW.1.tr hD.d).u16
          have hy : ∀ y, y < 4 * V 0 0 13 + x → vup W2 15 0 (4 * W2 0 0 13 + x) (W2 0 0 11) 15 0 y = W 15 0 y := fun y h => by
            rw [e13, vup_j _ _ _ _ (by omega)]
            exact hD 15 0 y (by omega)
          have hgo5 : x = 3 → (gon (g (i + (V 0 0 10 + 2 + x))) (V 0 0 10 + 2 + x) ↔ 48 ≤ g (i + (V 0 0 10 + 2 + x)) ∧ g (i + (V 0 0 10 + 2 + x)) ≤ 51) := fun h => gon_5 (by omega) (by omega) (by omega)
          have hgod : x ≠ 3 → (gon (g (i + (V 0 0 10 + 2 + x))) (V 0 0 10 + 2 + x) ↔ 48 ≤ g (i + (V 0 0 10 + 2 + x)) ∧ g (i + (V 0 0 10 + 2 + x)) ≤ 57) := fun h => gon_d (by omega) (by omega) (by omega)
          refine ih (x + 1) x9 _ (by omega) (by omega) ⟨hI2, e13, (hD 0 0 12 (by omega)).trans hW.2.2.1, fun y h => (hy y (by omega)).trans (hW.2.2.2 y h)⟩ ?_ (by omega)
          refine Classical.byCases (fun hP => ?_) (fun hP => ?_) (p := x9 = 1)
          · right
            have hP2 := Classical.byContradiction (fun h => by rw [b01_f h] at hx9; omega)
            have hgn : gon (g (i + (V 0 0 10 + 2 + x))) (V 0 0 10 + 2 + x) := by
              have h1 := hC hP2.1
              rw [h1] at hP2
              first
                | exact (hgo5 (by omega)).mpr (by omega)
                | exact (hgod (by omega)).mpr (by omega)
            refine ⟨hP, hs1.2.1, ?_, by have := hP2.1; omega, fun q a b => gon_x hs1.2.2.2.2.1 hgn q a (by omega), fun j a b => ?_⟩
            · show W2 0 0 10 = _
              omega
            · by_cases e : j = x
              · rw [e13, e, vup_v, hV hP]
                rw [hC hP2.1]
              · rw [hy _ (by omega)]
                exact hs1.2.2.2.2.2 j a (by omega)
          · left
            have hx0 : x9 = 0 := by
              have := b01_r (V 0 0 10 + 2 + x < n ∧ 0 ≤ W 37 0 (fr + (V 0 0 10 + 2 + x)) - 48 ∧ W 37 0 (fr + (V 0 0 10 + 2 + x)) - 48 ≤ 9)
              rcases b01_r _ with h | h
              · rw [h] at hx9; exact hx9
              · rw [h] at hx9; exact absurd hx9 hP
            refine ⟨hx0, ?_⟩
            show FFp g i n (W2 0 0 10)
            rw [hA, hx0, Int.add_zero]
            refine FF.s (by omega) (by omega) hs1.2.2.2.2.1 (fun h1 h2 => ?_) (fun h1 => by omega)
            have hc := hC h1
            rw [hc] at hx9
            have h3 : 48 ≤ g (i + (V 0 0 10 + 2 + x)) ∧ g (i + (V 0 0 10 + 2 + x)) ≤ 57 ∧ (x = 3 → g (i + (V 0 0 10 + 2 + x)) ≤ 51) := by
              by_cases e : x = 3
              · have := (hgo5 e).mp h2; omega
              · have := (hgod e).mp h2; omega
            rw [b01_t (by omega)] at hx9
            omega
        · refine pw_iconst C dX9_readsSort_59 ?_
          refine pw_goto (tgt := 65) C dX9_readsSort_60 rfl ?_
          refine pw_cVQI C [_, _, _, _] mi_X9_readsFigure mv_X9_readsFigure ml_9_135 oM_0 rfl (c_X9_readsFigure (by omega) (by omega) (by omega) (by omega) (by omega) (by omega) (by omega) (by omega) (by omega)) (by decide) rfl (Nat.le_of_ble_eq_true rfl) dX9_readsSort_65 ?_
          rintro x9 N9 ⟨hx9, W2, rfl, hD, hA, hV⟩
          have e13 : W2 0 0 13 = V 0 0 13 := (hD 0 0 13 (by omega)).trans hW.2.1
          refine pw_istore_3 C dX9_readsSort_68 (k := ?_)
          refine pw_aload_n C dX9_readsSort_69 rfl ?_
          refine gf_9_25 C dX9_readsSort_70 ?_
          refine pw_iconst C dX9_readsSort_73 ?_
          refine pw_aload_n C dX9_readsSort_74 rfl ?_
          refine gv_9_128 C dX9_readsSort_75 (fun r75 => ?_)
          refine pw_imul C dX9_readsSort_78 ?_
          refine pw_iload C dX9_readsSort_79 rfl ?_
          refine pw_iadd C dX9_readsSort_81 ?_
          refine pw_aload_n C dX9_readsSort_82 rfl ?_
          refine gv_9_125 C dX9_readsSort_83 (fun r83 => ?_)
          refine pw_iastV C aM_15 (by omega) (by omega) (by decide) (by omega) dX9_readsSort_86 ?_
          refine pw_iinc_4 C dX9_readsSort_87 (k := ?_)
          refine pw_goto (tgt := 39) C dX9_readsSort_90 rfl ?_
          have hC : V 0 0 10 + 2 + x < n → W 37 0 (fr + (V 0 0 10 + 2 + x)) = g (i + (V 0 0 10 + 2 + x)) := fun h => (hW.1 37 0 _ (by omega) (by omega)).trans (hf _ (by omega) h)
          rw [w10] at hx9 hA hV
          have hI2 : RdI V (vup W2 15 0 (4 * W2 0 0 13 + x) (W2 0 0 11)) := (hW.1.tr hD.d).u16
          have hy : ∀ y, y < 4 * V 0 0 13 + x → vup W2 15 0 (4 * W2 0 0 13 + x) (W2 0 0 11) 15 0 y = W 15 0 y := fun y h => by
            rw [e13, vup_j _ _ _ _ (by omega)]
            exact hD 15 0 y (by omega)
          have hgo5 : x = 3 → (gon (g (i + (V 0 0 10 + 2 + x))) (V 0 0 10 + 2 + x) ↔ 48 ≤ g (i + (V 0 0 10 + 2 + x)) ∧ g (i + (V 0 0 10 + 2 + x)) ≤ 51) := fun h => gon_5 (by omega) (by omega) (by omega)
          have hgod : x ≠ 3 → (gon (g (i + (V 0 0 10 + 2 + x))) (V 0 0 10 + 2 + x) ↔ 48 ≤ g (i + (V 0 0 10 + 2 + x)) ∧ g (i + (V 0 0 10 + 2 + x)) ≤ 57) := fun h => gon_d (by omega) (by omega) (by omega)
          refine ih (x + 1) x9 _ (by omega) (by omega) ⟨hI2, e13, (hD 0 0 12 (by omega)).trans hW.2.2.1, fun y h => (hy y (by omega)).trans (hW.2.2.2 y h)⟩ ?_ (by omega)
          refine Classical.byCases (fun hP => ?_) (fun hP => ?_) (p := x9 = 1)
          · right
            have hP2 := Classical.byContradiction (fun h => by rw [b01_f h] at hx9; omega)
            have hgn : gon (g (i + (V 0 0 10 + 2 + x))) (V 0 0 10 + 2 + x) := by
              have h1 := hC hP2.1
              rw [h1] at hP2
              first
                | exact (hgo5 (by omega)).mpr (by omega)
                | exact (hgod (by omega)).mpr (by omega)
            refine ⟨hP, hs1.2.1, ?_, by have := hP2.1; omega, fun q a b => gon_x hs1.2.2.2.2.1 hgn q a (by omega), fun j a b => ?_⟩
            · show W2 0 0 10 = _
              omega
            · by_cases e : j = x
              · rw [e13, e, vup_v, hV hP]
                rw [hC hP2.1]
              · rw [hy _ (by omega)]
                exact hs1.2.2.2.2.2 j a (by omega)
          · left
            have hx0 : x9 = 0 := by
              have := b01_r (V 0 0 10 + 2 + x < n ∧ 0 ≤ W 37 0 (fr + (V 0 0 10 + 2 + x)) - 48 ∧ W 37 0 (fr + (V 0 0 10 + 2 + x)) - 48 ≤ 9)
              rcases b01_r _ with h | h
              · rw [h] at hx9; exact hx9
              · rw [h] at hx9; exact absurd hx9 hP
            refine ⟨hx0, ?_⟩
            show FFp g i n (W2 0 0 10)
            rw [hA, hx0, Int.add_zero]
            refine FF.s (by omega) (by omega) hs1.2.2.2.2.1 (fun h1 h2 => ?_) (fun h1 => by omega)
            have hc := hC h1
            rw [hc] at hx9
            have h3 : 48 ≤ g (i + (V 0 0 10 + 2 + x)) ∧ g (i + (V 0 0 10 + 2 + x)) ≤ 57 ∧ (x = 3 → g (i + (V 0 0 10 + 2 + x)) ≤ 51) := by
              by_cases e : x = 3
              · have := (hgo5 e).mp h2; omega
              · have := (hgod e).mp h2; omega
            rw [b01_t (by omega)] at hx9
            omega
