set_option maxRecDepth 100000 in
set_option maxHeartbeats 400000 in
theorem L_X9_layFish {X : PX} {S : SW} {M : Mem} {V : DM} {row : Int}  (h4 : V 0 0 2 ≤ 4) (C : Cx X S RX9 cX9_layFish 0 0) (R : CR X S (rVQ (fun N => ∃ U, N = mst M 3 U ∧ LfI V row U)) none) :
    ∀ (n9 : Nat) (s q : Int) (U : DM), (-1 ≤ s) → (s < V 0 0 2) → (0 ≤ q ∧ q ≤ 9999) → (q < 10 ^ (s + 1).toNat) → (∀ (k : Nat) (r i : Int), ¬ (k = 4 ∧ r = 0 ∧ 0 ≤ i ∧ i < V 0 0 2) → U k r i = V k r i) → (∀ j, s < j → j < V 0 0 2 → 0 ≤ U 4 0 j ∧ U 4 0 j ≤ 9) → (∀ f : Int → Int, (∀ j, s < j → j < V 0 0 2 → f j = U 4 0 j) → rk f (s + 1).toNat = q → rk f (V 0 0 2).toNat = row) → s + 1 < n9 → PW X S (mst M 3 U) 9 [some (rv S 3 0 0), some (iv row), some (iv q), some (iv s)] [] := by
  intro n9
  induction n9 with
  | zero => intro s q U s0 s1 q0 hq hU hD hR hn9; omega
  | succ n9 ih =>
    intro s q U s0 s1 q0 hq hU hD hR hn9
    refine pw_iload_n C dX9_layFish_9 rfl ?_
    refine pw_if_lt (tgt := 34) C dX9_layFish_10 rfl (by omega) (fun c10 => ?_) (fun c10 => ?_)
    · refine pw_vret C R dX9_layFish_34 ⟨rfl, _, rfl, hU, fun j a b => hD j (by omega) b, hR _ (fun j a b => rfl) ?_⟩
      have e0 : (s + 1).toNat = 0 := by omega
      rw [e0] at hq
      rw [e0]
      show (0 : Int) = q
      simp at hq
      omega
    · refine pw_aload_n C dX9_layFish_13 rfl ?_
      refine gf_9_7 C dX9_layFish_14 ?_
      refine pw_iload_n C dX9_layFish_17 rfl ?_
      refine pw_iload_n C dX9_layFish_18 rfl ?_
      refine pw_bipush C dX9_layFish_19 (by decide) ?_
      refine pw_irem C (by omega) (by omega) (by omega) (by omega) dX9_layFish_21 ?_
      refine pw_iastV C aM_4 (by omega) (by omega) (by decide) (by omega) dX9_layFish_22 ?_
      refine pw_iload_n C dX9_layFish_23 rfl ?_
      refine pw_bipush C dX9_layFish_24 (by decide) ?_
      refine pw_idiv C (by omega) (by omega) (by omega) (by omega) dX9_layFish_26 ?_
      refine pw_istore_2 C dX9_layFish_27 (k := ?_)
      refine pw_iinc_3 C dX9_layFish_28 (k := ?_)
      refine pw_goto (tgt := 9) C dX9_layFish_31 rfl ?_
      refine ih (s - 1) (q / 10) _ (by omega) (by omega) (by omega) ?_ (fun k r i h => ?_) (fun j a b => ?_) (fun f hf he => ?_) (by omega)
      · rw [p10_s (by omega)] at hq
        rw [show s - 1 + 1 = s by omega]
        omega
      · rw [vup_n _ (by omega)]; exact hU k r i h
      · by_cases e : j = s
        · rw [e, vup_v]; omega
        · rw [vup_j _ _ _ _ e]; exact hD j (by omega) b
      · have e := hf s (by omega) s1
        rw [vup_v] at e
        rw [show s - 1 + 1 = s by omega] at he
        refine hR f (fun j a b => ?_) ?_
        · rw [hf j (by omega) b, vup_j _ _ _ _ (by omega)]
        · rw [rk_s f (by omega), he, e]
          omega
set_option maxRecDepth 100000 in
set_option maxHeartbeats 400000 in
theorem c_X9_layFish {l : Launch} {S : SW} {M : Mem} {V : DM} {row : Int}  (hrow : InR row) (h1 : 0 ≤ V 0 0 2) (h4 : V 0 0 2 ≤ 4) (r0 : 0 ≤ row) (r1 : row ≤ 9999) (r2 : row < 10 ^ (V 0 0 2).toNat) : PM l S yX9_layFish cX9_layFish 4 none 0 0 [rv S 3 0 0, iv row] (mst M 3 V) (rVQ (fun N => ∃ U, N = mst M 3 U ∧ LfI V row U)) := by
  refine PM.of (own := RX9) (by decide) rfl [some (rv S 3 0 0), some (iv row), none, none] rfl rfl (Nat.le_of_ble_eq_true rfl) (fun X hXl C R => ?_)
  subst hXl
  refine pw_iload_n C dX9_layFish_0 rfl ?_
  refine pw_istore_2 C dX9_layFish_1 (k := ?_)
  refine pw_aload_n C dX9_layFish_2 rfl ?_
  refine gv_9_116 C dX9_layFish_3 (fun r3 => ?_)
  refine pw_iconst C dX9_layFish_6 ?_
  refine pw_isub C dX9_layFish_7 ?_
  refine pw_istore_3 C dX9_layFish_8 (k := ?_)
  exact L_X9_layFish h4 C R (V 0 0 2 + 1).toNat (V 0 0 2 - 1) row V (by omega) (by omega) (by omega) (by rw [show V 0 0 2 - 1 + 1 = V 0 0 2 by omega]; exact r2) (fun k r i _ => rfl) (fun j a b => by omega) (fun f _ he => by rw [show V 0 0 2 - 1 + 1 = V 0 0 2 by omega] at he; exact he) (by omega)
set_option maxRecDepth 100000 in
set_option maxHeartbeats 400000 in
theorem L_X9_fetchC {X : PX} {S : SW} {M : Mem} {V : DM} {k T A P x : Int} {W : DM}  (hI : DayOk (mv V)) (hk1 : -1 ≤ k ∧ k ≤ 3) (hN : 0 < V 0 0 2) (hW : FtI V W) (hx : FetchR (mv V) k x) (C : Cx X S RX9 cX9_fetch 8 190) (R : CR X S ((fun o9 N => ∃ x, o9 = some (iv x) ∧ FetchR (mv V) k x ∧ ∃ U, N = mst M 3 U ∧ EQ 0 0 (mv V) (mv U) ∧ P3 V U)) (some .int)) :
    ∀ (n9 : Nat) (s : Int) (U : DM), (0 ≤ s) → (s ≤ V 0 0 2) → ((∀ (k : Nat) (r i : Int), k ≠ 4 → U k r i = W k r i) ∧ ∀ j, 0 ≤ j → j < s → U 4 0 j = V 4 0 j) → V 0 0 2 - s < n9 → PW X S (mst M 3 U) 150 [some (rv S 3 0 0), some (iv k), some (iv T), some (iv A), some (iv P), some (iv x), some (iv s)] [] := by
  obtain ⟨i1, i2, i3, i4, i5, i6, i7, i8⟩ := id hI
  have e5 : mv V 1 0 5 = V 0 0 1 := rfl
  have e6 : mv V 1 0 6 = V 0 0 2 := rfl
  have e7 : mv V 1 0 7 = V 0 0 8 := rfl
  have e8 : mv V 1 0 8 = V 0 0 9 := rfl
  have e84 : mv V 8 0 4 = V 0 0 15 := rfl
  intro n9
  induction n9 with
  | zero => intro s U s0 s1 hU hn9; omega
  | succ n9 ih =>
    intro s U s0 s1 hU hn9
    have u2 : U 0 0 2 = V 0 0 2 := (hU.1 0 0 2 (by omega)).trans hW.n
    refine pw_iload C dX9_fetch_150 rfl ?_
    refine pw_aload_n C dX9_fetch_152 rfl ?_
    refine gv_9_116 C dX9_fetch_153 (fun r153 => ?_)
    refine pw_icmp_ge (tgt := 179) C dX9_fetch_156 rfl (by omega) (by omega) (fun c156 => ?_) (fun c156 => ?_)
    · refine pw_iload C dX9_fetch_179 rfl ?_
      refine pw_iret C R dX9_fetch_181 ⟨_, rfl, hx, _, rfl, fun k r i hl => ?_, fun k r i h => (hU.1 k r i (by omega)).trans (hW.2.1 k r i h)⟩
      by_cases h2 : k = 2
      · subst h2
        have q : r = 0 ∧ 0 ≤ i ∧ i < mv V 1 0 6 := by rcases hl with q | q | q | q | q | q | q | q | q <;> omega
        obtain ⟨rfl, a, b⟩ := q
        exact hU.2 i a (by omega)
      · rw [mv_c2 hU.1 r i h2]
        exact hW.1 k r i h2 hl
    · refine pw_aload_n C dX9_fetch_159 rfl ?_
      refine gf_9_7 C dX9_fetch_160 ?_
      refine pw_iload C dX9_fetch_163 rfl ?_
      refine pw_aload_n C dX9_fetch_165 rfl ?_
      refine gf_9_64 C dX9_fetch_166 ?_
      refine pw_iload C dX9_fetch_169 rfl ?_
      refine pw_ialdV C aM_30 (by omega) (by omega) (by decide) dX9_fetch_171 (fun r171 => ?_)
      have e30 : U 30 0 s = V 4 0 s := (hU.1 30 0 s (by omega)).trans (hW.2.2 s s0 (by omega))
      refine pw_iastV C aM_4 (by omega) (by omega) (by decide) (by omega) dX9_fetch_172 ?_
      refine pw_iinc_6 C dX9_fetch_173 (k := ?_)
      refine pw_goto (tgt := 150) C dX9_fetch_176 rfl ?_
      refine ih (s + 1) _ (by omega) (by omega) ⟨fun k r i h => by rw [vup_k _ _ _ _ h]; exact hU.1 k r i h, fun j a b => ?_⟩ (by omega)
      by_cases e : j = s
      · rw [e, vup_v]; exact e30
      · rw [vup_j _ _ _ _ e]; exact hU.2 j a (by omega)
