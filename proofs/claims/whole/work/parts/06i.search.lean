/-- the slate with x taken off from an hour on -/
def offp (V : DM) (f x s t : Int) : Int := if t < f then V 7 s t else if 0 < V 7 s t - x then V 7 s t - x else 0
def offV (V : DM) (f x : Int) : DM := fun k r i => if k = 7 then offp V f x r i else V k r i
theorem offV_7 (V : DM) (f x r i : Int) : offV V f x 7 r i = offp V f x r i := if_pos rfl
theorem offV_n (V : DM) (f x : Int) {k : Nat} (r i : Int) (h : k ≠ 7) : offV V f x k r i = V k r i := if_neg h
theorem offp_r {V : DM} {f x s t : Int} (h : 0 ≤ V 7 s t ∧ V 7 s t ≤ 30) (hx : 0 ≤ x) : 0 ≤ offp V f x s t ∧ offp V f x s t ≤ 30 := by
  unfold offp
  split
  · exact h
  · split <;> omega
theorem offV_ok {V : DM} (hI : DayOk V) {f x : Int} (hx : 0 ≤ x) : DayOk (offV V f x) := by
  obtain ⟨h1, h2, h3, h4, h5, h6, h7, h8⟩ := hI
  exact ⟨h1, h2, h3, h4, h5, fun s t s0 s1 t0 t1 => offp_r (h6 s t s0 s1 t0 t1) hx, h7, h8⟩
def OffI (U V : DM) (f x s : Int) (W : DM) : Prop := (∀ s' t', 0 ≤ s' → s' < s → 0 ≤ t' → t' < V 1 0 5 → W 7 s' t' = offp U f x s' t') ∧ ∀ (k : Nat) (r i : Int), k ≠ 7 → W k r i = V k r i
set_option maxRecDepth 100000 in
set_option maxHeartbeats 400000 in
theorem L_X6_takeOffFrom2 {X : PX} {S : SW} {M : Mem} {V : DM} {f9 x s : Int}  (h4 : V 1 0 6 ≤ 4) (h5 : V 1 0 5 ≤ 8) (hpr : ∀ s t, 0 ≤ s → s < V 1 0 6 → 0 ≤ t → t < V 1 0 5 → 0 ≤ M 0 7 s t ∧ M 0 7 s t ≤ 30) (hf9 : InR f9) (x0 : 0 ≤ x) (x1 : x ≤ 30) (s0 : 0 ≤ s) (s1 : s < V 1 0 6) (K : ∀ W, OffI (M 0) V f9 x (s + 1) W → PW X S (mst M 1 W) 71 [some (rv S 1 1 0), some (rv S 0 1 0), some (iv f9), some (iv x), some (iv s), none, none] []) (C : Cx X S RX6 cX6_takeOffFrom 1 21) (R : CR X S (rVQ (fun N => ∃ W, N = mst M 1 W ∧ OffI (M 0) V f9 x (V 1 0 6) W)) none) :
    ∀ (n9 : Nat) (t : Int) (W : DM), (0 ≤ t) → (t ≤ V 1 0 5) → (OffI (M 0) V f9 x s W) → (∀ t', 0 ≤ t' → t' < t → W 7 s t' = offp (M 0) f9 x s t') → V 1 0 5 - t < n9 → PW X S (mst M 1 W) 15 [some (rv S 1 1 0), some (rv S 0 1 0), some (iv f9), some (iv x), some (iv s), some (iv t), none] [] := by
  intro n9
  induction n9 with
  | zero => intro t W t0 t1 hW hT hn9; omega
  | succ n9 ih =>
    intro t W t0 t1 hW hT hn9
    have e5 : W 1 0 5 = V 1 0 5 := hW.2 1 0 5 (by omega)
    have e6 : W 1 0 6 = V 1 0 6 := hW.2 1 0 6 (by omega)
    refine pw_iload C dX6_takeOffFrom_15 rfl ?_
    refine pw_aload_n C dX6_takeOffFrom_17 rfl ?_
    refine gv_6_29 1 (by decide) C dX6_takeOffFrom_18 (fun r18 => ?_)
    refine pw_icmp_ge (tgt := 71) C dX6_takeOffFrom_21 rfl (by omega) (by omega) (fun c21 => ?_) (fun c21 => ?_)
    · refine pw_fg 5 rfl (K W ⟨fun s' t' a b c d => ?_, hW.2⟩)
      rcases Int.lt_or_le s' s with h | h
      · exact hW.1 s' t' a h c d
      · have e : s' = s := by omega
        subst e
        exact hT t' c (by omega)
    · have hp : 0 ≤ (mst M 1 W) 0 7 s t ∧ (mst M 1 W) 0 7 s t ≤ 30 := hpr s t s0 s1 t0 (by omega)
      refine pw_aload_n C dX6_takeOffFrom_24 rfl ?_
      refine gf_6_26 0 (by decide) C dX6_takeOffFrom_25 ?_
      refine pw_iload C dX6_takeOffFrom_28 rfl ?_
      refine pw_aald C (qD_6 (by decide)) (by omega) (by omega) (by decide) dX6_takeOffFrom_30 ?_
      refine pw_iload C dX6_takeOffFrom_31 rfl ?_
      refine pw_iald C (aD_7 (by decide) (by omega) (by omega)) (by omega) (by omega) (by decide) dX6_takeOffFrom_33 (fun r33 => ?_)
      refine pw_istore_6 C dX6_takeOffFrom_34 (k := ?_)
      refine pw_aload_n C dX6_takeOffFrom_36 rfl ?_
      refine gf_6_26 1 (by decide) C dX6_takeOffFrom_37 ?_
      refine pw_iload C dX6_takeOffFrom_40 rfl ?_
      refine pw_aald C (qD_6 (by decide)) (by omega) (by omega) (by decide) dX6_takeOffFrom_42 ?_
      refine pw_iload C dX6_takeOffFrom_43 rfl ?_
      refine pw_iload C dX6_takeOffFrom_45 rfl ?_
      refine pw_iload_n C dX6_takeOffFrom_47 rfl ?_
      refine pw_icmp_ge (tgt := 56) C dX6_takeOffFrom_48 rfl (by omega) (by omega) (fun c48 => ?_) (fun c48 => ?_)
      · refine pw_iconst C dX6_takeOffFrom_56 ?_
        refine pw_iload C dX6_takeOffFrom_57 rfl ?_
        refine pw_iload_n C dX6_takeOffFrom_59 rfl ?_
        refine pw_isub C dX6_takeOffFrom_60 ?_
        refine pw_max C mx_6_55 (by omega) (by omega) (by decide) (Nat.le_of_ble_eq_true rfl) dX6_takeOffFrom_61 ?_
        refine pw_iastV C (aD_7 (by decide) (by omega) (by omega)) (by omega) (by omega) (by decide) (by first | omega | (split <;> omega)) dX6_takeOffFrom_64 ?_
        refine pw_iinc_5 C dX6_takeOffFrom_65 (k := ?_)
        refine pw_goto (tgt := 15) C dX6_takeOffFrom_68 rfl ?_
        refine pw_fg 6 rfl ?_
        refine ih (t + 1) _ (by omega) (by omega) ⟨fun s' t' a b c d => ?_, fun k r i hk => ?_⟩ (fun t' a b => ?_) (by omega)
        · rw [vup_n _ (by omega)]; exact hW.1 s' t' a b c d
        · rw [vup_k _ _ _ _ hk]; exact hW.2 k r i hk
        · by_cases e : t' = t
          · subst e
            rw [vup_v]
            unfold offp
            first | (rw [if_pos (show t' < f9 by omega)]; rfl) | (rw [if_neg (show ¬ (t' < f9) by omega)]; rfl)
          · rw [vup_n _ (by omega)]; exact hT t' a (by omega)
      · refine pw_iload C dX6_takeOffFrom_51 rfl ?_
        refine pw_goto (tgt := 64) C dX6_takeOffFrom_53 rfl ?_
        refine pw_iastV C (aD_7 (by decide) (by omega) (by omega)) (by omega) (by omega) (by decide) (by first | omega | (split <;> omega)) dX6_takeOffFrom_64 ?_
        refine pw_iinc_5 C dX6_takeOffFrom_65 (k := ?_)
        refine pw_goto (tgt := 15) C dX6_takeOffFrom_68 rfl ?_
        refine pw_fg 6 rfl ?_
        refine ih (t + 1) _ (by omega) (by omega) ⟨fun s' t' a b c d => ?_, fun k r i hk => ?_⟩ (fun t' a b => ?_) (by omega)
        · rw [vup_n _ (by omega)]; exact hW.1 s' t' a b c d
        · rw [vup_k _ _ _ _ hk]; exact hW.2 k r i hk
        · by_cases e : t' = t
          · subst e
            rw [vup_v]
            unfold offp
            first | (rw [if_pos (show t' < f9 by omega)]; rfl) | (rw [if_neg (show ¬ (t' < f9) by omega)]; rfl)
          · rw [vup_n _ (by omega)]; exact hT t' a (by omega)
set_option maxRecDepth 100000 in
set_option maxHeartbeats 400000 in
theorem L_X6_takeOffFrom {X : PX} {S : SW} {M : Mem} {V : DM} {f9 x : Int}  (h4 : V 1 0 6 ≤ 4) (h5 : V 1 0 5 ≤ 8) (hpr : ∀ s t, 0 ≤ s → s < V 1 0 6 → 0 ≤ t → t < V 1 0 5 → 0 ≤ M 0 7 s t ∧ M 0 7 s t ≤ 30) (hf9 : InR f9) (x0 : 0 ≤ x) (x1 : x ≤ 30) (h05 : 0 ≤ V 1 0 5) (C : Cx X S RX6 cX6_takeOffFrom 1 21) (R : CR X S (rVQ (fun N => ∃ W, N = mst M 1 W ∧ OffI (M 0) V f9 x (V 1 0 6) W)) none) :
    ∀ (n9 : Nat) (s : Int) (W : DM), (0 ≤ s) → (s ≤ V 1 0 6) → (OffI (M 0) V f9 x s W) → V 1 0 6 - s < n9 → PW X S (mst M 1 W) 3 [some (rv S 1 1 0), some (rv S 0 1 0), some (iv f9), some (iv x), some (iv s), none, none] [] := by
  intro n9
  induction n9 with
  | zero => intro s W s0 s1 hW hn9; omega
  | succ n9 ih =>
    intro s W s0 s1 hW hn9
    have e5 : W 1 0 5 = V 1 0 5 := hW.2 1 0 5 (by omega)
    have e6 : W 1 0 6 = V 1 0 6 := hW.2 1 0 6 (by omega)
    refine pw_iload C dX6_takeOffFrom_3 rfl ?_
    refine pw_aload_n C dX6_takeOffFrom_5 rfl ?_
    refine gv_6_35 1 (by decide) C dX6_takeOffFrom_6 (fun r6 => ?_)
    refine pw_icmp_ge (tgt := 77) C dX6_takeOffFrom_9 rfl (by omega) (by omega) (fun c9 => ?_) (fun c9 => ?_)
    · refine pw_vret C R dX6_takeOffFrom_77 ⟨rfl, W, rfl, ?_⟩
      rw [show V 1 0 6 = s by omega]
      exact hW
    · refine pw_iconst C dX6_takeOffFrom_12 ?_
      refine pw_istore_5 C dX6_takeOffFrom_13 (k := ?_)
      refine L_X6_takeOffFrom2 h4 h5 hpr hf9 x0 x1 s0 (by omega) (fun W2 hW2 => ?_) C R (V 1 0 5 + 1).toNat 0 W (by omega) (by omega) hW (fun t' a b => by omega) (by omega)
      refine pw_iinc_4 C dX6_takeOffFrom_71 (k := ?_)
      refine pw_goto (tgt := 3) C dX6_takeOffFrom_74 rfl ?_
      exact ih (s + 1) W2 (by omega) (by omega) hW2 (by omega)
set_option maxRecDepth 100000 in
set_option maxHeartbeats 400000 in
theorem c_X6_takeOffFrom {l : Launch} {S : SW} {M : Mem} {V : DM} {f9 x : Int}  (hf9 : InR f9) (hx : InR x) (h40 : 0 ≤ V 1 0 6) (h4 : V 1 0 6 ≤ 4) (h05 : 0 ≤ V 1 0 5) (h5 : V 1 0 5 ≤ 8) (hpr : ∀ s t, 0 ≤ s → s < V 1 0 6 → 0 ≤ t → t < V 1 0 5 → 0 ≤ M 0 7 s t ∧ M 0 7 s t ≤ 30) (x0 : 0 ≤ x) (x1 : x ≤ 30) : PM l S yX6_takeOffFrom cX6_takeOffFrom 7 none 1 21 [rv S 1 1 0, rv S 0 1 0, iv f9, iv x] (mst M 1 V) (rVQ (fun N => ∃ W, N = mst M 1 W ∧ OffI (M 0) V f9 x (V 1 0 6) W)) := by
  refine PM.of (own := RX6) (by decide) rfl [some (rv S 1 1 0), some (rv S 0 1 0), some (iv f9), some (iv x), none, none, none] rfl rfl (Nat.le_of_ble_eq_true rfl) (fun X hXl C R => ?_)
  subst hXl
  refine pw_iconst C dX6_takeOffFrom_0 ?_
  refine pw_istore_4 C dX6_takeOffFrom_1 (k := ?_)
  exact L_X6_takeOffFrom h4 h5 hpr hf9 x0 x1 h05 C R (V 1 0 6 + 1).toNat 0 V (by omega) (by omega) ⟨fun s' t' a b c d => by omega, fun k r i _ => rfl⟩ (by omega)
/-- the greatest of p 0 .. p n, and the least place of it -/
def amax (p : Int → Int) : Nat → Int × Int
  | 0 => (p 0, 0)
  | n + 1 => if (amax p n).1 < p (n + 1) then (p (n + 1), n + 1) else amax p n
noncomputable def bestP (V : DM) (s t : Int) : Int → Int := fun v => prf (vup V 7 s t v)
set_option maxRecDepth 100000 in
set_option maxHeartbeats 400000 in
theorem L_X4_findPrice {X : PX} {S : SW} {M : Mem} {s t : Int}  (hI : DayOk (M 0)) (hk : M 0 0 0 11 = -9) (s0 : 0 ≤ s) (s1 : s < M 0 1 0 6) (t0 : 0 ≤ t) (t1 : t < M 0 1 0 5) (hs : InR s) (ht : InR t) (C : Cx X S RX4 cX4_findPrice 5 120) (R : CR X S (rVQ (fun N => ∃ W, N = mst (mst M 2 (sF (M 2) (amax (bestP (M 0) s t) 30).1 (M 2 1 0 5) (amax (bestP (M 0) s t) 30).2)) 1 W)) none) :
    ∀ (n9 : Nat) (v P A : Int) (W : DM), (0 ≤ v) → (v ≤ 31) → (∀ u, EQ 0 0 (vup (M 0) 7 s t u) (vup W 7 s t u)) → (W 0 0 11 = -9) → ((v = 0 ∧ P = -1000) ∨ (0 < v ∧ (P, A) = amax (bestP (M 0) s t) (v - 1).toNat)) → 31 - v < n9 → PW X S (mst (mst M 2 (sF (M 2) P (M 2 1 0 5) A)) 1 W) 18 [some (rv S 2 1 0), some (rv S 0 0 0), some (iv s), some (iv t), some (iv v)] [] := by
  obtain ⟨i1, i2, i3, i4, i5, i6, i7, i8⟩ := id hI
  intro n9
  induction n9 with
  | zero => intro v P A W v0 v1 hW hW11 hp hn9; omega
  | succ n9 ih =>
    intro v P A W v0 v1 hW hW11 hp hn9
    refine pw_iload C dX4_findPrice_18 rfl ?_
    refine pw_bipush C dX4_findPrice_20 (by decide) ?_
    refine pw_icmp_gt (tgt := 85) C dX4_findPrice_22 rfl (by omega) (by omega) (fun c22 => ?_) (fun c22 => ?_)
    · refine pw_vret C R dX4_findPrice_85 ⟨rfl, W, ?_⟩
      rcases hp with ⟨h, -⟩ | ⟨h, hp⟩
      · omega
      · rw [show (v - 1).toNat = 30 by omega] at hp
        rw [← hp]
    · refine pw_aload_n C dX4_findPrice_25 rfl ?_
      refine gf_4_12 C dX4_findPrice_26 ?_
      refine gf_4_33 1 (by decide) C dX4_findPrice_29 ?_
      refine gf_4_56 1 (by decide) C dX4_findPrice_32 ?_
      refine pw_iload_n C dX4_findPrice_35 rfl ?_
      refine pw_aald C (qD_6 (by decide)) (by omega) (by omega) (by decide) dX4_findPrice_36 ?_
      refine pw_iload_n C dX4_findPrice_37 rfl ?_
      refine pw_iload C dX4_findPrice_38 rfl ?_
      refine pw_iastV C (aD_7 (by decide) (by omega) (by omega)) (by omega) (by omega) (by decide) (by omega) dX4_findPrice_40 ?_
      have hIu : DayOk (vup (M 0) 7 s t v) := price_ok hI v0 (by omega)
      have hIw := hIu.eq (hW v)
      have hN : gt (vup W 7 s t v) 1 0 6 = M 0 1 0 6 := by rw [(Fr.rf _).gtF 1 0 6 (by omega) (by omega), vup_k _ _ _ _ (by omega)]; have h := (hW v).n; rw [vup_k _ _ _ _ (by omega), vup_k _ _ _ _ (by omega)] at h; exact h
      have hq : profitV (gt (vup W 7 s t v)) = bestP (M 0) s t v := prf_e (g := 0) hIu (hW v) (Or.inl ⟨hk, hW11⟩)
      have hqr := prf_r hIu (Or.inl hk)
      have hqr2 : -324 ≤ bestP (M 0) s t v ∧ bestP (M 0) s t v ≤ 4884 := hqr
      refine pw_aload_n C dX4_findPrice_41 rfl ?_
      refine gf_4_12 C dX4_findPrice_42 ?_
      refine pw_cVV C [] mi_X1_goThrough mv_X1_goThrough ml_4_42 (oD_0 (by decide)) rfl (c_X1_goThrough (by decide) hIw (Or.inl hW11)) (by decide) rfl (Nat.le_of_ble_eq_true rfl) dX4_findPrice_45 ?_
      refine pw_aload_n C dX4_findPrice_48 rfl ?_
      refine gf_4_12 C dX4_findPrice_49 ?_
      refine pw_cVI C [] mi_X1_profit mv_X1_profit ml_4_45 (oD_0 (by decide)) rfl (c_X1_profit (by decide) (by omega) (by omega)) (by decide) rfl (Nat.le_of_ble_eq_true rfl) dX4_findPrice_52 ?_
      refine pw_aload_n C dX4_findPrice_55 rfl ?_
      refine pw_mem (mst_c _ _ _ (by decide)) ?_
      refine gv_4_53 C dX4_findPrice_56 (fun r56 => ?_)
      rw [sF_p] at r56
      rw [sF_p, hq]
      refine pw_icmp_le (tgt := 79) C dX4_findPrice_59 rfl (by omega) (by omega) (fun c59 => ?_) (fun c59 => ?_)
      · refine pw_iinc_4 C dX4_findPrice_79 (k := ?_)
        refine pw_goto (tgt := 18) C dX4_findPrice_82 rfl ?_
        refine pw_mem (mst_c _ _ _ (by decide)) ?_
        have hW2 : ∀ u, EQ 0 0 (vup (M 0) 7 s t u) (vup (gt (vup W 7 s t v)) 7 s t u) := fun u => by
          have hF : Fr (vup W 7 s t v) (gt (vup W 7 s t v)) := (Fr.rf _).gtF
          have h1 := (hW u)
          refine h1.tr (fun k r i hl => ?_)
          have hk12 : 1 ≤ k ∧ k ≤ 12 := by rcases hl with q | q | q | q | q | q | q | q | q <;> omega
          by_cases e : k = 7 ∧ r = s ∧ i = t
          · obtain ⟨rfl, rfl, rfl⟩ := e
            rw [vup_v, vup_v]
          · rw [vup_n _ e, vup_n _ e, hF k r i (by omega) (by omega), vup_n _ e]
        have hw2 : gt (vup W 7 s t v) 0 0 11 = -9 := by rw [(Fr.rf _).gtF 0 0 11 (by omega) (by omega)]; exact hW11
        have ea : 0 < v → amax (bestP (M 0) s t) v.toNat = if (amax (bestP (M 0) s t) (v - 1).toNat).1 < bestP (M 0) s t v then (bestP (M 0) s t v, v) else amax (bestP (M 0) s t) (v - 1).toNat := fun h => by
          rw [show v.toNat = (v - 1).toNat + 1 by omega]
          show (if (amax (bestP (M 0) s t) (v - 1).toNat).1 < bestP (M 0) s t (((v - 1).toNat : Int) + 1) then (bestP (M 0) s t (((v - 1).toNat : Int) + 1), ((v - 1).toNat : Int) + 1) else _) = _
          rw [show ((v - 1).toNat : Int) + 1 = v by omega]
        have ev : (v + 1 - 1).toNat = v.toNat := by omega
        first
          | (rw [sF_P, sF_A]
             refine ih (v + 1) _ _ _ (by omega) (by omega) hW2 hw2 (Or.inr ⟨by omega, ?_⟩) (by omega)
             rw [ev]
             rcases hp with ⟨rfl, rfl⟩ | ⟨h, hp⟩
             · rfl
             · rw [ea h, ← hp, if_pos (show P < _ by omega)])
          | (refine ih (v + 1) _ _ _ (by omega) (by omega) hW2 hw2 (Or.inr ⟨by omega, ?_⟩) (by omega)
             rw [ev]
             rcases hp with ⟨rfl, rfl⟩ | ⟨h, hp⟩
             · omega
             · rw [ea h, ← hp, if_neg (show ¬ (P < _) by omega)])
      · refine pw_aload_n C dX4_findPrice_62 rfl ?_
        refine pw_aload_n C dX4_findPrice_63 rfl ?_
        refine gf_4_12 C dX4_findPrice_64 ?_
        refine pw_mem (mst_c _ _ _ (by decide)) ?_
        refine pw_cVI C [] mi_X1_profit mv_X1_profit ml_4_45 (oD_0 (by decide)) rfl (c_X1_profit (by decide) (by omega) (by omega)) (by decide) rfl (Nat.le_of_ble_eq_true rfl) dX4_findPrice_67 ?_
        rw [hq]
        refine pw_mem (mst_c _ _ _ (by decide)) ?_
        refine pv_4_53 C (by omega) dX4_findPrice_70 ?_
        refine pw_aload_n C dX4_findPrice_73 rfl ?_
        refine pw_iload C dX4_findPrice_74 rfl ?_
        refine pv_4_60 C (by omega) dX4_findPrice_76 ?_
        refine pw_iinc_4 C dX4_findPrice_79 (k := ?_)
        refine pw_goto (tgt := 18) C dX4_findPrice_82 rfl ?_
        refine pw_mem (mst_c _ _ _ (by decide)) ?_
        have hW2 : ∀ u, EQ 0 0 (vup (M 0) 7 s t u) (vup (gt (vup W 7 s t v)) 7 s t u) := fun u => by
          have hF : Fr (vup W 7 s t v) (gt (vup W 7 s t v)) := (Fr.rf _).gtF
          have h1 := (hW u)
          refine h1.tr (fun k r i hl => ?_)
          have hk12 : 1 ≤ k ∧ k ≤ 12 := by rcases hl with q | q | q | q | q | q | q | q | q <;> omega
          by_cases e : k = 7 ∧ r = s ∧ i = t
          · obtain ⟨rfl, rfl, rfl⟩ := e
            rw [vup_v, vup_v]
          · rw [vup_n _ e, vup_n _ e, hF k r i (by omega) (by omega), vup_n _ e]
        have hw2 : gt (vup W 7 s t v) 0 0 11 = -9 := by rw [(Fr.rf _).gtF 0 0 11 (by omega) (by omega)]; exact hW11
        have ea : 0 < v → amax (bestP (M 0) s t) v.toNat = if (amax (bestP (M 0) s t) (v - 1).toNat).1 < bestP (M 0) s t v then (bestP (M 0) s t v, v) else amax (bestP (M 0) s t) (v - 1).toNat := fun h => by
          rw [show v.toNat = (v - 1).toNat + 1 by omega]
          show (if (amax (bestP (M 0) s t) (v - 1).toNat).1 < bestP (M 0) s t (((v - 1).toNat : Int) + 1) then (bestP (M 0) s t (((v - 1).toNat : Int) + 1), ((v - 1).toNat : Int) + 1) else _) = _
          rw [show ((v - 1).toNat : Int) + 1 = v by omega]
        have ev : (v + 1 - 1).toNat = v.toNat := by omega
        first
          | (rw [sF_P, sF_A]
             refine ih (v + 1) _ _ _ (by omega) (by omega) hW2 hw2 (Or.inr ⟨by omega, ?_⟩) (by omega)
             rw [ev]
             rcases hp with ⟨rfl, rfl⟩ | ⟨h, hp⟩
             · rfl
             · rw [ea h, ← hp, if_pos (show P < _ by omega)])
          | (refine ih (v + 1) _ _ _ (by omega) (by omega) hW2 hw2 (Or.inr ⟨by omega, ?_⟩) (by omega)
             rw [ev]
             rcases hp with ⟨rfl, rfl⟩ | ⟨h, hp⟩
             · omega
             · rw [ea h, ← hp, if_neg (show ¬ (P < _) by omega)])
set_option maxRecDepth 100000 in
set_option maxHeartbeats 400000 in
theorem c_X4_findPrice {l : Launch} {S : SW} {M : Mem} {s t : Int}  (hs : InR s) (ht : InR t) (hI : DayOk (M 0)) (hk : M 0 0 0 11 = -9) (s0 : 0 ≤ s) (s1 : s < M 0 1 0 6) (t0 : 0 ≤ t) (t1 : t < M 0 1 0 5) : PM l S yX4_findPrice cX4_findPrice 5 none 5 120 [rv S 2 1 0, rv S 0 0 0, iv s, iv t] (M) (rVQ (fun N => ∃ W, N = mst (mst M 2 (sF (M 2) (amax (bestP (M 0) s t) 30).1 (M 2 1 0 5) (amax (bestP (M 0) s t) 30).2)) 1 W)) := by
  refine PM.of (own := RX4) (by decide) rfl [some (rv S 2 1 0), some (rv S 0 0 0), some (iv s), some (iv t), none] rfl rfl (Nat.le_of_ble_eq_true rfl) (fun X hXl C R => ?_)
  subst hXl
  obtain ⟨i1, i2, i3, i4, i5, i6, i7, i8⟩ := id hI
  refine pw_21 ?_
  refine pw_aload_n C dX4_findPrice_0 rfl ?_
  refine gf_4_12 C dX4_findPrice_1 ?_
  refine pw_aload_n C dX4_findPrice_4 rfl ?_
  refine pw_cVQV C [_] mi_X1_become mv_X1_become ml_4_29 (oD_0 (by decide)) rfl (c_X1_become (by have h8 := hI.2.2.2.2.2.2.2; exact h8)) (by decide) rfl (Nat.le_of_ble_eq_true rfl) dX4_findPrice_5 ?_
  rintro N9 ⟨W, rfl, hW⟩
  have hW : CopyD (M 0) W := hW
  have hE := hW.eq hI
  refine pw_aload_n C dX4_findPrice_8 rfl ?_
  refine pw_sipush C dX4_findPrice_9 (by decide) ?_
  refine pw_mem (mst_c _ _ _ (by decide)) ?_
  refine pv_4_53 C (by omega) dX4_findPrice_12 ?_
  refine pw_iconst C dX4_findPrice_15 ?_
  refine pw_istore_4 C dX4_findPrice_16 (k := ?_)
  refine pw_mem (mst_c _ _ _ (by decide)) ?_
  have e := sF_P (M 2) (M 2 1 0 4) (M 2 1 0 5) (M 2 1 0 6) (-1000)
  rw [sF_id] at e
  rw [e]
  exact L_X4_findPrice hI hk s0 s1 t0 t1 hs ht C R 32 0 _ _ W (by omega) (by omega) (fun u => hE.up _ (by omega)) hW.2.2.2.2.2 (Or.inl ⟨rfl, rfl⟩) (by omega)
