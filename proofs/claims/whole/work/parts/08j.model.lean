set_option maxRecDepth 100000 in
set_option maxHeartbeats 400000 in
theorem L_X9_goThroughB {X : PX} {S : SW} {M : Mem} {V : DM} {D : DM} {s z q g : Int}  (hI : DayOk (mv V)) (hD : DayOk D) (hcD : CookOk D) (hDV : ∀ (k : Nat) (r i : Int), k ≠ 0 → D k r i = mv V k r i) (hD0 : D 0 0 10 = s ∧ D 0 0 11 = z ∧ D 0 0 12 = q) (hg : g = 1 → z = -9) (hz : InR z) (hs : InR s) (hq : InR q) (hDe : D = cookV (mv V) s z q) (C : Cx X S RX9 cX9_goThrough 6 144) (R : CR X S (rVQ (fun N => ∃ U, N = mst M 3 U ∧ EQ g 1 (gt D) (mv U) ∧ K3 V U)) none) :
    ∀ (n9 : Nat) (x : Int) (W : DM), (0 ≤ x) → (x ≤ V 0 0 15) → (OpR V (V 0 0 2) x W) → V 0 0 15 - x < n9 → PW X S (mst M 3 W) 47 [some (rv S 3 0 0), some (iv s), some (iv z), some (iv q), some (iv x), none, none] [] := by
  obtain ⟨i1, i2, i3, i4, i5, i6, i7, i8⟩ := id hI
  have e5 : mv V 1 0 5 = V 0 0 1 := rfl
  have e6 : mv V 1 0 6 = V 0 0 2 := rfl
  have e7 : mv V 1 0 7 = V 0 0 8 := rfl
  have e8 : mv V 1 0 8 = V 0 0 9 := rfl
  have e84 : mv V 8 0 4 = V 0 0 15 := rfl
  intro n9
  induction n9 with
  | zero => intro x W x0 x1 hW hn9; omega
  | succ n9 ih =>
    intro x W x0 x1 hW hn9
    have w15 : W 0 0 15 = V 0 0 15 := hW.1 8 0 4 (by omega) (by omega)
    refine pw_iload C dX9_goThrough_47 rfl ?_
    refine pw_aload_n C dX9_goThrough_49 rfl ?_
    refine gv_9_153 C dX9_goThrough_50 (fun r50 => ?_)
    refine pw_icmp_ge (tgt := 97) C dX9_goThrough_53 rfl (by omega) (by omega) (fun c53 => ?_) (fun c53 => ?_)
    · refine pw_iconst C dX9_goThrough_97 ?_
      refine pw_istore_4 C dX9_goThrough_98 (k := ?_)
      have e : V 0 0 15 = x := by omega
      rw [← e] at hW
      exact L_X9_goThrough1 hI hD hcD hDV hD0 hg hz hs hq C R (V 0 0 1 + 1).toNat 0 W (by omega) (by omega) (by rw [hDe]; exact hW.e hI s z q) hW.2.1 hW.w (by omega)
    · refine pw_aload_n C dX9_goThrough_56 rfl ?_
      refine gf_9_43 C dX9_goThrough_57 ?_
      refine pw_iload C dX9_goThrough_60 rfl ?_
      refine pw_bipush C dX9_goThrough_62 (by decide) ?_
      refine pw_iastV C aM_23 (by omega) (by omega) (by decide) (by omega) dX9_goThrough_64 ?_
      refine pw_aload_n C dX9_goThrough_65 rfl ?_
      refine gf_9_46 C dX9_goThrough_66 ?_
      refine pw_iload C dX9_goThrough_69 rfl ?_
      refine pw_bipush C dX9_goThrough_71 (by decide) ?_
      refine pw_iastV C aM_24 (by omega) (by omega) (by decide) (by omega) dX9_goThrough_73 ?_
      refine pw_aload_n C dX9_goThrough_74 rfl ?_
      refine gf_9_49 C dX9_goThrough_75 ?_
      refine pw_iload C dX9_goThrough_78 rfl ?_
      refine pw_bipush C dX9_goThrough_80 (by decide) ?_
      refine pw_iastV C aM_25 (by omega) (by omega) (by decide) (by omega) dX9_goThrough_82 ?_
      refine pw_aload_n C dX9_goThrough_83 rfl ?_
      refine gf_9_52 C dX9_goThrough_84 ?_
      refine pw_iload C dX9_goThrough_87 rfl ?_
      refine pw_iconst C dX9_goThrough_89 ?_
      refine pw_iastV C aM_26 (by omega) (by omega) (by decide) (by omega) dX9_goThrough_90 ?_
      refine pw_iinc_4 C dX9_goThrough_91 (k := ?_)
      refine pw_goto (tgt := 47) C dX9_goThrough_94 rfl ?_
      exact ih (x + 1) _ (by omega) (by omega) hW.b (by omega)
set_option maxRecDepth 100000 in
set_option maxHeartbeats 400000 in
theorem L_X9_goThroughA {X : PX} {S : SW} {M : Mem} {V : DM} {D : DM} {s z q g : Int}  (hI : DayOk (mv V)) (hD : DayOk D) (hcD : CookOk D) (hDV : ∀ (k : Nat) (r i : Int), k ≠ 0 → D k r i = mv V k r i) (hD0 : D 0 0 10 = s ∧ D 0 0 11 = z ∧ D 0 0 12 = q) (hg : g = 1 → z = -9) (hz : InR z) (hs : InR s) (hq : InR q) (hDe : D = cookV (mv V) s z q) (C : Cx X S RX9 cX9_goThrough 6 144) (R : CR X S (rVQ (fun N => ∃ U, N = mst M 3 U ∧ EQ g 1 (gt D) (mv U) ∧ K3 V U)) none) :
    ∀ (n9 : Nat) (x : Int) (W : DM), (0 ≤ x) → (x ≤ V 0 0 2) → (OpR V x 0 W) → V 0 0 2 - x < n9 → PW X S (mst M 3 W) 12 [some (rv S 3 0 0), some (iv s), some (iv z), some (iv q), some (iv x), none, none] [] := by
  obtain ⟨i1, i2, i3, i4, i5, i6, i7, i8⟩ := id hI
  have e5 : mv V 1 0 5 = V 0 0 1 := rfl
  have e6 : mv V 1 0 6 = V 0 0 2 := rfl
  have e7 : mv V 1 0 7 = V 0 0 8 := rfl
  have e8 : mv V 1 0 8 = V 0 0 9 := rfl
  have e84 : mv V 8 0 4 = V 0 0 15 := rfl
  intro n9
  induction n9 with
  | zero => intro x W x0 x1 hW hn9; omega
  | succ n9 ih =>
    intro x W x0 x1 hW hn9
    have w2 : W 0 0 2 = V 0 0 2 := hW.1 1 0 6 (by omega) (by omega)
    refine pw_iload C dX9_goThrough_12 rfl ?_
    refine pw_aload_n C dX9_goThrough_14 rfl ?_
    refine gv_9_116 C dX9_goThrough_15 (fun r15 => ?_)
    refine pw_icmp_ge (tgt := 44) C dX9_goThrough_18 rfl (by omega) (by omega) (fun c18 => ?_) (fun c18 => ?_)
    · refine pw_iconst C dX9_goThrough_44 ?_
      refine pw_istore_4 C dX9_goThrough_45 (k := ?_)
      have e : V 0 0 2 = x := by omega
      rw [← e] at hW
      exact L_X9_goThroughB hI hD hcD hDV hD0 hg hz hs hq hDe C R (V 0 0 15 + 1).toNat 0 W (by omega) (by omega) hW (by omega)
    · refine pw_aload_n C dX9_goThrough_21 rfl ?_
      refine gf_9_55 C dX9_goThrough_22 ?_
      refine pw_iload C dX9_goThrough_25 rfl ?_
      refine pw_bipush C dX9_goThrough_27 (by decide) ?_
      refine pw_iastV C aM_27 (by omega) (by omega) (by decide) (by omega) dX9_goThrough_29 ?_
      refine pw_aload_n C dX9_goThrough_30 rfl ?_
      refine gf_9_58 C dX9_goThrough_31 ?_
      refine pw_iload C dX9_goThrough_34 rfl ?_
      refine pw_iconst C dX9_goThrough_36 ?_
      refine pw_iastV C aM_28 (by omega) (by omega) (by decide) (by omega) dX9_goThrough_37 ?_
      refine pw_iinc_4 C dX9_goThrough_38 (k := ?_)
      refine pw_goto (tgt := 12) C dX9_goThrough_41 rfl ?_
      exact ih (x + 1) _ (by omega) (by omega) hW.s (by omega)
set_option maxRecDepth 100000 in
set_option maxHeartbeats 400000 in
theorem c_X9_goThrough {l : Launch} {S : SW} {M : Mem} {V : DM} {s z q : Int} {g : Int}  (hs : InR s) (hz : InR z) (hq : InR q) (hI : DayOk (mv V)) (hc : z = -9 ∨ ((0 ≤ s ∧ s < V 0 0 2) ∧ 0 ≤ q ∧ q ≤ 30)) (hg : g = 1 → z = -9) : PM l S yX9_goThrough cX9_goThrough 7 none 6 144 [rv S 3 0 0, iv s, iv z, iv q] (mst M 3 V) (rVQ (fun N => ∃ U, N = mst M 3 U ∧ EQ g 1 (gt (cookV (mv V) s z q)) (mv U) ∧ K3 V U)) := by
  refine PM.of (own := RX9) (by decide) rfl [some (rv S 3 0 0), some (iv s), some (iv z), some (iv q), none, none, none] rfl rfl (Nat.le_of_ble_eq_true rfl) (fun X hXl C R => ?_)
  subst hXl
  obtain ⟨i1, i2, i3, i4, i5, i6, i7, i8⟩ := id hI
  have e5 : mv V 1 0 5 = V 0 0 1 := rfl
  have e6 : mv V 1 0 6 = V 0 0 2 := rfl
  have e7 : mv V 1 0 7 = V 0 0 8 := rfl
  have e8 : mv V 1 0 8 = V 0 0 9 := rfl
  have e84 : mv V 8 0 4 = V 0 0 15 := rfl
  refine pw_aload_n C dX9_goThrough_0 rfl ?_
  refine pw_cVQV C [] mi_X9_layAll mv_X9_layAll ml_9_194 oM_0 rfl (c_X9_layAll hI) (by decide) rfl (Nat.le_of_ble_eq_true rfl) dX9_goThrough_1 ?_
  rintro N9 ⟨U, rfl, hU⟩
  refine pw_aload_n C dX9_goThrough_4 rfl ?_
  refine pw_iconst C dX9_goThrough_5 ?_
  refine pv_9_207 C (by omega) dX9_goThrough_6 ?_
  refine pw_iconst C dX9_goThrough_9 ?_
  refine pw_istore_4 C dX9_goThrough_10 (k := ?_)
  have hQ := cookV_0 (mv V) s z q
  exact L_X9_goThroughA hI (cookV_ok hI s z q) (hc.elim (fun h => Or.inl (by rw [hQ.2.1]; exact h)) (fun h => Or.inr (by rw [hQ.1, hQ.2.2]; exact h))) (fun k r i h => cookV_at _ _ _ _ h) hQ hg hz hs hq rfl C R (V 0 0 2 + 1).toNat 0 _ (by omega) (by omega) ⟨by rw [mvf_21]; exact hU.1.up (by omega), hU.2.2.up (by omega), rfl, fun x a b => hU.2.1 x a b, fun x a b => by omega, fun x a b => by omega⟩ (by omega)
