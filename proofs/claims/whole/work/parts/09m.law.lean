set_option maxRecDepth 100000 in
set_option maxHeartbeats 1000000 in
theorem law_beside {X : PX} {S : SW} {M : Mem} {b L : Nat} {sc : Nat → Int32} {i : Int} (C : Cx X S RL cL_law 11 448) (Q : Sc X b L sc) (hR : Rel M) (i0 : 0 ≤ i) (i1 : i + 10 ≤ (L : Int)) (K : ∀ M2 : Mem, Rel M2 → PW X S M2 1612 [some (.ref b), some (rv S 2 0 0), some (rv S 3 0 0), some (iv i)] []) : PW X S M 506 [some (.ref b), some (rv S 2 0 0), some (rv S 3 0 0), some (iv i)] [] := by
  have hL := Q.2.2.2
  refine pw_aload_n C dL_law_506 rfl ?_
  refine pw_aref C dL_law_507 rfl ?_
  refine pw_iload_n C dL_law_508 rfl ?_
  refine pw_iconst C dL_law_509 ?_
  refine pw_iadd C dL_law_510 ?_
  refine pw_sld C Q (by omega) (by omega) dL_law_511 ?_
  refine pw_if_eq (tgt := 519) C dL_law_512 rfl (sv_R _ _) (fun c => ?_) (fun c => ?_)
  · refine pw_iconst C dL_law_519 ?_
    refine pw_cVP C [_] mi_X8_beside mv_X8_beside ml_L_50 oC_0 rfl (c_X8_beside ⟨by decide, by decide⟩ hR.1 hR.2.1 hR.2.2.1 (Or.inl rfl)) (by decide) rfl (Nat.le_of_ble_eq_true rfl) dL_law_520 ?_
    rintro v8 N ⟨rfl, hKP⟩
    refine pw_V 3 ?_
    rw [hKP.1]
    refine pw_aload_n C dL_law_523 rfl ?_
    refine pw_aref C dL_law_524 rfl ?_
    refine pw_iload_n C dL_law_525 rfl ?_
    refine pw_iconst C dL_law_526 ?_
    refine pw_iadd C dL_law_527 ?_
    refine pw_sld C Q (by omega) (by omega) dL_law_528 ?_
    refine pw_if_eq (tgt := 536) C dL_law_529 rfl (sv_R _ _) (fun _ => ?_) (fun h => absurd c h)
    refine pw_iconst C dL_law_536 ?_
    refine pw_cVP C [_] mi_X9_beside mv_X9_beside ml_L_54 oM_0 rfl (c_X9_beside ⟨by decide, by decide⟩ hR.i9 (Or.inl rfl)) (by decide) rfl (Nat.le_of_ble_eq_true rfl) dL_law_537 ?_
    rintro v9 N2 ⟨rfl, U, rfl, hU, hP⟩
    rw [e_beside hR.2.2.2.1]
    refine pw_isame (tgt := 1612) C dL_law_540 rfl ?_
    exact K _ (hR.day hKP (ok_beside hR.1 (Or.inl rfl)) (at_vif rfl rfl) (at_vif rfl rfl) (at_vif rfl rfl) (v_beside hR.2.2.2.1 _) (by rw [hU]; exact EQ.rf 0 0 _) (P3.msE hP))
  · refine pw_iconst C dL_law_515 ?_
    refine pw_goto (tgt := 520) C dL_law_516 rfl ?_
    refine pw_cVP C [_] mi_X8_beside mv_X8_beside ml_L_50 oC_0 rfl (c_X8_beside ⟨by decide, by decide⟩ hR.1 hR.2.1 hR.2.2.1 (Or.inr rfl)) (by decide) rfl (Nat.le_of_ble_eq_true rfl) dL_law_520 ?_
    rintro v8 N ⟨rfl, hKP⟩
    refine pw_V 3 ?_
    rw [hKP.1]
    refine pw_aload_n C dL_law_523 rfl ?_
    refine pw_aref C dL_law_524 rfl ?_
    refine pw_iload_n C dL_law_525 rfl ?_
    refine pw_iconst C dL_law_526 ?_
    refine pw_iadd C dL_law_527 ?_
    refine pw_sld C Q (by omega) (by omega) dL_law_528 ?_
    refine pw_if_eq (tgt := 536) C dL_law_529 rfl (sv_R _ _) (fun h => absurd h c) (fun _ => ?_)
    refine pw_iconst C dL_law_532 ?_
    refine pw_goto (tgt := 537) C dL_law_533 rfl ?_
    refine pw_cVP C [_] mi_X9_beside mv_X9_beside ml_L_54 oM_0 rfl (c_X9_beside ⟨by decide, by decide⟩ hR.i9 (Or.inr rfl)) (by decide) rfl (Nat.le_of_ble_eq_true rfl) dL_law_537 ?_
    rintro v9 N2 ⟨rfl, U, rfl, hU, hP⟩
    rw [e_beside hR.2.2.2.1]
    refine pw_isame (tgt := 1612) C dL_law_540 rfl ?_
    exact K _ (hR.day hKP (ok_beside hR.1 (Or.inr rfl)) (at_vif rfl rfl) (at_vif rfl rfl) (at_vif rfl rfl) (v_beside hR.2.2.2.1 _) (by rw [hU]; exact EQ.rf 0 0 _) (P3.msE hP))
set_option maxRecDepth 100000 in
set_option maxHeartbeats 2000000 in
theorem law_loop {X : PX} {S : SW} {b L : Nat} {sc : Nat → Int32} (C : Cx X S RL cL_law 11 448) (Q : Sc X b L sc) (E : ∀ (M : Mem) (i : Int), PW X S M 1618 [some (.ref b), some (rv S 2 0 0), some (rv S 3 0 0), some (iv i)] []) : ∀ (n9 : Nat) (i : Int) (M : Mem), 0 ≤ i → i ≤ 6000 → Rel M → (L : Int) - i < n9 → PW X S M 18 [some (.ref b), some (rv S 2 0 0), some (rv S 3 0 0), some (iv i)] [] := by
  have hL := Q.2.2.2
  intro n9
  induction n9 with
  | zero =>
    intro i M i0 i1 hR hn
    refine pw_iload_n C dL_law_18 rfl ?_
    refine pw_aref C dL_law_19 rfl ?_
    refine pw_slen C Q dL_law_20 ?_
    refine pw_bipush C dL_law_21 (by decide) ?_
    refine pw_isub C dL_law_23 ?_
    refine pw_icmp_gt (tgt := 1618) C dL_law_24 rfl (by omega) (by omega) (fun _ => E M i) (fun c => ?_)
    omega
  | succ n9 ih =>
    intro i M i0 i1 hR hn
    refine pw_iload_n C dL_law_18 rfl ?_
    refine pw_aref C dL_law_19 rfl ?_
    refine pw_slen C Q dL_law_20 ?_
    refine pw_bipush C dL_law_21 (by decide) ?_
    refine pw_isub C dL_law_23 ?_
    refine pw_icmp_gt (tgt := 1618) C dL_law_24 rfl (by omega) (by omega) (fun _ => E M i) (fun c => ?_)
    have i2 : i + 10 ≤ (L : Int) := by omega
    have K : ∀ M2 : Mem, Rel M2 → PW X S M2 1612 [some (.ref b), some (rv S 2 0 0), some (rv S 3 0 0), some (iv i)] [] := fun M2 h2 => by
      refine pw_iinc_3 C dL_law_1612 (k := ?_)
      refine pw_goto (tgt := 18) C dL_law_1615 rfl ?_
      exact ih (i + 10) M2 (by omega) (by omega) h2 (by omega)
    refine pw_aref C dL_law_27 rfl ?_
    refine pw_iload_n C dL_law_28 rfl ?_
    refine pw_sld C Q (by omega) (by omega) dL_law_29 ?_
    refine pw_bipush C dL_law_30 (by decide) ?_
    refine pw_iand C (Int32.ofInt_toInt _).symm dL_law_32 ?_
    exact pw_tsw36 C 192 245 278 311 344 377 420 483 506 545 598 631 674 697 730 763 806 829 852 875 918 1030 1117 1161 1204 1268 1311 1334 1377 1421 1484 1507 1530 1563 1576 1589 1612 (toR _) dL_law_33 rfl rfl rfl rfl rfl rfl rfl rfl rfl rfl rfl rfl rfl rfl rfl rfl rfl rfl rfl rfl rfl rfl rfl rfl rfl rfl rfl rfl rfl rfl rfl rfl rfl rfl rfl rfl rfl rfl (fun _ => law_stall C Q hR i0 i2 K) (fun _ => law_ofSort C Q hR i0 i2 K) (fun _ => law_fresh C Q hR i0 i2 K) (fun _ => law_fish C Q hR i0 i2 K) (fun _ => law_slate C Q hR i0 i2 K) (fun _ => law_write C Q hR i0 i2 K) (fun _ => law_copyOut C Q hR i0 i2 K) (fun _ => law_soup C Q hR i0 i2 K) (fun _ => law_beside C Q hR i0 i2 K) (fun _ => law_buyer C Q hR i0 i2 K) (fun _ => law_ofBuyer C Q hR i0 i2 K) (fun _ => law_worth C Q hR i0 i2 K) (fun _ => law_day C Q hR i0 i2 K) (fun _ => law_bought C Q hR i0 i2 K) (fun _ => law_sold C Q hR i0 i2 K) (fun _ => law_best C Q hR i0 i2 K) (fun _ => law_takeOff C Q hR i0 i2 K) (fun _ => law_fetch C Q hR i0 i2 K) (fun _ => law_carried C Q hR i0 i2 K) (fun _ => law_cook C Q hR i0 i2 K) (fun _ => law_mean C Q hR i0 i2 K) (fun _ => law_howMany C Q hR i0 i2 K) (fun _ => law_right C Q hR i0 i2 K) (fun _ => law_rests C Q hR i0 i2 K) (fun _ => law_mixed C Q hR i0 i2 K) (fun _ => law_sheet C Q hR i0 i2 K) (fun _ => law_lose C Q hR i0 i2 K) (fun _ => law_put C Q hR i0 i2 K) (fun _ => law_cell C Q hR i0 i2 K) (fun _ => law_copy C Q hR i0 i2 K) (fun _ => law_tell C Q hR i0 i2 K) (fun _ => law_greet C Q hR i0 i2 K) (fun _ => law_as C Q hR i0 i2 K) (fun _ => law_trace C Q hR i0 i2 K) (fun _ => law_fault C Q hR i0 i2 K) (fun _ => law_many C Q hR i0 i2 K) (fun _ => K M hR)
theorem Z0_rel : Rel Z0 := by
  refine ⟨⟨⟨by decide, by decide⟩, ⟨by decide, by decide⟩, ⟨by decide, by decide⟩, fun x a b => ?_, fun s a b => ?_, fun s t a b => ?_, ⟨by decide, by decide⟩, Or.inl rfl⟩, rfl, fun k a b => ?_, fun k r i hl => ?_, fun k r i hk => ?_, fun _ => rfl⟩
  · have h : x < 0 := b
    omega
  · have h : s < 0 := b
    omega
  · have h : s < 0 := b
    omega
  · show -1 ≤ (if 9 = 9 ∧ 0 ≤ k ∧ k < 4 then -1 else 0) ∧ (if 9 = 9 ∧ 0 ≤ k ∧ k < 4 then -1 else 0) ≤ (60 : Int)
    split <;> omega
  · have hl : LC 0 0 0 0 0 k r i := hl
    have h : (k = 1 ∧ r = 0 ∧ 5 ≤ i ∧ i ≤ 8) ∨ (k = 8 ∧ r = 0 ∧ i = 4) := by rcases hl with q | q | q | q | q | q | q | q | q <;> omega
    rcases h with ⟨rfl, rfl, a, b⟩ | ⟨rfl, rfl, rfl⟩
    · have e : i = 5 ∨ i = 6 ∨ i = 7 ∨ i = 8 := by omega
      rcases e with rfl | rfl | rfl | rfl <;> rfl
    · rfl
  · rcases hk with rfl | rfl | rfl | rfl
    · show (0 : Int) = if r = 0 ∧ i = 5 then 0 else if r = 0 ∧ i = 6 then 0 else 0
      split
      · rfl
      · split <;> rfl
    · show (0 : Int) = if 0 ≤ i ∧ i < 60 then 0 else 0
      split <;> rfl
    · rfl
    · show (if 9 = 9 ∧ 0 ≤ i ∧ i < 4 then (-1 : Int) else 0) = if 35 = 35 ∧ 0 ≤ i ∧ i < 4 then -1 else 0
      by_cases h : 0 ≤ i ∧ i < 4
      · rw [if_pos ⟨rfl, h⟩, if_pos ⟨rfl, h⟩]
      · rw [if_neg (fun q => h q.2), if_neg (fun q => h q.2)]
