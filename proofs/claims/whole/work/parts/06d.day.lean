theorem hour_W {V W0 W : DM} (hF : Fr V W0) {t x : Int} (hW : W = iterI (fun x U => visit U x t) (cookAt W0 t) x) : Fr V W := by
  rw [hW]
  exact iterI_inv (R := fun U => Fr V U) (hF.cookAtF t) (fun j U _ _ hU => hU.visitF j t)
theorem day_W {V W : DM} {t : Int} (hW : W = iterI (fun t U => hourV U t) (openV V) t) : Fr V W := by
  rw [hW]
  exact iterI_inv (R := fun U => Fr V U) (Fr.rf V).openVF (fun j U _ _ hU => hU.hourVF j)
set_option maxRecDepth 100000 in
set_option maxHeartbeats 400000 in
theorem L_X1_goThrough2 {X : PX} {S : SW} {M : Mem} {V : DM} {d : Nat} {W0 : DM} {t : Int}  (hd : d < 2) (hI : DayOk V) (hF : Fr V W0) (t0 : 0 ≤ t) (t1 : t < V 1 0 5) (K : PW X S (mst M d (hourV W0 t)) 90 [some (rv S d 0 0), some (iv t), none, none] []) (C : Cx X S RX1 cX1_goThrough 4 97) (R : CR X S (rV (mst M d (gt V))) none) :
    ∀ (n9 : Nat) (x : Int) (W : DM), (0 ≤ x) → (x ≤ V 8 0 4) → (W = iterI (fun x U => visit U x t) (cookAt W0 t) x) → V 8 0 4 - x < n9 → PW X S (mst M d W) 31 [some (rv S d 0 0), some (iv t), some (iv x), none] [] := by
  obtain ⟨i1, i2, i3, i4, i5, i6, i7, i8⟩ := id hI
  intro n9
  induction n9 with
  | zero => intro x W x0 x1 hW hn9; omega
  | succ n9 ih =>
    intro x W x0 x1 hW hn9
    have hFW : Fr V W := hour_W hF hW
    have e8 : W 8 0 4 = V 8 0 4 := hFW 8 0 4 (by omega) (by omega)
    have e5 : W 1 0 5 = V 1 0 5 := hFW 1 0 5 (by omega) (by omega)
    have e6 : W 1 0 6 = V 1 0 6 := hFW 1 0 6 (by omega) (by omega)
    have hIW := hI.fr hFW
    refine pw_iload_n C dX1_goThrough_31 rfl ?_
    refine pw_aload_n C dX1_goThrough_32 rfl ?_
    refine gf_1_21 d hd C dX1_goThrough_33 ?_
    refine gv_1_73 d hd C dX1_goThrough_36 (fun r36 => ?_)
    refine pw_icmp_ge (tgt := 90) C dX1_goThrough_39 rfl (by omega) (by omega) (fun c39 => ?_) (fun c39 => ?_)
    · have e : V 8 0 4 = x := by omega
      have e0 : W0 8 0 4 = x := by rw [hF 8 0 4 (by omega) (by omega)]; exact e
      refine pw_fg 2 rfl ?_
      have k := K
      unfold hourV at k
      rw [e0, ← hW] at k
      exact k
    · refine pw_aload_n C dX1_goThrough_42 rfl ?_
      refine pw_iload_n C dX1_goThrough_43 rfl ?_
      refine pw_iload_n C dX1_goThrough_44 rfl ?_
      refine pw_cVI C [_, _] mi_X1_comes mv_X1_comes ml_1_85 (oD_0 hd) rfl (c_X1_comes hd (by omega) (by omega) hIW (by omega) (by omega)) (by decide) rfl (Nat.le_of_ble_eq_true rfl) dX1_goThrough_45 ?_
      refine pw_if_ne_b (tgt := 54) C dX1_goThrough_48 rfl (fun c48 => ?_) (fun c48 => ?_)
      · refine pw_aload_n C dX1_goThrough_54 rfl ?_
        refine gf_1_44 d hd C dX1_goThrough_55 ?_
        refine pw_iload_n C dX1_goThrough_58 rfl ?_
        refine pw_dup2 C dX1_goThrough_59 rfl rfl ?_
        refine pw_ialdV C (aD_19 hd) (by omega) (by omega) (by decide) dX1_goThrough_60 (fun r60 => ?_)
        refine pw_iconst C dX1_goThrough_61 ?_
        refine pw_iadd C dX1_goThrough_62 ?_
        refine pw_w ?_
        refine pw_iastV C (aD_19 hd) (by omega) (by omega) (by decide) (w32_R _) dX1_goThrough_63 ?_
        obtain ⟨V1, hV1⟩ : ∃ V1, V1 = vup W 19 0 x (w32 (W 19 0 x + 1)) := ⟨_, rfl⟩
        rw [← hV1]
        have hF1 : Fr V V1 := by rw [hV1]; exact hFW.up (by omega)
        have f8 : V1 8 0 4 = V 8 0 4 := hF1 8 0 4 (by omega) (by omega)
        have f5 : V1 1 0 5 = V 1 0 5 := hF1 1 0 5 (by omega) (by omega)
        have f6 : V1 1 0 6 = V 1 0 6 := hF1 1 0 6 (by omega) (by omega)
        have hI1 := hI.fr hF1
        refine pw_aload_n C dX1_goThrough_64 rfl ?_
        refine pw_iload_n C dX1_goThrough_65 rfl ?_
        refine pw_iload_n C dX1_goThrough_66 rfl ?_
        refine pw_cVI C [_, _] mi_X1_choiceOf mv_X1_choiceOf ml_1_89 (oD_0 hd) rfl (c_X1_choiceOf hd (by omega) (by omega) hI1 (by omega) (by omega) (by omega) (by omega)) (by decide) rfl (Nat.le_of_ble_eq_true rfl) dX1_goThrough_67 ?_
        have hc := choice_r hI1 x0 (show x < V1 8 0 4 by omega) t0 (show t < V1 1 0 5 by omega)
        refine pw_istore_3 C dX1_goThrough_70 (k := ?_)
        refine pw_iload_n C dX1_goThrough_71 rfl ?_
        refine pw_bipush C dX1_goThrough_72 (by decide) ?_
        refine pw_icmp_eq (tgt := 84) C dX1_goThrough_74 rfl (by omega) (by omega) (fun c74 => ?_) (fun c74 => ?_)
        · refine pw_iinc_2 C dX1_goThrough_84 (k := ?_)
          refine pw_goto (tgt := 31) C dX1_goThrough_87 rfl ?_
          refine pw_fg 3 rfl ?_
          refine ih (x + 1) _ (by omega) (by omega) ?_ (by omega)
          rw [iterI_s _ _ x0, ← hW]
          unfold visit
          first | rw [if_neg c48] | (rw [if_pos c48]; show _ = ite _ _ _; first | rw [if_pos (show choice _ x t = -9 by rw [← hV1]; assumption), ← hV1] | rw [if_neg (show ¬ (choice _ x t = -9) by rw [← hV1]; assumption), ← hV1])
        · refine pw_aload_n C dX1_goThrough_77 rfl ?_
          refine pw_iload_n C dX1_goThrough_78 rfl ?_
          refine pw_iload_n C dX1_goThrough_79 rfl ?_
          refine pw_iload_n C dX1_goThrough_80 rfl ?_
          refine pw_cVV C [_, _, _] mi_X1_sellOne mv_X1_sellOne ml_1_93 (oD_0 hd) rfl (c_X1_sellOne hd (by omega) (by omega) (by omega) hI1 (by omega) (by omega) (by omega) (by omega) (by omega) (by omega)) (by decide) rfl (Nat.le_of_ble_eq_true rfl) dX1_goThrough_81 ?_
          refine pw_iinc_2 C dX1_goThrough_84 (k := ?_)
          refine pw_goto (tgt := 31) C dX1_goThrough_87 rfl ?_
          refine pw_fg 3 rfl ?_
          refine ih (x + 1) _ (by omega) (by omega) ?_ (by omega)
          rw [iterI_s _ _ x0, ← hW]
          unfold visit
          first | rw [if_neg c48] | (rw [if_pos c48]; show _ = ite _ _ _; first | rw [if_pos (show choice _ x t = -9 by rw [← hV1]; assumption), ← hV1] | rw [if_neg (show ¬ (choice _ x t = -9) by rw [← hV1]; assumption), ← hV1])
      · refine pw_goto (tgt := 84) C dX1_goThrough_51 rfl ?_
        refine pw_iinc_2 C dX1_goThrough_84 (k := ?_)
        refine pw_goto (tgt := 31) C dX1_goThrough_87 rfl ?_
        refine pw_fg 3 rfl ?_
        refine ih (x + 1) _ (by omega) (by omega) ?_ (by omega)
        rw [iterI_s _ _ x0, ← hW]
        unfold visit
        first | rw [if_neg c48] | (rw [if_pos c48]; show _ = ite _ _ _; first | rw [if_pos (show choice _ x t = -9 by rw [← hV1]; assumption), ← hV1] | rw [if_neg (show ¬ (choice _ x t = -9) by rw [← hV1]; assumption), ← hV1])
set_option maxRecDepth 100000 in
set_option maxHeartbeats 400000 in
theorem L_X1_goThrough {X : PX} {S : SW} {M : Mem} {V : DM} {d : Nat}  (hd : d < 2) (hI : DayOk V) (hc0 : V 0 0 11 = -9 ∨ (0 ≤ V 0 0 10 ∧ V 0 0 10 < 4)) (C : Cx X S RX1 cX1_goThrough 4 97) (R : CR X S (rV (mst M d (gt V))) none) :
    ∀ (n9 : Nat) (t : Int) (W : DM), (0 ≤ t) → (t ≤ V 1 0 5) → (W = iterI (fun t U => hourV U t) (openV V) t) → V 1 0 5 - t < n9 → PW X S (mst M d W) 6 [some (rv S d 0 0), some (iv t), none, none] [] := by
  obtain ⟨i1, i2, i3, i4, i5, i6, i7, i8⟩ := id hI
  intro n9
  induction n9 with
  | zero => intro t W t0 t1 hW hn9; omega
  | succ n9 ih =>
    intro t W t0 t1 hW hn9
    have hFW : Fr V W := day_W hW
    have e5 : W 1 0 5 = V 1 0 5 := hFW 1 0 5 (by omega) (by omega)
    have e11 : W 0 0 11 = V 0 0 11 := hFW 0 0 11 (by omega) (by omega)
    have e10 : W 0 0 10 = V 0 0 10 := hFW 0 0 10 (by omega) (by omega)
    have e8 : W 8 0 4 = V 8 0 4 := hFW 8 0 4 (by omega) (by omega)
    refine pw_iload_n C dX1_goThrough_6 rfl ?_
    refine pw_aload_n C dX1_goThrough_7 rfl ?_
    refine gf_1_12 d hd C dX1_goThrough_8 ?_
    refine gv_1_79 d hd C dX1_goThrough_11 (fun r11 => ?_)
    refine pw_icmp_ge (tgt := 96) C dX1_goThrough_14 rfl (by omega) (by omega) (fun c14 => ?_) (fun c14 => ?_)
    · exact pw_vreti C R dX1_goThrough_96 (by have e : V 1 0 5 = t := (by omega); unfold gt; rw [hW, e])
    · refine pw_iload_n C dX1_goThrough_17 rfl ?_
      refine pw_aload_n C dX1_goThrough_18 rfl ?_
      refine gv_1_47 d hd C dX1_goThrough_19 (fun r19 => ?_)
      refine pw_icmp_ne (tgt := 29) C dX1_goThrough_22 rfl (by omega) (by omega) (fun c22 => ?_) (fun c22 => ?_)
      · refine pw_iconst C dX1_goThrough_29 ?_
        refine pw_istore_2 C dX1_goThrough_30 (k := ?_)
        have eC : cookAt W t = if t = W 0 0 11 then vup (vup W 0 0 9 (w32 (W 0 0 9 + W 13 0 (W 0 0 10) * W 0 0 12))) 13 0 (W 0 0 10) 0 else W := rfl
        first | rw [if_pos (by omega)] at eC | rw [if_neg (by omega)] at eC
        have k := L_X1_goThrough2 (M := M) (t := t) hd hI hFW t0 (by omega) ?_ C R (V 8 0 4 + 1).toNat 0 _ (by omega) (by omega) rfl (by omega)
        · rw [iterI_0, eC] at k
          exact pw_fg 3 rfl (k)
        refine pw_iinc_1 C dX1_goThrough_90 (k := ?_)
        refine pw_goto (tgt := 6) C dX1_goThrough_93 rfl ?_
        exact ih (t + 1) _ (by omega) (by omega) (by rw [iterI_s _ _ t0, ← hW]) (by omega)
      · refine pw_aload_n C dX1_goThrough_25 rfl ?_
        refine pw_cVV C [] mi_X1_sellAllToCook mv_X1_sellAllToCook ml_1_82 (oD_0 hd) rfl (c_X1_sellAllToCook hd (by omega) (by omega)) (by decide) rfl (Nat.le_of_ble_eq_true rfl) dX1_goThrough_26 ?_
        refine pw_iconst C dX1_goThrough_29 ?_
        refine pw_istore_2 C dX1_goThrough_30 (k := ?_)
        have eC : cookAt W t = if t = W 0 0 11 then vup (vup W 0 0 9 (w32 (W 0 0 9 + W 13 0 (W 0 0 10) * W 0 0 12))) 13 0 (W 0 0 10) 0 else W := rfl
        first | rw [if_pos (by omega)] at eC | rw [if_neg (by omega)] at eC
        have k := L_X1_goThrough2 (M := M) (t := t) hd hI hFW t0 (by omega) ?_ C R (V 8 0 4 + 1).toNat 0 _ (by omega) (by omega) rfl (by omega)
        · rw [iterI_0, eC] at k
          exact pw_fg 3 rfl (k)
        refine pw_iinc_1 C dX1_goThrough_90 (k := ?_)
        refine pw_goto (tgt := 6) C dX1_goThrough_93 rfl ?_
        exact ih (t + 1) _ (by omega) (by omega) (by rw [iterI_s _ _ t0, ← hW]) (by omega)
set_option maxRecDepth 100000 in
set_option maxHeartbeats 400000 in
theorem c_X1_goThrough {l : Launch} {S : SW} {M : Mem} {V : DM} {d : Nat} (hd : d < 2) (hI : DayOk V) (hc0 : V 0 0 11 = -9 ∨ (0 ≤ V 0 0 10 ∧ V 0 0 10 < 4)) : PM l S yX1_goThrough cX1_goThrough 4 none 4 97 [rv S d 0 0] (mst M d V) (rV (mst M d (gt V))) := by
  refine PM.of (own := RX1) (by decide) rfl [some (rv S d 0 0), none, none, none] rfl rfl (Nat.le_of_ble_eq_true rfl) (fun X hXl C R => ?_)
  subst hXl
  obtain ⟨i1, i2, i3, i4, i5, i6, i7, i8⟩ := id hI
  refine pw_aload_n C dX1_goThrough_0 rfl ?_
  refine pw_cVV C [] mi_X1_open mv_X1_open ml_1_76 (oD_0 hd) rfl (c_X1_open hd hI) (by decide) rfl (Nat.le_of_ble_eq_true rfl) dX1_goThrough_1 ?_
  refine pw_iconst C dX1_goThrough_4 ?_
  refine pw_istore_1 C dX1_goThrough_5 (k := ?_)
  exact L_X1_goThrough hd hI hc0 C R (V 1 0 5 + 1).toNat 0 _ (by omega) (by omega) rfl (by omega)
