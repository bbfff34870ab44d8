theorem gaM_e (V : DM) (x s : Int) {t : Int} (t0 : 0 ≤ t) (t1 : t < 8) : gaM V x s t = if 0 ≤ gain (mv V) x s t then gain (mv V) x s t else -9 := by
  have e : gain (mv V) x s t = if 0 < V 21 0 s then worth (mv V) x s t - V 8 0 (8 * s + t) else -1 := by
    unfold gain
    rw [mv_7 V s t0 t1]
    rfl
  unfold gaM
  rw [e]
  by_cases h : 0 < V 21 0 s
  · rw [if_pos h]
    by_cases h2 : 0 ≤ worth (mv V) x s t - V 8 0 (8 * s + t)
    · rw [if_pos ⟨h, h2⟩, if_pos h2]
    · rw [if_neg (fun q => h2 q.2), if_neg h2]
  · rw [if_neg h, if_neg (fun q => h q.1), if_neg (by omega)]
set_option maxRecDepth 100000 in
set_option maxHeartbeats 400000 in
theorem L_X9_wanted {X : PX} {S : SW} {M : Mem} {V : DM} {x t : Int}  (hI : DayOk (mv V)) (x0 : 0 ≤ x) (x1 : x < V 0 0 15) (t0 : 0 ≤ t) (t1 : t < V 0 0 1) (hx : InR x) (ht : InR t) (h1 : ¬ (V 17 0 x = 2 ∧ cheaper (mv V) (V 18 0 x) t)) (h2 : ¬ 0 ≤ gain (mv V) x (V 18 0 x) t) (C : Cx X S RX9 cX9_wanted 4 94) (R : CR X S (rI (choice (mv V) x t) (mst M 3 V)) (some .int)) :
    ∀ (n9 : Nat) (c g s : Int), (0 ≤ s) → (s ≤ V 0 0 2) → (V 17 0 x = 0 → s = 0) → (c = (pick (mv V) x t s).1) → ((g = -9 ∧ (pick (mv V) x t s).2 = -1) ∨ (g = (pick (mv V) x t s).2 ∧ 0 ≤ g)) → V 0 0 2 - s < n9 → PW X S (mst M 3 V) 52 [some (rv S 3 0 0), some (iv x), some (iv t), some (iv (V 18 0 x)), some (iv c), some (iv g), some (iv s), none] [] := by
  obtain ⟨i1, i2, i3, i4, i5, i6, i7, i8⟩ := id hI
  have e5 : mv V 1 0 5 = V 0 0 1 := rfl
  have e6 : mv V 1 0 6 = V 0 0 2 := rfl
  have e7 : mv V 1 0 7 = V 0 0 8 := rfl
  have e8 : mv V 1 0 8 = V 0 0 9 := rfl
  have e84 : mv V 8 0 4 = V 0 0 15 := rfl
  have ix : (0 ≤ V 17 0 x ∧ V 17 0 x ≤ 2) ∧ (0 ≤ V 18 0 x ∧ V 18 0 x < V 0 0 2) ∧ _ := i4 x x0 x1
  have ga := fun s => gaM_e V x s t0 (show t < 8 by omega)
  intro n9
  induction n9 with
  | zero => intro c g s s0 s1 hk0 hc hg hn9; omega
  | succ n9 ih =>
    intro c g s s0 s1 hk0 hc hg hn9
    refine pw_iload C dX9_wanted_52 rfl ?_
    refine pw_aload_n C dX9_wanted_54 rfl ?_
    refine gv_9_116 C dX9_wanted_55 (fun r55 => ?_)
    refine pw_icmp_ge (tgt := 122) C dX9_wanted_58 rfl (by omega) (by omega) (fun c58 => ?_) (fun c58 => ?_)
    · refine pw_iload C dX9_wanted_122 rfl ?_
      skip
    · refine pw_aload_n C dX9_wanted_61 rfl ?_
      refine gf_9_28 C dX9_wanted_62 ?_
      refine pw_iload_n C dX9_wanted_65 rfl ?_
      refine pw_ialdV C aM_17 (by omega) (by omega) (by decide) dX9_wanted_66 (fun r66 => ?_)
      refine pw_if_le (tgt := 122) C dX9_wanted_67 rfl (by omega) (fun c67 => ?_) (fun c67 => ?_)
      · refine pw_iload C dX9_wanted_122 rfl ?_
        skip
      · have hs := pick_s (mv V) x t s0
        have gs := ga s
        have gr := gain_r hI x0 x1 s0 (show s < V 0 0 2 by omega) t0 t1
        have pr := (pick_r hI x0 x1 t0 t1 (show s ≤ V 0 0 2 by omega)).2
        refine pw_iload C dX9_wanted_70 rfl ?_
        refine pw_iload_n C dX9_wanted_72 rfl ?_
        refine pw_icmp_ne (tgt := 81) C dX9_wanted_73 rfl (by omega) (by omega) (fun c73 => ?_) (fun c73 => ?_)
        · refine pw_aload_n C dX9_wanted_81 rfl ?_
          refine pw_iload_n C dX9_wanted_82 rfl ?_
          refine pw_iload C dX9_wanted_83 rfl ?_
          refine pw_iload_n C dX9_wanted_85 rfl ?_
          refine pw_cVI C [_, _, _] mi_X9_gainOf mv_X9_gainOf ml_9_204 oM_0 rfl (c_X9_gainOf (by omega) (by omega) (by omega) (by assumption) (by omega) (by omega) (by omega) (by omega) (by omega) (by omega)) (by decide) rfl (Nat.le_of_ble_eq_true rfl) dX9_wanted_86 ?_
          refine pw_istore_7 C dX9_wanted_89 (k := ?_)
          refine pw_iload C dX9_wanted_91 rfl ?_
          refine pw_iload C dX9_wanted_93 rfl ?_
          refine pw_icmp_le (tgt := 103) C dX9_wanted_95 rfl (by omega) (by omega) (fun c95 => ?_) (fun c95 => ?_)
          · refine pw_iload C dX9_wanted_103 rfl ?_
            refine pw_istore_4 C dX9_wanted_105 (k := ?_)
            refine pw_iload C dX9_wanted_107 rfl ?_
            refine pw_iload C dX9_wanted_109 rfl ?_
            refine pw_cSI C [_, _] mi_X9_greater ms_X9_greater ml_9_166 (c_X9_greater (by omega) (by omega)) (by decide) rfl (Nat.le_of_ble_eq_true rfl) dX9_wanted_111 ?_
            refine pw_istore_5 C dX9_wanted_114 (k := ?_)
            refine pw_iinc_6 C dX9_wanted_116 (k := ?_)
            refine pw_goto (tgt := 52) C dX9_wanted_119 rfl ?_
            skip
          · refine pw_iload C dX9_wanted_98 rfl ?_
            refine pw_goto (tgt := 105) C dX9_wanted_100 rfl ?_
            refine pw_istore_4 C dX9_wanted_105 (k := ?_)
            refine pw_iload C dX9_wanted_107 rfl ?_
            refine pw_iload C dX9_wanted_109 rfl ?_
            refine pw_cSI C [_, _] mi_X9_greater ms_X9_greater ml_9_166 (c_X9_greater (by omega) (by omega)) (by decide) rfl (Nat.le_of_ble_eq_true rfl) dX9_wanted_111 ?_
            refine pw_istore_5 C dX9_wanted_114 (k := ?_)
            refine pw_iinc_6 C dX9_wanted_116 (k := ?_)
            refine pw_goto (tgt := 52) C dX9_wanted_119 rfl ?_
            skip
        · refine pw_bipush C dX9_wanted_76 (by decide) ?_
          refine pw_goto (tgt := 89) C dX9_wanted_78 rfl ?_
          refine pw_istore_7 C dX9_wanted_89 (k := ?_)
          refine pw_iload C dX9_wanted_91 rfl ?_
          refine pw_iload C dX9_wanted_93 rfl ?_
          refine pw_icmp_le (tgt := 103) C dX9_wanted_95 rfl (by omega) (by omega) (fun c95 => ?_) (fun c95 => ?_)
          · refine pw_iload C dX9_wanted_103 rfl ?_
            refine pw_istore_4 C dX9_wanted_105 (k := ?_)
            refine pw_iload C dX9_wanted_107 rfl ?_
            refine pw_iload C dX9_wanted_109 rfl ?_
            refine pw_cSI C [_, _] mi_X9_greater ms_X9_greater ml_9_166 (c_X9_greater (by omega) (by omega)) (by decide) rfl (Nat.le_of_ble_eq_true rfl) dX9_wanted_111 ?_
            refine pw_istore_5 C dX9_wanted_114 (k := ?_)
            refine pw_iinc_6 C dX9_wanted_116 (k := ?_)
            refine pw_goto (tgt := 52) C dX9_wanted_119 rfl ?_
            skip
          · refine pw_iload C dX9_wanted_98 rfl ?_
            refine pw_goto (tgt := 105) C dX9_wanted_100 rfl ?_
            refine pw_istore_4 C dX9_wanted_105 (k := ?_)
            refine pw_iload C dX9_wanted_107 rfl ?_
            refine pw_iload C dX9_wanted_109 rfl ?_
            refine pw_cSI C [_, _] mi_X9_greater ms_X9_greater ml_9_166 (c_X9_greater (by omega) (by omega)) (by decide) rfl (Nat.le_of_ble_eq_true rfl) dX9_wanted_111 ?_
            refine pw_istore_5 C dX9_wanted_114 (k := ?_)
            refine pw_iinc_6 C dX9_wanted_116 (k := ?_)
            refine pw_goto (tgt := 52) C dX9_wanted_119 rfl ?_
            skip
