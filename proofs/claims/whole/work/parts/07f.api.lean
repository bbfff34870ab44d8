/-- what lasts of the class's rest: trace, fault, sheets -/
def P2 (Z A : DM) : Prop := ∀ (k : Nat) (r i : Int), k = 0 ∨ k = 7 ∨ k = 8 ∨ k = 9 → A k r i = Z k r i
def KP (M : Mem) (V Z : DM) (N : Mem) : Prop := N 3 = M 3 ∧ Fr V (N 0) ∧ P2 Z (N 2)
theorem KP.rf (M : Mem) : KP M (M 0) (M 2) M := ⟨rfl, Fr.rf _, fun _ _ _ _ => rfl⟩
def rX (x : Int) (M : Mem) (V Z : DM) : Option Value → Mem → Prop := fun o N => o = some (iv x) ∧ KP M V Z N
def rY (x : Int) (M : Mem) (V Z : DM) : Option Value → Mem → Prop := fun o N => o = some (jv x) ∧ KP M V Z N
def has (V : DM) (s : Int) : Prop := 0 ≤ s ∧ s < V 1 0 6
def place (V : DM) (s t : Int) : Prop := 0 ≤ s ∧ s < V 1 0 6 ∧ 0 ≤ t ∧ t < V 1 0 5
noncomputable def pif (P : Prop) (a b : Int) : Int := @ite Int P (Classical.propDecidable P) a b
noncomputable def vif (P : Prop) (a b : DM) : DM := @ite DM P (Classical.propDecidable P) a b
theorem pif_t {P : Prop} (h : P) (a b : Int) : pif P a b = a := if_pos h
theorem pif_f {P : Prop} (h : ¬ P) (a b : Int) : pif P a b = b := if_neg h
theorem vif_t {P : Prop} (h : P) (a b : DM) : vif P a b = a := if_pos h
theorem vif_f {P : Prop} (h : ¬ P) (a b : DM) : vif P a b = b := if_neg h
def sw4 (w a b c d : Int) : Int := if w = 0 then a else if w = 1 then b else if w = 2 then c else if w = 3 then d else -2
def sw3 (w a b c : Int) : Int := if w = 0 then a else if w = 1 then b else if w = 2 then c else -2
noncomputable def xOfSort (V : DM) (s w : Int) : Int := pif (has V s) (sw4 w (V 2 0 s) (V 3 0 s) (V 4 0 s) (V 5 0 s)) (-1)
noncomputable def xFresh (V : DM) (s t : Int) : Int := pif (place V s t) (freshAt V s t) (-1)
noncomputable def xFish (V : DM) (s v : Int) : Int := pif (has V s) (pif (0 ≤ v ∧ v ≤ 9) (V 2 0 s) (-2)) (-1)
noncomputable def vFish (V : DM) (s v : Int) : DM := vif (has V s ∧ 0 ≤ v ∧ v ≤ 9) (vup V 2 0 s v) V
noncomputable def xSlate (V : DM) (s t : Int) : Int := pif (place V s t) (V 7 s t) (-1)
noncomputable def xWrite (V : DM) (s t v : Int) : Int := pif (place V s t) (pif (0 ≤ v ∧ v ≤ 30) (V 7 s t) (-2)) (-1)
noncomputable def vWrite (V : DM) (s t v : Int) : DM := vif (place V s t ∧ 0 ≤ v ∧ v ≤ 30) (vup V 7 s t v) V
noncomputable def xSoup (V : DM) (v : Int) : Int := pif (0 ≤ v ∧ v ≤ 9) (pif (0 < V 1 0 6) (V 1 0 7) (-3)) (-2)
noncomputable def vSoup (V : DM) (v : Int) : DM := vif ((0 ≤ v ∧ v ≤ 9) ∧ 0 < V 1 0 6) (vup V 1 0 7 v) V
noncomputable def xBeside (V : DM) (b : Int) : Int := pif (0 < V 1 0 6) (pif (V 1 0 8 = b) 0 1) (-3)
noncomputable def vBeside (V : DM) (b : Int) : DM := vif (0 < V 1 0 6) (vup V 1 0 8 b) V
noncomputable def xBuyer (V : DM) (kd s q t : Int) : Int := pif (place V s t) (pif ((0 ≤ kd ∧ kd ≤ 2) ∧ 0 ≤ q ∧ q ≤ 40) (pif (V 8 0 4 < 10) (V 8 0 4) (-4)) (-2)) (-1)
noncomputable def vBuyer (V : DM) (kd s q t : Int) : DM := vif (place V s t ∧ ((0 ≤ kd ∧ kd ≤ 2) ∧ 0 ≤ q ∧ q ≤ 40) ∧ V 8 0 4 < 10) (vup (vup (vup (vup (vup V 9 0 (V 8 0 4) kd) 10 0 (V 8 0 4) s) 11 0 (V 8 0 4) q) 12 0 (V 8 0 4) t) 8 0 4 (V 8 0 4 + 1)) V
def hasB (V : DM) (x : Int) : Prop := 0 ≤ x ∧ x < V 8 0 4
noncomputable def xOfBuyer (V : DM) (x w : Int) : Int := pif (hasB V x) (sw4 w (V 9 0 x) (V 10 0 x) (V 11 0 x) (V 12 0 x)) (-1)
noncomputable def xWorth (V : DM) (x s t : Int) : Int := pif (hasB V x ∧ place V s t) (worth (openV V) x s t) (-1)
def allL (V : DM) : Int := sumI (fun s => V 13 0 s) (V 1 0 6)
def allF (V : DM) : Int := sumI (fun s => V 2 0 s) (V 1 0 6)
noncomputable def xDay (V : DM) (w : Int) : Int := pif (0 ≤ w ∧ w ≤ 3) (pif (0 < V 1 0 6) (sw4 w (gt V 0 0 9) (allF (gt V) - allL (gt V)) (allL (gt V)) (prf V)) (-3)) (-2)
noncomputable def xBought (V : DM) (x w : Int) : Int := pif (hasB V x) (sw4 w (gt V 16 0 x) (gt V 17 0 x) (gt V 18 0 x) (gt V 19 0 x)) (-1)
noncomputable def xSold (V : DM) (s w : Int) : Int := pif (has V s) (sw3 w (gt V 13 0 s) (gt V 14 0 s) (gt V 15 0 s)) (-1)
noncomputable def xBest (V : DM) (s t w : Int) : Int := pif (place V s t) (pif (0 ≤ w ∧ w ≤ 1) (if w = 0 then (amax (bestP V s t) 30).2 else (amax (bestP V s t) 30).1) (-2)) (-1)
noncomputable def xTake (V : DM) (w : Int) : Int := pif (0 ≤ w ∧ w ≤ 2) (pif (0 < V 1 0 6) (sw3 w (tof V (V 1 0 5)).1 (tof V (V 1 0 5)).2.1 (tof V (V 1 0 5)).2.2) (-3)) (-2)
noncomputable def xCarried (V : DM) (s : Int) : Int := pif (has V s) (prf V - prf (vup V 2 0 s 0)) (-1)
noncomputable def xCook (V : DM) (s t c : Int) : Int := pif (place V s t) (pif (0 ≤ c ∧ c ≤ 30) (prf (cookV V s t c) - prf V) (-2)) (-1)
noncomputable def xMany (V : DM) (w : Int) : Int := if w = 0 then V 1 0 5 else if w = 1 then V 1 0 6 else if w = 2 then V 8 0 4 else if w = 3 then allF V else if w = 4 then V 1 0 8 else -2
noncomputable def xTell (V : DM) (x : Int) : Int := pif (hasB V x) (if V 9 0 x = 2 then V 11 0 x + 100 + V 11 0 x else if V 9 0 x = 1 then V 11 0 x + 100 else V 11 0 x) (-1)
noncomputable def zTell (V Z : DM) (x : Int) : DM := vif (hasB V x) (if V 9 0 x = 2 then tr (tr (tr (tr Z 3) 2) 1) 1 else if V 9 0 x = 1 then tr (tr Z 2) 1 else tr Z 1) Z
noncomputable def xGreet (V : DM) (x : Int) : Int := pif (hasB V x) (if V 9 0 x = 2 then 60 else x) (-1)
noncomputable def zGreet (V Z : DM) (x : Int) : DM := vif (hasB V x) (if V 9 0 x = 2 then tr Z 5 else tr Z 4) Z
noncomputable def xAs (V : DM) (x kd : Int) : Int := pif (hasB V x) (pif (0 ≤ kd ∧ kd ≤ 2) (if kd ≤ V 9 0 x then 1 else -12) (-2)) (-1)
def fOf (x : Int) : Int := if x ≤ -11 then -10 - x else 0
set_option maxRecDepth 100000 in
set_option maxHeartbeats 400000 in
theorem c_X8_ofSort {l : Launch} {S : SW} {M : Mem} {s w : Int}  (hs : InR s) (hw : InR w) (hI : DayOk (M 0)) (hk : M 0 0 0 11 = -9) (hS : ShOk (M 2))  : PM l S yX8_ofSort cX8_ofSort 4 (some .int) 1 21 [rv S 2 0 0, iv s, iv w] (M) (rX (xOfSort (M 0) s w) M (M 0) (M 2)) := by
  refine PM.of (own := RX8) (by decide) rfl [some (rv S 2 0 0), some (iv s), some (iv w), none] rfl rfl (Nat.le_of_ble_eq_true rfl) (fun X hXl C R => ?_)
  subst hXl
  obtain ⟨i1, i2, i3, i4, i5, i6, i7, i8⟩ := id hI
  refine pw_aload_n C dX8_ofSort_0 rfl ?_
  refine gf_8_12 C dX8_ofSort_1 ?_
  refine gf_8_60 0 (by decide) C dX8_ofSort_4 ?_
  refine pw_astore_3 C dX8_ofSort_7 (kk := ?_)
  refine pw_aload_n C dX8_ofSort_8 rfl ?_
  refine pw_iload_n C dX8_ofSort_9 rfl ?_
  refine pw_V 0 ?_
  refine pw_cVI C [_] mi_X6_hasSort mv_X6_hasSort ml_8_83 (oD_1 (by decide)) rfl (c_X6_hasSort (by decide) (by omega)) (by decide) rfl (Nat.le_of_ble_eq_true rfl) dX8_ofSort_10 ?_
  refine pw_U 0 ?_
  refine pw_if_ne_b (tgt := 18) C dX8_ofSort_13 rfl (fun c13 => ?_) (fun c13 => ?_)
  · refine pw_iload_n C dX8_ofSort_18 rfl ?_
    refine pw_tsw4 C 48 55 62 69 76 (by omega) dX8_ofSort_19 rfl rfl rfl rfl rfl rfl (fun c19 => ?_) (fun c19 => ?_) (fun c19 => ?_) (fun c19 => ?_) (fun c19 => ?_)
    · refine pw_aload_n C dX8_ofSort_48 rfl ?_
      refine gf_8_87 0 (by decide) C dX8_ofSort_49 ?_
      refine pw_iload_n C dX8_ofSort_52 rfl ?_
      refine pw_iald C (aD_2 (by decide)) (by omega) (by omega) (by decide) dX8_ofSort_53 (fun r53 => ?_)
      exact pw_iret C R dX8_ofSort_54 ⟨(congrArg (fun q => some (iv q)) (by unfold xOfSort; (try unfold has at *); (try unfold place at *); (try unfold hasB at *); (try unfold sw4); (try unfold sw3); (repeat (first | rw [pif_t (by first | omega | assumption)] | rw [pif_f (by first | omega | assumption)])); all_goals (first | rfl | omega | ((repeat' split) <;> first | rfl | omega)))), ⟨rfl, Fr.rf _, fun _ _ _ _ => rfl⟩⟩
    · refine pw_aload_n C dX8_ofSort_55 rfl ?_
      refine gf_8_91 0 (by decide) C dX8_ofSort_56 ?_
      refine pw_iload_n C dX8_ofSort_59 rfl ?_
      refine pw_iald C (aD_3 (by decide)) (by omega) (by omega) (by decide) dX8_ofSort_60 (fun r60 => ?_)
      exact pw_iret C R dX8_ofSort_61 ⟨(congrArg (fun q => some (iv q)) (by unfold xOfSort; (try unfold has at *); (try unfold place at *); (try unfold hasB at *); (try unfold sw4); (try unfold sw3); (repeat (first | rw [pif_t (by first | omega | assumption)] | rw [pif_f (by first | omega | assumption)])); all_goals (first | rfl | omega | ((repeat' split) <;> first | rfl | omega)))), ⟨rfl, Fr.rf _, fun _ _ _ _ => rfl⟩⟩
    · refine pw_aload_n C dX8_ofSort_62 rfl ?_
      refine gf_8_94 0 (by decide) C dX8_ofSort_63 ?_
      refine pw_iload_n C dX8_ofSort_66 rfl ?_
      refine pw_iald C (aD_4 (by decide)) (by omega) (by omega) (by decide) dX8_ofSort_67 (fun r67 => ?_)
      exact pw_iret C R dX8_ofSort_68 ⟨(congrArg (fun q => some (iv q)) (by unfold xOfSort; (try unfold has at *); (try unfold place at *); (try unfold hasB at *); (try unfold sw4); (try unfold sw3); (repeat (first | rw [pif_t (by first | omega | assumption)] | rw [pif_f (by first | omega | assumption)])); all_goals (first | rfl | omega | ((repeat' split) <;> first | rfl | omega)))), ⟨rfl, Fr.rf _, fun _ _ _ _ => rfl⟩⟩
    · refine pw_aload_n C dX8_ofSort_69 rfl ?_
      refine gf_8_97 0 (by decide) C dX8_ofSort_70 ?_
      refine pw_iload_n C dX8_ofSort_73 rfl ?_
      refine pw_iald C (aD_5 (by decide)) (by omega) (by omega) (by decide) dX8_ofSort_74 (fun r74 => ?_)
      exact pw_iret C R dX8_ofSort_75 ⟨(congrArg (fun q => some (iv q)) (by unfold xOfSort; (try unfold has at *); (try unfold place at *); (try unfold hasB at *); (try unfold sw4); (try unfold sw3); (repeat (first | rw [pif_t (by first | omega | assumption)] | rw [pif_f (by first | omega | assumption)])); all_goals (first | rfl | omega | ((repeat' split) <;> first | rfl | omega)))), ⟨rfl, Fr.rf _, fun _ _ _ _ => rfl⟩⟩
    · refine pw_bipush C dX8_ofSort_76 (by decide) ?_
      exact pw_iret C R dX8_ofSort_78 ⟨(congrArg (fun q => some (iv q)) (by unfold xOfSort; (try unfold has at *); (try unfold place at *); (try unfold hasB at *); (try unfold sw4); (try unfold sw3); (repeat (first | rw [pif_t (by first | omega | assumption)] | rw [pif_f (by first | omega | assumption)])); all_goals (first | rfl | omega | ((repeat' split) <;> first | rfl | omega)))), ⟨rfl, Fr.rf _, fun _ _ _ _ => rfl⟩⟩
  · refine pw_iconst C dX8_ofSort_16 ?_
    exact pw_iret C R dX8_ofSort_17 ⟨(congrArg (fun q => some (iv q)) (by unfold xOfSort; (try unfold has at *); (try unfold place at *); (try unfold hasB at *); (try unfold sw4); (try unfold sw3); (repeat (first | rw [pif_t (by first | omega | assumption)] | rw [pif_f (by first | omega | assumption)])); all_goals (first | rfl | omega | ((repeat' split) <;> first | rfl | omega)))), ⟨rfl, Fr.rf _, fun _ _ _ _ => rfl⟩⟩
set_option maxRecDepth 100000 in
set_option maxHeartbeats 400000 in
theorem c_X8_fresh {l : Launch} {S : SW} {M : Mem} {s t : Int}  (hs : InR s) (ht : InR t) (hI : DayOk (M 0)) (hk : M 0 0 0 11 = -9) (hS : ShOk (M 2))  : PM l S yX8_fresh cX8_fresh 3 (some .int) 2 43 [rv S 2 0 0, iv s, iv t] (M) (rX (xFresh (M 0) s t) M (M 0) (M 2)) := by
  refine PM.of (own := RX8) (by decide) rfl [some (rv S 2 0 0), some (iv s), some (iv t)] rfl rfl (Nat.le_of_ble_eq_true rfl) (fun X hXl C R => ?_)
  subst hXl
  obtain ⟨i1, i2, i3, i4, i5, i6, i7, i8⟩ := id hI
  refine pw_aload_n C dX8_fresh_0 rfl ?_
  refine gf_8_12 C dX8_fresh_1 ?_
  refine gf_8_60 0 (by decide) C dX8_fresh_4 ?_
  refine pw_iload_n C dX8_fresh_7 rfl ?_
  refine pw_iload_n C dX8_fresh_8 rfl ?_
  refine pw_V 0 ?_
  refine pw_cVI C [_, _] mi_X6_hasPlace mv_X6_hasPlace ml_8_100 (oD_1 (by decide)) rfl (c_X6_hasPlace (by decide) (by omega) (by omega)) (by decide) rfl (Nat.le_of_ble_eq_true rfl) dX8_fresh_9 ?_
  refine pw_U 0 ?_
  refine pw_if_ne_b (tgt := 17) C dX8_fresh_12 rfl (fun c12 => ?_) (fun c12 => ?_)
  · refine pw_aload_n C dX8_fresh_17 rfl ?_
    refine gf_8_12 C dX8_fresh_18 ?_
    refine gf_8_60 0 (by decide) C dX8_fresh_21 ?_
    refine pw_iload_n C dX8_fresh_24 rfl ?_
    refine pw_iload_n C dX8_fresh_25 rfl ?_
    refine pw_V 0 ?_
    refine pw_cVI C [_, _] mi_X6_freshAt mv_X6_freshAt ml_8_104 (oD_1 (by decide)) rfl (c_X6_freshAt (by decide) (by omega) (by omega) (by omega) (by omega) (by have := fresh_le hI (s := s) (t := t) (by omega) (by omega) (by omega) (by omega); omega)) (by decide) rfl (Nat.le_of_ble_eq_true rfl) dX8_fresh_26 ?_
    refine pw_U 0 ?_
    exact pw_iret C R dX8_fresh_29 ⟨(congrArg (fun q => some (iv q)) (by unfold xFresh; (try unfold has at *); (try unfold place at *); (try unfold hasB at *); (try unfold sw4); (try unfold sw3); (repeat (first | rw [pif_t (by first | omega | assumption)] | rw [pif_f (by first | omega | assumption)])); all_goals (first | rfl | omega | ((repeat' split) <;> first | rfl | omega)))), ⟨rfl, Fr.rf _, fun _ _ _ _ => rfl⟩⟩
  · refine pw_iconst C dX8_fresh_15 ?_
    exact pw_iret C R dX8_fresh_16 ⟨(congrArg (fun q => some (iv q)) (by unfold xFresh; (try unfold has at *); (try unfold place at *); (try unfold hasB at *); (try unfold sw4); (try unfold sw3); (repeat (first | rw [pif_t (by first | omega | assumption)] | rw [pif_f (by first | omega | assumption)])); all_goals (first | rfl | omega | ((repeat' split) <;> first | rfl | omega)))), ⟨rfl, Fr.rf _, fun _ _ _ _ => rfl⟩⟩
set_option maxRecDepth 100000 in
set_option maxHeartbeats 400000 in
theorem c_X8_fish {l : Launch} {S : SW} {M : Mem} {s v : Int}  (hs : InR s) (hv : InR v) (hI : DayOk (M 0)) (hk : M 0 0 0 11 = -9) (hS : ShOk (M 2))  : PM l S yX8_fish cX8_fish 4 (some .int) 1 22 [rv S 2 0 0, iv s, iv v] (M) (rX (xFish (M 0) s v) M (vFish (M 0) s v) (M 2)) := by
  refine PM.of (own := RX8) (by decide) rfl [some (rv S 2 0 0), some (iv s), some (iv v), none] rfl rfl (Nat.le_of_ble_eq_true rfl) (fun X hXl C R => ?_)
  subst hXl
  obtain ⟨i1, i2, i3, i4, i5, i6, i7, i8⟩ := id hI
  refine pw_aload_n C dX8_fish_0 rfl ?_
  refine gf_8_12 C dX8_fish_1 ?_
  refine gf_8_60 0 (by decide) C dX8_fish_4 ?_
  refine pw_iload_n C dX8_fish_7 rfl ?_
  refine pw_V 0 ?_
  refine pw_cVI C [_] mi_X6_hasSort mv_X6_hasSort ml_8_83 (oD_1 (by decide)) rfl (c_X6_hasSort (by decide) (by omega)) (by decide) rfl (Nat.le_of_ble_eq_true rfl) dX8_fish_8 ?_
  refine pw_U 0 ?_
  refine pw_if_ne_b (tgt := 16) C dX8_fish_11 rfl (fun c11 => ?_) (fun c11 => ?_)
  · refine pw_iload_n C dX8_fish_16 rfl ?_
    refine pw_iconst C dX8_fish_17 ?_
    refine pw_bipush C dX8_fish_18 (by decide) ?_
    refine pw_cSI C [_, _, _] mi_X8_isWithin ms_X8_isWithin ml_8_108 (c_X8_isWithin (by omega) (by omega) (by omega)) (by decide) rfl (Nat.le_of_ble_eq_true rfl) dX8_fish_20 ?_
    refine pw_if_ne_b (tgt := 29) C dX8_fish_23 rfl (fun c23 => ?_) (fun c23 => ?_)
    · refine pw_aload_n C dX8_fish_29 rfl ?_
      refine gf_8_12 C dX8_fish_30 ?_
      refine gf_8_60 0 (by decide) C dX8_fish_33 ?_
      refine gf_8_87 0 (by decide) C dX8_fish_36 ?_
      refine pw_iload_n C dX8_fish_39 rfl ?_
      refine pw_iald C (aD_2 (by decide)) (by omega) (by omega) (by decide) dX8_fish_40 (fun r40 => ?_)
      refine pw_istore_3 C dX8_fish_41 (k := ?_)
      refine pw_aload_n C dX8_fish_42 rfl ?_
      refine gf_8_12 C dX8_fish_43 ?_
      refine gf_8_60 0 (by decide) C dX8_fish_46 ?_
      refine gf_8_87 0 (by decide) C dX8_fish_49 ?_
      refine pw_iload_n C dX8_fish_52 rfl ?_
      refine pw_iload_n C dX8_fish_53 rfl ?_
      refine pw_iast C (aD_2 (by decide)) (by omega) (by omega) (by decide) (by omega) dX8_fish_54 ?_
      refine pw_iload_n C dX8_fish_55 rfl ?_
      exact pw_iret C R dX8_fish_56 ⟨(congrArg (fun q => some (iv q)) (by unfold xFish; (try unfold has at *); (try unfold place at *); (try unfold hasB at *); (try unfold sw4); (try unfold sw3); (repeat (first | rw [pif_t (by first | omega | assumption)] | rw [pif_f (by first | omega | assumption)])); all_goals (first | rfl | omega | ((repeat' split) <;> first | rfl | omega)))), ⟨rfl, (by unfold vFish; (try unfold has); (try unfold place); (try unfold hasB); first | (rw [vif_t (by omega)]; exact Fr.rf _) | (rw [vif_f (by omega)]; exact Fr.rf _)), fun _ _ _ _ => rfl⟩⟩
    · refine pw_bipush C dX8_fish_26 (by decide) ?_
      exact pw_iret C R dX8_fish_28 ⟨(congrArg (fun q => some (iv q)) (by unfold xFish; (try unfold has at *); (try unfold place at *); (try unfold hasB at *); (try unfold sw4); (try unfold sw3); (repeat (first | rw [pif_t (by first | omega | assumption)] | rw [pif_f (by first | omega | assumption)])); all_goals (first | rfl | omega | ((repeat' split) <;> first | rfl | omega)))), ⟨rfl, (by unfold vFish; (try unfold has); (try unfold place); (try unfold hasB); first | (rw [vif_t (by omega)]; exact Fr.rf _) | (rw [vif_f (by omega)]; exact Fr.rf _)), fun _ _ _ _ => rfl⟩⟩
  · refine pw_iconst C dX8_fish_14 ?_
    exact pw_iret C R dX8_fish_15 ⟨(congrArg (fun q => some (iv q)) (by unfold xFish; (try unfold has at *); (try unfold place at *); (try unfold hasB at *); (try unfold sw4); (try unfold sw3); (repeat (first | rw [pif_t (by first | omega | assumption)] | rw [pif_f (by first | omega | assumption)])); all_goals (first | rfl | omega | ((repeat' split) <;> first | rfl | omega)))), ⟨rfl, (by unfold vFish; (try unfold has); (try unfold place); (try unfold hasB); first | (rw [vif_t (by omega)]; exact Fr.rf _) | (rw [vif_f (by omega)]; exact Fr.rf _)), fun _ _ _ _ => rfl⟩⟩
set_option maxRecDepth 100000 in
set_option maxHeartbeats 400000 in
theorem c_X8_slate {l : Launch} {S : SW} {M : Mem} {s t : Int}  (hs : InR s) (ht : InR t) (hI : DayOk (M 0)) (hk : M 0 0 0 11 = -9) (hS : ShOk (M 2))  : PM l S yX8_slate cX8_slate 3 (some .int) 2 43 [rv S 2 0 0, iv s, iv t] (M) (rX (xSlate (M 0) s t) M (M 0) (M 2)) := by
  refine PM.of (own := RX8) (by decide) rfl [some (rv S 2 0 0), some (iv s), some (iv t)] rfl rfl (Nat.le_of_ble_eq_true rfl) (fun X hXl C R => ?_)
  subst hXl
  obtain ⟨i1, i2, i3, i4, i5, i6, i7, i8⟩ := id hI
  refine pw_aload_n C dX8_slate_0 rfl ?_
  refine gf_8_12 C dX8_slate_1 ?_
  refine gf_8_60 0 (by decide) C dX8_slate_4 ?_
  refine pw_iload_n C dX8_slate_7 rfl ?_
  refine pw_iload_n C dX8_slate_8 rfl ?_
  refine pw_V 0 ?_
  refine pw_cVI C [_, _] mi_X6_hasPlace mv_X6_hasPlace ml_8_100 (oD_1 (by decide)) rfl (c_X6_hasPlace (by decide) (by omega) (by omega)) (by decide) rfl (Nat.le_of_ble_eq_true rfl) dX8_slate_9 ?_
  refine pw_U 0 ?_
  refine pw_if_ne_b (tgt := 17) C dX8_slate_12 rfl (fun c12 => ?_) (fun c12 => ?_)
  · refine pw_aload_n C dX8_slate_17 rfl ?_
    refine gf_8_12 C dX8_slate_18 ?_
    refine gf_8_60 0 (by decide) C dX8_slate_21 ?_
    refine gf_8_112 0 (by decide) C dX8_slate_24 ?_
    refine pw_iload_n C dX8_slate_27 rfl ?_
    refine pw_aald C (qD_6 (by decide)) (by omega) (by omega) (by decide) dX8_slate_28 ?_
    refine pw_iload_n C dX8_slate_29 rfl ?_
    refine pw_iald C (aD_7 (by decide) (by omega) (by omega)) (by omega) (by omega) (by decide) dX8_slate_30 (fun r30 => ?_)
    exact pw_iret C R dX8_slate_31 ⟨(congrArg (fun q => some (iv q)) (by unfold xSlate; (try unfold has at *); (try unfold place at *); (try unfold hasB at *); (try unfold sw4); (try unfold sw3); (repeat (first | rw [pif_t (by first | omega | assumption)] | rw [pif_f (by first | omega | assumption)])); all_goals (first | rfl | omega | ((repeat' split) <;> first | rfl | omega)))), ⟨rfl, Fr.rf _, fun _ _ _ _ => rfl⟩⟩
  · refine pw_iconst C dX8_slate_15 ?_
    exact pw_iret C R dX8_slate_16 ⟨(congrArg (fun q => some (iv q)) (by unfold xSlate; (try unfold has at *); (try unfold place at *); (try unfold hasB at *); (try unfold sw4); (try unfold sw3); (repeat (first | rw [pif_t (by first | omega | assumption)] | rw [pif_f (by first | omega | assumption)])); all_goals (first | rfl | omega | ((repeat' split) <;> first | rfl | omega)))), ⟨rfl, Fr.rf _, fun _ _ _ _ => rfl⟩⟩
set_option maxRecDepth 100000 in
set_option maxHeartbeats 400000 in
theorem c_X8_write {l : Launch} {S : SW} {M : Mem} {s t v : Int}  (hs : InR s) (ht : InR t) (hv : InR v) (hI : DayOk (M 0)) (hk : M 0 0 0 11 = -9) (hS : ShOk (M 2))  : PM l S yX8_write cX8_write 5 (some .int) 2 43 [rv S 2 0 0, iv s, iv t, iv v] (M) (rX (xWrite (M 0) s t v) M (vWrite (M 0) s t v) (M 2)) := by
  refine PM.of (own := RX8) (by decide) rfl [some (rv S 2 0 0), some (iv s), some (iv t), some (iv v), none] rfl rfl (Nat.le_of_ble_eq_true rfl) (fun X hXl C R => ?_)
  subst hXl
  obtain ⟨i1, i2, i3, i4, i5, i6, i7, i8⟩ := id hI
  refine pw_aload_n C dX8_write_0 rfl ?_
  refine gf_8_12 C dX8_write_1 ?_
  refine gf_8_60 0 (by decide) C dX8_write_4 ?_
  refine pw_iload_n C dX8_write_7 rfl ?_
  refine pw_iload_n C dX8_write_8 rfl ?_
  refine pw_V 0 ?_
  refine pw_cVI C [_, _] mi_X6_hasPlace mv_X6_hasPlace ml_8_100 (oD_1 (by decide)) rfl (c_X6_hasPlace (by decide) (by omega) (by omega)) (by decide) rfl (Nat.le_of_ble_eq_true rfl) dX8_write_9 ?_
  refine pw_U 0 ?_
  refine pw_if_ne_b (tgt := 17) C dX8_write_12 rfl (fun c12 => ?_) (fun c12 => ?_)
  · refine pw_iload_n C dX8_write_17 rfl ?_
    refine pw_iconst C dX8_write_18 ?_
    refine pw_bipush C dX8_write_19 (by decide) ?_
    refine pw_cSI C [_, _, _] mi_X8_isWithin ms_X8_isWithin ml_8_108 (c_X8_isWithin (by omega) (by omega) (by omega)) (by decide) rfl (Nat.le_of_ble_eq_true rfl) dX8_write_21 ?_
    refine pw_if_ne_b (tgt := 30) C dX8_write_24 rfl (fun c24 => ?_) (fun c24 => ?_)
    · refine pw_aload_n C dX8_write_30 rfl ?_
      refine gf_8_12 C dX8_write_31 ?_
      refine gf_8_60 0 (by decide) C dX8_write_34 ?_
      refine gf_8_112 0 (by decide) C dX8_write_37 ?_
      refine pw_iload_n C dX8_write_40 rfl ?_
      refine pw_aald C (qD_6 (by decide)) (by omega) (by omega) (by decide) dX8_write_41 ?_
      refine pw_iload_n C dX8_write_42 rfl ?_
      refine pw_iald C (aD_7 (by decide) (by omega) (by omega)) (by omega) (by omega) (by decide) dX8_write_43 (fun r43 => ?_)
      refine pw_istore_4 C dX8_write_44 (k := ?_)
      refine pw_aload_n C dX8_write_46 rfl ?_
      refine gf_8_12 C dX8_write_47 ?_
      refine gf_8_60 0 (by decide) C dX8_write_50 ?_
      refine gf_8_112 0 (by decide) C dX8_write_53 ?_
      refine pw_iload_n C dX8_write_56 rfl ?_
      refine pw_aald C (qD_6 (by decide)) (by omega) (by omega) (by decide) dX8_write_57 ?_
      refine pw_iload_n C dX8_write_58 rfl ?_
      refine pw_iload_n C dX8_write_59 rfl ?_
      refine pw_iast C (aD_7 (by decide) (by omega) (by omega)) (by omega) (by omega) (by decide) (by omega) dX8_write_60 ?_
      refine pw_iload C dX8_write_61 rfl ?_
      exact pw_iret C R dX8_write_63 ⟨(congrArg (fun q => some (iv q)) (by unfold xWrite; (try unfold has at *); (try unfold place at *); (try unfold hasB at *); (try unfold sw4); (try unfold sw3); (repeat (first | rw [pif_t (by first | omega | assumption)] | rw [pif_f (by first | omega | assumption)])); all_goals (first | rfl | omega | ((repeat' split) <;> first | rfl | omega)))), ⟨rfl, (by unfold vWrite; (try unfold has); (try unfold place); (try unfold hasB); first | (rw [vif_t (by omega)]; exact Fr.rf _) | (rw [vif_f (by omega)]; exact Fr.rf _)), fun _ _ _ _ => rfl⟩⟩
    · refine pw_bipush C dX8_write_27 (by decide) ?_
      exact pw_iret C R dX8_write_29 ⟨(congrArg (fun q => some (iv q)) (by unfold xWrite; (try unfold has at *); (try unfold place at *); (try unfold hasB at *); (try unfold sw4); (try unfold sw3); (repeat (first | rw [pif_t (by first | omega | assumption)] | rw [pif_f (by first | omega | assumption)])); all_goals (first | rfl | omega | ((repeat' split) <;> first | rfl | omega)))), ⟨rfl, (by unfold vWrite; (try unfold has); (try unfold place); (try unfold hasB); first | (rw [vif_t (by omega)]; exact Fr.rf _) | (rw [vif_f (by omega)]; exact Fr.rf _)), fun _ _ _ _ => rfl⟩⟩
  · refine pw_iconst C dX8_write_15 ?_
    exact pw_iret C R dX8_write_16 ⟨(congrArg (fun q => some (iv q)) (by unfold xWrite; (try unfold has at *); (try unfold place at *); (try unfold hasB at *); (try unfold sw4); (try unfold sw3); (repeat (first | rw [pif_t (by first | omega | assumption)] | rw [pif_f (by first | omega | assumption)])); all_goals (first | rfl | omega | ((repeat' split) <;> first | rfl | omega)))), ⟨rfl, (by unfold vWrite; (try unfold has); (try unfold place); (try unfold hasB); first | (rw [vif_t (by omega)]; exact Fr.rf _) | (rw [vif_f (by omega)]; exact Fr.rf _)), fun _ _ _ _ => rfl⟩⟩
set_option maxRecDepth 100000 in
set_option maxHeartbeats 400000 in
theorem c_X8_soup {l : Launch} {S : SW} {M : Mem} {v : Int}  (hv : InR v) (hI : DayOk (M 0)) (hk : M 0 0 0 11 = -9) (hS : ShOk (M 2))  : PM l S yX8_soup cX8_soup 3 (some .int) 1 22 [rv S 2 0 0, iv v] (M) (rX (xSoup (M 0) v) M (vSoup (M 0) v) (M 2)) := by
  refine PM.of (own := RX8) (by decide) rfl [some (rv S 2 0 0), some (iv v), none] rfl rfl (Nat.le_of_ble_eq_true rfl) (fun X hXl C R => ?_)
  subst hXl
  obtain ⟨i1, i2, i3, i4, i5, i6, i7, i8⟩ := id hI
  refine pw_iload_n C dX8_soup_0 rfl ?_
  refine pw_iconst C dX8_soup_1 ?_
  refine pw_bipush C dX8_soup_2 (by decide) ?_
  refine pw_cSI C [_, _, _] mi_X8_isWithin ms_X8_isWithin ml_8_108 (c_X8_isWithin (by omega) (by omega) (by omega)) (by decide) rfl (Nat.le_of_ble_eq_true rfl) dX8_soup_4 ?_
  refine pw_if_ne_b (tgt := 13) C dX8_soup_7 rfl (fun c7 => ?_) (fun c7 => ?_)
  · refine pw_aload_n C dX8_soup_13 rfl ?_
    refine gf_8_12 C dX8_soup_14 ?_
    refine gf_8_60 0 (by decide) C dX8_soup_17 ?_
    refine pw_V 0 ?_
    refine pw_cVI C [] mi_X6_isTold mv_X6_isTold ml_8_131 (oD_1 (by decide)) rfl (c_X6_isTold (by decide)) (by decide) rfl (Nat.le_of_ble_eq_true rfl) dX8_soup_20 ?_
    refine pw_U 0 ?_
    refine pw_if_ne_b (tgt := 29) C dX8_soup_23 rfl (fun c23 => ?_) (fun c23 => ?_)
    · refine pw_aload_n C dX8_soup_29 rfl ?_
      refine gf_8_12 C dX8_soup_30 ?_
      refine gf_8_60 0 (by decide) C dX8_soup_33 ?_
      refine gf_8_135 0 (by decide) C dX8_soup_36 (fun r36 => ?_)
      refine pw_istore_2 C dX8_soup_39 (k := ?_)
      refine pw_aload_n C dX8_soup_40 rfl ?_
      refine gf_8_12 C dX8_soup_41 ?_
      refine gf_8_60 0 (by decide) C dX8_soup_44 ?_
      refine pw_iload_n C dX8_soup_47 rfl ?_
      refine pf_8_135 0 (by decide) C (by omega) dX8_soup_48 ?_
      refine pw_iload_n C dX8_soup_51 rfl ?_
      exact pw_iret C R dX8_soup_52 ⟨(congrArg (fun q => some (iv q)) (by unfold xSoup; (try unfold has at *); (try unfold place at *); (try unfold hasB at *); (try unfold sw4); (try unfold sw3); (repeat (first | rw [pif_t (by first | omega | assumption)] | rw [pif_f (by first | omega | assumption)])); all_goals (first | rfl | omega | ((repeat' split) <;> first | rfl | omega)))), ⟨rfl, (by unfold vSoup; (try unfold has); (try unfold place); (try unfold hasB); first | (rw [vif_t (by omega)]; exact Fr.rf _) | (rw [vif_f (by omega)]; exact Fr.rf _)), fun _ _ _ _ => rfl⟩⟩
    · refine pw_bipush C dX8_soup_26 (by decide) ?_
      exact pw_iret C R dX8_soup_28 ⟨(congrArg (fun q => some (iv q)) (by unfold xSoup; (try unfold has at *); (try unfold place at *); (try unfold hasB at *); (try unfold sw4); (try unfold sw3); (repeat (first | rw [pif_t (by first | omega | assumption)] | rw [pif_f (by first | omega | assumption)])); all_goals (first | rfl | omega | ((repeat' split) <;> first | rfl | omega)))), ⟨rfl, (by unfold vSoup; (try unfold has); (try unfold place); (try unfold hasB); first | (rw [vif_t (by omega)]; exact Fr.rf _) | (rw [vif_f (by omega)]; exact Fr.rf _)), fun _ _ _ _ => rfl⟩⟩
  · refine pw_bipush C dX8_soup_10 (by decide) ?_
    exact pw_iret C R dX8_soup_12 ⟨(congrArg (fun q => some (iv q)) (by unfold xSoup; (try unfold has at *); (try unfold place at *); (try unfold hasB at *); (try unfold sw4); (try unfold sw3); (repeat (first | rw [pif_t (by first | omega | assumption)] | rw [pif_f (by first | omega | assumption)])); all_goals (first | rfl | omega | ((repeat' split) <;> first | rfl | omega)))), ⟨rfl, (by unfold vSoup; (try unfold has); (try unfold place); (try unfold hasB); first | (rw [vif_t (by omega)]; exact Fr.rf _) | (rw [vif_f (by omega)]; exact Fr.rf _)), fun _ _ _ _ => rfl⟩⟩
set_option maxRecDepth 100000 in
set_option maxHeartbeats 400000 in
theorem c_X8_beside {l : Launch} {S : SW} {M : Mem} {b : Int}  (hb : InR b) (hI : DayOk (M 0)) (hk : M 0 0 0 11 = -9) (hS : ShOk (M 2)) (hb : b = 0 ∨ b = 1)  : PM l S yX8_beside cX8_beside 3 (some .int) 1 20 [rv S 2 0 0, iv b] (M) (rX (xBeside (M 0) b) M (vBeside (M 0) b) (M 2)) := by
  refine PM.of (own := RX8) (by decide) rfl [some (rv S 2 0 0), some (iv b), none] rfl rfl (Nat.le_of_ble_eq_true rfl) (fun X hXl C R => ?_)
  subst hXl
  obtain ⟨i1, i2, i3, i4, i5, i6, i7, i8⟩ := id hI
  refine pw_aload_n C dX8_beside_0 rfl ?_
  refine gf_8_12 C dX8_beside_1 ?_
  refine gf_8_60 0 (by decide) C dX8_beside_4 ?_
  refine pw_V 0 ?_
  refine pw_cVI C [] mi_X6_isTold mv_X6_isTold ml_8_131 (oD_1 (by decide)) rfl (c_X6_isTold (by decide)) (by decide) rfl (Nat.le_of_ble_eq_true rfl) dX8_beside_7 ?_
  refine pw_U 0 ?_
  refine pw_if_ne_b (tgt := 16) C dX8_beside_10 rfl (fun c10 => ?_) (fun c10 => ?_)
  · refine pw_aload_n C dX8_beside_16 rfl ?_
    refine gf_8_12 C dX8_beside_17 ?_
    refine gf_8_60 0 (by decide) C dX8_beside_20 ?_
    refine gf_8_138 0 (by decide) C dX8_beside_23 (fun r23 => ?_)
    refine pw_istore_2 C dX8_beside_26 (k := ?_)
    refine pw_aload_n C dX8_beside_27 rfl ?_
    refine gf_8_12 C dX8_beside_28 ?_
    refine gf_8_60 0 (by decide) C dX8_beside_31 ?_
    refine pw_iload_n C dX8_beside_34 rfl ?_
    refine pf_8_138 0 (by decide) C (by omega) dX8_beside_35 ?_
    refine pw_iload_n C dX8_beside_38 rfl ?_
    refine pw_iload_n C dX8_beside_39 rfl ?_
    refine pw_icmp_ne (tgt := 47) C dX8_beside_40 rfl (by omega) (by omega) (fun c40 => ?_) (fun c40 => ?_)
    · refine pw_iconst C dX8_beside_47 ?_
      exact pw_iret C R dX8_beside_48 ⟨(congrArg (fun q => some (iv q)) (by unfold xBeside; (try unfold has at *); (try unfold place at *); (try unfold hasB at *); (try unfold sw4); (try unfold sw3); (repeat (first | rw [pif_t (by first | omega | assumption)] | rw [pif_f (by first | omega | assumption)])); all_goals (first | rfl | omega | ((repeat' split) <;> first | rfl | omega)))), ⟨rfl, (by unfold vBeside; (try unfold has); (try unfold place); (try unfold hasB); first | (rw [vif_t (by omega)]; exact Fr.rf _) | (rw [vif_f (by omega)]; exact Fr.rf _)), fun _ _ _ _ => rfl⟩⟩
    · refine pw_iconst C dX8_beside_43 ?_
      refine pw_goto (tgt := 48) C dX8_beside_44 rfl ?_
      exact pw_iret C R dX8_beside_48 ⟨(congrArg (fun q => some (iv q)) (by unfold xBeside; (try unfold has at *); (try unfold place at *); (try unfold hasB at *); (try unfold sw4); (try unfold sw3); (repeat (first | rw [pif_t (by first | omega | assumption)] | rw [pif_f (by first | omega | assumption)])); all_goals (first | rfl | omega | ((repeat' split) <;> first | rfl | omega)))), ⟨rfl, (by unfold vBeside; (try unfold has); (try unfold place); (try unfold hasB); first | (rw [vif_t (by omega)]; exact Fr.rf _) | (rw [vif_f (by omega)]; exact Fr.rf _)), fun _ _ _ _ => rfl⟩⟩
  · refine pw_bipush C dX8_beside_13 (by decide) ?_
    exact pw_iret C R dX8_beside_15 ⟨(congrArg (fun q => some (iv q)) (by unfold xBeside; (try unfold has at *); (try unfold place at *); (try unfold hasB at *); (try unfold sw4); (try unfold sw3); (repeat (first | rw [pif_t (by first | omega | assumption)] | rw [pif_f (by first | omega | assumption)])); all_goals (first | rfl | omega | ((repeat' split) <;> first | rfl | omega)))), ⟨rfl, (by unfold vBeside; (try unfold has); (try unfold place); (try unfold hasB); first | (rw [vif_t (by omega)]; exact Fr.rf _) | (rw [vif_f (by omega)]; exact Fr.rf _)), fun _ _ _ _ => rfl⟩⟩
