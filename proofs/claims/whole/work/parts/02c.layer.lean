/-! THE LAYER, third part: stores, fields, arrays, calls, ends -/
def vset (V : DM) (k : Nat) (r : Int) (f : Int → Int) : DM := fun k' r' => if k' = k ∧ r' = r then f else V k' r'
theorem vset_s (V : DM) (k : Nat) (r : Int) (f : Int → Int) : vset V k r f k r = f := if_pos ⟨rfl, rfl⟩
theorem vset_k (V : DM) {k k' : Nat} (r : Int) (f : Int → Int) (h : k' ≠ k) (r' : Int) : vset V k r f k' r' = V k' r' := if_neg (fun q => h q.1)
theorem vset_r (V : DM) (k : Nat) {r r' : Int} (f : Int → Int) (h : r' ≠ r) : vset V k r f k r' = V k r' := if_neg (fun q => h q.2)
theorem vset_u (V : DM) (k : Nat) (r i v : Int) : vset V k r (fup (V k r) i v) = vup V k r i v := rfl
theorem VR.set {V : DM} (h : VR V) {k : Nat} {r : Int} {f : Int → Int} (hf : ∀ i, InR (f i)) : VR (vset V k r f) := by
  intro k' r' j
  unfold vset
  split
  · exact hf j
  · exact h _ _ _
theorem ws_setf {d k : Nat} {r : Int} {j : Nat} (hj : allPos[j]? = some (d, k, r)) (S : SW) (M : Mem) (f : Int → Int) : (wsOf S M).set j (S.2.1 d k r, cellOf S (shp d k) f) = wsOf S (mst M d (vset (M d) k r f)) := by
  apply List.ext_getElem?
  intro n
  by_cases hn : n = j
  · subst hn
    have hlt := (List.getElem?_eq_some_iff.mp hj).1
    rw [List.getElem?_set_self (by unfold wsOf; rw [List.length_map]; exact hlt)]
    unfold wsOf
    rw [List.getElem?_map, hj]
    show some _ = some (_, cellOf S (shp d k) (mst M d (vset (M d) k r f) d k r))
    rw [mst_s, vset_s]
  · rw [List.getElem?_set_ne (Ne.symm hn)]
    unfold wsOf
    rw [List.getElem?_map, List.getElem?_map]
    cases hq : allPos[n]? with
    | none => rfl
    | some q =>
      obtain ⟨d', k', r'⟩ := q
      have hne : ¬ (d' = d ∧ k' = k ∧ r' = r) := by
        rintro ⟨rfl, rfl, rfl⟩
        exact hn (pos_inj hq hj)
      show some (_, cellOf S (shp d' k') (M d' k' r')) = some (_, cellOf S (shp d' k') (mst M d (vset (M d) k r f) d' k' r'))
      have e : mst M d (vset (M d) k r f) d' k' r' = M d' k' r' := by
        unfold mst
        split
        · next h =>
          subst h
          exact if_neg (fun q => hne ⟨rfl, q.1, q.2⟩)
        · rfl
      rw [e]
def nl (o : Option Value) : Bool := match o with
  | some v => v.category != 2
  | none => true
def lvok (ls : List (Option Value)) (i : Nat) : Prop := match i with
  | 0 => True
  | j + 1 => nl (ls.getD j none) = true
theorem lv_up1 {la : Array Slot} {nL i : Nat} {ls : List (Option Value)} {v : Value} (h : lv_has la nL ((i, v) :: (lvOf 0 ls).filter (fun q => !(q.1 == i) && !(q.1 + 1 == i && q.2.category == 2)))) (hk : lvok ls i) : lv_has la nL (lvOf 0 (ls.set i (some v))) := by
  refine ⟨h.1, h.2.1, fun q hq => ?_⟩
  obtain ⟨j, e, hj⟩ := (lvOf_mem _ 0 q).mp hq
  have e : q.1 = j := by omega
  by_cases hji : j = i
  · subst hji
    have hlt : j < ls.length := by
      have := (List.getElem?_eq_some_iff.mp hj).1
      simpa using this
    rw [List.getElem?_set_self hlt] at hj
    have hq2 : q = (j, v) := by
      obtain ⟨a, b⟩ := q
      simp at hj e
      rw [e, hj]
    rw [hq2]
    exact h.2.2 (j, v) List.mem_cons_self
  · rw [List.getElem?_set_ne (Ne.symm hji)] at hj
    refine h.2.2 q (List.mem_cons_of_mem _ (List.mem_filter.mpr ⟨(lvOf_mem _ 0 q).mpr ⟨j, by omega, hj⟩, ?_⟩))
    have h1 : (q.1 == i) = false := by simp; omega
    have h2 : (q.1 + 1 == i && q.2.category == 2) = false := by
      by_cases h3 : q.1 + 1 = i
      · cases i with
        | zero => omega
        | succ i =>
          have hq1 : j = i := by omega
          subst hq1
          have h4 : nl (ls.getD j none) = true := hk
          rw [List.getD_eq_getElem?_getD, hj] at h4
          have h5 : (q.2.category != 2) = true := h4
          simp at h5 ⊢
          omega
      · simp [h3]
    simp only [h1, h2]
    rfl
theorem lv_up2 {la : Array Slot} {nL i : Nat} {ls : List (Option Value)} {v : Value} (h : lv_has la nL ((i, v) :: (lvOf 0 ls).filter (fun q => !(q.1 == i) && (!(q.1 == i + 1) && !(q.1 + 1 == i && q.2.category == 2))))) (hk : lvok ls i) : lv_has la nL (lvOf 0 ((ls.set i (some v)).set (i + 1) none)) := by
  refine ⟨h.1, h.2.1, fun q hq => ?_⟩
  obtain ⟨j, e, hj⟩ := (lvOf_mem _ 0 q).mp hq
  have e : q.1 = j := by omega
  have hji1 : j ≠ i + 1 := by
    rintro rfl
    have hlt : i + 1 < (ls.set i (some v)).length := by
      have := (List.getElem?_eq_some_iff.mp hj).1
      simpa using this
    rw [List.getElem?_set_self hlt] at hj
    cases hj
  rw [List.getElem?_set_ne (Ne.symm hji1)] at hj
  by_cases hji : j = i
  · subst hji
    have hlt : j < ls.length := by
      have := (List.getElem?_eq_some_iff.mp hj).1
      simpa using this
    rw [List.getElem?_set_self hlt] at hj
    have hq2 : q = (j, v) := by
      obtain ⟨a, b⟩ := q
      simp at hj e
      rw [e, hj]
    rw [hq2]
    exact h.2.2 (j, v) List.mem_cons_self
  · rw [List.getElem?_set_ne (Ne.symm hji)] at hj
    refine h.2.2 q (List.mem_cons_of_mem _ (List.mem_filter.mpr ⟨(lvOf_mem _ 0 q).mpr ⟨j, by omega, hj⟩, ?_⟩))
    have h1 : (q.1 == i) = false := by simp; omega
    have h1' : (q.1 == i + 1) = false := by simp; omega
    have h2 : (q.1 + 1 == i && q.2.category == 2) = false := by
      by_cases h3 : q.1 + 1 = i
      · cases i with
        | zero => omega
        | succ i =>
          have hq1 : j = i := by omega
          subst hq1
          have h4 : nl (ls.getD j none) = true := hk
          rw [List.getD_eq_getElem?_getD, hj] at h4
          have h5 : (q.2.category != 2) = true := h4
          simp at h5 ⊢
          omega
      · simp [h3]
    simp only [h1, h1', h2]
    rfl
def MI (y : MethodName) (cc' : ByteArray) (maxL' : Nat) (ret' : Option FieldType) (n : Nat) : Prop := Cond.code y cc' maxL' ret' ∈ tbl0 ∧ Cond.initialized y.cls ∈ tbl0 ∧ (y.cls ≠ "java/lang/invoke/MethodHandle" ∧ y.cls ≠ "java/lang/invoke/VarHandle" ∧ (parseMethodDescriptor y.desc).map (fun d => d.parameters.length) = some n)
def MV (y : MethodName) : Prop := Cond.instanceMethod y ∈ tbl0 ∧ Cond.selects y.cls y y ∈ tbl0
theorem good0 {y : MethodName} {cc' : ByteArray} {maxL' : Nat} {ret' : Option FieldType} (h : Cond.code y cc' maxL' ret' ∈ tbl0) : GoodIn tbl0 (Cond.code y cc' maxL' ret' :: tbl0) := by
  intro w hw
  have h1 : w ∈ tbl0 := by
    rcases List.mem_cons.mp hw with rfl | h2
    · exact h
    · exact h2
  exact ⟨h1, good_of_word (List.mem_filter.mp h1).2⟩
section PWS
variable {X : PX} {S : SW} {M : Mem} {own : String} {cc : ByteArray} {f lo : Nat} {pc : Nat} {ls : List (Option Value)} {st : List Value} {P : Option Value → Mem → Prop}
theorem pw_istore_g (C : Cx X S own cc f lo) {i : Nat} {x : Int} (hd : decode cc pc = .ok (.istore i, 2)) (hi : i < ls.length) (hk : lvok ls i) (k : PW X S M (pc + 2) (ls.set i (some (iv x))) st) : PW X S M pc ls (iv x :: st) :=
  fun hn hR H locs la hP hS hl => lv_istore C.1 C.2.1 hd hl (by omega) rfl (fun la' hl' => k (by simpa using hn) hR H locs la' hP hS (lv_up1 hl' hk))
theorem pw_istore_ng (C : Cx X S own cc f lo) {i : Fin 4} {x : Int} (hd : decode cc pc = .ok (.istore_n i, 1)) (hi : (i : Nat) < ls.length) (hk : lvok ls i) (k : PW X S M (pc + 1) (ls.set i (some (iv x))) st) : PW X S M pc ls (iv x :: st) :=
  fun hn hR H locs la hP hS hl => lv_istore_n C.1 C.2.1 hd rfl hl (by omega) rfl (fun la' hl' => k (by simpa using hn) hR H locs la' hP hS (lv_up1 hl' hk))
theorem pw_astore_g (C : Cx X S own cc f lo) {i : Nat} {d k : Nat} {r : Int} (hd : decode cc pc = .ok (.astore i, 2)) (hi : i < ls.length) (hk : lvok ls i) (kk : PW X S M (pc + 2) (ls.set i (some (rv S d k r))) st) : PW X S M pc ls (rv S d k r :: st) :=
  fun hn hR H locs la hP hS hl => lv_astore C.1 C.2.1 hd hl (by omega) rfl (fun la' hl' => kk (by simpa using hn) hR H locs la' hP hS (lv_up1 hl' hk))
theorem pw_astore_ng (C : Cx X S own cc f lo) {i : Fin 4} {d k : Nat} {r : Int} (hd : decode cc pc = .ok (.astore_n i, 1)) (hi : (i : Nat) < ls.length) (hk : lvok ls i) (kk : PW X S M (pc + 1) (ls.set i (some (rv S d k r))) st) : PW X S M pc ls (rv S d k r :: st) :=
  fun hn hR H locs la hP hS hl => lv_astore_n C.1 C.2.1 hd rfl hl (by omega) rfl (fun la' hl' => kk (by simpa using hn) hR H locs la' hP hS (lv_up1 hl' hk))
theorem pw_lstore_g (C : Cx X S own cc f lo) {i : Nat} {x : Int} (hd : decode cc pc = .ok (.lstore i, 2)) (hi : i + 1 < ls.length) (hk : lvok ls i) (k : PW X S M (pc + 2) ((ls.set i (some (jv x))).set (i + 1) none) st) : PW X S M pc ls (jv x :: st) :=
  fun hn hR H locs la hP hS hl => lv_lstore C.1 C.2.1 hd hl (by omega) rfl (fun la' hl' => k (by simpa using hn) hR H locs la' hP hS (lv_up2 hl' hk))
theorem pw_lstore_ng (C : Cx X S own cc f lo) {i : Fin 4} {x : Int} (hd : decode cc pc = .ok (.lstore_n i, 1)) (hi : (i : Nat) + 1 < ls.length) (hk : lvok ls i) (k : PW X S M (pc + 1) ((ls.set i (some (jv x))).set (i + 1) none) st) : PW X S M pc ls (jv x :: st) :=
  fun hn hR H locs la hP hS hl => lv_lstore_n C.1 C.2.1 hd rfl hl (by omega) rfl (fun la' hl' => k (by simpa using hn) hR H locs la' hP hS (lv_up2 hl' hk))
theorem pw_iinc_g (C : Cx X S own cc f lo) {i : Nat} {n x : Int} (hd : decode cc pc = .ok (.iinc i n, 3)) (hi : i < ls.length) (hx : ls[i]? = some (some (iv x))) (hk : lvok ls i) (k : PW X S M (pc + 3) (ls.set i (some (iv (x + n)))) st) : PW X S M pc ls st :=
  fun hn hR H locs la hP hS hl => by
    obtain ⟨j, hj⟩ := List.getElem?_of_mem ((lvOf_mem ls 0 (i, iv x)).mpr ⟨i, by simp, hx⟩)
    exact lv_iinc C.1 C.2.1 hd hl hj (v := Int32.ofInt (x + n)) (by rw [← Int32.ofInt_add]) (by omega) rfl (fun la' hl' => k (by simpa using hn) hR H locs la' hP hS (lv_up1 hl' hk))
theorem pw_istore_0 (C : Cx X S own cc f lo) {w : Option Value} {tl : List (Option Value)} {x : Int} (hd : decode cc pc = .ok (.istore_n 0, 1)) (k : PW X S M (pc + 1) (some (iv x) :: tl) st) : PW X S M pc (w :: tl) (iv x :: st) := pw_istore_ng C (i := 0) hd (show 0 < List.length _ by simp only [List.length_cons]; omega) trivial k
theorem pw_iinc_0 (C : Cx X S own cc f lo) {tl : List (Option Value)} {n x : Int} (hd : decode cc pc = .ok (.iinc 0 n, 3)) (k : PW X S M (pc + 3) (some (iv (x + n)) :: tl) st) : PW X S M pc (some (iv x) :: tl) st := pw_iinc_g C (i := 0) hd (show 0 < List.length _ by simp only [List.length_cons]; omega) rfl trivial k
theorem pw_istore_1 (C : Cx X S own cc f lo) {a0 : Option Value} {w : Option Value} {tl : List (Option Value)} {x : Int} (hd : decode cc pc = .ok (.istore_n 1, 1)) (hnl : nl a0 = true := by rfl) (k : PW X S M (pc + 1) (a0 :: some (iv x) :: tl) st) : PW X S M pc (a0 :: w :: tl) (iv x :: st) := pw_istore_ng C (i := 1) hd (show 1 < List.length _ by simp only [List.length_cons]; omega) hnl k
theorem pw_iinc_1 (C : Cx X S own cc f lo) {a0 : Option Value} {tl : List (Option Value)} {n x : Int} (hd : decode cc pc = .ok (.iinc 1 n, 3)) (hnl : nl a0 = true := by rfl) (k : PW X S M (pc + 3) (a0 :: some (iv (x + n)) :: tl) st) : PW X S M pc (a0 :: some (iv x) :: tl) st := pw_iinc_g C (i := 1) hd (show 1 < List.length _ by simp only [List.length_cons]; omega) rfl hnl k
theorem pw_istore_2 (C : Cx X S own cc f lo) {a0 a1 : Option Value} {w : Option Value} {tl : List (Option Value)} {x : Int} (hd : decode cc pc = .ok (.istore_n 2, 1)) (hnl : nl a1 = true := by rfl) (k : PW X S M (pc + 1) (a0 :: a1 :: some (iv x) :: tl) st) : PW X S M pc (a0 :: a1 :: w :: tl) (iv x :: st) := pw_istore_ng C (i := 2) hd (show 2 < List.length _ by simp only [List.length_cons]; omega) hnl k
theorem pw_iinc_2 (C : Cx X S own cc f lo) {a0 a1 : Option Value} {tl : List (Option Value)} {n x : Int} (hd : decode cc pc = .ok (.iinc 2 n, 3)) (hnl : nl a1 = true := by rfl) (k : PW X S M (pc + 3) (a0 :: a1 :: some (iv (x + n)) :: tl) st) : PW X S M pc (a0 :: a1 :: some (iv x) :: tl) st := pw_iinc_g C (i := 2) hd (show 2 < List.length _ by simp only [List.length_cons]; omega) rfl hnl k
theorem pw_istore_3 (C : Cx X S own cc f lo) {a0 a1 a2 : Option Value} {w : Option Value} {tl : List (Option Value)} {x : Int} (hd : decode cc pc = .ok (.istore_n 3, 1)) (hnl : nl a2 = true := by rfl) (k : PW X S M (pc + 1) (a0 :: a1 :: a2 :: some (iv x) :: tl) st) : PW X S M pc (a0 :: a1 :: a2 :: w :: tl) (iv x :: st) := pw_istore_ng C (i := 3) hd (show 3 < List.length _ by simp only [List.length_cons]; omega) hnl k
theorem pw_iinc_3 (C : Cx X S own cc f lo) {a0 a1 a2 : Option Value} {tl : List (Option Value)} {n x : Int} (hd : decode cc pc = .ok (.iinc 3 n, 3)) (hnl : nl a2 = true := by rfl) (k : PW X S M (pc + 3) (a0 :: a1 :: a2 :: some (iv (x + n)) :: tl) st) : PW X S M pc (a0 :: a1 :: a2 :: some (iv x) :: tl) st := pw_iinc_g C (i := 3) hd (show 3 < List.length _ by simp only [List.length_cons]; omega) rfl hnl k
theorem pw_istore_4 (C : Cx X S own cc f lo) {a0 a1 a2 a3 : Option Value} {w : Option Value} {tl : List (Option Value)} {x : Int} (hd : decode cc pc = .ok (.istore 4, 2)) (hnl : nl a3 = true := by rfl) (k : PW X S M (pc + 2) (a0 :: a1 :: a2 :: a3 :: some (iv x) :: tl) st) : PW X S M pc (a0 :: a1 :: a2 :: a3 :: w :: tl) (iv x :: st) := pw_istore_g C (i := 4) hd (show 4 < List.length _ by simp only [List.length_cons]; omega) hnl k
theorem pw_iinc_4 (C : Cx X S own cc f lo) {a0 a1 a2 a3 : Option Value} {tl : List (Option Value)} {n x : Int} (hd : decode cc pc = .ok (.iinc 4 n, 3)) (hnl : nl a3 = true := by rfl) (k : PW X S M (pc + 3) (a0 :: a1 :: a2 :: a3 :: some (iv (x + n)) :: tl) st) : PW X S M pc (a0 :: a1 :: a2 :: a3 :: some (iv x) :: tl) st := pw_iinc_g C (i := 4) hd (show 4 < List.length _ by simp only [List.length_cons]; omega) rfl hnl k
theorem pw_istore_5 (C : Cx X S own cc f lo) {a0 a1 a2 a3 a4 : Option Value} {w : Option Value} {tl : List (Option Value)} {x : Int} (hd : decode cc pc = .ok (.istore 5, 2)) (hnl : nl a4 = true := by rfl) (k : PW X S M (pc + 2) (a0 :: a1 :: a2 :: a3 :: a4 :: some (iv x) :: tl) st) : PW X S M pc (a0 :: a1 :: a2 :: a3 :: a4 :: w :: tl) (iv x :: st) := pw_istore_g C (i := 5) hd (show 5 < List.length _ by simp only [List.length_cons]; omega) hnl k
theorem pw_iinc_5 (C : Cx X S own cc f lo) {a0 a1 a2 a3 a4 : Option Value} {tl : List (Option Value)} {n x : Int} (hd : decode cc pc = .ok (.iinc 5 n, 3)) (hnl : nl a4 = true := by rfl) (k : PW X S M (pc + 3) (a0 :: a1 :: a2 :: a3 :: a4 :: some (iv (x + n)) :: tl) st) : PW X S M pc (a0 :: a1 :: a2 :: a3 :: a4 :: some (iv x) :: tl) st := pw_iinc_g C (i := 5) hd (show 5 < List.length _ by simp only [List.length_cons]; omega) rfl hnl k
theorem pw_istore_6 (C : Cx X S own cc f lo) {a0 a1 a2 a3 a4 a5 : Option Value} {w : Option Value} {tl : List (Option Value)} {x : Int} (hd : decode cc pc = .ok (.istore 6, 2)) (hnl : nl a5 = true := by rfl) (k : PW X S M (pc + 2) (a0 :: a1 :: a2 :: a3 :: a4 :: a5 :: some (iv x) :: tl) st) : PW X S M pc (a0 :: a1 :: a2 :: a3 :: a4 :: a5 :: w :: tl) (iv x :: st) := pw_istore_g C (i := 6) hd (show 6 < List.length _ by simp only [List.length_cons]; omega) hnl k
theorem pw_iinc_6 (C : Cx X S own cc f lo) {a0 a1 a2 a3 a4 a5 : Option Value} {tl : List (Option Value)} {n x : Int} (hd : decode cc pc = .ok (.iinc 6 n, 3)) (hnl : nl a5 = true := by rfl) (k : PW X S M (pc + 3) (a0 :: a1 :: a2 :: a3 :: a4 :: a5 :: some (iv (x + n)) :: tl) st) : PW X S M pc (a0 :: a1 :: a2 :: a3 :: a4 :: a5 :: some (iv x) :: tl) st := pw_iinc_g C (i := 6) hd (show 6 < List.length _ by simp only [List.length_cons]; omega) rfl hnl k
theorem pw_istore_7 (C : Cx X S own cc f lo) {a0 a1 a2 a3 a4 a5 a6 : Option Value} {w : Option Value} {tl : List (Option Value)} {x : Int} (hd : decode cc pc = .ok (.istore 7, 2)) (hnl : nl a6 = true := by rfl) (k : PW X S M (pc + 2) (a0 :: a1 :: a2 :: a3 :: a4 :: a5 :: a6 :: some (iv x) :: tl) st) : PW X S M pc (a0 :: a1 :: a2 :: a3 :: a4 :: a5 :: a6 :: w :: tl) (iv x :: st) := pw_istore_g C (i := 7) hd (show 7 < List.length _ by simp only [List.length_cons]; omega) hnl k
theorem pw_iinc_7 (C : Cx X S own cc f lo) {a0 a1 a2 a3 a4 a5 a6 : Option Value} {tl : List (Option Value)} {n x : Int} (hd : decode cc pc = .ok (.iinc 7 n, 3)) (hnl : nl a6 = true := by rfl) (k : PW X S M (pc + 3) (a0 :: a1 :: a2 :: a3 :: a4 :: a5 :: a6 :: some (iv (x + n)) :: tl) st) : PW X S M pc (a0 :: a1 :: a2 :: a3 :: a4 :: a5 :: a6 :: some (iv x) :: tl) st := pw_iinc_g C (i := 7) hd (show 7 < List.length _ by simp only [List.length_cons]; omega) rfl hnl k
theorem pw_istore_8 (C : Cx X S own cc f lo) {a0 a1 a2 a3 a4 a5 a6 a7 : Option Value} {w : Option Value} {tl : List (Option Value)} {x : Int} (hd : decode cc pc = .ok (.istore 8, 2)) (hnl : nl a7 = true := by rfl) (k : PW X S M (pc + 2) (a0 :: a1 :: a2 :: a3 :: a4 :: a5 :: a6 :: a7 :: some (iv x) :: tl) st) : PW X S M pc (a0 :: a1 :: a2 :: a3 :: a4 :: a5 :: a6 :: a7 :: w :: tl) (iv x :: st) := pw_istore_g C (i := 8) hd (show 8 < List.length _ by simp only [List.length_cons]; omega) hnl k
theorem pw_iinc_8 (C : Cx X S own cc f lo) {a0 a1 a2 a3 a4 a5 a6 a7 : Option Value} {tl : List (Option Value)} {n x : Int} (hd : decode cc pc = .ok (.iinc 8 n, 3)) (hnl : nl a7 = true := by rfl) (k : PW X S M (pc + 3) (a0 :: a1 :: a2 :: a3 :: a4 :: a5 :: a6 :: a7 :: some (iv (x + n)) :: tl) st) : PW X S M pc (a0 :: a1 :: a2 :: a3 :: a4 :: a5 :: a6 :: a7 :: some (iv x) :: tl) st := pw_iinc_g C (i := 8) hd (show 8 < List.length _ by simp only [List.length_cons]; omega) rfl hnl k
theorem pw_istore_9 (C : Cx X S own cc f lo) {a0 a1 a2 a3 a4 a5 a6 a7 a8 : Option Value} {w : Option Value} {tl : List (Option Value)} {x : Int} (hd : decode cc pc = .ok (.istore 9, 2)) (hnl : nl a8 = true := by rfl) (k : PW X S M (pc + 2) (a0 :: a1 :: a2 :: a3 :: a4 :: a5 :: a6 :: a7 :: a8 :: some (iv x) :: tl) st) : PW X S M pc (a0 :: a1 :: a2 :: a3 :: a4 :: a5 :: a6 :: a7 :: a8 :: w :: tl) (iv x :: st) := pw_istore_g C (i := 9) hd (show 9 < List.length _ by simp only [List.length_cons]; omega) hnl k
theorem pw_iinc_9 (C : Cx X S own cc f lo) {a0 a1 a2 a3 a4 a5 a6 a7 a8 : Option Value} {tl : List (Option Value)} {n x : Int} (hd : decode cc pc = .ok (.iinc 9 n, 3)) (hnl : nl a8 = true := by rfl) (k : PW X S M (pc + 3) (a0 :: a1 :: a2 :: a3 :: a4 :: a5 :: a6 :: a7 :: a8 :: some (iv (x + n)) :: tl) st) : PW X S M pc (a0 :: a1 :: a2 :: a3 :: a4 :: a5 :: a6 :: a7 :: a8 :: some (iv x) :: tl) st := pw_iinc_g C (i := 9) hd (show 9 < List.length _ by simp only [List.length_cons]; omega) rfl hnl k
theorem pw_istore_10 (C : Cx X S own cc f lo) {a0 a1 a2 a3 a4 a5 a6 a7 a8 a9 : Option Value} {w : Option Value} {tl : List (Option Value)} {x : Int} (hd : decode cc pc = .ok (.istore 10, 2)) (hnl : nl a9 = true := by rfl) (k : PW X S M (pc + 2) (a0 :: a1 :: a2 :: a3 :: a4 :: a5 :: a6 :: a7 :: a8 :: a9 :: some (iv x) :: tl) st) : PW X S M pc (a0 :: a1 :: a2 :: a3 :: a4 :: a5 :: a6 :: a7 :: a8 :: a9 :: w :: tl) (iv x :: st) := pw_istore_g C (i := 10) hd (show 10 < List.length _ by simp only [List.length_cons]; omega) hnl k
theorem pw_iinc_10 (C : Cx X S own cc f lo) {a0 a1 a2 a3 a4 a5 a6 a7 a8 a9 : Option Value} {tl : List (Option Value)} {n x : Int} (hd : decode cc pc = .ok (.iinc 10 n, 3)) (hnl : nl a9 = true := by rfl) (k : PW X S M (pc + 3) (a0 :: a1 :: a2 :: a3 :: a4 :: a5 :: a6 :: a7 :: a8 :: a9 :: some (iv (x + n)) :: tl) st) : PW X S M pc (a0 :: a1 :: a2 :: a3 :: a4 :: a5 :: a6 :: a7 :: a8 :: a9 :: some (iv x) :: tl) st := pw_iinc_g C (i := 10) hd (show 10 < List.length _ by simp only [List.length_cons]; omega) rfl hnl k
theorem pw_istore_11 (C : Cx X S own cc f lo) {a0 a1 a2 a3 a4 a5 a6 a7 a8 a9 a10 : Option Value} {w : Option Value} {tl : List (Option Value)} {x : Int} (hd : decode cc pc = .ok (.istore 11, 2)) (hnl : nl a10 = true := by rfl) (k : PW X S M (pc + 2) (a0 :: a1 :: a2 :: a3 :: a4 :: a5 :: a6 :: a7 :: a8 :: a9 :: a10 :: some (iv x) :: tl) st) : PW X S M pc (a0 :: a1 :: a2 :: a3 :: a4 :: a5 :: a6 :: a7 :: a8 :: a9 :: a10 :: w :: tl) (iv x :: st) := pw_istore_g C (i := 11) hd (show 11 < List.length _ by simp only [List.length_cons]; omega) hnl k
theorem pw_iinc_11 (C : Cx X S own cc f lo) {a0 a1 a2 a3 a4 a5 a6 a7 a8 a9 a10 : Option Value} {tl : List (Option Value)} {n x : Int} (hd : decode cc pc = .ok (.iinc 11 n, 3)) (hnl : nl a10 = true := by rfl) (k : PW X S M (pc + 3) (a0 :: a1 :: a2 :: a3 :: a4 :: a5 :: a6 :: a7 :: a8 :: a9 :: a10 :: some (iv (x + n)) :: tl) st) : PW X S M pc (a0 :: a1 :: a2 :: a3 :: a4 :: a5 :: a6 :: a7 :: a8 :: a9 :: a10 :: some (iv x) :: tl) st := pw_iinc_g C (i := 11) hd (show 11 < List.length _ by simp only [List.length_cons]; omega) rfl hnl k
theorem pw_istore_12 (C : Cx X S own cc f lo) {a0 a1 a2 a3 a4 a5 a6 a7 a8 a9 a10 a11 : Option Value} {w : Option Value} {tl : List (Option Value)} {x : Int} (hd : decode cc pc = .ok (.istore 12, 2)) (hnl : nl a11 = true := by rfl) (k : PW X S M (pc + 2) (a0 :: a1 :: a2 :: a3 :: a4 :: a5 :: a6 :: a7 :: a8 :: a9 :: a10 :: a11 :: some (iv x) :: tl) st) : PW X S M pc (a0 :: a1 :: a2 :: a3 :: a4 :: a5 :: a6 :: a7 :: a8 :: a9 :: a10 :: a11 :: w :: tl) (iv x :: st) := pw_istore_g C (i := 12) hd (show 12 < List.length _ by simp only [List.length_cons]; omega) hnl k
theorem pw_iinc_12 (C : Cx X S own cc f lo) {a0 a1 a2 a3 a4 a5 a6 a7 a8 a9 a10 a11 : Option Value} {tl : List (Option Value)} {n x : Int} (hd : decode cc pc = .ok (.iinc 12 n, 3)) (hnl : nl a11 = true := by rfl) (k : PW X S M (pc + 3) (a0 :: a1 :: a2 :: a3 :: a4 :: a5 :: a6 :: a7 :: a8 :: a9 :: a10 :: a11 :: some (iv (x + n)) :: tl) st) : PW X S M pc (a0 :: a1 :: a2 :: a3 :: a4 :: a5 :: a6 :: a7 :: a8 :: a9 :: a10 :: a11 :: some (iv x) :: tl) st := pw_iinc_g C (i := 12) hd (show 12 < List.length _ by simp only [List.length_cons]; omega) rfl hnl k
theorem pw_istore_13 (C : Cx X S own cc f lo) {a0 a1 a2 a3 a4 a5 a6 a7 a8 a9 a10 a11 a12 : Option Value} {w : Option Value} {tl : List (Option Value)} {x : Int} (hd : decode cc pc = .ok (.istore 13, 2)) (hnl : nl a12 = true := by rfl) (k : PW X S M (pc + 2) (a0 :: a1 :: a2 :: a3 :: a4 :: a5 :: a6 :: a7 :: a8 :: a9 :: a10 :: a11 :: a12 :: some (iv x) :: tl) st) : PW X S M pc (a0 :: a1 :: a2 :: a3 :: a4 :: a5 :: a6 :: a7 :: a8 :: a9 :: a10 :: a11 :: a12 :: w :: tl) (iv x :: st) := pw_istore_g C (i := 13) hd (show 13 < List.length _ by simp only [List.length_cons]; omega) hnl k
theorem pw_iinc_13 (C : Cx X S own cc f lo) {a0 a1 a2 a3 a4 a5 a6 a7 a8 a9 a10 a11 a12 : Option Value} {tl : List (Option Value)} {n x : Int} (hd : decode cc pc = .ok (.iinc 13 n, 3)) (hnl : nl a12 = true := by rfl) (k : PW X S M (pc + 3) (a0 :: a1 :: a2 :: a3 :: a4 :: a5 :: a6 :: a7 :: a8 :: a9 :: a10 :: a11 :: a12 :: some (iv (x + n)) :: tl) st) : PW X S M pc (a0 :: a1 :: a2 :: a3 :: a4 :: a5 :: a6 :: a7 :: a8 :: a9 :: a10 :: a11 :: a12 :: some (iv x) :: tl) st := pw_iinc_g C (i := 13) hd (show 13 < List.length _ by simp only [List.length_cons]; omega) rfl hnl k
theorem pw_istore_14 (C : Cx X S own cc f lo) {a0 a1 a2 a3 a4 a5 a6 a7 a8 a9 a10 a11 a12 a13 : Option Value} {w : Option Value} {tl : List (Option Value)} {x : Int} (hd : decode cc pc = .ok (.istore 14, 2)) (hnl : nl a13 = true := by rfl) (k : PW X S M (pc + 2) (a0 :: a1 :: a2 :: a3 :: a4 :: a5 :: a6 :: a7 :: a8 :: a9 :: a10 :: a11 :: a12 :: a13 :: some (iv x) :: tl) st) : PW X S M pc (a0 :: a1 :: a2 :: a3 :: a4 :: a5 :: a6 :: a7 :: a8 :: a9 :: a10 :: a11 :: a12 :: a13 :: w :: tl) (iv x :: st) := pw_istore_g C (i := 14) hd (show 14 < List.length _ by simp only [List.length_cons]; omega) hnl k
theorem pw_iinc_14 (C : Cx X S own cc f lo) {a0 a1 a2 a3 a4 a5 a6 a7 a8 a9 a10 a11 a12 a13 : Option Value} {tl : List (Option Value)} {n x : Int} (hd : decode cc pc = .ok (.iinc 14 n, 3)) (hnl : nl a13 = true := by rfl) (k : PW X S M (pc + 3) (a0 :: a1 :: a2 :: a3 :: a4 :: a5 :: a6 :: a7 :: a8 :: a9 :: a10 :: a11 :: a12 :: a13 :: some (iv (x + n)) :: tl) st) : PW X S M pc (a0 :: a1 :: a2 :: a3 :: a4 :: a5 :: a6 :: a7 :: a8 :: a9 :: a10 :: a11 :: a12 :: a13 :: some (iv x) :: tl) st := pw_iinc_g C (i := 14) hd (show 14 < List.length _ by simp only [List.length_cons]; omega) rfl hnl k
theorem pw_iincq_0 (C : Cx X S own cc f lo) {tl : List (Option Value)} {n x : Int} (m : Int) (hd : decode cc pc = .ok (.iinc 0 n, 3)) (hm : x + n = m := by decide) (k : PW X S M (pc + 3) (some (iv m) :: tl) st) : PW X S M pc (some (iv x) :: tl) st := by subst hm; exact pw_iinc_0 C hd (k := k)
theorem pw_iincq_1 (C : Cx X S own cc f lo) {a0 : Option Value} {tl : List (Option Value)} {n x : Int} (m : Int) (hd : decode cc pc = .ok (.iinc 1 n, 3)) (hnl : nl a0 = true := by rfl) (hm : x + n = m := by decide) (k : PW X S M (pc + 3) (a0 :: some (iv m) :: tl) st) : PW X S M pc (a0 :: some (iv x) :: tl) st := by subst hm; exact pw_iinc_1 C hd (hnl := hnl) (k := k)
theorem pw_iincq_2 (C : Cx X S own cc f lo) {a0 a1 : Option Value} {tl : List (Option Value)} {n x : Int} (m : Int) (hd : decode cc pc = .ok (.iinc 2 n, 3)) (hnl : nl a1 = true := by rfl) (hm : x + n = m := by decide) (k : PW X S M (pc + 3) (a0 :: a1 :: some (iv m) :: tl) st) : PW X S M pc (a0 :: a1 :: some (iv x) :: tl) st := by subst hm; exact pw_iinc_2 C hd (hnl := hnl) (k := k)
theorem pw_iincq_3 (C : Cx X S own cc f lo) {a0 a1 a2 : Option Value} {tl : List (Option Value)} {n x : Int} (m : Int) (hd : decode cc pc = .ok (.iinc 3 n, 3)) (hnl : nl a2 = true := by rfl) (hm : x + n = m := by decide) (k : PW X S M (pc + 3) (a0 :: a1 :: a2 :: some (iv m) :: tl) st) : PW X S M pc (a0 :: a1 :: a2 :: some (iv x) :: tl) st := by subst hm; exact pw_iinc_3 C hd (hnl := hnl) (k := k)
theorem pw_iincq_4 (C : Cx X S own cc f lo) {a0 a1 a2 a3 : Option Value} {tl : List (Option Value)} {n x : Int} (m : Int) (hd : decode cc pc = .ok (.iinc 4 n, 3)) (hnl : nl a3 = true := by rfl) (hm : x + n = m := by decide) (k : PW X S M (pc + 3) (a0 :: a1 :: a2 :: a3 :: some (iv m) :: tl) st) : PW X S M pc (a0 :: a1 :: a2 :: a3 :: some (iv x) :: tl) st := by subst hm; exact pw_iinc_4 C hd (hnl := hnl) (k := k)
theorem pw_iincq_5 (C : Cx X S own cc f lo) {a0 a1 a2 a3 a4 : Option Value} {tl : List (Option Value)} {n x : Int} (m : Int) (hd : decode cc pc = .ok (.iinc 5 n, 3)) (hnl : nl a4 = true := by rfl) (hm : x + n = m := by decide) (k : PW X S M (pc + 3) (a0 :: a1 :: a2 :: a3 :: a4 :: some (iv m) :: tl) st) : PW X S M pc (a0 :: a1 :: a2 :: a3 :: a4 :: some (iv x) :: tl) st := by subst hm; exact pw_iinc_5 C hd (hnl := hnl) (k := k)
theorem pw_iincq_6 (C : Cx X S own cc f lo) {a0 a1 a2 a3 a4 a5 : Option Value} {tl : List (Option Value)} {n x : Int} (m : Int) (hd : decode cc pc = .ok (.iinc 6 n, 3)) (hnl : nl a5 = true := by rfl) (hm : x + n = m := by decide) (k : PW X S M (pc + 3) (a0 :: a1 :: a2 :: a3 :: a4 :: a5 :: some (iv m) :: tl) st) : PW X S M pc (a0 :: a1 :: a2 :: a3 :: a4 :: a5 :: some (iv x) :: tl) st := by subst hm; exact pw_iinc_6 C hd (hnl := hnl) (k := k)
theorem pw_iincq_7 (C : Cx X S own cc f lo) {a0 a1 a2 a3 a4 a5 a6 : Option Value} {tl : List (Option Value)} {n x : Int} (m : Int) (hd : decode cc pc = .ok (.iinc 7 n, 3)) (hnl : nl a6 = true := by rfl) (hm : x + n = m := by decide) (k : PW X S M (pc + 3) (a0 :: a1 :: a2 :: a3 :: a4 :: a5 :: a6 :: some (iv m) :: tl) st) : PW X S M pc (a0 :: a1 :: a2 :: a3 :: a4 :: a5 :: a6 :: some (iv x) :: tl) st := by subst hm; exact pw_iinc_7 C hd (hnl := hnl) (k := k)
theorem pw_iincq_8 (C : Cx X S own cc f lo) {a0 a1 a2 a3 a4 a5 a6 a7 : Option Value} {tl : List (Option Value)} {n x : Int} (m : Int) (hd : decode cc pc = .ok (.iinc 8 n, 3)) (hnl : nl a7 = true := by rfl) (hm : x + n = m := by decide) (k : PW X S M (pc + 3) (a0 :: a1 :: a2 :: a3 :: a4 :: a5 :: a6 :: a7 :: some (iv m) :: tl) st) : PW X S M pc (a0 :: a1 :: a2 :: a3 :: a4 :: a5 :: a6 :: a7 :: some (iv x) :: tl) st := by subst hm; exact pw_iinc_8 C hd (hnl := hnl) (k := k)
theorem pw_iincq_9 (C : Cx X S own cc f lo) {a0 a1 a2 a3 a4 a5 a6 a7 a8 : Option Value} {tl : List (Option Value)} {n x : Int} (m : Int) (hd : decode cc pc = .ok (.iinc 9 n, 3)) (hnl : nl a8 = true := by rfl) (hm : x + n = m := by decide) (k : PW X S M (pc + 3) (a0 :: a1 :: a2 :: a3 :: a4 :: a5 :: a6 :: a7 :: a8 :: some (iv m) :: tl) st) : PW X S M pc (a0 :: a1 :: a2 :: a3 :: a4 :: a5 :: a6 :: a7 :: a8 :: some (iv x) :: tl) st := by subst hm; exact pw_iinc_9 C hd (hnl := hnl) (k := k)
theorem pw_iincq_10 (C : Cx X S own cc f lo) {a0 a1 a2 a3 a4 a5 a6 a7 a8 a9 : Option Value} {tl : List (Option Value)} {n x : Int} (m : Int) (hd : decode cc pc = .ok (.iinc 10 n, 3)) (hnl : nl a9 = true := by rfl) (hm : x + n = m := by decide) (k : PW X S M (pc + 3) (a0 :: a1 :: a2 :: a3 :: a4 :: a5 :: a6 :: a7 :: a8 :: a9 :: some (iv m) :: tl) st) : PW X S M pc (a0 :: a1 :: a2 :: a3 :: a4 :: a5 :: a6 :: a7 :: a8 :: a9 :: some (iv x) :: tl) st := by subst hm; exact pw_iinc_10 C hd (hnl := hnl) (k := k)
theorem pw_iincq_11 (C : Cx X S own cc f lo) {a0 a1 a2 a3 a4 a5 a6 a7 a8 a9 a10 : Option Value} {tl : List (Option Value)} {n x : Int} (m : Int) (hd : decode cc pc = .ok (.iinc 11 n, 3)) (hnl : nl a10 = true := by rfl) (hm : x + n = m := by decide) (k : PW X S M (pc + 3) (a0 :: a1 :: a2 :: a3 :: a4 :: a5 :: a6 :: a7 :: a8 :: a9 :: a10 :: some (iv m) :: tl) st) : PW X S M pc (a0 :: a1 :: a2 :: a3 :: a4 :: a5 :: a6 :: a7 :: a8 :: a9 :: a10 :: some (iv x) :: tl) st := by subst hm; exact pw_iinc_11 C hd (hnl := hnl) (k := k)
theorem pw_iincq_12 (C : Cx X S own cc f lo) {a0 a1 a2 a3 a4 a5 a6 a7 a8 a9 a10 a11 : Option Value} {tl : List (Option Value)} {n x : Int} (m : Int) (hd : decode cc pc = .ok (.iinc 12 n, 3)) (hnl : nl a11 = true := by rfl) (hm : x + n = m := by decide) (k : PW X S M (pc + 3) (a0 :: a1 :: a2 :: a3 :: a4 :: a5 :: a6 :: a7 :: a8 :: a9 :: a10 :: a11 :: some (iv m) :: tl) st) : PW X S M pc (a0 :: a1 :: a2 :: a3 :: a4 :: a5 :: a6 :: a7 :: a8 :: a9 :: a10 :: a11 :: some (iv x) :: tl) st := by subst hm; exact pw_iinc_12 C hd (hnl := hnl) (k := k)
theorem pw_iincq_13 (C : Cx X S own cc f lo) {a0 a1 a2 a3 a4 a5 a6 a7 a8 a9 a10 a11 a12 : Option Value} {tl : List (Option Value)} {n x : Int} (m : Int) (hd : decode cc pc = .ok (.iinc 13 n, 3)) (hnl : nl a12 = true := by rfl) (hm : x + n = m := by decide) (k : PW X S M (pc + 3) (a0 :: a1 :: a2 :: a3 :: a4 :: a5 :: a6 :: a7 :: a8 :: a9 :: a10 :: a11 :: a12 :: some (iv m) :: tl) st) : PW X S M pc (a0 :: a1 :: a2 :: a3 :: a4 :: a5 :: a6 :: a7 :: a8 :: a9 :: a10 :: a11 :: a12 :: some (iv x) :: tl) st := by subst hm; exact pw_iinc_13 C hd (hnl := hnl) (k := k)
theorem pw_iincq_14 (C : Cx X S own cc f lo) {a0 a1 a2 a3 a4 a5 a6 a7 a8 a9 a10 a11 a12 a13 : Option Value} {tl : List (Option Value)} {n x : Int} (m : Int) (hd : decode cc pc = .ok (.iinc 14 n, 3)) (hnl : nl a13 = true := by rfl) (hm : x + n = m := by decide) (k : PW X S M (pc + 3) (a0 :: a1 :: a2 :: a3 :: a4 :: a5 :: a6 :: a7 :: a8 :: a9 :: a10 :: a11 :: a12 :: a13 :: some (iv m) :: tl) st) : PW X S M pc (a0 :: a1 :: a2 :: a3 :: a4 :: a5 :: a6 :: a7 :: a8 :: a9 :: a10 :: a11 :: a12 :: a13 :: some (iv x) :: tl) st := by subst hm; exact pw_iinc_14 C hd (hnl := hnl) (k := k)
theorem pw_astore_0 (C : Cx X S own cc f lo) {w : Option Value} {tl : List (Option Value)} {d k : Nat} {r : Int} (hd : decode cc pc = .ok (.astore_n 0, 1)) (kk : PW X S M (pc + 1) (some (rv S d k r) :: tl) st) : PW X S M pc (w :: tl) (rv S d k r :: st) := pw_astore_ng C (i := 0) hd (show 0 < List.length _ by simp only [List.length_cons]; omega) trivial kk
theorem pw_astore_1 (C : Cx X S own cc f lo) {a0 : Option Value} {w : Option Value} {tl : List (Option Value)} {d k : Nat} {r : Int} (hd : decode cc pc = .ok (.astore_n 1, 1)) (hnl : nl a0 = true := by rfl) (kk : PW X S M (pc + 1) (a0 :: some (rv S d k r) :: tl) st) : PW X S M pc (a0 :: w :: tl) (rv S d k r :: st) := pw_astore_ng C (i := 1) hd (show 1 < List.length _ by simp only [List.length_cons]; omega) hnl kk
theorem pw_astore_2 (C : Cx X S own cc f lo) {a0 a1 : Option Value} {w : Option Value} {tl : List (Option Value)} {d k : Nat} {r : Int} (hd : decode cc pc = .ok (.astore_n 2, 1)) (hnl : nl a1 = true := by rfl) (kk : PW X S M (pc + 1) (a0 :: a1 :: some (rv S d k r) :: tl) st) : PW X S M pc (a0 :: a1 :: w :: tl) (rv S d k r :: st) := pw_astore_ng C (i := 2) hd (show 2 < List.length _ by simp only [List.length_cons]; omega) hnl kk
theorem pw_astore_3 (C : Cx X S own cc f lo) {a0 a1 a2 : Option Value} {w : Option Value} {tl : List (Option Value)} {d k : Nat} {r : Int} (hd : decode cc pc = .ok (.astore_n 3, 1)) (hnl : nl a2 = true := by rfl) (kk : PW X S M (pc + 1) (a0 :: a1 :: a2 :: some (rv S d k r) :: tl) st) : PW X S M pc (a0 :: a1 :: a2 :: w :: tl) (rv S d k r :: st) := pw_astore_ng C (i := 3) hd (show 3 < List.length _ by simp only [List.length_cons]; omega) hnl kk
theorem pw_astore_4 (C : Cx X S own cc f lo) {a0 a1 a2 a3 : Option Value} {w : Option Value} {tl : List (Option Value)} {d k : Nat} {r : Int} (hd : decode cc pc = .ok (.astore 4, 2)) (hnl : nl a3 = true := by rfl) (kk : PW X S M (pc + 2) (a0 :: a1 :: a2 :: a3 :: some (rv S d k r) :: tl) st) : PW X S M pc (a0 :: a1 :: a2 :: a3 :: w :: tl) (rv S d k r :: st) := pw_astore_g C (i := 4) hd (show 4 < List.length _ by simp only [List.length_cons]; omega) hnl kk
theorem pw_astore_5 (C : Cx X S own cc f lo) {a0 a1 a2 a3 a4 : Option Value} {w : Option Value} {tl : List (Option Value)} {d k : Nat} {r : Int} (hd : decode cc pc = .ok (.astore 5, 2)) (hnl : nl a4 = true := by rfl) (kk : PW X S M (pc + 2) (a0 :: a1 :: a2 :: a3 :: a4 :: some (rv S d k r) :: tl) st) : PW X S M pc (a0 :: a1 :: a2 :: a3 :: a4 :: w :: tl) (rv S d k r :: st) := pw_astore_g C (i := 5) hd (show 5 < List.length _ by simp only [List.length_cons]; omega) hnl kk
theorem pw_astore_6 (C : Cx X S own cc f lo) {a0 a1 a2 a3 a4 a5 : Option Value} {w : Option Value} {tl : List (Option Value)} {d k : Nat} {r : Int} (hd : decode cc pc = .ok (.astore 6, 2)) (hnl : nl a5 = true := by rfl) (kk : PW X S M (pc + 2) (a0 :: a1 :: a2 :: a3 :: a4 :: a5 :: some (rv S d k r) :: tl) st) : PW X S M pc (a0 :: a1 :: a2 :: a3 :: a4 :: a5 :: w :: tl) (rv S d k r :: st) := pw_astore_g C (i := 6) hd (show 6 < List.length _ by simp only [List.length_cons]; omega) hnl kk
theorem pw_astore_7 (C : Cx X S own cc f lo) {a0 a1 a2 a3 a4 a5 a6 : Option Value} {w : Option Value} {tl : List (Option Value)} {d k : Nat} {r : Int} (hd : decode cc pc = .ok (.astore 7, 2)) (hnl : nl a6 = true := by rfl) (kk : PW X S M (pc + 2) (a0 :: a1 :: a2 :: a3 :: a4 :: a5 :: a6 :: some (rv S d k r) :: tl) st) : PW X S M pc (a0 :: a1 :: a2 :: a3 :: a4 :: a5 :: a6 :: w :: tl) (rv S d k r :: st) := pw_astore_g C (i := 7) hd (show 7 < List.length _ by simp only [List.length_cons]; omega) hnl kk
theorem pw_astore_8 (C : Cx X S own cc f lo) {a0 a1 a2 a3 a4 a5 a6 a7 : Option Value} {w : Option Value} {tl : List (Option Value)} {d k : Nat} {r : Int} (hd : decode cc pc = .ok (.astore 8, 2)) (hnl : nl a7 = true := by rfl) (kk : PW X S M (pc + 2) (a0 :: a1 :: a2 :: a3 :: a4 :: a5 :: a6 :: a7 :: some (rv S d k r) :: tl) st) : PW X S M pc (a0 :: a1 :: a2 :: a3 :: a4 :: a5 :: a6 :: a7 :: w :: tl) (rv S d k r :: st) := pw_astore_g C (i := 8) hd (show 8 < List.length _ by simp only [List.length_cons]; omega) hnl kk
theorem pw_astore_9 (C : Cx X S own cc f lo) {a0 a1 a2 a3 a4 a5 a6 a7 a8 : Option Value} {w : Option Value} {tl : List (Option Value)} {d k : Nat} {r : Int} (hd : decode cc pc = .ok (.astore 9, 2)) (hnl : nl a8 = true := by rfl) (kk : PW X S M (pc + 2) (a0 :: a1 :: a2 :: a3 :: a4 :: a5 :: a6 :: a7 :: a8 :: some (rv S d k r) :: tl) st) : PW X S M pc (a0 :: a1 :: a2 :: a3 :: a4 :: a5 :: a6 :: a7 :: a8 :: w :: tl) (rv S d k r :: st) := pw_astore_g C (i := 9) hd (show 9 < List.length _ by simp only [List.length_cons]; omega) hnl kk
theorem pw_lstore_0 (C : Cx X S own cc f lo) {w w2 : Option Value} {tl : List (Option Value)} {x : Int} (hd : decode cc pc = .ok (.lstore_n 0, 1)) (k : PW X S M (pc + 1) (some (jv x) :: none :: tl) st) : PW X S M pc (w :: w2 :: tl) (jv x :: st) := pw_lstore_ng C (i := 0) hd (show 1 < List.length _ by simp only [List.length_cons]; omega) trivial k
theorem pw_lstore_1 (C : Cx X S own cc f lo) {a0 : Option Value} {w w2 : Option Value} {tl : List (Option Value)} {x : Int} (hd : decode cc pc = .ok (.lstore_n 1, 1)) (hnl : nl a0 = true := by rfl) (k : PW X S M (pc + 1) (a0 :: some (jv x) :: none :: tl) st) : PW X S M pc (a0 :: w :: w2 :: tl) (jv x :: st) := pw_lstore_ng C (i := 1) hd (show 2 < List.length _ by simp only [List.length_cons]; omega) hnl k
theorem pw_lstore_2 (C : Cx X S own cc f lo) {a0 a1 : Option Value} {w w2 : Option Value} {tl : List (Option Value)} {x : Int} (hd : decode cc pc = .ok (.lstore_n 2, 1)) (hnl : nl a1 = true := by rfl) (k : PW X S M (pc + 1) (a0 :: a1 :: some (jv x) :: none :: tl) st) : PW X S M pc (a0 :: a1 :: w :: w2 :: tl) (jv x :: st) := pw_lstore_ng C (i := 2) hd (show 3 < List.length _ by simp only [List.length_cons]; omega) hnl k
theorem pw_lstore_3 (C : Cx X S own cc f lo) {a0 a1 a2 : Option Value} {w w2 : Option Value} {tl : List (Option Value)} {x : Int} (hd : decode cc pc = .ok (.lstore_n 3, 1)) (hnl : nl a2 = true := by rfl) (k : PW X S M (pc + 1) (a0 :: a1 :: a2 :: some (jv x) :: none :: tl) st) : PW X S M pc (a0 :: a1 :: a2 :: w :: w2 :: tl) (jv x :: st) := pw_lstore_ng C (i := 3) hd (show 4 < List.length _ by simp only [List.length_cons]; omega) hnl k
theorem pw_lstore_4 (C : Cx X S own cc f lo) {a0 a1 a2 a3 : Option Value} {w w2 : Option Value} {tl : List (Option Value)} {x : Int} (hd : decode cc pc = .ok (.lstore 4, 2)) (hnl : nl a3 = true := by rfl) (k : PW X S M (pc + 2) (a0 :: a1 :: a2 :: a3 :: some (jv x) :: none :: tl) st) : PW X S M pc (a0 :: a1 :: a2 :: a3 :: w :: w2 :: tl) (jv x :: st) := pw_lstore_g C (i := 4) hd (show 5 < List.length _ by simp only [List.length_cons]; omega) hnl k
theorem pw_lstore_5 (C : Cx X S own cc f lo) {a0 a1 a2 a3 a4 : Option Value} {w w2 : Option Value} {tl : List (Option Value)} {x : Int} (hd : decode cc pc = .ok (.lstore 5, 2)) (hnl : nl a4 = true := by rfl) (k : PW X S M (pc + 2) (a0 :: a1 :: a2 :: a3 :: a4 :: some (jv x) :: none :: tl) st) : PW X S M pc (a0 :: a1 :: a2 :: a3 :: a4 :: w :: w2 :: tl) (jv x :: st) := pw_lstore_g C (i := 5) hd (show 6 < List.length _ by simp only [List.length_cons]; omega) hnl k
theorem pw_lstore_6 (C : Cx X S own cc f lo) {a0 a1 a2 a3 a4 a5 : Option Value} {w w2 : Option Value} {tl : List (Option Value)} {x : Int} (hd : decode cc pc = .ok (.lstore 6, 2)) (hnl : nl a5 = true := by rfl) (k : PW X S M (pc + 2) (a0 :: a1 :: a2 :: a3 :: a4 :: a5 :: some (jv x) :: none :: tl) st) : PW X S M pc (a0 :: a1 :: a2 :: a3 :: a4 :: a5 :: w :: w2 :: tl) (jv x :: st) := pw_lstore_g C (i := 6) hd (show 7 < List.length _ by simp only [List.length_cons]; omega) hnl k
theorem pw_lstore_7 (C : Cx X S own cc f lo) {a0 a1 a2 a3 a4 a5 a6 : Option Value} {w w2 : Option Value} {tl : List (Option Value)} {x : Int} (hd : decode cc pc = .ok (.lstore 7, 2)) (hnl : nl a6 = true := by rfl) (k : PW X S M (pc + 2) (a0 :: a1 :: a2 :: a3 :: a4 :: a5 :: a6 :: some (jv x) :: none :: tl) st) : PW X S M pc (a0 :: a1 :: a2 :: a3 :: a4 :: a5 :: a6 :: w :: w2 :: tl) (jv x :: st) := pw_lstore_g C (i := 7) hd (show 8 < List.length _ by simp only [List.length_cons]; omega) hnl k
theorem pw_lstore_8 (C : Cx X S own cc f lo) {a0 a1 a2 a3 a4 a5 a6 a7 : Option Value} {w w2 : Option Value} {tl : List (Option Value)} {x : Int} (hd : decode cc pc = .ok (.lstore 8, 2)) (hnl : nl a7 = true := by rfl) (k : PW X S M (pc + 2) (a0 :: a1 :: a2 :: a3 :: a4 :: a5 :: a6 :: a7 :: some (jv x) :: none :: tl) st) : PW X S M pc (a0 :: a1 :: a2 :: a3 :: a4 :: a5 :: a6 :: a7 :: w :: w2 :: tl) (jv x :: st) := pw_lstore_g C (i := 8) hd (show 9 < List.length _ by simp only [List.length_cons]; omega) hnl k
theorem pw_lstore_9 (C : Cx X S own cc f lo) {a0 a1 a2 a3 a4 a5 a6 a7 a8 : Option Value} {w w2 : Option Value} {tl : List (Option Value)} {x : Int} (hd : decode cc pc = .ok (.lstore 9, 2)) (hnl : nl a8 = true := by rfl) (k : PW X S M (pc + 2) (a0 :: a1 :: a2 :: a3 :: a4 :: a5 :: a6 :: a7 :: a8 :: some (jv x) :: none :: tl) st) : PW X S M pc (a0 :: a1 :: a2 :: a3 :: a4 :: a5 :: a6 :: a7 :: a8 :: w :: w2 :: tl) (jv x :: st) := pw_lstore_g C (i := 9) hd (show 10 < List.length _ by simp only [List.length_cons]; omega) hnl k
theorem pw_lstore_10 (C : Cx X S own cc f lo) {a0 a1 a2 a3 a4 a5 a6 a7 a8 a9 : Option Value} {w w2 : Option Value} {tl : List (Option Value)} {x : Int} (hd : decode cc pc = .ok (.lstore 10, 2)) (hnl : nl a9 = true := by rfl) (k : PW X S M (pc + 2) (a0 :: a1 :: a2 :: a3 :: a4 :: a5 :: a6 :: a7 :: a8 :: a9 :: some (jv x) :: none :: tl) st) : PW X S M pc (a0 :: a1 :: a2 :: a3 :: a4 :: a5 :: a6 :: a7 :: a8 :: a9 :: w :: w2 :: tl) (jv x :: st) := pw_lstore_g C (i := 10) hd (show 11 < List.length _ by simp only [List.length_cons]; omega) hnl k
theorem pw_lstore_11 (C : Cx X S own cc f lo) {a0 a1 a2 a3 a4 a5 a6 a7 a8 a9 a10 : Option Value} {w w2 : Option Value} {tl : List (Option Value)} {x : Int} (hd : decode cc pc = .ok (.lstore 11, 2)) (hnl : nl a10 = true := by rfl) (k : PW X S M (pc + 2) (a0 :: a1 :: a2 :: a3 :: a4 :: a5 :: a6 :: a7 :: a8 :: a9 :: a10 :: some (jv x) :: none :: tl) st) : PW X S M pc (a0 :: a1 :: a2 :: a3 :: a4 :: a5 :: a6 :: a7 :: a8 :: a9 :: a10 :: w :: w2 :: tl) (jv x :: st) := pw_lstore_g C (i := 11) hd (show 12 < List.length _ by simp only [List.length_cons]; omega) hnl k
theorem pw_lstore_12 (C : Cx X S own cc f lo) {a0 a1 a2 a3 a4 a5 a6 a7 a8 a9 a10 a11 : Option Value} {w w2 : Option Value} {tl : List (Option Value)} {x : Int} (hd : decode cc pc = .ok (.lstore 12, 2)) (hnl : nl a11 = true := by rfl) (k : PW X S M (pc + 2) (a0 :: a1 :: a2 :: a3 :: a4 :: a5 :: a6 :: a7 :: a8 :: a9 :: a10 :: a11 :: some (jv x) :: none :: tl) st) : PW X S M pc (a0 :: a1 :: a2 :: a3 :: a4 :: a5 :: a6 :: a7 :: a8 :: a9 :: a10 :: a11 :: w :: w2 :: tl) (jv x :: st) := pw_lstore_g C (i := 12) hd (show 13 < List.length _ by simp only [List.length_cons]; omega) hnl k
theorem pw_lstore_13 (C : Cx X S own cc f lo) {a0 a1 a2 a3 a4 a5 a6 a7 a8 a9 a10 a11 a12 : Option Value} {w w2 : Option Value} {tl : List (Option Value)} {x : Int} (hd : decode cc pc = .ok (.lstore 13, 2)) (hnl : nl a12 = true := by rfl) (k : PW X S M (pc + 2) (a0 :: a1 :: a2 :: a3 :: a4 :: a5 :: a6 :: a7 :: a8 :: a9 :: a10 :: a11 :: a12 :: some (jv x) :: none :: tl) st) : PW X S M pc (a0 :: a1 :: a2 :: a3 :: a4 :: a5 :: a6 :: a7 :: a8 :: a9 :: a10 :: a11 :: a12 :: w :: w2 :: tl) (jv x :: st) := pw_lstore_g C (i := 13) hd (show 14 < List.length _ by simp only [List.length_cons]; omega) hnl k
/-- fields -/
theorem pw_getf (C : Cx X S own cc f lo) {d k ci N n ix : Nat} {cls : String} {T : u_T} {fs : List (Nat × Nat × Nat)} {q : Nat × Nat × Nat} (hfl : Cond.fieldLink own ix cls (T n).2.1 (T n).2.2.1 ∈ tbl0) (hin : ∀ w ∈ u_ws cls T N, w ∈ tbl0) (hcl : vwCl[ci]? = some (cls, T, N)) (hnN : n < N) (hdecl : (T n).1 = cls) (ho : OB d k ci fs) (hq : fs[n]? = some q) (hd : decode cc pc = .ok (.getfield ix, 3))
    (kk : InR (M d k 0 n) → PW X S M (pc + 3) ls (fv S q (M d k 0 n) :: st)) : PW X S M pc ls (rv S d k 0 :: st) :=
  fun hn hR H locs la hP hS hl => by
    obtain ⟨j, hj, hw⟩ := ws_get ho.2 S M
    rw [ho.1] at hw
    have hce : cellOf S (3, ci, fs) (M d k 0) = .inr (ci, flds S fs (M d k 0) 0) := rfl
    rw [hce] at hw
    refine va_get C.1 C.2.1 (Ts := tbl0) (v := fv S q (M d k 0 n)) C.2.2.2.2.1 hin C.2.2.2.1 C.2.2.2.2.2.2.1 hP j hw hcl n hnN (C.2.2.2.2.1 _ hfl) (fun x hx => by rw [hdecl] at hx; exact hx) ?_ hd (kk (hR d k 0 n) hn hR H locs la hP hS hl)
    rw [flds_get, hq]
    show some (fv S q (M d k 0 (0 + n))) = _
    rw [Int.zero_add]
theorem pw_putf (C : Cx X S own cc f lo) {d k ci N n ix : Nat} {cls : String} {T : u_T} {fs : List (Nat × Nat × Nat)} {q : Nat × Nat × Nat} {v : Int} {ty0 : Nat → FieldType} (hfl : Cond.fieldLink own ix cls (T n).2.1 (T n).2.2.1 ∈ tbl0) (hin : ∀ w ∈ u_ws cls T N, w ∈ tbl0) (hcl : vwCl[ci]? = some (cls, T, N)) (hnN : n < N) (hdecl : (T n).1 = cls) (hty : ∀ k, k < N → parseFieldDescriptor (T k).2.2.1 = some (ty0 k)) (hnm : ∀ a, a < N → ∀ b, b < N → a ≠ b → (T a).2.1 ≠ (T b).2.1) (hfin : (T n).2.2.2 = false) (ho : OB d k ci fs) (hq : fs[n]? = some q)
    {ty : FieldType} (hdt : parseFieldDescriptor (T n).2.2.1 = some ty) (hnar : narrow ty (fv S q v) = fv S q v) (hfit : fits ty (fv S q v) = true) (hv : InR v) (hd : decode cc pc = .ok (.putfield ix, 3))
    (kk : PW X S (mst M d (vup (M d) k 0 n v)) (pc + 3) ls st) : PW X S M pc ls (fv S q v :: rv S d k 0 :: st) :=
  fun hn hR H locs la hP hS hl => by
    obtain ⟨j, hj, hw⟩ := ws_get ho.2 S M
    have hset := ws_set hj S M n v
    rw [ho.1] at hw hset
    have hce : ∀ g, cellOf S (3, ci, fs) g = .inr (ci, flds S fs g 0) := fun g => rfl
    rw [hce] at hw hset
    refine va_put C.1 C.2.1 (Ts := tbl0) (v := fv S q v) (ty := ty) C.2.2.2.2.1 hin ty0 hty hnm C.2.2.2.1 C.2.2.2.2.2.2.1 hP (ws_D C.2.2.2.2.2.2.2.1 C.2.2.2.2.2.2.2.2.1 M) hS j hw hcl n hnN (C.2.2.2.2.1 _ hfl) (fun x hx => by rw [hdecl] at hx; exact hx) hfin hdt hnar hfit ?_ hd (fun H1 locs1 hP1 hD1 hS1 => ?_)
    · have h1 : (flds S fs (M d k 0) 0)[n]? = some (fv S q (M d k 0 (0 + n))) := by rw [flds_get, hq]; rfl
      exact (List.getElem?_eq_some_iff.mp h1).1
    · rw [flds_set hq, hset] at hP1
      exact kk hn (MR.mst hR ((hR d).up hv)) H1 locs1 la hP1 hS1 hl
theorem pw_iald (C : Cx X S own cc f lo) {d k n : Nat} {r i : Int} (ha : AR d k r n) (h0 : 0 ≤ i) (h1 : i < n) (hn : n < 1000) (hd : decode cc pc = .ok (.iaload, 1)) (kk : InR (M d k r i) → PW X S M (pc + 1) ls (iv (M d k r i) :: st)) : PW X S M pc ls (iv i :: rv S d k r :: st) :=
  fun hn' hR H locs la hP hS hl => by
    obtain ⟨j, hj, hw⟩ := ws_get ha.2 S M
    rw [ha.1] at hw
    refine va_iald C.1 C.2.1 C.2.2.2.2.2.2.1 hP j 0 hw rfl (inI (n := n) h0 h1 (by omega)) hd ?_
    have e : ((Int32.ofInt i).toNatClampNeg : Int) = i := by rw [clI h0 (by omega)]; omega
    show xW X H locs (F0 (xm X) (pc + 1) la (.int (Int32.ofInt (M d k r ((Int32.ofInt i).toNatClampNeg : Int))) :: st))
    rw [e]
    exact kk (hR d k r i) hn' hR H locs la hP hS hl
theorem pw_zald (C : Cx X S own cc f lo) {d k n : Nat} {r i : Int} (ha : shp d k = (1, n, []) ∧ (d, k, r) ∈ allPos) (h0 : 0 ≤ i) (h1 : i < n) (hn : n < 1000) (hd : decode cc pc = .ok (.baload, 1)) (kk : InR (M d k r i) → PW X S M (pc + 1) ls (iv (M d k r i) :: st)) : PW X S M pc ls (iv i :: rv S d k r :: st) :=
  fun hn' hR H locs la hP hS hl => by
    obtain ⟨j, hj, hw⟩ := ws_get ha.2 S M
    rw [ha.1] at hw
    refine va_zald C.1 C.2.1 C.2.2.2.2.2.2.1 hP j 1 hw rfl (inI (n := n) h0 h1 (by omega)) hd ?_
    have e : ((Int32.ofInt i).toNatClampNeg : Int) = i := by rw [clI h0 (by omega)]; omega
    show xW X H locs (F0 (xm X) (pc + 1) la (.int (Int32.ofInt (M d k r ((Int32.ofInt i).toNatClampNeg : Int))) :: st))
    rw [e]
    exact kk (hR d k r i) hn' hR H locs la hP hS hl
theorem fup_nat {f : Int → Int} {i v : Int} (h0 : 0 ≤ i) (h1 : i < 2147483648) : (fun j : Nat => Int32.ofInt (fup f i v j)) = upd (fun j : Nat => Int32.ofInt (f j)) (Int32.ofInt i).toNatClampNeg (Int32.ofInt v) := by
  funext j
  rw [clI h0 h1]
  unfold upd fup
  by_cases h : (j : Int) = i
  · rw [if_pos h, if_pos (by omega)]
  · rw [if_neg h, if_neg (by omega)]
theorem pw_iast (C : Cx X S own cc f lo) {d k n : Nat} {r i v : Int} (ha : AR d k r n) (h0 : 0 ≤ i) (h1 : i < n) (hn : n < 1000) (hv : InR v) (hd : decode cc pc = .ok (.iastore, 1)) (kk : PW X S (mst M d (vup (M d) k r i v)) (pc + 1) ls st) : PW X S M pc ls (iv v :: iv i :: rv S d k r :: st) :=
  fun hn' hR H locs la hP hS hl => by
    obtain ⟨j, hj, hw⟩ := ws_get ha.2 S M
    have hset := ws_set hj S M i v
    rw [ha.1] at hw hset
    refine va_iast C.1 C.2.1 C.2.2.2.2.2.2.1 hP (ws_D C.2.2.2.2.2.2.2.1 C.2.2.2.2.2.2.2.2.1 M) hS j 0 hw rfl (inI (n := n) h0 h1 (by omega)) hd (fun H1 locs1 hP1 hD1 hS1 => ?_)
    rw [← fup_nat h0 (by omega)] at hP1
    have hP2 : va_P S.1 vwCl ((wsOf S M).set j (S.2.1 d k r, cellOf S (0, n, []) (fup (M d k r) i v))) H1 := hP1
    rw [hset] at hP2
    exact kk hn' (MR.mst hR ((hR d).up hv)) H1 locs1 la hP2 hS1 hl
theorem pw_zast (C : Cx X S own cc f lo) {d k n : Nat} {r i v : Int} (ha : shp d k = (1, n, []) ∧ (d, k, r) ∈ allPos) (h0 : 0 ≤ i) (h1 : i < n) (hn : n < 1000) (hv : v = 0 ∨ v = 1) (hd : decode cc pc = .ok (.bastore, 1)) (kk : PW X S (mst M d (vup (M d) k r i v)) (pc + 1) ls st) : PW X S M pc ls (iv v :: iv i :: rv S d k r :: st) :=
  fun hn' hR H locs la hP hS hl => by
    obtain ⟨j, hj, hw⟩ := ws_get ha.2 S M
    have hset := ws_set hj S M i v
    rw [ha.1] at hw hset
    have hnar : vp_nar .boolean (Int32.ofInt v) = Int32.ofInt v := by rcases hv with rfl | rfl <;> decide
    refine va_zast C.1 C.2.1 C.2.2.2.2.2.2.1 hP (ws_D C.2.2.2.2.2.2.2.1 C.2.2.2.2.2.2.2.2.1 M) hS j 1 hw rfl (inI (n := n) h0 h1 (by omega)) hd (fun H1 locs1 hP1 hD1 hS1 => ?_)
    rw [hnar, ← fup_nat h0 (by omega)] at hP1
    have hP2 : va_P S.1 vwCl ((wsOf S M).set j (S.2.1 d k r, cellOf S (1, n, []) (fup (M d k r) i v))) H1 := hP1
    rw [hset] at hP2
    exact kk hn' (MR.mst hR ((hR d).up (by rcases hv with rfl | rfl <;> unfold InR <;> omega))) H1 locs1 la hP2 hS1 hl
theorem pw_aald (C : Cx X S own cc f lo) {d k n k2 : Nat} {i : Int} (ha : AQ d k n k2) (h0 : 0 ≤ i) (h1 : i < n) (hn : n < 1000) (hd : decode cc pc = .ok (.aaload, 1)) (kk : PW X S M (pc + 1) ls (rv S d k2 i :: st)) : PW X S M pc ls (iv i :: rv S d k 0 :: st) :=
  fun hn' hR H locs la hP hS hl => by
    obtain ⟨j, hj, hw⟩ := ws_get ha.2 S M
    rw [ha.1] at hw
    have hce : cellOf S (2, n, [(0, d, k2)]) (M d k 0) = .inl (S.2.2.2.2, n, .inr (.inr (.inr (.inr (fun i => if i < n then some (S.2.1 d k2 i) else none))))) := rfl
    rw [hce] at hw
    have hin := inI h0 h1 (show n < 2147483648 by omega)
    have hlt : (Int32.ofInt i).toNatClampNeg < n := Nat.not_le.mp fun q => hin (Or.inr q)
    have e : ((Int32.ofInt i).toNatClampNeg : Int) = i := by rw [clI h0 (by omega)]; omega
    refine W.aald (v := rv S d k2 i) (ty := .array .int) C.1 C.2.1 (hP j _ hw) ((C.2.2.2.2.2.2.1.2 2 (S.2.2.2.2, .array .int) rfl).1 n (fun j => va_rf (if j < n then some (S.2.1 d k2 j) else none))) rfl (fun q => by cases q) (by show ¬ (_ < 0 ∨ (arrV _ _ _).slots.size ≤ _); rw [arrV_size]; exact hin) ?_ rfl rfl hd (kk hn' hR H locs la hP hS hl)
    show (arrV _ _ _).slots[_]? = _
    rw [arrV_read _ _ hlt]
    show some (va_rf (if (Int32.ofInt i).toNatClampNeg < n then some (S.2.1 d k2 ((Int32.ofInt i).toNatClampNeg : Int)) else none)) = _
    rw [if_pos hlt, e]
    rfl
def vcp (g : Int → Int) (h : Int → Int) (sp dp n : Int) : Int → Int := fun j => if dp ≤ j ∧ j < dp + n then h (sp + (j - dp)) else g j
def CPY (own : String) (ix : Nat) : Prop := Cond.methodLink own ix arraycopyName ∈ tbl0 ∧ Cond.native arraycopyName ∈ tbl0 ∧ Cond.static arraycopyName ∈ tbl0 ∧ Cond.initialized "java/lang/System" ∈ tbl0
theorem pw_copy (C : Cx X S own cc f lo) {ix : Nat} (hw : CPY own ix) {d1 k1 n1 d2 k2 n2 : Nat} {r1 r2 sp dp n : Int} (h1 : AR d1 k1 r1 n1) (h2 : AR d2 k2 r2 n2) (hs : 0 ≤ sp) (hdp : 0 ≤ dp) (hn : 0 ≤ n) (hb1 : sp + n ≤ n1) (hb2 : dp + n ≤ n2) (hn1 : n1 < 1000) (hn2 : n2 < 1000) (hst : (st.map fun v => v.category).sum + (nativeFrameWords "java/lang/System" "arraycopy" 5 + 11) ≤ lo) (hf : 1 ≤ f) (hd : decode cc pc = .ok (.invokestatic ix, 3))
    (kk : PW X S (mst M d2 (vset (M d2) k2 r2 (vcp (M d2 k2 r2) (M d1 k1 r1) sp dp n))) (pc + 3) ls st) : PW X S M pc ls (iv n :: iv dp :: rv S d2 k2 r2 :: iv sp :: rv S d1 k1 r1 :: st) :=
  fun hn' hR H locs la hP hS hl => by
    obtain ⟨j1, hj1, hw1⟩ := ws_get h1.2 S M
    obtain ⟨j2, hj2, hw2⟩ := ws_get h2.2 S M
    have hset := ws_setf hj2 S M (vcp (M d2 k2 r2) (M d1 k1 r1) sp dp n)
    rw [h1.1] at hw1
    rw [h2.1] at hw2 hset
    have es : (Int32.ofInt sp).toNatClampNeg = sp.toNat := clI hs (by omega)
    have ed : (Int32.ofInt dp).toNatClampNeg = dp.toNat := clI hdp (by omega)
    have en : (Int32.ofInt n).toNatClampNeg = n.toNat := clI hn (by omega)
    refine va_copyi C.1 C.2.1 (by rw [C.2.2.1]; exact hl.1.symm) C.2.2.2.1 (C.2.2.2.2.1 _ hw.1) (C.2.2.2.2.1 _ hw.2.1) (C.2.2.2.2.1 _ hw.2.2.1) (C.2.2.2.2.1 _ hw.2.2.2) C.2.2.2.2.2.2.1 hP (ws_D C.2.2.2.2.2.2.2.1 C.2.2.2.2.2.2.2.2.1 M) hS j1 j2 0 0 hw1 hw2 rfl rfl rfl (by rw [lt0I ⟨by omega, by omega⟩]; omega) (by rw [lt0I ⟨by omega, by omega⟩]; omega) (by rw [lt0I ⟨by omega, by omega⟩]; omega) (by show _ ≤ n1; rw [es, en]; omega) (by show _ ≤ n2; rw [ed, en]; omega) (fun i _ => rfl) (by rw [C.2.2.2.2.2.2.2.2.2.1]; exact hf) (by rw [C.2.2.2.2.2.2.2.2.2.2.1]; exact hst) hd (fun H1 locs1 hP1 hD1 hS1 => ?_)
    have e : va_cpy (fun i : Nat => Int32.ofInt (M d1 k1 r1 i)) (fun i : Nat => Int32.ofInt (M d2 k2 r2 i)) (Int32.ofInt sp).toNatClampNeg (Int32.ofInt dp).toNatClampNeg (Int32.ofInt n).toNatClampNeg = (fun i : Nat => Int32.ofInt (vcp (M d2 k2 r2) (M d1 k1 r1) sp dp n i)) := by
      funext i
      rw [es, ed, en]
      unfold va_cpy vcp
      by_cases h : dp ≤ (i : Int) ∧ (i : Int) < dp + n
      · rw [if_pos h, if_pos (by omega)]
        show Int32.ofInt (M d1 k1 r1 ((sp.toNat + (i - dp.toNat) : Nat) : Int)) = _
        rw [show ((sp.toNat + (i - dp.toNat) : Nat) : Int) = sp + ((i : Int) - dp) by omega]
      · rw [if_neg h, if_neg (by omega)]
    rw [e] at hP1
    have hP2 : va_P S.1 vwCl ((wsOf S M).set j2 (S.2.1 d2 k2 r2, cellOf S (0, n2, []) (vcp (M d2 k2 r2) (M d1 k1 r1) sp dp n))) H1 := hP1
    rw [hset] at hP2
    refine kk hn' (MR.mst hR ((hR d2).set (fun i => ?_))) H1 locs1 la hP2 hS1 hl
    unfold vcp
    split
    · exact hR _ _ _ _
    · exact hR _ _ _ _
/-- ends -/
theorem pw_end (C : Cx X S own cc f lo) {ret : Option FieldType} (R : CR X S P ret) {v : Option Value} (hp : P v M) {H : Heap} {locs : List Loc} (hR : MR M) (hP : va_P S.1 vwCl (wsOf S M) H) (hS : va_S (xA X) (xs X).heap H locs) : ∀ t : State, t.heap = H → (xs X).WarmedH t.vm → pwQ S P (xa X) (xs X) (.returned v) t := by
  intro t ht hW
  have hS2 : va_S (wsA S) (xs X).heap H locs := by rw [← R.2.2.2.1]; exact hS
  exact ⟨⟨v, M, rfl, hp, hR, by rw [ht]; exact hP⟩, hS2.F ht⟩
theorem pw_iret (C : Cx X S own cc f lo) (R : CR X S P (some .int)) {v : Int} (hd : decode cc pc = .ok (.ireturn, 1)) (hp : P (some (iv v)) M) : PW X S M pc ls [iv v] :=
  fun hn hR H locs la hP hS hl => by
    have hlk : (xM X).locks = false := R.2.2.2.2.2
    have hE := pw_end C R hp hR hP hS
    have hF : ∀ q ∈ locs, wsA S q.base := by rw [← R.2.2.2.1]; exact hS.2.2
    unfold xW
    rw [R.1, R.2.1, R.2.2.1]
    exact W.iret C.1 C.2.1 R.2.2.2.2.1 hE hF hd
theorem pw_zret (C : Cx X S own cc f lo) (R : CR X S P (some .boolean)) {v : Int} (hd : decode cc pc = .ok (.ireturn, 1)) (hv : v = 0 ∨ v = 1) (hp : P (some (iv v)) M) : PW X S M pc ls [iv v] :=
  fun hn hR H locs la hP hS hl => by
    have hlk : (xM X).locks = false := R.2.2.2.2.2
    have hE := pw_end C R hp hR hP hS
    have hF : ∀ q ∈ locs, wsA S q.base := by rw [← R.2.2.2.1]; exact hS.2.2
    unfold xW
    rw [R.1, R.2.1, R.2.2.1]
    exact W.zret C.1 C.2.1 R.2.2.2.2.1 (by rcases hv with rfl | rfl <;> rfl) hE hF hd
theorem pw_lret (C : Cx X S own cc f lo) (R : CR X S P (some .long)) {v : Int} (hd : decode cc pc = .ok (.lreturn, 1)) (hp : P (some (jv v)) M) : PW X S M pc ls [jv v] :=
  fun hn hR H locs la hP hS hl => by
    have hlk : (xM X).locks = false := R.2.2.2.2.2
    have hE := pw_end C R hp hR hP hS
    have hF : ∀ q ∈ locs, wsA S q.base := by rw [← R.2.2.2.1]; exact hS.2.2
    unfold xW
    rw [R.1, R.2.1, R.2.2.1]
    exact W.lret C.1 C.2.1 R.2.2.2.2.1 hE hF hd
theorem pw_vret (C : Cx X S own cc f lo) (R : CR X S P none) (hd : decode cc pc = .ok (.return_, 1)) (hp : P none M) : PW X S M pc ls [] :=
  fun hn hR H locs la hP hS hl => by
    have hlk : (xM X).locks = false := R.2.2.2.2.2
    have hE := pw_end C R hp hR hP hS
    have hF : ∀ q ∈ locs, wsA S q.base := by rw [← R.2.2.2.1]; exact hS.2.2
    unfold xW
    rw [R.1, R.2.1, R.2.2.1]
    exact W.vret C.1 C.2.1 R.2.2.2.2.1 hE hF hd
/-- what a method answers, and the memory behind it -/
def rI (x : Int) (M : Mem) : Option Value → Mem → Prop := fun o N => o = some (iv x) ∧ N = M
def rJ (x : Int) (M : Mem) : Option Value → Mem → Prop := fun o N => o = some (jv x) ∧ N = M
def rV (M : Mem) : Option Value → Mem → Prop := fun o N => o = none ∧ N = M
theorem pw_ireti (C : Cx X S own cc f lo) {x v : Int} {N : Mem} (R : CR X S (rI x N) (some .int)) (hd : decode cc pc = .ok (.ireturn, 1)) (hv : v = x) (hM : M = N) : PW X S M pc ls [iv v] := pw_iret C R hd ⟨by rw [hv], hM⟩
theorem pw_zreti (C : Cx X S own cc f lo) {x v : Int} {N : Mem} (R : CR X S (rI x N) (some .boolean)) (hd : decode cc pc = .ok (.ireturn, 1)) (h01 : v = 0 ∨ v = 1) (hv : v = x) (hM : M = N) : PW X S M pc ls [iv v] := pw_zret C R hd h01 ⟨by rw [hv], hM⟩
theorem pw_zret1 (C : Cx X S own cc f lo) {Q : Prop} {N : Mem} (R : CR X S (rI (b01 Q) N) (some .boolean)) (hd : decode cc pc = .ok (.ireturn, 1)) (h : Q) (hM : M = N) : PW X S M pc ls [iv 1] := pw_zret C R hd (Or.inr rfl) ⟨by rw [b01_t h], hM⟩
theorem pw_zret0 (C : Cx X S own cc f lo) {Q : Prop} {N : Mem} (R : CR X S (rI (b01 Q) N) (some .boolean)) (hd : decode cc pc = .ok (.ireturn, 1)) (h : ¬ Q) (hM : M = N) : PW X S M pc ls [iv 0] := pw_zret C R hd (Or.inl rfl) ⟨by rw [b01_f h], hM⟩
theorem pw_zretb (C : Cx X S own cc f lo) {Q Q2 : Prop} {N : Mem} (R : CR X S (rI (b01 Q) N) (some .boolean)) (hd : decode cc pc = .ok (.ireturn, 1)) (h : Q2 ↔ Q) (hM : M = N) : PW X S M pc ls [iv (b01 Q2)] := pw_zret C R hd (b01_r Q2) ⟨by rw [b01_e h], hM⟩
theorem pw_lreti (C : Cx X S own cc f lo) {x v : Int} {N : Mem} (R : CR X S (rJ x N) (some .long)) (hd : decode cc pc = .ok (.lreturn, 1)) (hv : v = x) (hM : M = N) : PW X S M pc ls [jv v] := pw_lret C R hd ⟨by rw [hv], hM⟩
theorem pw_vreti (C : Cx X S own cc f lo) {N : Mem} (R : CR X S (rV N) none) (hd : decode cc pc = .ok (.return_, 1)) (hM : M = N) : PW X S M pc ls [] := pw_vret C R hd ⟨rfl, hM⟩
/-- calls -/
theorem pw_blind {as : List Value} : FrameBlind (pwPc S as M) := fun a U g mk q => ⟨q.1, q.2.1, va_K.moved (u := U) (U := U.calling g mk a) (Vm.Alike.refl U.vm) q.2.2.1, nest_same (s := U) (U := U.calling g mk a) rfl q.2.2.2⟩
theorem pw_back (C : Cx X S own cc f lo) {st0 : List Value} {a : Array Value} (hr : ∀ (H : Heap) (locs : List Loc) (la : Array Slot), va_P S.1 vwCl (wsOf S M) H → va_S (xA X) (xs X).heap H locs → lv_has la (xL X) (lvOf 0 ls) → MR M → va_Run X.1 X.2.1 X.2.2.1 (xR X) (xs X) (xm X) (xa X) (xb X) (xM X) (xc X) H locs (xk X) (xn X) 0 0 (F0 (xm X) pc la st0) st (pwQ S P a) (wsA S))
    (kk : ∀ (v : Option Value) (N : Mem), P v N → PW X S N (pc + 3) ls (v.toList ++ st)) : PW X S M pc ls st0 := by
  intro hn hR H locs la hP hS hl T hT Xs
  obtain ⟨v, st₀, t, T', L, h0, X', hL, e1, e2, ⟨⟨w, N, hv, hp, hRN, hPN⟩, hz, hk⟩, stp⟩ := hr H locs la hP hS hl hR T hT Xs
  cases hv
  rw [h0] at hz hk
  have hA : ∀ q, wsA S q → xA X q := by
    rintro q ⟨x, hx, rfl⟩
    exact C.2.2.2.2.2.2.2.2.1 x hx
  obtain ⟨t2, a1, b1⟩ := kk v N hp hn hRN T'.heap (locs ++ L) la (by rw [e1]; exact hPN)
    ⟨Nat.le_trans hS.1 (by rw [e1]; exact hz), fun q h1 h2 => by rw [e1, hk q (Nat.lt_of_lt_of_le h1 hS.1) (fun z => h2 (hA q z))]; exact hS.2.1 q h1 h2, fun q hq => by
      rcases List.mem_append.mp hq with h | h
      · exact hS.2.2 q h
      · exact hA _ (hL q h)⟩ hl T' rfl X'
  exact ⟨t2, stp t2 a1, b1⟩
theorem pw_pre (C : Cx X S own cc f lo) {as : List Value} {H : Heap} (hP : va_P S.1 vwCl (wsOf S M) H) : ∀ U : State, U.heap = H → (xs X).WarmedH U.vm → pwPc S as M as.toArray U := fun U hU hW => ⟨rfl, by rw [hU]; exact hP, va_K.moved hW.alike C.2.2.2.2.2.2.1, nest_warm hW C.2.2.2.2.2.1⟩
theorem pw_recv (C : Cx X S own cc f lo) {d k ci N : Nat} {cls : String} {T : u_T} {fs : List (Nat × Nat × Nat)} (ho : OB d k ci fs) (hcl : vwCl[ci]? = some (cls, T, N)) {H : Heap} (hP : va_P S.1 vwCl (wsOf S M) H) : ∃ cell : Cell, H[S.2.1 d k 0]? = some cell ∧ cell.vm.isStatics = false ∧ (xs X).vm.findClass cls = some cell.cls := by
  obtain ⟨j, hj, hw⟩ := ws_get ho.2 S M
  rw [ho.1] at hw
  have hce : cellOf S (3, ci, fs) (M d k 0) = .inr (ci, flds S fs (M d k 0) 0) := rfl
  rw [hce] at hw
  exact va_recv C.2.2.2.2.2.2.1 hP hcl hw
theorem pw_callV (C : Cx X S own cc f lo) {y : MethodName} {cc' : ByteArray} {maxL' n ix f' lo' d k ci N : Nat} {ret' : Option FieldType} {T : u_T} {fs : List (Nat × Nat × Nat)} (As : List Value) (hm : MI y cc' maxL' ret' n) (hv : MV y) (hl : Cond.methodLink own ix y ∈ tbl0) (ho : OB d k ci fs) (hcl : vwCl[ci]? = some (y.cls, T, N)) (hM : PM X.2.1 S y cc' maxL' ret' f' lo' (rv S d k 0 :: As) M P) (hroom : f' + 1 ≤ f ∧ 8 + (maxL' + 11) + lo' ≤ lo) (hAs : As.length = n) (hst : (st.map fun v => v.category).sum ≤ 8) (hd : decode cc pc = .ok (.invokevirtual ix, 3))
    (kk : ∀ (v : Option Value) (N : Mem), P v N → PW X S N (pc + 3) ls (v.toList ++ st)) : PW X S M pc ls (As.reverse ++ rv S d k 0 :: st) := by
  refine pw_back C (a := (rv S d k 0 :: As).toArray) (fun H locs la hP hS hla hR => ?_) kk
  have hb : CallB (xR X) (xs X) (xa X) own ix y cc' maxL' ret' (Cond.code y cc' maxL' ret' :: tbl0) { frames := f', cells := 0, slots := 0, locals := lo' } 0 0 n := callB_of n C.2.2.2.2.1 (good0 hm.1) rfl rfl rfl (C.2.2.2.2.1 _ hm.2.1) (C.2.2.2.2.1 _ hl) hm.2.2 (by rw [C.2.2.2.2.2.2.2.2.2.1, C.2.2.2.2.2.2.2.2.2.2.1]; exact hroom)
  exact va_runV (As := As) (rest := st) (g := F0 (xm X) pc la (As.reverse ++ rv S d k 0 :: st)) ⟨C.1, C.2.1, C.2.2.1, C.2.2.2.1, C.2.2.2.2.1⟩ (hM C.2.2.2.2.2.2.2.1 hR) ⟨hb, C.2.2.2.2.1 _ hv.1, C.2.2.2.2.1 _ hv.2⟩ ⟨pw_blind, pw_recv C ho hcl hP, pw_pre C hP⟩ rfl hAs hla.1 rfl (lv_room hst) hd ⟨C.2.2.2.2.2.2.2.2.2.2.2.1, C.2.2.2.2.2.2.2.2.2.2.2.2⟩
theorem pw_callS (C : Cx X S own cc f lo) {y : MethodName} {cc' : ByteArray} {maxL' n ix f' lo' : Nat} {ret' : Option FieldType} (As : List Value) (hm : MI y cc' maxL' ret' n) (hv : Cond.static y ∈ tbl0) (hl : Cond.methodLink own ix y ∈ tbl0) (hM : PM X.2.1 S y cc' maxL' ret' f' lo' As M P) (hroom : f' + 1 ≤ f ∧ 8 + (maxL' + 11) + lo' ≤ lo) (hAs : As.length = n) (hst : (st.map fun v => v.category).sum ≤ 8) (hd : decode cc pc = .ok (.invokestatic ix, 3))
    (kk : ∀ (v : Option Value) (N : Mem), P v N → PW X S N (pc + 3) ls (v.toList ++ st)) : PW X S M pc ls (As.reverse ++ st) := by
  refine pw_back C (a := As.toArray) (fun H locs la hP hS hla hR => ?_) kk
  have hb : CallB (xR X) (xs X) (xa X) own ix y cc' maxL' ret' (Cond.code y cc' maxL' ret' :: tbl0) { frames := f', cells := 0, slots := 0, locals := lo' } 0 0 n := callB_of n C.2.2.2.2.1 (good0 hm.1) rfl rfl rfl (C.2.2.2.2.1 _ hm.2.1) (C.2.2.2.2.1 _ hl) hm.2.2 (by rw [C.2.2.2.2.2.2.2.2.2.1, C.2.2.2.2.2.2.2.2.2.2.1]; exact hroom)
  exact va_runS (As := As) (rest := st) (g := F0 (xm X) pc la (As.reverse ++ st)) ⟨C.1, C.2.1, C.2.2.1, C.2.2.2.1, C.2.2.2.2.1⟩ (hM C.2.2.2.2.2.2.2.1 hR) ⟨hb, C.2.2.2.2.1 _ hv⟩ ⟨pw_blind, pw_pre C hP⟩ rfl hAs hla.1 rfl (lv_room hst) hd ⟨C.2.2.2.2.2.2.2.2.2.2.2.1, C.2.2.2.2.2.2.2.2.2.2.2.2⟩
theorem pw_callSN (C : Cx X S own cc f lo) {y : MethodName} {cc' : ByteArray} {maxL' n ix f' lo' : Nat} {host : String} {ret' : Option FieldType} (As : List Value) (hm : MI y cc' maxL' ret' n) (hv : Cond.static y ∈ tbl0) (hl : Cond.methodLinkNest own ix y host ∈ nst) (hM : PM X.2.1 S y cc' maxL' ret' f' lo' As M P) (hroom : f' + 1 ≤ f ∧ 8 + (maxL' + 11) + lo' ≤ lo) (hAs : As.length = n) (hst : (st.map fun v => v.category).sum ≤ 8) (hd : decode cc pc = .ok (.invokestatic ix, 3))
    (kk : ∀ (v : Option Value) (N : Mem), P v N → PW X S N (pc + 3) ls (v.toList ++ st)) : PW X S M pc ls (As.reverse ++ st) := by
  refine pw_back C (a := As.toArray) (fun H locs la hP hS hla hR => ?_) kk
  have hb : va_CN (xR X) (xs X) (xa X) own ix y host cc' maxL' ret' (Cond.code y cc' maxL' ret' :: tbl0) { frames := f', cells := 0, slots := 0, locals := lo' } 0 0 n := va_cnB n C.2.2.2.2.1 (good0 hm.1) rfl rfl rfl (C.2.2.2.2.2.1 _ hl) (C.2.2.2.2.1 _ hm.2.1) hm.2.2 (by rw [C.2.2.2.2.2.2.2.2.2.1, C.2.2.2.2.2.2.2.2.2.2.1]; exact hroom)
  exact va_runSN (As := As) (rest := st) (g := F0 (xm X) pc la (As.reverse ++ st)) ⟨C.1, C.2.1, C.2.2.1, C.2.2.2.1, C.2.2.2.2.1⟩ (hM C.2.2.2.2.2.2.2.1 hR) ⟨hb, C.2.2.2.2.1 _ hv, trivial⟩ ⟨pw_blind, pw_pre C hP⟩ rfl hAs hla.1 rfl (lv_room hst) hd ⟨C.2.2.2.2.2.2.2.2.2.2.2.1, C.2.2.2.2.2.2.2.2.2.2.2.2⟩
/-- the library's own -/
def MXX (own : String) (ix : Nat) (y : MethodName) (b : ByteArray) (n : Nat) (ty : FieldType) : Prop := Cond.methodLink own ix y ∈ tbl0 ∧ Cond.static y ∈ tbl0 ∧ Cond.initialized "java/lang/Math" ∈ tbl0 ∧ Cond.code y b n (some ty) ∈ tbl0
theorem pw_max (C : Cx X S own cc f lo) {ix : Nat} (hw : MXX own ix Lib.Math.max.name Lib.Math.max.code 2 .int) {x y : Int} (hx : InR x) (hy : InR y) (hf : 1 ≤ f) (hst : (st.map fun v => v.category).sum + 13 ≤ lo) (hd : decode cc pc = .ok (.invokestatic ix, 3)) (kk : PW X S M (pc + 3) ls (iv (if x < y then y else x) :: st)) : PW X S M pc ls (iv y :: iv x :: st) :=
  fun hn hR H locs la hP hS hl => va_mmax C.1 C.2.1 (by rw [C.2.2.1]; exact hl.1.symm) C.2.2.2.1 (C.2.2.2.2.1 _ hw.1) (C.2.2.2.2.1 _ hw.2.1) (C.2.2.2.2.1 _ hw.2.2.1) (C.2.2.2.2.1 _ hw.2.2.2) (by rw [C.2.2.2.2.2.2.2.2.2.1]; exact hf) (by rw [C.2.2.2.2.2.2.2.2.2.2.1]; exact hst) C.2.2.2.2.2.2.2.2.2.2.2.1 C.2.2.2.2.2.2.2.2.2.2.2.2 hd (by
    have k2 := kk hn hR H locs la hP hS hl
    by_cases h : x < y
    · rw [if_pos h] at k2; rw [if_pos ((ltI hx hy).mpr h)]; exact k2
    · rw [if_neg h] at k2; rw [if_neg (mt (ltI hx hy).mp h)]; exact k2)
theorem pw_min (C : Cx X S own cc f lo) {ix : Nat} (hw : MXX own ix Lib.Math.min.name Lib.Math.min.code 2 .int) {x y : Int} (hx : InR x) (hy : InR y) (hf : 1 ≤ f) (hst : (st.map fun v => v.category).sum + 13 ≤ lo) (hd : decode cc pc = .ok (.invokestatic ix, 3)) (kk : PW X S M (pc + 3) ls (iv (if y < x then y else x) :: st)) : PW X S M pc ls (iv y :: iv x :: st) :=
  fun hn hR H locs la hP hS hl => va_mmin C.1 C.2.1 (by rw [C.2.2.1]; exact hl.1.symm) C.2.2.2.1 (C.2.2.2.2.1 _ hw.1) (C.2.2.2.2.1 _ hw.2.1) (C.2.2.2.2.1 _ hw.2.2.1) (C.2.2.2.2.1 _ hw.2.2.2) (by rw [C.2.2.2.2.2.2.2.2.2.1]; exact hf) (by rw [C.2.2.2.2.2.2.2.2.2.2.1]; exact hst) C.2.2.2.2.2.2.2.2.2.2.2.1 C.2.2.2.2.2.2.2.2.2.2.2.2 hd (by
    have k2 := kk hn hR H locs la hP hS hl
    by_cases h : y < x
    · rw [if_pos h] at k2; rw [if_pos ((ltI hy hx).mpr h)]; exact k2
    · rw [if_neg h] at k2; rw [if_neg (mt (ltI hy hx).mp h)]; exact k2)
theorem pw_labs (C : Cx X S own cc f lo) {ix : Nat} (hw : MXX own ix Lib.MathLoose.abs_long.x Lib.MathLoose.abs_long.code 2 .long) {x : Int} (hx : InL x) (hf : 1 ≤ f) (hst : (st.map fun v => v.category).sum + 13 ≤ lo) (hd : decode cc pc = .ok (.invokestatic ix, 3)) (kk : PW X S M (pc + 3) ls (jv (if 0 < x then x else -x) :: st)) : PW X S M pc ls (jv x :: st) :=
  fun hn hR H locs la hP hS hl => va_mabs_long C.1 C.2.1 (by rw [C.2.2.1]; exact hl.1.symm) C.2.2.2.1 (C.2.2.2.2.1 _ hw.1) (C.2.2.2.2.1 _ hw.2.1) (C.2.2.2.2.1 _ hw.2.2.1) (C.2.2.2.2.1 _ hw.2.2.2) (by rw [C.2.2.2.2.2.2.2.2.2.1]; exact hf) (by rw [C.2.2.2.2.2.2.2.2.2.2.1]; exact hst) C.2.2.2.2.2.2.2.2.2.2.2.1 C.2.2.2.2.2.2.2.2.2.2.2.2 hd (by
    have k2 := kk hn hR H locs la hP hS hl
    have h0 : (0 : Int64) < Int64.ofInt x ↔ 0 < x := by rw [show (0 : Int64) = Int64.ofInt 0 by decide]; exact ltL ⟨by omega, by omega⟩ hx
    by_cases h : 0 < x
    · rw [if_pos h] at k2; rw [if_pos (h0.mpr h)]; exact k2
    · rw [if_neg h] at k2; rw [if_neg (mt h0.mp h), ← Int64.ofInt_neg]; exact k2)
/-- switches -/
theorem pw_tin (C : Cx X S own cc f lo) {dflt low hi off : Int} {offs : Array Int} {len : Nat} {x : Int} {tgt : Nat} (hx : InR x) (j : Nat) (hd : decode cc pc = .ok (.tableswitch dflt low hi offs, len)) (h : x = low + j) (hj : offs[j]? = some off) (hh : low + j ≤ hi) (ht : (pc : Int) + off = (tgt : Int)) (k : PW X S M tgt ls st) : PW X S M pc ls (iv x :: st) :=
  fun hn hR H locs la hP hS hl => lv_tableIn C.1 C.2.1 hd (by rw [tI hx]; omega) (by rw [tI hx]; omega) (by rw [tI hx, show (x - low).toNat = j by omega]; exact hj) ht (k hn hR H locs la hP hS hl)
theorem pw_tout (C : Cx X S own cc f lo) {dflt low hi : Int} {offs : Array Int} {len : Nat} {x : Int} {tgt : Nat} (hx : InR x) (hd : decode cc pc = .ok (.tableswitch dflt low hi offs, len)) (h : x < low ∨ hi < x) (ht : (pc : Int) + dflt = (tgt : Int)) (k : PW X S M tgt ls st) : PW X S M pc ls (iv x :: st) :=
  fun hn hR H locs la hP hS hl => lv_tableOut C.1 C.2.1 hd (by rw [tI hx]; exact h) ht (k hn hR H locs la hP hS hl)
theorem pw_look (C : Cx X S own cc f lo) {dflt off : Int} {ps : Array (Int × Int)} {len : Nat} {x : Int} {tgt : Nat} (hx : InR x) (hd : decode cc pc = .ok (.lookupswitch dflt ps, len)) (hp : (ps.toList.zip (ps.toList.drop 1)).all (fun (a, next) => a.1 < next.1) = true) (ho : Op.lookupswitch.offset ps.toList dflt x = off) (ht : (pc : Int) + off = (tgt : Int)) (k : PW X S M tgt ls st) : PW X S M pc ls (iv x :: st) :=
  fun hn hR H locs la hP hS hl => lv_lookup C.1 C.2.1 hd hp (by rw [tI hx]; exact ho) ht (k hn hR H locs la hP hS hl)
end PWS
