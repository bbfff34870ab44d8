/-! THE LAYER, fourth part: rows in handy forms -/
section PWD
variable {X : PX} {S : SW} {M : Mem} {V : DM} {own : String} {cc : ByteArray} {f lo : Nat} {pc : Nat} {ls : List (Option Value)} {st : List Value} {P : Option Value → Mem → Prop}
theorem mst_c (M : Mem) {a b : Nat} (U V : DM) (h : a ≠ b) : mst (mst M a U) b V = mst (mst M b V) a U := by
  funext e
  unfold mst
  by_cases e1 : e = b
  · rw [if_pos e1, if_neg (by omega), if_pos e1]
  · rw [if_neg e1]
    by_cases e2 : e = a
    · rw [if_pos e2, if_pos e2]
    · rw [if_neg e2, if_neg e2, if_neg e1]
theorem pw_21 (k : PW X S (mst (mst M 2 (M 2)) 1 (M 1)) pc ls st) : PW X S M pc ls st := by
  rw [mst_i, mst_i] at k
  exact k
theorem pw_U (d : Nat) (k : PW X S M pc ls st) : PW X S (mst M d (M d)) pc ls st := by rw [mst_i]; exact k
theorem pw_ialdV (C : Cx X S own cc f lo) {d k n : Nat} {r i : Int} (ha : AR d k r n) (h0 : 0 ≤ i) (h1 : i < n) (hn : n < 1000) (hd : decode cc pc = .ok (.iaload, 1)) (kk : InR (V k r i) → PW X S (mst M d V) (pc + 1) ls (iv (V k r i) :: st)) : PW X S (mst M d V) pc ls (iv i :: rv S d k r :: st) := pw_iald C ha h0 h1 hn hd (by rw [mst_s]; exact kk)
theorem pw_Vo (d : Nat) {e : Nat} (he : d ≠ e) (k : PW X S (mst (mst M e V) d (M d)) pc ls st) : PW X S (mst M e V) pc ls st := pw_V d (by rw [mst_o _ _ he]; exact k)
theorem pw_Uo (d : Nat) {e : Nat} (he : d ≠ e) (k : PW X S (mst M e V) pc ls st) : PW X S (mst (mst M e V) d (M d)) pc ls st := by
  have h : mst (mst M e V) d (M d) = mst M e V := by
    have h2 := mst_i (mst M e V) d
    rw [mst_o M V he] at h2
    exact h2
  rw [h]
  exact k
theorem pw_ialdO (C : Cx X S own cc f lo) {d e k n : Nat} {r i : Int} (he : d ≠ e) (ha : AR d k r n) (h0 : 0 ≤ i) (h1 : i < n) (hn : n < 1000) (hd : decode cc pc = .ok (.iaload, 1)) (kk : InR (M d k r i) → PW X S (mst M e V) (pc + 1) ls (iv (M d k r i) :: st)) : PW X S (mst M e V) pc ls (iv i :: rv S d k r :: st) := pw_iald C ha h0 h1 hn hd (by rw [mst_o _ _ he]; exact kk)
theorem pw_zaldV (C : Cx X S own cc f lo) {d k n : Nat} {r i : Int} (ha : shp d k = (1, n, []) ∧ (d, k, r) ∈ allPos) (h0 : 0 ≤ i) (h1 : i < n) (hn : n < 1000) (hd : decode cc pc = .ok (.baload, 1)) (kk : InR (V k r i) → PW X S (mst M d V) (pc + 1) ls (iv (V k r i) :: st)) : PW X S (mst M d V) pc ls (iv i :: rv S d k r :: st) := pw_zald C ha h0 h1 hn hd (by rw [mst_s]; exact kk)
theorem pw_iastV (C : Cx X S own cc f lo) {d k n : Nat} {r i v : Int} (ha : AR d k r n) (h0 : 0 ≤ i) (h1 : i < n) (hn : n < 1000) (hv : InR v) (hd : decode cc pc = .ok (.iastore, 1)) (kk : PW X S (mst M d (vup V k r i v)) (pc + 1) ls st) : PW X S (mst M d V) pc ls (iv v :: iv i :: rv S d k r :: st) := pw_iast C ha h0 h1 hn hv hd (by rw [mst_m, mst_s]; exact kk)
theorem pw_zastV (C : Cx X S own cc f lo) {d k n : Nat} {r i v : Int} (ha : shp d k = (1, n, []) ∧ (d, k, r) ∈ allPos) (h0 : 0 ≤ i) (h1 : i < n) (hn : n < 1000) (hv : v = 0 ∨ v = 1) (hd : decode cc pc = .ok (.bastore, 1)) (kk : PW X S (mst M d (vup V k r i v)) (pc + 1) ls st) : PW X S (mst M d V) pc ls (iv v :: iv i :: rv S d k r :: st) := pw_zast C ha h0 h1 hn hv hd (by rw [mst_m, mst_s]; exact kk)
/-- an int whatever it is, as what the machine makes of it -/
def w32 (x : Int) : Int := (Int32.ofInt x).toInt
theorem w32_R (x : Int) : InR (w32 x) := toR _
theorem w32_i {x : Int} (h : InR x) : w32 x = x := tI h
theorem iv_w (x : Int) : iv (w32 x) = iv x := by unfold iv w32; rw [Int32.ofInt_toInt]
/-- the value on top, cut to an int -/
theorem pw_w {x : Int} (k : PW X S M pc ls (iv (w32 x) :: st)) : PW X S M pc ls (iv x :: st) := by rw [iv_w] at k; exact k
theorem pw_eq1 {x y : Int} (h : x = y) (k : PW X S M pc ls (iv y :: st)) : PW X S M pc ls (iv x :: st) := h ▸ k
set_option maxRecDepth 100000 in
theorem pw_tsw3 (C : Cx X S own cc f lo) {dflt low hi o0 o1 o2 : Int} {len : Nat} {x : Int} (t0 t1 t2 td : Nat) (hx : InR x) (hd : decode cc pc = .ok (.tableswitch dflt low hi #[o0, o1, o2], len)) (hh : hi = low + 2) (e0 : (pc : Int) + o0 = (t0 : Int)) (e1 : (pc : Int) + o1 = (t1 : Int)) (e2 : (pc : Int) + o2 = (t2 : Int)) (ed : (pc : Int) + dflt = (td : Int)) (k0 : x = low + 0 → PW X S M t0 ls st) (k1 : x = low + 1 → PW X S M t1 ls st) (k2 : x = low + 2 → PW X S M t2 ls st) (kd : x < low ∨ hi < x → PW X S M td ls st) : PW X S M pc ls (iv x :: st) := by
  by_cases h9 : x < low ∨ hi < x
  · exact pw_tout C hx hd h9 ed (kd h9)
  by_cases q0 : x = low + 0
  · exact pw_tin C hx 0 hd q0 rfl (by rw [hh]; show low + (0 : Int) ≤ _; omega) e0 (k0 q0)
  by_cases q1 : x = low + 1
  · exact pw_tin C hx 1 hd q1 rfl (by rw [hh]; show low + (1 : Int) ≤ _; omega) e1 (k1 q1)
  by_cases q2 : x = low + 2
  · exact pw_tin C hx 2 hd q2 rfl (by rw [hh]; show low + (2 : Int) ≤ _; omega) e2 (k2 q2)
  omega
set_option maxRecDepth 100000 in
theorem pw_tsw4 (C : Cx X S own cc f lo) {dflt low hi o0 o1 o2 o3 : Int} {len : Nat} {x : Int} (t0 t1 t2 t3 td : Nat) (hx : InR x) (hd : decode cc pc = .ok (.tableswitch dflt low hi #[o0, o1, o2, o3], len)) (hh : hi = low + 3) (e0 : (pc : Int) + o0 = (t0 : Int)) (e1 : (pc : Int) + o1 = (t1 : Int)) (e2 : (pc : Int) + o2 = (t2 : Int)) (e3 : (pc : Int) + o3 = (t3 : Int)) (ed : (pc : Int) + dflt = (td : Int)) (k0 : x = low + 0 → PW X S M t0 ls st) (k1 : x = low + 1 → PW X S M t1 ls st) (k2 : x = low + 2 → PW X S M t2 ls st) (k3 : x = low + 3 → PW X S M t3 ls st) (kd : x < low ∨ hi < x → PW X S M td ls st) : PW X S M pc ls (iv x :: st) := by
  by_cases h9 : x < low ∨ hi < x
  · exact pw_tout C hx hd h9 ed (kd h9)
  by_cases q0 : x = low + 0
  · exact pw_tin C hx 0 hd q0 rfl (by rw [hh]; show low + (0 : Int) ≤ _; omega) e0 (k0 q0)
  by_cases q1 : x = low + 1
  · exact pw_tin C hx 1 hd q1 rfl (by rw [hh]; show low + (1 : Int) ≤ _; omega) e1 (k1 q1)
  by_cases q2 : x = low + 2
  · exact pw_tin C hx 2 hd q2 rfl (by rw [hh]; show low + (2 : Int) ≤ _; omega) e2 (k2 q2)
  by_cases q3 : x = low + 3
  · exact pw_tin C hx 3 hd q3 rfl (by rw [hh]; show low + (3 : Int) ≤ _; omega) e3 (k3 q3)
  omega
set_option maxRecDepth 100000 in
theorem pw_tsw5 (C : Cx X S own cc f lo) {dflt low hi o0 o1 o2 o3 o4 : Int} {len : Nat} {x : Int} (t0 t1 t2 t3 t4 td : Nat) (hx : InR x) (hd : decode cc pc = .ok (.tableswitch dflt low hi #[o0, o1, o2, o3, o4], len)) (hh : hi = low + 4) (e0 : (pc : Int) + o0 = (t0 : Int)) (e1 : (pc : Int) + o1 = (t1 : Int)) (e2 : (pc : Int) + o2 = (t2 : Int)) (e3 : (pc : Int) + o3 = (t3 : Int)) (e4 : (pc : Int) + o4 = (t4 : Int)) (ed : (pc : Int) + dflt = (td : Int)) (k0 : x = low + 0 → PW X S M t0 ls st) (k1 : x = low + 1 → PW X S M t1 ls st) (k2 : x = low + 2 → PW X S M t2 ls st) (k3 : x = low + 3 → PW X S M t3 ls st) (k4 : x = low + 4 → PW X S M t4 ls st) (kd : x < low ∨ hi < x → PW X S M td ls st) : PW X S M pc ls (iv x :: st) := by
  by_cases h9 : x < low ∨ hi < x
  · exact pw_tout C hx hd h9 ed (kd h9)
  by_cases q0 : x = low + 0
  · exact pw_tin C hx 0 hd q0 rfl (by rw [hh]; show low + (0 : Int) ≤ _; omega) e0 (k0 q0)
  by_cases q1 : x = low + 1
  · exact pw_tin C hx 1 hd q1 rfl (by rw [hh]; show low + (1 : Int) ≤ _; omega) e1 (k1 q1)
  by_cases q2 : x = low + 2
  · exact pw_tin C hx 2 hd q2 rfl (by rw [hh]; show low + (2 : Int) ≤ _; omega) e2 (k2 q2)
  by_cases q3 : x = low + 3
  · exact pw_tin C hx 3 hd q3 rfl (by rw [hh]; show low + (3 : Int) ≤ _; omega) e3 (k3 q3)
  by_cases q4 : x = low + 4
  · exact pw_tin C hx 4 hd q4 rfl (by rw [hh]; show low + (4 : Int) ≤ _; omega) e4 (k4 q4)
  omega
set_option maxRecDepth 100000 in
theorem pw_tsw36 (C : Cx X S own cc f lo) {dflt low hi o0 o1 o2 o3 o4 o5 o6 o7 o8 o9 o10 o11 o12 o13 o14 o15 o16 o17 o18 o19 o20 o21 o22 o23 o24 o25 o26 o27 o28 o29 o30 o31 o32 o33 o34 o35 : Int} {len : Nat} {x : Int} (t0 t1 t2 t3 t4 t5 t6 t7 t8 t9 t10 t11 t12 t13 t14 t15 t16 t17 t18 t19 t20 t21 t22 t23 t24 t25 t26 t27 t28 t29 t30 t31 t32 t33 t34 t35 td : Nat) (hx : InR x) (hd : decode cc pc = .ok (.tableswitch dflt low hi #[o0, o1, o2, o3, o4, o5, o6, o7, o8, o9, o10, o11, o12, o13, o14, o15, o16, o17, o18, o19, o20, o21, o22, o23, o24, o25, o26, o27, o28, o29, o30, o31, o32, o33, o34, o35], len)) (hh : hi = low + 35) (e0 : (pc : Int) + o0 = (t0 : Int)) (e1 : (pc : Int) + o1 = (t1 : Int)) (e2 : (pc : Int) + o2 = (t2 : Int)) (e3 : (pc : Int) + o3 = (t3 : Int)) (e4 : (pc : Int) + o4 = (t4 : Int)) (e5 : (pc : Int) + o5 = (t5 : Int)) (e6 : (pc : Int) + o6 = (t6 : Int)) (e7 : (pc : Int) + o7 = (t7 : Int)) (e8 : (pc : Int) + o8 = (t8 : Int)) (e9 : (pc : Int) + o9 = (t9 : Int)) (e10 : (pc : Int) + o10 = (t10 : Int)) (e11 : (pc : Int) + o11 = (t11 : Int)) (e12 : (pc : Int) + o12 = (t12 : Int)) (e13 : (pc : Int) + o13 = (t13 : Int)) (e14 : (pc : Int) + o14 = (t14 : Int)) (e15 : (pc : Int) + o15 = (t15 : Int)) (e16 : (pc : Int) + o16 = (t16 : Int)) (e17 : (pc : Int) + o17 = (t17 : Int)) (e18 : (pc : Int) + o18 = (t18 : Int)) (e19 : (pc : Int) + o19 = (t19 : Int)) (e20 : (pc : Int) + o20 = (t20 : Int)) (e21 : (pc : Int) + o21 = (t21 : Int)) (e22 : (pc : Int) + o22 = (t22 : Int)) (e23 : (pc : Int) + o23 = (t23 : Int)) (e24 : (pc : Int) + o24 = (t24 : Int)) (e25 : (pc : Int) + o25 = (t25 : Int)) (e26 : (pc : Int) + o26 = (t26 : Int)) (e27 : (pc : Int) + o27 = (t27 : Int)) (e28 : (pc : Int) + o28 = (t28 : Int)) (e29 : (pc : Int) + o29 = (t29 : Int)) (e30 : (pc : Int) + o30 = (t30 : Int)) (e31 : (pc : Int) + o31 = (t31 : Int)) (e32 : (pc : Int) + o32 = (t32 : Int)) (e33 : (pc : Int) + o33 = (t33 : Int)) (e34 : (pc : Int) + o34 = (t34 : Int)) (e35 : (pc : Int) + o35 = (t35 : Int)) (ed : (pc : Int) + dflt = (td : Int)) (k0 : x = low + 0 → PW X S M t0 ls st) (k1 : x = low + 1 → PW X S M t1 ls st) (k2 : x = low + 2 → PW X S M t2 ls st) (k3 : x = low + 3 → PW X S M t3 ls st) (k4 : x = low + 4 → PW X S M t4 ls st) (k5 : x = low + 5 → PW X S M t5 ls st) (k6 : x = low + 6 → PW X S M t6 ls st) (k7 : x = low + 7 → PW X S M t7 ls st) (k8 : x = low + 8 → PW X S M t8 ls st) (k9 : x = low + 9 → PW X S M t9 ls st) (k10 : x = low + 10 → PW X S M t10 ls st) (k11 : x = low + 11 → PW X S M t11 ls st) (k12 : x = low + 12 → PW X S M t12 ls st) (k13 : x = low + 13 → PW X S M t13 ls st) (k14 : x = low + 14 → PW X S M t14 ls st) (k15 : x = low + 15 → PW X S M t15 ls st) (k16 : x = low + 16 → PW X S M t16 ls st) (k17 : x = low + 17 → PW X S M t17 ls st) (k18 : x = low + 18 → PW X S M t18 ls st) (k19 : x = low + 19 → PW X S M t19 ls st) (k20 : x = low + 20 → PW X S M t20 ls st) (k21 : x = low + 21 → PW X S M t21 ls st) (k22 : x = low + 22 → PW X S M t22 ls st) (k23 : x = low + 23 → PW X S M t23 ls st) (k24 : x = low + 24 → PW X S M t24 ls st) (k25 : x = low + 25 → PW X S M t25 ls st) (k26 : x = low + 26 → PW X S M t26 ls st) (k27 : x = low + 27 → PW X S M t27 ls st) (k28 : x = low + 28 → PW X S M t28 ls st) (k29 : x = low + 29 → PW X S M t29 ls st) (k30 : x = low + 30 → PW X S M t30 ls st) (k31 : x = low + 31 → PW X S M t31 ls st) (k32 : x = low + 32 → PW X S M t32 ls st) (k33 : x = low + 33 → PW X S M t33 ls st) (k34 : x = low + 34 → PW X S M t34 ls st) (k35 : x = low + 35 → PW X S M t35 ls st) (kd : x < low ∨ hi < x → PW X S M td ls st) : PW X S M pc ls (iv x :: st) := by
  by_cases h9 : x < low ∨ hi < x
  · exact pw_tout C hx hd h9 ed (kd h9)
  by_cases q0 : x = low + 0
  · exact pw_tin C hx 0 hd q0 rfl (by rw [hh]; show low + (0 : Int) ≤ _; omega) e0 (k0 q0)
  by_cases q1 : x = low + 1
  · exact pw_tin C hx 1 hd q1 rfl (by rw [hh]; show low + (1 : Int) ≤ _; omega) e1 (k1 q1)
  by_cases q2 : x = low + 2
  · exact pw_tin C hx 2 hd q2 rfl (by rw [hh]; show low + (2 : Int) ≤ _; omega) e2 (k2 q2)
  by_cases q3 : x = low + 3
  · exact pw_tin C hx 3 hd q3 rfl (by rw [hh]; show low + (3 : Int) ≤ _; omega) e3 (k3 q3)
  by_cases q4 : x = low + 4
  · exact pw_tin C hx 4 hd q4 rfl (by rw [hh]; show low + (4 : Int) ≤ _; omega) e4 (k4 q4)
  by_cases q5 : x = low + 5
  · exact pw_tin C hx 5 hd q5 rfl (by rw [hh]; show low + (5 : Int) ≤ _; omega) e5 (k5 q5)
  by_cases q6 : x = low + 6
  · exact pw_tin C hx 6 hd q6 rfl (by rw [hh]; show low + (6 : Int) ≤ _; omega) e6 (k6 q6)
  by_cases q7 : x = low + 7
  · exact pw_tin C hx 7 hd q7 rfl (by rw [hh]; show low + (7 : Int) ≤ _; omega) e7 (k7 q7)
  by_cases q8 : x = low + 8
  · exact pw_tin C hx 8 hd q8 rfl (by rw [hh]; show low + (8 : Int) ≤ _; omega) e8 (k8 q8)
  by_cases q9 : x = low + 9
  · exact pw_tin C hx 9 hd q9 rfl (by rw [hh]; show low + (9 : Int) ≤ _; omega) e9 (k9 q9)
  by_cases q10 : x = low + 10
  · exact pw_tin C hx 10 hd q10 rfl (by rw [hh]; show low + (10 : Int) ≤ _; omega) e10 (k10 q10)
  by_cases q11 : x = low + 11
  · exact pw_tin C hx 11 hd q11 rfl (by rw [hh]; show low + (11 : Int) ≤ _; omega) e11 (k11 q11)
  by_cases q12 : x = low + 12
  · exact pw_tin C hx 12 hd q12 rfl (by rw [hh]; show low + (12 : Int) ≤ _; omega) e12 (k12 q12)
  by_cases q13 : x = low + 13
  · exact pw_tin C hx 13 hd q13 rfl (by rw [hh]; show low + (13 : Int) ≤ _; omega) e13 (k13 q13)
  by_cases q14 : x = low + 14
  · exact pw_tin C hx 14 hd q14 rfl (by rw [hh]; show low + (14 : Int) ≤ _; omega) e14 (k14 q14)
  by_cases q15 : x = low + 15
  · exact pw_tin C hx 15 hd q15 rfl (by rw [hh]; show low + (15 : Int) ≤ _; omega) e15 (k15 q15)
  by_cases q16 : x = low + 16
  · exact pw_tin C hx 16 hd q16 rfl (by rw [hh]; show low + (16 : Int) ≤ _; omega) e16 (k16 q16)
  by_cases q17 : x = low + 17
  · exact pw_tin C hx 17 hd q17 rfl (by rw [hh]; show low + (17 : Int) ≤ _; omega) e17 (k17 q17)
  by_cases q18 : x = low + 18
  · exact pw_tin C hx 18 hd q18 rfl (by rw [hh]; show low + (18 : Int) ≤ _; omega) e18 (k18 q18)
  by_cases q19 : x = low + 19
  · exact pw_tin C hx 19 hd q19 rfl (by rw [hh]; show low + (19 : Int) ≤ _; omega) e19 (k19 q19)
  by_cases q20 : x = low + 20
  · exact pw_tin C hx 20 hd q20 rfl (by rw [hh]; show low + (20 : Int) ≤ _; omega) e20 (k20 q20)
  by_cases q21 : x = low + 21
  · exact pw_tin C hx 21 hd q21 rfl (by rw [hh]; show low + (21 : Int) ≤ _; omega) e21 (k21 q21)
  by_cases q22 : x = low + 22
  · exact pw_tin C hx 22 hd q22 rfl (by rw [hh]; show low + (22 : Int) ≤ _; omega) e22 (k22 q22)
  by_cases q23 : x = low + 23
  · exact pw_tin C hx 23 hd q23 rfl (by rw [hh]; show low + (23 : Int) ≤ _; omega) e23 (k23 q23)
  by_cases q24 : x = low + 24
  · exact pw_tin C hx 24 hd q24 rfl (by rw [hh]; show low + (24 : Int) ≤ _; omega) e24 (k24 q24)
  by_cases q25 : x = low + 25
  · exact pw_tin C hx 25 hd q25 rfl (by rw [hh]; show low + (25 : Int) ≤ _; omega) e25 (k25 q25)
  by_cases q26 : x = low + 26
  · exact pw_tin C hx 26 hd q26 rfl (by rw [hh]; show low + (26 : Int) ≤ _; omega) e26 (k26 q26)
  by_cases q27 : x = low + 27
  · exact pw_tin C hx 27 hd q27 rfl (by rw [hh]; show low + (27 : Int) ≤ _; omega) e27 (k27 q27)
  by_cases q28 : x = low + 28
  · exact pw_tin C hx 28 hd q28 rfl (by rw [hh]; show low + (28 : Int) ≤ _; omega) e28 (k28 q28)
  by_cases q29 : x = low + 29
  · exact pw_tin C hx 29 hd q29 rfl (by rw [hh]; show low + (29 : Int) ≤ _; omega) e29 (k29 q29)
  by_cases q30 : x = low + 30
  · exact pw_tin C hx 30 hd q30 rfl (by rw [hh]; show low + (30 : Int) ≤ _; omega) e30 (k30 q30)
  by_cases q31 : x = low + 31
  · exact pw_tin C hx 31 hd q31 rfl (by rw [hh]; show low + (31 : Int) ≤ _; omega) e31 (k31 q31)
  by_cases q32 : x = low + 32
  · exact pw_tin C hx 32 hd q32 rfl (by rw [hh]; show low + (32 : Int) ≤ _; omega) e32 (k32 q32)
  by_cases q33 : x = low + 33
  · exact pw_tin C hx 33 hd q33 rfl (by rw [hh]; show low + (33 : Int) ≤ _; omega) e33 (k33 q33)
  by_cases q34 : x = low + 34
  · exact pw_tin C hx 34 hd q34 rfl (by rw [hh]; show low + (34 : Int) ≤ _; omega) e34 (k34 q34)
  by_cases q35 : x = low + 35
  · exact pw_tin C hx 35 hd q35 rfl (by rw [hh]; show low + (35 : Int) ≤ _; omega) e35 (k35 q35)
  omega
theorem pw_lsw2 (C : Cx X S own cc f lo) {dflt v0 v1 o0 o1 : Int} {len : Nat} {x : Int} (t0 t1 td : Nat) (hx : InR x) (hd : decode cc pc = .ok (.lookupswitch dflt #[(v0, o0), (v1, o1)], len)) (hp : ((#[(v0, o0), (v1, o1)] : Array (Int × Int)).toList.zip ((#[(v0, o0), (v1, o1)] : Array (Int × Int)).toList.drop 1)).all (fun (a, next) => a.1 < next.1) = true) (e0 : (pc : Int) + o0 = (t0 : Int)) (e1 : (pc : Int) + o1 = (t1 : Int)) (ed : (pc : Int) + dflt = (td : Int)) (k0 : x = v0 → PW X S M t0 ls st) (k1 : x = v1 → PW X S M t1 ls st) (kd : x ≠ v0 ∧ x ≠ v1 → PW X S M td ls st) : PW X S M pc ls (iv x :: st) := by
  by_cases q0 : x = v0
  · exact pw_look C hx hd hp (by show (if v0 = x then o0 else if v1 = x then o1 else dflt) = _; rw [if_pos q0.symm]) e0 (k0 q0)
  by_cases q1 : x = v1
  · exact pw_look C hx hd hp (by show (if v0 = x then o0 else if v1 = x then o1 else dflt) = _; rw [if_neg (fun h : v0 = x => q0 h.symm), if_pos q1.symm]) e1 (k1 q1)
  exact pw_look C hx hd hp (by show (if v0 = x then o0 else if v1 = x then o1 else dflt) = _; rw [if_neg (fun h : v0 = x => q0 h.symm), if_neg (fun h : v1 = x => q1 h.symm)]) ed (kd ⟨q0, q1⟩)
theorem pw_lsw3 (C : Cx X S own cc f lo) {dflt v0 v1 v2 o0 o1 o2 : Int} {len : Nat} {x : Int} (t0 t1 t2 td : Nat) (hx : InR x) (hd : decode cc pc = .ok (.lookupswitch dflt #[(v0, o0), (v1, o1), (v2, o2)], len)) (hp : ((#[(v0, o0), (v1, o1), (v2, o2)] : Array (Int × Int)).toList.zip ((#[(v0, o0), (v1, o1), (v2, o2)] : Array (Int × Int)).toList.drop 1)).all (fun (a, next) => a.1 < next.1) = true) (e0 : (pc : Int) + o0 = (t0 : Int)) (e1 : (pc : Int) + o1 = (t1 : Int)) (e2 : (pc : Int) + o2 = (t2 : Int)) (ed : (pc : Int) + dflt = (td : Int)) (k0 : x = v0 → PW X S M t0 ls st) (k1 : x = v1 → PW X S M t1 ls st) (k2 : x = v2 → PW X S M t2 ls st) (kd : x ≠ v0 ∧ x ≠ v1 ∧ x ≠ v2 → PW X S M td ls st) : PW X S M pc ls (iv x :: st) := by
  by_cases q0 : x = v0
  · exact pw_look C hx hd hp (by show (if v0 = x then o0 else if v1 = x then o1 else if v2 = x then o2 else dflt) = _; rw [if_pos q0.symm]) e0 (k0 q0)
  by_cases q1 : x = v1
  · exact pw_look C hx hd hp (by show (if v0 = x then o0 else if v1 = x then o1 else if v2 = x then o2 else dflt) = _; rw [if_neg (fun h : v0 = x => q0 h.symm), if_pos q1.symm]) e1 (k1 q1)
  by_cases q2 : x = v2
  · exact pw_look C hx hd hp (by show (if v0 = x then o0 else if v1 = x then o1 else if v2 = x then o2 else dflt) = _; rw [if_neg (fun h : v0 = x => q0 h.symm), if_neg (fun h : v1 = x => q1 h.symm), if_pos q2.symm]) e2 (k2 q2)
  exact pw_look C hx hd hp (by show (if v0 = x then o0 else if v1 = x then o1 else if v2 = x then o2 else dflt) = _; rw [if_neg (fun h : v0 = x => q0 h.symm), if_neg (fun h : v1 = x => q1 h.symm), if_neg (fun h : v2 = x => q2 h.symm)]) ed (kd ⟨q0, q1, q2⟩)
def rVQ (Q : Mem → Prop) : Option Value → Mem → Prop := fun o N => o = none ∧ Q N
def rIQ (Q : Int → Mem → Prop) : Option Value → Mem → Prop := fun o N => ∃ x, o = some (iv x) ∧ Q x N
def rJQ (Q : Int → Mem → Prop) : Option Value → Mem → Prop := fun o N => ∃ x, o = some (jv x) ∧ Q x N
theorem pw_cVQV (C : Cx X S own cc f lo) {y : MethodName} {cc' : ByteArray} {maxL' n ix f' lo' : Nat} {ret' : Option FieldType} {Q : Mem → Prop} {d k ci N0 : Nat} {T : u_T} {fs : List (Nat × Nat × Nat)} (As : List Value) (hm : MI y cc' maxL' ret' n) (hv : MV y) (hl : Cond.methodLink own ix y ∈ tbl0) (ho : OB d k ci fs) (hcl : vwCl[ci]? = some (y.cls, T, N0)) (hM : PM X.2.1 S y cc' maxL' ret' f' lo' (rv S d k 0 :: As) M (rVQ Q)) (hroom : f' + 1 ≤ f ∧ 8 + (maxL' + 11) + lo' ≤ lo) (hAs : As.length = n) (hst : (st.map fun v => v.category).sum ≤ 8) (hd : decode cc pc = .ok (.invokevirtual ix, 3)) (kk : ∀ N : Mem, Q N → PW X S N (pc + 3) ls st) : PW X S M pc ls (As.reverse ++ rv S d k 0 :: st) := pw_callV C As hm hv hl ho hcl hM hroom hAs hst hd (by rintro v N2 ⟨rfl, h⟩; exact kk N2 h)
theorem pw_cSQV (C : Cx X S own cc f lo) {y : MethodName} {cc' : ByteArray} {maxL' n ix f' lo' : Nat} {ret' : Option FieldType} {Q : Mem → Prop} (As : List Value) (hm : MI y cc' maxL' ret' n) (hv : Cond.static y ∈ tbl0) (hl : Cond.methodLink own ix y ∈ tbl0) (hM : PM X.2.1 S y cc' maxL' ret' f' lo' As M (rVQ Q)) (hroom : f' + 1 ≤ f ∧ 8 + (maxL' + 11) + lo' ≤ lo) (hAs : As.length = n) (hst : (st.map fun v => v.category).sum ≤ 8) (hd : decode cc pc = .ok (.invokestatic ix, 3)) (kk : ∀ N : Mem, Q N → PW X S N (pc + 3) ls st) : PW X S M pc ls (As.reverse ++ st) := pw_callS C As hm hv hl hM hroom hAs hst hd (by rintro v N2 ⟨rfl, h⟩; exact kk N2 h)
theorem pw_cNQV (C : Cx X S own cc f lo) {y : MethodName} {cc' : ByteArray} {maxL' n ix f' lo' : Nat} {ret' : Option FieldType} {Q : Mem → Prop} {host : String} (As : List Value) (hm : MI y cc' maxL' ret' n) (hv : Cond.static y ∈ tbl0) (hl : Cond.methodLinkNest own ix y host ∈ nst) (hM : PM X.2.1 S y cc' maxL' ret' f' lo' As M (rVQ Q)) (hroom : f' + 1 ≤ f ∧ 8 + (maxL' + 11) + lo' ≤ lo) (hAs : As.length = n) (hst : (st.map fun v => v.category).sum ≤ 8) (hd : decode cc pc = .ok (.invokestatic ix, 3)) (kk : ∀ N : Mem, Q N → PW X S N (pc + 3) ls st) : PW X S M pc ls (As.reverse ++ st) := pw_callSN C As hm hv hl hM hroom hAs hst hd (by rintro v N2 ⟨rfl, h⟩; exact kk N2 h)
theorem pw_cVQI (C : Cx X S own cc f lo) {y : MethodName} {cc' : ByteArray} {maxL' n ix f' lo' : Nat} {ret' : Option FieldType} {Q : Int → Mem → Prop} {d k ci N0 : Nat} {T : u_T} {fs : List (Nat × Nat × Nat)} (As : List Value) (hm : MI y cc' maxL' ret' n) (hv : MV y) (hl : Cond.methodLink own ix y ∈ tbl0) (ho : OB d k ci fs) (hcl : vwCl[ci]? = some (y.cls, T, N0)) (hM : PM X.2.1 S y cc' maxL' ret' f' lo' (rv S d k 0 :: As) M (rIQ Q)) (hroom : f' + 1 ≤ f ∧ 8 + (maxL' + 11) + lo' ≤ lo) (hAs : As.length = n) (hst : (st.map fun v => v.category).sum ≤ 8) (hd : decode cc pc = .ok (.invokevirtual ix, 3)) (kk : ∀ (x : Int) (N : Mem), Q x N → PW X S N (pc + 3) ls (iv x :: st)) : PW X S M pc ls (As.reverse ++ rv S d k 0 :: st) := pw_callV C As hm hv hl ho hcl hM hroom hAs hst hd (by rintro v N2 ⟨x, rfl, h⟩; exact kk x N2 h)
theorem pw_cSQI (C : Cx X S own cc f lo) {y : MethodName} {cc' : ByteArray} {maxL' n ix f' lo' : Nat} {ret' : Option FieldType} {Q : Int → Mem → Prop} (As : List Value) (hm : MI y cc' maxL' ret' n) (hv : Cond.static y ∈ tbl0) (hl : Cond.methodLink own ix y ∈ tbl0) (hM : PM X.2.1 S y cc' maxL' ret' f' lo' As M (rIQ Q)) (hroom : f' + 1 ≤ f ∧ 8 + (maxL' + 11) + lo' ≤ lo) (hAs : As.length = n) (hst : (st.map fun v => v.category).sum ≤ 8) (hd : decode cc pc = .ok (.invokestatic ix, 3)) (kk : ∀ (x : Int) (N : Mem), Q x N → PW X S N (pc + 3) ls (iv x :: st)) : PW X S M pc ls (As.reverse ++ st) := pw_callS C As hm hv hl hM hroom hAs hst hd (by rintro v N2 ⟨x, rfl, h⟩; exact kk x N2 h)
theorem pw_cNQI (C : Cx X S own cc f lo) {y : MethodName} {cc' : ByteArray} {maxL' n ix f' lo' : Nat} {ret' : Option FieldType} {Q : Int → Mem → Prop} {host : String} (As : List Value) (hm : MI y cc' maxL' ret' n) (hv : Cond.static y ∈ tbl0) (hl : Cond.methodLinkNest own ix y host ∈ nst) (hM : PM X.2.1 S y cc' maxL' ret' f' lo' As M (rIQ Q)) (hroom : f' + 1 ≤ f ∧ 8 + (maxL' + 11) + lo' ≤ lo) (hAs : As.length = n) (hst : (st.map fun v => v.category).sum ≤ 8) (hd : decode cc pc = .ok (.invokestatic ix, 3)) (kk : ∀ (x : Int) (N : Mem), Q x N → PW X S N (pc + 3) ls (iv x :: st)) : PW X S M pc ls (As.reverse ++ st) := pw_callSN C As hm hv hl hM hroom hAs hst hd (by rintro v N2 ⟨x, rfl, h⟩; exact kk x N2 h)
theorem pw_cVQJ (C : Cx X S own cc f lo) {y : MethodName} {cc' : ByteArray} {maxL' n ix f' lo' : Nat} {ret' : Option FieldType} {Q : Int → Mem → Prop} {d k ci N0 : Nat} {T : u_T} {fs : List (Nat × Nat × Nat)} (As : List Value) (hm : MI y cc' maxL' ret' n) (hv : MV y) (hl : Cond.methodLink own ix y ∈ tbl0) (ho : OB d k ci fs) (hcl : vwCl[ci]? = some (y.cls, T, N0)) (hM : PM X.2.1 S y cc' maxL' ret' f' lo' (rv S d k 0 :: As) M (rJQ Q)) (hroom : f' + 1 ≤ f ∧ 8 + (maxL' + 11) + lo' ≤ lo) (hAs : As.length = n) (hst : (st.map fun v => v.category).sum ≤ 8) (hd : decode cc pc = .ok (.invokevirtual ix, 3)) (kk : ∀ (x : Int) (N : Mem), Q x N → PW X S N (pc + 3) ls (jv x :: st)) : PW X S M pc ls (As.reverse ++ rv S d k 0 :: st) := pw_callV C As hm hv hl ho hcl hM hroom hAs hst hd (by rintro v N2 ⟨x, rfl, h⟩; exact kk x N2 h)
theorem pw_cSQJ (C : Cx X S own cc f lo) {y : MethodName} {cc' : ByteArray} {maxL' n ix f' lo' : Nat} {ret' : Option FieldType} {Q : Int → Mem → Prop} (As : List Value) (hm : MI y cc' maxL' ret' n) (hv : Cond.static y ∈ tbl0) (hl : Cond.methodLink own ix y ∈ tbl0) (hM : PM X.2.1 S y cc' maxL' ret' f' lo' As M (rJQ Q)) (hroom : f' + 1 ≤ f ∧ 8 + (maxL' + 11) + lo' ≤ lo) (hAs : As.length = n) (hst : (st.map fun v => v.category).sum ≤ 8) (hd : decode cc pc = .ok (.invokestatic ix, 3)) (kk : ∀ (x : Int) (N : Mem), Q x N → PW X S N (pc + 3) ls (jv x :: st)) : PW X S M pc ls (As.reverse ++ st) := pw_callS C As hm hv hl hM hroom hAs hst hd (by rintro v N2 ⟨x, rfl, h⟩; exact kk x N2 h)
theorem pw_cNQJ (C : Cx X S own cc f lo) {y : MethodName} {cc' : ByteArray} {maxL' n ix f' lo' : Nat} {ret' : Option FieldType} {Q : Int → Mem → Prop} {host : String} (As : List Value) (hm : MI y cc' maxL' ret' n) (hv : Cond.static y ∈ tbl0) (hl : Cond.methodLinkNest own ix y host ∈ nst) (hM : PM X.2.1 S y cc' maxL' ret' f' lo' As M (rJQ Q)) (hroom : f' + 1 ≤ f ∧ 8 + (maxL' + 11) + lo' ≤ lo) (hAs : As.length = n) (hst : (st.map fun v => v.category).sum ≤ 8) (hd : decode cc pc = .ok (.invokestatic ix, 3)) (kk : ∀ (x : Int) (N : Mem), Q x N → PW X S N (pc + 3) ls (jv x :: st)) : PW X S M pc ls (As.reverse ++ st) := pw_callSN C As hm hv hl hM hroom hAs hst hd (by rintro v N2 ⟨x, rfl, h⟩; exact kk x N2 h)
theorem pw_cVI (C : Cx X S own cc f lo) {y : MethodName} {cc' : ByteArray} {maxL' n ix f' lo' : Nat} {ret' : Option FieldType} {x : Int} {N : Mem} {d k ci N0 : Nat} {T : u_T} {fs : List (Nat × Nat × Nat)} (As : List Value) (hm : MI y cc' maxL' ret' n) (hv : MV y) (hl : Cond.methodLink own ix y ∈ tbl0) (ho : OB d k ci fs) (hcl : vwCl[ci]? = some (y.cls, T, N0)) (hM : PM X.2.1 S y cc' maxL' ret' f' lo' (rv S d k 0 :: As) M (rI x N)) (hroom : f' + 1 ≤ f ∧ 8 + (maxL' + 11) + lo' ≤ lo) (hAs : As.length = n) (hst : (st.map fun v => v.category).sum ≤ 8) (hd : decode cc pc = .ok (.invokevirtual ix, 3)) (kk : PW X S N (pc + 3) ls (iv x :: st)) : PW X S M pc ls (As.reverse ++ rv S d k 0 :: st) := pw_callV C As hm hv hl ho hcl hM hroom hAs hst hd (by rintro v N2 ⟨rfl, rfl⟩; exact kk)
theorem pw_cSI (C : Cx X S own cc f lo) {y : MethodName} {cc' : ByteArray} {maxL' n ix f' lo' : Nat} {ret' : Option FieldType} {x : Int} {N : Mem} (As : List Value) (hm : MI y cc' maxL' ret' n) (hv : Cond.static y ∈ tbl0) (hl : Cond.methodLink own ix y ∈ tbl0) (hM : PM X.2.1 S y cc' maxL' ret' f' lo' As M (rI x N)) (hroom : f' + 1 ≤ f ∧ 8 + (maxL' + 11) + lo' ≤ lo) (hAs : As.length = n) (hst : (st.map fun v => v.category).sum ≤ 8) (hd : decode cc pc = .ok (.invokestatic ix, 3)) (kk : PW X S N (pc + 3) ls (iv x :: st)) : PW X S M pc ls (As.reverse ++ st) := pw_callS C As hm hv hl hM hroom hAs hst hd (by rintro v N2 ⟨rfl, rfl⟩; exact kk)
theorem pw_cNI (C : Cx X S own cc f lo) {y : MethodName} {cc' : ByteArray} {maxL' n ix f' lo' : Nat} {ret' : Option FieldType} {x : Int} {N : Mem} {host : String} (As : List Value) (hm : MI y cc' maxL' ret' n) (hv : Cond.static y ∈ tbl0) (hl : Cond.methodLinkNest own ix y host ∈ nst) (hM : PM X.2.1 S y cc' maxL' ret' f' lo' As M (rI x N)) (hroom : f' + 1 ≤ f ∧ 8 + (maxL' + 11) + lo' ≤ lo) (hAs : As.length = n) (hst : (st.map fun v => v.category).sum ≤ 8) (hd : decode cc pc = .ok (.invokestatic ix, 3)) (kk : PW X S N (pc + 3) ls (iv x :: st)) : PW X S M pc ls (As.reverse ++ st) := pw_callSN C As hm hv hl hM hroom hAs hst hd (by rintro v N2 ⟨rfl, rfl⟩; exact kk)
theorem pw_cVJ (C : Cx X S own cc f lo) {y : MethodName} {cc' : ByteArray} {maxL' n ix f' lo' : Nat} {ret' : Option FieldType} {x : Int} {N : Mem} {d k ci N0 : Nat} {T : u_T} {fs : List (Nat × Nat × Nat)} (As : List Value) (hm : MI y cc' maxL' ret' n) (hv : MV y) (hl : Cond.methodLink own ix y ∈ tbl0) (ho : OB d k ci fs) (hcl : vwCl[ci]? = some (y.cls, T, N0)) (hM : PM X.2.1 S y cc' maxL' ret' f' lo' (rv S d k 0 :: As) M (rJ x N)) (hroom : f' + 1 ≤ f ∧ 8 + (maxL' + 11) + lo' ≤ lo) (hAs : As.length = n) (hst : (st.map fun v => v.category).sum ≤ 8) (hd : decode cc pc = .ok (.invokevirtual ix, 3)) (kk : PW X S N (pc + 3) ls (jv x :: st)) : PW X S M pc ls (As.reverse ++ rv S d k 0 :: st) := pw_callV C As hm hv hl ho hcl hM hroom hAs hst hd (by rintro v N2 ⟨rfl, rfl⟩; exact kk)
theorem pw_cSJ (C : Cx X S own cc f lo) {y : MethodName} {cc' : ByteArray} {maxL' n ix f' lo' : Nat} {ret' : Option FieldType} {x : Int} {N : Mem} (As : List Value) (hm : MI y cc' maxL' ret' n) (hv : Cond.static y ∈ tbl0) (hl : Cond.methodLink own ix y ∈ tbl0) (hM : PM X.2.1 S y cc' maxL' ret' f' lo' As M (rJ x N)) (hroom : f' + 1 ≤ f ∧ 8 + (maxL' + 11) + lo' ≤ lo) (hAs : As.length = n) (hst : (st.map fun v => v.category).sum ≤ 8) (hd : decode cc pc = .ok (.invokestatic ix, 3)) (kk : PW X S N (pc + 3) ls (jv x :: st)) : PW X S M pc ls (As.reverse ++ st) := pw_callS C As hm hv hl hM hroom hAs hst hd (by rintro v N2 ⟨rfl, rfl⟩; exact kk)
theorem pw_cNJ (C : Cx X S own cc f lo) {y : MethodName} {cc' : ByteArray} {maxL' n ix f' lo' : Nat} {ret' : Option FieldType} {x : Int} {N : Mem} {host : String} (As : List Value) (hm : MI y cc' maxL' ret' n) (hv : Cond.static y ∈ tbl0) (hl : Cond.methodLinkNest own ix y host ∈ nst) (hM : PM X.2.1 S y cc' maxL' ret' f' lo' As M (rJ x N)) (hroom : f' + 1 ≤ f ∧ 8 + (maxL' + 11) + lo' ≤ lo) (hAs : As.length = n) (hst : (st.map fun v => v.category).sum ≤ 8) (hd : decode cc pc = .ok (.invokestatic ix, 3)) (kk : PW X S N (pc + 3) ls (jv x :: st)) : PW X S M pc ls (As.reverse ++ st) := pw_callSN C As hm hv hl hM hroom hAs hst hd (by rintro v N2 ⟨rfl, rfl⟩; exact kk)
theorem pw_cVV (C : Cx X S own cc f lo) {y : MethodName} {cc' : ByteArray} {maxL' n ix f' lo' : Nat} {ret' : Option FieldType} {N : Mem} {d k ci N0 : Nat} {T : u_T} {fs : List (Nat × Nat × Nat)} (As : List Value) (hm : MI y cc' maxL' ret' n) (hv : MV y) (hl : Cond.methodLink own ix y ∈ tbl0) (ho : OB d k ci fs) (hcl : vwCl[ci]? = some (y.cls, T, N0)) (hM : PM X.2.1 S y cc' maxL' ret' f' lo' (rv S d k 0 :: As) M (rV N)) (hroom : f' + 1 ≤ f ∧ 8 + (maxL' + 11) + lo' ≤ lo) (hAs : As.length = n) (hst : (st.map fun v => v.category).sum ≤ 8) (hd : decode cc pc = .ok (.invokevirtual ix, 3)) (kk : PW X S N (pc + 3) ls (st)) : PW X S M pc ls (As.reverse ++ rv S d k 0 :: st) := pw_callV C As hm hv hl ho hcl hM hroom hAs hst hd (by rintro v N2 ⟨rfl, rfl⟩; exact kk)
theorem pw_cSV (C : Cx X S own cc f lo) {y : MethodName} {cc' : ByteArray} {maxL' n ix f' lo' : Nat} {ret' : Option FieldType} {N : Mem} (As : List Value) (hm : MI y cc' maxL' ret' n) (hv : Cond.static y ∈ tbl0) (hl : Cond.methodLink own ix y ∈ tbl0) (hM : PM X.2.1 S y cc' maxL' ret' f' lo' As M (rV N)) (hroom : f' + 1 ≤ f ∧ 8 + (maxL' + 11) + lo' ≤ lo) (hAs : As.length = n) (hst : (st.map fun v => v.category).sum ≤ 8) (hd : decode cc pc = .ok (.invokestatic ix, 3)) (kk : PW X S N (pc + 3) ls (st)) : PW X S M pc ls (As.reverse ++ st) := pw_callS C As hm hv hl hM hroom hAs hst hd (by rintro v N2 ⟨rfl, rfl⟩; exact kk)
theorem pw_cNV (C : Cx X S own cc f lo) {y : MethodName} {cc' : ByteArray} {maxL' n ix f' lo' : Nat} {ret' : Option FieldType} {N : Mem} {host : String} (As : List Value) (hm : MI y cc' maxL' ret' n) (hv : Cond.static y ∈ tbl0) (hl : Cond.methodLinkNest own ix y host ∈ nst) (hM : PM X.2.1 S y cc' maxL' ret' f' lo' As M (rV N)) (hroom : f' + 1 ≤ f ∧ 8 + (maxL' + 11) + lo' ≤ lo) (hAs : As.length = n) (hst : (st.map fun v => v.category).sum ≤ 8) (hd : decode cc pc = .ok (.invokestatic ix, 3)) (kk : PW X S N (pc + 3) ls (st)) : PW X S M pc ls (As.reverse ++ st) := pw_callSN C As hm hv hl hM hroom hAs hst hd (by rintro v N2 ⟨rfl, rfl⟩; exact kk)
theorem pw_cVP (C : Cx X S own cc f lo) {y : MethodName} {cc' : ByteArray} {maxL' n ix f' lo' : Nat} {ret' : Option FieldType}  {d k ci N0 : Nat} {T : u_T} {fs : List (Nat × Nat × Nat)} (As : List Value) (hm : MI y cc' maxL' ret' n) (hv : MV y) (hl : Cond.methodLink own ix y ∈ tbl0) (ho : OB d k ci fs) (hcl : vwCl[ci]? = some (y.cls, T, N0)) (hM : PM X.2.1 S y cc' maxL' ret' f' lo' (rv S d k 0 :: As) M (P)) (hroom : f' + 1 ≤ f ∧ 8 + (maxL' + 11) + lo' ≤ lo) (hAs : As.length = n) (hst : (st.map fun v => v.category).sum ≤ 8) (hd : decode cc pc = .ok (.invokevirtual ix, 3)) (kk : ∀ (v : Option Value) (N : Mem), P v N → PW X S N (pc + 3) ls (v.toList ++ st)) : PW X S M pc ls (As.reverse ++ rv S d k 0 :: st) := pw_callV C As hm hv hl ho hcl hM hroom hAs hst hd kk
theorem pw_cSP (C : Cx X S own cc f lo) {y : MethodName} {cc' : ByteArray} {maxL' n ix f' lo' : Nat} {ret' : Option FieldType}  (As : List Value) (hm : MI y cc' maxL' ret' n) (hv : Cond.static y ∈ tbl0) (hl : Cond.methodLink own ix y ∈ tbl0) (hM : PM X.2.1 S y cc' maxL' ret' f' lo' As M (P)) (hroom : f' + 1 ≤ f ∧ 8 + (maxL' + 11) + lo' ≤ lo) (hAs : As.length = n) (hst : (st.map fun v => v.category).sum ≤ 8) (hd : decode cc pc = .ok (.invokestatic ix, 3)) (kk : ∀ (v : Option Value) (N : Mem), P v N → PW X S N (pc + 3) ls (v.toList ++ st)) : PW X S M pc ls (As.reverse ++ st) := pw_callS C As hm hv hl hM hroom hAs hst hd kk
theorem pw_cNP (C : Cx X S own cc f lo) {y : MethodName} {cc' : ByteArray} {maxL' n ix f' lo' : Nat} {ret' : Option FieldType}  {host : String} (As : List Value) (hm : MI y cc' maxL' ret' n) (hv : Cond.static y ∈ tbl0) (hl : Cond.methodLinkNest own ix y host ∈ nst) (hM : PM X.2.1 S y cc' maxL' ret' f' lo' As M (P)) (hroom : f' + 1 ≤ f ∧ 8 + (maxL' + 11) + lo' ≤ lo) (hAs : As.length = n) (hst : (st.map fun v => v.category).sum ≤ 8) (hd : decode cc pc = .ok (.invokestatic ix, 3)) (kk : ∀ (v : Option Value) (N : Mem), P v N → PW X S N (pc + 3) ls (v.toList ++ st)) : PW X S M pc ls (As.reverse ++ st) := pw_callSN C As hm hv hl hM hroom hAs hst hd kk
/-- a place of the locals forgotten -/
theorem pw_fg (i : Nat) {ls' : List (Option Value)} (h : ls.set i none = ls') (k : PW X S M pc ls' st) : PW X S M pc ls st := by
  subst h
  intro hn hR H locs la hP hS hl
  refine k (by simpa using hn) hR H locs la hP hS ⟨hl.1, hl.2.1, fun q hq => hl.2.2 q ?_⟩
  obtain ⟨j, e, hj⟩ := (lvOf_mem _ 0 q).mp hq
  refine (lvOf_mem _ 0 q).mpr ⟨j, e, ?_⟩
  by_cases hji : j = i
  · subst hji
    have hlt : j < (ls.set j none).length := (List.getElem?_eq_some_iff.mp hj).1
    rw [List.getElem?_set_self (by simpa using hlt)] at hj
    cases hj
  · rw [List.getElem?_set_ne (Ne.symm hji)] at hj
    exact hj
end PWD
