/-! THE LAYER: the whole world (the class's objects, its trial day, the reference) read as one memory of integers; rows that walk over it -/
abbrev InR (x : Int) : Prop := -2147483648 ≤ x ∧ x < 2147483648
abbrev InL (x : Int) : Prop := -9223372036854775808 ≤ x ∧ x < 9223372036854775808
def iv (x : Int) : Value := .int (Int32.ofInt x)
def jv (x : Int) : Value := .long (Int64.ofInt x)
noncomputable def b01 (P : Prop) : Int := @ite Int P (Classical.propDecidable P) 1 0
theorem b01_t {P : Prop} (h : P) : b01 P = 1 := by unfold b01; rw [if_pos h]
theorem b01_f {P : Prop} (h : ¬ P) : b01 P = 0 := by unfold b01; rw [if_neg h]
theorem b01_r (P : Prop) : b01 P = 0 ∨ b01 P = 1 := by
  by_cases h : P
  · exact Or.inr (b01_t h)
  · exact Or.inl (b01_f h)
theorem b01_e {P Q : Prop} (h : P ↔ Q) : b01 P = b01 Q := by rw [propext h]
theorem b01_1 {P : Prop} : b01 P = 1 ↔ P := by
  by_cases h : P
  · rw [b01_t h]; exact ⟨fun _ => h, fun _ => rfl⟩
  · rw [b01_f h]; exact ⟨fun q => by omega, fun q => absurd q h⟩
theorem b01_0 {P : Prop} : b01 P = 0 ↔ ¬ P := by
  by_cases h : P
  · rw [b01_t h]; exact ⟨fun q => by omega, fun q => absurd h q⟩
  · rw [b01_f h]; exact ⟨fun _ => h, fun _ => rfl⟩
theorem tI {x : Int} (h : InR x) : (Int32.ofInt x).toInt = x := Int32.toInt_ofInt_of_le (by have := h.1; omega) (by have := h.2; omega)
theorem tL {x : Int} (h : InL x) : (Int64.ofInt x).toInt = x := Int64.toInt_ofInt_of_le (by have := h.1; omega) (by have := h.2; omega)
theorem RL_ {x : Int} (h : InR x) : InL x := ⟨by have := h.1; omega, by have := h.2; omega⟩
theorem R_ {x : Int} (h0 : -2147483648 ≤ x) (h1 : x < 2147483648) : InR x := ⟨h0, h1⟩
theorem toR (x : Int32) : InR x.toInt := ⟨by have := x.le_toInt; omega, by have := x.toInt_lt; omega⟩
theorem ivT (x : Int32) : iv x.toInt = .int x := by unfold iv; rw [Int32.ofInt_toInt]
theorem clI {x : Int} (h0 : 0 ≤ x) (h1 : x < 2147483648) : (Int32.ofInt x).toNatClampNeg = x.toNat := Int32.toNatClampNeg_ofInt_of_le (by omega) (by omega)
theorem ltI {x y : Int} (hx : InR x) (hy : InR y) : Int32.ofInt x < Int32.ofInt y ↔ x < y := by rw [Int32.lt_iff_toInt_lt, tI hx, tI hy]
theorem leI {x y : Int} (hx : InR x) (hy : InR y) : Int32.ofInt x ≤ Int32.ofInt y ↔ x ≤ y := by rw [Int32.le_iff_toInt_le, tI hx, tI hy]
theorem eqI {x y : Int} (hx : InR x) (hy : InR y) : Int32.ofInt x = Int32.ofInt y ↔ x = y := by rw [← Int32.toInt_inj, tI hx, tI hy]
theorem z0I : (0 : Int32) = Int32.ofInt 0 := by decide
theorem r0I : InR 0 := by unfold InR; omega
theorem lt0I {x : Int} (hx : InR x) : Int32.ofInt x < 0 ↔ x < 0 := by rw [z0I]; exact ltI hx r0I
theorem gt0I {x : Int} (hx : InR x) : 0 < Int32.ofInt x ↔ 0 < x := by rw [z0I]; exact ltI r0I hx
theorem le0I {x : Int} (hx : InR x) : Int32.ofInt x ≤ 0 ↔ x ≤ 0 := by rw [z0I]; exact leI hx r0I
theorem ge0I {x : Int} (hx : InR x) : 0 ≤ Int32.ofInt x ↔ 0 ≤ x := by rw [z0I]; exact leI r0I hx
theorem eq0I {x : Int} (hx : InR x) : Int32.ofInt x = 0 ↔ x = 0 := by rw [z0I]; exact eqI hx r0I
theorem ltL {x y : Int} (hx : InL x) (hy : InL y) : Int64.ofInt x < Int64.ofInt y ↔ x < y := by rw [Int64.lt_iff_toInt_lt, tL hx, tL hy]
theorem eqL {x y : Int} (hx : InL x) (hy : InL y) : Int64.ofInt x = Int64.ofInt y ↔ x = y := by rw [← Int64.toInt_inj, tL hx, tL hy]
theorem inI {x : Int} {n : Nat} (h0 : 0 ≤ x) (h1 : x < n) (hn : n < 2147483648) : vp_in (Int32.ofInt x) n := by
  unfold vp_in
  rw [clI h0 (by omega), lt0I ⟨by omega, by omega⟩]
  omega
/-- how two longs stand -/
def cmpI (x y : Int) : Int := if y < x then 1 else if x = y then 0 else -1
theorem cmpI_ok {x y : Int} (hx : InL x) (hy : InL y) : lg_cmp (Int64.ofInt x) (Int64.ofInt y) = Int32.ofInt (cmpI x y) := by
  unfold lg_cmp cmpI
  by_cases h1 : y < x
  · rw [if_pos h1, if_pos ((ltL hy hx).mpr h1)]; decide
  · rw [if_neg h1, if_neg (fun h => h1 ((ltL hy hx).mp h))]
    by_cases h2 : x = y
    · rw [if_pos h2, if_pos ((eqL hx hy).mpr h2)]; decide
    · rw [if_neg h2, if_neg (fun h => h2 ((eqL hx hy).mp h))]; decide
theorem cmpI_r (x y : Int) : InR (cmpI x y) := by
  unfold cmpI InR
  split
  · omega
  · split <;> omega
theorem cmpI_lt {x y : Int} : cmpI x y < 0 ↔ x < y := by unfold cmpI; split; omega; split <;> omega
theorem cmpI_gt {x y : Int} : 0 < cmpI x y ↔ y < x := by unfold cmpI; split; omega; split <;> omega
theorem cmpI_eq {x y : Int} : cmpI x y = 0 ↔ x = y := by unfold cmpI; split; omega; split <;> omega
theorem cmpI_le {x y : Int} : cmpI x y ≤ 0 ↔ x ≤ y := by unfold cmpI; split; omega; split <;> omega
theorem cmpI_ge {x y : Int} : 0 ≤ cmpI x y ↔ y ≤ x := by unfold cmpI; split; omega; split <;> omega
/-- a day's memory: cell kind, row, place; the memory: who (0 today, 1 trial, 2 the rest of the class, 3 the reference) -/
abbrev DM : Type := Nat → Int → Int → Int
abbrev Mem : Type := Nat → DM
def fup (f : Int → Int) (i v : Int) : Int → Int := fun j => if j = i then v else f j
def vup (V : DM) (k : Nat) (r i v : Int) : DM := fun k' r' => if k' = k ∧ r' = r then fup (V k r) i v else V k' r'
def mst (M : Mem) (d : Nat) (V : DM) : Mem := fun e => if e = d then V else M e
theorem fup_s (f : Int → Int) (i v : Int) : fup f i v i = v := if_pos rfl
theorem fup_o (f : Int → Int) {i j : Int} (v : Int) (h : j ≠ i) : fup f i v j = f j := if_neg h
theorem mst_s (M : Mem) (d : Nat) (V : DM) : mst M d V d = V := if_pos rfl
theorem mst_o (M : Mem) {d e : Nat} (V : DM) (h : e ≠ d) : mst M d V e = M e := if_neg h
theorem mst_m (M : Mem) (d : Nat) (V U : DM) : mst (mst M d V) d U = mst M d U := by
  funext e; unfold mst; split <;> rfl
theorem mst_i (M : Mem) (d : Nat) : mst M d (M d) = M := by
  funext e; unfold mst; split
  · next h => rw [h]
  · rfl
theorem vup_s (V : DM) (k : Nat) (r i v : Int) : vup V k r i v k r = fup (V k r) i v := if_pos ⟨rfl, rfl⟩
theorem vup_k (V : DM) {k k' : Nat} (r i v : Int) (h : k' ≠ k) (r' : Int) : vup V k r i v k' r' = V k' r' := if_neg (fun q => h q.1)
theorem vup_r (V : DM) (k : Nat) {r r' : Int} (i v : Int) (h : r' ≠ r) : vup V k r i v k r' = V k r' := if_neg (fun q => h q.2)
theorem vup_v (V : DM) (k : Nat) (r i v : Int) : vup V k r i v k r i = v := by rw [vup_s, fup_s]
theorem vup_j (V : DM) (k : Nat) (r : Int) {i j : Int} (v : Int) (h : j ≠ i) : vup V k r i v k r j = V k r j := by rw [vup_s, fup_o _ _ h]
def VR (V : DM) : Prop := ∀ k r i, InR (V k r i)
def MR (M : Mem) : Prop := ∀ d, VR (M d)
theorem VR.up {V : DM} (h : VR V) {k : Nat} {r i v : Int} (hv : InR v) : VR (vup V k r i v) := by
  intro k' r' j
  unfold vup
  split
  · unfold fup; split
    · exact hv
    · exact h _ _ _
  · exact h _ _ _
theorem MR.mst {M : Mem} (h : MR M) {d : Nat} {V : DM} (hV : VR V) : MR (mst M d V) := by
  intro e
  show VR (if e = d then V else M e)
  split
  · exact hV
  · exact h _
/-- the static side of a world: classes' numbers and slots; addresses; the classes of int[], boolean[], int[][] -/
abbrev SW : Type := va_G × (Nat → Nat → Int → Nat) × ClassId × ClassId × ClassId
/-- a cell's shape: 0 ints, 1 booleans, 2 rows, 3 an object; length or class; fields (0 int, 1 long, 2 who, cell) -/
abbrev SH : Type := Nat × Nat × List (Nat × Nat × Nat)
def rv (S : SW) (d k : Nat) (r : Int) : Value := .ref (S.2.1 d k r)
def fv (S : SW) (q : Nat × Nat × Nat) (x : Int) : Value := if q.1 = 0 then iv x else if q.1 = 1 then jv x else rv S q.2.1 q.2.2 0
def flds (S : SW) : List (Nat × Nat × Nat) → (Int → Int) → Int → List Value
  | [], _, _ => []
  | q :: t, f, k => fv S q (f k) :: flds S t f (k + 1)
def cellOf (S : SW) (sh : SH) (f : Int → Int) : va_E :=
  if sh.1 = 0 then .inl (S.2.2.1, sh.2.1, .inl (fun i => Int32.ofInt (f i)))
  else if sh.1 = 1 then .inl (S.2.2.2.1, sh.2.1, .inl (fun i => Int32.ofInt (f i)))
  else if sh.1 = 2 then .inl (S.2.2.2.2, sh.2.1, .inr (.inr (.inr (.inr (fun i => if i < sh.2.1 then some (S.2.1 (sh.2.2.headD (0, 0, 0)).2.1 (sh.2.2.headD (0, 0, 0)).2.2 i) else none)))))
  else .inr (sh.2.1, flds S sh.2.2 f 0)
def dayShp (d k : Nat) : SH := match k with
  | 0 => (3, 1, [(2, d, 1), (2, d, 8), (2, d, 13), (2, d, 14), (2, d, 15), (2, d, 16), (2, d, 17), (2, d, 18), (2, d, 19), (0, 0, 0), (0, 0, 0), (0, 0, 0), (0, 0, 0)])
  | 1 => (3, 6, [(2, d, 2), (2, d, 3), (2, d, 4), (2, d, 5), (2, d, 6), (0, 0, 0), (0, 0, 0), (0, 0, 0), (0, 0, 0)])
  | 2 => (0, 4, [])
  | 3 => (0, 4, [])
  | 4 => (0, 4, [])
  | 5 => (0, 4, [])
  | 6 => (2, 4, [(0, d, 7)])
  | 7 => (0, 8, [])
  | 8 => (3, 0, [(2, d, 9), (2, d, 10), (2, d, 11), (2, d, 12), (0, 0, 0)])
  | 9 => (0, 10, [])
  | 10 => (0, 10, [])
  | 11 => (0, 10, [])
  | 12 => (0, 10, [])
  | 13 => (0, 4, [])
  | 14 => (0, 4, [])
  | 15 => (0, 4, [])
  | 16 => (0, 10, [])
  | 17 => (0, 10, [])
  | 18 => (0, 10, [])
  | 19 => (0, 10, [])
  | _ => (9, 0, [])
def clsShp (k : Nat) : SH := match k with
  | 0 => (3, 7, [(2, 0, 0), (2, 2, 1), (2, 2, 5), (2, 2, 10), (2, 2, 12), (0, 0, 0), (0, 0, 0)])
  | 1 => (3, 4, [(2, 1, 0), (2, 2, 2), (2, 2, 3), (2, 2, 4), (0, 0, 0), (0, 0, 0), (0, 0, 0)])
  | 2 => (0, 4, [])
  | 3 => (1, 4, [])
  | 4 => (0, 4, [])
  | 5 => (3, 5, [(2, 2, 6), (2, 2, 8), (2, 2, 9)])
  | 6 => (2, 4, [(0, 2, 7)])
  | 7 => (0, 60, [])
  | 8 => (0, 4, [])
  | 9 => (0, 4, [])
  | 10 => (3, 3, [(2, 2, 11), (0, 0, 0), (0, 0, 0)])
  | 11 => (0, 20, [])
  | 12 => (3, 2, [(2, 2, 13), (2, 2, 14)])
  | 13 => (0, 4, [])
  | 14 => (0, 4, [])
  | _ => (9, 0, [])
def mdlShp (k : Nat) : SH := match k with
  | 0 => (3, 8, [(0, 0, 0), (0, 0, 0), (0, 0, 0), (2, 3, 4), (2, 3, 5), (2, 3, 6), (2, 3, 7), (2, 3, 8), (0, 0, 0), (0, 0, 0), (0, 0, 0), (0, 0, 0), (0, 0, 0), (0, 0, 0), (2, 3, 15), (0, 0, 0), (2, 3, 17), (2, 3, 18), (2, 3, 19), (2, 3, 20), (2, 3, 21), (0, 0, 0), (2, 3, 23), (2, 3, 24), (2, 3, 25), (2, 3, 26), (2, 3, 27), (2, 3, 28), (2, 3, 29), (2, 3, 30), (2, 3, 31), (2, 3, 32), (1, 0, 0), (1, 0, 0), (2, 3, 35), (2, 3, 36), (2, 3, 37), (2, 3, 38), (0, 0, 0)])
  | 4 => (0, 4, [])
  | 5 => (0, 4, [])
  | 6 => (0, 4, [])
  | 7 => (0, 4, [])
  | 8 => (0, 32, [])
  | 15 => (0, 16, [])
  | 17 => (0, 10, [])
  | 18 => (0, 10, [])
  | 19 => (0, 10, [])
  | 20 => (0, 10, [])
  | 21 => (0, 4, [])
  | 23 => (0, 10, [])
  | 24 => (0, 10, [])
  | 25 => (0, 10, [])
  | 26 => (0, 10, [])
  | 27 => (0, 4, [])
  | 28 => (0, 4, [])
  | 29 => (0, 32, [])
  | 30 => (0, 4, [])
  | 31 => (0, 4, [])
  | 32 => (0, 4, [])
  | 35 => (0, 4, [])
  | 36 => (0, 4, [])
  | 37 => (0, 240, [])
  | 38 => (0, 60, [])
  | _ => (9, 0, [])
def shp (d k : Nat) : SH := if d < 2 then dayShp d k else if d = 2 then clsShp k else mdlShp k
def allPos : List (Nat × Nat × Int) := [(0, 0, 0), (0, 1, 0), (0, 2, 0), (0, 3, 0), (0, 4, 0), (0, 5, 0), (0, 6, 0), (0, 7, 0), (0, 7, 1), (0, 7, 2), (0, 7, 3), (0, 8, 0), (0, 9, 0), (0, 10, 0), (0, 11, 0), (0, 12, 0), (0, 13, 0), (0, 14, 0), (0, 15, 0), (0, 16, 0), (0, 17, 0), (0, 18, 0), (0, 19, 0), (1, 0, 0), (1, 1, 0), (1, 2, 0), (1, 3, 0), (1, 4, 0), (1, 5, 0), (1, 6, 0), (1, 7, 0), (1, 7, 1), (1, 7, 2), (1, 7, 3), (1, 8, 0), (1, 9, 0), (1, 10, 0), (1, 11, 0), (1, 12, 0), (1, 13, 0), (1, 14, 0), (1, 15, 0), (1, 16, 0), (1, 17, 0), (1, 18, 0), (1, 19, 0), (2, 0, 0), (2, 1, 0), (2, 2, 0), (2, 3, 0), (2, 4, 0), (2, 5, 0), (2, 6, 0), (2, 7, 0), (2, 7, 1), (2, 7, 2), (2, 7, 3), (2, 8, 0), (2, 9, 0), (2, 10, 0), (2, 11, 0), (2, 12, 0), (2, 13, 0), (2, 14, 0), (3, 0, 0), (3, 4, 0), (3, 5, 0), (3, 6, 0), (3, 7, 0), (3, 8, 0), (3, 15, 0), (3, 17, 0), (3, 18, 0), (3, 19, 0), (3, 20, 0), (3, 21, 0), (3, 23, 0), (3, 24, 0), (3, 25, 0), (3, 26, 0), (3, 27, 0), (3, 28, 0), (3, 29, 0), (3, 30, 0), (3, 31, 0), (3, 32, 0), (3, 35, 0), (3, 36, 0), (3, 37, 0), (3, 38, 0)]
theorem shpD {d : Nat} (hd : d < 2) (k : Nat) : shp d k = dayShp d k := if_pos hd
theorem d01 {d : Nat} (hd : d < 2) : d = 0 ∨ d = 1 := by omega
/-- an array of ints: where it lies, how long it is -/
def AR (d k : Nat) (r : Int) (n : Nat) : Prop := shp d k = (0, n, []) ∧ (d, k, r) ∈ allPos
/-- an object: its class, its fields -/
def OB (d k c : Nat) (fs : List (Nat × Nat × Nat)) : Prop := shp d k = (3, c, fs) ∧ (d, k, 0) ∈ allPos
/-- an array of rows -/
def AQ (d k n k2 : Nat) : Prop := shp d k = (2, n, [(0, d, k2)]) ∧ (d, k, 0) ∈ allPos
theorem oD_0 {d : Nat} (hd : d < 2) : OB d 0 1 (dayShp d 0).2.2 := by
  rcases d01 hd with rfl | rfl
  · exact ⟨rfl, by decide⟩
  · exact ⟨rfl, by decide⟩
theorem oD_1 {d : Nat} (hd : d < 2) : OB d 1 6 (dayShp d 1).2.2 := by
  rcases d01 hd with rfl | rfl
  · exact ⟨rfl, by decide⟩
  · exact ⟨rfl, by decide⟩
theorem aD_2 {d : Nat} (hd : d < 2) : AR d 2 0 4 := by
  rcases d01 hd with rfl | rfl
  · exact ⟨rfl, by decide⟩
  · exact ⟨rfl, by decide⟩
theorem aD_3 {d : Nat} (hd : d < 2) : AR d 3 0 4 := by
  rcases d01 hd with rfl | rfl
  · exact ⟨rfl, by decide⟩
  · exact ⟨rfl, by decide⟩
theorem aD_4 {d : Nat} (hd : d < 2) : AR d 4 0 4 := by
  rcases d01 hd with rfl | rfl
  · exact ⟨rfl, by decide⟩
  · exact ⟨rfl, by decide⟩
theorem aD_5 {d : Nat} (hd : d < 2) : AR d 5 0 4 := by
  rcases d01 hd with rfl | rfl
  · exact ⟨rfl, by decide⟩
  · exact ⟨rfl, by decide⟩
theorem qD_6 {d : Nat} (hd : d < 2) : AQ d 6 4 7 := by
  rcases d01 hd with rfl | rfl
  · exact ⟨rfl, by decide⟩
  · exact ⟨rfl, by decide⟩
theorem oD_8 {d : Nat} (hd : d < 2) : OB d 8 0 (dayShp d 8).2.2 := by
  rcases d01 hd with rfl | rfl
  · exact ⟨rfl, by decide⟩
  · exact ⟨rfl, by decide⟩
theorem aD_9 {d : Nat} (hd : d < 2) : AR d 9 0 10 := by
  rcases d01 hd with rfl | rfl
  · exact ⟨rfl, by decide⟩
  · exact ⟨rfl, by decide⟩
theorem aD_10 {d : Nat} (hd : d < 2) : AR d 10 0 10 := by
  rcases d01 hd with rfl | rfl
  · exact ⟨rfl, by decide⟩
  · exact ⟨rfl, by decide⟩
theorem aD_11 {d : Nat} (hd : d < 2) : AR d 11 0 10 := by
  rcases d01 hd with rfl | rfl
  · exact ⟨rfl, by decide⟩
  · exact ⟨rfl, by decide⟩
theorem aD_12 {d : Nat} (hd : d < 2) : AR d 12 0 10 := by
  rcases d01 hd with rfl | rfl
  · exact ⟨rfl, by decide⟩
  · exact ⟨rfl, by decide⟩
theorem aD_13 {d : Nat} (hd : d < 2) : AR d 13 0 4 := by
  rcases d01 hd with rfl | rfl
  · exact ⟨rfl, by decide⟩
  · exact ⟨rfl, by decide⟩
theorem aD_14 {d : Nat} (hd : d < 2) : AR d 14 0 4 := by
  rcases d01 hd with rfl | rfl
  · exact ⟨rfl, by decide⟩
  · exact ⟨rfl, by decide⟩
theorem aD_15 {d : Nat} (hd : d < 2) : AR d 15 0 4 := by
  rcases d01 hd with rfl | rfl
  · exact ⟨rfl, by decide⟩
  · exact ⟨rfl, by decide⟩
theorem aD_16 {d : Nat} (hd : d < 2) : AR d 16 0 10 := by
  rcases d01 hd with rfl | rfl
  · exact ⟨rfl, by decide⟩
  · exact ⟨rfl, by decide⟩
theorem aD_17 {d : Nat} (hd : d < 2) : AR d 17 0 10 := by
  rcases d01 hd with rfl | rfl
  · exact ⟨rfl, by decide⟩
  · exact ⟨rfl, by decide⟩
theorem aD_18 {d : Nat} (hd : d < 2) : AR d 18 0 10 := by
  rcases d01 hd with rfl | rfl
  · exact ⟨rfl, by decide⟩
  · exact ⟨rfl, by decide⟩
theorem aD_19 {d : Nat} (hd : d < 2) : AR d 19 0 10 := by
  rcases d01 hd with rfl | rfl
  · exact ⟨rfl, by decide⟩
  · exact ⟨rfl, by decide⟩
theorem aD_7 {d : Nat} (hd : d < 2) {r : Int} (h0 : 0 ≤ r) (h1 : r < 4) : AR d 7 r 8 := by
  have h : r = 0 ∨ r = 1 ∨ r = 2 ∨ r = 3 := by omega
  rcases d01 hd with rfl | rfl <;> rcases h with rfl | rfl | rfl | rfl <;> exact ⟨rfl, by decide⟩
theorem oC_0 : OB 2 0 7 (clsShp 0).2.2 := ⟨rfl, by decide⟩
theorem oC_1 : OB 2 1 4 (clsShp 1).2.2 := ⟨rfl, by decide⟩
theorem aC_2 : AR 2 2 0 4 := ⟨rfl, by decide⟩
theorem aC_4 : AR 2 4 0 4 := ⟨rfl, by decide⟩
theorem oC_5 : OB 2 5 5 (clsShp 5).2.2 := ⟨rfl, by decide⟩
theorem qC_6 : AQ 2 6 4 7 := ⟨rfl, by decide⟩
theorem aC_8 : AR 2 8 0 4 := ⟨rfl, by decide⟩
theorem aC_9 : AR 2 9 0 4 := ⟨rfl, by decide⟩
theorem oC_10 : OB 2 10 3 (clsShp 10).2.2 := ⟨rfl, by decide⟩
theorem aC_11 : AR 2 11 0 20 := ⟨rfl, by decide⟩
theorem oC_12 : OB 2 12 2 (clsShp 12).2.2 := ⟨rfl, by decide⟩
theorem aC_13 : AR 2 13 0 4 := ⟨rfl, by decide⟩
theorem aC_14 : AR 2 14 0 4 := ⟨rfl, by decide⟩
theorem oM_0 : OB 3 0 8 (mdlShp 0).2.2 := ⟨rfl, by decide⟩
theorem aM_4 : AR 3 4 0 4 := ⟨rfl, by decide⟩
theorem aM_5 : AR 3 5 0 4 := ⟨rfl, by decide⟩
theorem aM_6 : AR 3 6 0 4 := ⟨rfl, by decide⟩
theorem aM_7 : AR 3 7 0 4 := ⟨rfl, by decide⟩
theorem aM_8 : AR 3 8 0 32 := ⟨rfl, by decide⟩
theorem aM_15 : AR 3 15 0 16 := ⟨rfl, by decide⟩
theorem aM_17 : AR 3 17 0 10 := ⟨rfl, by decide⟩
theorem aM_18 : AR 3 18 0 10 := ⟨rfl, by decide⟩
theorem aM_19 : AR 3 19 0 10 := ⟨rfl, by decide⟩
theorem aM_20 : AR 3 20 0 10 := ⟨rfl, by decide⟩
theorem aM_21 : AR 3 21 0 4 := ⟨rfl, by decide⟩
theorem aM_23 : AR 3 23 0 10 := ⟨rfl, by decide⟩
theorem aM_24 : AR 3 24 0 10 := ⟨rfl, by decide⟩
theorem aM_25 : AR 3 25 0 10 := ⟨rfl, by decide⟩
theorem aM_26 : AR 3 26 0 10 := ⟨rfl, by decide⟩
theorem aM_27 : AR 3 27 0 4 := ⟨rfl, by decide⟩
theorem aM_28 : AR 3 28 0 4 := ⟨rfl, by decide⟩
theorem aM_29 : AR 3 29 0 32 := ⟨rfl, by decide⟩
theorem aM_30 : AR 3 30 0 4 := ⟨rfl, by decide⟩
theorem aM_31 : AR 3 31 0 4 := ⟨rfl, by decide⟩
theorem aM_32 : AR 3 32 0 4 := ⟨rfl, by decide⟩
theorem aM_35 : AR 3 35 0 4 := ⟨rfl, by decide⟩
theorem aM_36 : AR 3 36 0 4 := ⟨rfl, by decide⟩
theorem aM_37 : AR 3 37 0 240 := ⟨rfl, by decide⟩
theorem aM_38 : AR 3 38 0 60 := ⟨rfl, by decide⟩
theorem aC_7 {r : Int} (h0 : 0 ≤ r) (h1 : r < 4) : AR 2 7 r 60 := by
  have h : r = 0 ∨ r = 1 ∨ r = 2 ∨ r = 3 := by omega
  rcases h with rfl | rfl | rfl | rfl <;> exact ⟨rfl, by decide⟩
theorem bC_3 : shp 2 3 = (1, 4, []) ∧ ((2, 3, 0) : Nat × Nat × Int) ∈ allPos := ⟨rfl, by decide⟩
def wsOf (S : SW) (M : Mem) : va_W := allPos.map (fun q => (S.2.1 q.1 q.2.1 q.2.2, cellOf S (shp q.1 q.2.1) (M q.1 q.2.1 q.2.2)))
def tysOf (S : SW) : List (ClassId × FieldType) := [(S.2.2.1, .int), (S.2.2.2.1, .boolean), (S.2.2.2.2, .array .int)]
def SOk (S : SW) : Prop := ∀ p ∈ allPos, ∀ q ∈ allPos, S.2.1 p.1 p.2.1 p.2.2 = S.2.1 q.1 q.2.1 q.2.2 → p = q
def wsA (S : SW) : Nat → Prop := fun a => ∃ q ∈ allPos, a = S.2.1 q.1 q.2.1 q.2.2
theorem pos_nd : allPos.Nodup := by decide +kernel
theorem pos_inj {i j : Nat} {p : Nat × Nat × Int} (hi : allPos[i]? = some p) (hj : allPos[j]? = some p) : i = j := by
  have h1 := (List.getElem?_eq_some_iff.mp hi).1
  exact (List.getElem?_inj h1 pos_nd).mp (hi.trans hj.symm)
theorem ws_get {d k : Nat} {r : Int} (h : (d, k, r) ∈ allPos) (S : SW) (M : Mem) : ∃ j : Nat, allPos[j]? = some (d, k, r) ∧ (wsOf S M)[j]? = some (S.2.1 d k r, cellOf S (shp d k) (M d k r)) := by
  obtain ⟨j, hj⟩ := List.getElem?_of_mem h
  exact ⟨j, hj, by unfold wsOf; rw [List.getElem?_map, hj]; rfl⟩
theorem ws_set {d k : Nat} {r : Int} {j : Nat} (hj : allPos[j]? = some (d, k, r)) (S : SW) (M : Mem) (i v : Int) : (wsOf S M).set j (S.2.1 d k r, cellOf S (shp d k) (fup (M d k r) i v)) = wsOf S (mst M d (vup (M d) k r i v)) := by
  apply List.ext_getElem?
  intro n
  by_cases hn : n = j
  · subst hn
    have hlt := (List.getElem?_eq_some_iff.mp hj).1
    rw [List.getElem?_set_self (by unfold wsOf; rw [List.length_map]; exact hlt)]
    unfold wsOf
    rw [List.getElem?_map, hj]
    show some _ = some (_, cellOf S (shp d k) (mst M d (vup (M d) k r i v) d k r))
    rw [mst_s, vup_s]
  · rw [List.getElem?_set_ne (Ne.symm hn)]
    unfold wsOf
    rw [List.getElem?_map, List.getElem?_map]
    cases hq : allPos[n]? with
    | none => rfl
    | some q =>
      obtain ⟨d', k', r'⟩ := q
      have hne : ¬ (d' = d ∧ k' = k ∧ r' = r) := by
        rintro ⟨rfl, rfl, rfl⟩
        exact hn (pos_inj hq hj)
      show some (_, cellOf S (shp d' k') (M d' k' r')) = some (_, cellOf S (shp d' k') (mst M d (vup (M d) k r i v) d' k' r'))
      have e : mst M d (vup (M d) k r i v) d' k' r' = M d' k' r' := by
        unfold mst
        split
        · next h =>
          subst h
          exact if_neg (fun q => hne ⟨rfl, q.1, q.2⟩)
        · rfl
      rw [e]
theorem ws_D {S : SW} {A : Nat → Prop} (hS : SOk S) (hA : ∀ q ∈ allPos, A (S.2.1 q.1 q.2.1 q.2.2)) (M : Mem) : va_D A (wsOf S M) := by
  have key : ∀ (j : Nat) (x : Nat × va_E), (wsOf S M)[j]? = some x → ∃ q, allPos[j]? = some q ∧ x.1 = S.2.1 q.1 q.2.1 q.2.2 := by
    intro j x hx
    unfold wsOf at hx
    rw [List.getElem?_map] at hx
    cases hq : allPos[j]? with
    | none => rw [hq] at hx; cases hx
    | some q => rw [hq] at hx; cases hx; exact ⟨q, rfl, rfl⟩
  refine ⟨fun i j x y hi hj hxy => ?_, fun j x hx => ?_⟩
  · obtain ⟨p, h1, h2⟩ := key i x hi
    obtain ⟨q, h3, h4⟩ := key j y hj
    have e := hS p (List.mem_of_getElem? h1) q (List.mem_of_getElem? h3) (by rw [← h2, ← h4]; exact hxy)
    subst e
    exact pos_inj h1 h3
  · obtain ⟨q, h1, h2⟩ := key j x hx
    rw [h2]
    exact hA q (List.mem_of_getElem? h1)
theorem flds_get (S : SW) : ∀ (fs : List (Nat × Nat × Nat)) (f : Int → Int) (k : Int) (n : Nat), (flds S fs f k)[n]? = fs[n]?.map (fun q => fv S q (f (k + n)))
  | [], _, _, n => by simp [flds]
  | q :: t, f, k, 0 => by simp [flds]
  | q :: t, f, k, n + 1 => by
    rw [flds, List.getElem?_cons_succ, List.getElem?_cons_succ, flds_get S t f (k + 1) n]
    congr 2
    funext x
    congr 2
    omega
theorem flds_set {S : SW} {fs : List (Nat × Nat × Nat)} {f : Int → Int} {n : Nat} {q : Nat × Nat × Nat} {v : Int} (hq : fs[n]? = some q) : (flds S fs f 0).set n (fv S q v) = flds S fs (fup f n v) 0 := by
  apply List.ext_getElem?
  intro j
  have hlt : n < (flds S fs f 0).length := by
    have h1 : (flds S fs f 0)[n]? = some (fv S q (f (0 + n))) := by rw [flds_get, hq]; rfl
    exact (List.getElem?_eq_some_iff.mp h1).1
  rw [flds_get]
  by_cases h : j = n
  · subst h
    rw [List.getElem?_set_self hlt, hq]
    show some _ = some (fv S q (fup f j v (0 + j)))
    rw [show (0 : Int) + (j : Int) = j by omega, fup_s]
  · rw [List.getElem?_set_ne (Ne.symm h), flds_get]
    congr 1
    funext x
    rw [fup_o]
    omega
