/-! THE LAYER, second part: the judgement PW, contracts PM, and rows -/
def tbl0 : List Cond := lw_tbl.filter goodWord
def nst : List Cond := tables_1.filter (fun w => match w with | .methodLinkNest _ _ _ _ => true | _ => false)
theorem inT {w : Cond} (i : Nat) (h : tables_1[i]? = some w) (hg : goodWord w = true) : w ∈ tbl0 := List.mem_filter.mpr ⟨List.mem_append_right _ (List.mem_of_getElem? h), hg⟩
theorem inP {w : Cond} (i : Nat) (h : (k2_sels lw_privs)[i]? = some w) (hg : goodWord w = true) : w ∈ tbl0 := List.mem_filter.mpr ⟨List.mem_append_left _ (List.mem_of_getElem? h), hg⟩
theorem inN {a : String} {n : Nat} {y : MethodName} {h : String} (i : Nat) (hh : tables_1[i]? = some (.methodLinkNest a n y h)) : Cond.methodLinkNest a n y h ∈ nst := List.mem_filter.mpr ⟨List.mem_of_getElem? hh, rfl⟩
theorem nst_form {w : Cond} (h : w ∈ nst) : ∃ a n y b, w = .methodLinkNest a n y b := by
  have h2 := (List.mem_filter.mp h).2
  cases w <;> first | exact ⟨_, _, _, _, rfl⟩ | cases h2
def nestOk (U : State) : Prop := ∀ w ∈ nst, va_Nw w U
theorem nest_warm {s U : State} (hW : s.WarmedH U.vm) (h : nestOk s) : nestOk U := by
  intro w hw
  obtain ⟨a, n, y, b, rfl⟩ := nst_form hw
  exact va_Nw.warmM hW (h _ hw)
theorem nest_same {s U : State} (e : s.vm = U.vm) (h : nestOk s) : nestOk U := by
  intro w hw
  obtain ⟨a, n, y, b, rfl⟩ := nst_form hw
  exact va_Nw.same rfl e (h _ hw)
/-- program, launch, env, room, state, method's number, its arguments, frames below, method, code, goal, cells that may change, cells and slots made, locals -/
abbrev PX : Type := Program × Launch × Env × Room × State × MethodId × Array Value × List Frame × Method × Code × (State → Prop) × (Nat → Prop) × Nat × Nat × Nat
def xR (X : PX) : Room := X.2.2.2.1
def xs (X : PX) : State := X.2.2.2.2.1
def xm (X : PX) : MethodId := X.2.2.2.2.2.1
def xa (X : PX) : Array Value := X.2.2.2.2.2.2.1
def xb (X : PX) : List Frame := X.2.2.2.2.2.2.2.1
def xM (X : PX) : Method := X.2.2.2.2.2.2.2.2.1
def xc (X : PX) : Code := X.2.2.2.2.2.2.2.2.2.1
def xQ (X : PX) : State → Prop := X.2.2.2.2.2.2.2.2.2.2.1
def xA (X : PX) : Nat → Prop := X.2.2.2.2.2.2.2.2.2.2.2.1
def xk (X : PX) : Nat := X.2.2.2.2.2.2.2.2.2.2.2.2.1
def xn (X : PX) : Nat := X.2.2.2.2.2.2.2.2.2.2.2.2.2.1
def xL (X : PX) : Nat := X.2.2.2.2.2.2.2.2.2.2.2.2.2.2
def xW (X : PX) (H : Heap) (locs : List Loc) (g : JFrame) : Prop := W X.1 X.2.1 X.2.2.1 (xR X) (xs X) (xm X) (xa X) (xb X) (xM X) (xc X) H locs (xk X) (xn X) (xQ X) g
def lvOf : Nat → List (Option Value) → List (Nat × Value)
  | _, [] => []
  | i, some v :: t => (i, v) :: lvOf (i + 1) t
  | i, none :: t => lvOf (i + 1) t
theorem lvOf_mem : ∀ (l : List (Option Value)) (i : Nat) (q : Nat × Value), q ∈ lvOf i l ↔ ∃ j, q.1 = i + j ∧ l[j]? = some (some q.2)
  | [], i, q => by simp [lvOf]
  | some v :: t, i, q => by
    rw [lvOf, List.mem_cons, lvOf_mem t (i + 1) q]
    constructor
    · rintro (rfl | ⟨j, h1, h2⟩)
      · exact ⟨0, rfl, rfl⟩
      · exact ⟨j + 1, by omega, h2⟩
    · rintro ⟨j, h1, h2⟩
      cases j with
      | zero => left; obtain ⟨a, b⟩ := q; simp at h1 h2; rw [h1, h2]
      | succ j => right; exact ⟨j, by omega, h2⟩
  | none :: t, i, q => by
    rw [lvOf, lvOf_mem t (i + 1) q]
    constructor
    · rintro ⟨j, h1, h2⟩
      exact ⟨j + 1, by omega, h2⟩
    · rintro ⟨j, h1, h2⟩
      cases j with
      | zero => simp at h2
      | succ j => exact ⟨j, by omega, h2⟩
def PW (X : PX) (S : SW) (M : Mem) (pc : Nat) (ls : List (Option Value)) (st : List Value) : Prop :=
  ls.length = xL X → MR M → ∀ (H : Heap) (locs : List Loc) (la : Array Slot), va_P S.1 vwCl (wsOf S M) H → va_S (xA X) (xs X).heap H locs → lv_has la (xL X) (lvOf 0 ls) → xW X H locs (F0 (xm X) pc la st)
def Cx (X : PX) (S : SW) (own : String) (cc : ByteArray) (f lo : Nat) : Prop :=
  X.1.tables.exec = Jvm.exec ∧ (xc X).code = cc ∧ (xc X).maxLocals = xL X ∧ (xs X).vm.findClass own = some (xm X).cls ∧ (∀ w ∈ tbl0, w.before (xa X) (xs X) = true) ∧ nestOk (xs X) ∧ va_K S.1 vwCl (tysOf S) (xs X) ∧ SOk S ∧ (∀ q ∈ allPos, xA X (S.2.1 q.1 q.2.1 q.2.2)) ∧ (xR X).frames = f ∧ (xR X).locals = lo ∧ xk X ≤ (xR X).cells ∧ xn X ≤ (xR X).slots
def wsA' (S : SW) : Nat → Prop := wsA S
def pwPc (S : SW) (as : List Value) (M : Mem) : Array Value → State → Prop := va_Pc as (fun U => va_P S.1 vwCl (wsOf S M) U.heap ∧ va_K S.1 vwCl (tysOf S) U ∧ nestOk U)
def pwQ (S : SW) (P : Option Value → Mem → Prop) : Array Value → State → Outcome → State → Prop := fun _ st oc t => (∃ (v : Option Value) (N : Mem), oc = .returned v ∧ P v N ∧ MR N ∧ va_P S.1 vwCl (wsOf S N) t.heap) ∧ va_F (wsA S) st t
def PM (l : Launch) (S : SW) (y : MethodName) (cc : ByteArray) (maxL : Nat) (ret : Option FieldType) (f lo : Nat) (as : List Value) (M : Mem) (P : Option Value → Mem → Prop) : Prop :=
  SOk S → MR M → Met l y (Cond.code y cc maxL ret :: tbl0) { frames := f, cells := 0, slots := 0, locals := lo } (pwPc S as M) (pwQ S P) 0 0 (wsA S)
/-- the end of a method's walk -/
def CR (X : PX) (S : SW) (P : Option Value → Mem → Prop) (ret : Option FieldType) : Prop :=
  xQ X = MQ (xb X) (pwQ S P) (xa X) (xs X) 0 0 (wsA S) ∧ xk X = 0 ∧ xn X = 0 ∧ xA X = wsA S ∧ (xM X).sig.returnType = ret ∧ (xM X).locks = false
theorem PM.of {l : Launch} {S : SW} {y : MethodName} {own : String} {cc : ByteArray} {maxL : Nat} {ret : Option FieldType} {f lo : Nat} {as : List Value} {M : Mem} {P : Option Value → Mem → Prop} (hy : plainName y.cls = true) (ho : y.cls = own) (ls : List (Option Value)) (hl : lvOf 0 ls = lv_args 0 as) (hn : ls.length = maxL) (hm : (lg_sl as).length ≤ maxL)
    (h : ∀ X : PX, X.2.1 = l → Cx X S own cc f lo → CR X S P ret → PW X S M 0 ls []) : PM l S y cc maxL ret f lo as M P := by
  intro hS hR
  subst ho
  refine Met.ofW (cc := cc) (maxL := maxL) (ret := ret) hy rfl ?_
  intro p e s m args below meth c s₁ B hml hv
  obtain ⟨rfl, hP, hK, hN⟩ := hv
  have hts := atoms_spec (ws := Cond.code y cc maxL ret :: tbl0) B.pre
  have hA : ∀ q ∈ allPos, wsA S (S.2.1 q.1 q.2.1 q.2.2) := fun q hq => ⟨q, hq, rfl⟩
  have k := h (p, l, e, (headSpec (Cond.code y cc maxL ret :: tbl0) { frames := f, cells := 0, slots := 0, locals := lo }).room, s, m, as.toArray, below, meth, c, MQ below (pwQ S P) as.toArray s 0 0 (wsA S), wsA S, 0, 0, maxL) rfl
    ⟨B.exec, B.bytes, hml, findClass_of_methodNamed B.named, fun w hw => hts w (List.mem_cons_of_mem _ hw), hN, hK, hS, hA, rfl, rfl, Nat.zero_le _, Nat.zero_le _⟩
    ⟨rfl, rfl, rfl, rfl, B.returns, B.notSynchronized⟩
  have hla := lv_entry as (n := maxL) hm
  rw [lg_entry_eq]
  exact k hn hR s.heap [] _ hP va_S.rf (by rw [hl]; exact hla)
section PWR
variable {X : PX} {S : SW} {M : Mem} {own : String} {cc : ByteArray} {f lo : Nat} {pc : Nat} {ls : List (Option Value)} {st : List Value} {P : Option Value → Mem → Prop}
theorem pw_at {pc2 : Nat} (h : pc = pc2) (k : PW X S M pc2 ls st) : PW X S M pc ls st := h ▸ k
theorem pw_mem {M2 : Mem} (h : M = M2) (k : PW X S M2 pc ls st) : PW X S M pc ls st := h ▸ k
/-- the memory seen from who -/
theorem pw_V (d : Nat) (k : PW X S (mst M d (M d)) pc ls st) : PW X S M pc ls st := by rw [mst_i] at k; exact k
theorem pw_R (k : MR M → PW X S M pc ls st) : PW X S M pc ls st := fun hn hR => k hR hn hR
theorem pw_ld {la : Array Slot} {i : Nat} {v : Value} (h : lv_has la (xL X) (lvOf 0 ls)) (hi : ls[i]? = some (some v)) : la[i]? = some (.val v) := h.2.2 (i, v) ((lvOf_mem ls 0 (i, v)).mpr ⟨i, by simp, hi⟩)
theorem pw_iload (C : Cx X S own cc f lo) {i : Nat} {x : Int} (hd : decode cc pc = .ok (.iload i, 2)) (hi : ls[i]? = some (some (iv x))) (k : PW X S M (pc + 2) ls (iv x :: st)) : PW X S M pc ls st :=
  fun hn hR H locs la hP hS hl => lv_iload C.1 C.2.1 hd (pw_ld hl hi) (k hn hR H locs la hP hS hl)
theorem pw_iload_n (C : Cx X S own cc f lo) {i : Fin 4} {x : Int} (hd : decode cc pc = .ok (.iload_n i, 1)) (hi : ls[(i : Nat)]? = some (some (iv x))) (k : PW X S M (pc + 1) ls (iv x :: st)) : PW X S M pc ls st :=
  fun hn hR H locs la hP hS hl => lv_iload_n C.1 C.2.1 hd rfl (pw_ld hl hi) (k hn hR H locs la hP hS hl)
theorem pw_lload (C : Cx X S own cc f lo) {i : Nat} {x : Int} (hd : decode cc pc = .ok (.lload i, 2)) (hi : ls[i]? = some (some (jv x))) (k : PW X S M (pc + 2) ls (jv x :: st)) : PW X S M pc ls st :=
  fun hn hR H locs la hP hS hl => lv_lload C.1 C.2.1 hd (pw_ld hl hi) (k hn hR H locs la hP hS hl)
theorem pw_lload_n (C : Cx X S own cc f lo) {i : Fin 4} {x : Int} (hd : decode cc pc = .ok (.lload_n i, 1)) (hi : ls[(i : Nat)]? = some (some (jv x))) (k : PW X S M (pc + 1) ls (jv x :: st)) : PW X S M pc ls st :=
  fun hn hR H locs la hP hS hl => lv_lload_n C.1 C.2.1 hd rfl (pw_ld hl hi) (k hn hR H locs la hP hS hl)
theorem pw_aload (C : Cx X S own cc f lo) {i a : Nat} (hd : decode cc pc = .ok (.aload i, 2)) (hi : ls[i]? = some (some (.ref a))) (k : PW X S M (pc + 2) ls (.ref a :: st)) : PW X S M pc ls st :=
  fun hn hR H locs la hP hS hl => lv_aload C.1 C.2.1 hd (pw_ld hl hi) (k hn hR H locs la hP hS hl)
theorem pw_aload_n (C : Cx X S own cc f lo) {i : Fin 4} {d k : Nat} {r : Int} (hd : decode cc pc = .ok (.aload_n i, 1)) (hi : ls[(i : Nat)]? = some (some (rv S d k r))) (kk : PW X S M (pc + 1) ls (rv S d k r :: st)) : PW X S M pc ls st :=
  fun hn hR H locs la hP hS hl => lv_aload_n C.1 C.2.1 hd rfl (pw_ld hl hi) (kk hn hR H locs la hP hS hl)
theorem pw_iconst (C : Cx X S own cc f lo) {n : Int} (hd : decode cc pc = .ok (.iconst n, 1)) (k : PW X S M (pc + 1) ls (iv n :: st)) : PW X S M pc ls st :=
  fun hn hR H locs la hP hS hl => lv_iconst C.1 C.2.1 hd rfl (k hn hR H locs la hP hS hl)
theorem pw_bipush (C : Cx X S own cc f lo) {n : Int} (hd : decode cc pc = .ok (.bipush n, 2)) (hv : (Int8.ofInt n).toInt32 = Int32.ofInt n) (k : PW X S M (pc + 2) ls (iv n :: st)) : PW X S M pc ls st :=
  fun hn hR H locs la hP hS hl => lv_bipush C.1 C.2.1 hd hv (k hn hR H locs la hP hS hl)
theorem pw_sipush (C : Cx X S own cc f lo) {n : Int} (hd : decode cc pc = .ok (.sipush n, 3)) (hv : (Int16.ofInt n).toInt32 = Int32.ofInt n) (k : PW X S M (pc + 3) ls (iv n :: st)) : PW X S M pc ls st :=
  fun hn hR H locs la hP hS hl => lv_sipush C.1 C.2.1 hd hv (k hn hR H locs la hP hS hl)
theorem pw_lconst0 (C : Cx X S own cc f lo) (hd : decode cc pc = .ok (.lconst 0, 1)) (k : PW X S M (pc + 1) ls (jv 0 :: st)) : PW X S M pc ls st :=
  fun hn hR H locs la hP hS hl => lv_lconst C.1 C.2.1 hd (v := Int64.ofInt 0) (by decide) (k hn hR H locs la hP hS hl)
theorem pw_lconst1 (C : Cx X S own cc f lo) (hd : decode cc pc = .ok (.lconst 1, 1)) (k : PW X S M (pc + 1) ls (jv 1 :: st)) : PW X S M pc ls st :=
  fun hn hR H locs la hP hS hl => lv_lconst C.1 C.2.1 hd (v := Int64.ofInt 1) (by decide) (k hn hR H locs la hP hS hl)
theorem pw_ldc2 (C : Cx X S own cc f lo) {ix : Nat} {v : Int64} {n : Int} (hw : Cond.constantLong own ix v ∈ tbl0) (hv : v = Int64.ofInt n) (hd : decode cc pc = .ok (.ldc2_w ix, 3)) (k : PW X S M (pc + 3) ls (jv n :: st)) : PW X S M pc ls st := by
  subst hv
  exact fun hn hR H locs la hP hS hl => lv_ldc2 C.1 C.2.1 C.2.2.2.1 (C.2.2.2.2.1 _ hw) hd (k hn hR H locs la hP hS hl)
theorem pw_ldc (C : Cx X S own cc f lo) {ix : Nat} {v : Int32} {n : Int} (hw : Cond.constant own ix v ∈ tbl0) (hv : v = Int32.ofInt n) (hd : decode cc pc = .ok (.ldc ix, 2)) (k : PW X S M (pc + 2) ls (iv n :: st)) : PW X S M pc ls st := by
  subst hv
  exact fun hn hR H locs la hP hS hl => lv_ldc C.1 C.2.1 C.2.2.2.1 (C.2.2.2.2.1 _ hw) hd (k hn hR H locs la hP hS hl)
theorem pw_iadd (C : Cx X S own cc f lo) {x y : Int} (hd : decode cc pc = .ok (.iadd, 1)) (k : PW X S M (pc + 1) ls (iv (x + y) :: st)) : PW X S M pc ls (iv y :: iv x :: st) :=
  fun hn hR H locs la hP hS hl => lv_iadd C.1 C.2.1 hd (by rw [← Int32.ofInt_add]; exact k hn hR H locs la hP hS hl)
theorem pw_isub (C : Cx X S own cc f lo) {x y : Int} (hd : decode cc pc = .ok (.isub, 1)) (k : PW X S M (pc + 1) ls (iv (x - y) :: st)) : PW X S M pc ls (iv y :: iv x :: st) :=
  fun hn hR H locs la hP hS hl => lv_isub C.1 C.2.1 hd (by rw [← Int32.ofInt_sub]; exact k hn hR H locs la hP hS hl)
theorem pw_imul (C : Cx X S own cc f lo) {x y : Int} (hd : decode cc pc = .ok (.imul, 1)) (k : PW X S M (pc + 1) ls (iv (x * y) :: st)) : PW X S M pc ls (iv y :: iv x :: st) :=
  fun hn hR H locs la hP hS hl => lv_imul C.1 C.2.1 hd (by rw [← Int32.ofInt_mul]; exact k hn hR H locs la hP hS hl)
theorem pw_ineg (C : Cx X S own cc f lo) {x : Int} (hd : decode cc pc = .ok (.ineg, 1)) (k : PW X S M (pc + 1) ls (iv (-x) :: st)) : PW X S M pc ls (iv x :: st) :=
  fun hn hR H locs la hP hS hl => lv_ineg C.1 C.2.1 hd (by rw [← Int32.ofInt_neg]; exact k hn hR H locs la hP hS hl)
theorem pw_ladd (C : Cx X S own cc f lo) {x y : Int} (hd : decode cc pc = .ok (.ladd, 1)) (k : PW X S M (pc + 1) ls (jv (x + y) :: st)) : PW X S M pc ls (jv y :: jv x :: st) :=
  fun hn hR H locs la hP hS hl => lv_ladd C.1 C.2.1 hd (by rw [← Int64.ofInt_add]; exact k hn hR H locs la hP hS hl)
theorem pw_lsub (C : Cx X S own cc f lo) {x y : Int} (hd : decode cc pc = .ok (.lsub, 1)) (k : PW X S M (pc + 1) ls (jv (x - y) :: st)) : PW X S M pc ls (jv y :: jv x :: st) :=
  fun hn hR H locs la hP hS hl => lv_lsub C.1 C.2.1 hd (by rw [← Int64.ofInt_sub]; exact k hn hR H locs la hP hS hl)
theorem pw_lmul (C : Cx X S own cc f lo) {x y : Int} (hd : decode cc pc = .ok (.lmul, 1)) (k : PW X S M (pc + 1) ls (jv (x * y) :: st)) : PW X S M pc ls (jv y :: jv x :: st) :=
  fun hn hR H locs la hP hS hl => lv_lmul C.1 C.2.1 hd (by rw [← Int64.ofInt_mul]; exact k hn hR H locs la hP hS hl)
theorem pw_lneg (C : Cx X S own cc f lo) {x : Int} (hd : decode cc pc = .ok (.lneg, 1)) (k : PW X S M (pc + 1) ls (jv (-x) :: st)) : PW X S M pc ls (jv x :: st) :=
  fun hn hR H locs la hP hS hl => lv_lneg C.1 C.2.1 hd (by rw [← Int64.ofInt_neg]; exact k hn hR H locs la hP hS hl)
theorem pw_i2l (C : Cx X S own cc f lo) {x : Int} (hx : InR x) (hd : decode cc pc = .ok (.i2l, 1)) (k : PW X S M (pc + 1) ls (jv x :: st)) : PW X S M pc ls (iv x :: st) :=
  fun hn hR H locs la hP hS hl => lv_i2l C.1 C.2.1 hd (v := Int64.ofInt x) (by rw [← Int64.ofInt_int32ToInt, tI hx]) (k hn hR H locs la hP hS hl)
def i8 (x : Int) : Int := (Int8.ofInt x).toInt
def i16 (x : Int) : Int := (Int16.ofInt x).toInt
theorem i8_R (x : Int) : InR (i8 x) := by
  have h1 := (Int8.ofInt x).le_toInt
  have h2 := (Int8.ofInt x).toInt_lt
  unfold i8
  exact ⟨by omega, by omega⟩
theorem i16_R (x : Int) : InR (i16 x) := by
  have h1 := (Int16.ofInt x).le_toInt
  have h2 := (Int16.ofInt x).toInt_lt
  unfold i16
  exact ⟨by omega, by omega⟩
theorem pw_i2b (C : Cx X S own cc f lo) {x : Int} (hd : decode cc pc = .ok (.i2b, 1)) (k : PW X S M (pc + 1) ls (iv (i8 x) :: st)) : PW X S M pc ls (iv x :: st) :=
  fun hn hR H locs la hP hS hl => lv_i2b C.1 C.2.1 hd (v := Int32.ofInt (i8 x)) (by unfold i8; rw [Int32.ofInt_int8ToInt, Int32.toInt8_ofInt]) (k hn hR H locs la hP hS hl)
theorem pw_i2s (C : Cx X S own cc f lo) {x : Int} (hd : decode cc pc = .ok (.i2s, 1)) (k : PW X S M (pc + 1) ls (iv (i16 x) :: st)) : PW X S M pc ls (iv x :: st) :=
  fun hn hR H locs la hP hS hl => lv_i2s C.1 C.2.1 hd (v := Int32.ofInt (i16 x)) (by unfold i16; rw [Int32.ofInt_int16ToInt, Int32.toInt16_ofInt]) (k hn hR H locs la hP hS hl)
theorem pw_idiv (C : Cx X S own cc f lo) {x y : Int} (h0 : 0 ≤ x) (h1 : x < 2147483648) (h2 : 0 < y) (h3 : y < 2147483648) (hd : decode cc pc = .ok (.idiv, 1)) (k : PW X S M (pc + 1) ls (iv (x / y) :: st)) : PW X S M pc ls (iv y :: iv x :: st) :=
  fun hn hR H locs la hP hS hl => lv_idiv C.1 C.2.1 hd (by rw [eq0I ⟨by omega, h3⟩]; omega) (by
    rw [← Int32.ofInt_tdiv (by rw [show Int32.minValue.toInt = -2147483648 by decide]; omega) (by rw [show Int32.maxValue.toInt = 2147483647 by decide]; omega) (by rw [show Int32.minValue.toInt = -2147483648 by decide]; omega) (by rw [show Int32.maxValue.toInt = 2147483647 by decide]; omega), Int.tdiv_eq_ediv_of_nonneg h0]
    exact k hn hR H locs la hP hS hl)
theorem pw_irem (C : Cx X S own cc f lo) {x y : Int} (h0 : 0 ≤ x) (h1 : x < 2147483648) (h2 : 0 < y) (h3 : y < 2147483648) (hd : decode cc pc = .ok (.irem, 1)) (k : PW X S M (pc + 1) ls (iv (x % y) :: st)) : PW X S M pc ls (iv y :: iv x :: st) :=
  fun hn hR H locs la hP hS hl => lv_irem C.1 C.2.1 hd (by rw [eq0I ⟨by omega, h3⟩]; omega) (by
    rw [← Int32.ofInt_tdiv (by rw [show Int32.minValue.toInt = -2147483648 by decide]; omega) (by rw [show Int32.maxValue.toInt = 2147483647 by decide]; omega) (by rw [show Int32.minValue.toInt = -2147483648 by decide]; omega) (by rw [show Int32.maxValue.toInt = 2147483647 by decide]; omega), Int.tdiv_eq_ediv_of_nonneg h0, ← Int32.ofInt_mul, ← Int32.ofInt_sub, show x - x / y * y = x % y by rw [Int.emod_def, Int.mul_comm]]
    exact k hn hR H locs la hP hS hl)
theorem pw_ldiv (C : Cx X S own cc f lo) {x y : Int} (hx : InL x) (h2 : 0 < y) (h3 : y < 9223372036854775808) (hd : decode cc pc = .ok (.ldiv, 1)) (k : PW X S M (pc + 1) ls (jv (x.tdiv y) :: st)) : PW X S M pc ls (jv y :: jv x :: st) :=
  fun hn hR H locs la hP hS hl => lv_ldiv C.1 C.2.1 hd (by rw [show (0 : Int64) = Int64.ofInt 0 by decide, eqL ⟨by omega, h3⟩ ⟨by omega, by omega⟩]; omega) (by
    have h4 := hx.1
    have h5 := hx.2
    rw [← Int64.ofInt_tdiv (by rw [show Int64.minValue.toInt = -9223372036854775808 by decide]; omega) (by rw [show Int64.maxValue.toInt = 9223372036854775807 by decide]; omega) (by rw [show Int64.minValue.toInt = -9223372036854775808 by decide]; omega) (by rw [show Int64.maxValue.toInt = 9223372036854775807 by decide]; omega)]
    exact k hn hR H locs la hP hS hl)
theorem pw_lrem (C : Cx X S own cc f lo) {x y : Int} (h0 : 0 ≤ x) (h1 : x < 9223372036854775808) (h2 : 0 < y) (h3 : y < 9223372036854775808) (hd : decode cc pc = .ok (.lrem, 1)) (k : PW X S M (pc + 1) ls (jv (x % y) :: st)) : PW X S M pc ls (jv y :: jv x :: st) :=
  fun hn hR H locs la hP hS hl => lv_lrem C.1 C.2.1 hd (by rw [show (0 : Int64) = Int64.ofInt 0 by decide, eqL ⟨by omega, h3⟩ ⟨by omega, by omega⟩]; omega) (by
    rw [← Int64.ofInt_tdiv (by rw [show Int64.minValue.toInt = -9223372036854775808 by decide]; omega) (by rw [show Int64.maxValue.toInt = 9223372036854775807 by decide]; omega) (by rw [show Int64.minValue.toInt = -9223372036854775808 by decide]; omega) (by rw [show Int64.maxValue.toInt = 9223372036854775807 by decide]; omega), Int.tdiv_eq_ediv_of_nonneg h0, ← Int64.ofInt_mul, ← Int64.ofInt_sub, show x - x / y * y = x % y by rw [Int.emod_def, Int.mul_comm]]
    exact k hn hR H locs la hP hS hl)
theorem pw_ixor (C : Cx X S own cc f lo) {x y z : Int} (h : Int32.ofInt x ^^^ Int32.ofInt y = Int32.ofInt z) (hd : decode cc pc = .ok (.ixor, 1)) (k : PW X S M (pc + 1) ls (iv z :: st)) : PW X S M pc ls (iv y :: iv x :: st) :=
  fun hn hR H locs la hP hS hl => lv_ixor C.1 C.2.1 hd (by rw [h]; exact k hn hR H locs la hP hS hl)
theorem pw_ior (C : Cx X S own cc f lo) {x y z : Int} (h : Int32.ofInt x ||| Int32.ofInt y = Int32.ofInt z) (hd : decode cc pc = .ok (.ior, 1)) (k : PW X S M (pc + 1) ls (iv z :: st)) : PW X S M pc ls (iv y :: iv x :: st) :=
  fun hn hR H locs la hP hS hl => lv_ior C.1 C.2.1 hd (by rw [h]; exact k hn hR H locs la hP hS hl)
theorem pw_iand (C : Cx X S own cc f lo) {x y z : Int} (h : Int32.ofInt x &&& Int32.ofInt y = Int32.ofInt z) (hd : decode cc pc = .ok (.iand, 1)) (k : PW X S M (pc + 1) ls (iv z :: st)) : PW X S M pc ls (iv y :: iv x :: st) :=
  fun hn hR H locs la hP hS hl => lv_iand C.1 C.2.1 hd (by rw [h]; exact k hn hR H locs la hP hS hl)
theorem pw_ishl (C : Cx X S own cc f lo) {x y z : Int} (h : Int32.ofInt x <<< (Int32.ofInt y &&& 31) = Int32.ofInt z) (hd : decode cc pc = .ok (.ishl, 1)) (k : PW X S M (pc + 1) ls (iv z :: st)) : PW X S M pc ls (iv y :: iv x :: st) :=
  fun hn hR H locs la hP hS hl => lv_ishl C.1 C.2.1 hd (by rw [h]; exact k hn hR H locs la hP hS hl)
theorem pw_dup (C : Cx X S own cc f lo) {v : Value} (hd : decode cc pc = .ok (.dup, 1)) (hv : v.category = 1) (k : PW X S M (pc + 1) ls (v :: v :: st)) : PW X S M pc ls (v :: st) :=
  fun hn hR H locs la hP hS hl => lv_dup C.1 C.2.1 hd hv (k hn hR H locs la hP hS hl)
theorem pw_dup2 (C : Cx X S own cc f lo) {v w : Value} (hd : decode cc pc = .ok (.dup2, 1)) (hv : v.category = 1) (hw : w.category = 1) (k : PW X S M (pc + 1) ls (v :: w :: v :: w :: st)) : PW X S M pc ls (v :: w :: st) :=
  fun hn hR H locs la hP hS hl => lv_dup2_11 C.1 C.2.1 hd hv hw (k hn hR H locs la hP hS hl)
theorem pw_pop (C : Cx X S own cc f lo) {v : Value} (hd : decode cc pc = .ok (.pop, 1)) (hv : v.category = 1) (k : PW X S M (pc + 1) ls st) : PW X S M pc ls (v :: st) :=
  fun hn hR H locs la hP hS hl => lv_pop C.1 C.2.1 hd hv (k hn hR H locs la hP hS hl)
theorem pw_goto (C : Cx X S own cc f lo) {off : Int} {tgt : Nat} (hd : decode cc pc = .ok (.goto off, 3)) (ht : (pc : Int) + off = (tgt : Int)) (k : PW X S M tgt ls st) : PW X S M pc ls st :=
  fun hn hR H locs la hP hS hl => lv_goto C.1 C.2.1 hd ht (k hn hR H locs la hP hS hl)
theorem pw_icmp_lt (C : Cx X S own cc f lo) {x y off : Int} {tgt : Nat} (hd : decode cc pc = .ok (.if_icmp .lt off, 3)) (ht : (pc : Int) + off = (tgt : Int)) (hx : InR x) (hy : InR y) (kt : x < y → PW X S M tgt ls st) (kf : y ≤ x → PW X S M (pc + 3) ls st) : PW X S M pc ls (iv y :: iv x :: st) :=
  fun hn hR H locs la hP hS hl => lv_icmp_lt C.1 C.2.1 hd ht (fun h => kt ((ltI hx hy).mp h) hn hR H locs la hP hS hl) (fun h => kf (by have h2 := mt (ltI hx hy).mpr h; omega) hn hR H locs la hP hS hl)
theorem pw_if_lt (C : Cx X S own cc f lo) {x off : Int} {tgt : Nat} (hd : decode cc pc = .ok (.ifCond .lt off, 3)) (ht : (pc : Int) + off = (tgt : Int)) (hx : InR x) (kt : x < 0 → PW X S M tgt ls st) (kf : 0 ≤ x → PW X S M (pc + 3) ls st) : PW X S M pc ls (iv x :: st) :=
  fun hn hR H locs la hP hS hl => lv_if_lt C.1 C.2.1 hd ht (fun h => kt ((lt0I hx).mp h) hn hR H locs la hP hS hl) (fun h => kf (by have h2 := mt (lt0I hx).mpr h; omega) hn hR H locs la hP hS hl)
theorem pw_icmp_ge (C : Cx X S own cc f lo) {x y off : Int} {tgt : Nat} (hd : decode cc pc = .ok (.if_icmp .ge off, 3)) (ht : (pc : Int) + off = (tgt : Int)) (hx : InR x) (hy : InR y) (kt : y ≤ x → PW X S M tgt ls st) (kf : x < y → PW X S M (pc + 3) ls st) : PW X S M pc ls (iv y :: iv x :: st) :=
  fun hn hR H locs la hP hS hl => lv_icmp_ge C.1 C.2.1 hd ht (fun h => kt ((leI hy hx).mp h) hn hR H locs la hP hS hl) (fun h => kf (by have h2 := mt (leI hy hx).mpr h; omega) hn hR H locs la hP hS hl)
theorem pw_if_ge (C : Cx X S own cc f lo) {x off : Int} {tgt : Nat} (hd : decode cc pc = .ok (.ifCond .ge off, 3)) (ht : (pc : Int) + off = (tgt : Int)) (hx : InR x) (kt : 0 ≤ x → PW X S M tgt ls st) (kf : x < 0 → PW X S M (pc + 3) ls st) : PW X S M pc ls (iv x :: st) :=
  fun hn hR H locs la hP hS hl => lv_if_ge C.1 C.2.1 hd ht (fun h => kt ((ge0I hx).mp h) hn hR H locs la hP hS hl) (fun h => kf (by have h2 := mt (ge0I hx).mpr h; omega) hn hR H locs la hP hS hl)
theorem pw_icmp_gt (C : Cx X S own cc f lo) {x y off : Int} {tgt : Nat} (hd : decode cc pc = .ok (.if_icmp .gt off, 3)) (ht : (pc : Int) + off = (tgt : Int)) (hx : InR x) (hy : InR y) (kt : y < x → PW X S M tgt ls st) (kf : x ≤ y → PW X S M (pc + 3) ls st) : PW X S M pc ls (iv y :: iv x :: st) :=
  fun hn hR H locs la hP hS hl => lv_icmp_gt C.1 C.2.1 hd ht (fun h => kt ((ltI hy hx).mp h) hn hR H locs la hP hS hl) (fun h => kf (by have h2 := mt (ltI hy hx).mpr h; omega) hn hR H locs la hP hS hl)
theorem pw_if_gt (C : Cx X S own cc f lo) {x off : Int} {tgt : Nat} (hd : decode cc pc = .ok (.ifCond .gt off, 3)) (ht : (pc : Int) + off = (tgt : Int)) (hx : InR x) (kt : 0 < x → PW X S M tgt ls st) (kf : x ≤ 0 → PW X S M (pc + 3) ls st) : PW X S M pc ls (iv x :: st) :=
  fun hn hR H locs la hP hS hl => lv_if_gt C.1 C.2.1 hd ht (fun h => kt ((gt0I hx).mp h) hn hR H locs la hP hS hl) (fun h => kf (by have h2 := mt (gt0I hx).mpr h; omega) hn hR H locs la hP hS hl)
theorem pw_icmp_le (C : Cx X S own cc f lo) {x y off : Int} {tgt : Nat} (hd : decode cc pc = .ok (.if_icmp .le off, 3)) (ht : (pc : Int) + off = (tgt : Int)) (hx : InR x) (hy : InR y) (kt : x ≤ y → PW X S M tgt ls st) (kf : y < x → PW X S M (pc + 3) ls st) : PW X S M pc ls (iv y :: iv x :: st) :=
  fun hn hR H locs la hP hS hl => lv_icmp_le C.1 C.2.1 hd ht (fun h => kt ((leI hx hy).mp h) hn hR H locs la hP hS hl) (fun h => kf (by have h2 := mt (leI hx hy).mpr h; omega) hn hR H locs la hP hS hl)
theorem pw_if_le (C : Cx X S own cc f lo) {x off : Int} {tgt : Nat} (hd : decode cc pc = .ok (.ifCond .le off, 3)) (ht : (pc : Int) + off = (tgt : Int)) (hx : InR x) (kt : x ≤ 0 → PW X S M tgt ls st) (kf : 0 < x → PW X S M (pc + 3) ls st) : PW X S M pc ls (iv x :: st) :=
  fun hn hR H locs la hP hS hl => lv_if_le C.1 C.2.1 hd ht (fun h => kt ((le0I hx).mp h) hn hR H locs la hP hS hl) (fun h => kf (by have h2 := mt (le0I hx).mpr h; omega) hn hR H locs la hP hS hl)
theorem pw_icmp_eq (C : Cx X S own cc f lo) {x y off : Int} {tgt : Nat} (hd : decode cc pc = .ok (.if_icmp .eq off, 3)) (ht : (pc : Int) + off = (tgt : Int)) (hx : InR x) (hy : InR y) (kt : x = y → PW X S M tgt ls st) (kf : x ≠ y → PW X S M (pc + 3) ls st) : PW X S M pc ls (iv y :: iv x :: st) :=
  fun hn hR H locs la hP hS hl => lv_icmp_eq C.1 C.2.1 hd ht (fun h => kt ((eqI hx hy).mp h) hn hR H locs la hP hS hl) (fun h => kf (mt (eqI hx hy).mpr h) hn hR H locs la hP hS hl)
theorem pw_if_eq (C : Cx X S own cc f lo) {x off : Int} {tgt : Nat} (hd : decode cc pc = .ok (.ifCond .eq off, 3)) (ht : (pc : Int) + off = (tgt : Int)) (hx : InR x) (kt : x = 0 → PW X S M tgt ls st) (kf : x ≠ 0 → PW X S M (pc + 3) ls st) : PW X S M pc ls (iv x :: st) :=
  fun hn hR H locs la hP hS hl => lv_if_eq C.1 C.2.1 hd ht (fun h => kt ((eq0I hx).mp h) hn hR H locs la hP hS hl) (fun h => kf (mt (eq0I hx).mpr h) hn hR H locs la hP hS hl)
theorem pw_icmp_ne (C : Cx X S own cc f lo) {x y off : Int} {tgt : Nat} (hd : decode cc pc = .ok (.if_icmp .ne off, 3)) (ht : (pc : Int) + off = (tgt : Int)) (hx : InR x) (hy : InR y) (kt : x ≠ y → PW X S M tgt ls st) (kf : x = y → PW X S M (pc + 3) ls st) : PW X S M pc ls (iv y :: iv x :: st) :=
  fun hn hR H locs la hP hS hl => lv_icmp_ne C.1 C.2.1 hd ht (fun h => kt (mt (eqI hx hy).mpr h) hn hR H locs la hP hS hl) (fun h => kf ((eqI hx hy).mp h) hn hR H locs la hP hS hl)
theorem pw_if_ne (C : Cx X S own cc f lo) {x off : Int} {tgt : Nat} (hd : decode cc pc = .ok (.ifCond .ne off, 3)) (ht : (pc : Int) + off = (tgt : Int)) (hx : InR x) (kt : x ≠ 0 → PW X S M tgt ls st) (kf : x = 0 → PW X S M (pc + 3) ls st) : PW X S M pc ls (iv x :: st) :=
  fun hn hR H locs la hP hS hl => lv_if_ne C.1 C.2.1 hd ht (fun h => kt (mt (eq0I hx).mpr h) hn hR H locs la hP hS hl) (fun h => kf ((eq0I hx).mp h) hn hR H locs la hP hS hl)
theorem b01_R (Q : Prop) : InR (b01 Q) := by rcases b01_r Q with h | h <;> rw [h] <;> unfold InR <;> omega
theorem pw_if_ne_b (C : Cx X S own cc f lo) {Q : Prop} {off : Int} {tgt : Nat} (hd : decode cc pc = .ok (.ifCond .ne off, 3)) (ht : (pc : Int) + off = (tgt : Int)) (kt : Q → PW X S M tgt ls st) (kf : ¬ Q → PW X S M (pc + 3) ls st) : PW X S M pc ls (iv (b01 Q) :: st) :=
  pw_if_ne C hd ht (b01_R Q) (fun h => kt (Classical.byContradiction fun q => h (b01_f q))) (fun h => kf (b01_0.mp h))
theorem pw_if_eq_b (C : Cx X S own cc f lo) {Q : Prop} {off : Int} {tgt : Nat} (hd : decode cc pc = .ok (.ifCond .eq off, 3)) (ht : (pc : Int) + off = (tgt : Int)) (kt : ¬ Q → PW X S M tgt ls st) (kf : Q → PW X S M (pc + 3) ls st) : PW X S M pc ls (iv (b01 Q) :: st) :=
  pw_if_eq C hd ht (b01_R Q) (fun h => kt (b01_0.mp h)) (fun h => kf (Classical.byContradiction fun q => h (b01_f q)))
theorem pw_lcmp (C : Cx X S own cc f lo) {x y : Int} (hx : InL x) (hy : InL y) (hd : decode cc pc = .ok (.lcmp, 1)) (k : PW X S M (pc + 1) ls (iv (cmpI x y) :: st)) : PW X S M pc ls (jv y :: jv x :: st) :=
  fun hn hR H locs la hP hS hl => W.lcmp C.1 C.2.1 hd (by rw [cmpI_ok hx hy]; exact k hn hR H locs la hP hS hl)
theorem pw_lif_lt (C : Cx X S own cc f lo) {x y off : Int} {tgt : Nat} (hd : decode cc pc = .ok (.ifCond .lt off, 3)) (ht : (pc : Int) + off = (tgt : Int)) (kt : x < y → PW X S M tgt ls st) (kf : y ≤ x → PW X S M (pc + 3) ls st) : PW X S M pc ls (iv (cmpI x y) :: st) :=
  pw_if_lt C hd ht (cmpI_r x y) (fun h => kt (cmpI_lt.mp h)) (fun h => kf (cmpI_ge.mp h))
theorem pw_lif_ge (C : Cx X S own cc f lo) {x y off : Int} {tgt : Nat} (hd : decode cc pc = .ok (.ifCond .ge off, 3)) (ht : (pc : Int) + off = (tgt : Int)) (kt : y ≤ x → PW X S M tgt ls st) (kf : x < y → PW X S M (pc + 3) ls st) : PW X S M pc ls (iv (cmpI x y) :: st) :=
  pw_if_ge C hd ht (cmpI_r x y) (fun h => kt (cmpI_ge.mp h)) (fun h => kf (cmpI_lt.mp h))
theorem pw_lif_gt (C : Cx X S own cc f lo) {x y off : Int} {tgt : Nat} (hd : decode cc pc = .ok (.ifCond .gt off, 3)) (ht : (pc : Int) + off = (tgt : Int)) (kt : y < x → PW X S M tgt ls st) (kf : x ≤ y → PW X S M (pc + 3) ls st) : PW X S M pc ls (iv (cmpI x y) :: st) :=
  pw_if_gt C hd ht (cmpI_r x y) (fun h => kt (cmpI_gt.mp h)) (fun h => kf (cmpI_le.mp h))
theorem pw_lif_le (C : Cx X S own cc f lo) {x y off : Int} {tgt : Nat} (hd : decode cc pc = .ok (.ifCond .le off, 3)) (ht : (pc : Int) + off = (tgt : Int)) (kt : x ≤ y → PW X S M tgt ls st) (kf : y < x → PW X S M (pc + 3) ls st) : PW X S M pc ls (iv (cmpI x y) :: st) :=
  pw_if_le C hd ht (cmpI_r x y) (fun h => kt (cmpI_le.mp h)) (fun h => kf (cmpI_gt.mp h))
theorem pw_lif_eq (C : Cx X S own cc f lo) {x y off : Int} {tgt : Nat} (hd : decode cc pc = .ok (.ifCond .eq off, 3)) (ht : (pc : Int) + off = (tgt : Int)) (kt : x = y → PW X S M tgt ls st) (kf : x ≠ y → PW X S M (pc + 3) ls st) : PW X S M pc ls (iv (cmpI x y) :: st) :=
  pw_if_eq C hd ht (cmpI_r x y) (fun h => kt (cmpI_eq.mp h)) (fun h => kf (mt cmpI_eq.mpr h))
theorem pw_lif_ne (C : Cx X S own cc f lo) {x y off : Int} {tgt : Nat} (hd : decode cc pc = .ok (.ifCond .ne off, 3)) (ht : (pc : Int) + off = (tgt : Int)) (kt : x ≠ y → PW X S M tgt ls st) (kf : x = y → PW X S M (pc + 3) ls st) : PW X S M pc ls (iv (cmpI x y) :: st) :=
  pw_if_ne C hd ht (cmpI_r x y) (fun h => kt (mt cmpI_eq.mpr h)) (fun h => kf (cmpI_eq.mp h))
end PWR
