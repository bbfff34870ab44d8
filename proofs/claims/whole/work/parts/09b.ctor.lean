/-! CONSTRUCTORS: worlds that grow -/
abbrev CI3 : Type := ClassId × ClassId × ClassId
def ty3 (T : CI3) : List (ClassId × FieldType) := [(T.1, .int), (T.2.1, .boolean), (T.2.2, .array .int)]
theorem over_movedA {a a' : Array Value} {u E : State} {t : FieldType} (hal : u.vm.Alike E.vm) (h : (Cond.arrayOver (.array t)).before a u = true) : (Cond.arrayOver (.array t)).before a' E = true := by
  obtain ⟨comp, c, k, hc, hi, hk, hkind, hn⟩ := arrayOverA_spec h
  obtain ⟨k', hk', he⟩ := hal.2.2 _ _ hk
  have hi' : (E.vm.classes.findIdx? fun x => match x.kind with | .array component _ => component == comp | _ => false) = some c := by rw [hal.findIdx?_eq _ (fun _ => rfl)]; exact hi
  have hc' : E.vm.findClass (FieldType.array t).toString = some comp := by rw [hal.findClass]; exact hc
  have hn' : E.vm.findClass ("[" ++ (FieldType.array t).toString) = some c := by rw [hal.findClass]; exact hn
  have hkind' : k'.kind = .array comp (.array t) := by rw [he]; exact hkind
  simp only [Cond.before, Cond.holds, Cond.value, beq_iff_eq, hc', hk', Option.bind_some, Option.map_some, hkind']
  simp [hn']
  refine Option.bind_eq_some_iff.mpr ⟨c, hi', ?_⟩
  simp [hk', hkind']
def nest2 (U : State) : Prop := nestOk U ∧ va_AOA .int U
theorem nest2_warm {s U : State} (hW : s.WarmedH U.vm) (h : nest2 s) : nest2 U := ⟨nest_warm hW h.1, over_movedA hW.alike h.2⟩
theorem nest2_same {s U : State} (e : s.vm = U.vm) (h : nest2 s) : nest2 U := ⟨nest_same e h.1, over_movedA (by rw [e]; exact Vm.Alike.refl _) h.2⟩
def IW (X : PX) (D : va_G) (ws : va_W) (k n pc : Nat) (ls : List (Option Value)) (st : List Value) : Prop :=
  ls.length = xL X → ∀ (H : Heap) (locs : List Loc) (la : Array Slot), va_P D vwCl ws H → va_D (xA X) ws → va_S (xA X) (xs X).heap H locs → lv_has la (xL X) (lvOf 0 ls) → W X.1 X.2.1 X.2.2.1 (xR X) (xs X) (xm X) (xa X) (xb X) (xM X) (xc X) H locs k n (xQ X) (F0 (xm X) pc la st)
def Ix (X : PX) (D : va_G) (T : CI3) (own : String) (cc : ByteArray) (f lo kc ks : Nat) : Prop :=
  X.1.tables.exec = Jvm.exec ∧ (xc X).code = cc ∧ (xc X).maxLocals = xL X ∧ (xs X).vm.findClass own = some (xm X).cls ∧ (∀ w ∈ tbl0, w.before (xa X) (xs X) = true) ∧ nest2 (xs X) ∧ va_K D vwCl (ty3 T) (xs X) ∧ (∀ q : Nat, (xs X).heap.size ≤ q → xA X q) ∧ (xR X).frames = f ∧ (xR X).locals = lo ∧ (xR X).cells = kc ∧ (xR X).slots = ks
/-- a constructor's contract -/
def PI (l : Launch) (D : va_G) (T : CI3) (y : MethodName) (cc : ByteArray) (maxL f lo kc ks ci : Nat) (fs : List Value) (Po : Nat → va_W → Prop) : Prop :=
  ∀ (h0 sz : Nat), Met l y (Cond.code y cc maxL none :: tbl0) { frames := f, cells := kc, slots := ks, locals := lo } (va_Pc [.ref h0] (fun U => U.heap.size = sz ∧ va_P D vwCl [(h0, .inr (ci, fs))] U.heap ∧ va_K D vwCl (ty3 T) U ∧ nest2 U)) (va_Qv (S := va_W) (Po h0) (fun w t => va_P D vwCl w t.heap ∧ va_D (va_A [(h0, .inr (ci, fs))] sz) w) (va_A [(h0, .inr (ci, fs))] sz)) kc ks (va_A [(h0, .inr (ci, fs))] sz)
/-- its end -/
def CI (X : PX) (D : va_G) (Po : va_W → Prop) (kc ks : Nat) : Prop := xQ X = MQ (xb X) (va_Qv (S := va_W) Po (fun w t => va_P D vwCl w t.heap ∧ va_D (xA X) w) (xA X)) (xa X) (xs X) kc ks (xA X) ∧ (xM X).sig.returnType = none ∧ (xM X).locks = false ∧ (xM X).name = "<init>"
theorem PI.of {l : Launch} {D : va_G} {T : CI3} {y : MethodName} {cc : ByteArray} {maxL f lo kc ks ci : Nat} {fs : List Value} {Po : Nat → va_W → Prop} {own : String} (hy : plainName y.cls = true) (hny : y.name = "<init>") (ho : y.cls = own) (rest : List (Option Value)) (hrest : lvOf 1 rest = []) (hn : rest.length + 1 = maxL)
    (h : ∀ (X : PX) (h0 : Nat), X.2.1 = l → Ix X D T own cc f lo kc ks → CI X D (Po h0) kc ks → IW X D [(h0, .inr (ci, fs))] 0 0 0 (some (.ref h0) :: rest) []) : PI l D T y cc maxL f lo kc ks ci fs Po := by
  intro h0 sz
  subst ho
  refine Met.ofW (cc := cc) (maxL := maxL) (ret := none) hy rfl ?_
  intro p e s m args below meth c s₁ B hml hv
  obtain ⟨rfl, hsz, hP, hK, hN⟩ := hv
  subst hsz
  have hts := atoms_spec (ws := Cond.code y cc maxL none :: tbl0) B.pre
  have hA : ∀ q : Nat, s.heap.size ≤ q → va_A [(h0, (.inr (ci, fs) : va_E))] s.heap.size q := fun q h => Or.inr h
  have k := h (p, l, e, (headSpec (Cond.code y cc maxL none :: tbl0) { frames := f, cells := kc, slots := ks, locals := lo }).room, s, m, ([Value.ref h0] : List Value).toArray, below, meth, c, MQ below (va_Qv (S := va_W) (Po h0) (fun w t => va_P D vwCl w t.heap ∧ va_D (va_A [(h0, .inr (ci, fs))] s.heap.size) w) (va_A [(h0, .inr (ci, fs))] s.heap.size)) ([Value.ref h0] : List Value).toArray s kc ks (va_A [(h0, .inr (ci, fs))] s.heap.size), va_A [(h0, .inr (ci, fs))] s.heap.size, 0, 0, maxL) h0 rfl
    ⟨B.exec, B.bytes, hml, findClass_of_methodNamed B.named, fun w hw => hts w (List.mem_cons_of_mem _ hw), hN, hK, hA, rfl, rfl, rfl, rfl⟩
    ⟨rfl, B.returns, B.notSynchronized, (name_of_methodNamed B.named B.method).1.trans hny⟩
  have hla := lv_entry [Value.ref h0] (n := maxL) (by show (lg_sl [Value.ref h0]).length ≤ maxL; have : (lg_sl [Value.ref h0]).length = 1 := rfl; omega)
  rw [lg_entry_eq]
  refine k (by show rest.length + 1 = maxL; exact hn) s.heap [] _ hP ⟨fun i j p q hi hj _ => ?_, fun j q hj => va_A.in hj⟩ va_S.rf (by show lv_has _ maxL ((0, Value.ref h0) :: lvOf 1 rest); rw [hrest]; exact hla)
  have h1 := (List.getElem?_eq_some_iff.mp hi).1
  have h2 := (List.getElem?_eq_some_iff.mp hj).1
  simp at h1 h2
  omega
section IWR
variable {X : PX} {D : va_G} {T : CI3} {own : String} {cc : ByteArray} {f lo kc ks : Nat} {ws : va_W} {k n pc : Nat} {ls : List (Option Value)} {st : List Value}
theorem iw_eq {ws2 : va_W} (h : ws = ws2) (kk : IW X D ws2 k n pc ls st) : IW X D ws k n pc ls st := h ▸ kk
theorem iw_aload0 (C : Ix X D T own cc f lo kc ks) {a : Nat} {tl : List (Option Value)} (hd : decode cc pc = .ok (.aload_n 0, 1)) (kk : IW X D ws k n (pc + 1) (some (.ref a) :: tl) (.ref a :: st)) : IW X D ws k n pc (some (.ref a) :: tl) st :=
  fun hn H locs la hP hD hS hl => lv_aload_n C.1 C.2.1 hd rfl (pw_ld hl rfl) (kk hn H locs la hP hD hS hl)
theorem iw_iconst (C : Ix X D T own cc f lo kc ks) {x : Int} (hd : decode cc pc = .ok (.iconst x, 1)) (kk : IW X D ws k n (pc + 1) ls (iv x :: st)) : IW X D ws k n pc ls st :=
  fun hn H locs la hP hD hS hl => lv_iconst C.1 C.2.1 hd rfl (kk hn H locs la hP hD hS hl)
theorem iw_bipush (C : Ix X D T own cc f lo kc ks) {x : Int} (hd : decode cc pc = .ok (.bipush x, 2)) (hv : (Int8.ofInt x).toInt32 = Int32.ofInt x) (kk : IW X D ws k n (pc + 2) ls (iv x :: st)) : IW X D ws k n pc ls st :=
  fun hn H locs la hP hD hS hl => lv_bipush C.1 C.2.1 hd hv (kk hn H locs la hP hD hS hl)
theorem iw_sipush (C : Ix X D T own cc f lo kc ks) {x : Int} (hd : decode cc pc = .ok (.sipush x, 3)) (hv : (Int16.ofInt x).toInt32 = Int32.ofInt x) (kk : IW X D ws k n (pc + 3) ls (iv x :: st)) : IW X D ws k n pc ls st :=
  fun hn H locs la hP hD hS hl => lv_sipush C.1 C.2.1 hd hv (kk hn H locs la hP hD hS hl)
theorem iw_dup (C : Ix X D T own cc f lo kc ks) {v : Value} (hd : decode cc pc = .ok (.dup, 1)) (hv : v.category = 1) (kk : IW X D ws k n (pc + 1) ls (v :: v :: st)) : IW X D ws k n pc ls (v :: st) :=
  fun hn H locs la hP hD hS hl => lv_dup C.1 C.2.1 hd hv (kk hn H locs la hP hD hS hl)
theorem iw_obj (C : Ix X D T own cc f lo kc ks) {ix a : Nat} (hl1 : Cond.methodLink own ix objectInit ∈ tbl0) (hl2 : Cond.instanceMethod objectInit ∈ tbl0) (hl3 : Cond.code objectInit ⟨#[0xb1]⟩ 1 none ∈ tbl0) (hf : 1 ≤ f) (hlo : (st.map fun v => v.category).sum + 12 ≤ lo) (hd : decode cc pc = .ok (.invokespecial ix, 3)) (kk : IW X D ws k n (pc + 3) ls st) : IW X D ws k n pc ls (.ref a :: st) :=
  fun hn H locs la hP hD hS hl => by
    refine W.objInit C.1 C.2.1 C.2.2.2.1 (C.2.2.2.2.1 _ hl1) (C.2.2.2.2.1 _ hl2) (C.2.2.2.2.1 _ hl3) rfl (by rw [C.2.2.1]; exact hl.1) rfl hd (by rw [C.2.2.2.2.2.2.2.2.1]; exact hf) (by rw [C.2.2.2.2.2.2.2.2.2.1]; show 2 * 0 + _ + 12 ≤ lo; omega) ?_
    exact kk hn H locs la hP hD hS hl
theorem iw_newa (C : Ix X D T own cc f lo kc ks) {x : Int} {N : Nat} (harr : Cond.arrayClass .int ∈ tbl0) (hx : ¬ Int32.ofInt x < 0) (hN : (Int32.ofInt x).toNatClampNeg = N) (hb : N ≤ 1000) (hk : k + 1 ≤ kc) (hs : n + N ≤ ks) (hd : decode cc pc = .ok (.newarray .int, 2)) (kk : ∀ q : Nat, IW X D (ws ++ [(q, .inl (T.1, N, .inl (fun _ => 0)))]) (k + 1) (n + N) (pc + 2) ls (.ref q :: st)) : IW X D ws k n pc ls (iv x :: st) :=
  fun hn H locs la hP hD hS hl => by
    refine va_newa (atype := .int) (ty := .int) (a0 := (N, .inl (fun _ => 0))) C.1 C.2.1 (C.2.2.2.2.1 _ harr) rfl C.2.2.2.2.2.2.1 hP hD hS C.2.2.2.2.2.2.2.1 (fun cA => rfl) hx hN (by show N * 4 ≤ 536870912; omega) (by rw [C.2.2.2.2.2.2.2.2.2.2.1]; exact hk) (by rw [C.2.2.2.2.2.2.2.2.2.2.2]; exact hs) hd (fun q cA H1 hK1 hP1 hD1 hS1 => ?_)
    have h1 : (xs X).vm.findClass ("[" ++ FieldType.int.toString) = some cA := (hK1.2 3 (cA, .int) rfl).2
    have h2 : (xs X).vm.findClass ("[" ++ FieldType.int.toString) = some T.1 := (C.2.2.2.2.2.2.1.2 0 (T.1, .int) rfl).2
    have e : cA = T.1 := Option.some.inj (h1.symm.trans h2)
    subst e
    exact kk q hn H1 locs la hP1 hD1 hS1 hl
theorem iw_newz (C : Ix X D T own cc f lo kc ks) {x : Int} {N : Nat} (harr : Cond.arrayClass .boolean ∈ tbl0) (hx : ¬ Int32.ofInt x < 0) (hN : (Int32.ofInt x).toNatClampNeg = N) (hb : N ≤ 1000) (hk : k + 1 ≤ kc) (hs : n + N ≤ ks) (hd : decode cc pc = .ok (.newarray .boolean, 2)) (kk : ∀ q : Nat, IW X D (ws ++ [(q, .inl (T.2.1, N, .inl (fun _ => 0)))]) (k + 1) (n + N) (pc + 2) ls (.ref q :: st)) : IW X D ws k n pc ls (iv x :: st) :=
  fun hn H locs la hP hD hS hl => by
    refine va_newa (atype := .boolean) (ty := .boolean) (a0 := (N, .inl (fun _ => 0))) C.1 C.2.1 (C.2.2.2.2.1 _ harr) rfl C.2.2.2.2.2.2.1 hP hD hS C.2.2.2.2.2.2.2.1 (fun cA => rfl) hx hN (by show N * 1 ≤ 536870912; omega) (by rw [C.2.2.2.2.2.2.2.2.2.2.1]; exact hk) (by rw [C.2.2.2.2.2.2.2.2.2.2.2]; exact hs) hd (fun q cA H1 hK1 hP1 hD1 hS1 => ?_)
    have h1 : (xs X).vm.findClass ("[" ++ FieldType.boolean.toString) = some cA := (hK1.2 3 (cA, .boolean) rfl).2
    have h2 : (xs X).vm.findClass ("[" ++ FieldType.boolean.toString) = some T.2.1 := (C.2.2.2.2.2.2.1.2 1 (T.2.1, .boolean) rfl).2
    have e : cA = T.2.1 := Option.some.inj (h1.symm.trans h2)
    subst e
    exact kk q hn H1 locs la hP1 hD1 hS1 hl
theorem iw_mna (C : Ix X D T own cc f lo kc ks) {ix : Nat} {x : Int} {K : Nat} (harr : Cond.arrayClass .int ∈ tbl0) (hcl : Cond.classLink own ix "[[I" ∈ tbl0) (hx : ¬ Int32.ofInt x < 0) (hN : (Int32.ofInt x).toNatClampNeg = K) (hb : K ≤ 1000) (hk : k + 5 ≤ kc) (hs : n + (4 + 4 * K) ≤ ks) (hd : decode cc pc = .ok (.multianewarray ix 2, 4))
    (kk : ∀ (q : Nat) (r : Nat → Nat), IW X D (ws ++ [(q, .inl (T.2.2, 4, .inr (.inr (.inr (.inr (fun i => if i < 4 then some (r i) else none)))))), (r 0, .inl (T.1, K, .inl (fun _ => 0))), (r 1, .inl (T.1, K, .inl (fun _ => 0))), (r 2, .inl (T.1, K, .inl (fun _ => 0))), (r 3, .inl (T.1, K, .inl (fun _ => 0)))]) (k + 5) (n + (4 + 4 * K)) (pc + 4) ls (.ref q :: st)) : IW X D ws k n pc ls (iv x :: iv 4 :: st) :=
  fun hn H locs la hP hD hS hl => by
    have h2 : (xs X).vm.findClass ("[" ++ FieldType.int.toString) = some T.1 := (C.2.2.2.2.2.2.1.2 0 (T.1, .int) rfl).2
    refine va_mna (X := ws) (L := []) (f := fun _ => .inl (T.1, K, .inl (fun _ => 0))) (ty := .int) (cy := T.1) (N' := 4) (z := (K, .inl (fun _ => 0))) C.1 C.2.1 C.2.2.2.1 (C.2.2.2.2.1 _ hcl) C.2.2.2.2.2.1.2 (C.2.2.2.2.1 _ harr) h2 C.2.2.2.2.2.2.1 (by rw [show va_pl [] _ = [] from rfl, List.append_nil]; exact hP) (by rw [show va_pl [] _ = [] from rfl, List.append_nil]; exact hD) hS C.2.2.2.2.2.2.2.1 (by decide) hx (by decide) hN (by decide) (by show K * 4 ≤ 536870912; omega) (by omega) rfl rfl (by rw [C.2.2.2.2.2.2.2.2.2.2.1]; omega) (by rw [C.2.2.2.2.2.2.2.2.2.2.2]; omega) (fun c => (arrV_new c K (.int 0)).trans (vp_cell_i c K (fun _ => 0)).symm) hd (fun q r cA H1 hinj _ hK1 hP1 hD1 hS1 => ?_)
    have h3 : (xs X).vm.findClass ("[" ++ (FieldType.array .int).toString) = some cA := (hK1.2 3 (cA, .array .int) rfl).2
    have h4 : (xs X).vm.findClass ("[" ++ (FieldType.array .int).toString) = some T.2.2 := (C.2.2.2.2.2.2.1.2 2 (T.2.2, .array .int) rfl).2
    have e : cA = T.2.2 := Option.some.inj (h3.symm.trans h4)
    subst e
    have hpl : va_pl ([] ++ (List.range 4).map r) (vr_up (fun _ => (.inl (T.1, K, .inl (fun _ => 0)) : va_E)) ((List.range 4).map r) (.inl (T.1, K, .inl (fun _ => 0)))) = [(r 0, .inl (T.1, K, .inl (fun _ => 0))), (r 1, .inl (T.1, K, .inl (fun _ => 0))), (r 2, .inl (T.1, K, .inl (fun _ => 0))), (r 3, .inl (T.1, K, .inl (fun _ => 0)))] := by
      have hv : ∀ a, vr_up (fun _ => (.inl (T.1, K, .inl (fun _ => 0)) : va_E)) ((List.range 4).map r) (.inl (T.1, K, .inl (fun _ => 0))) a = .inl (T.1, K, .inl (fun _ => 0)) := fun a => by unfold vr_up; split <;> rfl
      unfold va_pl
      simp only [hv]
      rfl
    rw [hpl, List.append_assoc] at hP1 hD1
    have k2 := kk q r hn H1 locs la hP1 hD1 hS1 hl
    rw [show k + 5 = k + 1 + 4 by omega, show n + (4 + 4 * K) = n + 4 + 4 * K by omega] at k2
    exact k2
theorem iw_new (C : Ix X D T own cc f lo kc ks) {cls : String} {TT : u_T} {N ci ix : Nat} {fs : List Value} (hin : ∀ w ∈ u_ws cls TT N, w ∈ tbl0) (ty : Nat → FieldType) (hty : ∀ k, k < N → parseFieldDescriptor (TT k).2.2.1 = some (ty k)) (hcl : Cond.classLink own ix cls ∈ tbl0) (hinst : Cond.instantiable cls N ∈ tbl0) (hini : Cond.initialized cls ∈ tbl0) (hc : vwCl[ci]? = some (cls, TT, N)) (hfs : ∀ j, j < N → defaultValue (ty j) = vp_V fs j) (hk : k + 1 ≤ kc) (hs : n + N ≤ ks) (hd : decode cc pc = .ok (.new ix, 3)) (kk : ∀ q : Nat, IW X D (ws ++ [(q, .inr (ci, fs))]) (k + 1) (n + N) (pc + 3) ls (.ref q :: st)) : IW X D ws k n pc ls st :=
  fun hn H locs la hP hD hS hl => va_new C.1 C.2.1 (Ts := tbl0) C.2.2.2.2.1 hin ty hty C.2.2.2.1 (C.2.2.2.2.1 _ hcl) (C.2.2.2.2.1 _ hinst) (C.2.2.2.2.1 _ hini) C.2.2.2.2.2.2.1 hP hD hS C.2.2.2.2.2.2.2.1 hc hfs (by rw [C.2.2.2.2.2.2.2.2.2.2.1]; exact hk) (by rw [C.2.2.2.2.2.2.2.2.2.2.2]; exact hs) hd (fun q H1 hP1 hD1 hS1 => kk q hn H1 locs la hP1 hD1 hS1 hl)
theorem iw_putF (C : Ix X D T own cc f lo kc ks) {Po : va_W → Prop} {kc2 ks2 : Nat} (E : CI X D Po kc2 ks2) {cls : String} {TT : u_T} {N ci ix j a : Nat} {fs : List Value} {v : Value} {ty : FieldType} {ty0 : Nat → FieldType} (q0 : Nat) (he : ws[q0]? = some (a, .inr (ci, fs))) (hin : ∀ w ∈ u_ws cls TT N, w ∈ tbl0) (hty : ∀ k, k < N → parseFieldDescriptor (TT k).2.2.1 = some (ty0 k)) (hnm : ∀ a, a < N → ∀ b, b < N → a ≠ b → (TT a).2.1 ≠ (TT b).2.1) (hc : vwCl[ci]? = some (cls, TT, N)) (hj : j < N) (hfl : Cond.fieldLink own ix cls (TT j).2.1 (TT j).2.2.1 ∈ tbl0) (hdecl : (TT j).1 = cls) (hown : cls = own) (hfin : (TT j).2.2.2 = true) (hdt : parseFieldDescriptor (TT j).2.2.1 = some ty) (hnar : narrow ty v = v) (hfit : fits ty v = true) (hl9 : j < fs.length) (hd : decode cc pc = .ok (.putfield ix, 3)) (kk : IW X D (ws.set q0 (a, .inr (ci, fs.set j v))) k n (pc + 3) ls st) : IW X D ws k n pc ls (v :: .ref a :: st) :=
  fun hn H locs la hP hD hS hl => va_putF C.1 C.2.1 (Ts := tbl0) (v := v) (ty := ty) C.2.2.2.2.1 hin ty0 hty hnm C.2.2.2.1 C.2.2.2.2.2.2.1 hP hD hS q0 he hc j hj (C.2.2.2.2.1 _ hfl) (fun x hx => by rw [hdecl] at hx; exact hx) hfin E.2.2.2 (hdecl.trans hown) hdt hnar hfit hl9 hd (fun H1 locs1 hP1 hD1 hS1 => kk hn H1 locs1 la hP1 hD1 hS1 hl)
theorem iw_put (C : Ix X D T own cc f lo kc ks) {cls : String} {TT : u_T} {N ci ix j a : Nat} {fs : List Value} {v : Value} {ty : FieldType} {ty0 : Nat → FieldType} (q0 : Nat) (he : ws[q0]? = some (a, .inr (ci, fs))) (hin : ∀ w ∈ u_ws cls TT N, w ∈ tbl0) (hty : ∀ k, k < N → parseFieldDescriptor (TT k).2.2.1 = some (ty0 k)) (hnm : ∀ a, a < N → ∀ b, b < N → a ≠ b → (TT a).2.1 ≠ (TT b).2.1) (hc : vwCl[ci]? = some (cls, TT, N)) (hj : j < N) (hfl : Cond.fieldLink own ix cls (TT j).2.1 (TT j).2.2.1 ∈ tbl0) (hdecl : (TT j).1 = cls) (hfin : (TT j).2.2.2 = false) (hdt : parseFieldDescriptor (TT j).2.2.1 = some ty) (hnar : narrow ty v = v) (hfit : fits ty v = true) (hl9 : j < fs.length) (hd : decode cc pc = .ok (.putfield ix, 3)) (kk : IW X D (ws.set q0 (a, .inr (ci, fs.set j v))) k n (pc + 3) ls st) : IW X D ws k n pc ls (v :: .ref a :: st) :=
  fun hn H locs la hP hD hS hl => va_put C.1 C.2.1 (Ts := tbl0) (v := v) (ty := ty) C.2.2.2.2.1 hin ty0 hty hnm C.2.2.2.1 C.2.2.2.2.2.2.1 hP hD hS q0 he hc j hj (C.2.2.2.2.1 _ hfl) (fun x hx => by rw [hdecl] at hx; exact hx) hfin hdt hnar hfit hl9 hd (fun H1 locs1 hP1 hD1 hS1 => kk hn H1 locs1 la hP1 hD1 hS1 hl)
theorem iw_iast (C : Ix X D T own cc f lo kc ks) (q0 : Nat) {a N : Nat} {g : Nat → Int32} {i x : Int} (he : ws[q0]? = some (a, .inl (T.1, N, .inl g))) (hi : vp_in (Int32.ofInt i) N) (hd : decode cc pc = .ok (.iastore, 1)) (kk : IW X D (ws.set q0 (a, .inl (T.1, N, .inl (upd g (Int32.ofInt i).toNatClampNeg (Int32.ofInt x))))) k n (pc + 1) ls st) : IW X D ws k n pc ls (iv x :: iv i :: .ref a :: st) :=
  fun hn H locs la hP hD hS hl => va_iast C.1 C.2.1 C.2.2.2.2.2.2.1 hP hD hS q0 0 he rfl hi hd (fun H1 locs1 hP1 hD1 hS1 => kk hn H1 locs1 la hP1 hD1 hS1 hl)
theorem iw_get (C : Ix X D T own cc f lo kc ks) {cls : String} {TT : u_T} {N ci ix j a : Nat} {fs : List Value} {v : Value} (q0 : Nat) (he : ws[q0]? = some (a, .inr (ci, fs))) (hin : ∀ w ∈ u_ws cls TT N, w ∈ tbl0) (hc : vwCl[ci]? = some (cls, TT, N)) (hj : j < N) (hfl : Cond.fieldLink own ix cls (TT j).2.1 (TT j).2.2.1 ∈ tbl0) (hdecl : (TT j).1 = cls) (hv : fs[j]? = some v) (hd : decode cc pc = .ok (.getfield ix, 3)) (kk : IW X D ws k n (pc + 3) ls (v :: st)) : IW X D ws k n pc ls (.ref a :: st) :=
  fun hn H locs la hP hD hS hl => va_get C.1 C.2.1 (Ts := tbl0) (v := v) C.2.2.2.2.1 hin C.2.2.2.1 C.2.2.2.2.2.2.1 hP q0 he hc j hj (C.2.2.2.2.1 _ hfl) (fun x hx => by rw [hdecl] at hx; exact hx) hv hd (kk hn H locs la hP hD hS hl)
theorem iw_ret (C : Ix X D T own cc f lo kc ks) {Po : va_W → Prop} (E : CI X D Po kc ks) (hk : k ≤ kc) (hs : n ≤ ks) (hd : decode cc pc = .ok (.return_, 1)) (hw : Po ws) : IW X D ws k n pc ls [] :=
  fun hn H locs la hP hD hS hl => by
    refine W.widen (k := kc) (n := ks) hk hs ?_
    rw [E.1]
    exact W.vret C.1 C.2.1 E.2.1 (fun t ht hW => ⟨⟨ws, rfl, hw, by rw [ht]; exact hP, hD⟩, hS.F ht⟩) hS.2.2 hd E.2.2.1
end IWR
