section LAST
variable {X : PX} {D : va_G} {T : CI3} {own : String} {cc : ByteArray} {f lo kc ks : Nat} {ws : va_W} {k n pc : Nat} {st : List Value}
theorem iw_astore1 (C : Ix X D T own cc f lo kc ks) {a0 w : Option Value} {tl : List (Option Value)} {a : Nat} (hd : decode cc pc = .ok (.astore_n 1, 1)) (hnl : nl a0 = true) (kk : IW X D ws k n (pc + 1) (a0 :: some (.ref a) :: tl) st) : IW X D ws k n pc (a0 :: w :: tl) (.ref a :: st) :=
  fun hn H locs la hP hD hS hl => lv_astore_n C.1 C.2.1 hd rfl hl (by have h : tl.length + 1 + 1 = xL X := hn; omega) rfl (fun la' hl' => kk hn H locs la' hP hD hS (lv_up1 (i := 1) hl' hnl))
theorem iw_astore2 (C : Ix X D T own cc f lo kc ks) {a0 a1 w : Option Value} {tl : List (Option Value)} {a : Nat} (hd : decode cc pc = .ok (.astore_n 2, 1)) (hnl : nl a1 = true) (kk : IW X D ws k n (pc + 1) (a0 :: a1 :: some (.ref a) :: tl) st) : IW X D ws k n pc (a0 :: a1 :: w :: tl) (.ref a :: st) :=
  fun hn H locs la hP hD hS hl => lv_astore_n C.1 C.2.1 hd rfl hl (by have h : tl.length + 1 + 1 + 1 = xL X := hn; omega) rfl (fun la' hl' => kk hn H locs la' hP hD hS (lv_up1 (i := 2) hl' hnl))
end LAST
theorem wsL_get {S : SW} {M : Mem} {L : List (Nat × Nat × Int)} {p : Nat × Nat × Int} (h : p ∈ L) : ∃ j : Nat, L[j]? = some p ∧ (wsL S M L)[j]? = some (S.2.1 p.1 p.2.1 p.2.2, cellOf S (shp p.1 p.2.1) (M p.1 p.2.1 p.2.2)) := by
  obtain ⟨j, hj⟩ := List.getElem?_of_mem h
  exact ⟨j, hj, by unfold wsL; rw [List.getElem?_map, hj]; rfl⟩
theorem wsL_P {D : va_G} {S : SW} {M : Mem} {L1 L2 : List (Nat × Nat × Int)} {H : Heap} (hs : ∀ p ∈ L1, p ∈ L2) (hP : va_P D vwCl (wsL S M L2) H) : va_P D vwCl (wsL S M L1) H := fun j x hx => by
  unfold wsL at hx
  rw [List.getElem?_map] at hx
  cases hp : L1[j]? with
  | none => rw [hp] at hx; cases hx
  | some p =>
    rw [hp] at hx
    cases hx
    obtain ⟨i, -, hi⟩ := wsL_get (S := S) (M := M) (hs p (List.mem_of_getElem? hp))
    exact hP i _ hi
theorem pos_all : ∀ p ∈ allPos, p ∈ pos8 ++ pos9 := by decide +kernel
theorem wsL_S {S : SW} {A : Nat → Prop} (hD : va_D A (wsL S Z0 (pos8 ++ pos9))) : SOk S ∧ ∀ q ∈ allPos, A (S.2.1 q.1 q.2.1 q.2.2) := by
  refine ⟨fun p hp q hq h => ?_, fun q hq => ?_⟩
  · obtain ⟨i, hi, hi2⟩ := wsL_get (S := S) (M := Z0) (pos_all p hp)
    obtain ⟨j, hj, hj2⟩ := wsL_get (S := S) (M := Z0) (pos_all q hq)
    have e := hD.1 i j _ _ hi2 hj2 h
    rw [e, hj] at hi
    exact (Option.some.inj hi).symm
  · obtain ⟨i, -, hi⟩ := wsL_get (S := S) (M := Z0) (pos_all q hq)
    exact hD.2 i _ hi
/-! THE CLAIM OUT OF ONE WALK OF THE LAW'S BODY. Your part is whole_start (and what it stands on); all else here is the same for every law, but numbers. -/
def R_law : String := "IceSlabLaw"
def lw_P (b : Addr) (xs : List Int32) (args : Array Value) (s : State) : Prop := args = #[.ref b] ∧ s.IntsAt b xs ∧ xs.length ≤ 5120 ∧ (Jvm.Cond.and given_1 narrow_1).before args s = true
def lw_Q (_ : Array Value) (s : State) (o : Outcome) (t : State) : Prop := o = .returned (some (.int 1)) ∧ Framed s o t [] 600000 7302250
def lw_Z (below : List Frame) (a : Array Value) (s : State) : State → Prop := fun t => ∃ o, t.status = .running ∧ Ended t below o ∧ lw_Q a s o t
/-- the law's own end, with 1 on the stack, nothing written that was there before, its room as the claim has it -/
theorem lw_ret {p : Program} {l : Launch} {e : Env} {s : State} {m : MethodId} {below : List Frame} {meth : Method} {c : Code} {b : Nat} (hx : p.tables.exec = Jvm.exec) (hb : c.code = code) (hr : meth.sig.returnType = ret) (hlocks : meth.locks = false) {pc : Nat} {H : Heap} {ls : Array Slot} (hdg : decode code pc = .ok (.ireturn, 1)) : W p l e room_1 s m #[Value.ref b] below meth c H [] 600000 7302250 (lw_Z below #[Value.ref b] s) (F0 m pc ls [.int 1]) := by
  intro T hT X
  obtain ⟨fs, hret, hrun, hended, hW, hframe⟩ := X.leave (v := some (.int 1)) (hlocks := hlocks) (fun h => by rw [hr] at h; cases h)
  have hmeth' : T.vm.method? m = some meth := X.method'
  refine ⟨T.setFrames fs, ?_, .returned (some (.int 1)), hrun, hended, rfl, ⟨_, rfl⟩, hW, hframe⟩
  jvm_step X.here [X.here.top, hx, hb, hdg, hmeth', hr, ret, narrow_b1]
  (try refine ⟨rfl, ?_⟩); (try refine ⟨rfl, ?_⟩)
  first | (intro acts; rw [hret _ acts rfl rfl rfl]) | rw [hret _ _ rfl rfl rfl]
  exact Steps.refl _
/-- what holds at the law's entry: the machine, the code, the tables' words (any of lw_tbl by 'hts w (by decide +kernel)'), the script of L ints xs at the cell b, what the Statement gives of the start (any of its parts by flat_of_before) -/
def lw_At (p : Program) (s : State) (m : MethodId) (meth : Method) (c : Code) (b L : Nat) (xs : Nat → Int32) : Prop :=
  p.tables.exec = Jvm.exec ∧ c.code = code ∧ meth.sig.returnType = ret ∧ c.maxLocals = 4 ∧ s.vm.findClass R_law = some m.cls ∧ (∀ w ∈ lw_tbl, w.before #[Value.ref b] s = true) ∧ va_X b L xs s s.heap ∧ b < s.heap.size ∧ meth.locks = false ∧ (Jvm.Cond.and given_1 narrow_1).before #[Value.ref b] s = true
set_option maxHeartbeats 4000000 in
set_option maxRecDepth 100000 in
theorem whole_start {p : Program} {e : Env} {s : State} {m : MethodId} {below : List Frame} {meth : Method} {c : Code} (l : Launch) (hflags : l.flags = flags0) {b L : Nat} {xs : Nat → Int32} (hL : L ≤ 5120) (C0 : lw_At p s m meth c b L xs) : W p l e room_1 s m #[Value.ref b] below meth c s.heap [] 0 0 (lw_Z below #[Value.ref b] s) (entryFrame m ([Value.ref b] : List Value).toArray 4) := by
  obtain ⟨hx, hb, hr, hml, hown, hts, hX, hbl, hlocks, hgv⟩ := id C0
  have hts0 : ∀ w ∈ tbl0, w.before #[Value.ref b] s = true := fun w hw => hts w (List.mem_filter.mp hw).1
  obtain ⟨c0, o0, k0⟩ := u_known (C := RX0) (T := TX0) (N := 5) (n := 5) hts0 iX0 (hts0 _ in_X0)
  obtain ⟨c1, o1, k1⟩ := u_known (C := RX1) (T := TX1) (N := 13) (n := 13) hts0 iX1 (hts0 _ in_X1)
  obtain ⟨c2, o2, k2⟩ := u_known (C := RX2) (T := TX2) (N := 2) (n := 2) hts0 iX2 (hts0 _ in_X2)
  obtain ⟨c3, o3, k3⟩ := u_known (C := RX3) (T := TX3) (N := 3) (n := 3) hts0 iX3 (hts0 _ in_X3)
  obtain ⟨c4, o4, k4⟩ := u_known (C := RX4) (T := TX4) (N := 7) (n := 7) hts0 iX4 (hts0 _ in_X4)
  obtain ⟨c5, o5, k5⟩ := u_known (C := RX5) (T := TX5) (N := 3) (n := 3) hts0 iX5 (hts0 _ in_X5)
  obtain ⟨c6, o6, k6⟩ := u_known (C := RX6) (T := TX6) (N := 9) (n := 9) hts0 iX6 (hts0 _ in_X6)
  obtain ⟨c7, o7, k7⟩ := u_known (C := RX8) (T := TX8) (N := 7) (n := 7) hts0 iX8 (hts0 _ in_X8)
  obtain ⟨c8, o8, k8⟩ := u_known (C := RX9) (T := TX9) (N := 39) (n := 39) hts0 iX9 (hts0 _ in_X9)
  obtain ⟨dC, dI, hKc⟩ : ∃ (dC : Nat → ClassId) (dI : Nat → Nat → Nat), ∀ (k : Nat) (q : vw_C), vwCl[k]? = some q → u_Kn s q.1 q.2.1 q.2.2 (dC k) (dI k) := by
    refine ⟨fun k => match k with | 0 => c0 | 1 => c1 | 2 => c2 | 3 => c3 | 4 => c4 | 5 => c5 | 6 => c6 | 7 => c7 | _ => c8, fun k => match k with | 0 => o0 | 1 => o1 | 2 => o2 | 3 => o3 | 4 => o4 | 5 => o5 | 6 => o6 | 7 => o7 | _ => o8, ?_⟩
    intro k q hq
    match k, hq with
    | 0, hq => cases hq; exact k0
    | 1, hq => cases hq; exact k1
    | 2, hq => cases hq; exact k2
    | 3, hq => cases hq; exact k3
    | 4, hq => cases hq; exact k4
    | 5, hq => cases hq; exact k5
    | 6, hq => cases hq; exact k6
    | 7, hq => cases hq; exact k7
    | 8, hq => cases hq; exact k8
    | k + 9, hq => simp [vwCl] at hq
  obtain ⟨cI, kI, pI, i1, i2, i3⟩ := Cond.arrayClass_spec (hts0 _ hArrI)
  obtain ⟨cB, kB, pB, b1, b2, b3⟩ := Cond.arrayClass_spec (hts0 _ hArrZ)
  have hov : (Cond.arrayOver (.array .int)).before #[Value.ref b] s = true := hts _ (List.mem_append_right _ (List.mem_of_getElem? (i := 34) (by decide +kernel)))
  obtain ⟨pQ, cQ, kQ, q1, q2, q3, q4, q5⟩ := arrayOverA_spec hov
  have hK : va_K (dC, dI) vwCl (ty3 (cI, cB, cQ)) s := ⟨hKc, fun k q hk => by
    match k, hk with
    | 0, hk => cases hk; exact ⟨fun n z => ⟨fun k h => (by cases h), kI, i2, pI, i3⟩, i1⟩
    | 1, hk => cases hk; exact ⟨fun n z => ⟨fun k h => (by cases h), kB, b2, pB, b3⟩, b1⟩
    | 2, hk => cases hk; exact ⟨fun n z => ⟨fun k h => (by cases h), kQ, q3, pQ, q4⟩, q5⟩
    | k + 3, hk => simp [ty3] at hk⟩
  have hN : nest2 s := ⟨fun w hw => by
    obtain ⟨a, n, y, h, rfl⟩ := nst_form hw
    exact va_Nw.of rfl (hts _ (List.mem_append_right _ (List.mem_filter.mp hw).1)), hov⟩
  have C : Ix (p, l, e, room_1, s, m, #[Value.ref b], below, meth, c, lw_Z below #[Value.ref b] s, fun q : Nat => s.heap.size ≤ q, 0, 0, 4) (dC, dI) (cI, cB, cQ) RL cL_law 11 448 600000 7302250 := ⟨hx, hb, hml, hown, hts0, hN, hK, fun q h => h, rfl, rfl, rfl, rfl⟩
  have hl := lv_entry [Value.ref b] (n := 4) (Nat.le_of_ble_eq_true rfl)
  rw [lg_entry_eq]
  generalize (lg_sl [Value.ref b] ++ List.replicate (4 - (lg_sl [Value.ref b]).length) Slot.unset).toArray = la at hl ⊢
  have hmain : IW (p, l, e, room_1, s, m, #[Value.ref b], below, meth, c, lw_Z below #[Value.ref b] s, fun q : Nat => s.heap.size ≤ q, 0, 0, 4) (dC, dI) [] 0 0 0 [some (.ref b), none, none, none] [] := by
    refine iw_new C (N := 7) (ci := 7) (fs := [.null, .null, .null, .null, .null, .int 0, .int 0]) iX8 tyX8 tyX8_ok cl_L_7 in_X8 mi_X8_init.2.1 rfl (fun j hj => by rcases (show j = 0 ∨ j = 1 ∨ j = 2 ∨ j = 3 ∨ j = 4 ∨ j = 5 ∨ j = 6 by omega) with rfl | rfl | rfl | rfl | rfl | rfl | rfl <;> rfl) (Nat.le_of_ble_eq_true rfl) (Nat.le_of_ble_eq_true rfl) dL_law_0 (fun q0 => ?_)
    refine iw_dup C dL_law_3 rfl ?_
    refine iw_init C mi_X8_init rfl mv_X8_init ml_L_9 c_X8_init (by decide) (Nat.le_of_ble_eq_true rfl) (Nat.le_of_ble_eq_true rfl) (Nat.le_of_ble_eq_true rfl) dL_law_4 ?_
    rintro w8 ⟨a8, rfl, rfl⟩
    refine iw_astore1 C dL_law_7 rfl ?_
    refine iw_new C (N := 39) (ci := 8) (fs := [.int 0, .int 0, .int 0, .null, .null, .null, .null, .null, .int 0, .int 0, .int 0, .int 0, .int 0, .int 0, .null, .int 0, .null, .null, .null, .null, .null, .int 0, .null, .null, .null, .null, .null, .null, .null, .null, .null, .null, .long 0, .long 0, .null, .null, .null, .null, .int 0]) iX9 tyX9 tyX9_ok cl_L_10 in_X9 mi_X9_init.2.1 rfl (fun j hj => by rcases (show j = 0 ∨ j = 1 ∨ j = 2 ∨ j = 3 ∨ j = 4 ∨ j = 5 ∨ j = 6 ∨ j = 7 ∨ j = 8 ∨ j = 9 ∨ j = 10 ∨ j = 11 ∨ j = 12 ∨ j = 13 ∨ j = 14 ∨ j = 15 ∨ j = 16 ∨ j = 17 ∨ j = 18 ∨ j = 19 ∨ j = 20 ∨ j = 21 ∨ j = 22 ∨ j = 23 ∨ j = 24 ∨ j = 25 ∨ j = 26 ∨ j = 27 ∨ j = 28 ∨ j = 29 ∨ j = 30 ∨ j = 31 ∨ j = 32 ∨ j = 33 ∨ j = 34 ∨ j = 35 ∨ j = 36 ∨ j = 37 ∨ j = 38 by omega) with rfl | rfl | rfl | rfl | rfl | rfl | rfl | rfl | rfl | rfl | rfl | rfl | rfl | rfl | rfl | rfl | rfl | rfl | rfl | rfl | rfl | rfl | rfl | rfl | rfl | rfl | rfl | rfl | rfl | rfl | rfl | rfl | rfl | rfl | rfl | rfl | rfl | rfl | rfl <;> rfl) (Nat.le_of_ble_eq_true rfl) (Nat.le_of_ble_eq_true rfl) dL_law_8 (fun q8 => ?_)
    refine iw_dup C dL_law_11 rfl ?_
    refine iw_init C mi_X9_init rfl mv_X9_init ml_L_12 c_X9_init (by decide) (Nat.le_of_ble_eq_true rfl) (Nat.le_of_ble_eq_true rfl) (Nat.le_of_ble_eq_true rfl) dL_law_12 ?_
    rintro w9 ⟨a9, rfl, rfl⟩
    refine iw_astore2 C dL_law_15 rfl ?_
    intro hn H locs la hP hD hS hl
    obtain ⟨S, hSe⟩ : ∃ S : SW, S = ((dC, dI), (fun d k r => if d = 3 then a9 d k r else a8 d k r), (cI, cB, cQ)) := ⟨_, rfl⟩
    have e8 : wsL ((dC, dI), a8, (cI, cB, cQ)) Z0 pos8 = wsL S Z0 pos8 := by rw [hSe]; rfl
    have e9 : wsL ((dC, dI), a9, (cI, cB, cQ)) Z0 pos9 = wsL S Z0 pos9 := by rw [hSe]; rfl
    rw [e8, e9, List.nil_append] at hP hD
    have e89 : wsL S Z0 pos8 ++ wsL S Z0 pos9 = wsL S Z0 (pos8 ++ pos9) := by unfold wsL; rw [List.map_append]
    rw [e89] at hP hD
    have hSO := wsL_S hD
    have hPw : va_P (dC, dI) vwCl (wsL S Z0 allPos) H := wsL_P pos_all hP
    have hKS : va_K (dC, dI) vwCl (tysOf S) s := by rw [hSe]; exact hK
    have hS1 : S.1 = (dC, dI) := by rw [hSe]
    have C' : Cx (p, l, e, room_1, s, m, #[Value.ref b], below, meth, c, lw_Z below #[Value.ref b] s, fun q : Nat => s.heap.size ≤ q, (0 + 1 + 63 + 1 + 25), (0 + 7 + 649 + 39 + 508), 4) S RL cL_law 11 448 := ⟨hx, hb, hml, hown, hts0, hN.1, by rw [hS1]; exact hKS, hSO.1, hSO.2, rfl, rfl, Nat.le_of_ble_eq_true rfl, Nat.le_of_ble_eq_true rfl⟩
    have Q : Sc (p, l, e, room_1, s, m, #[Value.ref b], below, meth, c, lw_Z below #[Value.ref b] s, fun q : Nat => s.heap.size ≤ q, (0 + 1 + 63 + 1 + 25), (0 + 7 + 649 + 39 + 508), 4) b L xs := ⟨hX, hbl, Nat.not_le.mpr hbl, hL⟩
    have r8 : Value.ref (a8 2 0 0) = rv S 2 0 0 := by rw [hSe]; rfl
    have r9 : Value.ref (a9 3 0 0) = rv S 3 0 0 := by rw [hSe]; rfl
    rw [r8, r9] at hl
    have main : PW (p, l, e, room_1, s, m, #[Value.ref b], below, meth, c, lw_Z below #[Value.ref b] s, fun q : Nat => s.heap.size ≤ q, (0 + 1 + 63 + 1 + 25), (0 + 7 + 649 + 39 + 508), 4) S Z0 16 [some (.ref b), some (rv S 2 0 0), some (rv S 3 0 0), none] [] := by
      refine pw_iconst C' dL_law_16 ?_
      refine pw_istore_3 C' dL_law_17 (k := ?_)
      refine law_loop C' Q (fun M i hn hR H locs la hP hS hl => ?_) (L + 1) 0 Z0 (by omega) (by omega) Z0_rel (by omega)
      refine lv_iconst (v := 1) hx hb dL_law_1618 (by decide) ?_
      refine va_forget (fun q hq => hS.2.2 q hq) ?_
      refine W.widen (k := 600000) (n := 7302250) (Nat.le_of_ble_eq_true rfl) (Nat.le_of_ble_eq_true rfl) ?_
      exact lw_ret hx hb hr hlocks dL_law_1619
    exact main rfl Z0_R H locs la (by rw [hS1]; exact hPw) hS hl
  exact hmain rfl s.heap [] la (fun k q h => by simp at h) ⟨fun i j p q h => by simp at h, fun k q h => by simp at h⟩ va_S.rf hl
set_option maxHeartbeats 4000000 in
theorem lw_walk (l : Launch) (hflags : l.flags = flags0) (b : Addr) (xs : List Int32) : MetFree l x (headSpec (Jvm.Cond.code x code maxLocals ret :: tables_1) room_1) (lw_P b xs) (fun _ _ _ _ _ => True) lw_Q := by
  refine MetFree.of_bodyS (code := code) (maxLocals := maxLocals) (ret := ret) (by decide) ?_ ?_
  · intro args s m h hn
    obtain ⟨meth, c, h1, h2, h3, h4, h5, h6, -, -⟩ := Cond.code_spec hn (atoms_spec (ws := Jvm.Cond.code x code maxLocals ret :: tables_1) h _ List.mem_cons_self)
    exact ⟨meth, c, h1, h2, h3, h4, h5, h6⟩
  · intro p e s m args below meth c s₁ B hml0 hP _
    obtain ⟨rfl, hx, hbd, hgv⟩ := hP
    obtain ⟨scr, harrAt, hlist, hof, hsmall⟩ := hx
    obtain ⟨hcb, hkn, -, -⟩ := State.arrayAt?_spec harrAt
    have hown : s.vm.findClass R_law = some m.cls := findClass_of_methodNamed B.named
    have hts0 : ∀ c ∈ (Jvm.Cond.code x code maxLocals ret :: tables_1), c.before #[Value.ref b] s = true := atoms_spec (ws := Jvm.Cond.code x code maxLocals ret :: tables_1) B.pre
    have hts : ∀ w ∈ lw_tbl, w.before #[Value.ref b] s = true := k2_hts_sels lw_privs (fun w hw => hts0 w (List.mem_cons_of_mem _ hw)) lw_privs_ok
    have hml : c.maxLocals = 4 := B.maxLocals_eq (hts0 _ List.mem_cons_self)
    have X₀ : Stand p l e room_1 s m #[Value.ref b] below meth c s₁ [] 0 0 := Stand.of_body B
    have hh0 : s₁.heap = s.heap := by rw [B.state]; rfl
    have hsz : scr.slots.size = xs.length := by rw [← Array.length_toList, hlist, List.length_map]
    have hval : ∀ j : Nat, j < xs.length → scr.slots[j]? = some (.int (xs.getD j 0)) := fun j hj => by
      rw [← Array.getElem?_toList, hlist]
      simp [hj]
    have hbl : b < s.heap.size := (Array.getElem?_eq_some_iff.mp hcb).1
    have hX : va_X b xs.length (fun j => xs.getD j 0) s s.heap := ⟨scr, hcb, hof, hkn, hsz, hval⟩
    have K : W p l e room_1 s m #[Value.ref b] below meth c s₁.heap [] 0 0 (lw_Z below #[Value.ref b] s) (entryFrame m ([Value.ref b] : List Value).toArray 4) := by
      rw [hh0]
      exact whole_start l hflags hbd ⟨B.exec, B.bytes, B.returns, hml, hown, hts, hX, hbl, B.notSynchronized, hgv⟩
    obtain ⟨t, a1, o, b1, b2, b3⟩ := K s₁ rfl X₀
    exact ⟨t, o, a1, b1, b2, b3⟩
theorem lw_pre_spec {args : Array Value} {s : State} (h : (Jvm.Cond.and given_1 narrow_1).before args s = true) (hr : rest_1_c.before args s = true) : ∃ (b : Addr) (xs : List Int32), lw_P b xs args s := by
  have hs := flat_of_before _ h
  have hq := flat_of_before _ hr
  have hc : (Cond.count 1).before args s = true := hs _ (by decide +kernel)
  have harr : (Cond.arrayOf (.arg 0) .int).before args s = true := hs _ (by decide +kernel)
  have hle : (Cond.le (.length (.arg 0)) (.int 5120)).before args s = true := hs _ (by decide +kernel)
  have hlen : (Cond.isInt (.length (.arg 0))).before args s = true := hq _ (by decide +kernel)
  have hall : (Cond.all (.arg 0) (.isInt (.elem (.arg 0) (.index 0)))).before args s = true := hq _ (by decide +kernel)
  obtain ⟨b, xs, hb, hx⟩ := State.ints_of_pre rfl harr hlen hall
  have hsm : xs.length < 2 ^ 31 := hx.choose_spec.2.2.2
  have hev : (Term.length (.arg 0)).eval args s none [] s = some (.int xs.length.toInt32) := hx.length_eval hb
  have hv := Cond.le_ints hev (show (Term.int 5120).eval args s none [] s = some (.int 5120) from rfl)
  have hd : xs.length.toInt32 ≤ 5120 := by
    simpa [Cond.before, Cond.holds, hv] using hle
  have hN : xs.length ≤ 5120 := (Int32.ofNat_le_ofNat hsm (by decide)).mp (show Int32.ofNat xs.length ≤ Int32.ofNat 5120 from hd)
  exact ⟨b, xs, Cond.one_arg hc (show args[0]? = some (.ref b) from hb), hx, hN, h⟩
theorem lw_comes (l : Launch) (hflags : l.flags = flags0) : Comes l x (Jvm.Cond.code x code maxLocals ret :: tables_1) room_1 (fun tb e args s => Calls_1 tb e args s ∧ rest_1 tb e args s ∧ Pre_1 tb e args s)
    (fun _ _ args s o t => lw_Q args s o t) := by
  intro p e ha hc hk s m args below hf hfit hheap happ hpre
  obtain ⟨b, xs, hP⟩ := lw_pre_spec hpre.2.2 hpre.2.1
  obtain ⟨k, o, h1, h2, h3, hQ⟩ := lw_walk l hflags b xs p e ha hc hk s m args below hf ((Spec.applies_iff_loose hf).mp happ).1 hP trivial
  exact ⟨k, o, h1, h2, h3, hQ⟩
theorem lw_frame {s t : State} {o : Outcome} {args : Array Value} (h : Framed s o t [] 600000 7302250) :
    Framed s o t (fieldLocs frame_1_writes args s ++ arrayLocs frame_1_arrays args s ++ staticLocs frame_1_statics s) 600000 7302250 := h
theorem lw_limb (L : Cond) (hL : ∀ (args : Array Value) (s t : State), L.after args s (.returned (some (.int 1))) t = true) :
    ArmFor flags0 classFile x code maxLocals ret World_1 tables_1 room_1 Calls_1 rest_1 Pre_1
      (fun tb e a s o t => postC L tb e a s o t ∧ Framed s o t (fieldLocs frame_1_writes a s ++ arrayLocs frame_1_arrays a s ++ staticLocs frame_1_statics s) 600000 7302250) := by
  intro l hflags _ _ p e ha hc hk s m args below hf hfit hheap happ hpre
  obtain ⟨k, o, h1, h2, h3, rfl, hF⟩ := lw_comes l hflags p e ha hc hk s m args below hf hfit hheap happ hpre
  exact ⟨k, _, h1, h2, h3, hL args s _, lw_frame hF⟩
theorem i_vc : Claimed_1_1 ∧ Claimed_1_2 := ⟨lw_limb limb_1_1 (fun args s t => by simp [limb_1_1, Cond.after, Cond.holds, Cond.value]), lw_limb limb_1_2 (fun args s t => Cond.after_iff.mpr (by
  first | (rw [show limb_1_2 = Cond.eq .result (.int 1) from rfl, Cond.eq_ints (x := 1) (y := 1) rfl rfl]; simp; done) | (simp [limb_1_2, Cond.value, Term.eval]; done)))⟩
