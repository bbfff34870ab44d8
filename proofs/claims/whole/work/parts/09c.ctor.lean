section IWC
variable {X : PX} {D : va_G} {T : CI3} {own : String} {cc : ByteArray} {f lo kc ks : Nat} {ws : va_W} {k n pc : Nat} {ls : List (Option Value)} {st : List Value}
theorem iw_blind {h0 sz ci : Nat} {fs : List Value} {as : List Value} : FrameBlind (va_Pc as (fun U => U.heap.size = sz ∧ va_P D vwCl [(h0, .inr (ci, fs))] U.heap ∧ va_K D vwCl (ty3 T) U ∧ nest2 U)) := fun a U g mk q => ⟨q.1, q.2.1, q.2.2.1, va_K.moved (u := U) (U := U.calling g mk a) (Vm.Alike.refl U.vm) q.2.2.2.1, nest2_same (s := U) (U := U.calling g mk a) rfl q.2.2.2.2⟩
theorem iw_back (C : Ix X D T own cc f lo kc ks) {q ci mc msl : Nat} {fs : List Value} {st0 : List Value} {a : Array Value} {Po : va_W → Prop}
    (hr : ∀ (H : Heap) (locs : List Loc) (la : Array Slot), va_P D vwCl [(q, .inr (ci, fs))] H → lv_has la (xL X) (lvOf 0 ls) → va_Run X.1 X.2.1 X.2.2.1 (xR X) (xs X) (xm X) (xa X) (xb X) (xM X) (xc X) H locs k n mc msl (F0 (xm X) pc la st0) st (va_Qv (S := va_W) Po (fun w t => va_P D vwCl w t.heap ∧ va_D (va_A [(q, .inr (ci, fs))] H.size) w) (va_A [(q, .inr (ci, fs))] H.size) a) (va_A [(q, .inr (ci, fs))] H.size))
    (kk : ∀ w, Po w → IW X D (ws ++ w) (k + mc) (n + msl) (pc + 3) ls st) : IW X D (ws ++ [(q, .inr (ci, fs))]) k n pc ls st0 := by
  intro hn H locs la hP hD hS hl
  have hlast : (ws ++ [(q, (.inr (ci, fs) : va_E))])[ws.length]? = some (q, .inr (ci, fs)) := by simp
  have hPc : va_P D vwCl [(q, .inr (ci, fs))] H := fun j x hx => by
    have h1 := (List.getElem?_eq_some_iff.mp hx).1
    simp at h1
    subst h1
    cases hx
    exact hP ws.length _ hlast
  have hF : ∀ x, va_A [(q, (.inr (ci, fs) : va_E))] H.size x → xA X x := fun x hx => by
    rcases hx with ⟨j, e, h⟩ | h
    · have h1 := (List.getElem?_eq_some_iff.mp h).1
      simp at h1
      subst h1
      cases h
      exact hD.2 ws.length _ hlast
    · exact C.2.2.2.2.2.2.2.1 x (Nat.le_trans hS.1 h)
  refine va_callv (hr H locs la hPc hl) hS (fun x _ h => hF x h) hF (fun w t H1 locs1 ht hvm hw hB hz hk1 hS1 => ?_)
  obtain ⟨hP1, hD1⟩ := hB
  rw [ht] at hP1
  have hleft : ∀ (j : Nat) (x : Nat × va_E), ws[j]? = some x → (ws ++ [(q, (.inr (ci, fs) : va_E))])[j]? = some x := fun j x hx => by
    rw [List.getElem?_append_left (List.getElem?_eq_some_iff.mp hx).1]
    exact hx
  have hne : ∀ (j : Nat) (x : Nat × va_E), ws[j]? = some x → x.1 ≠ q := fun j x hx h => by
    have h1 := hD.1 j ws.length x _ (hleft j x hx) hlast h
    have h2 := (List.getElem?_eq_some_iff.mp hx).1
    omega
  have hlt : ∀ (j : Nat) (x : Nat × va_E), ws[j]? = some x → x.1 < H.size := fun j x hx => (hP j x (hleft j x hx)).lt
  have hno : ∀ (j : Nat) (x : Nat × va_E), ws[j]? = some x → ¬ va_A [(q, (.inr (ci, fs) : va_E))] H.size x.1 := fun j x hx h => by
    rcases h with ⟨i, e, h⟩ | h
    · have h1 := (List.getElem?_eq_some_iff.mp h).1
      simp at h1
      subst h1
      cases h
      exact hne j x hx rfl
    · have := hlt j x hx
      omega
  have hP0 : va_P D vwCl ws H := fun j x hx => hP j x (hleft j x hx)
  refine kk w hw hn H1 locs1 la ((hP0.kept (fun j x hx => hk1 x.1 (hlt j x hx) (hno j x hx))).app hP1) ⟨fun i j x y hi hj hxy => ?_, fun j x hx => ?_⟩ hS1 hl
  · by_cases h1 : i < ws.length <;> by_cases h2 : j < ws.length
    · rw [List.getElem?_append_left h1] at hi
      rw [List.getElem?_append_left h2] at hj
      exact hD.1 i j x y (hleft i x hi) (hleft j y hj) hxy
    · rw [List.getElem?_append_left h1] at hi
      rw [List.getElem?_append_right (by omega)] at hj
      exact absurd (by rw [hxy]; exact hD1.2 _ _ hj) (hno i x hi)
    · rw [List.getElem?_append_right (by omega)] at hi
      rw [List.getElem?_append_left h2] at hj
      exact absurd (by rw [← hxy]; exact hD1.2 _ _ hi) (hno j y hj)
    · rw [List.getElem?_append_right (by omega)] at hi hj
      have := hD1.1 _ _ x y hi hj hxy
      omega
  · by_cases h1 : j < ws.length
    · rw [List.getElem?_append_left h1] at hx
      exact hD.2 j x (hleft j x hx)
    · rw [List.getElem?_append_right (by omega)] at hx
      exact hF _ (hD1.2 _ x hx)
theorem iw_initN (C : Ix X D T own cc f lo kc ks) {y : MethodName} {cc' : ByteArray} {maxL' ix f' lo' mc msl ci q : Nat} {host : String} {fs : List Value} {Po : Nat → va_W → Prop} (hm : MI y cc' maxL' none 0) (hny : y.name = "<init>") (hin : Cond.instanceMethod y ∈ tbl0) (hl9 : Cond.methodLinkNest own ix y host ∈ nst) (hM : PI X.2.1 D T y cc' maxL' f' lo' mc msl ci fs Po) (hroom : f' + 1 ≤ f ∧ 8 + (maxL' + 11) + lo' ≤ lo) (hst : (st.map fun v => v.category).sum ≤ 8) (hk : k + mc ≤ kc) (hs : n + msl ≤ ks) (hd : decode cc pc = .ok (.invokespecial ix, 3)) (kk : ∀ w, Po q w → IW X D (ws ++ w) (k + mc) (n + msl) (pc + 3) ls st) : IW X D (ws ++ [(q, .inr (ci, fs))]) k n pc ls (.ref q :: st) := by
  refine iw_back C (Po := Po q) (a := [Value.ref q].toArray) (fun H locs la hPc hla => ?_) kk
  have hb : va_CN (xR X) (xs X) (xa X) own ix y host cc' maxL' none (Cond.code y cc' maxL' none :: tbl0) { frames := f', cells := mc, slots := msl, locals := lo' } mc msl 0 := va_cnB 0 C.2.2.2.2.1 (good0 hm.1) rfl rfl rfl (C.2.2.2.2.2.1.1 _ hl9) (C.2.2.2.2.1 _ hm.2.1) hm.2.2 (by rw [C.2.2.2.2.2.2.2.2.1, C.2.2.2.2.2.2.2.2.2.1]; exact hroom)
  exact va_runIN (As := []) (rest := st) (g := F0 (xm X) pc la (.ref q :: st)) ⟨C.1, C.2.1, C.2.2.1, C.2.2.2.1, C.2.2.2.2.1⟩ (hM q H.size) ⟨hb, hny, C.2.2.2.2.1 _ hin⟩ ⟨iw_blind, fun U hU hW => ⟨rfl, by rw [hU], by rw [hU]; exact hPc, va_K.moved hW.alike C.2.2.2.2.2.2.1, nest2_warm hW C.2.2.2.2.2.1⟩⟩ rfl rfl hla.1 rfl (lv_room hst) hd ⟨by rw [C.2.2.2.2.2.2.2.2.2.2.1]; exact hk, by rw [C.2.2.2.2.2.2.2.2.2.2.2]; exact hs⟩
theorem iw_init (C : Ix X D T own cc f lo kc ks) {y : MethodName} {cc' : ByteArray} {maxL' ix f' lo' mc msl ci q : Nat} {fs : List Value} {Po : Nat → va_W → Prop} (hm : MI y cc' maxL' none 0) (hny : y.name = "<init>") (hin : Cond.instanceMethod y ∈ tbl0) (hl9 : Cond.methodLink own ix y ∈ tbl0) (hM : PI X.2.1 D T y cc' maxL' f' lo' mc msl ci fs Po) (hroom : f' + 1 ≤ f ∧ 8 + (maxL' + 11) + lo' ≤ lo) (hst : (st.map fun v => v.category).sum ≤ 8) (hk : k + mc ≤ kc) (hs : n + msl ≤ ks) (hd : decode cc pc = .ok (.invokespecial ix, 3)) (kk : ∀ w, Po q w → IW X D (ws ++ w) (k + mc) (n + msl) (pc + 3) ls st) : IW X D (ws ++ [(q, .inr (ci, fs))]) k n pc ls (.ref q :: st) := by
  refine iw_back C (Po := Po q) (a := [Value.ref q].toArray) (fun H locs la hPc hla => ?_) kk
  have hb := cwI (R := xR X) (s := xs X) (args := xa X) (own := own) (index := ix) (y := y) (bytes := cc') (maxL := maxL') (ws := Cond.code y cc' maxL' none :: tbl0) (rm := { frames := f', cells := mc, slots := msl, locals := lo' }) (mc := mc) (ms := msl) 0 C.2.2.2.2.1 (good0 hm.1) rfl rfl rfl (C.2.2.2.2.1 _ hm.2.1) (C.2.2.2.2.1 _ hl9) (C.2.2.2.2.1 _ hin) hny hm.2.2 (by rw [C.2.2.2.2.2.2.2.2.1, C.2.2.2.2.2.2.2.2.2.1]; exact hroom)
  exact va_runI (As := []) (rest := st) (g := F0 (xm X) pc la (.ref q :: st)) ⟨C.1, C.2.1, C.2.2.1, C.2.2.2.1, C.2.2.2.2.1⟩ (hM q H.size) hb ⟨iw_blind, fun U hU hW => ⟨rfl, by rw [hU], by rw [hU]; exact hPc, va_K.moved hW.alike C.2.2.2.2.2.2.1, nest2_warm hW C.2.2.2.2.2.1⟩⟩ rfl rfl hla.1 rfl (lv_room hst) hd ⟨by rw [C.2.2.2.2.2.2.2.2.2.2.1]; exact hk, by rw [C.2.2.2.2.2.2.2.2.2.2.2]; exact hs⟩
theorem iw_iload1 (C : Ix X D T own cc f lo kc ks) {a0 : Option Value} {x : Int} (hd : decode cc pc = .ok (.iload_n 1, 1)) (kk : IW X D ws k n (pc + 1) [a0, some (iv x)] (iv x :: st)) : IW X D ws k n pc [a0, some (iv x)] st :=
  fun hn H locs la hP hD hS hl => lv_iload_n C.1 C.2.1 hd rfl (pw_ld hl rfl) (kk hn H locs la hP hD hS hl)
theorem iw_istore1 (C : Ix X D T own cc f lo kc ks) {a0 w : Option Value} {x : Int} (hd : decode cc pc = .ok (.istore_n 1, 1)) (hnl : nl a0 = true) (kk : IW X D ws k n (pc + 1) [a0, some (iv x)] st) : IW X D ws k n pc [a0, w] (iv x :: st) :=
  fun hn H locs la hP hD hS hl => lv_istore_n C.1 C.2.1 hd rfl hl (by have : 2 = xL X := hn; omega) rfl (fun la' hl' => kk hn H locs la' hP hD hS (lv_up1 hl' hnl))
theorem iw_iinc1 (C : Ix X D T own cc f lo kc ks) {a0 : Option Value} {x y : Int} {z : Int} (hd : decode cc pc = .ok (.iinc 1 z, 3)) (hz : x + z = y) (hnl : nl a0 = true) (kk : IW X D ws k n (pc + 3) [a0, some (iv y)] st) : IW X D ws k n pc [a0, some (iv x)] st :=
  fun hn H locs la hP hD hS hl => by
    obtain ⟨j, hj⟩ := List.getElem?_of_mem ((lvOf_mem [a0, some (iv x)] 0 (1, iv x)).mpr ⟨1, by simp, rfl⟩)
    exact lv_iinc C.1 C.2.1 hd hl hj (v := Int32.ofInt y) (by rw [← hz, ← Int32.ofInt_add]) (by have : 2 = xL X := hn; omega) rfl (fun la' hl' => kk hn H locs la' hP hD hS (lv_up1 hl' hnl))
theorem iw_goto (C : Ix X D T own cc f lo kc ks) {off : Int} {tgt : Nat} (hd : decode cc pc = .ok (.goto off, 3)) (ht : (pc : Int) + off = (tgt : Int)) (kk : IW X D ws k n tgt ls st) : IW X D ws k n pc ls st :=
  fun hn H locs la hP hD hS hl => lv_goto C.1 C.2.1 hd ht (kk hn H locs la hP hD hS hl)
theorem iw_icmp_ge (C : Ix X D T own cc f lo kc ks) {x y off : Int} {tgt : Nat} (hd : decode cc pc = .ok (.if_icmp .ge off, 3)) (ht : (pc : Int) + off = (tgt : Int)) (hx : InR x) (hy : InR y) (kt : y ≤ x → IW X D ws k n tgt ls st) (kf : x < y → IW X D ws k n (pc + 3) ls st) : IW X D ws k n pc ls (iv y :: iv x :: st) :=
  fun hn H locs la hP hD hS hl => lv_icmp_ge C.1 C.2.1 hd ht (fun h => kt ((leI hy hx).mp h) hn H locs la hP hD hS hl) (fun h => kf (by have h2 := mt (leI hy hx).mpr h; omega) hn H locs la hP hD hS hl)
theorem upd4 : (upd (upd (upd (upd (fun _ => (0 : Int32)) (Int32.ofInt 0).toNatClampNeg (Int32.ofInt (-1))) (Int32.ofInt 1).toNatClampNeg (Int32.ofInt (-1))) (Int32.ofInt 2).toNatClampNeg (Int32.ofInt (-1))) (Int32.ofInt 3).toNatClampNeg (Int32.ofInt (-1))) = fun i : Nat => Int32.ofInt (if 0 ≤ (i : Int) ∧ (i : Int) < 4 then -1 else 0) := by
  funext i
  rw [show (Int32.ofInt 0).toNatClampNeg = 0 by decide, show (Int32.ofInt 1).toNatClampNeg = 1 by decide, show (Int32.ofInt 2).toNatClampNeg = 2 by decide, show (Int32.ofInt 3).toNatClampNeg = 3 by decide]
  by_cases h : i < 4
  · have hi : i = 0 ∨ i = 1 ∨ i = 2 ∨ i = 3 := by omega
    rcases hi with rfl | rfl | rfl | rfl <;> rfl
  · rw [if_neg (by omega)]
    unfold upd
    rw [if_neg (by omega), if_neg (by omega), if_neg (by omega), if_neg (by omega)]
    rfl
end IWC
