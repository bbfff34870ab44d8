/-! THE LAW -/
def Sc (X : PX) (b L : Nat) (sc : Nat → Int32) : Prop := va_X b L sc (xs X) (xs X).heap ∧ b < (xs X).heap.size ∧ ¬ xA X b ∧ L ≤ 5120
def sv (sc : Nat → Int32) (i : Int) : Int := (sc i.toNat).toInt
theorem sv_R (sc : Nat → Int32) (i : Int) : InR (sv sc i) := toR _
section LAW
variable {X : PX} {S : SW} {M : Mem} {own : String} {cc : ByteArray} {f lo : Nat} {pc : Nat} {ls : List (Option Value)} {st : List Value}
theorem pw_aref (C : Cx X S own cc f lo) {i : Fin 4} {a : Nat} (hd : decode cc pc = .ok (.aload_n i, 1)) (hi : ls[(i : Nat)]? = some (some (.ref a))) (kk : PW X S M (pc + 1) ls (.ref a :: st)) : PW X S M pc ls st :=
  fun hn hR H locs la hP hS hl => lv_aload_n C.1 C.2.1 hd rfl (pw_ld hl hi) (kk hn hR H locs la hP hS hl)
theorem pw_sld (C : Cx X S own cc f lo) {b L : Nat} {sc : Nat → Int32} (Q : Sc X b L sc) {i : Int} (h0 : 0 ≤ i) (h1 : i < (L : Int)) (hd : decode cc pc = .ok (.iaload, 1)) (kk : PW X S M (pc + 1) ls (iv (sv sc i) :: st)) : PW X S M pc ls (iv i :: .ref b :: st) :=
  fun hn hR H locs la hP hS hl => by
    have hL := Q.2.2.2
    refine va_sld C.1 C.2.1 Q.1 Q.2.1 Q.2.2.1 hS (inI (n := L) h0 h1 (by omega)) hd ?_
    rw [clI h0 (by omega)]
    have k := kk hn hR H locs la hP hS hl
    unfold sv at k
    rw [ivT] at k
    exact k
theorem pw_slen (C : Cx X S own cc f lo) {b L : Nat} {sc : Nat → Int32} (Q : Sc X b L sc) (hd : decode cc pc = .ok (.arraylength, 1)) (kk : PW X S M (pc + 1) ls (iv (L : Int) :: st)) : PW X S M pc ls (.ref b :: st) :=
  fun hn hR H locs la hP hS hl => by
    refine va_slen C.1 C.2.1 Q.1 Q.2.1 Q.2.2.1 hS hd ?_
    exact kk hn hR H locs la hP hS hl
theorem pw_isame (C : Cx X S own cc f lo) {x off : Int} {tgt : Nat} (hd : decode cc pc = .ok (.if_icmp .eq off, 3)) (ht : (pc : Int) + off = (tgt : Int)) (kt : PW X S M tgt ls st) : PW X S M pc ls (iv x :: iv x :: st) :=
  fun hn hR H locs la hP hS hl => lv_icmp_eq C.1 C.2.1 hd ht (fun _ => kt hn hR H locs la hP hS hl) (fun h => absurd rfl h)
theorem lgc_s (a : Int64) : lg_cmp a a = Int32.ofInt 0 := by
  unfold lg_cmp
  rw [if_neg (fun h => by have h2 : a < a := h; rw [Int64.lt_iff_toInt_lt] at h2; omega), if_pos rfl]
  rfl
theorem pw_lsame (C : Cx X S own cc f lo) {x : Int} (hd : decode cc pc = .ok (.lcmp, 1)) (k : PW X S M (pc + 1) ls (iv 0 :: st)) : PW X S M pc ls (jv x :: jv x :: st) :=
  fun hn hR H locs la hP hS hl => by
    refine W.lcmp C.1 C.2.1 hd ?_
    rw [lgc_s]
    exact k hn hR H locs la hP hS hl
end LAW
theorem co_all {V W A B : DM} (f : EQ 0 0 V W) (hI : DayOk V) (q : P2 A B) (s k ln i n : Int) : xCo W A s k ln i n = xCo V B s k ln i n ∧ fCo W A s k ln i n = fCo V B s k ln i n ∧ EQ 0 0 (vCo V B s k ln i n) (vCo W A s k ln i n) := by
  have b := co_n V B s k ln i n
  have a := co_n W A s k ln i n
  rw [a.1, a.2.1, a.2.2, b.1, b.2.1, b.2.2, q.nz]
  exact ⟨e_co f _ s k ln i n, f_co f _ s k ln i n, v_co hI f _ s k ln i n⟩
