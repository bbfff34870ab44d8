/-! THE DAY, as a function of a day's memory -/
def sumN (f : Int → Int) : Nat → Int
  | 0 => 0
  | n + 1 => sumN f n + f n
def sumI (f : Int → Int) (i : Int) : Int := sumN f i.toNat
theorem sumI_0 (f : Int → Int) : sumI f 0 = 0 := rfl
theorem sumI_s (f : Int → Int) {i : Int} (h : 0 ≤ i) : sumI f (i + 1) = sumI f i + f i := by
  unfold sumI
  rw [show (i + 1).toNat = i.toNat + 1 by omega]
  show sumN f i.toNat + f (i.toNat : Int) = _
  rw [show (i.toNat : Int) = i by omega]
theorem sumN_c {f g : Int → Int} : ∀ (n : Nat), (∀ j : Nat, j < n → f j = g j) → sumN f n = sumN g n
  | 0, _ => rfl
  | n + 1, h => by rw [sumN, sumN, sumN_c n (fun j hj => h j (by omega)), h n (by omega)]
theorem sumI_c {f g : Int → Int} {i : Int} (h : ∀ j, 0 ≤ j → j < i → f j = g j) : sumI f i = sumI g i := sumN_c _ (fun j hj => h j (by omega) (by omega))
def iterN {α : Type} (g : Int → α → α) (a : α) : Nat → α
  | 0 => a
  | n + 1 => g n (iterN g a n)
def iterI {α : Type} (g : Int → α → α) (a : α) (i : Int) : α := iterN g a i.toNat
theorem iterI_0 {α : Type} (g : Int → α → α) (a : α) : iterI g a 0 = a := rfl
theorem iterI_s {α : Type} (g : Int → α → α) (a : α) {i : Int} (h : 0 ≤ i) : iterI g a (i + 1) = g i (iterI g a i) := by
  unfold iterI
  rw [show (i + 1).toNat = i.toNat + 1 by omega]
  show g (i.toNat : Int) _ = _
  rw [show (i.toNat : Int) = i by omega]
theorem iterN_rel {α β : Type} {R : α → β → Prop} {g : Int → α → α} {h : Int → β → β} {a : α} {b : β} (h0 : R a b) : ∀ (n : Nat), (∀ (j : Nat) (x : α) (y : β), j < n → R x y → R (g j x) (h j y)) → R (iterN g a n) (iterN h b n)
  | 0, _ => h0
  | n + 1, hs => hs n _ _ (by omega) (iterN_rel h0 n (fun j x y hj => hs j x y (by omega)))
theorem iterI_rel {α β : Type} {R : α → β → Prop} {g : Int → α → α} {h : Int → β → β} {a : α} {b : β} {i : Int} (h0 : R a b) (hs : ∀ (j : Int) (x : α) (y : β), 0 ≤ j → j < i → R x y → R (g j x) (h j y)) : R (iterI g a i) (iterI h b i) :=
  iterN_rel h0 _ (fun j x y hj => hs j x y (by omega) (by omega))
theorem iterI_inv {α : Type} {R : α → Prop} {g : Int → α → α} {a : α} {i : Int} (h0 : R a) (hs : ∀ (j : Int) (x : α), 0 ≤ j → j < i → R x → R (g j x)) : R (iterI g a i) :=
  iterI_rel (R := fun x (_ : Unit) => R x) (h := fun _ y => y) (b := ()) h0 (fun j x _ h1 h2 h3 => hs j x h1 h2 h3)
/-- some sort lies there that is dearer on the slate in that hour -/
def dearer (V : DM) (s t : Int) : Prop := ∃ r, 0 ≤ r ∧ r < V 1 0 6 ∧ 0 < V 13 0 r ∧ V 7 s t < V 7 r t
noncomputable def worth (V : DM) (x s t : Int) : Int := V 11 0 x - (9 - freshAt V s t) - 2 * b01 (s ≠ V 10 0 x) + b01 (V 1 0 8 ≠ 0 ∧ dearer V s t)
noncomputable def gain (V : DM) (x s t : Int) : Int := if 0 < V 13 0 s then worth V x s t - V 7 s t else -1
def cheaper (V : DM) (s t : Int) : Prop := t + 1 < V 1 0 5 ∧ V 7 s (t + 1) < V 7 s t
noncomputable def pick (V : DM) (x t : Int) (n : Int) : Int × Int := iterI (fun s p => if p.2 < gain V x s t then (s, gain V x s t) else p) (-9, -1) n
noncomputable def choice (V : DM) (x t : Int) : Int :=
  @ite Int (V 9 0 x = 2 ∧ cheaper V (V 10 0 x) t) (Classical.propDecidable _) (-9) (if 0 ≤ gain V x (V 10 0 x) t then V 10 0 x else if V 9 0 x = 0 then -9 else (pick V x t (V 1 0 6)).1)
def comesP (V : DM) (x t : Int) : Prop := (V 9 0 x = 2 ∧ V 12 0 x ≤ t ∧ V 16 0 x = -9) ∨ (V 9 0 x ≠ 2 ∧ V 12 0 x = t)
def gone1 (V : DM) (s t : Int) : DM := if V 13 0 s = 0 then vup V 14 0 s t else V
def sell0 (V : DM) (s t p : Int) : DM :=
  let V2 := gone1 (vup V 13 0 s (w32 (V 13 0 s - 1))) s t
  let V3 := vup V2 15 0 s (w32 (V2 15 0 s + p))
  vup V3 0 0 9 (w32 (V3 0 0 9 + p))
def sell1 (V : DM) (x s t : Int) : DM := vup (vup (vup (sell0 V s t (V 7 s t)) 16 0 x s) 17 0 x t) 18 0 x (V 7 s t)
noncomputable def visit (V : DM) (x t : Int) : DM :=
  @ite DM (comesP V x t) (Classical.propDecidable _)
    (let V1 := vup V 19 0 x (w32 (V 19 0 x + 1))
     if choice V1 x t = -9 then V1 else sell1 V1 x (choice V1 x t) t) V
def cookAt (V : DM) (t : Int) : DM := if t = V 0 0 11 then vup (vup V 0 0 9 (w32 (V 0 0 9 + V 13 0 (V 0 0 10) * V 0 0 12))) 13 0 (V 0 0 10) 0 else V
def cookV (V : DM) (s t c : Int) : DM := vup (vup (vup V 0 0 10 s) 0 0 11 t) 0 0 12 c
noncomputable def hourV (V : DM) (t : Int) : DM := iterI (fun x W => visit W x t) (cookAt V t) (V 8 0 4)
def openS (s : Int) (V : DM) : DM := vup (vup (vup V 13 0 s (V 2 0 s)) 14 0 s (-9)) 15 0 s 0
def openB (x : Int) (V : DM) : DM := vup (vup (vup (vup V 16 0 x (-9)) 17 0 x (-9)) 18 0 x (-9)) 19 0 x 0
def openV (V : DM) : DM := iterI openB (iterI openS (vup V 0 0 9 0) (V 1 0 6)) (V 8 0 4)
noncomputable def gt (V : DM) : DM := iterI (fun t W => hourV W t) (openV V) (V 1 0 5)
def profitV (V : DM) : Int := V 0 0 9 + V 1 0 7 * sumI (fun s => V 13 0 s) (V 1 0 6) - sumI (fun s => V 2 0 s * V 3 0 s) (V 1 0 6)
/-- what a day's memory holds -/
def DayOk (V : DM) : Prop :=
  (0 ≤ V 1 0 6 ∧ V 1 0 6 ≤ 4) ∧ (0 ≤ V 1 0 5 ∧ V 1 0 5 ≤ 8) ∧ (0 ≤ V 8 0 4 ∧ V 8 0 4 ≤ 10) ∧
  (∀ x, 0 ≤ x → x < V 8 0 4 → (0 ≤ V 9 0 x ∧ V 9 0 x ≤ 2) ∧ (0 ≤ V 10 0 x ∧ V 10 0 x < V 1 0 6) ∧ (0 ≤ V 11 0 x ∧ V 11 0 x ≤ 40) ∧ (0 ≤ V 12 0 x ∧ V 12 0 x < V 1 0 5)) ∧
  (∀ s, 0 ≤ s → s < V 1 0 6 → (0 ≤ V 2 0 s ∧ V 2 0 s ≤ 9) ∧ (0 ≤ V 3 0 s ∧ V 3 0 s ≤ 9) ∧ (0 ≤ V 4 0 s ∧ V 4 0 s ≤ 9) ∧ (0 ≤ V 5 0 s ∧ V 5 0 s ≤ 3)) ∧
  (∀ s t, 0 ≤ s → s < V 1 0 6 → 0 ≤ t → t < V 1 0 5 → 0 ≤ V 7 s t ∧ V 7 s t ≤ 30) ∧ (0 ≤ V 1 0 7 ∧ V 1 0 7 ≤ 9) ∧ (V 1 0 8 = 0 ∨ V 1 0 8 = 1)
/-- what a day going through leaves as it was -/
def Fr (V W : DM) : Prop := ∀ (k : Nat) (r i : Int), k ≤ 12 → (k = 0 → i ≠ 9) → W k r i = V k r i
theorem Fr.rf (V : DM) : Fr V V := fun _ _ _ _ _ => rfl
theorem Fr.tr {U V W : DM} (h1 : Fr U V) (h2 : Fr V W) : Fr U W := fun k r i a b => (h2 k r i a b).trans (h1 k r i a b)
theorem Fr.up {V W : DM} (h : Fr V W) {k : Nat} {r i v : Int} (hk : 12 < k ∨ (k = 0 ∧ r = 0 ∧ i = 9)) : Fr V (vup W k r i v) := by
  intro k' r' i' a b
  rw [← h k' r' i' a b]
  rcases hk with hk | ⟨rfl, rfl, rfl⟩
  · rw [vup_k _ _ _ _ (by omega)]
  · by_cases hk' : k' = 0
    · subst hk'
      by_cases hr : r' = 0
      · subst hr; rw [vup_j _ _ _ _ (b rfl)]
      · rw [vup_r _ _ _ _ hr]
    · rw [vup_k _ _ _ _ hk']
theorem DayOk.fr {V W : DM} (h : DayOk V) (f : Fr V W) : DayOk W := by
  have e1 : ∀ i, W 1 0 i = V 1 0 i := fun i => f 1 0 i (by omega) (by omega)
  have e : ∀ (k : Nat) (r i : Int), 1 ≤ k → k ≤ 12 → W k r i = V k r i := fun k r i a b => f k r i b (by omega)
  unfold DayOk at *
  simp only [e1, e 8 _ _ (by omega) (by omega), e 9 _ _ (by omega) (by omega), e 10 _ _ (by omega) (by omega), e 11 _ _ (by omega) (by omega), e 12 _ _ (by omega) (by omega), e 2 _ _ (by omega) (by omega), e 3 _ _ (by omega) (by omega), e 4 _ _ (by omega) (by omega), e 5 _ _ (by omega) (by omega), e 7 _ _ (by omega) (by omega)]
  exact h
theorem Fr.gone1F {V W : DM} (h : Fr V W) (s t : Int) : Fr V (gone1 W s t) := by
  unfold gone1
  split
  · exact h.up (by omega)
  · exact h
theorem Fr.sell0F {V W : DM} (h : Fr V W) (s t p : Int) : Fr V (sell0 W s t p) := by
  unfold sell0
  exact ((((h.up (by omega)).gone1F s t).up (by omega)).up (by omega))
theorem Fr.sell1F {V W : DM} (h : Fr V W) (x s t : Int) : Fr V (sell1 W x s t) := by
  unfold sell1
  exact (((h.sell0F s t _).up (by omega)).up (by omega)).up (by omega)
theorem Fr.visitF {V W : DM} (h : Fr V W) (x t : Int) : Fr V (visit W x t) := by
  unfold visit
  split
  · show Fr V (if _ then _ else _)
    split
    · exact h.up (by omega)
    · exact (h.up (by omega)).sell1F _ _ _
  · exact h
theorem Fr.cookAtF {V W : DM} (h : Fr V W) (t : Int) : Fr V (cookAt W t) := by
  unfold cookAt
  split
  · exact (h.up (by omega)).up (by omega)
  · exact h
theorem Fr.hourVF {V W : DM} (h : Fr V W) (t : Int) : Fr V (hourV W t) := iterI_inv (R := fun U => Fr V U) (h.cookAtF t) (fun j U _ _ hU => hU.visitF j t)
theorem Fr.openVF {V W : DM} (h : Fr V W) : Fr V (openV W) := by
  unfold openV
  refine iterI_inv (R := fun U => Fr V U) (iterI_inv (R := fun U => Fr V U) (h.up (by omega)) (fun j U _ _ hU => ?_)) (fun j U _ _ hU => ?_)
  · exact ((hU.up (by omega)).up (by omega)).up (by omega)
  · exact (((hU.up (by omega)).up (by omega)).up (by omega)).up (by omega)
theorem Fr.gtF {V W : DM} (h : Fr V W) : Fr V (gt W) := iterI_inv (R := fun U => Fr V U) h.openVF (fun j U _ _ hU => hU.hourVF j)
