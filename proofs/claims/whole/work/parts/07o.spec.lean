/-! WHAT IS FETCHED, of a day's memory -/
noncomputable def pD (D : DM) (g : Int → Int) : Int := prf (vF D g)
noncomputable def lD (D : DM) (v : Int → Int) (j : Int) : Int := gt (vF D v) 13 0 j
def gD (D : DM) (j : Int) : Int := D 1 0 7 - D 3 0 j
theorem vF_2 (V : DM) (f : Int → Int) {i : Int} (h0 : 0 ≤ i) (h1 : i < V 1 0 6) : vF V f 2 0 i = f i := if_pos ⟨rfl, rfl, h0, h1⟩
theorem vF_n (V : DM) (f : Int → Int) {k : Nat} (r i : Int) (h : k ≠ 2) : vF V f k r i = V k r i := if_neg (fun q => h q.1)
theorem vF_ok {V : DM} (hI : DayOk V) {f : Int → Int} (hf : InN (V 1 0 6) f) : DayOk (vF V f) := by
  obtain ⟨h1, h2, h3, h4, h5, h6, h7, h8⟩ := hI
  refine ⟨h1, h2, h3, h4, fun s s0 s1 => ?_, h6, h7, h8⟩
  have s1 : s < V 1 0 6 := s1
  rw [vF_2 V f s0 s1]
  exact ⟨hf s s0 s1, (h5 s s0 s1).2⟩
theorem vF_ag {V : DM} {g h : Int → Int} (a : Ag (V 1 0 6) g h) : vF V g = vF V h := by
  funext k r i
  unfold vF
  by_cases e : k = 2 ∧ r = 0 ∧ 0 ≤ i ∧ i < V 1 0 6
  · rw [if_pos e, if_pos e, a i e.2.2.1 e.2.2.2]
  · rw [if_neg e, if_neg e]
theorem vF_e {V W : DM} (f : EQ 0 0 V W) (g : Int → Int) : EQ 0 0 (vF V g) (vF W g) := by
  intro k r i hl
  have hl : LC (V 1 0 5) (V 1 0 6) (V 8 0 4) 0 0 k r i := hl
  unfold vF
  rw [f.n]
  by_cases e : k = 2 ∧ r = 0 ∧ 0 ≤ i ∧ i < V 1 0 6
  · rw [if_pos e, if_pos e]
  · rw [if_neg e, if_neg e]; exact f k r i hl
theorem pD_e {V W : DM} (hI : DayOk V) (hk : V 0 0 11 = -9) (hk2 : W 0 0 11 = -9) (f : EQ 0 0 V W) {g : Int → Int} (hg : InN (V 1 0 6) g) : pD W g = pD V g :=
  prf_e (g := 0) (vF_ok hI hg) (vF_e f g) (Or.inl ⟨hk, hk2⟩)
theorem FetR.c {p q : (Int → Int) → Int} {N P : Int} {R : Int → Int} (h : FetR p N P R) (e : ∀ g, InN N g → q g = p g) : FetR q N P R := by
  refine ⟨⟨h.1.1, by rw [e R h.1.1]; exact h.1.2⟩, fun g hg => ?_⟩
  have a := h.2 g hg
  unfold Cov
  rw [e g hg]
  exact a
theorem vF_pl (V : DM) (v g : Int → Int) : vF V g = pl (fun j => if 0 ≤ j ∧ j < V 1 0 6 then g j - v j else 0) (bb (fun j => if 0 ≤ j ∧ j < V 1 0 6 then g j - v j else 0) 0) (vF V v) := by
  funext k r i
  unfold pl
  by_cases h2 : k = 2 ∧ r = 0
  · rw [if_pos h2]
    obtain ⟨rfl, rfl⟩ := h2
    by_cases hi : 0 ≤ i ∧ i < V 1 0 6
    · rw [vF_2 _ _ hi.1 hi.2, vF_2 _ _ hi.1 hi.2]
      show _ = v i + if 0 ≤ i ∧ i < V 1 0 6 then g i - v i else 0
      rw [if_pos hi]
      omega
    · have e : ∀ f : Int → Int, vF V f 2 0 i = V 2 0 i := fun f => if_neg (fun q => hi q.2.2)
      rw [e, e]
      show _ = V 2 0 i + if 0 ≤ i ∧ i < V 1 0 6 then g i - v i else 0
      rw [if_neg hi]
      omega
  · rw [if_neg h2]
    have e : ∀ f : Int → Int, vF V f k r i = V k r i := fun f => if_neg (fun q => h2 ⟨q.1, q.2.1⟩)
    by_cases h3 : k = 13 ∧ r = 0
    · rw [if_pos h3, e]
      obtain ⟨rfl, rfl⟩ := h3
      have e0 : bb (fun j => if 0 ≤ j ∧ j < V 1 0 6 then g j - v j else 0) 0 i = 0 := if_neg (by omega)
      rw [e0, vF_n _ _ _ _ (by omega)]
      omega
    · rw [if_neg h3, e, e]
theorem moreV {V : DM} (hI : DayOk V) (hk : V 0 0 11 = -9) : MoreP (pD V) (lD V) (gD V) (V 1 0 6) := by
  refine ⟨fun v g hv hg hr => ?_, fun v j hv a b => ?_⟩
  · have hP : Ps (fun j => if 0 ≤ j ∧ j < V 1 0 6 then g j - v j else 0) (gt (vF V v)) := fun j => by
      show (if 0 ≤ j ∧ j < V 1 0 6 then g j - v j else 0) = 0 ∨ (0 < (if 0 ≤ j ∧ j < V 1 0 6 then g j - v j else 0) ∧ (if 0 ≤ j ∧ j < V 1 0 6 then g j - v j else 0) ≤ 9 ∧ 0 < gt (vF V v) 13 0 j)
      by_cases hj : 0 ≤ j ∧ j < V 1 0 6
      · rw [if_pos hj]
        have a := hv j hj.1 hj.2
        have b := hg j hj.1 hj.2
        have c := hr j hj.1 hj.2
        have c2 : v j < g j → 0 < gt (vF V v) 13 0 j := c.2
        omega
      · rw [if_neg hj]; exact Or.inl rfl
    have e := prf_pl (d := fun j => if 0 ≤ j ∧ j < V 1 0 6 then g j - v j else 0) (vF_ok hI hv) hk (fun j hj => if_neg hj) hP
    rw [← vF_pl V v g] at e
    refine e.trans ?_
    have e2 := sumI_c (f := fun s => (vF V v 1 0 7 - vF V v 3 0 s) * (if 0 ≤ s ∧ s < V 1 0 6 then g s - v s else 0)) (g := fun j => gD V j * (g j - v j)) (i := V 1 0 6) (fun j a b => by
      show (V 1 0 7 - V 3 0 j) * (if 0 ≤ j ∧ j < V 1 0 6 then g j - v j else 0) = (V 1 0 7 - V 3 0 j) * (g j - v j)
      rw [if_pos ⟨a, b⟩])
    exact congrArg (fun q => prf (vF V v) + q) e2
  · exact ((gt_Bd (vF_ok hI hv) (Or.inl hk)).2 j a b).1
/-- a trial of a day with other fish -/
def TrM (D W : DM) : Prop := ∀ (k : Nat) (r i : Int), k ≤ 12 → (k = 0 → i ≠ 9) → k ≠ 2 → W k r i = D k r i
theorem TrM.e {D W : DM} (h : TrM D W) : EQ 0 0 (vF D (W 2 0)) W := by
  intro k r i hl
  have hl : LC (D 1 0 5) (D 1 0 6) (D 8 0 4) 0 0 k r i := hl
  have hk : 1 ≤ k ∧ k ≤ 12 := by rcases hl with q | q | q | q | q | q | q | q | q <;> omega
  by_cases h2 : k = 2
  · subst h2
    have q : r = 0 ∧ 0 ≤ i ∧ i < D 1 0 6 := by rcases hl with q | q | q | q | q | q | q | q | q <;> omega
    obtain ⟨rfl, a, b⟩ := q
    rw [vF_2 _ _ a b]
  · rw [vF_n _ _ _ _ h2]; exact h k r i hk.2 (by omega) h2
theorem TrM.gtT {D W : DM} (h : TrM D W) : TrM D (gt W) := fun k r i a b c => by rw [(Fr.rf W).gtF k r i a b]; exact h k r i a b c
theorem TrM.k {D W : DM} (h : TrM D W) (hk : D 0 0 11 = -9) : W 0 0 11 = -9 := by rw [h 0 0 11 (by omega) (by omega) (by omega)]; exact hk
theorem gt2 (W : DM) : gt W 2 0 = W 2 0 := funext fun i => (Fr.rf W).gtF 2 0 i (by omega) (by omega)
section TRM
variable {D W : DM}
theorem TrM.q (hI : DayOk D) (hk : D 0 0 11 = -9) (h : TrM D W) (hf : InN (D 1 0 6) (W 2 0)) : profitV (gt W) = pD D (W 2 0) ∧ ∀ j, 0 ≤ j → j < D 1 0 6 → gt W 13 0 j = lD D (W 2 0) j :=
  ⟨prf_e (g := 0) (vF_ok hI hf) h.e (Or.inl ⟨hk, h.k hk⟩), fun j a b => (EQ.gtE (g := 0) (vF_ok hI hf) h.e (Or.inl ⟨hk, h.k hk⟩)) 13 0 j (LC.l a (by rw [(Fr.rf _).gtF 1 0 6 (by omega) (by omega)]; exact b))⟩
theorem Lx.cl {N : Int} {a b c : Int → Int} (h : Ag N a b) : Lx N a c ↔ Lx N b c := by
  constructor
  · rintro ⟨u, u0, u1, ua, ul⟩
    exact ⟨u, u0, u1, fun j x y => by rw [← h j x (by omega)]; exact ua j x y, by rw [← h u u0 u1]; exact ul⟩
  · rintro ⟨u, u0, u1, ua, ul⟩
    exact ⟨u, u0, u1, fun j x y => by rw [h j x (by omega)]; exact ua j x y, by rw [h u u0 u1]; exact ul⟩
theorem TrM.ok (hI : DayOk D) (hk : D 0 0 11 = -9) (h : TrM D W) (hf : InN (D 1 0 6) (W 2 0)) : TrOk (gt W) := by
  have q := h.q hI hk hf
  have e6 : gt W 1 0 6 = D 1 0 6 := h.gtT 1 0 6 (by omega) (by omega) (by omega)
  have e7 : gt W 1 0 7 = D 1 0 7 := h.gtT 1 0 7 (by omega) (by omega) (by omega)
  have hO := vF_ok hI hf
  refine ⟨by rw [e6]; exact hI.1, by rw [e7]; exact hI.2.2.2.2.2.2.1, by rw [q.1]; exact prf_r hO (Or.inl hk), fun s a b => ?_⟩
  rw [e6] at b
  rw [q.2 s a b, gt2, h.gtT 3 0 s (by omega) (by omega) (by omega)]
  exact ⟨(gt_Bd hO (Or.inl hk)).2 s a b, hf s a b, (hI.2.2.2.2.1 s a b).2.1⟩
theorem WeighI.wg {Z Z2 : DM} (hI : DayOk D) (hk : D 0 0 11 = -9) (h : TrM D W) (hf : InN (D 1 0 6) (W 2 0)) (w : WeighI (gt W) Z Z2) :
    WgR (pD D) (lD D) (gD D) (D 1 0 6) (Z 1 0 4) (Z 2 0) (W 2 0) (Z2 1 0 4) (Z2 2 0) ∧ ∀ j, 0 ≤ j → j < D 1 0 6 → Z2 3 0 j = if lD D (W 2 0) j = 0 then 1 else Z 3 0 j := by
  have q := h.q hI hk hf
  have e6 : gt W 1 0 6 = D 1 0 6 := h.gtT 1 0 6 (by omega) (by omega) (by omega)
  have e7 : gt W 1 0 7 = D 1 0 7 := h.gtT 1 0 7 (by omega) (by omega) (by omega)
  have eg : ∀ j, gnM (gt W) j = gD D j := fun j => by
    unfold gnM gD
    rw [e7, h.gtT 3 0 j (by omega) (by omega) (by omega)]
  have ez : Ag (D 1 0 6) (rzM (gt W)) (rz (lD D) (gD D) (W 2 0)) := fun j a b => by
    unfold rzM rz
    rw [eg, q.2 j a b, gt2]
  have eb : brM (gt W) (D 1 0 6) = brg (pD D) (lD D) (gD D) (D 1 0 6) (W 2 0) := by
    unfold brM brg
    rw [q.1, sumI_c (f := fun j => gnM (gt W) j * (rzM (gt W) j - gt W 2 0 j)) (g := fun j => gD D j * (rz (lD D) (gD D) (W 2 0) j - W 2 0 j)) (fun j a b => by show gnM (gt W) j * (rzM (gt W) j - gt W 2 0 j) = _; rw [eg, ez j a b, gt2])]
  obtain ⟨w1, w2, w3⟩ := w
  rw [e6] at w1 w2
  rw [eb, Lx.cl ez] at w2
  refine ⟨?_, fun j a b => by rw [← q.2 j a b]; exact w1 j a b⟩
  rcases w2 with ⟨a, b, c⟩ | ⟨a, b, c⟩
  · exact Or.inl ⟨a, b, fun j x y => (c j x y).trans (ez j x y)⟩
  · exact Or.inr ⟨a, b, c⟩
end TRM
theorem OdI.c {p : (Int → Int) → Int} {lf : (Int → Int) → Int → Int} {N n P : Int} {f r f2 r2 R : Int → Int} (h : OdI p lf N n f r P R) (hf : Ag N f2 f) (hr : ∀ j, 0 ≤ j → j < N → r2 j = r j) : OdI p lf N n f2 r2 P R := by
  obtain ⟨a, b, Vis, v1, v2, v3⟩ := h
  have e : rk f2 N.toNat = rk f N.toNat := by
    rcases Int.lt_or_le N 0 with q | q
    · rw [show N.toNat = 0 by omega]; rfl
    · exact rk_e _ (hf.wk (by omega))
  refine ⟨fun j x y => by rw [hf j x y]; exact a j x y, by rw [e]; exact b, Vis, fun v hv => ⟨(v1 v hv).1, (Lx.c hf).mpr (v1 v hv).2.1, (v1 v hv).2.2⟩, fun v hv j x y z w => ?_, fun t g ht hg ha hl => ?_⟩
  · rw [hr j x y]
    exact v2 v hv j x y (fun i s t => (z i s t).trans (hf i s (by omega))) w
  · obtain ⟨v, c1, c2, c3⟩ := v3 t g ht hg (fun i s t2 => (ha i s t2).trans (hf i s (by omega))) ((Lx.c hf).mp hl)
    exact ⟨v, c1, fun i s t2 => (c2 i s t2).trans (hf i s (by omega)).symm, c3⟩
