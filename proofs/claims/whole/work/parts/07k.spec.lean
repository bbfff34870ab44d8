/-! MORE FISH of sorts of which one is left all the day: the day goes the same -/
/-- fish f of the sorts that are there -/
def vF (V : DM) (f : Int → Int) : DM := fun k r i => if k = 2 ∧ r = 0 ∧ 0 ≤ i ∧ i < V 1 0 6 then f i else V k r i
/-- more: a of what is fetched, b of what lies there -/
def pl (a b : Int → Int) (V : DM) : DM := fun k r i => if k = 2 ∧ r = 0 then V 2 0 i + a i else if k = 13 ∧ r = 0 then V 13 0 i + b i else V k r i
def bb (d : Int → Int) (n : Int) : Int → Int := fun i => if 0 ≤ i ∧ i < n then d i else 0
theorem pl_2 (a b : Int → Int) (V : DM) (i : Int) : pl a b V 2 0 i = V 2 0 i + a i := if_pos ⟨rfl, rfl⟩
theorem pl_13 (a b : Int → Int) (V : DM) (i : Int) : pl a b V 13 0 i = V 13 0 i + b i := by unfold pl; rw [if_neg (by omega), if_pos ⟨rfl, rfl⟩]
theorem pl_n (a b : Int → Int) (V : DM) {k : Nat} (r i : Int) (h2 : k ≠ 2) (h3 : k ≠ 13) : pl a b V k r i = V k r i := by unfold pl; rw [if_neg (fun h => h2 h.1), if_neg (fun h => h3 h.1)]
theorem pl_r (a b : Int → Int) (V : DM) (k : Nat) {r : Int} (i : Int) (h2 : r ≠ 0) : pl a b V k r i = V k r i := by unfold pl; rw [if_neg (fun h => h2 h.2), if_neg (fun h => h2 h.2)]
theorem pl_up (a b : Int → Int) (V : DM) {k : Nat} (r i v : Int) (h2 : k ≠ 2) (h3 : k ≠ 13) : vup (pl a b V) k r i v = pl a b (vup V k r i v) := by
  funext k' r' j
  by_cases e : k' = k ∧ r' = r ∧ j = i
  · obtain ⟨rfl, rfl, rfl⟩ := e
    rw [vup_v, pl_n _ _ _ _ _ h2 h3, vup_v]
  · rw [vup_n _ e]
    unfold pl
    rw [vup_k _ _ _ _ (Ne.symm h2), vup_k _ _ _ _ (Ne.symm h3), vup_n _ e]
theorem pl_u13 {a b b2 : Int → Int} (V : DM) (s v : Int) (hb : ∀ i, i ≠ s → b2 i = b i) : vup (pl a b V) 13 0 s (v + b2 s) = pl a b2 (vup V 13 0 s v) := by
  funext k' r' j
  by_cases e : k' = 13 ∧ r' = 0 ∧ j = s
  · obtain ⟨rfl, rfl, rfl⟩ := e
    rw [vup_v, pl_13, vup_v]
  · rw [vup_n _ e]
    unfold pl
    rw [vup_k _ _ _ _ (show (2 : Nat) ≠ 13 by omega)]
    by_cases e2 : k' = 2 ∧ r' = 0
    · rw [if_pos e2, if_pos e2]
    · rw [if_neg e2, if_neg e2]
      by_cases e3 : k' = 13 ∧ r' = 0
      · rw [if_pos e3, if_pos e3, hb j (fun h => e ⟨e3.1, e3.2, h⟩), vup_j _ _ _ _ (fun h => e ⟨e3.1, e3.2, h⟩)]
      · rw [if_neg e3, if_neg e3, vup_n _ e]
theorem openS_pl (d : Int → Int) (V : DM) (n : Nat) : openS n (pl d (bb d n) V) = pl d (bb d ((n + 1 : Nat) : Int)) (openS n V) := by
  unfold openS
  have e : bb d ((n + 1 : Nat) : Int) n = d n := by unfold bb; rw [if_pos (by omega)]
  rw [pl_2, ← e, pl_u13 V n (V 2 0 n) (fun i hi => by
    unfold bb
    by_cases h : 0 ≤ i ∧ i < (n : Int)
    · rw [if_pos h, if_pos (by omega)]
    · rw [if_neg h, if_neg (by omega)]), pl_up _ _ _ _ _ _ (by omega) (by omega), pl_up _ _ _ _ _ _ (by omega) (by omega)]
theorem openB_pl (a b : Int → Int) (V : DM) (x : Int) : openB x (pl a b V) = pl a b (openB x V) := by
  unfold openB
  rw [pl_up _ _ _ _ _ _ (by omega) (by omega), pl_up _ _ _ _ _ _ (by omega) (by omega), pl_up _ _ _ _ _ _ (by omega) (by omega), pl_up _ _ _ _ _ _ (by omega) (by omega)]
theorem openV_pl {d : Int → Int} {V : DM} (h6 : 0 ≤ V 1 0 6) (hd : ∀ j, ¬ (0 ≤ j ∧ j < V 1 0 6) → d j = 0) : openV (pl d (bb d 0) V) = pl d d (openV V) := by
  have h1 : ∀ n : Nat, iterN openS (pl d (bb d 0) (vup V 0 0 9 0)) n = pl d (bb d n) (iterN openS (vup V 0 0 9 0) n) := by
    intro n
    induction n with
    | zero => rfl
    | succ n ih => rw [iterN, ih, openS_pl, iterN]
  have h2 : ∀ (W : DM) (n : Nat), iterN openB (pl d d W) n = pl d d (iterN openB W n) := by
    intro W n
    induction n with
    | zero => rfl
    | succ n ih => rw [iterN, ih, openB_pl, iterN]
  have e : bb d (((V 1 0 6).toNat : Nat) : Int) = d := by
    funext i
    unfold bb
    by_cases h : 0 ≤ i ∧ i < V 1 0 6
    · rw [if_pos (by omega)]
    · rw [if_neg (by omega), hd i h]
  unfold openV iterI
  rw [pl_up _ _ _ _ _ _ (by omega) (by omega), pl_n _ _ _ _ _ (show (1 : Nat) ≠ 2 by omega) (by omega), pl_n _ _ _ _ _ (show (8 : Nat) ≠ 2 by omega) (by omega), h1, e, h2]
/-- of a sort of which there are more, one is left -/
def Ps (d : Int → Int) (V : DM) : Prop := ∀ j, d j = 0 ∨ (0 < d j ∧ d j ≤ 9 ∧ 0 < V 13 0 j)
section PLS
variable {d : Int → Int} {V : DM}
theorem pl_lies (h : Ps d V) (j : Int) : 0 < pl d d V 13 0 j ↔ 0 < V 13 0 j := by
  rw [pl_13]
  rcases h j with q | ⟨a, b, c⟩ <;> omega
theorem pl_dearer (h : Ps d V) (s t : Int) : dearer (pl d d V) s t ↔ dearer V s t := by
  unfold dearer
  constructor
  · rintro ⟨r, a, b, c, e⟩
    rw [pl_n _ _ _ _ _ (by omega) (by omega)] at b
    rw [pl_n _ _ _ _ _ (by omega) (by omega), pl_n _ _ _ _ _ (by omega) (by omega)] at e
    exact ⟨r, a, b, (pl_lies h r).mp c, e⟩
  · rintro ⟨r, a, b, c, e⟩
    refine ⟨r, a, ?_, (pl_lies h r).mpr c, ?_⟩
    · rw [pl_n _ _ _ _ _ (by omega) (by omega)]; exact b
    · rw [pl_n _ _ _ _ _ (by omega) (by omega), pl_n _ _ _ _ _ (by omega) (by omega)]; exact e
theorem pl_worth (h : Ps d V) (x s t : Int) : worth (pl d d V) x s t = worth V x s t := by
  unfold worth freshAt
  rw [pl_n _ _ _ _ _ (show (11 : Nat) ≠ 2 by omega) (by omega), pl_n _ _ _ _ _ (show (10 : Nat) ≠ 2 by omega) (by omega), pl_n _ _ _ _ _ (show (1 : Nat) ≠ 2 by omega) (by omega), pl_n _ _ _ _ _ (show (4 : Nat) ≠ 2 by omega) (by omega), pl_n _ _ _ _ _ (show (5 : Nat) ≠ 2 by omega) (by omega), b01_e (P := V 1 0 8 ≠ 0 ∧ dearer (pl d d V) s t) (Q := V 1 0 8 ≠ 0 ∧ dearer V s t) (by rw [pl_dearer h])]
theorem pl_gain (h : Ps d V) (x s t : Int) : gain (pl d d V) x s t = gain V x s t := by
  unfold gain
  rw [pl_worth h, pl_n _ _ _ _ _ (show (7 : Nat) ≠ 2 by omega) (by omega)]
  by_cases q : 0 < V 13 0 s
  · rw [if_pos q, if_pos ((pl_lies h s).mpr q)]
  · rw [if_neg q, if_neg (fun p => q ((pl_lies h s).mp p))]
theorem pl_choice (h : Ps d V) (x t : Int) : choice (pl d d V) x t = choice V x t := by
  have e1 : pl d d V 9 0 x = V 9 0 x := pl_n _ _ _ _ _ (by omega) (by omega)
  have e2 : pl d d V 10 0 x = V 10 0 x := pl_n _ _ _ _ _ (by omega) (by omega)
  have e3 : pl d d V 1 0 6 = V 1 0 6 := pl_n _ _ _ _ _ (by omega) (by omega)
  have e4 : ∀ s, cheaper (pl d d V) s t ↔ cheaper V s t := fun s => by
    unfold cheaper
    rw [pl_n _ _ _ _ _ (by omega) (by omega), pl_n _ _ _ _ _ (by omega) (by omega), pl_n _ _ _ _ _ (by omega) (by omega)]
  have e5 : ∀ n, pick (pl d d V) x t n = pick V x t n := fun n => by
    unfold pick
    simp only [pl_gain h]
  unfold choice
  rw [e1, e2, e3, e5, pl_gain h]
  by_cases q : V 9 0 x = 2 ∧ cheaper V (V 10 0 x) t
  · rw [if_pos q, if_pos ⟨q.1, (e4 _).mpr q.2⟩]
  · rw [if_neg q, if_neg (fun p => q ⟨p.1, (e4 _).mp p.2⟩)]
theorem pl_sell {x s t : Int} (h0 : 0 < V 13 0 s) (h9 : V 13 0 s ≤ 9) (hP : Ps d (sell1 V x s t)) : sell1 (pl d d V) x s t = pl d d (sell1 V x s t) ∧ Ps d V := by
  have hs := hP s
  rw [sell1_13, if_pos rfl, w32_i ⟨by omega, by omega⟩] at hs
  have hPV : Ps d V := fun j => by
    have q := hP j
    rw [sell1_13] at q
    split at q
    · next e => rw [e]; omega
    · exact q
  refine ⟨?_, hPV⟩
  have e13 : w32 (V 13 0 s + d s - 1) = w32 (V 13 0 s - 1) + d s := by rw [w32_i ⟨by omega, by omega⟩, w32_i ⟨by omega, by omega⟩]; omega
  have eg : ∀ W : DM, W 13 0 s = w32 (V 13 0 s - 1) → gone1 (pl d d W) s t = pl d d (gone1 W s t) := fun W hW => by
    unfold gone1
    rw [pl_13, hW, w32_i ⟨by omega, by omega⟩]
    by_cases q : V 13 0 s - 1 = 0
    · rw [if_pos (by omega), if_pos q, pl_up _ _ _ _ _ _ (by omega) (by omega)]
    · rw [if_neg (by omega), if_neg q]
  unfold sell1 sell0
  simp only []
  rw [pl_13, e13, pl_u13 V s _ (fun _ _ => rfl), eg _ (vup_v _ _ _ _ _)]
  simp only [pl_n d d _ _ _ (show (15 : Nat) ≠ 2 by omega) (show (15 : Nat) ≠ 13 by omega), pl_n d d _ _ _ (show (7 : Nat) ≠ 2 by omega) (show (7 : Nat) ≠ 13 by omega), pl_up d d _ _ _ _ (show (15 : Nat) ≠ 2 by omega) (show (15 : Nat) ≠ 13 by omega), pl_n d d _ _ _ (show (0 : Nat) ≠ 2 by omega) (show (0 : Nat) ≠ 13 by omega), pl_up d d _ _ _ _ (show (0 : Nat) ≠ 2 by omega) (show (0 : Nat) ≠ 13 by omega), pl_up d d _ _ _ _ (show (16 : Nat) ≠ 2 by omega) (show (16 : Nat) ≠ 13 by omega), pl_up d d _ _ _ _ (show (17 : Nat) ≠ 2 by omega) (show (17 : Nat) ≠ 13 by omega), pl_up d d _ _ _ _ (show (18 : Nat) ≠ 2 by omega) (show (18 : Nat) ≠ 13 by omega)]
def B9 (N : Int) (V : DM) : Prop := ∀ s, 0 ≤ s → s < N → 0 ≤ V 13 0 s ∧ V 13 0 s ≤ 9
theorem Ps.k {W : DM} (h : Ps d W) (e : ∀ j, W 13 0 j = V 13 0 j) : Ps d V := fun j => by rw [← e j]; exact h j
theorem pl_visit {U : DM} (hI : DayOk U) (hF : Fr U V) (hB : B9 (U 1 0 6) V) {x t : Int} (x0 : 0 ≤ x) (x1 : x < U 8 0 4) (t0 : 0 ≤ t) (t1 : t < U 1 0 5) :
    B9 (U 1 0 6) (visit V x t) ∧ (Ps d (visit V x t) → visit (pl d d V) x t = pl d d (visit V x t) ∧ Ps d V) := by
  have hF1 : Fr U (vup V 19 0 x (w32 (V 19 0 x + 1))) := hF.up (by omega)
  have e19 : vup (pl d d V) 19 0 x (w32 (pl d d V 19 0 x + 1)) = pl d d (vup V 19 0 x (w32 (V 19 0 x + 1))) := by rw [pl_n _ _ _ _ _ (by omega) (by omega), pl_up _ _ _ _ _ _ (by omega) (by omega)]
  have k1 : ∀ j, vup V 19 0 x (w32 (V 19 0 x + 1)) 13 0 j = V 13 0 j := fun j => by rw [vup_k _ _ _ _ (by omega)]
  generalize hV1 : vup V 19 0 x (w32 (V 19 0 x + 1)) = V1 at hF1 e19 k1
  have hI1 := hI.fr hF1
  have hB1 : B9 (U 1 0 6) V1 := fun s a b => by rw [k1]; exact hB s a b
  have e8 : V1 8 0 4 = U 8 0 4 := hF1 8 0 4 (by omega) (by omega)
  have e5 : V1 1 0 5 = U 1 0 5 := hF1 1 0 5 (by omega) (by omega)
  have e6 : V1 1 0 6 = U 1 0 6 := hF1 1 0 6 (by omega) (by omega)
  have hr := choice_r hI1 (t := t) x0 (show x < V1 8 0 4 by omega) t0 (by omega)
  have hl := choice_lies (V := V1) (x := x) (t := t)
  have hcm : comesP (pl d d V) x t ↔ comesP V x t := by
    unfold comesP
    rw [pl_n _ _ _ _ _ (show (9 : Nat) ≠ 2 by omega) (by omega), pl_n _ _ _ _ _ (show (12 : Nat) ≠ 2 by omega) (by omega), pl_n _ _ _ _ _ (show (16 : Nat) ≠ 2 by omega) (by omega)]
  unfold visit
  by_cases hc : comesP V x t
  · rw [if_pos hc, if_pos (hcm.mpr hc)]
    show B9 (U 1 0 6) (if choice (vup V 19 0 x (w32 (V 19 0 x + 1))) x t = -9 then vup V 19 0 x (w32 (V 19 0 x + 1)) else _) ∧ (Ps d (if choice (vup V 19 0 x (w32 (V 19 0 x + 1))) x t = -9 then vup V 19 0 x (w32 (V 19 0 x + 1)) else _) → (if choice (vup (pl d d V) 19 0 x (w32 (pl d d V 19 0 x + 1))) x t = -9 then vup (pl d d V) 19 0 x (w32 (pl d d V 19 0 x + 1)) else _) = pl d d (if choice (vup V 19 0 x (w32 (V 19 0 x + 1))) x t = -9 then vup V 19 0 x (w32 (V 19 0 x + 1)) else _) ∧ Ps d V)
    rw [e19, hV1]
    by_cases h9 : choice V1 x t = -9
    · rw [if_pos h9]
      refine ⟨hB1, fun hP => ?_⟩
      rw [if_pos (by rw [pl_choice hP]; exact h9)]
      exact ⟨rfl, hP.k (fun j => k1 j)⟩
    · rw [if_neg h9]
      have hl := hl h9
      have hb := hB1 (choice V1 x t) (by omega) (by omega)
      refine ⟨fun s a b => ?_, fun hP => ?_⟩
      · rw [sell1_13]
        split
        · rw [w32_i ⟨by omega, by omega⟩]; omega
        · exact hB1 s a b
      · have q := pl_sell hl hb.2 hP
        rw [if_neg (by rw [pl_choice q.2]; exact h9), pl_choice q.2]
        exact ⟨q.1, q.2.k (fun j => k1 j)⟩
  · rw [if_neg hc, if_neg (fun h => hc (hcm.mp h))]
    exact ⟨hB, fun hP => ⟨rfl, hP⟩⟩
theorem pl_hour {U : DM} (hI : DayOk U) (hk : U 0 0 11 = -9) (hF : Fr U V) (hB : B9 (U 1 0 6) V) {t : Int} (t0 : 0 ≤ t) (t1 : t < U 1 0 5) :
    B9 (U 1 0 6) (hourV V t) ∧ (Ps d (hourV V t) → hourV (pl d d V) t = pl d d (hourV V t) ∧ Ps d V) := by
  have e8 : V 8 0 4 = U 8 0 4 := hF 8 0 4 (by omega) (by omega)
  have ek : V 0 0 11 = U 0 0 11 := hF 0 0 11 (by omega) (by omega)
  have h8 := hI.2.2.1
  have ec : cookAt V t = V := by unfold cookAt; rw [if_neg (by omega)]
  have ec2 : cookAt (pl d d V) t = pl d d V := by unfold cookAt; rw [pl_n _ _ _ _ _ (by omega) (by omega), if_neg (by omega)]
  have key : ∀ n : Nat, (n : Int) ≤ U 8 0 4 → Fr U (iterN (fun x W => visit W x t) V n) ∧ B9 (U 1 0 6) (iterN (fun x W => visit W x t) V n) ∧ (Ps d (iterN (fun x W => visit W x t) V n) → iterN (fun x W => visit W x t) (pl d d V) n = pl d d (iterN (fun x W => visit W x t) V n) ∧ Ps d V) := by
    intro n
    induction n with
    | zero => intro _; exact ⟨hF, hB, fun h => ⟨rfl, h⟩⟩
    | succ n ih =>
      intro hn
      obtain ⟨a, b, c⟩ := ih (by omega)
      have q := pl_visit (d := d) hI a b (show (0 : Int) ≤ n by omega) (show (n : Int) < U 8 0 4 by omega) t0 t1
      refine ⟨a.visitF n t, q.1, fun hP => ?_⟩
      have q2 := q.2 hP
      have c2 := c q2.2
      refine ⟨?_, c2.2⟩
      rw [iterN, c2.1]
      exact q2.1
  have k := (key (U 8 0 4).toNat (by omega)).2
  unfold hourV iterI
  rw [ec, ec2, pl_n _ _ _ _ _ (by omega) (by omega), e8]
  exact k
theorem pl_gt (hI : DayOk V) (hk : V 0 0 11 = -9) (hd : ∀ j, ¬ (0 ≤ j ∧ j < V 1 0 6) → d j = 0) (hP : Ps d (gt V)) : gt (pl d (bb d 0) V) = pl d d (gt V) := by
  have h5 := hI.2.1
  obtain ⟨a0, b0, c0, d0⟩ := open_key hI
  have key : ∀ n : Nat, (n : Int) ≤ V 1 0 5 → Fr V (iterN (fun t W => hourV W t) (openV V) n) ∧ B9 (V 1 0 6) (iterN (fun t W => hourV W t) (openV V) n) ∧ (Ps d (iterN (fun t W => hourV W t) (openV V) n) → iterN (fun t W => hourV W t) (pl d d (openV V)) n = pl d d (iterN (fun t W => hourV W t) (openV V) n)) := by
    intro n
    induction n with
    | zero =>
      intro _
      refine ⟨a0, fun s a b => ?_, fun h => rfl⟩
      show 0 ≤ openV V 13 0 s ∧ openV V 13 0 s ≤ 9
      rw [(c0 s a b).1]
      exact (hI.2.2.2.2.1 s a b).1
    | succ n ih =>
      intro hn
      obtain ⟨a, b, c⟩ := ih (by omega)
      have q := pl_hour (d := d) hI hk a b (show (0 : Int) ≤ n by omega) (show (n : Int) < V 1 0 5 by omega)
      refine ⟨a.hourVF n, q.1, fun hP => ?_⟩
      have q2 := q.2 hP
      rw [iterN, c q2.2]
      exact q2.1
  unfold gt iterI at *
  rw [openV_pl hI.1.1 hd, pl_n _ _ _ _ _ (by omega) (by omega)]
  exact (key (V 1 0 5).toNat (by omega)).2.2 hP
end PLS
theorem sumI_add {f g : Int → Int} {n : Int} (h : 0 ≤ n) : sumI (fun s => f s + g s) n = sumI f n + sumI g n := by
  have k : ∀ m : Nat, sumN (fun s => f s + g s) m = sumN f m + sumN g m := by
    intro m
    induction m with
    | zero => rfl
    | succ m ih => rw [sumN, sumN, sumN, ih]; omega
  exact k _
theorem sumI_mul {f : Int → Int} {n : Int} (c : Int) : sumI (fun s => c * f s) n = c * sumI f n := by
  have k : ∀ m : Nat, sumN (fun s => c * f s) m = c * sumN f m := by
    intro m
    induction m with
    | zero => exact (Int.mul_zero c).symm
    | succ m ih => rw [sumN, sumN, ih, Int.mul_add]
  exact k _
theorem prf_pl {d : Int → Int} {V : DM} (hI : DayOk V) (hk : V 0 0 11 = -9) (hd : ∀ j, ¬ (0 ≤ j ∧ j < V 1 0 6) → d j = 0) (hP : Ps d (gt V)) : prf (pl d (bb d 0) V) = prf V + sumI (fun s => (V 1 0 7 - V 3 0 s) * d s) (V 1 0 6) := by
  have hF : Fr V (gt V) := (Fr.rf V).gtF
  have e3 : ∀ s, gt V 3 0 s = V 3 0 s := fun s => hF 3 0 s (by omega) (by omega)
  unfold prf
  rw [pl_gt hI hk hd hP]
  unfold profitV
  simp only [pl_13, pl_2, pl_n d d (gt V) _ _ (show (0 : Nat) ≠ 2 by omega) (show (0 : Nat) ≠ 13 by omega), pl_n d d (gt V) _ _ (show (1 : Nat) ≠ 2 by omega) (show (1 : Nat) ≠ 13 by omega), pl_n d d (gt V) _ _ (show (3 : Nat) ≠ 2 by omega) (show (3 : Nat) ≠ 13 by omega), e3]
  rw [hF 1 0 6 (by omega) (by omega), hF 1 0 7 (by omega) (by omega)]
  have h6 := hI.1.1
  have a1 := sumI_add (f := fun s => gt V 13 0 s) (g := d) h6
  have a2 := sumI_add (f := fun s => gt V 2 0 s * V 3 0 s) (g := fun s => d s * V 3 0 s) h6
  have a3 := sumI_add (f := fun s => (V 1 0 7 - V 3 0 s) * d s) (g := fun s => d s * V 3 0 s) h6
  have e4 : (fun s => (gt V 2 0 s + d s) * V 3 0 s) = (fun s => gt V 2 0 s * V 3 0 s + d s * V 3 0 s) := funext fun s => Int.add_mul _ _ _
  have e5 : (fun s => (V 1 0 7 - V 3 0 s) * d s + d s * V 3 0 s) = (fun s => V 1 0 7 * d s) := funext fun s => by rw [Int.sub_mul, Int.mul_comm (d s)]; omega
  rw [e4, a1, a2, Int.mul_add]
  rw [e5, sumI_mul] at a3
  show _ = _
  omega
