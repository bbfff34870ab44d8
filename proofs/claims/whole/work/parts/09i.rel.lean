section CO2
variable {V W : DM}
theorem sc0 (hk : V 0 0 11 = -9) (hk2 : W 0 0 11 = -9) : SameCook V W := Or.inl ⟨hk, hk2⟩
theorem e_worth (hI : DayOk V) (f : EQ 0 0 V W) (x s t : Int) : xWorth W x s t = xWorth V x s t := pif_e (by rw [hasB_e f x, place_e f s t]) (fun h => by
  have o := EQ.openE hI f
  have hF := (Fr.rf V).openVF
  have e6 : openV V 1 0 6 = V 1 0 6 := hF 1 0 6 (by omega) (by omega)
  have e5 : openV V 1 0 5 = V 1 0 5 := hF 1 0 5 (by omega) (by omega)
  have e8 : openV V 8 0 4 = V 8 0 4 := hF 8 0 4 (by omega) (by omega)
  have h1 := h.1
  have h2 := h.2
  unfold hasB at h1
  unfold place at h2
  exact o.worthE h1.1 (by omega) h2.1 (by omega) h2.2.2.1 (by omega)) rfl
theorem e_prf (hI : DayOk V) (f : EQ 0 0 V W) (hk : V 0 0 11 = -9) (hk2 : W 0 0 11 = -9) : prf W = prf V := prf_e hI f (sc0 hk hk2)
theorem gt_s (V : DM) : gt V 1 0 6 = V 1 0 6 ∧ gt V 8 0 4 = V 8 0 4 := ⟨(Fr.rf V).gtF 1 0 6 (by omega) (by omega), (Fr.rf V).gtF 8 0 4 (by omega) (by omega)⟩
theorem e_day (hI : DayOk V) (f : EQ 0 0 V W) (hk : V 0 0 11 = -9) (hk2 : W 0 0 11 = -9) (w : Int) : xDay W w = xDay V w := by
  have g := EQ.gtE hI f (sc0 hk hk2)
  exact pif_e Iff.rfl (fun _ => pif_e (by rw [f.n]) (fun _ => sw4_e (g 0 0 9 LC.in0) (by rw [allF_e g, allL_e g]) (allL_e g) (e_prf hI f hk hk2)) rfl) rfl
theorem e_bought (hI : DayOk V) (f : EQ 0 0 V W) (hk : V 0 0 11 = -9) (hk2 : W 0 0 11 = -9) (x w : Int) : xBought W x w = xBought V x w := by
  have g := EQ.gtE hI f (sc0 hk hk2)
  have s := gt_s V
  refine pif_e (hasB_e f x) (fun h => ?_) rfl
  have q : ∀ k : Nat, 16 ≤ k → k ≤ 19 → gt W k 0 x = gt V k 0 x := fun k a b => g k 0 x (LC.t a b h.1 (by rw [s.2]; exact h.2))
  exact sw4_e (q 16 (by omega) (by omega)) (q 17 (by omega) (by omega)) (q 18 (by omega) (by omega)) (q 19 (by omega) (by omega))
theorem e_sold (hI : DayOk V) (f : EQ 0 0 V W) (hk : V 0 0 11 = -9) (hk2 : W 0 0 11 = -9) (s w : Int) : xSold W s w = xSold V s w := by
  have g := EQ.gtE hI f (sc0 hk hk2)
  have e := gt_s V
  refine pif_e (has_e f s) (fun h => ?_) rfl
  have hs : 0 ≤ s ∧ s < gt V 1 0 6 := by rw [e.1]; exact h
  exact sw3_e (g 13 0 s (LC.l hs.1 hs.2)) (g 14 0 s (LC.gp (Or.inl rfl) hs.1 hs.2)) (g 15 0 s (LC.gp (Or.inr rfl) hs.1 hs.2))
theorem amax_c {p q : Int → Int} : ∀ n : Nat, (∀ v : Int, 0 ≤ v → v ≤ (n : Int) → p v = q v) → amax p n = amax q n
  | 0, h => by
    show (p 0, (0 : Int)) = (q 0, 0)
    rw [h 0 (by omega) (by omega)]
  | n + 1, h => by
    show (if (amax p n).1 < p (n + 1) then (p (n + 1), (n : Int) + 1) else amax p n) = if (amax q n).1 < q (n + 1) then (q (n + 1), (n : Int) + 1) else amax q n
    rw [amax_c n (fun v a b => h v a (by omega)), h (n + 1) (by omega) (by omega)]
theorem e_best (hI : DayOk V) (f : EQ 0 0 V W) (hk : V 0 0 11 = -9) (hk2 : W 0 0 11 = -9) (s t w : Int) : xBest W s t w = xBest V s t w := pif_e (place_e f s t) (fun h => pif_e Iff.rfl (fun _ => by
  rw [amax_c (p := bestP W s t) (q := bestP V s t) 30 (fun v a b => prf_e (g := 0) (price_ok hI a (by omega)) (f.up v (by omega)) (sc0 (by rw [vup_k _ _ _ _ (by omega)]; exact hk) (by rw [vup_k _ _ _ _ (by omega)]; exact hk2)))]) rfl) rfl
theorem off_e (f : EQ 0 0 V W) (a x : Int) : EQ 0 0 (offV V a x) (offV W a x) := by
  intro k r i hl
  have hl : LC (V 1 0 5) (V 1 0 6) (V 8 0 4) 0 0 k r i := hl
  by_cases hk : k = 7
  · subst hk
    have q : 0 ≤ r ∧ r < V 1 0 6 ∧ 0 ≤ i ∧ i < V 1 0 5 := by rcases hl with q | q | q | q | q | q | q | q | q <;> omega
    rw [offV_7, offV_7]
    unfold offp
    rw [f 7 r i hl]
  · rw [offV_n _ _ _ _ _ hk, offV_n _ _ _ _ _ hk]
    exact f k r i hl
theorem tofX_e (hI : DayOk V) (f : EQ 0 0 V W) (hk : V 0 0 11 = -9) (hk2 : W 0 0 11 = -9) (t : Int) (st : Int × Int × Int) : ∀ n : Nat, tofX W t st n = tofX V t st n
  | 0 => rfl
  | n + 1 => by
    show (if (tofX W t st n).1 < prf (offV W t (n + 1)) then (prf (offV W t (n + 1)), t, (n : Int) + 1) else tofX W t st n) = if (tofX V t st n).1 < prf (offV V t (n + 1)) then (prf (offV V t (n + 1)), t, (n : Int) + 1) else tofX V t st n
    rw [tofX_e hI f hk hk2 t st n, e_prf (offV_ok hI (show 0 ≤ (n : Int) + 1 by omega)) (off_e f t (n + 1)) (by rw [offV_n _ _ _ _ _ (by omega)]; exact hk) (by rw [offV_n _ _ _ _ _ (by omega)]; exact hk2)]
theorem tof_e (hI : DayOk V) (f : EQ 0 0 V W) (hk : V 0 0 11 = -9) (hk2 : W 0 0 11 = -9) (n : Int) : tof W n = tof V n := by
  unfold tof
  rw [e_prf hI f hk hk2]
  refine iterI_rel (R := fun p q => p = q) rfl (fun j p q _ _ hpq => ?_)
  subst hpq
  exact tofX_e hI f hk hk2 j p 30
theorem e_take (hI : DayOk V) (f : EQ 0 0 V W) (hk : V 0 0 11 = -9) (hk2 : W 0 0 11 = -9) (w : Int) : xTake W w = xTake V w := pif_e Iff.rfl (fun _ => pif_e (by rw [f.n]) (fun _ => by rw [f.h, tof_e hI f hk hk2]) rfl) rfl
theorem e_carried (hI : DayOk V) (f : EQ 0 0 V W) (hk : V 0 0 11 = -9) (hk2 : W 0 0 11 = -9) (s : Int) : xCarried W s = xCarried V s := pif_e (has_e f s) (fun _ => by
  rw [e_prf hI f hk hk2, e_prf (fish_ok hI (s := s) (v := 0) (by omega) (by omega)) (f.up (k := 2) (r := 0) (i := s) 0 (by omega)) (by rw [vup_k _ _ _ _ (by omega)]; exact hk) (by rw [vup_k _ _ _ _ (by omega)]; exact hk2)]) rfl
theorem e_cook (hI : DayOk V) (f : EQ 0 0 V W) (hk : V 0 0 11 = -9) (hk2 : W 0 0 11 = -9) (s t c : Int) : xCook W s t c = xCook V s t c := pif_e (place_e f s t) (fun h => pif_e Iff.rfl (fun _ => by
  have eg10 : ∀ (U : DM), cookV U s t c 0 0 10 = s ∧ cookV U s t c 0 0 11 = t ∧ cookV U s t c 0 0 12 = c := fun U => cookV_0 U s t c
  unfold place at h
  rw [e_prf hI f hk hk2, prf_e (g := 0) (cookV_ok hI s t c) (cookV_e f s t c) (Or.inr ⟨by rw [(eg10 _).1, (eg10 _).1], by rw [(eg10 _).2.1, (eg10 _).2.1], by rw [(eg10 _).2.2, (eg10 _).2.2], by rw [(eg10 _).1]; omega, by rw [(eg10 _).1, cookV_at _ _ _ _ (by omega)]; omega⟩)]) rfl) rfl
theorem fet_e (hI : DayOk V) (f : EQ 0 0 V W) (hk : V 0 0 11 = -9) (hk2 : W 0 0 11 = -9) {k y : Int} (h : FetchR W k y) : FetchR V k y := by
  unfold FetchR at *
  rw [f.n, has_e f k] at h
  rcases h with h | ⟨h0, h | ⟨h1, h | ⟨h2, P, R, h3, h4⟩⟩⟩
  · exact Or.inl h
  · exact Or.inr ⟨h0, Or.inl h⟩
  · exact Or.inr ⟨h0, Or.inr ⟨h1, Or.inl h⟩⟩
  · exact Or.inr ⟨h0, Or.inr ⟨h1, Or.inr ⟨h2, P, R, h3.c (fun g hg => (pD_e hI hk hk2 f hg).symm), h4⟩⟩⟩
theorem fet_u {k x y : Int} (h1 : FetchR V k x) (h2 : FetchR V k y) : x = y := by
  rcases h1 with ⟨a, rfl⟩ | ⟨a, ⟨b, rfl⟩ | ⟨b, ⟨c, d, rfl⟩ | ⟨c, P, R, e, rfl⟩⟩⟩
  · rcases h2 with ⟨a2, rfl⟩ | ⟨a2, -⟩
    · rfl
    · exact absurd a2 a
  · rcases h2 with ⟨a2, -⟩ | ⟨a2, ⟨b2, rfl⟩ | ⟨b2, -⟩⟩
    · exact absurd a a2
    · rfl
    · exact absurd b2 b
  · rcases h2 with ⟨a2, -⟩ | ⟨a2, ⟨b2, -⟩ | ⟨b2, ⟨c2, d2, rfl⟩ | ⟨c2, -⟩⟩⟩
    · exact absurd a a2
    · exact absurd b b2
    · rfl
    · exact absurd ⟨c, d⟩ c2
  · rcases h2 with ⟨a2, -⟩ | ⟨a2, ⟨b2, -⟩ | ⟨b2, ⟨c2, d2, -⟩ | ⟨c2, P2, R2, e2, rfl⟩⟩⟩
    · exact absurd a a2
    · exact absurd b b2
    · exact absurd ⟨c2, d2⟩ c
    · have u := e.u e2
      by_cases q : k < 0
      · rw [if_pos q, if_pos q]; exact u.1
      · rw [if_neg q, if_neg q]
        have hh : has V k := Classical.byContradiction (fun hn => c ⟨by omega, hn⟩)
        exact u.2 k hh.1 hh.2
theorem e_fetch (hI : DayOk V) (f : EQ 0 0 V W) (hk : V 0 0 11 = -9) (hk2 : W 0 0 11 = -9) {k x y : Int} (h1 : FetchR V k x) (h2 : FetchR W k y) : y = x := (fet_u h1 (fet_e hI f hk hk2 h2)).symm
/-! copyOut -/
theorem e_co (f : EQ 0 0 V W) (Z : DM) (s k ln i n : Int) : xCo W Z s k ln i n = xCo V Z s k ln i n := pif_e (has_e f s) (fun _ => pif_e Iff.rfl (fun _ => pif_e (by rw [f.h]) (fun _ => rfl) rfl) rfl) rfl
theorem f_co (f : EQ 0 0 V W) (Z : DM) (s k ln i n : Int) : fCo W Z s k ln i n = fCo V Z s k ln i n := pif_e (has_e f s) (fun _ => rfl) rfl
theorem v_co (hI : DayOk V) (f : EQ 0 0 V W) (Z : DM) (s k ln i n : Int) : EQ 0 0 (vCo V Z s k ln i n) (vCo W Z s k ln i n) := vif_e (by rw [has_e f s, f.h]) (fun _ => by
  intro k' r i' hl
  have hl : LC (V 1 0 5) (V 1 0 6) (V 8 0 4) 0 0 k' r i' := hl
  by_cases e : k' = 7 ∧ r = s
  · obtain ⟨rfl, rfl⟩ := e
    rw [vset_s, vset_s]
    unfold vcp
    split
    · rfl
    · exact f 7 r i' hl
  · have e1 : ∀ (Z : DM) (g : Int → Int), vset Z 7 s g k' r i' = Z k' r i' := fun Z g => by
      unfold vset
      rw [if_neg e]
    rw [e1, e1]
    exact f k' r i' hl) f
theorem ok_co (hI : DayOk V) (Z : DM) (s k ln i n : Int) : DayOk (vCo V Z s k ln i n) := ok_vif (fun h => by
  obtain ⟨h1, h2, h3, h4, h5, h6, h7, h8⟩ := hI
  refine ⟨h1, h2, h3, h4, h5, fun s' t a b c d => ?_, h7, h8⟩
  by_cases e : s' = s
  · rw [e, vset_s]
    unfold vcp
    split
    · next q =>
      have := h.2.2.2 (t - 0) (by omega) (by omega)
      exact this
    · exact h6 s t (by rw [← e]; exact a) (by rw [← e]; exact b) c d
  · rw [vset_r _ _ _ e]
    exact h6 s' t a b c d) hI
theorem co_n (V Z : DM) (s k ln i n : Int) : xCo V Z s k ln i n = xCo V (nz Z) s k ln i n ∧ fCo V Z s k ln i n = fCo V (nz Z) s k ln i n ∧ vCo V Z s k ln i n = vCo V (nz Z) s k ln i n := ⟨rfl, rfl, rfl⟩
end CO2
