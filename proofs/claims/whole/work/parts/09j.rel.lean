section COZ
variable {A B : DM}
theorem z_sheet (p : P2 A B) (k ln n : Int) : xSheet B k ln n = xSheet A k ln n := rfl
theorem z_lose (p : P2 A B) (k : Int) : xLose B k = xLose A k := by show xLose (nz B) k = xLose (nz A) k; rw [p.nz]
theorem z_put (p : P2 A B) (k i : Int) : xPut B k i = xPut A k i := by show xPut (nz B) k i = xPut (nz A) k i; rw [p.nz]
theorem z_cell (p : P2 A B) (k i ln : Int) : xCell B k i ln = xCell A k i ln := by show xCell (nz B) k i ln = xCell (nz A) k i ln; rw [p.nz]
theorem z_copy (p : P2 A B) (k i o j n : Int) : xCopy B k i o j n = xCopy A k i o j n := by show xCopy (nz B) k i o j n = xCopy (nz A) k i o j n; rw [p.nz]
theorem z_look (p : P2 A B) (k ln i n : Int) : look B k ln i n = look A k ln i n := by show look (nz B) k ln i n = look (nz A) k ln i n; rw [p.nz]
theorem z_mean (p : P2 A B) (k ln i n q c a o w : Int) : xMean B k ln i n q c a o w = xMean A k ln i n q c a o w := by show xMean (nz B) k ln i n q c a o w = xMean (nz A) k ln i n q c a o w; rw [p.nz]
theorem z_how (p : P2 A B) (k ln i n c a o : Int) : xHow B k ln i n c a o = xHow A k ln i n c a o := by show xHow (nz B) k ln i n c a o = xHow (nz A) k ln i n c a o; rw [p.nz]
theorem z_rests (p : P2 A B) (k ln i : Int) : xRests B k ln i = xRests A k ln i := by show xRests (nz B) k ln i = xRests (nz A) k ln i; rw [p.nz]
theorem z_mixed (p : P2 A B) (k ln i w h : Int) : xMixed B k ln i w h = xMixed A k ln i w h := by show xMixed (nz B) k ln i w h = xMixed (nz A) k ln i w h; rw [p.nz]
theorem P2.fl (p : P2 A B) {a b : Int} (h : b = a) : P2 (fl A a) (fl B b) := by rw [h]; exact p.up 0 0 6 a
theorem P2.trc (p : P2 A B) (n : Int) : P2 (tr A n) (tr B n) := by
  unfold tr
  rw [p 0 0 5 (Or.inl rfl)]
  exact p.up 0 0 5 _
theorem P2.giv (p : P2 A B) (k ln n : Int) : P2 (giveZ A k ln n) (giveZ B k ln n) := fun k' r i hk => by
  unfold giveZ
  rw [p k' r i hk]
theorem P2.vs (p : P2 A B) (o : Int) {f g : Int → Int} (h : g = f) : P2 (vset A 7 o f) (vset B 7 o g) := fun k' r i hk => by
  rw [h]
  by_cases e : k' = 7 ∧ r = o
  · obtain ⟨rfl, rfl⟩ := e
    rw [vset_s, vset_s]
  · have e1 : ∀ Z : DM, vset Z 7 o f k' r i = Z k' r i := fun Z => by
      unfold vset
      rw [if_neg e]
    rw [e1, e1]
    exact p k' r i hk
theorem P2.r7 (p : P2 A B) (k : Int) : B 7 k = A 7 k := funext fun i => p 7 k i (by omega)
theorem zz_sheet (p : P2 A B) (k ln n : Int) : P2 (zSheet A k ln n) (zSheet B k ln n) := P2.vif Iff.rfl ((p.fl rfl).giv k ln n) (p.fl rfl)
theorem zz_lose (p : P2 A B) (k : Int) : P2 (zLose A k) (zLose B k) := P2.vif Iff.rfl (p.up 9 0 k _) p
theorem zz_put (p : P2 A B) (k i v : Int) : P2 (zPut A k i v) (zPut B k i v) := P2.vif (by rw [z_put p]) (by rw [p 8 0 k (by omega)]; exact (p.fl rfl).up 7 k i _) (p.fl (by rw [z_put p]))
theorem zz_copy (p : P2 A B) (k i o j n : Int) : P2 (zCopy A k i o j n) (zCopy B k i o j n) := P2.vif (by rw [z_copy p]) ((p.fl rfl).vs o (by rw [p.r7 o, p.r7 k])) (p.fl (by rw [z_copy p]))
theorem zz_tell {V W : DM} (f : EQ 0 0 V W) (p : P2 A B) (x : Int) : P2 (zTell W A x) (zTell V B x) := by
  unfold zTell
  by_cases h : hasB V x
  · rw [vif_t h, vif_t ((hasB_e f x).mpr h), f.b h (k := 9) (by omega) (by omega)]
    split
    · exact (((p.trc 3).trc 2).trc 1).trc 1
    · split
      · exact (p.trc 2).trc 1
      · exact p.trc 1
  · rw [vif_f h, vif_f (fun q => h ((hasB_e f x).mp q))]
    exact p
theorem zz_greet {V W : DM} (f : EQ 0 0 V W) (p : P2 A B) (x : Int) : P2 (zGreet W A x) (zGreet V B x) := by
  unfold zGreet
  by_cases h : hasB V x
  · rw [vif_t h, vif_t ((hasB_e f x).mpr h), f.b h (k := 9) (by omega) (by omega)]
    split
    · exact p.trc 5
    · exact p.trc 4
  · rw [vif_f h, vif_f (fun q => h ((hasB_e f x).mp q))]
    exact p
/-! sheets that are changed are still sheets -/
theorem sh_9 {Z Z2 : DM} (h : ShOk Z) (e : ∀ k, Z2 9 0 k = Z 9 0 k) : ShOk Z2 := fun k a b => by rw [e]; exact h k a b
theorem sh_vif {P : Prop} {Z Z2 : DM} (h1 : P → ShOk Z) (h2 : ShOk Z2) : ShOk (vif P Z Z2) := by
  by_cases q : P
  · rw [vif_t q]; exact h1 q
  · rw [vif_f q]; exact h2
theorem sh_fl {Z : DM} (h : ShOk Z) (a : Int) : ShOk (fl Z a) := sh_9 h (fun _ => rfl)
theorem sh_tr {Z : DM} (h : ShOk Z) (a : Int) : ShOk (tr Z a) := sh_9 h (fun _ => rfl)
theorem sh_sheet {Z : DM} (h : ShOk Z) (k ln n : Int) : ShOk (zSheet Z k ln n) := sh_vif (fun q => fun k' a b => by
  show -1 ≤ (if 9 = 8 ∧ (0 : Int) = 0 ∧ k' = k then ln else if 9 = 9 ∧ (0 : Int) = 0 ∧ k' = k then n else if 9 = 7 ∧ 0 = k ∧ 0 ≤ k' ∧ k' < n then 0 else Z 9 0 k') ∧ (if 9 = 8 ∧ (0 : Int) = 0 ∧ k' = k then ln else if 9 = 9 ∧ (0 : Int) = 0 ∧ k' = k then n else if 9 = 7 ∧ 0 = k ∧ 0 ≤ k' ∧ k' < n then 0 else Z 9 0 k') ≤ 60
  rw [if_neg (by omega)]
  by_cases e : k' = k
  · rw [if_pos ⟨rfl, rfl, e⟩]; omega
  · rw [if_neg (fun x => e x.2.2), if_neg (by omega)]; exact h k' a b) (sh_fl h _)
theorem sh_lose {Z : DM} (h : ShOk Z) (k : Int) : ShOk (zLose Z k) := sh_vif (fun _ => fun k' a b => by
  by_cases e : k' = k
  · rw [e, vup_v]; omega
  · rw [vup_j _ _ _ _ e]; exact h k' a b) h
theorem sh_put {Z : DM} (h : ShOk Z) (k i v : Int) : ShOk (zPut Z k i v) := sh_vif (fun _ => sh_9 h (fun q => by rw [vup_k _ _ _ _ (by omega)]; rfl)) (sh_fl h _)
theorem sh_copy {Z : DM} (h : ShOk Z) (k i o j n : Int) : ShOk (zCopy Z k i o j n) := sh_vif (fun _ => sh_9 h (fun q => by rw [vset_k _ _ _ (by omega)]; rfl)) (sh_fl h _)
theorem sh_tell {Z : DM} (V : DM) (h : ShOk Z) (x : Int) : ShOk (zTell V Z x) := sh_vif (fun _ => by
  split
  · exact sh_tr (sh_tr (sh_tr (sh_tr h _) _) _) _
  · split
    · exact sh_tr (sh_tr h _) _
    · exact sh_tr h _) h
theorem sh_greet {Z : DM} (V : DM) (h : ShOk Z) (x : Int) : ShOk (zGreet V Z x) := sh_vif (fun _ => by
  split
  · exact sh_tr h _
  · exact sh_tr h _) h
end COZ
/-! a new stall -/
theorem FF.u {f : Int → Int} {i n a b : Int} (h : FF f i n a) (h2 : FF f i n b) : a = b := by
  rcases h with ⟨j, j0, j1, j2, j3, rfl⟩ | ⟨q, h⟩
  · rcases h2 with ⟨j', k0, k1, k2, k3, rfl⟩ | ⟨q2, -⟩
    · rcases Int.lt_trichotomy a b with e | e | e
      · exact absurd (k3 a j0 e) j2
      · exact e
      · exact absurd (j3 b k0 e) k2
    · exact absurd (q2 a j0 j1) j2
  · rcases h2 with ⟨j', k0, k1, k2, k3, -⟩ | ⟨q2, h2⟩
    · exact absurd (q j' k0 k1) k2
    · rcases h with ⟨a1, a2, rfl⟩ | ⟨a1, rfl⟩
      · rcases h2 with ⟨b1, b2, rfl⟩ | ⟨b1, rfl⟩
        · rfl
        · exact absurd ⟨a1, a2⟩ b1
      · rcases h2 with ⟨b1, b2, rfl⟩ | ⟨b1, rfl⟩
        · exact absurd ⟨b1, b2⟩ a1
        · rfl
theorem gon_fig {g : Int → Int} {i n : Int} (hok : (2 < n ∧ n ≤ 26 ∧ (n - 2) % 6 = 0) ∧ ∀ q, 0 ≤ q → q < n → gon (g (i + q)) q) {s o : Int} (s0 : 0 ≤ s) (s1 : s < (n - 2) / 6) (o0 : 2 ≤ o) (o1 : o ≤ 5) : 0 ≤ g (i + 2 + 6 * s + o) - 48 ∧ g (i + 2 + 6 * s + o) - 48 ≤ 9 ∧ (o = 5 → g (i + 2 + 6 * s + o) - 48 ≤ 3) := by
  have h := hok.2 (2 + 6 * s + o) (by omega) (by omega)
  rw [show i + (2 + 6 * s + o) = i + 2 + 6 * s + o by omega] at h
  by_cases e : o = 5
  · have := (gon_5 (by omega) (by omega) (by omega)).mp h
    omega
  · have := (gon_d (by omega) (by omega) (by omega)).mp h
    omega
theorem new_ok {V Z V9 : DM} {k i n : Int} (hF : FF (Z 7 k) i n (-9)) (n0 : 0 ≤ n) (h : NewStall V Z k i n V9) : DayOk V9 ∧ V9 0 = V 0 ∧ ¬ V9 1 0 6 = 0 := by
  obtain ⟨h1, h2, h3, h4, h5, h6, h7, h8⟩ := h
  have hok := hF.ok n0
  have g1 := gon_1 (hok.2 1 (by omega) (by omega))
  refine ⟨⟨by omega, by omega, by omega, fun x a b => by omega, fun s a b => ?_, fun s t a b c d => ?_, by omega, Or.inl h4⟩, h6, by omega⟩
  · have q := h7 s a (by omega)
    unfold SortI at q
    have f2 := gon_fig hok (s := s) (o := 2) a (by omega) (by omega) (by omega)
    have f3 := gon_fig hok (s := s) (o := 3) a (by omega) (by omega) (by omega)
    have f4 := gon_fig hok (s := s) (o := 4) a (by omega) (by omega) (by omega)
    have f5 := gon_fig hok (s := s) (o := 5) a (by omega) (by omega) (by omega)
    rw [q.1, q.2.1, q.2.2.1, q.2.2.2]
    omega
  · rw [h8 s t a (by omega) c (by omega)]
    omega
theorem new_e {V W Z V9 W9 : DM} {k i n : Int} (h : NewStall V Z k i n V9) (g : NewStall W Z k i n W9) : EQ 0 0 V9 W9 := by
  obtain ⟨h1, h2, h3, h4, h5, h6, h7, h8⟩ := h
  obtain ⟨g1, g2, g3, g4, g5, g6, g7, g8⟩ := g
  intro k' r i' hl
  rw [h1, h2, h5] at hl
  rcases hl with q | q | q | q | q | q | q | q | q
  · obtain ⟨rfl, rfl, a, b⟩ := q
    have e : i' = 5 ∨ i' = 6 ∨ i' = 7 ∨ i' = 8 := by omega
    rcases e with rfl | rfl | rfl | rfl
    · rw [g1, h1]
    · rw [g2, h2]
    · rw [g3, h3]
    · rw [g4, h4]
  · obtain ⟨a, b, rfl, c, d⟩ := q
    have q1 := h7 i' c d
    have q2 := g7 i' c d
    unfold SortI at q1 q2
    have e : k' = 2 ∨ k' = 3 ∨ k' = 4 ∨ k' = 5 := by omega
    rcases e with rfl | rfl | rfl | rfl
    · rw [q1.1, q2.1]
    · rw [q1.2.1, q2.2.1]
    · rw [q1.2.2.1, q2.2.2.1]
    · rw [q1.2.2.2, q2.2.2.2]
  · obtain ⟨rfl, a, b, c, d⟩ := q
    rw [g8 r i' a b c d, h8 r i' a b c d]
  · obtain ⟨rfl, rfl, rfl⟩ := q
    rw [g5, h5]
  · omega
  · omega
  · omega
  · omega
  · omega
theorem stall_n {V Z : DM} {k ln i n x : Int} {W : DM} : StallR V Z k ln i n x W ↔ StallR V (nz Z) k ln i n x W := Iff.rfl
theorem stall_e {V W Z Z9 V9 W9 : DM} {k ln i n x y : Int} (hI : DayOk V) (hk : V 0 0 11 = -9) (hz : V 1 0 6 = 0 → V 1 0 5 = 0) (f : EQ 0 0 V W) (p : P2 Z9 Z) (h : StallR V Z k ln i n x V9) (g : StallR W Z9 k ln i n y W9) : y = x ∧ DayOk V9 ∧ V9 0 0 11 = -9 ∧ (V9 1 0 6 = 0 → V9 1 0 5 = 0) ∧ EQ 0 0 V9 W9 := by
  rw [stall_n, ← p.nz, ← stall_n] at g
  rcases h with ⟨a, rfl, rfl⟩ | ⟨a, c, hF, h⟩
  · rcases g with ⟨-, rfl, rfl⟩ | ⟨b, -⟩
    · exact ⟨rfl, hI, hk, hz, f⟩
    · exact absurd b a
  · rcases g with ⟨b, -⟩ | ⟨b, d, hG, g⟩
    · exact absurd a b
    · have e := hF.u hG
      subst e
      rcases h with ⟨h1, rfl, rfl⟩ | ⟨h1, rfl, h2⟩
      · rcases g with ⟨-, rfl, rfl⟩ | ⟨g1, -⟩
        · exact ⟨rfl, hI, hk, hz, f⟩
        · exact absurd g1 h1
      · rcases g with ⟨g1, -⟩ | ⟨g1, rfl, g2⟩
        · exact absurd h1 g1
        · rw [h1] at hF
          have n0 : 0 ≤ n := by
            unfold look at a
            repeat' split at a
            all_goals omega
          have o := new_ok hF n0 h2
          have e9 := new_e h2 g2
          exact ⟨e9.n, o.1, by rw [o.2.1]; exact hk, fun q => absurd q o.2.2, e9⟩
