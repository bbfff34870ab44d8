theorem WtI.sell {B : DM} {t x s q u : Int} (h : WtI B t x) : WtI (sell0 B s u q) t x := fun y y0 y1 => by
  rw [sell0_at _ _ _ _ (by omega)] at y1
  rw [sell0_at _ _ _ _ (by omega), sell0_at _ _ _ _ (by omega)]
  exact h y y0 y1
set_option maxRecDepth 100000 in
set_option maxHeartbeats 400000 in
theorem L_X9_goThrough3 {X : PX} {S : SW} {M : Mem} {V : DM} {D : DM} {s z q g : Int} {W0 : DM} {t : Int}  (hI : DayOk (mv V)) (hD : DayOk D) (hcD : CookOk D) (hDV : ∀ (k : Nat) (r i : Int), k ≠ 0 → D k r i = mv V k r i) (hD0 : D 0 0 10 = s ∧ D 0 0 11 = z ∧ D 0 0 12 = q) (hg : g = 1 → z = -9) (hz : InR z) (hs : InR s) (hq : InR q) (hF : Fr D W0) (t0 : 0 ≤ t) (t1 : t < V 0 0 1) (K : ∀ W2 : DM, EQ g 1 (hourV W0 t) (mv W2) → K3 V W2 → WtI (mv W2) (t + 1) 0 → PW X S (mst M 3 W2) 218 [some (rv S 3 0 0), some (iv s), some (iv z), some (iv q), some (iv t), none, none] []) (C : Cx X S RX9 cX9_goThrough 6 144) (R : CR X S (rVQ (fun N => ∃ U, N = mst M 3 U ∧ EQ g 1 (gt D) (mv U) ∧ K3 V U)) none) :
    ∀ (n9 : Nat) (x : Int) (W : DM), (0 ≤ x) → (x ≤ V 0 0 15) → (EQ g 1 (iterI (fun x U => visit U x t) (cookAt W0 t) x) (mv W)) → (K3 V W) → (WtI (mv W) t x) → V 0 0 15 - x < n9 → PW X S (mst M 3 W) 138 [some (rv S 3 0 0), some (iv s), some (iv z), some (iv q), some (iv t), some (iv x), none] [] := by
  obtain ⟨i1, i2, i3, i4, i5, i6, i7, i8⟩ := id hI
  have e5 : mv V 1 0 5 = V 0 0 1 := rfl
  have e6 : mv V 1 0 6 = V 0 0 2 := rfl
  have e7 : mv V 1 0 7 = V 0 0 8 := rfl
  have e8 : mv V 1 0 8 = V 0 0 9 := rfl
  have e84 : mv V 8 0 4 = V 0 0 15 := rfl
  intro n9
  induction n9 with
  | zero => intro x W x0 x1 hE hK hQ hn9; omega
  | succ n9 ih =>
    intro x W x0 x1 hE hK hQ hn9
    have hFW := hour_W hF (t := t) (x := x) rfl
    have e8 : W 0 0 15 = V 0 0 15 := hE.c.trans ((hFW 8 0 4 (by omega) (by omega)).trans (hDV 8 0 4 (by omega)))
    have e5 : W 0 0 1 = V 0 0 1 := hE.h.trans ((hFW 1 0 5 (by omega) (by omega)).trans (hDV 1 0 5 (by omega)))
    have e6 : W 0 0 2 = V 0 0 2 := hE.n.trans ((hFW 1 0 6 (by omega) (by omega)).trans (hDV 1 0 6 (by omega)))
    have hIW : DayOk (mv W) := (hD.fr hFW).eq hE
    refine pw_iload C dX9_goThrough_138 rfl ?_
    refine pw_aload_n C dX9_goThrough_140 rfl ?_
    refine gv_9_153 C dX9_goThrough_141 (fun r141 => ?_)
    refine pw_icmp_ge (tgt := 218) C dX9_goThrough_144 rfl (by omega) (by omega) (fun c144 => ?_) (fun c144 => ?_)
    · have e : V 0 0 15 = x := by omega
      refine pw_fg 5 rfl (K W ?_ hK ?_)
      · unfold hourV
        rw [(hF 8 0 4 (by omega) (by omega)).trans (hDV 8 0 4 (by omega)), show mv V 8 0 4 = x from e]
        exact hE
      · rw [show x = mv W 8 0 4 from by show x = W 0 0 15; omega] at hQ
        exact hQ.hour
    · have ix : (0 ≤ W 17 0 x ∧ W 17 0 x ≤ 2) ∧ (0 ≤ W 18 0 x ∧ W 18 0 x < W 0 0 2) ∧ (0 ≤ W 19 0 x ∧ W 19 0 x ≤ 40) ∧ (0 ≤ W 20 0 x ∧ W 20 0 x < W 0 0 1) := hIW.2.2.2.1 x x0 (by show x < W 0 0 15; omega)
      have hcm : comesP (mv W) x t ↔ (t = W 20 0 x ∨ (W 17 0 x = 2 ∧ W 20 0 x < t ∧ W 23 0 x < 0)) := hQ.comes x0 (by show x < W 0 0 15; omega)
      have hv := EQ.visitE (hD.fr hFW) hE (x := x) (t := t) x0 (by rw [← hE.c]; show x < W 0 0 15; omega) t0 (by rw [← hE.h]; show t < W 0 0 1; omega)
      have hq2 := hQ.visitW hIW x0 (by show x < W 0 0 15; omega) t0 (by show t < W 0 0 1; omega)
      refine pw_aload_n C dX9_goThrough_147 rfl ?_
      refine gf_9_28 C dX9_goThrough_148 ?_
      refine pw_iload C dX9_goThrough_151 rfl ?_
      refine pw_ialdV C aM_17 (by omega) (by omega) (by decide) dX9_goThrough_153 (fun r153 => ?_)
      refine pw_iconst C dX9_goThrough_154 ?_
      refine pw_icmp_ne (tgt := 184) C dX9_goThrough_155 rfl (by omega) (by omega) (fun c155 => ?_) (fun c155 => ?_)
      · refine pw_iconst C dX9_goThrough_184 ?_
        refine pw_istore_6 C dX9_goThrough_185 (k := ?_)
        refine pw_iload C dX9_goThrough_187 rfl ?_
        refine pw_aload_n C dX9_goThrough_189 rfl ?_
        refine gf_9_37 C dX9_goThrough_190 ?_
        refine pw_iload C dX9_goThrough_193 rfl ?_
        refine pw_ialdV C aM_20 (by omega) (by omega) (by decide) dX9_goThrough_195 (fun r195 => ?_)
        refine pw_icmp_eq (tgt := 204) C dX9_goThrough_196 rfl (by omega) (by omega) (fun c196 => ?_) (fun c196 => ?_)
        · refine pw_aload_n C dX9_goThrough_204 rfl ?_
          refine pw_iload C dX9_goThrough_205 rfl ?_
          refine pw_iload C dX9_goThrough_207 rfl ?_
          refine pw_cVQV C [_, _] mi_X9_comes mv_X9_comes ml_9_217 oM_0 rfl (c_X9_comes (by omega) (by omega) hIW (by omega) (by omega) (by omega) (by omega)) (by decide) rfl (Nat.le_of_ble_eq_true rfl) dX9_goThrough_209 ?_
          rintro N9 ⟨U9, rfl, hU, kU⟩
          refine pw_iinc_5 C dX9_goThrough_212 (k := ?_)
          refine pw_goto (tgt := 138) C dX9_goThrough_215 rfl ?_
          first
            | (have hc : comesP (mv W) x t := hcm.mpr (by omega)
               rw [visit_c hc, ← hU] at hv
               rw [visit_c hc, ← hU] at hq2
               refine pw_fg 6 rfl (ih (x + 1) _ (by omega) (by omega) ?_ (hK.tr kU) hq2 (by omega))
               rw [iterI_s _ _ x0]
               exact hv)
            | (have hc : ¬ comesP (mv W) x t := fun h => by
                 have := hcm.mp h
                 omega
               rw [visit_n hc] at hv
               rw [visit_n hc] at hq2
               refine pw_fg 6 rfl (ih (x + 1) _ (by omega) (by omega) ?_ hK hq2 (by omega))
               rw [iterI_s _ _ x0]
               exact hv)
        · refine pw_iload C dX9_goThrough_199 rfl ?_
          refine pw_if_eq (tgt := 212) C dX9_goThrough_201 rfl (by omega) (fun _ => ?_) (fun q9 => absurd q9 (by decide))
          refine pw_iinc_5 C dX9_goThrough_212 (k := ?_)
          refine pw_goto (tgt := 138) C dX9_goThrough_215 rfl ?_
          first
            | (have hc : comesP (mv W) x t := hcm.mpr (by omega)
               rw [visit_c hc, ← hU] at hv
               rw [visit_c hc, ← hU] at hq2
               refine pw_fg 6 rfl (ih (x + 1) _ (by omega) (by omega) ?_ (hK.tr kU) hq2 (by omega))
               rw [iterI_s _ _ x0]
               exact hv)
            | (have hc : ¬ comesP (mv W) x t := fun h => by
                 have := hcm.mp h
                 omega
               rw [visit_n hc] at hv
               rw [visit_n hc] at hq2
               refine pw_fg 6 rfl (ih (x + 1) _ (by omega) (by omega) ?_ hK hq2 (by omega))
               rw [iterI_s _ _ x0]
               exact hv)
      · refine pw_iload C dX9_goThrough_158 rfl ?_
        refine pw_aload_n C dX9_goThrough_160 rfl ?_
        refine gf_9_37 C dX9_goThrough_161 ?_
        refine pw_iload C dX9_goThrough_164 rfl ?_
        refine pw_ialdV C aM_20 (by omega) (by omega) (by decide) dX9_goThrough_166 (fun r166 => ?_)
        refine pw_icmp_le (tgt := 184) C dX9_goThrough_167 rfl (by omega) (by omega) (fun c167 => ?_) (fun c167 => ?_)
        · refine pw_iconst C dX9_goThrough_184 ?_
          refine pw_istore_6 C dX9_goThrough_185 (k := ?_)
          refine pw_iload C dX9_goThrough_187 rfl ?_
          refine pw_aload_n C dX9_goThrough_189 rfl ?_
          refine gf_9_37 C dX9_goThrough_190 ?_
          refine pw_iload C dX9_goThrough_193 rfl ?_
          refine pw_ialdV C aM_20 (by omega) (by omega) (by decide) dX9_goThrough_195 (fun r195 => ?_)
          refine pw_icmp_eq (tgt := 204) C dX9_goThrough_196 rfl (by omega) (by omega) (fun c196 => ?_) (fun c196 => ?_)
          · refine pw_aload_n C dX9_goThrough_204 rfl ?_
            refine pw_iload C dX9_goThrough_205 rfl ?_
            refine pw_iload C dX9_goThrough_207 rfl ?_
            refine pw_cVQV C [_, _] mi_X9_comes mv_X9_comes ml_9_217 oM_0 rfl (c_X9_comes (by omega) (by omega) hIW (by omega) (by omega) (by omega) (by omega)) (by decide) rfl (Nat.le_of_ble_eq_true rfl) dX9_goThrough_209 ?_
            rintro N9 ⟨U9, rfl, hU, kU⟩
            refine pw_iinc_5 C dX9_goThrough_212 (k := ?_)
            refine pw_goto (tgt := 138) C dX9_goThrough_215 rfl ?_
            first
              | (have hc : comesP (mv W) x t := hcm.mpr (by omega)
                 rw [visit_c hc, ← hU] at hv
                 rw [visit_c hc, ← hU] at hq2
                 refine pw_fg 6 rfl (ih (x + 1) _ (by omega) (by omega) ?_ (hK.tr kU) hq2 (by omega))
                 rw [iterI_s _ _ x0]
                 exact hv)
              | (have hc : ¬ comesP (mv W) x t := fun h => by
                   have := hcm.mp h
                   omega
                 rw [visit_n hc] at hv
                 rw [visit_n hc] at hq2
                 refine pw_fg 6 rfl (ih (x + 1) _ (by omega) (by omega) ?_ hK hq2 (by omega))
                 rw [iterI_s _ _ x0]
                 exact hv)
          · refine pw_iload C dX9_goThrough_199 rfl ?_
            refine pw_if_eq (tgt := 212) C dX9_goThrough_201 rfl (by omega) (fun _ => ?_) (fun q9 => absurd q9 (by decide))
            refine pw_iinc_5 C dX9_goThrough_212 (k := ?_)
            refine pw_goto (tgt := 138) C dX9_goThrough_215 rfl ?_
            first
              | (have hc : comesP (mv W) x t := hcm.mpr (by omega)
                 rw [visit_c hc, ← hU] at hv
                 rw [visit_c hc, ← hU] at hq2
                 refine pw_fg 6 rfl (ih (x + 1) _ (by omega) (by omega) ?_ (hK.tr kU) hq2 (by omega))
                 rw [iterI_s _ _ x0]
                 exact hv)
              | (have hc : ¬ comesP (mv W) x t := fun h => by
                   have := hcm.mp h
                   omega
                 rw [visit_n hc] at hv
                 rw [visit_n hc] at hq2
                 refine pw_fg 6 rfl (ih (x + 1) _ (by omega) (by omega) ?_ hK hq2 (by omega))
                 rw [iterI_s _ _ x0]
                 exact hv)
        · refine pw_aload_n C dX9_goThrough_170 rfl ?_
          refine gf_9_43 C dX9_goThrough_171 ?_
          refine pw_iload C dX9_goThrough_174 rfl ?_
          refine pw_ialdV C aM_23 (by omega) (by omega) (by decide) dX9_goThrough_176 (fun r176 => ?_)
          refine pw_if_ge (tgt := 184) C dX9_goThrough_177 rfl (by omega) (fun c177 => ?_) (fun c177 => ?_)
          · refine pw_iconst C dX9_goThrough_184 ?_
            refine pw_istore_6 C dX9_goThrough_185 (k := ?_)
            refine pw_iload C dX9_goThrough_187 rfl ?_
            refine pw_aload_n C dX9_goThrough_189 rfl ?_
            refine gf_9_37 C dX9_goThrough_190 ?_
            refine pw_iload C dX9_goThrough_193 rfl ?_
            refine pw_ialdV C aM_20 (by omega) (by omega) (by decide) dX9_goThrough_195 (fun r195 => ?_)
            refine pw_icmp_eq (tgt := 204) C dX9_goThrough_196 rfl (by omega) (by omega) (fun c196 => ?_) (fun c196 => ?_)
            · refine pw_aload_n C dX9_goThrough_204 rfl ?_
              refine pw_iload C dX9_goThrough_205 rfl ?_
              refine pw_iload C dX9_goThrough_207 rfl ?_
              refine pw_cVQV C [_, _] mi_X9_comes mv_X9_comes ml_9_217 oM_0 rfl (c_X9_comes (by omega) (by omega) hIW (by omega) (by omega) (by omega) (by omega)) (by decide) rfl (Nat.le_of_ble_eq_true rfl) dX9_goThrough_209 ?_
              rintro N9 ⟨U9, rfl, hU, kU⟩
              refine pw_iinc_5 C dX9_goThrough_212 (k := ?_)
              refine pw_goto (tgt := 138) C dX9_goThrough_215 rfl ?_
              first
                | (have hc : comesP (mv W) x t := hcm.mpr (by omega)
                   rw [visit_c hc, ← hU] at hv
                   rw [visit_c hc, ← hU] at hq2
                   refine pw_fg 6 rfl (ih (x + 1) _ (by omega) (by omega) ?_ (hK.tr kU) hq2 (by omega))
                   rw [iterI_s _ _ x0]
                   exact hv)
                | (have hc : ¬ comesP (mv W) x t := fun h => by
                     have := hcm.mp h
                     omega
                   rw [visit_n hc] at hv
                   rw [visit_n hc] at hq2
                   refine pw_fg 6 rfl (ih (x + 1) _ (by omega) (by omega) ?_ hK hq2 (by omega))
                   rw [iterI_s _ _ x0]
                   exact hv)
            · refine pw_iload C dX9_goThrough_199 rfl ?_
              refine pw_if_eq (tgt := 212) C dX9_goThrough_201 rfl (by omega) (fun _ => ?_) (fun q9 => absurd q9 (by decide))
              refine pw_iinc_5 C dX9_goThrough_212 (k := ?_)
              refine pw_goto (tgt := 138) C dX9_goThrough_215 rfl ?_
              first
                | (have hc : comesP (mv W) x t := hcm.mpr (by omega)
                   rw [visit_c hc, ← hU] at hv
                   rw [visit_c hc, ← hU] at hq2
                   refine pw_fg 6 rfl (ih (x + 1) _ (by omega) (by omega) ?_ (hK.tr kU) hq2 (by omega))
                   rw [iterI_s _ _ x0]
                   exact hv)
                | (have hc : ¬ comesP (mv W) x t := fun h => by
                     have := hcm.mp h
                     omega
                   rw [visit_n hc] at hv
                   rw [visit_n hc] at hq2
                   refine pw_fg 6 rfl (ih (x + 1) _ (by omega) (by omega) ?_ hK hq2 (by omega))
                   rw [iterI_s _ _ x0]
                   exact hv)
          · refine pw_iconst C dX9_goThrough_180 ?_
            refine pw_goto (tgt := 185) C dX9_goThrough_181 rfl ?_
            refine pw_istore_6 C dX9_goThrough_185 (k := ?_)
            refine pw_iload C dX9_goThrough_187 rfl ?_
            refine pw_aload_n C dX9_goThrough_189 rfl ?_
            refine gf_9_37 C dX9_goThrough_190 ?_
            refine pw_iload C dX9_goThrough_193 rfl ?_
            refine pw_ialdV C aM_20 (by omega) (by omega) (by decide) dX9_goThrough_195 (fun r195 => ?_)
            refine pw_icmp_eq (tgt := 204) C dX9_goThrough_196 rfl (by omega) (by omega) (fun c196 => ?_) (fun c196 => ?_)
            · refine pw_aload_n C dX9_goThrough_204 rfl ?_
              refine pw_iload C dX9_goThrough_205 rfl ?_
              refine pw_iload C dX9_goThrough_207 rfl ?_
              refine pw_cVQV C [_, _] mi_X9_comes mv_X9_comes ml_9_217 oM_0 rfl (c_X9_comes (by omega) (by omega) hIW (by omega) (by omega) (by omega) (by omega)) (by decide) rfl (Nat.le_of_ble_eq_true rfl) dX9_goThrough_209 ?_
              rintro N9 ⟨U9, rfl, hU, kU⟩
              refine pw_iinc_5 C dX9_goThrough_212 (k := ?_)
              refine pw_goto (tgt := 138) C dX9_goThrough_215 rfl ?_
              first
                | (have hc : comesP (mv W) x t := hcm.mpr (by omega)
                   rw [visit_c hc, ← hU] at hv
                   rw [visit_c hc, ← hU] at hq2
                   refine pw_fg 6 rfl (ih (x + 1) _ (by omega) (by omega) ?_ (hK.tr kU) hq2 (by omega))
                   rw [iterI_s _ _ x0]
                   exact hv)
                | (have hc : ¬ comesP (mv W) x t := fun h => by
                     have := hcm.mp h
                     omega
                   rw [visit_n hc] at hv
                   rw [visit_n hc] at hq2
                   refine pw_fg 6 rfl (ih (x + 1) _ (by omega) (by omega) ?_ hK hq2 (by omega))
                   rw [iterI_s _ _ x0]
                   exact hv)
            · refine pw_iload C dX9_goThrough_199 rfl ?_
              refine pw_if_eq (tgt := 212) C dX9_goThrough_201 rfl (by omega) (fun q9 => absurd q9 (by decide)) (fun _ => ?_)
              refine pw_aload_n C dX9_goThrough_204 rfl ?_
              refine pw_iload C dX9_goThrough_205 rfl ?_
              refine pw_iload C dX9_goThrough_207 rfl ?_
              refine pw_cVQV C [_, _] mi_X9_comes mv_X9_comes ml_9_217 oM_0 rfl (c_X9_comes (by omega) (by omega) hIW (by omega) (by omega) (by omega) (by omega)) (by decide) rfl (Nat.le_of_ble_eq_true rfl) dX9_goThrough_209 ?_
              rintro N9 ⟨U9, rfl, hU, kU⟩
              refine pw_iinc_5 C dX9_goThrough_212 (k := ?_)
              refine pw_goto (tgt := 138) C dX9_goThrough_215 rfl ?_
              first
                | (have hc : comesP (mv W) x t := hcm.mpr (by omega)
                   rw [visit_c hc, ← hU] at hv
                   rw [visit_c hc, ← hU] at hq2
                   refine pw_fg 6 rfl (ih (x + 1) _ (by omega) (by omega) ?_ (hK.tr kU) hq2 (by omega))
                   rw [iterI_s _ _ x0]
                   exact hv)
                | (have hc : ¬ comesP (mv W) x t := fun h => by
                     have := hcm.mp h
                     omega
                   rw [visit_n hc] at hv
                   rw [visit_n hc] at hq2
                   refine pw_fg 6 rfl (ih (x + 1) _ (by omega) (by omega) ?_ hK hq2 (by omega))
                   rw [iterI_s _ _ x0]
                   exact hv)
set_option maxRecDepth 100000 in
set_option maxHeartbeats 400000 in
theorem L_X9_goThrough2 {X : PX} {S : SW} {M : Mem} {V : DM} {D : DM} {s z q g : Int} {W0 : DM} {t : Int}  (hI : DayOk (mv V)) (hD : DayOk D) (hcD : CookOk D) (hDV : ∀ (k : Nat) (r i : Int), k ≠ 0 → D k r i = mv V k r i) (hD0 : D 0 0 10 = s ∧ D 0 0 11 = z ∧ D 0 0 12 = q) (hg : g = 1 → z = -9) (hz : InR z) (hs : InR s) (hq : InR q) (hF : Fr D W0) (t0 : 0 ≤ t) (t1 : t < V 0 0 1) (htz : t = z) (hgn : g ≠ 1) (hsr : 0 ≤ s ∧ s < V 0 0 2) (hl : 0 ≤ W0 13 0 s ∧ W0 13 0 s ≤ 9) (K : ∀ W2 : DM, EQ g 1 (ckJ W0 s q (W0 13 0 s)) (mv W2) → K3 V W2 → WtI (mv W2) t 0 → PW X S (mst M 3 W2) 135 [some (rv S 3 0 0), some (iv s), some (iv z), some (iv q), some (iv t), none, none] []) (C : Cx X S RX9 cX9_goThrough 6 144) (R : CR X S (rVQ (fun N => ∃ U, N = mst M 3 U ∧ EQ g 1 (gt D) (mv U) ∧ K3 V U)) none) :
    ∀ (n9 : Nat) (j : Int) (W : DM), (0 ≤ j) → (j ≤ W0 13 0 s) → (EQ g 1 (ckJ W0 s q j) (mv W)) → (K3 V W) → (WtI (mv W) t 0) → W0 13 0 s - j < n9 → PW X S (mst M 3 W) 109 [some (rv S 3 0 0), some (iv s), some (iv z), some (iv q), some (iv t), none, none] [] := by
  obtain ⟨i1, i2, i3, i4, i5, i6, i7, i8⟩ := id hI
  have e5 : mv V 1 0 5 = V 0 0 1 := rfl
  have e6 : mv V 1 0 6 = V 0 0 2 := rfl
  have e7 : mv V 1 0 7 = V 0 0 8 := rfl
  have e8 : mv V 1 0 8 = V 0 0 9 := rfl
  have e84 : mv V 8 0 4 = V 0 0 15 := rfl
  intro n9
  induction n9 with
  | zero => intro j W j0 j1 hE hK hQ hn9; omega
  | succ n9 ih =>
    intro j W j0 j1 hE hK hQ hn9
    have e6 : W0 1 0 6 = V 0 0 2 := (hF 1 0 6 (by omega) (by omega)).trans (hDV 1 0 6 (by omega))
    have e13 : W 21 0 s = W0 13 0 s - j := (hE 13 0 s (LC.l hsr.1 (by show s < ckJ W0 s q j 1 0 6; unfold ckJ; rw [vup_k _ _ _ _ (by omega), vup_k _ _ _ _ (by omega), e6]; exact hsr.2))).trans (by unfold ckJ; rw [vup_v])
    refine pw_iload C dX9_goThrough_109 rfl ?_
    refine pw_iload_n C dX9_goThrough_111 rfl ?_
    refine pw_icmp_ne (tgt := 135) C dX9_goThrough_112 rfl (by omega) (by omega) (fun c112 => ?_) (fun c112 => ?_)
    · first
        | exact absurd htz (by assumption)
        | (rw [show j = W0 13 0 s by omega] at hE
           exact K W hE hK hQ)
    · refine pw_aload_n C dX9_goThrough_115 rfl ?_
      refine gf_9_40 C dX9_goThrough_116 ?_
      refine pw_iload_n C dX9_goThrough_119 rfl ?_
      refine pw_ialdV C aM_21 (by omega) (by omega) (by decide) dX9_goThrough_120 (fun r120 => ?_)
      refine pw_if_le (tgt := 135) C dX9_goThrough_121 rfl (by omega) (fun c121 => ?_) (fun c121 => ?_)
      · first
          | exact absurd htz (by assumption)
          | (rw [show j = W0 13 0 s by omega] at hE
             exact K W hE hK hQ)
      · refine pw_aload_n C dX9_goThrough_124 rfl ?_
        refine pw_iload_n C dX9_goThrough_125 rfl ?_
        refine pw_iload C dX9_goThrough_126 rfl ?_
        refine pw_iload_n C dX9_goThrough_128 rfl ?_
        refine pw_cVV C [_, _, _] mi_X9_sell mv_X9_sell ml_9_213 oM_0 rfl (c_X9_sell (by omega) (by omega) (by omega) (by omega) (by omega)) (by decide) rfl (Nat.le_of_ble_eq_true rfl) dX9_goThrough_129 ?_
        refine pw_goto (tgt := 109) C dX9_goThrough_132 rfl ?_
        refine ih (j + 1) _ (by omega) (by omega) ?_ (hK.tr (sellM_K _ _ _ _)) ?_ (by omega)
        · rw [mv_sellM]
          exact ckJ_s hgn hsr.1 (by rw [e6]; exact hsr.2) hE (by constructor <;> omega)
        · rw [mv_sellM]
          exact hQ.sell
set_option maxRecDepth 100000 in
set_option maxHeartbeats 400000 in
theorem L_X9_goThrough1 {X : PX} {S : SW} {M : Mem} {V : DM} {D : DM} {s z q g : Int}  (hI : DayOk (mv V)) (hD : DayOk D) (hcD : CookOk D) (hDV : ∀ (k : Nat) (r i : Int), k ≠ 0 → D k r i = mv V k r i) (hD0 : D 0 0 10 = s ∧ D 0 0 11 = z ∧ D 0 0 12 = q) (hg : g = 1 → z = -9) (hz : InR z) (hs : InR s) (hq : InR q) (C : Cx X S RX9 cX9_goThrough 6 144) (R : CR X S (rVQ (fun N => ∃ U, N = mst M 3 U ∧ EQ g 1 (gt D) (mv U) ∧ K3 V U)) none) :
    ∀ (n9 : Nat) (t : Int) (W : DM), (0 ≤ t) → (t ≤ V 0 0 1) → (EQ g 1 (iterI (fun t U => hourV U t) (openV D) t) (mv W)) → (K3 V W) → (WtI (mv W) t 0) → V 0 0 1 - t < n9 → PW X S (mst M 3 W) 100 [some (rv S 3 0 0), some (iv s), some (iv z), some (iv q), some (iv t), none, none] [] := by
  obtain ⟨i1, i2, i3, i4, i5, i6, i7, i8⟩ := id hI
  have e5 : mv V 1 0 5 = V 0 0 1 := rfl
  have e6 : mv V 1 0 6 = V 0 0 2 := rfl
  have e7 : mv V 1 0 7 = V 0 0 8 := rfl
  have e8 : mv V 1 0 8 = V 0 0 9 := rfl
  have e84 : mv V 8 0 4 = V 0 0 15 := rfl
  intro n9
  induction n9 with
  | zero => intro t W t0 t1 hE hK hQ hn9; omega
  | succ n9 ih =>
    intro t W t0 t1 hE hK hQ hn9
    have hFW := day_W (V := D) (t := t) rfl
    have e8 : W 0 0 15 = V 0 0 15 := hE.c.trans ((hFW 8 0 4 (by omega) (by omega)).trans (hDV 8 0 4 (by omega)))
    have e5 : W 0 0 1 = V 0 0 1 := hE.h.trans ((hFW 1 0 5 (by omega) (by omega)).trans (hDV 1 0 5 (by omega)))
    have e6 : W 0 0 2 = V 0 0 2 := hE.n.trans ((hFW 1 0 6 (by omega) (by omega)).trans (hDV 1 0 6 (by omega)))
    have hIW : DayOk (mv W) := (hD.fr hFW).eq hE
    refine pw_iload C dX9_goThrough_100 rfl ?_
    refine pw_aload_n C dX9_goThrough_102 rfl ?_
    refine gv_9_119 C dX9_goThrough_103 (fun r103 => ?_)
    refine pw_icmp_ge (tgt := 224) C dX9_goThrough_106 rfl (by omega) (by omega) (fun c106 => ?_) (fun c106 => ?_)
    · refine pw_vret C R dX9_goThrough_224 ⟨rfl, _, rfl, ?_, hK⟩
      unfold gt
      rw [hDV 1 0 5 (by omega), show mv V 1 0 5 = t by omega]
      exact hE
    · have K218 : ∀ W2 : DM, EQ g 1 (hourV (iterI (fun t U => hourV U t) (openV D) t) t) (mv W2) → K3 V W2 → WtI (mv W2) (t + 1) 0 → PW X S (mst M 3 W2) 218 [some (rv S 3 0 0), some (iv s), some (iv z), some (iv q), some (iv t), none, none] [] := fun W2 h2 k2 q2 => by
        refine pw_iinc_4 C dX9_goThrough_218 (k := ?_)
        refine pw_goto (tgt := 100) C dX9_goThrough_221 rfl ?_
        exact ih (t + 1) _ (by omega) (by omega) (by rw [iterI_s _ _ t0]; exact h2) k2 q2 (by omega)
      have K135 : ∀ W2 : DM, EQ g 1 (cookAt (iterI (fun t U => hourV U t) (openV D) t) t) (mv W2) → K3 V W2 → WtI (mv W2) t 0 → PW X S (mst M 3 W2) 135 [some (rv S 3 0 0), some (iv s), some (iv z), some (iv q), some (iv t), none, none] [] := fun W2 h2 k2 q2 => by
        refine pw_iconst C dX9_goThrough_135 ?_
        refine pw_istore_5 C dX9_goThrough_136 (k := ?_)
        exact L_X9_goThrough3 hI hD hcD hDV hD0 hg hz hs hq hFW t0 (by omega) K218 C R (V 0 0 15 + 1).toNat 0 W2 (by omega) (by omega) h2 k2 q2 (by omega)
      generalize hWs : iterI (fun t U => hourV U t) (openV D) t = Ws at hE hFW K135 K218
      have eC : cookAt Ws t = if t = Ws 0 0 11 then vup (vup Ws 0 0 9 (w32 (Ws 0 0 9 + Ws 13 0 (Ws 0 0 10) * Ws 0 0 12))) 13 0 (Ws 0 0 10) 0 else Ws := rfl
      rw [(hFW 0 0 11 (by omega) (by omega)).trans hD0.2.1, (hFW 0 0 10 (by omega) (by omega)).trans hD0.1, (hFW 0 0 12 (by omega) (by omega)).trans hD0.2.2] at eC
      by_cases ht : t = z
      · rw [if_pos ht] at eC
        have hgn : g ≠ 1 := fun e => by
          have := hg e
          omega
        have hsr : (0 ≤ s ∧ s < V 0 0 2) ∧ 0 ≤ q ∧ q ≤ 30 := by
          rcases hcD with h | h
          · rw [hD0.2.1] at h
            omega
          · rw [hD0.1, hD0.2.2, hDV 1 0 6 (by omega)] at h
            exact h
        have hB := day_Bd hD hcD t0 (show t ≤ D 1 0 5 by rw [hDV 1 0 5 (by omega)]; show t ≤ V 0 0 1; omega)
        rw [hWs] at hB
        have hl := hB.2 s hsr.1.1 (by rw [hDV 1 0 6 (by omega)]; exact hsr.1.2)
        refine L_X9_goThrough2 hI hD hcD hDV hD0 hg hz hs hq hFW t0 (by omega) ht hgn hsr.1 hl (fun W2 h2 k2 q2 => K135 W2 ?_ k2 q2) C R (Ws 13 0 s + 1).toNat 0 W (by omega) (by omega) ?_ hK hQ (by omega)
        · rw [eC]
          unfold ckJ at h2
          rw [show Ws 13 0 s - Ws 13 0 s = 0 by omega] at h2
          exact h2
        · have hb := hB.1
          have e : ckJ Ws s q 0 = Ws := by
            unfold ckJ
            rw [Int.zero_mul, Int.add_zero, Int.sub_zero, w32_i ⟨by omega, by omega⟩, vup_id, vup_id]
          rw [e]
          exact hE
      · rw [if_neg ht] at eC
        refine pw_iload C dX9_goThrough_109 rfl ?_
        refine pw_iload_n C dX9_goThrough_111 rfl ?_
        refine pw_icmp_ne (tgt := 135) C dX9_goThrough_112 rfl (by omega) (by omega) (fun _ => ?_) (fun c => absurd c ht)
        exact K135 W (by rw [eC]; exact hE) hK hQ
