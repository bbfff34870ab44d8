theorem mvu_4 (U : DM) (j v : Int) : mv (vup U 4 0 j v) = vup (mv U) 2 0 j v := by
  funext k r i
  match k with
  | 0 => rfl
  | 1 => rfl
  | 2 =>
    show vup U 4 0 j v 4 r i = _
    by_cases e : r = 0 ∧ i = j
    · obtain ⟨rfl, rfl⟩ := e; rw [vup_v, vup_v]
    · rw [vup_n _ (fun h => e h.2), vup_n _ (fun h => e h.2)]; rfl
  | 3 => rfl
  | 4 => rfl
  | 5 => rfl
  | 6 => rfl
  | 7 => rfl
  | 8 => rfl
  | 9 => rfl
  | 10 => rfl
  | 11 => rfl
  | 12 => rfl
  | 13 => rfl
  | 14 => rfl
  | 15 => rfl
  | 16 => rfl
  | 17 => rfl
  | 18 => rfl
  | 19 => rfl
  | n + 20 => rfl
theorem mvu_17 (U : DM) (j v : Int) : mv (vup U 17 0 j v) = vup (mv U) 9 0 j v := by
  funext k r i
  match k with
  | 0 => rfl
  | 1 => rfl
  | 2 => rfl
  | 3 => rfl
  | 4 => rfl
  | 5 => rfl
  | 6 => rfl
  | 7 => rfl
  | 8 => rfl
  | 9 =>
    show vup U 17 0 j v 17 r i = _
    by_cases e : r = 0 ∧ i = j
    · obtain ⟨rfl, rfl⟩ := e; rw [vup_v, vup_v]
    · rw [vup_n _ (fun h => e h.2), vup_n _ (fun h => e h.2)]; rfl
  | 10 => rfl
  | 11 => rfl
  | 12 => rfl
  | 13 => rfl
  | 14 => rfl
  | 15 => rfl
  | 16 => rfl
  | 17 => rfl
  | 18 => rfl
  | 19 => rfl
  | n + 20 => rfl
theorem mvu_18 (U : DM) (j v : Int) : mv (vup U 18 0 j v) = vup (mv U) 10 0 j v := by
  funext k r i
  match k with
  | 0 => rfl
  | 1 => rfl
  | 2 => rfl
  | 3 => rfl
  | 4 => rfl
  | 5 => rfl
  | 6 => rfl
  | 7 => rfl
  | 8 => rfl
  | 9 => rfl
  | 10 =>
    show vup U 18 0 j v 18 r i = _
    by_cases e : r = 0 ∧ i = j
    · obtain ⟨rfl, rfl⟩ := e; rw [vup_v, vup_v]
    · rw [vup_n _ (fun h => e h.2), vup_n _ (fun h => e h.2)]; rfl
  | 11 => rfl
  | 12 => rfl
  | 13 => rfl
  | 14 => rfl
  | 15 => rfl
  | 16 => rfl
  | 17 => rfl
  | 18 => rfl
  | 19 => rfl
  | n + 20 => rfl
theorem mvu_19 (U : DM) (j v : Int) : mv (vup U 19 0 j v) = vup (mv U) 11 0 j v := by
  funext k r i
  match k with
  | 0 => rfl
  | 1 => rfl
  | 2 => rfl
  | 3 => rfl
  | 4 => rfl
  | 5 => rfl
  | 6 => rfl
  | 7 => rfl
  | 8 => rfl
  | 9 => rfl
  | 10 => rfl
  | 11 =>
    show vup U 19 0 j v 19 r i = _
    by_cases e : r = 0 ∧ i = j
    · obtain ⟨rfl, rfl⟩ := e; rw [vup_v, vup_v]
    · rw [vup_n _ (fun h => e h.2), vup_n _ (fun h => e h.2)]; rfl
  | 12 => rfl
  | 13 => rfl
  | 14 => rfl
  | 15 => rfl
  | 16 => rfl
  | 17 => rfl
  | 18 => rfl
  | 19 => rfl
  | n + 20 => rfl
theorem mvu_20 (U : DM) (j v : Int) : mv (vup U 20 0 j v) = vup (mv U) 12 0 j v := by
  funext k r i
  match k with
  | 0 => rfl
  | 1 => rfl
  | 2 => rfl
  | 3 => rfl
  | 4 => rfl
  | 5 => rfl
  | 6 => rfl
  | 7 => rfl
  | 8 => rfl
  | 9 => rfl
  | 10 => rfl
  | 11 => rfl
  | 12 =>
    show vup U 20 0 j v 20 r i = _
    by_cases e : r = 0 ∧ i = j
    · obtain ⟨rfl, rfl⟩ := e; rw [vup_v, vup_v]
    · rw [vup_n _ (fun h => e h.2), vup_n _ (fun h => e h.2)]; rfl
  | 13 => rfl
  | 14 => rfl
  | 15 => rfl
  | 16 => rfl
  | 17 => rfl
  | 18 => rfl
  | 19 => rfl
  | n + 20 => rfl
theorem mvu_21 (U : DM) (j v : Int) : mv (vup U 21 0 j v) = vup (mv U) 13 0 j v := by
  funext k r i
  match k with
  | 0 => rfl
  | 1 => rfl
  | 2 => rfl
  | 3 => rfl
  | 4 => rfl
  | 5 => rfl
  | 6 => rfl
  | 7 => rfl
  | 8 => rfl
  | 9 => rfl
  | 10 => rfl
  | 11 => rfl
  | 12 => rfl
  | 13 =>
    show vup U 21 0 j v 21 r i = _
    by_cases e : r = 0 ∧ i = j
    · obtain ⟨rfl, rfl⟩ := e; rw [vup_v, vup_v]
    · rw [vup_n _ (fun h => e h.2), vup_n _ (fun h => e h.2)]; rfl
  | 14 => rfl
  | 15 => rfl
  | 16 => rfl
  | 17 => rfl
  | 18 => rfl
  | 19 => rfl
  | n + 20 => rfl
theorem mvu_27 (U : DM) (j v : Int) : mv (vup U 27 0 j v) = vup (mv U) 14 0 j v := by
  funext k r i
  match k with
  | 0 => rfl
  | 1 => rfl
  | 2 => rfl
  | 3 => rfl
  | 4 => rfl
  | 5 => rfl
  | 6 => rfl
  | 7 => rfl
  | 8 => rfl
  | 9 => rfl
  | 10 => rfl
  | 11 => rfl
  | 12 => rfl
  | 13 => rfl
  | 14 =>
    show vup U 27 0 j v 27 r i = _
    by_cases e : r = 0 ∧ i = j
    · obtain ⟨rfl, rfl⟩ := e; rw [vup_v, vup_v]
    · rw [vup_n _ (fun h => e h.2), vup_n _ (fun h => e h.2)]; rfl
  | 15 => rfl
  | 16 => rfl
  | 17 => rfl
  | 18 => rfl
  | 19 => rfl
  | n + 20 => rfl
theorem mvu_28 (U : DM) (j v : Int) : mv (vup U 28 0 j v) = vup (mv U) 15 0 j v := by
  funext k r i
  match k with
  | 0 => rfl
  | 1 => rfl
  | 2 => rfl
  | 3 => rfl
  | 4 => rfl
  | 5 => rfl
  | 6 => rfl
  | 7 => rfl
  | 8 => rfl
  | 9 => rfl
  | 10 => rfl
  | 11 => rfl
  | 12 => rfl
  | 13 => rfl
  | 14 => rfl
  | 15 =>
    show vup U 28 0 j v 28 r i = _
    by_cases e : r = 0 ∧ i = j
    · obtain ⟨rfl, rfl⟩ := e; rw [vup_v, vup_v]
    · rw [vup_n _ (fun h => e h.2), vup_n _ (fun h => e h.2)]; rfl
  | 16 => rfl
  | 17 => rfl
  | 18 => rfl
  | 19 => rfl
  | n + 20 => rfl
theorem mvu_23 (U : DM) (j v : Int) : mv (vup U 23 0 j v) = vup (mv U) 16 0 j v := by
  funext k r i
  match k with
  | 0 => rfl
  | 1 => rfl
  | 2 => rfl
  | 3 => rfl
  | 4 => rfl
  | 5 => rfl
  | 6 => rfl
  | 7 => rfl
  | 8 => rfl
  | 9 => rfl
  | 10 => rfl
  | 11 => rfl
  | 12 => rfl
  | 13 => rfl
  | 14 => rfl
  | 15 => rfl
  | 16 =>
    show vup U 23 0 j v 23 r i = _
    by_cases e : r = 0 ∧ i = j
    · obtain ⟨rfl, rfl⟩ := e; rw [vup_v, vup_v]
    · rw [vup_n _ (fun h => e h.2), vup_n _ (fun h => e h.2)]; rfl
  | 17 => rfl
  | 18 => rfl
  | 19 => rfl
  | n + 20 => rfl
theorem mvu_24 (U : DM) (j v : Int) : mv (vup U 24 0 j v) = vup (mv U) 17 0 j v := by
  funext k r i
  match k with
  | 0 => rfl
  | 1 => rfl
  | 2 => rfl
  | 3 => rfl
  | 4 => rfl
  | 5 => rfl
  | 6 => rfl
  | 7 => rfl
  | 8 => rfl
  | 9 => rfl
  | 10 => rfl
  | 11 => rfl
  | 12 => rfl
  | 13 => rfl
  | 14 => rfl
  | 15 => rfl
  | 16 => rfl
  | 17 =>
    show vup U 24 0 j v 24 r i = _
    by_cases e : r = 0 ∧ i = j
    · obtain ⟨rfl, rfl⟩ := e; rw [vup_v, vup_v]
    · rw [vup_n _ (fun h => e h.2), vup_n _ (fun h => e h.2)]; rfl
  | 18 => rfl
  | 19 => rfl
  | n + 20 => rfl
theorem mvu_25 (U : DM) (j v : Int) : mv (vup U 25 0 j v) = vup (mv U) 18 0 j v := by
  funext k r i
  match k with
  | 0 => rfl
  | 1 => rfl
  | 2 => rfl
  | 3 => rfl
  | 4 => rfl
  | 5 => rfl
  | 6 => rfl
  | 7 => rfl
  | 8 => rfl
  | 9 => rfl
  | 10 => rfl
  | 11 => rfl
  | 12 => rfl
  | 13 => rfl
  | 14 => rfl
  | 15 => rfl
  | 16 => rfl
  | 17 => rfl
  | 18 =>
    show vup U 25 0 j v 25 r i = _
    by_cases e : r = 0 ∧ i = j
    · obtain ⟨rfl, rfl⟩ := e; rw [vup_v, vup_v]
    · rw [vup_n _ (fun h => e h.2), vup_n _ (fun h => e h.2)]; rfl
  | 19 => rfl
  | n + 20 => rfl
theorem mvu_26 (U : DM) (j v : Int) : mv (vup U 26 0 j v) = vup (mv U) 19 0 j v := by
  funext k r i
  match k with
  | 0 => rfl
  | 1 => rfl
  | 2 => rfl
  | 3 => rfl
  | 4 => rfl
  | 5 => rfl
  | 6 => rfl
  | 7 => rfl
  | 8 => rfl
  | 9 => rfl
  | 10 => rfl
  | 11 => rfl
  | 12 => rfl
  | 13 => rfl
  | 14 => rfl
  | 15 => rfl
  | 16 => rfl
  | 17 => rfl
  | 18 => rfl
  | 19 =>
    show vup U 26 0 j v 26 r i = _
    by_cases e : r = 0 ∧ i = j
    · obtain ⟨rfl, rfl⟩ := e; rw [vup_v, vup_v]
    · rw [vup_n _ (fun h => e h.2), vup_n _ (fun h => e h.2)]; rfl
  | n + 20 => rfl
theorem mvf_1 (U : DM) (v : Int) : mv (vup U 0 0 1 v) = vup (mv U) 1 0 5 v := by
  funext k r i
  match k with
  | 0 => rfl
  | 1 =>
    by_cases e : r = 0 ∧ i = 5
    · obtain ⟨rfl, rfl⟩ := e; rw [vup_v]; rfl
    · rw [vup_n _ (fun h => e h.2)]
      show (if r = 0 ∧ i = 5 then v else if r = 0 ∧ i = 6 then U 0 0 2 else if r = 0 ∧ i = 7 then U 0 0 8 else if r = 0 ∧ i = 8 then U 0 0 9 else 0) = if r = 0 ∧ i = 5 then U 0 0 1 else if r = 0 ∧ i = 6 then U 0 0 2 else if r = 0 ∧ i = 7 then U 0 0 8 else if r = 0 ∧ i = 8 then U 0 0 9 else 0
      simp only [if_neg e]
  | 2 => rfl
  | 3 => rfl
  | 4 => rfl
  | 5 => rfl
  | 6 => rfl
  | 7 => rfl
  | 8 => rfl
  | 9 => rfl
  | 10 => rfl
  | 11 => rfl
  | 12 => rfl
  | 13 => rfl
  | 14 => rfl
  | 15 => rfl
  | 16 => rfl
  | 17 => rfl
  | 18 => rfl
  | 19 => rfl
  | n + 20 => rfl
theorem mvf_2 (U : DM) (v : Int) : mv (vup U 0 0 2 v) = vup (mv U) 1 0 6 v := by
  funext k r i
  match k with
  | 0 => rfl
  | 1 =>
    by_cases e : r = 0 ∧ i = 6
    · obtain ⟨rfl, rfl⟩ := e; rw [vup_v]; rfl
    · rw [vup_n _ (fun h => e h.2)]
      show (if r = 0 ∧ i = 5 then U 0 0 1 else if r = 0 ∧ i = 6 then v else if r = 0 ∧ i = 7 then U 0 0 8 else if r = 0 ∧ i = 8 then U 0 0 9 else 0) = if r = 0 ∧ i = 5 then U 0 0 1 else if r = 0 ∧ i = 6 then U 0 0 2 else if r = 0 ∧ i = 7 then U 0 0 8 else if r = 0 ∧ i = 8 then U 0 0 9 else 0
      simp only [if_neg e]
  | 2 => rfl
  | 3 => rfl
  | 4 => rfl
  | 5 => rfl
  | 6 => rfl
  | 7 => rfl
  | 8 => rfl
  | 9 => rfl
  | 10 => rfl
  | 11 => rfl
  | 12 => rfl
  | 13 => rfl
  | 14 => rfl
  | 15 => rfl
  | 16 => rfl
  | 17 => rfl
  | 18 => rfl
  | 19 => rfl
  | n + 20 => rfl
theorem mvf_8 (U : DM) (v : Int) : mv (vup U 0 0 8 v) = vup (mv U) 1 0 7 v := by
  funext k r i
  match k with
  | 0 => rfl
  | 1 =>
    by_cases e : r = 0 ∧ i = 7
    · obtain ⟨rfl, rfl⟩ := e; rw [vup_v]; rfl
    · rw [vup_n _ (fun h => e h.2)]
      show (if r = 0 ∧ i = 5 then U 0 0 1 else if r = 0 ∧ i = 6 then U 0 0 2 else if r = 0 ∧ i = 7 then v else if r = 0 ∧ i = 8 then U 0 0 9 else 0) = if r = 0 ∧ i = 5 then U 0 0 1 else if r = 0 ∧ i = 6 then U 0 0 2 else if r = 0 ∧ i = 7 then U 0 0 8 else if r = 0 ∧ i = 8 then U 0 0 9 else 0
      simp only [if_neg e]
  | 2 => rfl
  | 3 => rfl
  | 4 => rfl
  | 5 => rfl
  | 6 => rfl
  | 7 => rfl
  | 8 => rfl
  | 9 => rfl
  | 10 => rfl
  | 11 => rfl
  | 12 => rfl
  | 13 => rfl
  | 14 => rfl
  | 15 => rfl
  | 16 => rfl
  | 17 => rfl
  | 18 => rfl
  | 19 => rfl
  | n + 20 => rfl
theorem mvf_9 (U : DM) (v : Int) : mv (vup U 0 0 9 v) = vup (mv U) 1 0 8 v := by
  funext k r i
  match k with
  | 0 => rfl
  | 1 =>
    by_cases e : r = 0 ∧ i = 8
    · obtain ⟨rfl, rfl⟩ := e; rw [vup_v]; rfl
    · rw [vup_n _ (fun h => e h.2)]
      show (if r = 0 ∧ i = 5 then U 0 0 1 else if r = 0 ∧ i = 6 then U 0 0 2 else if r = 0 ∧ i = 7 then U 0 0 8 else if r = 0 ∧ i = 8 then v else 0) = if r = 0 ∧ i = 5 then U 0 0 1 else if r = 0 ∧ i = 6 then U 0 0 2 else if r = 0 ∧ i = 7 then U 0 0 8 else if r = 0 ∧ i = 8 then U 0 0 9 else 0
      simp only [if_neg e]
  | 2 => rfl
  | 3 => rfl
  | 4 => rfl
  | 5 => rfl
  | 6 => rfl
  | 7 => rfl
  | 8 => rfl
  | 9 => rfl
  | 10 => rfl
  | 11 => rfl
  | 12 => rfl
  | 13 => rfl
  | 14 => rfl
  | 15 => rfl
  | 16 => rfl
  | 17 => rfl
  | 18 => rfl
  | 19 => rfl
  | n + 20 => rfl
theorem mvf_15 (U : DM) (v : Int) : mv (vup U 0 0 15 v) = vup (mv U) 8 0 4 v := by
  funext k r i
  match k with
  | 0 => rfl
  | 1 => rfl
  | 2 => rfl
  | 3 => rfl
  | 4 => rfl
  | 5 => rfl
  | 6 => rfl
  | 7 => rfl
  | 8 =>
    by_cases e : r = 0 ∧ i = 4
    · obtain ⟨rfl, rfl⟩ := e; rw [vup_v]; rfl
    · rw [vup_n _ (fun h => e h.2)]
      show (if r = 0 ∧ i = 4 then v else 0) = if r = 0 ∧ i = 4 then U 0 0 15 else 0
      simp only [if_neg e]
  | 9 => rfl
  | 10 => rfl
  | 11 => rfl
  | 12 => rfl
  | 13 => rfl
  | 14 => rfl
  | 15 => rfl
  | 16 => rfl
  | 17 => rfl
  | 18 => rfl
  | 19 => rfl
  | n + 20 => rfl
theorem mvf_21 (U : DM) (v : Int) : mv (vup U 0 0 21 v) = vup (mv U) 0 0 9 v := by
  funext k r i
  match k with
  | 0 =>
    by_cases e : r = 0 ∧ i = 9
    · obtain ⟨rfl, rfl⟩ := e; rw [vup_v]; rfl
    · rw [vup_n _ (fun h => e h.2)]
      show (if r = 0 ∧ i = 9 then v else (if r = 0 ∧ i = 11 then -9 else 0)) = if r = 0 ∧ i = 9 then U 0 0 21 else (if r = 0 ∧ i = 11 then -9 else 0)
      simp only [if_neg e]
  | 1 => rfl
  | 2 => rfl
  | 3 => rfl
  | 4 => rfl
  | 5 => rfl
  | 6 => rfl
  | 7 => rfl
  | 8 => rfl
  | 9 => rfl
  | 10 => rfl
  | 11 => rfl
  | 12 => rfl
  | 13 => rfl
  | 14 => rfl
  | 15 => rfl
  | 16 => rfl
  | 17 => rfl
  | 18 => rfl
  | 19 => rfl
  | n + 20 => rfl
theorem mvn_0 (U : DM) (v : Int) : mv (vup U 0 0 0 v) = mv U := by
  funext k r i
  match k with
  | 0 => rfl
  | 1 => rfl
  | 2 => rfl
  | 3 => rfl
  | 4 => rfl
  | 5 => rfl
  | 6 => rfl
  | 7 => rfl
  | 8 => rfl
  | 9 => rfl
  | 10 => rfl
  | 11 => rfl
  | 12 => rfl
  | 13 => rfl
  | 14 => rfl
  | 15 => rfl
  | 16 => rfl
  | 17 => rfl
  | 18 => rfl
  | 19 => rfl
  | n + 20 => rfl
theorem mvn_10 (U : DM) (v : Int) : mv (vup U 0 0 10 v) = mv U := by
  funext k r i
  match k with
  | 0 => rfl
  | 1 => rfl
  | 2 => rfl
  | 3 => rfl
  | 4 => rfl
  | 5 => rfl
  | 6 => rfl
  | 7 => rfl
  | 8 => rfl
  | 9 => rfl
  | 10 => rfl
  | 11 => rfl
  | 12 => rfl
  | 13 => rfl
  | 14 => rfl
  | 15 => rfl
  | 16 => rfl
  | 17 => rfl
  | 18 => rfl
  | 19 => rfl
  | n + 20 => rfl
theorem mvn_11 (U : DM) (v : Int) : mv (vup U 0 0 11 v) = mv U := by
  funext k r i
  match k with
  | 0 => rfl
  | 1 => rfl
  | 2 => rfl
  | 3 => rfl
  | 4 => rfl
  | 5 => rfl
  | 6 => rfl
  | 7 => rfl
  | 8 => rfl
  | 9 => rfl
  | 10 => rfl
  | 11 => rfl
  | 12 => rfl
  | 13 => rfl
  | 14 => rfl
  | 15 => rfl
  | 16 => rfl
  | 17 => rfl
  | 18 => rfl
  | 19 => rfl
  | n + 20 => rfl
theorem mvn_12 (U : DM) (v : Int) : mv (vup U 0 0 12 v) = mv U := by
  funext k r i
  match k with
  | 0 => rfl
  | 1 => rfl
  | 2 => rfl
  | 3 => rfl
  | 4 => rfl
  | 5 => rfl
  | 6 => rfl
  | 7 => rfl
  | 8 => rfl
  | 9 => rfl
  | 10 => rfl
  | 11 => rfl
  | 12 => rfl
  | 13 => rfl
  | 14 => rfl
  | 15 => rfl
  | 16 => rfl
  | 17 => rfl
  | 18 => rfl
  | 19 => rfl
  | n + 20 => rfl
theorem mvn_13 (U : DM) (v : Int) : mv (vup U 0 0 13 v) = mv U := by
  funext k r i
  match k with
  | 0 => rfl
  | 1 => rfl
  | 2 => rfl
  | 3 => rfl
  | 4 => rfl
  | 5 => rfl
  | 6 => rfl
  | 7 => rfl
  | 8 => rfl
  | 9 => rfl
  | 10 => rfl
  | 11 => rfl
  | 12 => rfl
  | 13 => rfl
  | 14 => rfl
  | 15 => rfl
  | 16 => rfl
  | 17 => rfl
  | 18 => rfl
  | 19 => rfl
  | n + 20 => rfl
theorem mvn_32 (U : DM) (v : Int) : mv (vup U 0 0 32 v) = mv U := by
  funext k r i
  match k with
  | 0 => rfl
  | 1 => rfl
  | 2 => rfl
  | 3 => rfl
  | 4 => rfl
  | 5 => rfl
  | 6 => rfl
  | 7 => rfl
  | 8 => rfl
  | 9 => rfl
  | 10 => rfl
  | 11 => rfl
  | 12 => rfl
  | 13 => rfl
  | 14 => rfl
  | 15 => rfl
  | 16 => rfl
  | 17 => rfl
  | 18 => rfl
  | 19 => rfl
  | n + 20 => rfl
theorem mvn_33 (U : DM) (v : Int) : mv (vup U 0 0 33 v) = mv U := by
  funext k r i
  match k with
  | 0 => rfl
  | 1 => rfl
  | 2 => rfl
  | 3 => rfl
  | 4 => rfl
  | 5 => rfl
  | 6 => rfl
  | 7 => rfl
  | 8 => rfl
  | 9 => rfl
  | 10 => rfl
  | 11 => rfl
  | 12 => rfl
  | 13 => rfl
  | 14 => rfl
  | 15 => rfl
  | 16 => rfl
  | 17 => rfl
  | 18 => rfl
  | 19 => rfl
  | n + 20 => rfl
theorem mvn_38 (U : DM) (v : Int) : mv (vup U 0 0 38 v) = mv U := by
  funext k r i
  match k with
  | 0 => rfl
  | 1 => rfl
  | 2 => rfl
  | 3 => rfl
  | 4 => rfl
  | 5 => rfl
  | 6 => rfl
  | 7 => rfl
  | 8 => rfl
  | 9 => rfl
  | 10 => rfl
  | 11 => rfl
  | 12 => rfl
  | 13 => rfl
  | 14 => rfl
  | 15 => rfl
  | 16 => rfl
  | 17 => rfl
  | 18 => rfl
  | 19 => rfl
  | n + 20 => rfl
theorem mva_16 (U : DM) (j v : Int) : mv (vup U 16 0 j v) = mv U := by
  funext k r i
  match k with
  | 0 => rfl
  | 1 => rfl
  | 2 => rfl
  | 3 => rfl
  | 4 => rfl
  | 5 => rfl
  | 6 => rfl
  | 7 => rfl
  | 8 => rfl
  | 9 => rfl
  | 10 => rfl
  | 11 => rfl
  | 12 => rfl
  | 13 => rfl
  | 14 => rfl
  | 15 => rfl
  | 16 => rfl
  | 17 => rfl
  | 18 => rfl
  | 19 => rfl
  | n + 20 => rfl
theorem mva_22 (U : DM) (j v : Int) : mv (vup U 22 0 j v) = mv U := by
  funext k r i
  match k with
  | 0 => rfl
  | 1 => rfl
  | 2 => rfl
  | 3 => rfl
  | 4 => rfl
  | 5 => rfl
  | 6 => rfl
  | 7 => rfl
  | 8 => rfl
  | 9 => rfl
  | 10 => rfl
  | 11 => rfl
  | 12 => rfl
  | 13 => rfl
  | 14 => rfl
  | 15 => rfl
  | 16 => rfl
  | 17 => rfl
  | 18 => rfl
  | 19 => rfl
  | n + 20 => rfl
theorem mva_29 (U : DM) (j v : Int) : mv (vup U 29 0 j v) = mv U := by
  funext k r i
  match k with
  | 0 => rfl
  | 1 => rfl
  | 2 => rfl
  | 3 => rfl
  | 4 => rfl
  | 5 => rfl
  | 6 => rfl
  | 7 => rfl
  | 8 => rfl
  | 9 => rfl
  | 10 => rfl
  | 11 => rfl
  | 12 => rfl
  | 13 => rfl
  | 14 => rfl
  | 15 => rfl
  | 16 => rfl
  | 17 => rfl
  | 18 => rfl
  | 19 => rfl
  | n + 20 => rfl
theorem mva_30 (U : DM) (j v : Int) : mv (vup U 30 0 j v) = mv U := by
  funext k r i
  match k with
  | 0 => rfl
  | 1 => rfl
  | 2 => rfl
  | 3 => rfl
  | 4 => rfl
  | 5 => rfl
  | 6 => rfl
  | 7 => rfl
  | 8 => rfl
  | 9 => rfl
  | 10 => rfl
  | 11 => rfl
  | 12 => rfl
  | 13 => rfl
  | 14 => rfl
  | 15 => rfl
  | 16 => rfl
  | 17 => rfl
  | 18 => rfl
  | 19 => rfl
  | n + 20 => rfl
theorem mva_31 (U : DM) (j v : Int) : mv (vup U 31 0 j v) = mv U := by
  funext k r i
  match k with
  | 0 => rfl
  | 1 => rfl
  | 2 => rfl
  | 3 => rfl
  | 4 => rfl
  | 5 => rfl
  | 6 => rfl
  | 7 => rfl
  | 8 => rfl
  | 9 => rfl
  | 10 => rfl
  | 11 => rfl
  | 12 => rfl
  | 13 => rfl
  | 14 => rfl
  | 15 => rfl
  | 16 => rfl
  | 17 => rfl
  | 18 => rfl
  | 19 => rfl
  | n + 20 => rfl
theorem mva_32 (U : DM) (j v : Int) : mv (vup U 32 0 j v) = mv U := by
  funext k r i
  match k with
  | 0 => rfl
  | 1 => rfl
  | 2 => rfl
  | 3 => rfl
  | 4 => rfl
  | 5 => rfl
  | 6 => rfl
  | 7 => rfl
  | 8 => rfl
  | 9 => rfl
  | 10 => rfl
  | 11 => rfl
  | 12 => rfl
  | 13 => rfl
  | 14 => rfl
  | 15 => rfl
  | 16 => rfl
  | 17 => rfl
  | 18 => rfl
  | 19 => rfl
  | n + 20 => rfl
theorem mva_34 (U : DM) (j v : Int) : mv (vup U 34 0 j v) = mv U := by
  funext k r i
  match k with
  | 0 => rfl
  | 1 => rfl
  | 2 => rfl
  | 3 => rfl
  | 4 => rfl
  | 5 => rfl
  | 6 => rfl
  | 7 => rfl
  | 8 => rfl
  | 9 => rfl
  | 10 => rfl
  | 11 => rfl
  | 12 => rfl
  | 13 => rfl
  | 14 => rfl
  | 15 => rfl
  | 16 => rfl
  | 17 => rfl
  | 18 => rfl
  | 19 => rfl
  | n + 20 => rfl
theorem mva_35 (U : DM) (j v : Int) : mv (vup U 35 0 j v) = mv U := by
  funext k r i
  match k with
  | 0 => rfl
  | 1 => rfl
  | 2 => rfl
  | 3 => rfl
  | 4 => rfl
  | 5 => rfl
  | 6 => rfl
  | 7 => rfl
  | 8 => rfl
  | 9 => rfl
  | 10 => rfl
  | 11 => rfl
  | 12 => rfl
  | 13 => rfl
  | 14 => rfl
  | 15 => rfl
  | 16 => rfl
  | 17 => rfl
  | 18 => rfl
  | 19 => rfl
  | n + 20 => rfl
theorem mva_36 (U : DM) (j v : Int) : mv (vup U 36 0 j v) = mv U := by
  funext k r i
  match k with
  | 0 => rfl
  | 1 => rfl
  | 2 => rfl
  | 3 => rfl
  | 4 => rfl
  | 5 => rfl
  | 6 => rfl
  | 7 => rfl
  | 8 => rfl
  | 9 => rfl
  | 10 => rfl
  | 11 => rfl
  | 12 => rfl
  | 13 => rfl
  | 14 => rfl
  | 15 => rfl
  | 16 => rfl
  | 17 => rfl
  | 18 => rfl
  | 19 => rfl
  | n + 20 => rfl
theorem mva_37 (U : DM) (j v : Int) : mv (vup U 37 0 j v) = mv U := by
  funext k r i
  match k with
  | 0 => rfl
  | 1 => rfl
  | 2 => rfl
  | 3 => rfl
  | 4 => rfl
  | 5 => rfl
  | 6 => rfl
  | 7 => rfl
  | 8 => rfl
  | 9 => rfl
  | 10 => rfl
  | 11 => rfl
  | 12 => rfl
  | 13 => rfl
  | 14 => rfl
  | 15 => rfl
  | 16 => rfl
  | 17 => rfl
  | 18 => rfl
  | 19 => rfl
  | n + 20 => rfl
theorem mvu_8 (U : DM) {s t : Int} (v : Int) (t0 : 0 ≤ t) (t1 : t < 8) : mv (vup U 8 0 (8 * s + t) v) = vup (mv U) 7 s t v := by
  funext k r i
  match k with
  | 0 => rfl
  | 1 => rfl
  | 2 => rfl
  | 3 => rfl
  | 4 => rfl
  | 5 => rfl
  | 6 => rfl
  | 7 =>
    show (if 0 ≤ i ∧ i < 8 then vup U 8 0 (8 * s + t) v 8 0 (8 * r + i) else 0) = _
    by_cases e : r = s ∧ i = t
    · obtain ⟨rfl, rfl⟩ := e; rw [vup_v, vup_v, if_pos ⟨t0, t1⟩]
    · rw [vup_n (mv U) (fun h => e h.2)]
      show _ = if 0 ≤ i ∧ i < 8 then U 8 0 (8 * r + i) else 0
      split
      · rw [vup_n _ (by omega)]
      · rfl
  | 8 => rfl
  | 9 => rfl
  | 10 => rfl
  | 11 => rfl
  | 12 => rfl
  | 13 => rfl
  | 14 => rfl
  | 15 => rfl
  | 16 => rfl
  | 17 => rfl
  | 18 => rfl
  | 19 => rfl
  | n + 20 => rfl
