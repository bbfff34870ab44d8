theorem inTs {ws : List Cond} (is : List Nat) (h : ws = is.filterMap (fun i => tables_1[i]?)) (hg : ws.all goodWord = true) : ∀ w ∈ ws, w ∈ tbl0 := by
  intro w hw
  have h1 := List.all_eq_true.mp hg w hw
  rw [h] at hw
  obtain ⟨i, -, hi⟩ := List.mem_filterMap.mp hw
  exact inT i hi h1
theorem inT1 {w : Cond} (i : Nat) (h : tables_1_1[i]? = some w) (hg : goodWord w = true) : w ∈ tbl0 := List.mem_filter.mpr ⟨List.mem_append_right _ (show w ∈ tables_1 from List.mem_append_left _ (List.mem_of_getElem? h)), hg⟩
theorem inT2 {w : Cond} (i : Nat) (h : tables_1_2[i]? = some w) (hg : goodWord w = true) : w ∈ tbl0 := List.mem_filter.mpr ⟨List.mem_append_right _ (show w ∈ tables_1 from List.mem_append_right _ (List.mem_append_left _ (List.mem_of_getElem? h))), hg⟩
theorem inT3 {w : Cond} (i : Nat) (h : tables_1_3[i]? = some w) (hg : goodWord w = true) : w ∈ tbl0 := List.mem_filter.mpr ⟨List.mem_append_right _ (show w ∈ tables_1 from List.mem_append_right _ (List.mem_append_right _ (List.mem_append_left _ (List.mem_of_getElem? h)))), hg⟩
theorem inT4 {w : Cond} (i : Nat) (h : tables_1_4[i]? = some w) (hg : goodWord w = true) : w ∈ tbl0 := List.mem_filter.mpr ⟨List.mem_append_right _ (show w ∈ tables_1 from List.mem_append_right _ (List.mem_append_right _ (List.mem_append_right _ (List.mem_append_left _ (List.mem_of_getElem? h))))), hg⟩
theorem inT5 {w : Cond} (i : Nat) (h : tables_1_5[i]? = some w) (hg : goodWord w = true) : w ∈ tbl0 := List.mem_filter.mpr ⟨List.mem_append_right _ (show w ∈ tables_1 from List.mem_append_right _ (List.mem_append_right _ (List.mem_append_right _ (List.mem_append_right _ ((List.mem_of_getElem? h)))))), hg⟩
theorem iX0 : ∀ w ∈ u_ws RX0 TX0 5, w ∈ tbl0 := inTs [106, 108, 110, 112, 114] (by decide +kernel) (by decide +kernel)
theorem iX1 : ∀ w ∈ u_ws RX1 TX1 13, w ∈ tbl0 := inTs [142, 144, 146, 148, 150, 152, 154, 156, 158, 160, 162, 164, 166] (by decide +kernel) (by decide +kernel)
theorem iX2 : ∀ w ∈ u_ws RX2 TX2 2, w ∈ tbl0 := inTs [249, 251] (by decide +kernel) (by decide +kernel)
theorem iX3 : ∀ w ∈ u_ws RX3 TX3 3, w ∈ tbl0 := inTs [234, 236, 238] (by decide +kernel) (by decide +kernel)
theorem iX4 : ∀ w ∈ u_ws RX4 TX4 7, w ∈ tbl0 := inTs [188, 190, 192, 194, 196, 198, 200] (by decide +kernel) (by decide +kernel)
theorem iX5 : ∀ w ∈ u_ws RX5 TX5 3, w ∈ tbl0 := inTs [217, 219, 221] (by decide +kernel) (by decide +kernel)
theorem iX6 : ∀ w ∈ u_ws RX6 TX6 9, w ∈ tbl0 := inTs [65, 67, 69, 71, 73, 75, 77, 79, 81] (by decide +kernel) (by decide +kernel)
theorem iX8 : ∀ w ∈ u_ws RX8 TX8 7, w ∈ tbl0 := inTs [261, 263, 265, 267, 269, 271, 273] (by decide +kernel) (by decide +kernel)
theorem iX9 : ∀ w ∈ u_ws RX9 TX9 39, w ∈ tbl0 := inTs [745, 747, 749, 751, 753, 755, 757, 759, 761, 763, 765, 767, 769, 771, 773, 775, 777, 779, 781, 783, 785, 787, 789, 791, 793, 795, 797, 799, 801, 803, 805, 807, 809, 811, 813, 815, 817, 819, 821] (by decide +kernel) (by decide +kernel)
theorem mi_X8_stall : MI yX8_stall cX8_stall 7 (some .int) 4 := ⟨(inT2 39 rfl rfl), (inT1 1 rfl rfl), by decide, by decide, (by decide +kernel)⟩
theorem mv_X8_stall : MV yX8_stall := ⟨(inT2 37 rfl rfl), (inT2 38 rfl rfl)⟩
theorem mi_X8_ofSort : MI yX8_ofSort cX8_ofSort 4 (some .int) 2 := ⟨(inT2 80 rfl rfl), (inT1 1 rfl rfl), by decide, by decide, (by decide +kernel)⟩
theorem mv_X8_ofSort : MV yX8_ofSort := ⟨(inT2 78 rfl rfl), (inT2 79 rfl rfl)⟩
theorem mi_X8_fresh : MI yX8_fresh cX8_fresh 3 (some .int) 2 := ⟨(inT2 88 rfl rfl), (inT1 1 rfl rfl), by decide, by decide, (by decide +kernel)⟩
theorem mv_X8_fresh : MV yX8_fresh := ⟨(inT2 86 rfl rfl), (inT2 87 rfl rfl)⟩
theorem mi_X8_fish : MI yX8_fish cX8_fish 4 (some .int) 2 := ⟨(inT2 101 rfl rfl), (inT1 1 rfl rfl), by decide, by decide, (by decide +kernel)⟩
theorem mv_X8_fish : MV yX8_fish := ⟨(inT2 99 rfl rfl), (inT2 100 rfl rfl)⟩
theorem mi_X8_slate : MI yX8_slate cX8_slate 3 (some .int) 2 := ⟨(inT2 106 rfl rfl), (inT1 1 rfl rfl), by decide, by decide, (by decide +kernel)⟩
theorem mv_X8_slate : MV yX8_slate := ⟨(inT2 104 rfl rfl), (inT2 105 rfl rfl)⟩
theorem mi_X8_write : MI yX8_write cX8_write 5 (some .int) 3 := ⟨(inT2 110 rfl rfl), (inT1 1 rfl rfl), by decide, by decide, (by decide +kernel)⟩
theorem mv_X8_write : MV yX8_write := ⟨(inT2 108 rfl rfl), (inT2 109 rfl rfl)⟩
theorem mi_X8_copyOut : MI yX8_copyOut cX8_copyOut 7 (some .int) 5 := ⟨(inT2 114 rfl rfl), (inT1 1 rfl rfl), by decide, by decide, (by decide +kernel)⟩
theorem mv_X8_copyOut : MV yX8_copyOut := ⟨(inT2 112 rfl rfl), (inT2 113 rfl rfl)⟩
theorem mi_X8_soup : MI yX8_soup cX8_soup 3 (some .int) 1 := ⟨(inT2 124 rfl rfl), (inT1 1 rfl rfl), by decide, by decide, (by decide +kernel)⟩
theorem mv_X8_soup : MV yX8_soup := ⟨(inT2 122 rfl rfl), (inT2 123 rfl rfl)⟩
theorem mi_X8_beside : MI yX8_beside cX8_beside 3 (some .int) 1 := ⟨(inT2 132 rfl rfl), (inT1 1 rfl rfl), by decide, by decide, (by decide +kernel)⟩
theorem mv_X8_beside : MV yX8_beside := ⟨(inT2 130 rfl rfl), (inT2 131 rfl rfl)⟩
theorem mi_X8_buyer : MI yX8_buyer cX8_buyer 5 (some .int) 4 := ⟨(inT2 136 rfl rfl), (inT1 1 rfl rfl), by decide, by decide, (by decide +kernel)⟩
theorem mv_X8_buyer : MV yX8_buyer := ⟨(inT2 134 rfl rfl), (inT2 135 rfl rfl)⟩
theorem mi_X8_ofBuyer : MI yX8_ofBuyer cX8_ofBuyer 4 (some .int) 2 := ⟨(inT2 144 rfl rfl), (inT1 1 rfl rfl), by decide, by decide, (by decide +kernel)⟩
theorem mv_X8_ofBuyer : MV yX8_ofBuyer := ⟨(inT2 142 rfl rfl), (inT2 143 rfl rfl)⟩
theorem mi_X8_worth : MI yX8_worth cX8_worth 4 (some .int) 3 := ⟨(inT2 152 rfl rfl), (inT1 1 rfl rfl), by decide, by decide, (by decide +kernel)⟩
theorem mv_X8_worth : MV yX8_worth := ⟨(inT2 150 rfl rfl), (inT2 151 rfl rfl)⟩
theorem mi_X8_day : MI yX8_day cX8_day 2 (some .int) 1 := ⟨(inT2 169 rfl rfl), (inT1 1 rfl rfl), by decide, by decide, (by decide +kernel)⟩
theorem mv_X8_day : MV yX8_day := ⟨(inT2 167 rfl rfl), (inT2 168 rfl rfl)⟩
theorem mi_X8_bought : MI yX8_bought cX8_bought 3 (some .int) 2 := ⟨(inT2 220 rfl rfl), (inT1 1 rfl rfl), by decide, by decide, (by decide +kernel)⟩
theorem mv_X8_bought : MV yX8_bought := ⟨(inT2 218 rfl rfl), (inT2 219 rfl rfl)⟩
theorem mi_X8_sold : MI yX8_sold cX8_sold 3 (some .int) 2 := ⟨(inT2 224 rfl rfl), (inT1 1 rfl rfl), by decide, by decide, (by decide +kernel)⟩
theorem mv_X8_sold : MV yX8_sold := ⟨(inT2 222 rfl rfl), (inT2 223 rfl rfl)⟩
theorem mi_X8_best : MI yX8_best cX8_best 4 (some .int) 3 := ⟨(inT2 228 rfl rfl), (inT1 1 rfl rfl), by decide, by decide, (by decide +kernel)⟩
theorem mv_X8_best : MV yX8_best := ⟨(inT2 226 rfl rfl), (inT2 227 rfl rfl)⟩
theorem mi_X8_takeOff : MI yX8_takeOff cX8_takeOff 2 (some .int) 1 := ⟨(inT3 13 rfl rfl), (inT1 1 rfl rfl), by decide, by decide, (by decide +kernel)⟩
theorem mv_X8_takeOff : MV yX8_takeOff := ⟨(inT3 11 rfl rfl), (inT3 12 rfl rfl)⟩
theorem mi_X8_fetch : MI yX8_fetch cX8_fetch 2 (some .int) 1 := ⟨(inT3 28 rfl rfl), (inT1 1 rfl rfl), by decide, by decide, (by decide +kernel)⟩
theorem mv_X8_fetch : MV yX8_fetch := ⟨(inT3 26 rfl rfl), (inT3 27 rfl rfl)⟩
theorem mi_X8_carried : MI yX8_carried cX8_carried 2 (some .int) 1 := ⟨(inT3 49 rfl rfl), (inT1 1 rfl rfl), by decide, by decide, (by decide +kernel)⟩
theorem mv_X8_carried : MV yX8_carried := ⟨(inT3 47 rfl rfl), (inT3 48 rfl rfl)⟩
theorem mi_X8_cook : MI yX8_cook cX8_cook 4 (some .int) 3 := ⟨(inT3 57 rfl rfl), (inT1 1 rfl rfl), by decide, by decide, (by decide +kernel)⟩
theorem mv_X8_cook : MV yX8_cook := ⟨(inT3 55 rfl rfl), (inT3 56 rfl rfl)⟩
theorem mi_X8_mean : MI yX8_mean cX8_mean 10 (some .long) 9 := ⟨(inT3 69 rfl rfl), (inT1 1 rfl rfl), by decide, by decide, (by decide +kernel)⟩
theorem mv_X8_mean : MV yX8_mean := ⟨(inT3 67 rfl rfl), (inT3 68 rfl rfl)⟩
theorem mi_X8_howMany : MI yX8_howMany cX8_howMany 9 (some .int) 7 := ⟨(inT3 99 rfl rfl), (inT1 1 rfl rfl), by decide, by decide, (by decide +kernel)⟩
theorem mv_X8_howMany : MV yX8_howMany := ⟨(inT3 97 rfl rfl), (inT3 98 rfl rfl)⟩
theorem mi_X8_right : MI yX8_right cX8_right 5 (some .long) 3 := ⟨(inT3 108 rfl rfl), (inT1 1 rfl rfl), by decide, by decide, (by decide +kernel)⟩
theorem mv_X8_right : MV yX8_right := ⟨(inT3 106 rfl rfl), (inT3 107 rfl rfl)⟩
theorem mi_X8_rests : MI yX8_rests cX8_rests 5 (some .int) 3 := ⟨(inT3 112 rfl rfl), (inT1 1 rfl rfl), by decide, by decide, (by decide +kernel)⟩
theorem mv_X8_rests : MV yX8_rests := ⟨(inT3 110 rfl rfl), (inT3 111 rfl rfl)⟩
theorem mi_X8_mixed : MI yX8_mixed cX8_mixed 6 (some .long) 5 := ⟨(inT3 125 rfl rfl), (inT1 1 rfl rfl), by decide, by decide, (by decide +kernel)⟩
theorem mv_X8_mixed : MV yX8_mixed := ⟨(inT3 123 rfl rfl), (inT3 124 rfl rfl)⟩
theorem mi_X8_sheet : MI yX8_sheet cX8_sheet 4 (some .int) 3 := ⟨(inT3 156 rfl rfl), (inT1 1 rfl rfl), by decide, by decide, (by decide +kernel)⟩
theorem mv_X8_sheet : MV yX8_sheet := ⟨(inT3 154 rfl rfl), (inT3 155 rfl rfl)⟩
theorem mi_X8_lose : MI yX8_lose cX8_lose 3 (some .int) 1 := ⟨(inT3 164 rfl rfl), (inT1 1 rfl rfl), by decide, by decide, (by decide +kernel)⟩
theorem mv_X8_lose : MV yX8_lose := ⟨(inT3 162 rfl rfl), (inT3 163 rfl rfl)⟩
theorem mi_X8_put : MI yX8_put cX8_put 4 (some .int) 3 := ⟨(inT3 168 rfl rfl), (inT1 1 rfl rfl), by decide, by decide, (by decide +kernel)⟩
theorem mv_X8_put : MV yX8_put := ⟨(inT3 166 rfl rfl), (inT3 167 rfl rfl)⟩
theorem mi_X8_cell : MI yX8_cell cX8_cell 4 (some .long) 3 := ⟨(inT3 175 rfl rfl), (inT1 1 rfl rfl), by decide, by decide, (by decide +kernel)⟩
theorem mv_X8_cell : MV yX8_cell := ⟨(inT3 173 rfl rfl), (inT3 174 rfl rfl)⟩
theorem mi_X8_copy : MI yX8_copy cX8_copy 6 (some .int) 5 := ⟨(inT3 179 rfl rfl), (inT1 1 rfl rfl), by decide, by decide, (by decide +kernel)⟩
theorem mv_X8_copy : MV yX8_copy := ⟨(inT3 177 rfl rfl), (inT3 178 rfl rfl)⟩
theorem mi_X8_tell : MI yX8_tell cX8_tell 2 (some .int) 1 := ⟨(inT3 183 rfl rfl), (inT1 1 rfl rfl), by decide, by decide, (by decide +kernel)⟩
theorem mv_X8_tell : MV yX8_tell := ⟨(inT3 181 rfl rfl), (inT3 182 rfl rfl)⟩
theorem mi_X8_greet : MI yX8_greet cX8_greet 2 (some .int) 1 := ⟨(inT3 203 rfl rfl), (inT1 1 rfl rfl), by decide, by decide, (by decide +kernel)⟩
theorem mv_X8_greet : MV yX8_greet := ⟨(inT3 201 rfl rfl), (inT3 202 rfl rfl)⟩
theorem mi_X8_as : MI yX8_as cX8_as 3 (some .int) 2 := ⟨(inT3 207 rfl rfl), (inT1 1 rfl rfl), by decide, by decide, (by decide +kernel)⟩
theorem mv_X8_as : MV yX8_as := ⟨(inT3 205 rfl rfl), (inT3 206 rfl rfl)⟩
theorem mi_X8_trace : MI yX8_trace cX8_trace 1 (some .int) 0 := ⟨(inT3 211 rfl rfl), (inT1 1 rfl rfl), by decide, by decide, (by decide +kernel)⟩
theorem mv_X8_trace : MV yX8_trace := ⟨(inT3 209 rfl rfl), (inT3 210 rfl rfl)⟩
theorem mi_X8_fault : MI yX8_fault cX8_fault 1 (some .int) 0 := ⟨(inT3 215 rfl rfl), (inT1 1 rfl rfl), by decide, by decide, (by decide +kernel)⟩
theorem mv_X8_fault : MV yX8_fault := ⟨(inT3 213 rfl rfl), (inT3 214 rfl rfl)⟩
theorem mi_X8_many : MI yX8_many cX8_many 2 (some .int) 1 := ⟨(inT3 219 rfl rfl), (inT1 1 rfl rfl), by decide, by decide, (by decide +kernel)⟩
theorem mv_X8_many : MV yX8_many := ⟨(inT3 217 rfl rfl), (inT3 218 rfl rfl)⟩
theorem mi_X8_tellAsBuyer : MI yX8_tellAsBuyer cX8_tellAsBuyer 2 (some .int) 1 := ⟨(inT3 199 rfl rfl), (inT1 1 rfl rfl), by decide, by decide, (by decide +kernel)⟩
theorem mv_X8_tellAsBuyer : MV yX8_tellAsBuyer := ⟨(inT3 198 rfl rfl), (inP 14 (by decide +kernel) rfl)⟩
theorem mi_X8_tellAsChoosing : MI yX8_tellAsChoosing cX8_tellAsChoosing 2 (some .int) 1 := ⟨(inT3 195 rfl rfl), (inT1 1 rfl rfl), by decide, by decide, (by decide +kernel)⟩
theorem mv_X8_tellAsChoosing : MV yX8_tellAsChoosing := ⟨(inT3 194 rfl rfl), (inP 13 (by decide +kernel) rfl)⟩
theorem mi_X8_tellAsWaiting : MI yX8_tellAsWaiting cX8_tellAsWaiting 3 (some .int) 1 := ⟨(inT3 187 rfl rfl), (inT1 1 rfl rfl), by decide, by decide, (by decide +kernel)⟩
theorem mv_X8_tellAsWaiting : MV yX8_tellAsWaiting := ⟨(inT3 186 rfl rfl), (inP 11 (by decide +kernel) rfl)⟩
theorem mi_X8_leaveTrace : MI yX8_leaveTrace cX8_leaveTrace 2 none 1 := ⟨(inT3 191 rfl rfl), (inT1 1 rfl rfl), by decide, by decide, (by decide +kernel)⟩
theorem mv_X8_leaveTrace : MV yX8_leaveTrace := ⟨(inT3 190 rfl rfl), (inP 12 (by decide +kernel) rfl)⟩
theorem mi_X8_faultOf : MI yX8_faultOf cX8_faultOf 2 (some .int) 1 := ⟨(inT2 59 rfl rfl), (inT1 1 rfl rfl), by decide, by decide, (by decide +kernel)⟩
theorem mv_X8_faultOf : MV yX8_faultOf := ⟨(inT2 58 rfl rfl), (inP 1 (by decide +kernel) rfl)⟩
theorem mi_X8_lookAtCells : MI yX8_lookAtCells cX8_lookAtCells 5 (some .int) 4 := ⟨(inT2 43 rfl rfl), (inT1 1 rfl rfl), by decide, by decide, (by decide +kernel)⟩
theorem mv_X8_lookAtCells : MV yX8_lookAtCells := ⟨(inT2 42 rfl rfl), (inP 0 (by decide +kernel) rfl)⟩
theorem mi_X8_isWithin : MI yX8_isWithin cX8_isWithin 3 (some .boolean) 3 := ⟨(inT2 72 rfl rfl), (inT1 1 rfl rfl), by decide, by decide, (by decide +kernel)⟩
theorem ms_X8_isWithin : Cond.static yX8_isWithin ∈ tbl0 := (inT2 71 rfl rfl)
theorem mi_X8_areMoney : MI yX8_areMoney cX8_areMoney 3 (some .boolean) 3 := ⟨(inT3 79 rfl rfl), (inT1 1 rfl rfl), by decide, by decide, (by decide +kernel)⟩
theorem ms_X8_areMoney : Cond.static yX8_areMoney ∈ tbl0 := (inT3 78 rfl rfl)
theorem mi_X8_areAllWithin : MI yX8_areAllWithin cX8_areAllWithin 6 (some .boolean) 5 := ⟨(inT2 117 rfl rfl), (inT1 1 rfl rfl), by decide, by decide, (by decide +kernel)⟩
theorem ms_X8_areAllWithin : Cond.static yX8_areAllWithin ∈ tbl0 := (inT2 116 rfl rfl)
theorem mi_X8_partOfShare : MI yX8_partOfShare cX8_partOfShare 9 (some .long) 3 := ⟨(inT3 89 rfl rfl), (inT1 1 rfl rfl), by decide, by decide, (by decide +kernel)⟩
theorem ms_X8_partOfShare : Cond.static yX8_partOfShare ∈ tbl0 := (inT3 88 rfl rfl)
theorem mi_X8_commonDivisor : MI yX8_commonDivisor cX8_commonDivisor 7 (some .long) 2 := ⟨(inT3 95 rfl rfl), (inT1 1 rfl rfl), by decide, by decide, (by decide +kernel)⟩
theorem ms_X8_commonDivisor : Cond.static yX8_commonDivisor ∈ tbl0 := (inT3 94 rfl rfl)
theorem mi_X9_in : MI yX9_in cX9_in 6 (some .boolean) 3 := ⟨(inT4 118 rfl rfl), (inT1 9 rfl rfl), by decide, by decide, (by decide +kernel)⟩
theorem ms_X9_in : Cond.static yX9_in ∈ tbl0 := (inT4 117 rfl rfl)
theorem mi_X9_lost : MI yX9_lost cX9_lost 0 (some .long) 0 := ⟨(inT5 75 rfl rfl), (inT1 9 rfl rfl), by decide, by decide, (by decide +kernel)⟩
theorem ms_X9_lost : Cond.static yX9_lost ∈ tbl0 := (inT5 74 rfl rfl)
theorem mi_X9_greater : MI yX9_greater cX9_greater 2 (some .int) 2 := ⟨(inT4 169 rfl rfl), (inT1 9 rfl rfl), by decide, by decide, (by decide +kernel)⟩
theorem ms_X9_greater : Cond.static yX9_greater ∈ tbl0 := (inT4 168 rfl rfl)
theorem mi_X9_told : MI yX9_told cX9_told 11 (some .long) 3 := ⟨(inT5 95 rfl rfl), (inT1 9 rfl rfl), by decide, by decide, (by decide +kernel)⟩
theorem ms_X9_told : Cond.static yX9_told ∈ tbl0 := (inT5 94 rfl rfl)
theorem mi_X9_isWhich : MI yX9_isWhich cX9_isWhich 1 (some .boolean) 1 := ⟨(inT5 88 rfl rfl), (inT1 9 rfl rfl), by decide, by decide, (by decide +kernel)⟩
theorem ms_X9_isWhich : Cond.static yX9_isWhich ∈ tbl0 := (inT5 87 rfl rfl)
theorem mi_X9_refused : MI yX9_refused cX9_refused 2 (some .int) 1 := ⟨(inT4 122 rfl rfl), (inT1 9 rfl rfl), by decide, by decide, (by decide +kernel)⟩
theorem mv_X9_refused : MV yX9_refused := ⟨(inT4 121 rfl rfl), (inP 16 (by decide +kernel) rfl)⟩
theorem mi_X9_failed : MI yX9_failed cX9_failed 2 (some .int) 1 := ⟨(inT4 127 rfl rfl), (inT1 9 rfl rfl), by decide, by decide, (by decide +kernel)⟩
theorem mv_X9_failed : MV yX9_failed := ⟨(inT4 126 rfl rfl), (inP 17 (by decide +kernel) rfl)⟩
theorem mi_X9_failedLong : MI yX9_failedLong cX9_failedLong 2 (some .long) 1 := ⟨(inT5 145 rfl rfl), (inT1 9 rfl rfl), by decide, by decide, (by decide +kernel)⟩
theorem mv_X9_failedLong : MV yX9_failedLong := ⟨(inT5 144 rfl rfl), (inP 46 (by decide +kernel) rfl)⟩
theorem mi_X9_barred : MI yX9_barred cX9_barred 6 (some .int) 4 := ⟨(inT4 111 rfl rfl), (inT1 9 rfl rfl), by decide, by decide, (by decide +kernel)⟩
theorem mv_X9_barred : MV yX9_barred := ⟨(inT4 110 rfl rfl), (inP 15 (by decide +kernel) rfl)⟩
theorem mi_X9_noSort : MI yX9_noSort cX9_noSort 2 (some .boolean) 1 := ⟨(inT4 154 rfl rfl), (inT1 9 rfl rfl), by decide, by decide, (by decide +kernel)⟩
theorem mv_X9_noSort : MV yX9_noSort := ⟨(inT4 153 rfl rfl), (inP 22 (by decide +kernel) rfl)⟩
theorem mi_X9_noHour : MI yX9_noHour cX9_noHour 2 (some .boolean) 1 := ⟨(inT4 162 rfl rfl), (inT1 9 rfl rfl), by decide, by decide, (by decide +kernel)⟩
theorem mv_X9_noHour : MV yX9_noHour := ⟨(inT4 161 rfl rfl), (inP 23 (by decide +kernel) rfl)⟩
theorem mi_X9_takes : MI yX9_takes cX9_takes 5 (some .boolean) 3 := ⟨(inT4 138 rfl rfl), (inT1 9 rfl rfl), by decide, by decide, (by decide +kernel)⟩
theorem mv_X9_takes : MV yX9_takes := ⟨(inT4 137 rfl rfl), (inP 19 (by decide +kernel) rfl)⟩
theorem mi_X9_readsFigure : MI yX9_readsFigure cX9_readsFigure 6 (some .boolean) 4 := ⟨(inT4 142 rfl rfl), (inT1 9 rfl rfl), by decide, by decide, (by decide +kernel)⟩
theorem mv_X9_readsFigure : MV yX9_readsFigure := ⟨(inT4 141 rfl rfl), (inP 20 (by decide +kernel) rfl)⟩
theorem mi_X9_readsSort : MI yX9_readsSort cX9_readsSort 5 (some .boolean) 2 := ⟨(inT4 146 rfl rfl), (inT1 9 rfl rfl), by decide, by decide, (by decide +kernel)⟩
theorem mv_X9_readsSort : MV yX9_readsSort := ⟨(inT4 145 rfl rfl), (inP 21 (by decide +kernel) rfl)⟩
theorem mi_X9_readsStall : MI yX9_readsStall cX9_readsStall 4 (some .boolean) 2 := ⟨(inT4 134 rfl rfl), (inT1 9 rfl rfl), by decide, by decide, (by decide +kernel)⟩
theorem mv_X9_readsStall : MV yX9_readsStall := ⟨(inT4 133 rfl rfl), (inP 18 (by decide +kernel) rfl)⟩
theorem mi_X9_stall : MI yX9_stall cX9_stall 7 (some .int) 4 := ⟨(inT4 107 rfl rfl), (inT1 9 rfl rfl), by decide, by decide, (by decide +kernel)⟩
theorem mv_X9_stall : MV yX9_stall := ⟨(inT4 105 rfl rfl), (inT4 106 rfl rfl)⟩
theorem mi_X9_ofSort : MI yX9_ofSort cX9_ofSort 3 (some .int) 2 := ⟨(inT4 150 rfl rfl), (inT1 9 rfl rfl), by decide, by decide, (by decide +kernel)⟩
theorem mv_X9_ofSort : MV yX9_ofSort := ⟨(inT4 148 rfl rfl), (inT4 149 rfl rfl)⟩
theorem mi_X9_freshAt : MI yX9_freshAt cX9_freshAt 3 (some .int) 2 := ⟨(inT4 166 rfl rfl), (inT1 9 rfl rfl), by decide, by decide, (by decide +kernel)⟩
theorem mv_X9_freshAt : MV yX9_freshAt := ⟨(inT4 165 rfl rfl), (inP 24 (by decide +kernel) rfl)⟩
theorem mi_X9_fresh : MI yX9_fresh cX9_fresh 3 (some .int) 2 := ⟨(inT4 158 rfl rfl), (inT1 9 rfl rfl), by decide, by decide, (by decide +kernel)⟩
theorem mv_X9_fresh : MV yX9_fresh := ⟨(inT4 156 rfl rfl), (inT4 157 rfl rfl)⟩
theorem mi_X9_fish : MI yX9_fish cX9_fish 4 (some .int) 2 := ⟨(inT4 173 rfl rfl), (inT1 9 rfl rfl), by decide, by decide, (by decide +kernel)⟩
theorem mv_X9_fish : MV yX9_fish := ⟨(inT4 171 rfl rfl), (inT4 172 rfl rfl)⟩
theorem mi_X9_priceOf : MI yX9_priceOf cX9_priceOf 3 (some .int) 2 := ⟨(inT4 182 rfl rfl), (inT1 9 rfl rfl), by decide, by decide, (by decide +kernel)⟩
theorem mv_X9_priceOf : MV yX9_priceOf := ⟨(inT4 181 rfl rfl), (inP 25 (by decide +kernel) rfl)⟩
theorem mi_X9_isPrice : MI yX9_isPrice cX9_isPrice 1 (some .boolean) 1 := ⟨(inT4 189 rfl rfl), (inT1 9 rfl rfl), by decide, by decide, (by decide +kernel)⟩
theorem ms_X9_isPrice : Cond.static yX9_isPrice ∈ tbl0 := (inT4 188 rfl rfl)
theorem mi_X9_slate : MI yX9_slate cX9_slate 3 (some .int) 2 := ⟨(inT4 178 rfl rfl), (inT1 9 rfl rfl), by decide, by decide, (by decide +kernel)⟩
theorem mv_X9_slate : MV yX9_slate := ⟨(inT4 176 rfl rfl), (inT4 177 rfl rfl)⟩
theorem mi_X9_write : MI yX9_write cX9_write 5 (some .int) 3 := ⟨(inT4 186 rfl rfl), (inT1 9 rfl rfl), by decide, by decide, (by decide +kernel)⟩
theorem mv_X9_write : MV yX9_write := ⟨(inT4 184 rfl rfl), (inT4 185 rfl rfl)⟩
theorem mi_X9_copyOut : MI yX9_copyOut cX9_copyOut 9 (some .int) 5 := ⟨(inT4 194 rfl rfl), (inT1 9 rfl rfl), by decide, by decide, (by decide +kernel)⟩
theorem mv_X9_copyOut : MV yX9_copyOut := ⟨(inT4 192 rfl rfl), (inT4 193 rfl rfl)⟩
theorem mi_X9_soup : MI yX9_soup cX9_soup 3 (some .int) 1 := ⟨(inT4 198 rfl rfl), (inT1 9 rfl rfl), by decide, by decide, (by decide +kernel)⟩
theorem mv_X9_soup : MV yX9_soup := ⟨(inT4 196 rfl rfl), (inT4 197 rfl rfl)⟩
theorem mi_X9_beside : MI yX9_beside cX9_beside 3 (some .int) 1 := ⟨(inT4 202 rfl rfl), (inT1 9 rfl rfl), by decide, by decide, (by decide +kernel)⟩
theorem mv_X9_beside : MV yX9_beside := ⟨(inT4 200 rfl rfl), (inT4 201 rfl rfl)⟩
theorem mi_X9_noBuyer : MI yX9_noBuyer cX9_noBuyer 2 (some .boolean) 1 := ⟨(inT4 215 rfl rfl), (inT1 9 rfl rfl), by decide, by decide, (by decide +kernel)⟩
theorem mv_X9_noBuyer : MV yX9_noBuyer := ⟨(inT4 214 rfl rfl), (inP 26 (by decide +kernel) rfl)⟩
theorem mi_X9_buyer : MI yX9_buyer cX9_buyer 5 (some .int) 4 := ⟨(inT4 206 rfl rfl), (inT1 9 rfl rfl), by decide, by decide, (by decide +kernel)⟩
theorem mv_X9_buyer : MV yX9_buyer := ⟨(inT4 204 rfl rfl), (inT4 205 rfl rfl)⟩
theorem mi_X9_ofBuyer : MI yX9_ofBuyer cX9_ofBuyer 3 (some .int) 2 := ⟨(inT4 211 rfl rfl), (inT1 9 rfl rfl), by decide, by decide, (by decide +kernel)⟩
theorem mv_X9_ofBuyer : MV yX9_ofBuyer := ⟨(inT4 209 rfl rfl), (inT4 210 rfl rfl)⟩
theorem mi_X9_layAll : MI yX9_layAll cX9_layAll 2 none 0 := ⟨(inT4 223 rfl rfl), (inT1 9 rfl rfl), by decide, by decide, (by decide +kernel)⟩
theorem mv_X9_layAll : MV yX9_layAll := ⟨(inT4 222 rfl rfl), (inP 27 (by decide +kernel) rfl)⟩
theorem mi_X9_hasDearer : MI yX9_hasDearer cX9_hasDearer 5 (some .boolean) 2 := ⟨(inT4 231 rfl rfl), (inT1 9 rfl rfl), by decide, by decide, (by decide +kernel)⟩
theorem mv_X9_hasDearer : MV yX9_hasDearer := ⟨(inT4 230 rfl rfl), (inP 29 (by decide +kernel) rfl)⟩
theorem mi_X9_worthOf : MI yX9_worthOf cX9_worthOf 5 (some .int) 3 := ⟨(inT4 227 rfl rfl), (inT1 9 rfl rfl), by decide, by decide, (by decide +kernel)⟩
theorem mv_X9_worthOf : MV yX9_worthOf := ⟨(inT4 226 rfl rfl), (inP 28 (by decide +kernel) rfl)⟩
theorem mi_X9_worth : MI yX9_worth cX9_worth 4 (some .int) 3 := ⟨(inT4 219 rfl rfl), (inT1 9 rfl rfl), by decide, by decide, (by decide +kernel)⟩
theorem mv_X9_worth : MV yX9_worth := ⟨(inT4 217 rfl rfl), (inT4 218 rfl rfl)⟩
theorem mi_X9_gainOf : MI yX9_gainOf cX9_gainOf 5 (some .int) 3 := ⟨(inT5 19 rfl rfl), (inT1 9 rfl rfl), by decide, by decide, (by decide +kernel)⟩
theorem mv_X9_gainOf : MV yX9_gainOf := ⟨(inT5 18 rfl rfl), (inP 35 (by decide +kernel) rfl)⟩
theorem mi_X9_isCheaperNext : MI yX9_isCheaperNext cX9_isCheaperNext 3 (some .boolean) 2 := ⟨(inT5 15 rfl rfl), (inT1 9 rfl rfl), by decide, by decide, (by decide +kernel)⟩
theorem mv_X9_isCheaperNext : MV yX9_isCheaperNext := ⟨(inT5 14 rfl rfl), (inP 34 (by decide +kernel) rfl)⟩
theorem mi_X9_wanted : MI yX9_wanted cX9_wanted 8 (some .int) 2 := ⟨(inT5 11 rfl rfl), (inT1 9 rfl rfl), by decide, by decide, (by decide +kernel)⟩
theorem mv_X9_wanted : MV yX9_wanted := ⟨(inT5 10 rfl rfl), (inP 33 (by decide +kernel) rfl)⟩
theorem mi_X9_sell : MI yX9_sell cX9_sell 4 none 3 := ⟨(inT5 3 rfl rfl), (inT1 9 rfl rfl), by decide, by decide, (by decide +kernel)⟩
theorem mv_X9_sell : MV yX9_sell := ⟨(inT5 2 rfl rfl), (inP 31 (by decide +kernel) rfl)⟩
theorem mi_X9_comes : MI yX9_comes cX9_comes 4 none 2 := ⟨(inT5 7 rfl rfl), (inT1 9 rfl rfl), by decide, by decide, (by decide +kernel)⟩
theorem mv_X9_comes : MV yX9_comes := ⟨(inT5 6 rfl rfl), (inP 32 (by decide +kernel) rfl)⟩
theorem mi_X9_goThrough : MI yX9_goThrough cX9_goThrough 7 none 3 := ⟨(inT4 239 rfl rfl), (inT1 9 rfl rfl), by decide, by decide, (by decide +kernel)⟩
theorem mv_X9_goThrough : MV yX9_goThrough := ⟨(inT4 238 rfl rfl), (inP 30 (by decide +kernel) rfl)⟩
theorem mi_X9_left : MI yX9_left cX9_left 3 (some .int) 0 := ⟨(inT5 27 rfl rfl), (inT1 9 rfl rfl), by decide, by decide, (by decide +kernel)⟩
theorem mv_X9_left : MV yX9_left := ⟨(inT5 26 rfl rfl), (inP 37 (by decide +kernel) rfl)⟩
theorem mi_X9_allFish : MI yX9_allFish cX9_allFish 3 (some .int) 0 := ⟨(inT5 23 rfl rfl), (inT1 9 rfl rfl), by decide, by decide, (by decide +kernel)⟩
theorem mv_X9_allFish : MV yX9_allFish := ⟨(inT5 22 rfl rfl), (inP 36 (by decide +kernel) rfl)⟩
theorem mi_X9_profitOf : MI yX9_profitOf cX9_profitOf 3 (some .int) 0 := ⟨(inT5 31 rfl rfl), (inT1 9 rfl rfl), by decide, by decide, (by decide +kernel)⟩
theorem mv_X9_profitOf : MV yX9_profitOf := ⟨(inT5 30 rfl rfl), (inP 38 (by decide +kernel) rfl)⟩
theorem mi_X9_profit : MI yX9_profit cX9_profit 1 (some .int) 0 := ⟨(inT5 47 rfl rfl), (inT1 9 rfl rfl), by decide, by decide, (by decide +kernel)⟩
theorem mv_X9_profit : MV yX9_profit := ⟨(inT5 46 rfl rfl), (inP 39 (by decide +kernel) rfl)⟩
theorem mi_X9_day : MI yX9_day cX9_day 2 (some .int) 1 := ⟨(inT4 235 rfl rfl), (inT1 9 rfl rfl), by decide, by decide, (by decide +kernel)⟩
theorem mv_X9_day : MV yX9_day := ⟨(inT4 233 rfl rfl), (inT4 234 rfl rfl)⟩
theorem mi_X9_bought : MI yX9_bought cX9_bought 3 (some .int) 2 := ⟨(inT5 35 rfl rfl), (inT1 9 rfl rfl), by decide, by decide, (by decide +kernel)⟩
theorem mv_X9_bought : MV yX9_bought := ⟨(inT5 33 rfl rfl), (inT5 34 rfl rfl)⟩
theorem mi_X9_sold : MI yX9_sold cX9_sold 3 (some .int) 2 := ⟨(inT5 39 rfl rfl), (inT1 9 rfl rfl), by decide, by decide, (by decide +kernel)⟩
theorem mv_X9_sold : MV yX9_sold := ⟨(inT5 37 rfl rfl), (inT5 38 rfl rfl)⟩
theorem mi_X9_best : MI yX9_best cX9_best 9 (some .int) 3 := ⟨(inT5 43 rfl rfl), (inT1 9 rfl rfl), by decide, by decide, (by decide +kernel)⟩
theorem mv_X9_best : MV yX9_best := ⟨(inT5 41 rfl rfl), (inT5 42 rfl rfl)⟩
theorem mi_X9_takeOff : MI yX9_takeOff cX9_takeOff 8 (some .int) 1 := ⟨(inT5 51 rfl rfl), (inT1 9 rfl rfl), by decide, by decide, (by decide +kernel)⟩
theorem mv_X9_takeOff : MV yX9_takeOff := ⟨(inT5 49 rfl rfl), (inT5 50 rfl rfl)⟩
theorem mi_X9_layFish : MI yX9_layFish cX9_layFish 4 none 1 := ⟨(inT5 60 rfl rfl), (inT1 9 rfl rfl), by decide, by decide, (by decide +kernel)⟩
theorem mv_X9_layFish : MV yX9_layFish := ⟨(inT5 59 rfl rfl), (inP 40 (by decide +kernel) rfl)⟩
theorem mi_X9_fetch : MI yX9_fetch cX9_fetch 7 (some .int) 1 := ⟨(inT5 55 rfl rfl), (inT1 9 rfl rfl), by decide, by decide, (by decide +kernel)⟩
theorem mv_X9_fetch : MV yX9_fetch := ⟨(inT5 53 rfl rfl), (inT5 54 rfl rfl)⟩
theorem mi_X9_carried : MI yX9_carried cX9_carried 5 (some .int) 1 := ⟨(inT5 64 rfl rfl), (inT1 9 rfl rfl), by decide, by decide, (by decide +kernel)⟩
theorem mv_X9_carried : MV yX9_carried := ⟨(inT5 62 rfl rfl), (inT5 63 rfl rfl)⟩
theorem mi_X9_cook : MI yX9_cook cX9_cook 5 (some .int) 3 := ⟨(inT5 68 rfl rfl), (inT1 9 rfl rfl), by decide, by decide, (by decide +kernel)⟩
theorem mv_X9_cook : MV yX9_cook := ⟨(inT5 66 rfl rfl), (inT5 67 rfl rfl)⟩
theorem mi_X9_isMoney : MI yX9_isMoney cX9_isMoney 3 (some .boolean) 3 := ⟨(inT5 85 rfl rfl), (inT1 9 rfl rfl), by decide, by decide, (by decide +kernel)⟩
theorem ms_X9_isMoney : Cond.static yX9_isMoney ∈ tbl0 := (inT5 84 rfl rfl)
theorem mi_X9_weightsOf : MI yX9_weightsOf cX9_weightsOf 5 (some .int) 2 := ⟨(inT5 81 rfl rfl), (inT1 9 rfl rfl), by decide, by decide, (by decide +kernel)⟩
theorem mv_X9_weightsOf : MV yX9_weightsOf := ⟨(inT5 80 rfl rfl), (inP 41 (by decide +kernel) rfl)⟩
theorem mi_X9_hadBy : MI yX9_hadBy cX9_hadBy 11 (some .long) 6 := ⟨(inT5 92 rfl rfl), (inT1 9 rfl rfl), by decide, by decide, (by decide +kernel)⟩
theorem mv_X9_hadBy : MV yX9_hadBy := ⟨(inT5 91 rfl rfl), (inP 42 (by decide +kernel) rfl)⟩
theorem mi_X9_mean : MI yX9_mean cX9_mean 12 (some .long) 9 := ⟨(inT5 72 rfl rfl), (inT1 9 rfl rfl), by decide, by decide, (by decide +kernel)⟩
theorem mv_X9_mean : MV yX9_mean := ⟨(inT5 70 rfl rfl), (inT5 71 rfl rfl)⟩
theorem mi_X9_howMany : MI yX9_howMany cX9_howMany 12 (some .int) 7 := ⟨(inT5 99 rfl rfl), (inT1 9 rfl rfl), by decide, by decide, (by decide +kernel)⟩
theorem mv_X9_howMany : MV yX9_howMany := ⟨(inT5 97 rfl rfl), (inT5 98 rfl rfl)⟩
theorem mi_X9_right : MI yX9_right cX9_right 4 (some .long) 3 := ⟨(inT5 103 rfl rfl), (inT1 9 rfl rfl), by decide, by decide, (by decide +kernel)⟩
theorem mv_X9_right : MV yX9_right := ⟨(inT5 101 rfl rfl), (inT5 102 rfl rfl)⟩
theorem mi_X9_takesGame : MI yX9_takesGame cX9_takesGame 4 (some .boolean) 1 := ⟨(inT5 112 rfl rfl), (inT1 9 rfl rfl), by decide, by decide, (by decide +kernel)⟩
theorem mv_X9_takesGame : MV yX9_takesGame := ⟨(inT5 111 rfl rfl), (inP 43 (by decide +kernel) rfl)⟩
theorem mi_X9_rests : MI yX9_rests cX9_rests 8 (some .int) 3 := ⟨(inT5 107 rfl rfl), (inT1 9 rfl rfl), by decide, by decide, (by decide +kernel)⟩
theorem mv_X9_rests : MV yX9_rests := ⟨(inT5 105 rfl rfl), (inT5 106 rfl rfl)⟩
theorem mi_X9_mixes : MI yX9_mixes cX9_mixes 3 (some .boolean) 2 := ⟨(inT5 121 rfl rfl), (inT1 9 rfl rfl), by decide, by decide, (by decide +kernel)⟩
theorem mv_X9_mixes : MV yX9_mixes := ⟨(inT5 120 rfl rfl), (inP 44 (by decide +kernel) rfl)⟩
theorem mi_X9_mixed : MI yX9_mixed cX9_mixed 11 (some .long) 5 := ⟨(inT5 117 rfl rfl), (inT1 9 rfl rfl), by decide, by decide, (by decide +kernel)⟩
theorem mv_X9_mixed : MV yX9_mixed := ⟨(inT5 115 rfl rfl), (inT5 116 rfl rfl)⟩
theorem mi_X9_noSheet : MI yX9_noSheet cX9_noSheet 1 (some .boolean) 1 := ⟨(inT4 114 rfl rfl), (inT1 9 rfl rfl), by decide, by decide, (by decide +kernel)⟩
theorem ms_X9_noSheet : Cond.static yX9_noSheet ∈ tbl0 := (inT4 113 rfl rfl)
theorem mi_X9_sheet : MI yX9_sheet cX9_sheet 5 (some .int) 3 := ⟨(inT5 125 rfl rfl), (inT1 9 rfl rfl), by decide, by decide, (by decide +kernel)⟩
theorem mv_X9_sheet : MV yX9_sheet := ⟨(inT5 123 rfl rfl), (inT5 124 rfl rfl)⟩
theorem mi_X9_lose : MI yX9_lose cX9_lose 3 (some .int) 1 := ⟨(inT5 129 rfl rfl), (inT1 9 rfl rfl), by decide, by decide, (by decide +kernel)⟩
theorem mv_X9_lose : MV yX9_lose := ⟨(inT5 127 rfl rfl), (inT5 128 rfl rfl)⟩
theorem mi_X9_noCell : MI yX9_noCell cX9_noCell 3 (some .int) 2 := ⟨(inT5 137 rfl rfl), (inT1 9 rfl rfl), by decide, by decide, (by decide +kernel)⟩
theorem mv_X9_noCell : MV yX9_noCell := ⟨(inT5 136 rfl rfl), (inP 45 (by decide +kernel) rfl)⟩
theorem mi_X9_put : MI yX9_put cX9_put 4 (some .int) 3 := ⟨(inT5 133 rfl rfl), (inT1 9 rfl rfl), by decide, by decide, (by decide +kernel)⟩
theorem mv_X9_put : MV yX9_put := ⟨(inT5 131 rfl rfl), (inT5 132 rfl rfl)⟩
theorem mi_X9_cell : MI yX9_cell cX9_cell 4 (some .long) 3 := ⟨(inT5 141 rfl rfl), (inT1 9 rfl rfl), by decide, by decide, (by decide +kernel)⟩
theorem mv_X9_cell : MV yX9_cell := ⟨(inT5 139 rfl rfl), (inT5 140 rfl rfl)⟩
theorem mi_X9_isBeyond : MI yX9_isBeyond cX9_isBeyond 4 (some .boolean) 3 := ⟨(inT4 130 rfl rfl), (inT1 9 rfl rfl), by decide, by decide, (by decide +kernel)⟩
theorem ms_X9_isBeyond : Cond.static yX9_isBeyond ∈ tbl0 := (inT4 129 rfl rfl)
theorem mi_X9_copy : MI yX9_copy cX9_copy 7 (some .int) 5 := ⟨(inT5 149 rfl rfl), (inT1 9 rfl rfl), by decide, by decide, (by decide +kernel)⟩
theorem mv_X9_copy : MV yX9_copy := ⟨(inT5 147 rfl rfl), (inT5 148 rfl rfl)⟩
theorem mi_X9_traced : MI yX9_traced cX9_traced 2 none 1 := ⟨(inT5 157 rfl rfl), (inT1 9 rfl rfl), by decide, by decide, (by decide +kernel)⟩
theorem mv_X9_traced : MV yX9_traced := ⟨(inT5 156 rfl rfl), (inP 47 (by decide +kernel) rfl)⟩
theorem mi_X9_tell : MI yX9_tell cX9_tell 4 (some .int) 1 := ⟨(inT5 153 rfl rfl), (inT1 9 rfl rfl), by decide, by decide, (by decide +kernel)⟩
theorem mv_X9_tell : MV yX9_tell := ⟨(inT5 151 rfl rfl), (inT5 152 rfl rfl)⟩
theorem mi_X9_greet : MI yX9_greet cX9_greet 2 (some .int) 1 := ⟨(inT5 161 rfl rfl), (inT1 9 rfl rfl), by decide, by decide, (by decide +kernel)⟩
theorem mv_X9_greet : MV yX9_greet := ⟨(inT5 159 rfl rfl), (inT5 160 rfl rfl)⟩
theorem mi_X9_as : MI yX9_as cX9_as 3 (some .int) 2 := ⟨(inT5 165 rfl rfl), (inT1 9 rfl rfl), by decide, by decide, (by decide +kernel)⟩
theorem mv_X9_as : MV yX9_as := ⟨(inT5 163 rfl rfl), (inT5 164 rfl rfl)⟩
theorem mi_X9_trace : MI yX9_trace cX9_trace 1 (some .int) 0 := ⟨(inT5 169 rfl rfl), (inT1 9 rfl rfl), by decide, by decide, (by decide +kernel)⟩
theorem mv_X9_trace : MV yX9_trace := ⟨(inT5 167 rfl rfl), (inT5 168 rfl rfl)⟩
theorem mi_X9_fault : MI yX9_fault cX9_fault 1 (some .int) 0 := ⟨(inT5 173 rfl rfl), (inT1 9 rfl rfl), by decide, by decide, (by decide +kernel)⟩
theorem mv_X9_fault : MV yX9_fault := ⟨(inT5 171 rfl rfl), (inT5 172 rfl rfl)⟩
theorem mi_X9_many : MI yX9_many cX9_many 2 (some .int) 1 := ⟨(inT5 177 rfl rfl), (inT1 9 rfl rfl), by decide, by decide, (by decide +kernel)⟩
theorem mv_X9_many : MV yX9_many := ⟨(inT5 175 rfl rfl), (inT5 176 rfl rfl)⟩
theorem mi_X0_has : MI yX0_has cX0_has 2 (some .boolean) 1 := ⟨(inT2 148 rfl rfl), (inT1 4 rfl rfl), by decide, by decide, (by decide +kernel)⟩
theorem mv_X0_has : MV yX0_has := ⟨(inT2 146 rfl rfl), (inT2 147 rfl rfl)⟩
theorem mi_X0_add : MI yX0_add cX0_add 6 (some .int) 4 := ⟨(inT2 140 rfl rfl), (inT1 4 rfl rfl), by decide, by decide, (by decide +kernel)⟩
theorem mv_X0_add : MV yX0_add := ⟨(inT2 138 rfl rfl), (inT2 139 rfl rfl)⟩
theorem mi_X0_become : MI yX0_become cX0_become 2 none 1 := ⟨(inT3 5 rfl rfl), (inT1 4 rfl rfl), by decide, by decide, (by decide +kernel)⟩
theorem mv_X0_become : MV yX0_become := ⟨(inT3 3 rfl rfl), (inT3 4 rfl rfl)⟩
theorem mi_X1_become : MI yX1_become cX1_become 2 none 1 := ⟨(inT2 236 rfl rfl), (inT1 2 rfl rfl), by decide, by decide, (by decide +kernel)⟩
theorem mv_X1_become : MV yX1_become := ⟨(inT2 234 rfl rfl), (inT2 235 rfl rfl)⟩
theorem mi_X1_awaitCook : MI yX1_awaitCook cX1_awaitCook 4 none 3 := ⟨(inT3 65 rfl rfl), (inT1 2 rfl rfl), by decide, by decide, (by decide +kernel)⟩
theorem mv_X1_awaitCook : MV yX1_awaitCook := ⟨(inT3 63 rfl rfl), (inT3 64 rfl rfl)⟩
theorem mi_X1_open : MI yX1_open cX1_open 2 none 0 := ⟨(inT2 156 rfl rfl), (inT1 2 rfl rfl), by decide, by decide, (by decide +kernel)⟩
theorem mv_X1_open : MV yX1_open := ⟨(inT2 154 rfl rfl), (inT2 155 rfl rfl)⟩
theorem mi_X1_goThrough : MI yX1_goThrough cX1_goThrough 4 none 0 := ⟨(inT2 173 rfl rfl), (inT1 2 rfl rfl), by decide, by decide, (by decide +kernel)⟩
theorem mv_X1_goThrough : MV yX1_goThrough := ⟨(inT2 171 rfl rfl), (inT2 172 rfl rfl)⟩
theorem mi_X1_allLeft : MI yX1_allLeft cX1_allLeft 3 (some .int) 0 := ⟨(inT2 207 rfl rfl), (inT1 2 rfl rfl), by decide, by decide, (by decide +kernel)⟩
theorem mv_X1_allLeft : MV yX1_allLeft := ⟨(inT2 205 rfl rfl), (inT2 206 rfl rfl)⟩
theorem mi_X1_profit : MI yX1_profit cX1_profit 1 (some .int) 0 := ⟨(inT2 211 rfl rfl), (inT1 2 rfl rfl), by decide, by decide, (by decide +kernel)⟩
theorem mv_X1_profit : MV yX1_profit := ⟨(inT2 209 rfl rfl), (inT2 210 rfl rfl)⟩
theorem mi_X1_worthTo : MI yX1_worthTo cX1_worthTo 5 (some .int) 3 := ⟨(inT2 160 rfl rfl), (inT1 2 rfl rfl), by decide, by decide, (by decide +kernel)⟩
theorem mv_X1_worthTo : MV yX1_worthTo := ⟨(inT2 158 rfl rfl), (inT2 159 rfl rfl)⟩
theorem mi_X1_liesDearer : MI yX1_liesDearer cX1_liesDearer 4 (some .boolean) 2 := ⟨(inT2 165 rfl rfl), (inT1 2 rfl rfl), by decide, by decide, (by decide +kernel)⟩
theorem mv_X1_liesDearer : MV yX1_liesDearer := ⟨(inT2 164 rfl rfl), (inP 2 (by decide +kernel) rfl)⟩
theorem mi_X1_sellAllToCook : MI yX1_sellAllToCook cX1_sellAllToCook 1 none 0 := ⟨(inT2 178 rfl rfl), (inT1 2 rfl rfl), by decide, by decide, (by decide +kernel)⟩
theorem mv_X1_sellAllToCook : MV yX1_sellAllToCook := ⟨(inT2 177 rfl rfl), (inP 3 (by decide +kernel) rfl)⟩
theorem mi_X1_comes : MI yX1_comes cX1_comes 3 (some .boolean) 2 := ⟨(inT2 182 rfl rfl), (inT1 2 rfl rfl), by decide, by decide, (by decide +kernel)⟩
theorem mv_X1_comes : MV yX1_comes := ⟨(inT2 181 rfl rfl), (inP 4 (by decide +kernel) rfl)⟩
theorem mi_X1_sellOne : MI yX1_sellOne cX1_sellOne 5 none 3 := ⟨(inT2 199 rfl rfl), (inT1 2 rfl rfl), by decide, by decide, (by decide +kernel)⟩
theorem mv_X1_sellOne : MV yX1_sellOne := ⟨(inT2 198 rfl rfl), (inP 7 (by decide +kernel) rfl)⟩
theorem mi_X1_choiceOf : MI yX1_choiceOf cX1_choiceOf 8 (some .int) 2 := ⟨(inT2 186 rfl rfl), (inT1 2 rfl rfl), by decide, by decide, (by decide +kernel)⟩
theorem mv_X1_choiceOf : MV yX1_choiceOf := ⟨(inT2 185 rfl rfl), (inP 5 (by decide +kernel) rfl)⟩
theorem mi_X1_gainOf : MI yX1_gainOf cX1_gainOf 4 (some .int) 3 := ⟨(inT2 194 rfl rfl), (inT1 2 rfl rfl), by decide, by decide, (by decide +kernel)⟩
theorem mv_X1_gainOf : MV yX1_gainOf := ⟨(inT2 193 rfl rfl), (inP 6 (by decide +kernel) rfl)⟩
theorem mi_X2_take : MI yX2_take cX2_take 4 (some .boolean) 2 := ⟨(inT3 116 rfl rfl), (inT1 8 rfl rfl), by decide, by decide, (by decide +kernel)⟩
theorem mv_X2_take : MV yX2_take := ⟨(inT3 114 rfl rfl), (inT3 115 rfl rfl)⟩
theorem mi_X2_restingBits : MI yX2_restingBits cX2_restingBits 3 (some .int) 0 := ⟨(inT3 121 rfl rfl), (inT1 8 rfl rfl), by decide, by decide, (by decide +kernel)⟩
theorem mv_X2_restingBits : MV yX2_restingBits := ⟨(inT3 119 rfl rfl), (inT3 120 rfl rfl)⟩
theorem mi_X2_hasMixed : MI yX2_hasMixed cX2_hasMixed 1 (some .boolean) 0 := ⟨(inT3 129 rfl rfl), (inT1 8 rfl rfl), by decide, by decide, (by decide +kernel)⟩
theorem mv_X2_hasMixed : MV yX2_hasMixed := ⟨(inT3 127 rfl rfl), (inT3 128 rfl rfl)⟩
theorem mi_X2_takingOffUpper : MI yX2_takingOffUpper cX2_takingOffUpper 1 (some .int) 0 := ⟨(inT3 133 rfl rfl), (inT1 8 rfl rfl), by decide, by decide, (by decide +kernel)⟩
theorem mv_X2_takingOffUpper : MV yX2_takingOffUpper := ⟨(inT3 131 rfl rfl), (inT3 132 rfl rfl)⟩
theorem mi_X2_takingOffLower : MI yX2_takingOffLower cX2_takingOffLower 1 (some .int) 0 := ⟨(inT3 137 rfl rfl), (inT1 8 rfl rfl), by decide, by decide, (by decide +kernel)⟩
theorem mv_X2_takingOffLower : MV yX2_takingOffLower := ⟨(inT3 135 rfl rfl), (inT3 136 rfl rfl)⟩
theorem mi_X2_buyingUpper : MI yX2_buyingUpper cX2_buyingUpper 1 (some .int) 0 := ⟨(inT3 144 rfl rfl), (inT1 8 rfl rfl), by decide, by decide, (by decide +kernel)⟩
theorem mv_X2_buyingUpper : MV yX2_buyingUpper := ⟨(inT3 142 rfl rfl), (inT3 143 rfl rfl)⟩
theorem mi_X2_buyingLower : MI yX2_buyingLower cX2_buyingLower 1 (some .int) 0 := ⟨(inT3 148 rfl rfl), (inT1 8 rfl rfl), by decide, by decide, (by decide +kernel)⟩
theorem mv_X2_buyingLower : MV yX2_buyingLower := ⟨(inT3 146 rfl rfl), (inT3 147 rfl rfl)⟩
theorem mi_X2_isBetween : MI yX2_isBetween cX2_isBetween 2 (some .boolean) 2 := ⟨(inT3 140 rfl rfl), (inT1 8 rfl rfl), by decide, by decide, (by decide +kernel)⟩
theorem ms_X2_isBetween : Cond.static yX2_isBetween ∈ tbl0 := (inT3 139 rfl rfl)
theorem mi_X3_take : MI yX3_take cX3_take 5 (some .boolean) 3 := ⟨(inT3 73 rfl rfl), (inT1 7 rfl rfl), by decide, by decide, (by decide +kernel)⟩
theorem mv_X3_take : MV yX3_take := ⟨(inT3 71 rfl rfl), (inT3 72 rfl rfl)⟩
theorem mi_X3_weighed : MI yX3_weighed cX3_weighed 8 (some .int) 4 := ⟨(inT3 83 rfl rfl), (inT1 7 rfl rfl), by decide, by decide, (by decide +kernel)⟩
theorem mv_X3_weighed : MV yX3_weighed := ⟨(inT3 81 rfl rfl), (inT3 82 rfl rfl)⟩
theorem mi_X3_mostWorthwhile : MI yX3_mostWorthwhile cX3_mostWorthwhile 8 (some .int) 3 := ⟨(inT3 103 rfl rfl), (inT1 7 rfl rfl), by decide, by decide, (by decide +kernel)⟩
theorem mv_X3_mostWorthwhile : MV yX3_mostWorthwhile := ⟨(inT3 101 rfl rfl), (inT3 102 rfl rfl)⟩
theorem mi_X4_profitWithout : MI yX4_profitWithout cX4_profitWithout 3 (some .int) 2 := ⟨(inT3 53 rfl rfl), (inT1 5 rfl rfl), by decide, by decide, (by decide +kernel)⟩
theorem mv_X4_profitWithout : MV yX4_profitWithout := ⟨(inT3 51 rfl rfl), (inT3 52 rfl rfl)⟩
theorem mi_X4_profitWithCook : MI yX4_profitWithCook cX4_profitWithCook 5 (some .int) 4 := ⟨(inT3 61 rfl rfl), (inT1 5 rfl rfl), by decide, by decide, (by decide +kernel)⟩
theorem mv_X4_profitWithCook : MV yX4_profitWithCook := ⟨(inT3 59 rfl rfl), (inT3 60 rfl rfl)⟩
theorem mi_X4_findPrice : MI yX4_findPrice cX4_findPrice 5 none 3 := ⟨(inT2 232 rfl rfl), (inT1 5 rfl rfl), by decide, by decide, (by decide +kernel)⟩
theorem mv_X4_findPrice : MV yX4_findPrice := ⟨(inT2 230 rfl rfl), (inT2 231 rfl rfl)⟩
theorem mi_X4_findTakingOff : MI yX4_findTakingOff cX4_findTakingOff 4 none 1 := ⟨(inT3 17 rfl rfl), (inT1 5 rfl rfl), by decide, by decide, (by decide +kernel)⟩
theorem mv_X4_findTakingOff : MV yX4_findTakingOff := ⟨(inT3 15 rfl rfl), (inT3 16 rfl rfl)⟩
theorem mi_X4_findFetched : MI yX4_findFetched cX4_findFetched 4 none 1 := ⟨(inT3 32 rfl rfl), (inT1 5 rfl rfl), by decide, by decide, (by decide +kernel)⟩
theorem mv_X4_findFetched : MV yX4_findFetched := ⟨(inT3 30 rfl rfl), (inT3 31 rfl rfl)⟩
theorem mi_X4_weighRow : MI yX4_weighRow cX4_weighRow 5 none 0 := ⟨(inT3 36 rfl rfl), (inT1 5 rfl rfl), by decide, by decide, (by decide +kernel)⟩
theorem mv_X4_weighRow : MV yX4_weighRow := ⟨(inT3 35 rfl rfl), (inP 8 (by decide +kernel) rfl)⟩
theorem mi_X4_isRaisedFirst : MI yX4_isRaisedFirst cX4_isRaisedFirst 2 (some .boolean) 0 := ⟨(inT3 40 rfl rfl), (inT1 5 rfl rfl), by decide, by decide, (by decide +kernel)⟩
theorem mv_X4_isRaisedFirst : MV yX4_isRaisedFirst := ⟨(inT3 39 rfl rfl), (inP 9 (by decide +kernel) rfl)⟩
theorem mi_X4_goToNextRow : MI yX4_goToNextRow cX4_goToNextRow 3 (some .boolean) 0 := ⟨(inT3 45 rfl rfl), (inT1 5 rfl rfl), by decide, by decide, (by decide +kernel)⟩
theorem mv_X4_goToNextRow : MV yX4_goToNextRow := ⟨(inT3 44 rfl rfl), (inP 10 (by decide +kernel) rfl)⟩
theorem mi_X5_cut : MI yX5_cut cX5_cut 2 (some .int) 2 := ⟨(inT3 171 rfl rfl), (inT1 6 rfl rfl), by decide, by decide, (by decide +kernel)⟩
theorem ms_X5_cut : Cond.static yX5_cut ∈ tbl0 := (inT3 170 rfl rfl)
theorem mi_X5_isThere : MI yX5_isThere cX5_isThere 2 (some .boolean) 1 := ⟨(inT2 47 rfl rfl), (inT1 6 rfl rfl), by decide, by decide, (by decide +kernel)⟩
theorem mv_X5_isThere : MV yX5_isThere := ⟨(inT2 45 rfl rfl), (inT2 46 rfl rfl)⟩
theorem mi_X5_isLane : MI yX5_isLane cX5_isLane 2 (some .boolean) 1 := ⟨(inT2 51 rfl rfl), (inT1 6 rfl rfl), by decide, by decide, (by decide +kernel)⟩
theorem mv_X5_isLane : MV yX5_isLane := ⟨(inT2 49 rfl rfl), (inT2 50 rfl rfl)⟩
theorem mi_X5_hasRow : MI yX5_hasRow cX5_hasRow 2 (some .boolean) 1 := ⟨(inT2 55 rfl rfl), (inT1 6 rfl rfl), by decide, by decide, (by decide +kernel)⟩
theorem mv_X5_hasRow : MV yX5_hasRow := ⟨(inT2 53 rfl rfl), (inT2 54 rfl rfl)⟩
theorem mi_X5_reaches : MI yX5_reaches cX5_reaches 4 (some .boolean) 3 := ⟨(inT2 63 rfl rfl), (inT1 6 rfl rfl), by decide, by decide, (by decide +kernel)⟩
theorem mv_X5_reaches : MV yX5_reaches := ⟨(inT2 61 rfl rfl), (inT2 62 rfl rfl)⟩
theorem mi_X5_give : MI yX5_give cX5_give 5 none 3 := ⟨(inT3 160 rfl rfl), (inT1 6 rfl rfl), by decide, by decide, (by decide +kernel)⟩
theorem mv_X5_give : MV yX5_give := ⟨(inT3 158 rfl rfl), (inT3 159 rfl rfl)⟩
theorem mi_X6_readText : MI yX6_readText cX6_readText 7 none 3 := ⟨(inT2 76 rfl rfl), (inT1 3 rfl rfl), by decide, by decide, (by decide +kernel)⟩
theorem mv_X6_readText : MV yX6_readText := ⟨(inT2 74 rfl rfl), (inT2 75 rfl rfl)⟩
theorem mi_X6_become : MI yX6_become cX6_become 3 none 1 := ⟨(inT3 0 rfl rfl), (inT1 3 rfl rfl), by decide, by decide, (by decide +kernel)⟩
theorem mv_X6_become : MV yX6_become := ⟨(inT2 238 rfl rfl), (inT2 239 rfl rfl)⟩
theorem mi_X6_isTold : MI yX6_isTold cX6_isTold 1 (some .boolean) 0 := ⟨(inT2 128 rfl rfl), (inT1 3 rfl rfl), by decide, by decide, (by decide +kernel)⟩
theorem mv_X6_isTold : MV yX6_isTold := ⟨(inT2 126 rfl rfl), (inT2 127 rfl rfl)⟩
theorem mi_X6_hasSort : MI yX6_hasSort cX6_hasSort 2 (some .boolean) 1 := ⟨(inT2 84 rfl rfl), (inT1 3 rfl rfl), by decide, by decide, (by decide +kernel)⟩
theorem mv_X6_hasSort : MV yX6_hasSort := ⟨(inT2 82 rfl rfl), (inT2 83 rfl rfl)⟩
theorem mi_X6_hasPlace : MI yX6_hasPlace cX6_hasPlace 3 (some .boolean) 2 := ⟨(inT2 92 rfl rfl), (inT1 3 rfl rfl), by decide, by decide, (by decide +kernel)⟩
theorem mv_X6_hasPlace : MV yX6_hasPlace := ⟨(inT2 90 rfl rfl), (inT2 91 rfl rfl)⟩
theorem mi_X6_freshAt : MI yX6_freshAt cX6_freshAt 4 (some .int) 2 := ⟨(inT2 97 rfl rfl), (inT1 3 rfl rfl), by decide, by decide, (by decide +kernel)⟩
theorem mv_X6_freshAt : MV yX6_freshAt := ⟨(inT2 95 rfl rfl), (inT2 96 rfl rfl)⟩
theorem mi_X6_allFish : MI yX6_allFish cX6_allFish 3 (some .int) 0 := ⟨(inT2 203 rfl rfl), (inT1 3 rfl rfl), by decide, by decide, (by decide +kernel)⟩
theorem mv_X6_allFish : MV yX6_allFish := ⟨(inT2 201 rfl rfl), (inT2 202 rfl rfl)⟩
theorem mi_X6_costOfAll : MI yX6_costOfAll cX6_costOfAll 3 (some .int) 0 := ⟨(inT2 216 rfl rfl), (inT1 3 rfl rfl), by decide, by decide, (by decide +kernel)⟩
theorem mv_X6_costOfAll : MV yX6_costOfAll := ⟨(inT2 214 rfl rfl), (inT2 215 rfl rfl)⟩
theorem mi_X6_isCheaperNext : MI yX6_isCheaperNext cX6_isCheaperNext 3 (some .boolean) 2 := ⟨(inT2 190 rfl rfl), (inT1 3 rfl rfl), by decide, by decide, (by decide +kernel)⟩
theorem mv_X6_isCheaperNext : MV yX6_isCheaperNext := ⟨(inT2 188 rfl rfl), (inT2 189 rfl rfl)⟩
theorem mi_X6_takeOffFrom : MI yX6_takeOffFrom cX6_takeOffFrom 7 none 3 := ⟨(inT3 21 rfl rfl), (inT1 3 rfl rfl), by decide, by decide, (by decide +kernel)⟩
theorem mv_X6_takeOffFrom : MV yX6_takeOffFrom := ⟨(inT3 19 rfl rfl), (inT3 20 rfl rfl)⟩
theorem mi_X7_firstFault : MI yX7_firstFault cX7_firstFault 4 (some .int) 3 := ⟨(inT2 66 rfl rfl), (inT1 10 rfl rfl), by decide, by decide, (by decide +kernel)⟩
theorem ms_X7_firstFault : Cond.static yX7_firstFault ∈ tbl0 := (inT2 65 rfl rfl)
theorem mi_X7_goesOn : MI yX7_goesOn cX7_goesOn 2 (some .boolean) 2 := ⟨(inT2 69 rfl rfl), (inT1 10 rfl rfl), by decide, by decide, (by decide +kernel)⟩
theorem ms_X7_goesOn : Cond.static yX7_goesOn ∈ tbl0 := (inT2 68 rfl rfl)
theorem ml_L_13 : Cond.methodLink RL 13 yX8_stall ∈ tbl0 := (inT2 36 rfl rfl)
theorem ml_8_46 : Cond.methodLink RX8 46 yX8_lookAtCells ∈ tbl0 := (inT2 40 rfl rfl)
theorem ml_8_276 : Cond.methodLink RX8 276 yX5_isThere ∈ tbl0 := (inT2 44 rfl rfl)
theorem ml_8_279 : Cond.methodLink RX8 279 yX5_isLane ∈ tbl0 := (inT2 48 rfl rfl)
theorem ml_8_290 : Cond.methodLink RX8 290 yX5_hasRow ∈ tbl0 := (inT2 52 rfl rfl)
theorem ml_8_282 : Cond.methodLink RX8 282 yX8_faultOf ∈ tbl0 := (inT2 56 rfl rfl)
theorem ml_8_296 : Cond.methodLink RX8 296 yX5_reaches ∈ tbl0 := (inT2 60 rfl rfl)
theorem ml_8_54 : Cond.methodLink RX8 54 yX7_firstFault ∈ tbl0 := (inT2 64 rfl rfl)
theorem ml_7_9 : Cond.methodLink RX7 9 yX7_goesOn ∈ tbl0 := (inT2 67 rfl rfl)
theorem mn_7_15 : Cond.methodLinkNest RX7 15 yX8_isWithin "IceSlab" ∈ nst := inN 310 (by decide +kernel)
theorem ml_8_64 : Cond.methodLink RX8 64 yX6_readText ∈ tbl0 := (inT2 73 rfl rfl)
theorem ml_L_18 : Cond.methodLink RL 18 yX8_ofSort ∈ tbl0 := (inT2 77 rfl rfl)
theorem ml_8_83 : Cond.methodLink RX8 83 yX6_hasSort ∈ tbl0 := (inT2 81 rfl rfl)
theorem ml_L_23 : Cond.methodLink RL 23 yX8_fresh ∈ tbl0 := (inT2 85 rfl rfl)
theorem ml_8_100 : Cond.methodLink RX8 100 yX6_hasPlace ∈ tbl0 := (inT2 89 rfl rfl)
theorem ml_6_51 : Cond.methodLink RX6 51 yX6_hasSort ∈ tbl0 := (inT2 93 rfl rfl)
theorem ml_8_104 : Cond.methodLink RX8 104 yX6_freshAt ∈ tbl0 := (inT2 94 rfl rfl)
theorem ml_L_27 : Cond.methodLink RL 27 yX8_fish ∈ tbl0 := (inT2 98 rfl rfl)
theorem ml_8_108 : Cond.methodLink RX8 108 yX8_isWithin ∈ tbl0 := (inT2 102 rfl rfl)
theorem ml_L_31 : Cond.methodLink RL 31 yX8_slate ∈ tbl0 := (inT2 103 rfl rfl)
theorem ml_L_35 : Cond.methodLink RL 35 yX8_write ∈ tbl0 := (inT2 107 rfl rfl)
theorem ml_L_40 : Cond.methodLink RL 40 yX8_copyOut ∈ tbl0 := (inT2 111 rfl rfl)
theorem ml_8_121 : Cond.methodLink RX8 121 yX8_areAllWithin ∈ tbl0 := (inT2 115 rfl rfl)
theorem ml_L_45 : Cond.methodLink RL 45 yX8_soup ∈ tbl0 := (inT2 121 rfl rfl)
theorem ml_8_131 : Cond.methodLink RX8 131 yX6_isTold ∈ tbl0 := (inT2 125 rfl rfl)
theorem ml_L_50 : Cond.methodLink RL 50 yX8_beside ∈ tbl0 := (inT2 129 rfl rfl)
theorem ml_L_55 : Cond.methodLink RL 55 yX8_buyer ∈ tbl0 := (inT2 133 rfl rfl)
theorem ml_8_142 : Cond.methodLink RX8 142 yX0_add ∈ tbl0 := (inT2 137 rfl rfl)
theorem ml_L_59 : Cond.methodLink RL 59 yX8_ofBuyer ∈ tbl0 := (inT2 141 rfl rfl)
theorem ml_8_145 : Cond.methodLink RX8 145 yX0_has ∈ tbl0 := (inT2 145 rfl rfl)
theorem ml_L_63 : Cond.methodLink RL 63 yX8_worth ∈ tbl0 := (inT2 149 rfl rfl)
theorem ml_8_160 : Cond.methodLink RX8 160 yX1_open ∈ tbl0 := (inT2 153 rfl rfl)
theorem ml_8_163 : Cond.methodLink RX8 163 yX1_worthTo ∈ tbl0 := (inT2 157 rfl rfl)
theorem ml_1_110 : Cond.methodLink RX1 110 yX6_freshAt ∈ tbl0 := (inT2 161 rfl rfl)
theorem ml_1_120 : Cond.methodLink RX1 120 yX1_liesDearer ∈ tbl0 := (inT2 162 rfl rfl)
theorem ml_L_67 : Cond.methodLink RL 67 yX8_day ∈ tbl0 := (inT2 166 rfl rfl)
theorem ml_8_167 : Cond.methodLink RX8 167 yX1_goThrough ∈ tbl0 := (inT2 170 rfl rfl)
theorem ml_1_76 : Cond.methodLink RX1 76 yX1_open ∈ tbl0 := (inT2 174 rfl rfl)
theorem ml_1_82 : Cond.methodLink RX1 82 yX1_sellAllToCook ∈ tbl0 := (inT2 175 rfl rfl)
theorem ml_1_85 : Cond.methodLink RX1 85 yX1_comes ∈ tbl0 := (inT2 179 rfl rfl)
theorem ml_1_89 : Cond.methodLink RX1 89 yX1_choiceOf ∈ tbl0 := (inT2 183 rfl rfl)
theorem ml_1_133 : Cond.methodLink RX1 133 yX6_isCheaperNext ∈ tbl0 := (inT2 187 rfl rfl)
theorem ml_1_136 : Cond.methodLink RX1 136 yX1_gainOf ∈ tbl0 := (inT2 191 rfl rfl)
theorem ml_1_140 : Cond.methodLink RX1 140 yX1_worthTo ∈ tbl0 := (inT2 195 rfl rfl)
theorem ml_1_93 : Cond.methodLink RX1 93 yX1_sellOne ∈ tbl0 := (inT2 196 rfl rfl)
theorem ml_8_173 : Cond.methodLink RX8 173 yX6_allFish ∈ tbl0 := (inT2 200 rfl rfl)
theorem ml_8_177 : Cond.methodLink RX8 177 yX1_allLeft ∈ tbl0 := (inT2 204 rfl rfl)
theorem ml_8_180 : Cond.methodLink RX8 180 yX1_profit ∈ tbl0 := (inT2 208 rfl rfl)
theorem ml_1_100 : Cond.methodLink RX1 100 yX1_allLeft ∈ tbl0 := (inT2 212 rfl rfl)
theorem ml_1_104 : Cond.methodLink RX1 104 yX6_costOfAll ∈ tbl0 := (inT2 213 rfl rfl)
theorem ml_L_71 : Cond.methodLink RL 71 yX8_bought ∈ tbl0 := (inT2 217 rfl rfl)
theorem ml_L_75 : Cond.methodLink RL 75 yX8_sold ∈ tbl0 := (inT2 221 rfl rfl)
theorem ml_L_79 : Cond.methodLink RL 79 yX8_best ∈ tbl0 := (inT2 225 rfl rfl)
theorem ml_8_204 : Cond.methodLink RX8 204 yX4_findPrice ∈ tbl0 := (inT2 229 rfl rfl)
theorem ml_4_29 : Cond.methodLink RX4 29 yX1_become ∈ tbl0 := (inT2 233 rfl rfl)
theorem ml_1_51 : Cond.methodLink RX1 51 yX6_become ∈ tbl0 := (inT2 237 rfl rfl)
theorem ml_1_55 : Cond.methodLink RX1 55 yX0_become ∈ tbl0 := (inT3 2 rfl rfl)
theorem ml_4_42 : Cond.methodLink RX4 42 yX1_goThrough ∈ tbl0 := (inT3 8 rfl rfl)
theorem ml_4_45 : Cond.methodLink RX4 45 yX1_profit ∈ tbl0 := (inT3 9 rfl rfl)
theorem ml_L_83 : Cond.methodLink RL 83 yX8_takeOff ∈ tbl0 := (inT3 10 rfl rfl)
theorem ml_8_213 : Cond.methodLink RX8 213 yX4_findTakingOff ∈ tbl0 := (inT3 14 rfl rfl)
theorem ml_4_72 : Cond.methodLink RX4 72 yX6_takeOffFrom ∈ tbl0 := (inT3 18 rfl rfl)
theorem ml_L_87 : Cond.methodLink RL 87 yX8_fetch ∈ tbl0 := (inT3 25 rfl rfl)
theorem ml_8_219 : Cond.methodLink RX8 219 yX4_findFetched ∈ tbl0 := (inT3 29 rfl rfl)
theorem ml_4_76 : Cond.methodLink RX4 76 yX4_weighRow ∈ tbl0 := (inT3 33 rfl rfl)
theorem ml_4_95 : Cond.methodLink RX4 95 yX4_isRaisedFirst ∈ tbl0 := (inT3 37 rfl rfl)
theorem ml_4_79 : Cond.methodLink RX4 79 yX4_goToNextRow ∈ tbl0 := (inT3 42 rfl rfl)
theorem ml_L_91 : Cond.methodLink RL 91 yX8_carried ∈ tbl0 := (inT3 46 rfl rfl)
theorem ml_8_225 : Cond.methodLink RX8 225 yX4_profitWithout ∈ tbl0 := (inT3 50 rfl rfl)
theorem ml_L_95 : Cond.methodLink RL 95 yX8_cook ∈ tbl0 := (inT3 54 rfl rfl)
theorem ml_8_229 : Cond.methodLink RX8 229 yX4_profitWithCook ∈ tbl0 := (inT3 58 rfl rfl)
theorem ml_4_49 : Cond.methodLink RX4 49 yX1_awaitCook ∈ tbl0 := (inT3 62 rfl rfl)
theorem ml_L_99 : Cond.methodLink RL 99 yX8_mean ∈ tbl0 := (inT3 66 rfl rfl)
theorem ml_8_233 : Cond.methodLink RX8 233 yX3_take ∈ tbl0 := (inT3 70 rfl rfl)
theorem mn_3_15 : Cond.methodLinkNest RX3 15 yX8_isWithin "IceSlab" ∈ nst := inN 554 (by decide +kernel)
theorem mn_3_19 : Cond.methodLinkNest RX3 19 yX8_areAllWithin "IceSlab" ∈ nst := inN 555 (by decide +kernel)
theorem ml_8_239 : Cond.methodLink RX8 239 yX8_areMoney ∈ tbl0 := (inT3 77 rfl rfl)
theorem ml_8_242 : Cond.methodLink RX8 242 yX3_weighed ∈ tbl0 := (inT3 80 rfl rfl)
theorem ml_8_248 : Cond.methodLink RX8 248 yX8_partOfShare ∈ tbl0 := (inT3 87 rfl rfl)
theorem ml_8_327 : Cond.methodLink RX8 327 yX8_commonDivisor ∈ tbl0 := (inT3 93 rfl rfl)
theorem ml_L_104 : Cond.methodLink RL 104 yX8_howMany ∈ tbl0 := (inT3 96 rfl rfl)
theorem ml_8_252 : Cond.methodLink RX8 252 yX3_mostWorthwhile ∈ tbl0 := (inT3 100 rfl rfl)
theorem ml_3_36 : Cond.methodLink RX3 36 yX3_weighed ∈ tbl0 := (inT3 104 rfl rfl)
theorem ml_L_109 : Cond.methodLink RL 109 yX8_right ∈ tbl0 := (inT3 105 rfl rfl)
theorem ml_L_114 : Cond.methodLink RL 114 yX8_rests ∈ tbl0 := (inT3 109 rfl rfl)
theorem ml_8_255 : Cond.methodLink RX8 255 yX2_take ∈ tbl0 := (inT3 113 rfl rfl)
theorem mn_2_16 : Cond.methodLinkNest RX2 16 yX8_areAllWithin "IceSlab" ∈ nst := inN 597 (by decide +kernel)
theorem ml_8_258 : Cond.methodLink RX8 258 yX2_restingBits ∈ tbl0 := (inT3 118 rfl rfl)
theorem ml_L_118 : Cond.methodLink RL 118 yX8_mixed ∈ tbl0 := (inT3 122 rfl rfl)
theorem ml_8_261 : Cond.methodLink RX8 261 yX2_hasMixed ∈ tbl0 := (inT3 126 rfl rfl)
theorem ml_2_22 : Cond.methodLink RX2 22 yX2_takingOffUpper ∈ tbl0 := (inT3 130 rfl rfl)
theorem ml_2_26 : Cond.methodLink RX2 26 yX2_takingOffLower ∈ tbl0 := (inT3 134 rfl rfl)
theorem ml_2_29 : Cond.methodLink RX2 29 yX2_isBetween ∈ tbl0 := (inT3 138 rfl rfl)
theorem ml_2_33 : Cond.methodLink RX2 33 yX2_buyingUpper ∈ tbl0 := (inT3 141 rfl rfl)
theorem ml_2_36 : Cond.methodLink RX2 36 yX2_buyingLower ∈ tbl0 := (inT3 145 rfl rfl)
theorem ml_8_264 : Cond.methodLink RX8 264 yX2_takingOffUpper ∈ tbl0 := (inT3 149 rfl rfl)
theorem ml_8_267 : Cond.methodLink RX8 267 yX2_takingOffLower ∈ tbl0 := (inT3 150 rfl rfl)
theorem ml_8_270 : Cond.methodLink RX8 270 yX2_buyingUpper ∈ tbl0 := (inT3 151 rfl rfl)
theorem ml_8_273 : Cond.methodLink RX8 273 yX2_buyingLower ∈ tbl0 := (inT3 152 rfl rfl)
theorem ml_L_123 : Cond.methodLink RL 123 yX8_sheet ∈ tbl0 := (inT3 153 rfl rfl)
theorem ml_8_286 : Cond.methodLink RX8 286 yX5_give ∈ tbl0 := (inT3 157 rfl rfl)
theorem ml_L_127 : Cond.methodLink RL 127 yX8_lose ∈ tbl0 := (inT3 161 rfl rfl)
theorem ml_L_131 : Cond.methodLink RL 131 yX8_put ∈ tbl0 := (inT3 165 rfl rfl)
theorem ml_8_302 : Cond.methodLink RX8 302 yX5_cut ∈ tbl0 := (inT3 169 rfl rfl)
theorem ml_L_135 : Cond.methodLink RL 135 yX8_cell ∈ tbl0 := (inT3 172 rfl rfl)
theorem ml_L_139 : Cond.methodLink RL 139 yX8_copy ∈ tbl0 := (inT3 176 rfl rfl)
theorem ml_L_143 : Cond.methodLink RL 143 yX8_tell ∈ tbl0 := (inT3 180 rfl rfl)
theorem ml_8_305 : Cond.methodLink RX8 305 yX8_tellAsWaiting ∈ tbl0 := (inT3 184 rfl rfl)
theorem ml_8_314 : Cond.methodLink RX8 314 yX8_leaveTrace ∈ tbl0 := (inT3 188 rfl rfl)
theorem ml_8_308 : Cond.methodLink RX8 308 yX8_tellAsChoosing ∈ tbl0 := (inT3 192 rfl rfl)
theorem ml_8_311 : Cond.methodLink RX8 311 yX8_tellAsBuyer ∈ tbl0 := (inT3 196 rfl rfl)
theorem ml_L_147 : Cond.methodLink RL 147 yX8_greet ∈ tbl0 := (inT3 200 rfl rfl)
theorem ml_L_151 : Cond.methodLink RL 151 yX8_as ∈ tbl0 := (inT3 204 rfl rfl)
theorem ml_L_155 : Cond.methodLink RL 155 yX8_trace ∈ tbl0 := (inT3 208 rfl rfl)
theorem ml_L_160 : Cond.methodLink RL 160 yX8_fault ∈ tbl0 := (inT3 212 rfl rfl)
theorem ml_L_164 : Cond.methodLink RL 164 yX8_many ∈ tbl0 := (inT3 216 rfl rfl)
theorem ml_L_17 : Cond.methodLink RL 17 yX9_stall ∈ tbl0 := (inT4 104 rfl rfl)
theorem ml_9_146 : Cond.methodLink RX9 146 yX9_barred ∈ tbl0 := (inT4 108 rfl rfl)
theorem ml_9_99 : Cond.methodLink RX9 99 yX9_noSheet ∈ tbl0 := (inT4 112 rfl rfl)
theorem ml_9_87 : Cond.methodLink RX9 87 yX9_in ∈ tbl0 := (inT4 116 rfl rfl)
theorem ml_9_103 : Cond.methodLink RX9 103 yX9_refused ∈ tbl0 := (inT4 119 rfl rfl)
theorem ml_9_109 : Cond.methodLink RX9 109 yX9_failed ∈ tbl0 := (inT4 124 rfl rfl)
theorem ml_9_112 : Cond.methodLink RX9 112 yX9_isBeyond ∈ tbl0 := (inT4 128 rfl rfl)
theorem ml_9_150 : Cond.methodLink RX9 150 yX9_readsStall ∈ tbl0 := (inT4 131 rfl rfl)
theorem ml_9_131 : Cond.methodLink RX9 131 yX9_takes ∈ tbl0 := (inT4 135 rfl rfl)
theorem ml_9_135 : Cond.methodLink RX9 135 yX9_readsFigure ∈ tbl0 := (inT4 139 rfl rfl)
theorem ml_9_142 : Cond.methodLink RX9 142 yX9_readsSort ∈ tbl0 := (inT4 143 rfl rfl)
theorem ml_L_22 : Cond.methodLink RL 22 yX9_ofSort ∈ tbl0 := (inT4 147 rfl rfl)
theorem ml_9_163 : Cond.methodLink RX9 163 yX9_noSort ∈ tbl0 := (inT4 151 rfl rfl)
theorem ml_L_26 : Cond.methodLink RL 26 yX9_fresh ∈ tbl0 := (inT4 155 rfl rfl)
theorem ml_9_170 : Cond.methodLink RX9 170 yX9_noHour ∈ tbl0 := (inT4 159 rfl rfl)
theorem ml_9_173 : Cond.methodLink RX9 173 yX9_freshAt ∈ tbl0 := (inT4 163 rfl rfl)
theorem ml_9_166 : Cond.methodLink RX9 166 yX9_greater ∈ tbl0 := (inT4 167 rfl rfl)
theorem ml_L_30 : Cond.methodLink RL 30 yX9_fish ∈ tbl0 := (inT4 170 rfl rfl)
theorem ml_L_34 : Cond.methodLink RL 34 yX9_slate ∈ tbl0 := (inT4 175 rfl rfl)
theorem ml_9_180 : Cond.methodLink RX9 180 yX9_priceOf ∈ tbl0 := (inT4 179 rfl rfl)
theorem ml_L_39 : Cond.methodLink RL 39 yX9_write ∈ tbl0 := (inT4 183 rfl rfl)
theorem ml_9_183 : Cond.methodLink RX9 183 yX9_isPrice ∈ tbl0 := (inT4 187 rfl rfl)
theorem ml_L_44 : Cond.methodLink RL 44 yX9_copyOut ∈ tbl0 := (inT4 191 rfl rfl)
theorem ml_L_49 : Cond.methodLink RL 49 yX9_soup ∈ tbl0 := (inT4 195 rfl rfl)
theorem ml_L_54 : Cond.methodLink RL 54 yX9_beside ∈ tbl0 := (inT4 199 rfl rfl)
theorem ml_L_58 : Cond.methodLink RL 58 yX9_buyer ∈ tbl0 := (inT4 203 rfl rfl)
theorem ml_L_62 : Cond.methodLink RL 62 yX9_ofBuyer ∈ tbl0 := (inT4 208 rfl rfl)
theorem ml_9_188 : Cond.methodLink RX9 188 yX9_noBuyer ∈ tbl0 := (inT4 212 rfl rfl)
theorem ml_L_66 : Cond.methodLink RL 66 yX9_worth ∈ tbl0 := (inT4 216 rfl rfl)
theorem ml_9_194 : Cond.methodLink RX9 194 yX9_layAll ∈ tbl0 := (inT4 220 rfl rfl)
theorem ml_9_197 : Cond.methodLink RX9 197 yX9_worthOf ∈ tbl0 := (inT4 224 rfl rfl)
theorem ml_9_191 : Cond.methodLink RX9 191 yX9_hasDearer ∈ tbl0 := (inT4 228 rfl rfl)
theorem ml_L_70 : Cond.methodLink RL 70 yX9_day ∈ tbl0 := (inT4 232 rfl rfl)
theorem ml_9_225 : Cond.methodLink RX9 225 yX9_goThrough ∈ tbl0 := (inT4 236 rfl rfl)
theorem ml_9_213 : Cond.methodLink RX9 213 yX9_sell ∈ tbl0 := (inT5 0 rfl rfl)
theorem ml_9_217 : Cond.methodLink RX9 217 yX9_comes ∈ tbl0 := (inT5 4 rfl rfl)
theorem ml_9_210 : Cond.methodLink RX9 210 yX9_wanted ∈ tbl0 := (inT5 8 rfl rfl)
theorem ml_9_201 : Cond.methodLink RX9 201 yX9_isCheaperNext ∈ tbl0 := (inT5 12 rfl rfl)
theorem ml_9_204 : Cond.methodLink RX9 204 yX9_gainOf ∈ tbl0 := (inT5 16 rfl rfl)
theorem ml_9_233 : Cond.methodLink RX9 233 yX9_allFish ∈ tbl0 := (inT5 20 rfl rfl)
theorem ml_9_221 : Cond.methodLink RX9 221 yX9_left ∈ tbl0 := (inT5 24 rfl rfl)
theorem ml_9_228 : Cond.methodLink RX9 228 yX9_profitOf ∈ tbl0 := (inT5 28 rfl rfl)
theorem ml_L_74 : Cond.methodLink RL 74 yX9_bought ∈ tbl0 := (inT5 32 rfl rfl)
theorem ml_L_78 : Cond.methodLink RL 78 yX9_sold ∈ tbl0 := (inT5 36 rfl rfl)
theorem ml_L_82 : Cond.methodLink RL 82 yX9_best ∈ tbl0 := (inT5 40 rfl rfl)
theorem ml_9_236 : Cond.methodLink RX9 236 yX9_profit ∈ tbl0 := (inT5 44 rfl rfl)
theorem ml_L_86 : Cond.methodLink RL 86 yX9_takeOff ∈ tbl0 := (inT5 48 rfl rfl)
theorem ml_L_90 : Cond.methodLink RL 90 yX9_fetch ∈ tbl0 := (inT5 52 rfl rfl)
theorem ml_9_241 : Cond.methodLink RX9 241 yX9_layFish ∈ tbl0 := (inT5 57 rfl rfl)
theorem ml_L_94 : Cond.methodLink RL 94 yX9_carried ∈ tbl0 := (inT5 61 rfl rfl)
theorem ml_L_98 : Cond.methodLink RL 98 yX9_cook ∈ tbl0 := (inT5 65 rfl rfl)
theorem ml_L_103 : Cond.methodLink RL 103 yX9_mean ∈ tbl0 := (inT5 69 rfl rfl)
theorem ml_9_95 : Cond.methodLink RX9 95 yX9_lost ∈ tbl0 := (inT5 73 rfl rfl)
theorem ml_9_249 : Cond.methodLink RX9 249 yX9_weightsOf ∈ tbl0 := (inT5 78 rfl rfl)
theorem ml_9_252 : Cond.methodLink RX9 252 yX9_isMoney ∈ tbl0 := (inT5 83 rfl rfl)
theorem ml_9_255 : Cond.methodLink RX9 255 yX9_isWhich ∈ tbl0 := (inT5 86 rfl rfl)
theorem ml_9_258 : Cond.methodLink RX9 258 yX9_hadBy ∈ tbl0 := (inT5 89 rfl rfl)
theorem ml_9_262 : Cond.methodLink RX9 262 yX9_told ∈ tbl0 := (inT5 93 rfl rfl)
theorem ml_L_108 : Cond.methodLink RL 108 yX9_howMany ∈ tbl0 := (inT5 96 rfl rfl)
theorem ml_L_113 : Cond.methodLink RL 113 yX9_right ∈ tbl0 := (inT5 100 rfl rfl)
theorem ml_L_117 : Cond.methodLink RL 117 yX9_rests ∈ tbl0 := (inT5 104 rfl rfl)
theorem ml_9_270 : Cond.methodLink RX9 270 yX9_takesGame ∈ tbl0 := (inT5 109 rfl rfl)
theorem ml_L_122 : Cond.methodLink RL 122 yX9_mixed ∈ tbl0 := (inT5 114 rfl rfl)
theorem ml_9_280 : Cond.methodLink RX9 280 yX9_mixes ∈ tbl0 := (inT5 118 rfl rfl)
theorem ml_L_126 : Cond.methodLink RL 126 yX9_sheet ∈ tbl0 := (inT5 122 rfl rfl)
theorem ml_L_130 : Cond.methodLink RL 130 yX9_lose ∈ tbl0 := (inT5 126 rfl rfl)
theorem ml_L_134 : Cond.methodLink RL 134 yX9_put ∈ tbl0 := (inT5 130 rfl rfl)
theorem ml_9_283 : Cond.methodLink RX9 283 yX9_noCell ∈ tbl0 := (inT5 134 rfl rfl)
theorem ml_L_138 : Cond.methodLink RL 138 yX9_cell ∈ tbl0 := (inT5 138 rfl rfl)
theorem ml_9_286 : Cond.methodLink RX9 286 yX9_failedLong ∈ tbl0 := (inT5 142 rfl rfl)
theorem ml_L_142 : Cond.methodLink RL 142 yX9_copy ∈ tbl0 := (inT5 146 rfl rfl)
theorem ml_L_146 : Cond.methodLink RL 146 yX9_tell ∈ tbl0 := (inT5 150 rfl rfl)
theorem ml_9_293 : Cond.methodLink RX9 293 yX9_traced ∈ tbl0 := (inT5 154 rfl rfl)
theorem ml_L_150 : Cond.methodLink RL 150 yX9_greet ∈ tbl0 := (inT5 158 rfl rfl)
theorem ml_L_154 : Cond.methodLink RL 154 yX9_as ∈ tbl0 := (inT5 162 rfl rfl)
theorem ml_L_159 : Cond.methodLink RL 159 yX9_trace ∈ tbl0 := (inT5 166 rfl rfl)
theorem ml_L_163 : Cond.methodLink RL 163 yX9_fault ∈ tbl0 := (inT5 170 rfl rfl)
theorem ml_L_167 : Cond.methodLink RL 167 yX9_many ∈ tbl0 := (inT5 174 rfl rfl)
theorem gf_6_9 {X : PX} {S : SW} {M : Mem} {cc : ByteArray} {f lo pc : Nat} {ls : List (Option Value)} {st : List Value} (d : Nat) (hd : d < 2) (C : Cx X S RX6 cc f lo) (h : decode cc pc = .ok (.getfield 9, 3)) (kk : PW X S M (pc + 3) ls (rv S d 2 0 :: st)) : PW X S M pc ls (rv S d 1 0 :: st) := pw_getf (n := 0) C (inT1 35 rfl rfl) iX6 rfl (by decide) rfl (oD_1 hd) rfl h (fun _ => kk)
theorem gf_4_37 {X : PX} {S : SW} {M : Mem} {cc : ByteArray} {f lo pc : Nat} {ls : List (Option Value)} {st : List Value} (d : Nat) (hd : d < 2) (C : Cx X S RX4 cc f lo) (h : decode cc pc = .ok (.getfield 37, 3)) (kk : PW X S M (pc + 3) ls (rv S d 2 0 :: st)) : PW X S M pc ls (rv S d 1 0 :: st) := pw_getf (n := 0) C (inT1 36 rfl rfl) iX6 rfl (by decide) rfl (oD_1 hd) rfl h (fun _ => kk)
theorem gf_8_87 {X : PX} {S : SW} {M : Mem} {cc : ByteArray} {f lo pc : Nat} {ls : List (Option Value)} {st : List Value} (d : Nat) (hd : d < 2) (C : Cx X S RX8 cc f lo) (h : decode cc pc = .ok (.getfield 87, 3)) (kk : PW X S M (pc + 3) ls (rv S d 2 0 :: st)) : PW X S M pc ls (rv S d 1 0 :: st) := pw_getf (n := 0) C (inT1 37 rfl rfl) iX6 rfl (by decide) rfl (oD_1 hd) rfl h (fun _ => kk)
theorem gf_1_70 {X : PX} {S : SW} {M : Mem} {cc : ByteArray} {f lo pc : Nat} {ls : List (Option Value)} {st : List Value} (d : Nat) (hd : d < 2) (C : Cx X S RX1 cc f lo) (h : decode cc pc = .ok (.getfield 70, 3)) (kk : PW X S M (pc + 3) ls (rv S d 2 0 :: st)) : PW X S M pc ls (rv S d 1 0 :: st) := pw_getf (n := 0) C (inT1 38 rfl rfl) iX6 rfl (by decide) rfl (oD_1 hd) rfl h (fun _ => kk)
theorem gf_6_15 {X : PX} {S : SW} {M : Mem} {cc : ByteArray} {f lo pc : Nat} {ls : List (Option Value)} {st : List Value} (d : Nat) (hd : d < 2) (C : Cx X S RX6 cc f lo) (h : decode cc pc = .ok (.getfield 15, 3)) (kk : PW X S M (pc + 3) ls (rv S d 3 0 :: st)) : PW X S M pc ls (rv S d 1 0 :: st) := pw_getf (n := 1) C (inT1 39 rfl rfl) iX6 rfl (by decide) rfl (oD_1 hd) rfl h (fun _ => kk)
theorem gf_8_91 {X : PX} {S : SW} {M : Mem} {cc : ByteArray} {f lo pc : Nat} {ls : List (Option Value)} {st : List Value} (d : Nat) (hd : d < 2) (C : Cx X S RX8 cc f lo) (h : decode cc pc = .ok (.getfield 91, 3)) (kk : PW X S M (pc + 3) ls (rv S d 3 0 :: st)) : PW X S M pc ls (rv S d 1 0 :: st) := pw_getf (n := 1) C (inT1 40 rfl rfl) iX6 rfl (by decide) rfl (oD_1 hd) rfl h (fun _ => kk)
theorem gf_4_89 {X : PX} {S : SW} {M : Mem} {cc : ByteArray} {f lo pc : Nat} {ls : List (Option Value)} {st : List Value} (d : Nat) (hd : d < 2) (C : Cx X S RX4 cc f lo) (h : decode cc pc = .ok (.getfield 89, 3)) (kk : PW X S M (pc + 3) ls (rv S d 3 0 :: st)) : PW X S M pc ls (rv S d 1 0 :: st) := pw_getf (n := 1) C (inT1 41 rfl rfl) iX6 rfl (by decide) rfl (oD_1 hd) rfl h (fun _ => kk)
theorem gf_6_18 {X : PX} {S : SW} {M : Mem} {cc : ByteArray} {f lo pc : Nat} {ls : List (Option Value)} {st : List Value} (d : Nat) (hd : d < 2) (C : Cx X S RX6 cc f lo) (h : decode cc pc = .ok (.getfield 18, 3)) (kk : PW X S M (pc + 3) ls (rv S d 4 0 :: st)) : PW X S M pc ls (rv S d 1 0 :: st) := pw_getf (n := 2) C (inT1 42 rfl rfl) iX6 rfl (by decide) rfl (oD_1 hd) rfl h (fun _ => kk)
theorem gf_8_94 {X : PX} {S : SW} {M : Mem} {cc : ByteArray} {f lo pc : Nat} {ls : List (Option Value)} {st : List Value} (d : Nat) (hd : d < 2) (C : Cx X S RX8 cc f lo) (h : decode cc pc = .ok (.getfield 94, 3)) (kk : PW X S M (pc + 3) ls (rv S d 4 0 :: st)) : PW X S M pc ls (rv S d 1 0 :: st) := pw_getf (n := 2) C (inT1 43 rfl rfl) iX6 rfl (by decide) rfl (oD_1 hd) rfl h (fun _ => kk)
theorem gf_6_21 {X : PX} {S : SW} {M : Mem} {cc : ByteArray} {f lo pc : Nat} {ls : List (Option Value)} {st : List Value} (d : Nat) (hd : d < 2) (C : Cx X S RX6 cc f lo) (h : decode cc pc = .ok (.getfield 21, 3)) (kk : PW X S M (pc + 3) ls (rv S d 5 0 :: st)) : PW X S M pc ls (rv S d 1 0 :: st) := pw_getf (n := 3) C (inT1 44 rfl rfl) iX6 rfl (by decide) rfl (oD_1 hd) rfl h (fun _ => kk)
theorem gf_8_97 {X : PX} {S : SW} {M : Mem} {cc : ByteArray} {f lo pc : Nat} {ls : List (Option Value)} {st : List Value} (d : Nat) (hd : d < 2) (C : Cx X S RX8 cc f lo) (h : decode cc pc = .ok (.getfield 97, 3)) (kk : PW X S M (pc + 3) ls (rv S d 5 0 :: st)) : PW X S M pc ls (rv S d 1 0 :: st) := pw_getf (n := 3) C (inT1 45 rfl rfl) iX6 rfl (by decide) rfl (oD_1 hd) rfl h (fun _ => kk)
theorem gf_6_26 {X : PX} {S : SW} {M : Mem} {cc : ByteArray} {f lo pc : Nat} {ls : List (Option Value)} {st : List Value} (d : Nat) (hd : d < 2) (C : Cx X S RX6 cc f lo) (h : decode cc pc = .ok (.getfield 26, 3)) (kk : PW X S M (pc + 3) ls (rv S d 6 0 :: st)) : PW X S M pc ls (rv S d 1 0 :: st) := pw_getf (n := 4) C (inT1 46 rfl rfl) iX6 rfl (by decide) rfl (oD_1 hd) rfl h (fun _ => kk)
theorem gf_4_59 {X : PX} {S : SW} {M : Mem} {cc : ByteArray} {f lo pc : Nat} {ls : List (Option Value)} {st : List Value} (d : Nat) (hd : d < 2) (C : Cx X S RX4 cc f lo) (h : decode cc pc = .ok (.getfield 59, 3)) (kk : PW X S M (pc + 3) ls (rv S d 6 0 :: st)) : PW X S M pc ls (rv S d 1 0 :: st) := pw_getf (n := 4) C (inT1 47 rfl rfl) iX6 rfl (by decide) rfl (oD_1 hd) rfl h (fun _ => kk)
theorem gf_8_112 {X : PX} {S : SW} {M : Mem} {cc : ByteArray} {f lo pc : Nat} {ls : List (Option Value)} {st : List Value} (d : Nat) (hd : d < 2) (C : Cx X S RX8 cc f lo) (h : decode cc pc = .ok (.getfield 112, 3)) (kk : PW X S M (pc + 3) ls (rv S d 6 0 :: st)) : PW X S M pc ls (rv S d 1 0 :: st) := pw_getf (n := 4) C (inT1 48 rfl rfl) iX6 rfl (by decide) rfl (oD_1 hd) rfl h (fun _ => kk)
theorem gf_1_123 {X : PX} {S : SW} {M : Mem} {cc : ByteArray} {f lo pc : Nat} {ls : List (Option Value)} {st : List Value} (d : Nat) (hd : d < 2) (C : Cx X S RX1 cc f lo) (h : decode cc pc = .ok (.getfield 123, 3)) (kk : PW X S M (pc + 3) ls (rv S d 6 0 :: st)) : PW X S M pc ls (rv S d 1 0 :: st) := pw_getf (n := 4) C (inT1 49 rfl rfl) iX6 rfl (by decide) rfl (oD_1 hd) rfl h (fun _ => kk)
theorem gf_6_29 {X : PX} {S : SW} {M : Mem} {cc : ByteArray} {f lo pc : Nat} {ls : List (Option Value)} {st : List Value} (d : Nat) (hd : d < 2) (C : Cx X S RX6 cc f lo) (h : decode cc pc = .ok (.getfield 29, 3)) (kk : InR (M d 1 0 5) → PW X S M (pc + 3) ls (iv (M d 1 0 5) :: st)) : PW X S M pc ls (rv S d 1 0 :: st) := pw_getf (n := 5) C (inT1 50 rfl rfl) iX6 rfl (by decide) rfl (oD_1 hd) rfl h kk
theorem gv_6_29 {X : PX} {S : SW} {M : Mem} {cc : ByteArray} {f lo pc : Nat} {ls : List (Option Value)} {st : List Value} {V : DM} (d : Nat) (hd : d < 2) (C : Cx X S RX6 cc f lo) (h : decode cc pc = .ok (.getfield 29, 3)) (kk : InR (V 1 0 5) → PW X S (mst M d V) (pc + 3) ls (iv (V 1 0 5) :: st)) : PW X S (mst M d V) pc ls (rv S d 1 0 :: st) := gf_6_29 d hd C h (by rw [mst_s]; exact kk)
theorem pf_6_29 {X : PX} {S : SW} {M : Mem} {cc : ByteArray} {f lo pc : Nat} {ls : List (Option Value)} {st : List Value} (d : Nat) (hd : d < 2) (C : Cx X S RX6 cc f lo) {v : Int} (hv : InR v) (h : decode cc pc = .ok (.putfield 29, 3)) (kk : PW X S (mst M d (vup (M d) 1 0 5 v)) (pc + 3) ls st) : PW X S M pc ls (iv v :: rv S d 1 0 :: st) := pw_putf (n := 5) (q := (0, 0, 0)) C (inT1 50 rfl rfl) iX6 rfl (by decide) rfl tyX6_ok nmX6 rfl (oD_1 hd) rfl rfl rfl rfl hv h kk
theorem pv_6_29 {X : PX} {S : SW} {M : Mem} {cc : ByteArray} {f lo pc : Nat} {ls : List (Option Value)} {st : List Value} {V : DM} (d : Nat) (hd : d < 2) (C : Cx X S RX6 cc f lo) {v : Int} (hv : InR v) (h : decode cc pc = .ok (.putfield 29, 3)) (kk : PW X S (mst M d (vup V 1 0 5 v)) (pc + 3) ls st) : PW X S (mst M d V) pc ls (iv v :: rv S d 1 0 :: st) := pf_6_29 d hd C hv h (by rw [mst_m, mst_s]; exact kk)
theorem gf_1_79 {X : PX} {S : SW} {M : Mem} {cc : ByteArray} {f lo pc : Nat} {ls : List (Option Value)} {st : List Value} (d : Nat) (hd : d < 2) (C : Cx X S RX1 cc f lo) (h : decode cc pc = .ok (.getfield 79, 3)) (kk : InR (M d 1 0 5) → PW X S M (pc + 3) ls (iv (M d 1 0 5) :: st)) : PW X S M pc ls (rv S d 1 0 :: st) := pw_getf (n := 5) C (inT1 51 rfl rfl) iX6 rfl (by decide) rfl (oD_1 hd) rfl h kk
theorem gv_1_79 {X : PX} {S : SW} {M : Mem} {cc : ByteArray} {f lo pc : Nat} {ls : List (Option Value)} {st : List Value} {V : DM} (d : Nat) (hd : d < 2) (C : Cx X S RX1 cc f lo) (h : decode cc pc = .ok (.getfield 79, 3)) (kk : InR (V 1 0 5) → PW X S (mst M d V) (pc + 3) ls (iv (V 1 0 5) :: st)) : PW X S (mst M d V) pc ls (rv S d 1 0 :: st) := gf_1_79 d hd C h (by rw [mst_s]; exact kk)
theorem gf_4_69 {X : PX} {S : SW} {M : Mem} {cc : ByteArray} {f lo pc : Nat} {ls : List (Option Value)} {st : List Value} (d : Nat) (hd : d < 2) (C : Cx X S RX4 cc f lo) (h : decode cc pc = .ok (.getfield 69, 3)) (kk : InR (M d 1 0 5) → PW X S M (pc + 3) ls (iv (M d 1 0 5) :: st)) : PW X S M pc ls (rv S d 1 0 :: st) := pw_getf (n := 5) C (inT1 52 rfl rfl) iX6 rfl (by decide) rfl (oD_1 hd) rfl h kk
theorem gv_4_69 {X : PX} {S : SW} {M : Mem} {cc : ByteArray} {f lo pc : Nat} {ls : List (Option Value)} {st : List Value} {V : DM} (d : Nat) (hd : d < 2) (C : Cx X S RX4 cc f lo) (h : decode cc pc = .ok (.getfield 69, 3)) (kk : InR (V 1 0 5) → PW X S (mst M d V) (pc + 3) ls (iv (V 1 0 5) :: st)) : PW X S (mst M d V) pc ls (rv S d 1 0 :: st) := gf_4_69 d hd C h (by rw [mst_s]; exact kk)
theorem gf_8_118 {X : PX} {S : SW} {M : Mem} {cc : ByteArray} {f lo pc : Nat} {ls : List (Option Value)} {st : List Value} (d : Nat) (hd : d < 2) (C : Cx X S RX8 cc f lo) (h : decode cc pc = .ok (.getfield 118, 3)) (kk : InR (M d 1 0 5) → PW X S M (pc + 3) ls (iv (M d 1 0 5) :: st)) : PW X S M pc ls (rv S d 1 0 :: st) := pw_getf (n := 5) C (inT1 53 rfl rfl) iX6 rfl (by decide) rfl (oD_1 hd) rfl h kk
theorem gv_8_118 {X : PX} {S : SW} {M : Mem} {cc : ByteArray} {f lo pc : Nat} {ls : List (Option Value)} {st : List Value} {V : DM} (d : Nat) (hd : d < 2) (C : Cx X S RX8 cc f lo) (h : decode cc pc = .ok (.getfield 118, 3)) (kk : InR (V 1 0 5) → PW X S (mst M d V) (pc + 3) ls (iv (V 1 0 5) :: st)) : PW X S (mst M d V) pc ls (rv S d 1 0 :: st) := gf_8_118 d hd C h (by rw [mst_s]; exact kk)
theorem gf_6_35 {X : PX} {S : SW} {M : Mem} {cc : ByteArray} {f lo pc : Nat} {ls : List (Option Value)} {st : List Value} (d : Nat) (hd : d < 2) (C : Cx X S RX6 cc f lo) (h : decode cc pc = .ok (.getfield 35, 3)) (kk : InR (M d 1 0 6) → PW X S M (pc + 3) ls (iv (M d 1 0 6) :: st)) : PW X S M pc ls (rv S d 1 0 :: st) := pw_getf (n := 6) C (inT1 54 rfl rfl) iX6 rfl (by decide) rfl (oD_1 hd) rfl h kk
theorem gv_6_35 {X : PX} {S : SW} {M : Mem} {cc : ByteArray} {f lo pc : Nat} {ls : List (Option Value)} {st : List Value} {V : DM} (d : Nat) (hd : d < 2) (C : Cx X S RX6 cc f lo) (h : decode cc pc = .ok (.getfield 35, 3)) (kk : InR (V 1 0 6) → PW X S (mst M d V) (pc + 3) ls (iv (V 1 0 6) :: st)) : PW X S (mst M d V) pc ls (rv S d 1 0 :: st) := gf_6_35 d hd C h (by rw [mst_s]; exact kk)
theorem pf_6_35 {X : PX} {S : SW} {M : Mem} {cc : ByteArray} {f lo pc : Nat} {ls : List (Option Value)} {st : List Value} (d : Nat) (hd : d < 2) (C : Cx X S RX6 cc f lo) {v : Int} (hv : InR v) (h : decode cc pc = .ok (.putfield 35, 3)) (kk : PW X S (mst M d (vup (M d) 1 0 6 v)) (pc + 3) ls st) : PW X S M pc ls (iv v :: rv S d 1 0 :: st) := pw_putf (n := 6) (q := (0, 0, 0)) C (inT1 54 rfl rfl) iX6 rfl (by decide) rfl tyX6_ok nmX6 rfl (oD_1 hd) rfl rfl rfl rfl hv h kk
theorem pv_6_35 {X : PX} {S : SW} {M : Mem} {cc : ByteArray} {f lo pc : Nat} {ls : List (Option Value)} {st : List Value} {V : DM} (d : Nat) (hd : d < 2) (C : Cx X S RX6 cc f lo) {v : Int} (hv : InR v) (h : decode cc pc = .ok (.putfield 35, 3)) (kk : PW X S (mst M d (vup V 1 0 6 v)) (pc + 3) ls st) : PW X S (mst M d V) pc ls (iv v :: rv S d 1 0 :: st) := pf_6_35 d hd C hv h (by rw [mst_m, mst_s]; exact kk)
theorem gf_8_80 {X : PX} {S : SW} {M : Mem} {cc : ByteArray} {f lo pc : Nat} {ls : List (Option Value)} {st : List Value} (d : Nat) (hd : d < 2) (C : Cx X S RX8 cc f lo) (h : decode cc pc = .ok (.getfield 80, 3)) (kk : InR (M d 1 0 6) → PW X S M (pc + 3) ls (iv (M d 1 0 6) :: st)) : PW X S M pc ls (rv S d 1 0 :: st) := pw_getf (n := 6) C (inT1 55 rfl rfl) iX6 rfl (by decide) rfl (oD_1 hd) rfl h kk
theorem gv_8_80 {X : PX} {S : SW} {M : Mem} {cc : ByteArray} {f lo pc : Nat} {ls : List (Option Value)} {st : List Value} {V : DM} (d : Nat) (hd : d < 2) (C : Cx X S RX8 cc f lo) (h : decode cc pc = .ok (.getfield 80, 3)) (kk : InR (V 1 0 6) → PW X S (mst M d V) (pc + 3) ls (iv (V 1 0 6) :: st)) : PW X S (mst M d V) pc ls (rv S d 1 0 :: st) := gf_8_80 d hd C h (by rw [mst_s]; exact kk)
theorem gf_1_67 {X : PX} {S : SW} {M : Mem} {cc : ByteArray} {f lo pc : Nat} {ls : List (Option Value)} {st : List Value} (d : Nat) (hd : d < 2) (C : Cx X S RX1 cc f lo) (h : decode cc pc = .ok (.getfield 67, 3)) (kk : InR (M d 1 0 6) → PW X S M (pc + 3) ls (iv (M d 1 0 6) :: st)) : PW X S M pc ls (rv S d 1 0 :: st) := pw_getf (n := 6) C (inT1 56 rfl rfl) iX6 rfl (by decide) rfl (oD_1 hd) rfl h kk
theorem gv_1_67 {X : PX} {S : SW} {M : Mem} {cc : ByteArray} {f lo pc : Nat} {ls : List (Option Value)} {st : List Value} {V : DM} (d : Nat) (hd : d < 2) (C : Cx X S RX1 cc f lo) (h : decode cc pc = .ok (.getfield 67, 3)) (kk : InR (V 1 0 6) → PW X S (mst M d V) (pc + 3) ls (iv (V 1 0 6) :: st)) : PW X S (mst M d V) pc ls (rv S d 1 0 :: st) := gf_1_67 d hd C h (by rw [mst_s]; exact kk)
theorem gf_4_83 {X : PX} {S : SW} {M : Mem} {cc : ByteArray} {f lo pc : Nat} {ls : List (Option Value)} {st : List Value} (d : Nat) (hd : d < 2) (C : Cx X S RX4 cc f lo) (h : decode cc pc = .ok (.getfield 83, 3)) (kk : InR (M d 1 0 6) → PW X S M (pc + 3) ls (iv (M d 1 0 6) :: st)) : PW X S M pc ls (rv S d 1 0 :: st) := pw_getf (n := 6) C (inT1 57 rfl rfl) iX6 rfl (by decide) rfl (oD_1 hd) rfl h kk
theorem gv_4_83 {X : PX} {S : SW} {M : Mem} {cc : ByteArray} {f lo pc : Nat} {ls : List (Option Value)} {st : List Value} {V : DM} (d : Nat) (hd : d < 2) (C : Cx X S RX4 cc f lo) (h : decode cc pc = .ok (.getfield 83, 3)) (kk : InR (V 1 0 6) → PW X S (mst M d V) (pc + 3) ls (iv (V 1 0 6) :: st)) : PW X S (mst M d V) pc ls (rv S d 1 0 :: st) := gf_4_83 d hd C h (by rw [mst_s]; exact kk)
theorem gf_6_38 {X : PX} {S : SW} {M : Mem} {cc : ByteArray} {f lo pc : Nat} {ls : List (Option Value)} {st : List Value} (d : Nat) (hd : d < 2) (C : Cx X S RX6 cc f lo) (h : decode cc pc = .ok (.getfield 38, 3)) (kk : InR (M d 1 0 7) → PW X S M (pc + 3) ls (iv (M d 1 0 7) :: st)) : PW X S M pc ls (rv S d 1 0 :: st) := pw_getf (n := 7) C (inT1 58 rfl rfl) iX6 rfl (by decide) rfl (oD_1 hd) rfl h kk
theorem gv_6_38 {X : PX} {S : SW} {M : Mem} {cc : ByteArray} {f lo pc : Nat} {ls : List (Option Value)} {st : List Value} {V : DM} (d : Nat) (hd : d < 2) (C : Cx X S RX6 cc f lo) (h : decode cc pc = .ok (.getfield 38, 3)) (kk : InR (V 1 0 7) → PW X S (mst M d V) (pc + 3) ls (iv (V 1 0 7) :: st)) : PW X S (mst M d V) pc ls (rv S d 1 0 :: st) := gf_6_38 d hd C h (by rw [mst_s]; exact kk)
theorem pf_6_38 {X : PX} {S : SW} {M : Mem} {cc : ByteArray} {f lo pc : Nat} {ls : List (Option Value)} {st : List Value} (d : Nat) (hd : d < 2) (C : Cx X S RX6 cc f lo) {v : Int} (hv : InR v) (h : decode cc pc = .ok (.putfield 38, 3)) (kk : PW X S (mst M d (vup (M d) 1 0 7 v)) (pc + 3) ls st) : PW X S M pc ls (iv v :: rv S d 1 0 :: st) := pw_putf (n := 7) (q := (0, 0, 0)) C (inT1 58 rfl rfl) iX6 rfl (by decide) rfl tyX6_ok nmX6 rfl (oD_1 hd) rfl rfl rfl rfl hv h kk
theorem pv_6_38 {X : PX} {S : SW} {M : Mem} {cc : ByteArray} {f lo pc : Nat} {ls : List (Option Value)} {st : List Value} {V : DM} (d : Nat) (hd : d < 2) (C : Cx X S RX6 cc f lo) {v : Int} (hv : InR v) (h : decode cc pc = .ok (.putfield 38, 3)) (kk : PW X S (mst M d (vup V 1 0 7 v)) (pc + 3) ls st) : PW X S (mst M d V) pc ls (iv v :: rv S d 1 0 :: st) := pf_6_38 d hd C hv h (by rw [mst_m, mst_s]; exact kk)
theorem gf_1_97 {X : PX} {S : SW} {M : Mem} {cc : ByteArray} {f lo pc : Nat} {ls : List (Option Value)} {st : List Value} (d : Nat) (hd : d < 2) (C : Cx X S RX1 cc f lo) (h : decode cc pc = .ok (.getfield 97, 3)) (kk : InR (M d 1 0 7) → PW X S M (pc + 3) ls (iv (M d 1 0 7) :: st)) : PW X S M pc ls (rv S d 1 0 :: st) := pw_getf (n := 7) C (inT1 59 rfl rfl) iX6 rfl (by decide) rfl (oD_1 hd) rfl h kk
theorem gv_1_97 {X : PX} {S : SW} {M : Mem} {cc : ByteArray} {f lo pc : Nat} {ls : List (Option Value)} {st : List Value} {V : DM} (d : Nat) (hd : d < 2) (C : Cx X S RX1 cc f lo) (h : decode cc pc = .ok (.getfield 97, 3)) (kk : InR (V 1 0 7) → PW X S (mst M d V) (pc + 3) ls (iv (V 1 0 7) :: st)) : PW X S (mst M d V) pc ls (rv S d 1 0 :: st) := gf_1_97 d hd C h (by rw [mst_s]; exact kk)
theorem gf_4_86 {X : PX} {S : SW} {M : Mem} {cc : ByteArray} {f lo pc : Nat} {ls : List (Option Value)} {st : List Value} (d : Nat) (hd : d < 2) (C : Cx X S RX4 cc f lo) (h : decode cc pc = .ok (.getfield 86, 3)) (kk : InR (M d 1 0 7) → PW X S M (pc + 3) ls (iv (M d 1 0 7) :: st)) : PW X S M pc ls (rv S d 1 0 :: st) := pw_getf (n := 7) C (inT1 60 rfl rfl) iX6 rfl (by decide) rfl (oD_1 hd) rfl h kk
theorem gv_4_86 {X : PX} {S : SW} {M : Mem} {cc : ByteArray} {f lo pc : Nat} {ls : List (Option Value)} {st : List Value} {V : DM} (d : Nat) (hd : d < 2) (C : Cx X S RX4 cc f lo) (h : decode cc pc = .ok (.getfield 86, 3)) (kk : InR (V 1 0 7) → PW X S (mst M d V) (pc + 3) ls (iv (V 1 0 7) :: st)) : PW X S (mst M d V) pc ls (rv S d 1 0 :: st) := gf_4_86 d hd C h (by rw [mst_s]; exact kk)
theorem gf_8_135 {X : PX} {S : SW} {M : Mem} {cc : ByteArray} {f lo pc : Nat} {ls : List (Option Value)} {st : List Value} (d : Nat) (hd : d < 2) (C : Cx X S RX8 cc f lo) (h : decode cc pc = .ok (.getfield 135, 3)) (kk : InR (M d 1 0 7) → PW X S M (pc + 3) ls (iv (M d 1 0 7) :: st)) : PW X S M pc ls (rv S d 1 0 :: st) := pw_getf (n := 7) C (inT1 61 rfl rfl) iX6 rfl (by decide) rfl (oD_1 hd) rfl h kk
theorem gv_8_135 {X : PX} {S : SW} {M : Mem} {cc : ByteArray} {f lo pc : Nat} {ls : List (Option Value)} {st : List Value} {V : DM} (d : Nat) (hd : d < 2) (C : Cx X S RX8 cc f lo) (h : decode cc pc = .ok (.getfield 135, 3)) (kk : InR (V 1 0 7) → PW X S (mst M d V) (pc + 3) ls (iv (V 1 0 7) :: st)) : PW X S (mst M d V) pc ls (rv S d 1 0 :: st) := gf_8_135 d hd C h (by rw [mst_s]; exact kk)
theorem pf_8_135 {X : PX} {S : SW} {M : Mem} {cc : ByteArray} {f lo pc : Nat} {ls : List (Option Value)} {st : List Value} (d : Nat) (hd : d < 2) (C : Cx X S RX8 cc f lo) {v : Int} (hv : InR v) (h : decode cc pc = .ok (.putfield 135, 3)) (kk : PW X S (mst M d (vup (M d) 1 0 7 v)) (pc + 3) ls st) : PW X S M pc ls (iv v :: rv S d 1 0 :: st) := pw_putf (n := 7) (q := (0, 0, 0)) C (inT1 61 rfl rfl) iX6 rfl (by decide) rfl tyX6_ok nmX6 rfl (oD_1 hd) rfl rfl rfl rfl hv h kk
theorem pv_8_135 {X : PX} {S : SW} {M : Mem} {cc : ByteArray} {f lo pc : Nat} {ls : List (Option Value)} {st : List Value} {V : DM} (d : Nat) (hd : d < 2) (C : Cx X S RX8 cc f lo) {v : Int} (hv : InR v) (h : decode cc pc = .ok (.putfield 135, 3)) (kk : PW X S (mst M d (vup V 1 0 7 v)) (pc + 3) ls st) : PW X S (mst M d V) pc ls (iv v :: rv S d 1 0 :: st) := pf_8_135 d hd C hv h (by rw [mst_m, mst_s]; exact kk)
theorem gf_6_41 {X : PX} {S : SW} {M : Mem} {cc : ByteArray} {f lo pc : Nat} {ls : List (Option Value)} {st : List Value} (d : Nat) (hd : d < 2) (C : Cx X S RX6 cc f lo) (h : decode cc pc = .ok (.getfield 41, 3)) (kk : InR (M d 1 0 8) → PW X S M (pc + 3) ls (iv (M d 1 0 8) :: st)) : PW X S M pc ls (rv S d 1 0 :: st) := pw_getf (n := 8) C (inT1 62 rfl rfl) iX6 rfl (by decide) rfl (oD_1 hd) rfl h kk
theorem gv_6_41 {X : PX} {S : SW} {M : Mem} {cc : ByteArray} {f lo pc : Nat} {ls : List (Option Value)} {st : List Value} {V : DM} (d : Nat) (hd : d < 2) (C : Cx X S RX6 cc f lo) (h : decode cc pc = .ok (.getfield 41, 3)) (kk : InR (V 1 0 8) → PW X S (mst M d V) (pc + 3) ls (iv (V 1 0 8) :: st)) : PW X S (mst M d V) pc ls (rv S d 1 0 :: st) := gf_6_41 d hd C h (by rw [mst_s]; exact kk)
theorem pf_6_41 {X : PX} {S : SW} {M : Mem} {cc : ByteArray} {f lo pc : Nat} {ls : List (Option Value)} {st : List Value} (d : Nat) (hd : d < 2) (C : Cx X S RX6 cc f lo) {v : Int} (hv : v = 0 ∨ v = 1) (h : decode cc pc = .ok (.putfield 41, 3)) (kk : PW X S (mst M d (vup (M d) 1 0 8 v)) (pc + 3) ls st) : PW X S M pc ls (iv v :: rv S d 1 0 :: st) := pw_putf (n := 8) (q := (0, 0, 0)) C (inT1 62 rfl rfl) iX6 rfl (by decide) rfl tyX6_ok nmX6 rfl (oD_1 hd) rfl rfl (by rcases hv with rfl | rfl <;> rfl) (by rcases hv with rfl | rfl <;> rfl) (by rcases hv with rfl | rfl <;> unfold InR <;> omega) h kk
theorem pv_6_41 {X : PX} {S : SW} {M : Mem} {cc : ByteArray} {f lo pc : Nat} {ls : List (Option Value)} {st : List Value} {V : DM} (d : Nat) (hd : d < 2) (C : Cx X S RX6 cc f lo) {v : Int} (hv : v = 0 ∨ v = 1) (h : decode cc pc = .ok (.putfield 41, 3)) (kk : PW X S (mst M d (vup V 1 0 8 v)) (pc + 3) ls st) : PW X S (mst M d V) pc ls (iv v :: rv S d 1 0 :: st) := pf_6_41 d hd C hv h (by rw [mst_m, mst_s]; exact kk)
theorem gf_1_116 {X : PX} {S : SW} {M : Mem} {cc : ByteArray} {f lo pc : Nat} {ls : List (Option Value)} {st : List Value} (d : Nat) (hd : d < 2) (C : Cx X S RX1 cc f lo) (h : decode cc pc = .ok (.getfield 116, 3)) (kk : InR (M d 1 0 8) → PW X S M (pc + 3) ls (iv (M d 1 0 8) :: st)) : PW X S M pc ls (rv S d 1 0 :: st) := pw_getf (n := 8) C (inT1 63 rfl rfl) iX6 rfl (by decide) rfl (oD_1 hd) rfl h kk
theorem gv_1_116 {X : PX} {S : SW} {M : Mem} {cc : ByteArray} {f lo pc : Nat} {ls : List (Option Value)} {st : List Value} {V : DM} (d : Nat) (hd : d < 2) (C : Cx X S RX1 cc f lo) (h : decode cc pc = .ok (.getfield 116, 3)) (kk : InR (V 1 0 8) → PW X S (mst M d V) (pc + 3) ls (iv (V 1 0 8) :: st)) : PW X S (mst M d V) pc ls (rv S d 1 0 :: st) := gf_1_116 d hd C h (by rw [mst_s]; exact kk)
theorem gf_8_138 {X : PX} {S : SW} {M : Mem} {cc : ByteArray} {f lo pc : Nat} {ls : List (Option Value)} {st : List Value} (d : Nat) (hd : d < 2) (C : Cx X S RX8 cc f lo) (h : decode cc pc = .ok (.getfield 138, 3)) (kk : InR (M d 1 0 8) → PW X S M (pc + 3) ls (iv (M d 1 0 8) :: st)) : PW X S M pc ls (rv S d 1 0 :: st) := pw_getf (n := 8) C (inT1 64 rfl rfl) iX6 rfl (by decide) rfl (oD_1 hd) rfl h kk
theorem gv_8_138 {X : PX} {S : SW} {M : Mem} {cc : ByteArray} {f lo pc : Nat} {ls : List (Option Value)} {st : List Value} {V : DM} (d : Nat) (hd : d < 2) (C : Cx X S RX8 cc f lo) (h : decode cc pc = .ok (.getfield 138, 3)) (kk : InR (V 1 0 8) → PW X S (mst M d V) (pc + 3) ls (iv (V 1 0 8) :: st)) : PW X S (mst M d V) pc ls (rv S d 1 0 :: st) := gf_8_138 d hd C h (by rw [mst_s]; exact kk)
theorem pf_8_138 {X : PX} {S : SW} {M : Mem} {cc : ByteArray} {f lo pc : Nat} {ls : List (Option Value)} {st : List Value} (d : Nat) (hd : d < 2) (C : Cx X S RX8 cc f lo) {v : Int} (hv : v = 0 ∨ v = 1) (h : decode cc pc = .ok (.putfield 138, 3)) (kk : PW X S (mst M d (vup (M d) 1 0 8 v)) (pc + 3) ls st) : PW X S M pc ls (iv v :: rv S d 1 0 :: st) := pw_putf (n := 8) (q := (0, 0, 0)) C (inT1 64 rfl rfl) iX6 rfl (by decide) rfl tyX6_ok nmX6 rfl (oD_1 hd) rfl rfl (by rcases hv with rfl | rfl <;> rfl) (by rcases hv with rfl | rfl <;> rfl) (by rcases hv with rfl | rfl <;> unfold InR <;> omega) h kk
theorem pv_8_138 {X : PX} {S : SW} {M : Mem} {cc : ByteArray} {f lo pc : Nat} {ls : List (Option Value)} {st : List Value} {V : DM} (d : Nat) (hd : d < 2) (C : Cx X S RX8 cc f lo) {v : Int} (hv : v = 0 ∨ v = 1) (h : decode cc pc = .ok (.putfield 138, 3)) (kk : PW X S (mst M d (vup V 1 0 8 v)) (pc + 3) ls st) : PW X S (mst M d V) pc ls (iv v :: rv S d 1 0 :: st) := pf_8_138 d hd C hv h (by rw [mst_m, mst_s]; exact kk)
theorem gf_0_9 {X : PX} {S : SW} {M : Mem} {cc : ByteArray} {f lo pc : Nat} {ls : List (Option Value)} {st : List Value} (d : Nat) (hd : d < 2) (C : Cx X S RX0 cc f lo) (h : decode cc pc = .ok (.getfield 9, 3)) (kk : PW X S M (pc + 3) ls (rv S d 9 0 :: st)) : PW X S M pc ls (rv S d 8 0 :: st) := pw_getf (n := 0) C (inT1 91 rfl rfl) iX0 rfl (by decide) rfl (oD_8 hd) rfl h (fun _ => kk)
theorem gf_1_127 {X : PX} {S : SW} {M : Mem} {cc : ByteArray} {f lo pc : Nat} {ls : List (Option Value)} {st : List Value} (d : Nat) (hd : d < 2) (C : Cx X S RX1 cc f lo) (h : decode cc pc = .ok (.getfield 127, 3)) (kk : PW X S M (pc + 3) ls (rv S d 9 0 :: st)) : PW X S M pc ls (rv S d 8 0 :: st) := pw_getf (n := 0) C (inT1 92 rfl rfl) iX0 rfl (by decide) rfl (oD_8 hd) rfl h (fun _ => kk)
theorem gf_8_148 {X : PX} {S : SW} {M : Mem} {cc : ByteArray} {f lo pc : Nat} {ls : List (Option Value)} {st : List Value} (d : Nat) (hd : d < 2) (C : Cx X S RX8 cc f lo) (h : decode cc pc = .ok (.getfield 148, 3)) (kk : PW X S M (pc + 3) ls (rv S d 9 0 :: st)) : PW X S M pc ls (rv S d 8 0 :: st) := pw_getf (n := 0) C (inT1 93 rfl rfl) iX0 rfl (by decide) rfl (oD_8 hd) rfl h (fun _ => kk)
theorem gf_0_15 {X : PX} {S : SW} {M : Mem} {cc : ByteArray} {f lo pc : Nat} {ls : List (Option Value)} {st : List Value} (d : Nat) (hd : d < 2) (C : Cx X S RX0 cc f lo) (h : decode cc pc = .ok (.getfield 15, 3)) (kk : PW X S M (pc + 3) ls (rv S d 10 0 :: st)) : PW X S M pc ls (rv S d 8 0 :: st) := pw_getf (n := 1) C (inT1 94 rfl rfl) iX0 rfl (by decide) rfl (oD_8 hd) rfl h (fun _ => kk)
theorem gf_1_113 {X : PX} {S : SW} {M : Mem} {cc : ByteArray} {f lo pc : Nat} {ls : List (Option Value)} {st : List Value} (d : Nat) (hd : d < 2) (C : Cx X S RX1 cc f lo) (h : decode cc pc = .ok (.getfield 113, 3)) (kk : PW X S M (pc + 3) ls (rv S d 10 0 :: st)) : PW X S M pc ls (rv S d 8 0 :: st) := pw_getf (n := 1) C (inT1 95 rfl rfl) iX0 rfl (by decide) rfl (oD_8 hd) rfl h (fun _ => kk)
theorem gf_8_151 {X : PX} {S : SW} {M : Mem} {cc : ByteArray} {f lo pc : Nat} {ls : List (Option Value)} {st : List Value} (d : Nat) (hd : d < 2) (C : Cx X S RX8 cc f lo) (h : decode cc pc = .ok (.getfield 151, 3)) (kk : PW X S M (pc + 3) ls (rv S d 10 0 :: st)) : PW X S M pc ls (rv S d 8 0 :: st) := pw_getf (n := 1) C (inT1 96 rfl rfl) iX0 rfl (by decide) rfl (oD_8 hd) rfl h (fun _ => kk)
theorem gf_0_18 {X : PX} {S : SW} {M : Mem} {cc : ByteArray} {f lo pc : Nat} {ls : List (Option Value)} {st : List Value} (d : Nat) (hd : d < 2) (C : Cx X S RX0 cc f lo) (h : decode cc pc = .ok (.getfield 18, 3)) (kk : PW X S M (pc + 3) ls (rv S d 11 0 :: st)) : PW X S M pc ls (rv S d 8 0 :: st) := pw_getf (n := 2) C (inT1 97 rfl rfl) iX0 rfl (by decide) rfl (oD_8 hd) rfl h (fun _ => kk)
theorem gf_1_107 {X : PX} {S : SW} {M : Mem} {cc : ByteArray} {f lo pc : Nat} {ls : List (Option Value)} {st : List Value} (d : Nat) (hd : d < 2) (C : Cx X S RX1 cc f lo) (h : decode cc pc = .ok (.getfield 107, 3)) (kk : PW X S M (pc + 3) ls (rv S d 11 0 :: st)) : PW X S M pc ls (rv S d 8 0 :: st) := pw_getf (n := 2) C (inT1 98 rfl rfl) iX0 rfl (by decide) rfl (oD_8 hd) rfl h (fun _ => kk)
theorem gf_8_154 {X : PX} {S : SW} {M : Mem} {cc : ByteArray} {f lo pc : Nat} {ls : List (Option Value)} {st : List Value} (d : Nat) (hd : d < 2) (C : Cx X S RX8 cc f lo) (h : decode cc pc = .ok (.getfield 154, 3)) (kk : PW X S M (pc + 3) ls (rv S d 11 0 :: st)) : PW X S M pc ls (rv S d 8 0 :: st) := pw_getf (n := 2) C (inT1 99 rfl rfl) iX0 rfl (by decide) rfl (oD_8 hd) rfl h (fun _ => kk)
theorem gf_0_21 {X : PX} {S : SW} {M : Mem} {cc : ByteArray} {f lo pc : Nat} {ls : List (Option Value)} {st : List Value} (d : Nat) (hd : d < 2) (C : Cx X S RX0 cc f lo) (h : decode cc pc = .ok (.getfield 21, 3)) (kk : PW X S M (pc + 3) ls (rv S d 12 0 :: st)) : PW X S M pc ls (rv S d 8 0 :: st) := pw_getf (n := 3) C (inT1 100 rfl rfl) iX0 rfl (by decide) rfl (oD_8 hd) rfl h (fun _ => kk)
theorem gf_1_130 {X : PX} {S : SW} {M : Mem} {cc : ByteArray} {f lo pc : Nat} {ls : List (Option Value)} {st : List Value} (d : Nat) (hd : d < 2) (C : Cx X S RX1 cc f lo) (h : decode cc pc = .ok (.getfield 130, 3)) (kk : PW X S M (pc + 3) ls (rv S d 12 0 :: st)) : PW X S M pc ls (rv S d 8 0 :: st) := pw_getf (n := 3) C (inT1 101 rfl rfl) iX0 rfl (by decide) rfl (oD_8 hd) rfl h (fun _ => kk)
theorem gf_8_157 {X : PX} {S : SW} {M : Mem} {cc : ByteArray} {f lo pc : Nat} {ls : List (Option Value)} {st : List Value} (d : Nat) (hd : d < 2) (C : Cx X S RX8 cc f lo) (h : decode cc pc = .ok (.getfield 157, 3)) (kk : PW X S M (pc + 3) ls (rv S d 12 0 :: st)) : PW X S M pc ls (rv S d 8 0 :: st) := pw_getf (n := 3) C (inT1 102 rfl rfl) iX0 rfl (by decide) rfl (oD_8 hd) rfl h (fun _ => kk)
theorem gf_0_24 {X : PX} {S : SW} {M : Mem} {cc : ByteArray} {f lo pc : Nat} {ls : List (Option Value)} {st : List Value} (d : Nat) (hd : d < 2) (C : Cx X S RX0 cc f lo) (h : decode cc pc = .ok (.getfield 24, 3)) (kk : InR (M d 8 0 4) → PW X S M (pc + 3) ls (iv (M d 8 0 4) :: st)) : PW X S M pc ls (rv S d 8 0 :: st) := pw_getf (n := 4) C (inT1 103 rfl rfl) iX0 rfl (by decide) rfl (oD_8 hd) rfl h kk
theorem gv_0_24 {X : PX} {S : SW} {M : Mem} {cc : ByteArray} {f lo pc : Nat} {ls : List (Option Value)} {st : List Value} {V : DM} (d : Nat) (hd : d < 2) (C : Cx X S RX0 cc f lo) (h : decode cc pc = .ok (.getfield 24, 3)) (kk : InR (V 8 0 4) → PW X S (mst M d V) (pc + 3) ls (iv (V 8 0 4) :: st)) : PW X S (mst M d V) pc ls (rv S d 8 0 :: st) := gf_0_24 d hd C h (by rw [mst_s]; exact kk)
theorem pf_0_24 {X : PX} {S : SW} {M : Mem} {cc : ByteArray} {f lo pc : Nat} {ls : List (Option Value)} {st : List Value} (d : Nat) (hd : d < 2) (C : Cx X S RX0 cc f lo) {v : Int} (hv : InR v) (h : decode cc pc = .ok (.putfield 24, 3)) (kk : PW X S (mst M d (vup (M d) 8 0 4 v)) (pc + 3) ls st) : PW X S M pc ls (iv v :: rv S d 8 0 :: st) := pw_putf (n := 4) (q := (0, 0, 0)) C (inT1 103 rfl rfl) iX0 rfl (by decide) rfl tyX0_ok nmX0 rfl (oD_8 hd) rfl rfl rfl rfl hv h kk
theorem pv_0_24 {X : PX} {S : SW} {M : Mem} {cc : ByteArray} {f lo pc : Nat} {ls : List (Option Value)} {st : List Value} {V : DM} (d : Nat) (hd : d < 2) (C : Cx X S RX0 cc f lo) {v : Int} (hv : InR v) (h : decode cc pc = .ok (.putfield 24, 3)) (kk : PW X S (mst M d (vup V 8 0 4 v)) (pc + 3) ls st) : PW X S (mst M d V) pc ls (iv v :: rv S d 8 0 :: st) := pf_0_24 d hd C hv h (by rw [mst_m, mst_s]; exact kk)
theorem gf_8_74 {X : PX} {S : SW} {M : Mem} {cc : ByteArray} {f lo pc : Nat} {ls : List (Option Value)} {st : List Value} (d : Nat) (hd : d < 2) (C : Cx X S RX8 cc f lo) (h : decode cc pc = .ok (.getfield 74, 3)) (kk : InR (M d 8 0 4) → PW X S M (pc + 3) ls (iv (M d 8 0 4) :: st)) : PW X S M pc ls (rv S d 8 0 :: st) := pw_getf (n := 4) C (inT1 104 rfl rfl) iX0 rfl (by decide) rfl (oD_8 hd) rfl h kk
theorem gv_8_74 {X : PX} {S : SW} {M : Mem} {cc : ByteArray} {f lo pc : Nat} {ls : List (Option Value)} {st : List Value} {V : DM} (d : Nat) (hd : d < 2) (C : Cx X S RX8 cc f lo) (h : decode cc pc = .ok (.getfield 74, 3)) (kk : InR (V 8 0 4) → PW X S (mst M d V) (pc + 3) ls (iv (V 8 0 4) :: st)) : PW X S (mst M d V) pc ls (rv S d 8 0 :: st) := gf_8_74 d hd C h (by rw [mst_s]; exact kk)
theorem pf_8_74 {X : PX} {S : SW} {M : Mem} {cc : ByteArray} {f lo pc : Nat} {ls : List (Option Value)} {st : List Value} (d : Nat) (hd : d < 2) (C : Cx X S RX8 cc f lo) {v : Int} (hv : InR v) (h : decode cc pc = .ok (.putfield 74, 3)) (kk : PW X S (mst M d (vup (M d) 8 0 4 v)) (pc + 3) ls st) : PW X S M pc ls (iv v :: rv S d 8 0 :: st) := pw_putf (n := 4) (q := (0, 0, 0)) C (inT1 104 rfl rfl) iX0 rfl (by decide) rfl tyX0_ok nmX0 rfl (oD_8 hd) rfl rfl rfl rfl hv h kk
theorem pv_8_74 {X : PX} {S : SW} {M : Mem} {cc : ByteArray} {f lo pc : Nat} {ls : List (Option Value)} {st : List Value} {V : DM} (d : Nat) (hd : d < 2) (C : Cx X S RX8 cc f lo) {v : Int} (hv : InR v) (h : decode cc pc = .ok (.putfield 74, 3)) (kk : PW X S (mst M d (vup V 8 0 4 v)) (pc + 3) ls st) : PW X S (mst M d V) pc ls (iv v :: rv S d 8 0 :: st) := pf_8_74 d hd C hv h (by rw [mst_m, mst_s]; exact kk)
theorem gf_1_73 {X : PX} {S : SW} {M : Mem} {cc : ByteArray} {f lo pc : Nat} {ls : List (Option Value)} {st : List Value} (d : Nat) (hd : d < 2) (C : Cx X S RX1 cc f lo) (h : decode cc pc = .ok (.getfield 73, 3)) (kk : InR (M d 8 0 4) → PW X S M (pc + 3) ls (iv (M d 8 0 4) :: st)) : PW X S M pc ls (rv S d 8 0 :: st) := pw_getf (n := 4) C (inT1 105 rfl rfl) iX0 rfl (by decide) rfl (oD_8 hd) rfl h kk
theorem gv_1_73 {X : PX} {S : SW} {M : Mem} {cc : ByteArray} {f lo pc : Nat} {ls : List (Option Value)} {st : List Value} {V : DM} (d : Nat) (hd : d < 2) (C : Cx X S RX1 cc f lo) (h : decode cc pc = .ok (.getfield 73, 3)) (kk : InR (V 8 0 4) → PW X S (mst M d V) (pc + 3) ls (iv (V 8 0 4) :: st)) : PW X S (mst M d V) pc ls (rv S d 8 0 :: st) := gf_1_73 d hd C h (by rw [mst_s]; exact kk)
theorem gf_1_12 {X : PX} {S : SW} {M : Mem} {cc : ByteArray} {f lo pc : Nat} {ls : List (Option Value)} {st : List Value} (d : Nat) (hd : d < 2) (C : Cx X S RX1 cc f lo) (h : decode cc pc = .ok (.getfield 12, 3)) (kk : PW X S M (pc + 3) ls (rv S d 1 0 :: st)) : PW X S M pc ls (rv S d 0 0 :: st) := pw_getf (n := 0) C (inT1 117 rfl rfl) iX1 rfl (by decide) rfl (oD_0 hd) rfl h (fun _ => kk)
theorem gf_4_33 {X : PX} {S : SW} {M : Mem} {cc : ByteArray} {f lo pc : Nat} {ls : List (Option Value)} {st : List Value} (d : Nat) (hd : d < 2) (C : Cx X S RX4 cc f lo) (h : decode cc pc = .ok (.getfield 33, 3)) (kk : PW X S M (pc + 3) ls (rv S d 1 0 :: st)) : PW X S M pc ls (rv S d 0 0 :: st) := pw_getf (n := 0) C (inT1 118 rfl rfl) iX1 rfl (by decide) rfl (oD_0 hd) rfl h (fun _ => kk)
theorem gf_8_60 {X : PX} {S : SW} {M : Mem} {cc : ByteArray} {f lo pc : Nat} {ls : List (Option Value)} {st : List Value} (d : Nat) (hd : d < 2) (C : Cx X S RX8 cc f lo) (h : decode cc pc = .ok (.getfield 60, 3)) (kk : PW X S M (pc + 3) ls (rv S d 1 0 :: st)) : PW X S M pc ls (rv S d 0 0 :: st) := pw_getf (n := 0) C (inT1 119 rfl rfl) iX1 rfl (by decide) rfl (oD_0 hd) rfl h (fun _ => kk)
theorem gf_1_21 {X : PX} {S : SW} {M : Mem} {cc : ByteArray} {f lo pc : Nat} {ls : List (Option Value)} {st : List Value} (d : Nat) (hd : d < 2) (C : Cx X S RX1 cc f lo) (h : decode cc pc = .ok (.getfield 21, 3)) (kk : PW X S M (pc + 3) ls (rv S d 8 0 :: st)) : PW X S M pc ls (rv S d 0 0 :: st) := pw_getf (n := 1) C (inT1 120 rfl rfl) iX1 rfl (by decide) rfl (oD_0 hd) rfl h (fun _ => kk)
theorem gf_8_70 {X : PX} {S : SW} {M : Mem} {cc : ByteArray} {f lo pc : Nat} {ls : List (Option Value)} {st : List Value} (d : Nat) (hd : d < 2) (C : Cx X S RX8 cc f lo) (h : decode cc pc = .ok (.getfield 70, 3)) (kk : PW X S M (pc + 3) ls (rv S d 8 0 :: st)) : PW X S M pc ls (rv S d 0 0 :: st) := pw_getf (n := 1) C (inT1 121 rfl rfl) iX1 rfl (by decide) rfl (oD_0 hd) rfl h (fun _ => kk)
theorem gf_1_25 {X : PX} {S : SW} {M : Mem} {cc : ByteArray} {f lo pc : Nat} {ls : List (Option Value)} {st : List Value} (d : Nat) (hd : d < 2) (C : Cx X S RX1 cc f lo) (h : decode cc pc = .ok (.getfield 25, 3)) (kk : PW X S M (pc + 3) ls (rv S d 13 0 :: st)) : PW X S M pc ls (rv S d 0 0 :: st) := pw_getf (n := 2) C (inT1 122 rfl rfl) iX1 rfl (by decide) rfl (oD_0 hd) rfl h (fun _ => kk)
theorem gf_4_92 {X : PX} {S : SW} {M : Mem} {cc : ByteArray} {f lo pc : Nat} {ls : List (Option Value)} {st : List Value} (d : Nat) (hd : d < 2) (C : Cx X S RX4 cc f lo) (h : decode cc pc = .ok (.getfield 92, 3)) (kk : PW X S M (pc + 3) ls (rv S d 13 0 :: st)) : PW X S M pc ls (rv S d 0 0 :: st) := pw_getf (n := 2) C (inT1 123 rfl rfl) iX1 rfl (by decide) rfl (oD_0 hd) rfl h (fun _ => kk)
theorem gf_8_195 {X : PX} {S : SW} {M : Mem} {cc : ByteArray} {f lo pc : Nat} {ls : List (Option Value)} {st : List Value} (d : Nat) (hd : d < 2) (C : Cx X S RX8 cc f lo) (h : decode cc pc = .ok (.getfield 195, 3)) (kk : PW X S M (pc + 3) ls (rv S d 13 0 :: st)) : PW X S M pc ls (rv S d 0 0 :: st) := pw_getf (n := 2) C (inT1 124 rfl rfl) iX1 rfl (by decide) rfl (oD_0 hd) rfl h (fun _ => kk)
theorem gf_1_29 {X : PX} {S : SW} {M : Mem} {cc : ByteArray} {f lo pc : Nat} {ls : List (Option Value)} {st : List Value} (d : Nat) (hd : d < 2) (C : Cx X S RX1 cc f lo) (h : decode cc pc = .ok (.getfield 29, 3)) (kk : PW X S M (pc + 3) ls (rv S d 14 0 :: st)) : PW X S M pc ls (rv S d 0 0 :: st) := pw_getf (n := 3) C (inT1 125 rfl rfl) iX1 rfl (by decide) rfl (oD_0 hd) rfl h (fun _ => kk)
theorem gf_8_198 {X : PX} {S : SW} {M : Mem} {cc : ByteArray} {f lo pc : Nat} {ls : List (Option Value)} {st : List Value} (d : Nat) (hd : d < 2) (C : Cx X S RX8 cc f lo) (h : decode cc pc = .ok (.getfield 198, 3)) (kk : PW X S M (pc + 3) ls (rv S d 14 0 :: st)) : PW X S M pc ls (rv S d 0 0 :: st) := pw_getf (n := 3) C (inT1 126 rfl rfl) iX1 rfl (by decide) rfl (oD_0 hd) rfl h (fun _ => kk)
theorem gf_1_32 {X : PX} {S : SW} {M : Mem} {cc : ByteArray} {f lo pc : Nat} {ls : List (Option Value)} {st : List Value} (d : Nat) (hd : d < 2) (C : Cx X S RX1 cc f lo) (h : decode cc pc = .ok (.getfield 32, 3)) (kk : PW X S M (pc + 3) ls (rv S d 15 0 :: st)) : PW X S M pc ls (rv S d 0 0 :: st) := pw_getf (n := 4) C (inT1 127 rfl rfl) iX1 rfl (by decide) rfl (oD_0 hd) rfl h (fun _ => kk)
theorem gf_8_201 {X : PX} {S : SW} {M : Mem} {cc : ByteArray} {f lo pc : Nat} {ls : List (Option Value)} {st : List Value} (d : Nat) (hd : d < 2) (C : Cx X S RX8 cc f lo) (h : decode cc pc = .ok (.getfield 201, 3)) (kk : PW X S M (pc + 3) ls (rv S d 15 0 :: st)) : PW X S M pc ls (rv S d 0 0 :: st) := pw_getf (n := 4) C (inT1 128 rfl rfl) iX1 rfl (by decide) rfl (oD_0 hd) rfl h (fun _ => kk)
theorem gf_1_35 {X : PX} {S : SW} {M : Mem} {cc : ByteArray} {f lo pc : Nat} {ls : List (Option Value)} {st : List Value} (d : Nat) (hd : d < 2) (C : Cx X S RX1 cc f lo) (h : decode cc pc = .ok (.getfield 35, 3)) (kk : PW X S M (pc + 3) ls (rv S d 16 0 :: st)) : PW X S M pc ls (rv S d 0 0 :: st) := pw_getf (n := 5) C (inT1 129 rfl rfl) iX1 rfl (by decide) rfl (oD_0 hd) rfl h (fun _ => kk)
theorem gf_8_183 {X : PX} {S : SW} {M : Mem} {cc : ByteArray} {f lo pc : Nat} {ls : List (Option Value)} {st : List Value} (d : Nat) (hd : d < 2) (C : Cx X S RX8 cc f lo) (h : decode cc pc = .ok (.getfield 183, 3)) (kk : PW X S M (pc + 3) ls (rv S d 16 0 :: st)) : PW X S M pc ls (rv S d 0 0 :: st) := pw_getf (n := 5) C (inT1 130 rfl rfl) iX1 rfl (by decide) rfl (oD_0 hd) rfl h (fun _ => kk)
theorem gf_1_38 {X : PX} {S : SW} {M : Mem} {cc : ByteArray} {f lo pc : Nat} {ls : List (Option Value)} {st : List Value} (d : Nat) (hd : d < 2) (C : Cx X S RX1 cc f lo) (h : decode cc pc = .ok (.getfield 38, 3)) (kk : PW X S M (pc + 3) ls (rv S d 17 0 :: st)) : PW X S M pc ls (rv S d 0 0 :: st) := pw_getf (n := 6) C (inT1 131 rfl rfl) iX1 rfl (by decide) rfl (oD_0 hd) rfl h (fun _ => kk)
theorem gf_8_186 {X : PX} {S : SW} {M : Mem} {cc : ByteArray} {f lo pc : Nat} {ls : List (Option Value)} {st : List Value} (d : Nat) (hd : d < 2) (C : Cx X S RX8 cc f lo) (h : decode cc pc = .ok (.getfield 186, 3)) (kk : PW X S M (pc + 3) ls (rv S d 17 0 :: st)) : PW X S M pc ls (rv S d 0 0 :: st) := pw_getf (n := 6) C (inT1 132 rfl rfl) iX1 rfl (by decide) rfl (oD_0 hd) rfl h (fun _ => kk)
theorem gf_1_41 {X : PX} {S : SW} {M : Mem} {cc : ByteArray} {f lo pc : Nat} {ls : List (Option Value)} {st : List Value} (d : Nat) (hd : d < 2) (C : Cx X S RX1 cc f lo) (h : decode cc pc = .ok (.getfield 41, 3)) (kk : PW X S M (pc + 3) ls (rv S d 18 0 :: st)) : PW X S M pc ls (rv S d 0 0 :: st) := pw_getf (n := 7) C (inT1 133 rfl rfl) iX1 rfl (by decide) rfl (oD_0 hd) rfl h (fun _ => kk)
theorem gf_8_189 {X : PX} {S : SW} {M : Mem} {cc : ByteArray} {f lo pc : Nat} {ls : List (Option Value)} {st : List Value} (d : Nat) (hd : d < 2) (C : Cx X S RX8 cc f lo) (h : decode cc pc = .ok (.getfield 189, 3)) (kk : PW X S M (pc + 3) ls (rv S d 18 0 :: st)) : PW X S M pc ls (rv S d 0 0 :: st) := pw_getf (n := 7) C (inT1 134 rfl rfl) iX1 rfl (by decide) rfl (oD_0 hd) rfl h (fun _ => kk)
theorem gf_1_44 {X : PX} {S : SW} {M : Mem} {cc : ByteArray} {f lo pc : Nat} {ls : List (Option Value)} {st : List Value} (d : Nat) (hd : d < 2) (C : Cx X S RX1 cc f lo) (h : decode cc pc = .ok (.getfield 44, 3)) (kk : PW X S M (pc + 3) ls (rv S d 19 0 :: st)) : PW X S M pc ls (rv S d 0 0 :: st) := pw_getf (n := 8) C (inT1 135 rfl rfl) iX1 rfl (by decide) rfl (oD_0 hd) rfl h (fun _ => kk)
theorem gf_8_192 {X : PX} {S : SW} {M : Mem} {cc : ByteArray} {f lo pc : Nat} {ls : List (Option Value)} {st : List Value} (d : Nat) (hd : d < 2) (C : Cx X S RX8 cc f lo) (h : decode cc pc = .ok (.getfield 192, 3)) (kk : PW X S M (pc + 3) ls (rv S d 19 0 :: st)) : PW X S M pc ls (rv S d 0 0 :: st) := pw_getf (n := 8) C (inT1 136 rfl rfl) iX1 rfl (by decide) rfl (oD_0 hd) rfl h (fun _ => kk)
theorem gf_1_64 {X : PX} {S : SW} {M : Mem} {cc : ByteArray} {f lo pc : Nat} {ls : List (Option Value)} {st : List Value} (d : Nat) (hd : d < 2) (C : Cx X S RX1 cc f lo) (h : decode cc pc = .ok (.getfield 64, 3)) (kk : InR (M d 0 0 9) → PW X S M (pc + 3) ls (iv (M d 0 0 9) :: st)) : PW X S M pc ls (rv S d 0 0 :: st) := pw_getf (n := 9) C (inT1 137 rfl rfl) iX1 rfl (by decide) rfl (oD_0 hd) rfl h kk
theorem gv_1_64 {X : PX} {S : SW} {M : Mem} {cc : ByteArray} {f lo pc : Nat} {ls : List (Option Value)} {st : List Value} {V : DM} (d : Nat) (hd : d < 2) (C : Cx X S RX1 cc f lo) (h : decode cc pc = .ok (.getfield 64, 3)) (kk : InR (V 0 0 9) → PW X S (mst M d V) (pc + 3) ls (iv (V 0 0 9) :: st)) : PW X S (mst M d V) pc ls (rv S d 0 0 :: st) := gf_1_64 d hd C h (by rw [mst_s]; exact kk)
theorem pf_1_64 {X : PX} {S : SW} {M : Mem} {cc : ByteArray} {f lo pc : Nat} {ls : List (Option Value)} {st : List Value} (d : Nat) (hd : d < 2) (C : Cx X S RX1 cc f lo) {v : Int} (hv : InR v) (h : decode cc pc = .ok (.putfield 64, 3)) (kk : PW X S (mst M d (vup (M d) 0 0 9 v)) (pc + 3) ls st) : PW X S M pc ls (iv v :: rv S d 0 0 :: st) := pw_putf (n := 9) (q := (0, 0, 0)) C (inT1 137 rfl rfl) iX1 rfl (by decide) rfl tyX1_ok nmX1 rfl (oD_0 hd) rfl rfl rfl rfl hv h kk
theorem pv_1_64 {X : PX} {S : SW} {M : Mem} {cc : ByteArray} {f lo pc : Nat} {ls : List (Option Value)} {st : List Value} {V : DM} (d : Nat) (hd : d < 2) (C : Cx X S RX1 cc f lo) {v : Int} (hv : InR v) (h : decode cc pc = .ok (.putfield 64, 3)) (kk : PW X S (mst M d (vup V 0 0 9 v)) (pc + 3) ls st) : PW X S (mst M d V) pc ls (iv v :: rv S d 0 0 :: st) := pf_1_64 d hd C hv h (by rw [mst_m, mst_s]; exact kk)
theorem gf_8_170 {X : PX} {S : SW} {M : Mem} {cc : ByteArray} {f lo pc : Nat} {ls : List (Option Value)} {st : List Value} (d : Nat) (hd : d < 2) (C : Cx X S RX8 cc f lo) (h : decode cc pc = .ok (.getfield 170, 3)) (kk : InR (M d 0 0 9) → PW X S M (pc + 3) ls (iv (M d 0 0 9) :: st)) : PW X S M pc ls (rv S d 0 0 :: st) := pw_getf (n := 9) C (inT1 138 rfl rfl) iX1 rfl (by decide) rfl (oD_0 hd) rfl h kk
theorem gv_8_170 {X : PX} {S : SW} {M : Mem} {cc : ByteArray} {f lo pc : Nat} {ls : List (Option Value)} {st : List Value} {V : DM} (d : Nat) (hd : d < 2) (C : Cx X S RX8 cc f lo) (h : decode cc pc = .ok (.getfield 170, 3)) (kk : InR (V 0 0 9) → PW X S (mst M d V) (pc + 3) ls (iv (V 0 0 9) :: st)) : PW X S (mst M d V) pc ls (rv S d 0 0 :: st) := gf_8_170 d hd C h (by rw [mst_s]; exact kk)
theorem gf_1_58 {X : PX} {S : SW} {M : Mem} {cc : ByteArray} {f lo pc : Nat} {ls : List (Option Value)} {st : List Value} (d : Nat) (hd : d < 2) (C : Cx X S RX1 cc f lo) (h : decode cc pc = .ok (.getfield 58, 3)) (kk : InR (M d 0 0 10) → PW X S M (pc + 3) ls (iv (M d 0 0 10) :: st)) : PW X S M pc ls (rv S d 0 0 :: st) := pw_getf (n := 10) C (inT1 139 rfl rfl) iX1 rfl (by decide) rfl (oD_0 hd) rfl h kk
theorem gv_1_58 {X : PX} {S : SW} {M : Mem} {cc : ByteArray} {f lo pc : Nat} {ls : List (Option Value)} {st : List Value} {V : DM} (d : Nat) (hd : d < 2) (C : Cx X S RX1 cc f lo) (h : decode cc pc = .ok (.getfield 58, 3)) (kk : InR (V 0 0 10) → PW X S (mst M d V) (pc + 3) ls (iv (V 0 0 10) :: st)) : PW X S (mst M d V) pc ls (rv S d 0 0 :: st) := gf_1_58 d hd C h (by rw [mst_s]; exact kk)
theorem pf_1_58 {X : PX} {S : SW} {M : Mem} {cc : ByteArray} {f lo pc : Nat} {ls : List (Option Value)} {st : List Value} (d : Nat) (hd : d < 2) (C : Cx X S RX1 cc f lo) {v : Int} (hv : InR v) (h : decode cc pc = .ok (.putfield 58, 3)) (kk : PW X S (mst M d (vup (M d) 0 0 10 v)) (pc + 3) ls st) : PW X S M pc ls (iv v :: rv S d 0 0 :: st) := pw_putf (n := 10) (q := (0, 0, 0)) C (inT1 139 rfl rfl) iX1 rfl (by decide) rfl tyX1_ok nmX1 rfl (oD_0 hd) rfl rfl rfl rfl hv h kk
theorem pv_1_58 {X : PX} {S : SW} {M : Mem} {cc : ByteArray} {f lo pc : Nat} {ls : List (Option Value)} {st : List Value} {V : DM} (d : Nat) (hd : d < 2) (C : Cx X S RX1 cc f lo) {v : Int} (hv : InR v) (h : decode cc pc = .ok (.putfield 58, 3)) (kk : PW X S (mst M d (vup V 0 0 10 v)) (pc + 3) ls st) : PW X S (mst M d V) pc ls (iv v :: rv S d 0 0 :: st) := pf_1_58 d hd C hv h (by rw [mst_m, mst_s]; exact kk)
theorem gf_1_47 {X : PX} {S : SW} {M : Mem} {cc : ByteArray} {f lo pc : Nat} {ls : List (Option Value)} {st : List Value} (d : Nat) (hd : d < 2) (C : Cx X S RX1 cc f lo) (h : decode cc pc = .ok (.getfield 47, 3)) (kk : InR (M d 0 0 11) → PW X S M (pc + 3) ls (iv (M d 0 0 11) :: st)) : PW X S M pc ls (rv S d 0 0 :: st) := pw_getf (n := 11) C (inT1 140 rfl rfl) iX1 rfl (by decide) rfl (oD_0 hd) rfl h kk
theorem gv_1_47 {X : PX} {S : SW} {M : Mem} {cc : ByteArray} {f lo pc : Nat} {ls : List (Option Value)} {st : List Value} {V : DM} (d : Nat) (hd : d < 2) (C : Cx X S RX1 cc f lo) (h : decode cc pc = .ok (.getfield 47, 3)) (kk : InR (V 0 0 11) → PW X S (mst M d V) (pc + 3) ls (iv (V 0 0 11) :: st)) : PW X S (mst M d V) pc ls (rv S d 0 0 :: st) := gf_1_47 d hd C h (by rw [mst_s]; exact kk)
theorem pf_1_47 {X : PX} {S : SW} {M : Mem} {cc : ByteArray} {f lo pc : Nat} {ls : List (Option Value)} {st : List Value} (d : Nat) (hd : d < 2) (C : Cx X S RX1 cc f lo) {v : Int} (hv : InR v) (h : decode cc pc = .ok (.putfield 47, 3)) (kk : PW X S (mst M d (vup (M d) 0 0 11 v)) (pc + 3) ls st) : PW X S M pc ls (iv v :: rv S d 0 0 :: st) := pw_putf (n := 11) (q := (0, 0, 0)) C (inT1 140 rfl rfl) iX1 rfl (by decide) rfl tyX1_ok nmX1 rfl (oD_0 hd) rfl rfl rfl rfl hv h kk
theorem pv_1_47 {X : PX} {S : SW} {M : Mem} {cc : ByteArray} {f lo pc : Nat} {ls : List (Option Value)} {st : List Value} {V : DM} (d : Nat) (hd : d < 2) (C : Cx X S RX1 cc f lo) {v : Int} (hv : InR v) (h : decode cc pc = .ok (.putfield 47, 3)) (kk : PW X S (mst M d (vup V 0 0 11 v)) (pc + 3) ls st) : PW X S (mst M d V) pc ls (iv v :: rv S d 0 0 :: st) := pf_1_47 d hd C hv h (by rw [mst_m, mst_s]; exact kk)
theorem gf_1_61 {X : PX} {S : SW} {M : Mem} {cc : ByteArray} {f lo pc : Nat} {ls : List (Option Value)} {st : List Value} (d : Nat) (hd : d < 2) (C : Cx X S RX1 cc f lo) (h : decode cc pc = .ok (.getfield 61, 3)) (kk : InR (M d 0 0 12) → PW X S M (pc + 3) ls (iv (M d 0 0 12) :: st)) : PW X S M pc ls (rv S d 0 0 :: st) := pw_getf (n := 12) C (inT1 141 rfl rfl) iX1 rfl (by decide) rfl (oD_0 hd) rfl h kk
theorem gv_1_61 {X : PX} {S : SW} {M : Mem} {cc : ByteArray} {f lo pc : Nat} {ls : List (Option Value)} {st : List Value} {V : DM} (d : Nat) (hd : d < 2) (C : Cx X S RX1 cc f lo) (h : decode cc pc = .ok (.getfield 61, 3)) (kk : InR (V 0 0 12) → PW X S (mst M d V) (pc + 3) ls (iv (V 0 0 12) :: st)) : PW X S (mst M d V) pc ls (rv S d 0 0 :: st) := gf_1_61 d hd C h (by rw [mst_s]; exact kk)
theorem pf_1_61 {X : PX} {S : SW} {M : Mem} {cc : ByteArray} {f lo pc : Nat} {ls : List (Option Value)} {st : List Value} (d : Nat) (hd : d < 2) (C : Cx X S RX1 cc f lo) {v : Int} (hv : InR v) (h : decode cc pc = .ok (.putfield 61, 3)) (kk : PW X S (mst M d (vup (M d) 0 0 12 v)) (pc + 3) ls st) : PW X S M pc ls (iv v :: rv S d 0 0 :: st) := pw_putf (n := 12) (q := (0, 0, 0)) C (inT1 141 rfl rfl) iX1 rfl (by decide) rfl tyX1_ok nmX1 rfl (oD_0 hd) rfl rfl rfl rfl hv h kk
theorem pv_1_61 {X : PX} {S : SW} {M : Mem} {cc : ByteArray} {f lo pc : Nat} {ls : List (Option Value)} {st : List Value} {V : DM} (d : Nat) (hd : d < 2) (C : Cx X S RX1 cc f lo) {v : Int} (hv : InR v) (h : decode cc pc = .ok (.putfield 61, 3)) (kk : PW X S (mst M d (vup V 0 0 12 v)) (pc + 3) ls st) : PW X S (mst M d V) pc ls (iv v :: rv S d 0 0 :: st) := pf_1_61 d hd C hv h (by rw [mst_m, mst_s]; exact kk)
theorem gf_4_12 {X : PX} {S : SW} {M : Mem} {cc : ByteArray} {f lo pc : Nat} {ls : List (Option Value)} {st : List Value} (C : Cx X S RX4 cc f lo) (h : decode cc pc = .ok (.getfield 12, 3)) (kk : PW X S M (pc + 3) ls (rv S 1 0 0 :: st)) : PW X S M pc ls (rv S 2 1 0 :: st) := pw_getf (n := 0) C (inT1 177 rfl rfl) iX4 rfl (by decide) rfl (oC_1) rfl h (fun _ => kk)
theorem gf_4_18 {X : PX} {S : SW} {M : Mem} {cc : ByteArray} {f lo pc : Nat} {ls : List (Option Value)} {st : List Value} (C : Cx X S RX4 cc f lo) (h : decode cc pc = .ok (.getfield 18, 3)) (kk : PW X S M (pc + 3) ls (rv S 2 2 0 :: st)) : PW X S M pc ls (rv S 2 1 0 :: st) := pw_getf (n := 1) C (inT1 178 rfl rfl) iX4 rfl (by decide) rfl (oC_1) rfl h (fun _ => kk)
theorem gf_8_222 {X : PX} {S : SW} {M : Mem} {cc : ByteArray} {f lo pc : Nat} {ls : List (Option Value)} {st : List Value} (C : Cx X S RX8 cc f lo) (h : decode cc pc = .ok (.getfield 222, 3)) (kk : PW X S M (pc + 3) ls (rv S 2 2 0 :: st)) : PW X S M pc ls (rv S 2 1 0 :: st) := pw_getf (n := 1) C (inT1 179 rfl rfl) iX4 rfl (by decide) rfl (oC_1) rfl h (fun _ => kk)
theorem gf_4_22 {X : PX} {S : SW} {M : Mem} {cc : ByteArray} {f lo pc : Nat} {ls : List (Option Value)} {st : List Value} (C : Cx X S RX4 cc f lo) (h : decode cc pc = .ok (.getfield 22, 3)) (kk : PW X S M (pc + 3) ls (rv S 2 3 0 :: st)) : PW X S M pc ls (rv S 2 1 0 :: st) := pw_getf (n := 2) C (inT1 180 rfl rfl) iX4 rfl (by decide) rfl (oC_1) rfl h (fun _ => kk)
theorem gf_4_26 {X : PX} {S : SW} {M : Mem} {cc : ByteArray} {f lo pc : Nat} {ls : List (Option Value)} {st : List Value} (C : Cx X S RX4 cc f lo) (h : decode cc pc = .ok (.getfield 26, 3)) (kk : PW X S M (pc + 3) ls (rv S 2 4 0 :: st)) : PW X S M pc ls (rv S 2 1 0 :: st) := pw_getf (n := 3) C (inT1 181 rfl rfl) iX4 rfl (by decide) rfl (oC_1) rfl h (fun _ => kk)
theorem gf_4_56 {X : PX} {S : SW} {M : Mem} {cc : ByteArray} {f lo pc : Nat} {ls : List (Option Value)} {st : List Value} (C : Cx X S RX4 cc f lo) (h : decode cc pc = .ok (.getfield 56, 3)) (kk : InR (M 2 1 0 4) → PW X S M (pc + 3) ls (iv (M 2 1 0 4) :: st)) : PW X S M pc ls (rv S 2 1 0 :: st) := pw_getf (n := 4) C (inT1 182 rfl rfl) iX4 rfl (by decide) rfl (oC_1) rfl h kk
theorem gv_4_56 {X : PX} {S : SW} {M : Mem} {cc : ByteArray} {f lo pc : Nat} {ls : List (Option Value)} {st : List Value} {V : DM} (C : Cx X S RX4 cc f lo) (h : decode cc pc = .ok (.getfield 56, 3)) (kk : InR (V 1 0 4) → PW X S (mst M 2 V) (pc + 3) ls (iv (V 1 0 4) :: st)) : PW X S (mst M 2 V) pc ls (rv S 2 1 0 :: st) := gf_4_56 C h (by rw [mst_s]; exact kk)
theorem pf_4_56 {X : PX} {S : SW} {M : Mem} {cc : ByteArray} {f lo pc : Nat} {ls : List (Option Value)} {st : List Value} (C : Cx X S RX4 cc f lo) {v : Int} (hv : InR v) (h : decode cc pc = .ok (.putfield 56, 3)) (kk : PW X S (mst M 2 (vup (M 2) 1 0 4 v)) (pc + 3) ls st) : PW X S M pc ls (iv v :: rv S 2 1 0 :: st) := pw_putf (n := 4) (q := (0, 0, 0)) C (inT1 182 rfl rfl) iX4 rfl (by decide) rfl tyX4_ok nmX4 rfl (oC_1) rfl rfl rfl rfl hv h kk
theorem pv_4_56 {X : PX} {S : SW} {M : Mem} {cc : ByteArray} {f lo pc : Nat} {ls : List (Option Value)} {st : List Value} {V : DM} (C : Cx X S RX4 cc f lo) {v : Int} (hv : InR v) (h : decode cc pc = .ok (.putfield 56, 3)) (kk : PW X S (mst M 2 (vup V 1 0 4 v)) (pc + 3) ls st) : PW X S (mst M 2 V) pc ls (iv v :: rv S 2 1 0 :: st) := pf_4_56 C hv h (by rw [mst_m, mst_s]; exact kk)
theorem gf_8_211 {X : PX} {S : SW} {M : Mem} {cc : ByteArray} {f lo pc : Nat} {ls : List (Option Value)} {st : List Value} (C : Cx X S RX8 cc f lo) (h : decode cc pc = .ok (.getfield 211, 3)) (kk : InR (M 2 1 0 4) → PW X S M (pc + 3) ls (iv (M 2 1 0 4) :: st)) : PW X S M pc ls (rv S 2 1 0 :: st) := pw_getf (n := 4) C (inT1 183 rfl rfl) iX4 rfl (by decide) rfl (oC_1) rfl h kk
theorem gv_8_211 {X : PX} {S : SW} {M : Mem} {cc : ByteArray} {f lo pc : Nat} {ls : List (Option Value)} {st : List Value} {V : DM} (C : Cx X S RX8 cc f lo) (h : decode cc pc = .ok (.getfield 211, 3)) (kk : InR (V 1 0 4) → PW X S (mst M 2 V) (pc + 3) ls (iv (V 1 0 4) :: st)) : PW X S (mst M 2 V) pc ls (rv S 2 1 0 :: st) := gf_8_211 C h (by rw [mst_s]; exact kk)
theorem pf_4_66 {X : PX} {S : SW} {M : Mem} {cc : ByteArray} {f lo pc : Nat} {ls : List (Option Value)} {st : List Value} (C : Cx X S RX4 cc f lo) {v : Int} (hv : InR v) (h : decode cc pc = .ok (.putfield 66, 3)) (kk : PW X S (mst M 2 (vup (M 2) 1 0 5 v)) (pc + 3) ls st) : PW X S M pc ls (iv v :: rv S 2 1 0 :: st) := pw_putf (n := 5) (q := (0, 0, 0)) C (inT1 184 rfl rfl) iX4 rfl (by decide) rfl tyX4_ok nmX4 rfl (oC_1) rfl rfl rfl rfl hv h kk
theorem pv_4_66 {X : PX} {S : SW} {M : Mem} {cc : ByteArray} {f lo pc : Nat} {ls : List (Option Value)} {st : List Value} {V : DM} (C : Cx X S RX4 cc f lo) {v : Int} (hv : InR v) (h : decode cc pc = .ok (.putfield 66, 3)) (kk : PW X S (mst M 2 (vup V 1 0 5 v)) (pc + 3) ls st) : PW X S (mst M 2 V) pc ls (iv v :: rv S 2 1 0 :: st) := pf_4_66 C hv h (by rw [mst_m, mst_s]; exact kk)
theorem gf_8_217 {X : PX} {S : SW} {M : Mem} {cc : ByteArray} {f lo pc : Nat} {ls : List (Option Value)} {st : List Value} (C : Cx X S RX8 cc f lo) (h : decode cc pc = .ok (.getfield 217, 3)) (kk : InR (M 2 1 0 5) → PW X S M (pc + 3) ls (iv (M 2 1 0 5) :: st)) : PW X S M pc ls (rv S 2 1 0 :: st) := pw_getf (n := 5) C (inT1 185 rfl rfl) iX4 rfl (by decide) rfl (oC_1) rfl h kk
theorem gv_8_217 {X : PX} {S : SW} {M : Mem} {cc : ByteArray} {f lo pc : Nat} {ls : List (Option Value)} {st : List Value} {V : DM} (C : Cx X S RX8 cc f lo) (h : decode cc pc = .ok (.getfield 217, 3)) (kk : InR (V 1 0 5) → PW X S (mst M 2 V) (pc + 3) ls (iv (V 1 0 5) :: st)) : PW X S (mst M 2 V) pc ls (rv S 2 1 0 :: st) := gf_8_217 C h (by rw [mst_s]; exact kk)
theorem pf_4_63 {X : PX} {S : SW} {M : Mem} {cc : ByteArray} {f lo pc : Nat} {ls : List (Option Value)} {st : List Value} (C : Cx X S RX4 cc f lo) {v : Int} (hv : InR v) (h : decode cc pc = .ok (.putfield 63, 3)) (kk : PW X S (mst M 2 (vup (M 2) 1 0 6 v)) (pc + 3) ls st) : PW X S M pc ls (iv v :: rv S 2 1 0 :: st) := pw_putf (n := 6) (q := (0, 0, 0)) C (inT1 186 rfl rfl) iX4 rfl (by decide) rfl tyX4_ok nmX4 rfl (oC_1) rfl rfl rfl rfl hv h kk
theorem pv_4_63 {X : PX} {S : SW} {M : Mem} {cc : ByteArray} {f lo pc : Nat} {ls : List (Option Value)} {st : List Value} {V : DM} (C : Cx X S RX4 cc f lo) {v : Int} (hv : InR v) (h : decode cc pc = .ok (.putfield 63, 3)) (kk : PW X S (mst M 2 (vup V 1 0 6 v)) (pc + 3) ls st) : PW X S (mst M 2 V) pc ls (iv v :: rv S 2 1 0 :: st) := pf_4_63 C hv h (by rw [mst_m, mst_s]; exact kk)
theorem gf_8_208 {X : PX} {S : SW} {M : Mem} {cc : ByteArray} {f lo pc : Nat} {ls : List (Option Value)} {st : List Value} (C : Cx X S RX8 cc f lo) (h : decode cc pc = .ok (.getfield 208, 3)) (kk : InR (M 2 1 0 6) → PW X S M (pc + 3) ls (iv (M 2 1 0 6) :: st)) : PW X S M pc ls (rv S 2 1 0 :: st) := pw_getf (n := 6) C (inT1 187 rfl rfl) iX4 rfl (by decide) rfl (oC_1) rfl h kk
theorem gv_8_208 {X : PX} {S : SW} {M : Mem} {cc : ByteArray} {f lo pc : Nat} {ls : List (Option Value)} {st : List Value} {V : DM} (C : Cx X S RX8 cc f lo) (h : decode cc pc = .ok (.getfield 208, 3)) (kk : InR (V 1 0 6) → PW X S (mst M 2 V) (pc + 3) ls (iv (V 1 0 6) :: st)) : PW X S (mst M 2 V) pc ls (rv S 2 1 0 :: st) := gf_8_208 C h (by rw [mst_s]; exact kk)
theorem gf_5_11 {X : PX} {S : SW} {M : Mem} {cc : ByteArray} {f lo pc : Nat} {ls : List (Option Value)} {st : List Value} (C : Cx X S RX5 cc f lo) (h : decode cc pc = .ok (.getfield 11, 3)) (kk : PW X S M (pc + 3) ls (rv S 2 6 0 :: st)) : PW X S M pc ls (rv S 2 5 0 :: st) := pw_getf (n := 0) C (inT1 211 rfl rfl) iX5 rfl (by decide) rfl (oC_5) rfl h (fun _ => kk)
theorem gf_8_50 {X : PX} {S : SW} {M : Mem} {cc : ByteArray} {f lo pc : Nat} {ls : List (Option Value)} {st : List Value} (C : Cx X S RX8 cc f lo) (h : decode cc pc = .ok (.getfield 50, 3)) (kk : PW X S M (pc + 3) ls (rv S 2 6 0 :: st)) : PW X S M pc ls (rv S 2 5 0 :: st) := pw_getf (n := 0) C (inT1 212 rfl rfl) iX5 rfl (by decide) rfl (oC_5) rfl h (fun _ => kk)
theorem gf_5_14 {X : PX} {S : SW} {M : Mem} {cc : ByteArray} {f lo pc : Nat} {ls : List (Option Value)} {st : List Value} (C : Cx X S RX5 cc f lo) (h : decode cc pc = .ok (.getfield 14, 3)) (kk : PW X S M (pc + 3) ls (rv S 2 8 0 :: st)) : PW X S M pc ls (rv S 2 5 0 :: st) := pw_getf (n := 1) C (inT1 213 rfl rfl) iX5 rfl (by decide) rfl (oC_5) rfl h (fun _ => kk)
theorem gf_8_299 {X : PX} {S : SW} {M : Mem} {cc : ByteArray} {f lo pc : Nat} {ls : List (Option Value)} {st : List Value} (C : Cx X S RX8 cc f lo) (h : decode cc pc = .ok (.getfield 299, 3)) (kk : PW X S M (pc + 3) ls (rv S 2 8 0 :: st)) : PW X S M pc ls (rv S 2 5 0 :: st) := pw_getf (n := 1) C (inT1 214 rfl rfl) iX5 rfl (by decide) rfl (oC_5) rfl h (fun _ => kk)
theorem gf_5_18 {X : PX} {S : SW} {M : Mem} {cc : ByteArray} {f lo pc : Nat} {ls : List (Option Value)} {st : List Value} (C : Cx X S RX5 cc f lo) (h : decode cc pc = .ok (.getfield 18, 3)) (kk : PW X S M (pc + 3) ls (rv S 2 9 0 :: st)) : PW X S M pc ls (rv S 2 5 0 :: st) := pw_getf (n := 2) C (inT1 215 rfl rfl) iX5 rfl (by decide) rfl (oC_5) rfl h (fun _ => kk)
theorem gf_8_293 {X : PX} {S : SW} {M : Mem} {cc : ByteArray} {f lo pc : Nat} {ls : List (Option Value)} {st : List Value} (C : Cx X S RX8 cc f lo) (h : decode cc pc = .ok (.getfield 293, 3)) (kk : PW X S M (pc + 3) ls (rv S 2 9 0 :: st)) : PW X S M pc ls (rv S 2 5 0 :: st) := pw_getf (n := 2) C (inT1 216 rfl rfl) iX5 rfl (by decide) rfl (oC_5) rfl h (fun _ => kk)
theorem gf_3_9 {X : PX} {S : SW} {M : Mem} {cc : ByteArray} {f lo pc : Nat} {ls : List (Option Value)} {st : List Value} (C : Cx X S RX3 cc f lo) (h : decode cc pc = .ok (.getfield 9, 3)) (kk : PW X S M (pc + 3) ls (rv S 2 11 0 :: st)) : PW X S M pc ls (rv S 2 10 0 :: st) := pw_getf (n := 0) C (inT1 230 rfl rfl) iX3 rfl (by decide) rfl (oC_10) rfl h (fun _ => kk)
theorem gf_3_23 {X : PX} {S : SW} {M : Mem} {cc : ByteArray} {f lo pc : Nat} {ls : List (Option Value)} {st : List Value} (C : Cx X S RX3 cc f lo) (h : decode cc pc = .ok (.getfield 23, 3)) (kk : InR (M 2 10 0 1) → PW X S M (pc + 3) ls (iv (M 2 10 0 1) :: st)) : PW X S M pc ls (rv S 2 10 0 :: st) := pw_getf (n := 1) C (inT1 231 rfl rfl) iX3 rfl (by decide) rfl (oC_10) rfl h kk
theorem gv_3_23 {X : PX} {S : SW} {M : Mem} {cc : ByteArray} {f lo pc : Nat} {ls : List (Option Value)} {st : List Value} {V : DM} (C : Cx X S RX3 cc f lo) (h : decode cc pc = .ok (.getfield 23, 3)) (kk : InR (V 10 0 1) → PW X S (mst M 2 V) (pc + 3) ls (iv (V 10 0 1) :: st)) : PW X S (mst M 2 V) pc ls (rv S 2 10 0 :: st) := gf_3_23 C h (by rw [mst_s]; exact kk)
theorem pf_3_23 {X : PX} {S : SW} {M : Mem} {cc : ByteArray} {f lo pc : Nat} {ls : List (Option Value)} {st : List Value} (C : Cx X S RX3 cc f lo) {v : Int} (hv : InR v) (h : decode cc pc = .ok (.putfield 23, 3)) (kk : PW X S (mst M 2 (vup (M 2) 10 0 1 v)) (pc + 3) ls st) : PW X S M pc ls (iv v :: rv S 2 10 0 :: st) := pw_putf (n := 1) (q := (0, 0, 0)) C (inT1 231 rfl rfl) iX3 rfl (by decide) rfl tyX3_ok nmX3 rfl (oC_10) rfl rfl rfl rfl hv h kk
theorem pv_3_23 {X : PX} {S : SW} {M : Mem} {cc : ByteArray} {f lo pc : Nat} {ls : List (Option Value)} {st : List Value} {V : DM} (C : Cx X S RX3 cc f lo) {v : Int} (hv : InR v) (h : decode cc pc = .ok (.putfield 23, 3)) (kk : PW X S (mst M 2 (vup V 10 0 1 v)) (pc + 3) ls st) : PW X S (mst M 2 V) pc ls (iv v :: rv S 2 10 0 :: st) := pf_3_23 C hv h (by rw [mst_m, mst_s]; exact kk)
theorem gf_3_27 {X : PX} {S : SW} {M : Mem} {cc : ByteArray} {f lo pc : Nat} {ls : List (Option Value)} {st : List Value} (C : Cx X S RX3 cc f lo) (h : decode cc pc = .ok (.getfield 27, 3)) (kk : InR (M 2 10 0 2) → PW X S M (pc + 3) ls (iv (M 2 10 0 2) :: st)) : PW X S M pc ls (rv S 2 10 0 :: st) := pw_getf (n := 2) C (inT1 232 rfl rfl) iX3 rfl (by decide) rfl (oC_10) rfl h kk
theorem gv_3_27 {X : PX} {S : SW} {M : Mem} {cc : ByteArray} {f lo pc : Nat} {ls : List (Option Value)} {st : List Value} {V : DM} (C : Cx X S RX3 cc f lo) (h : decode cc pc = .ok (.getfield 27, 3)) (kk : InR (V 10 0 2) → PW X S (mst M 2 V) (pc + 3) ls (iv (V 10 0 2) :: st)) : PW X S (mst M 2 V) pc ls (rv S 2 10 0 :: st) := gf_3_27 C h (by rw [mst_s]; exact kk)
theorem pf_3_27 {X : PX} {S : SW} {M : Mem} {cc : ByteArray} {f lo pc : Nat} {ls : List (Option Value)} {st : List Value} (C : Cx X S RX3 cc f lo) {v : Int} (hv : InR v) (h : decode cc pc = .ok (.putfield 27, 3)) (kk : PW X S (mst M 2 (vup (M 2) 10 0 2 v)) (pc + 3) ls st) : PW X S M pc ls (iv v :: rv S 2 10 0 :: st) := pw_putf (n := 2) (q := (0, 0, 0)) C (inT1 232 rfl rfl) iX3 rfl (by decide) rfl tyX3_ok nmX3 rfl (oC_10) rfl rfl rfl rfl hv h kk
theorem pv_3_27 {X : PX} {S : SW} {M : Mem} {cc : ByteArray} {f lo pc : Nat} {ls : List (Option Value)} {st : List Value} {V : DM} (C : Cx X S RX3 cc f lo) {v : Int} (hv : InR v) (h : decode cc pc = .ok (.putfield 27, 3)) (kk : PW X S (mst M 2 (vup V 10 0 2 v)) (pc + 3) ls st) : PW X S (mst M 2 V) pc ls (iv v :: rv S 2 10 0 :: st) := pf_3_27 C hv h (by rw [mst_m, mst_s]; exact kk)
theorem gf_8_245 {X : PX} {S : SW} {M : Mem} {cc : ByteArray} {f lo pc : Nat} {ls : List (Option Value)} {st : List Value} (C : Cx X S RX8 cc f lo) (h : decode cc pc = .ok (.getfield 245, 3)) (kk : InR (M 2 10 0 2) → PW X S M (pc + 3) ls (iv (M 2 10 0 2) :: st)) : PW X S M pc ls (rv S 2 10 0 :: st) := pw_getf (n := 2) C (inT1 233 rfl rfl) iX3 rfl (by decide) rfl (oC_10) rfl h kk
theorem gv_8_245 {X : PX} {S : SW} {M : Mem} {cc : ByteArray} {f lo pc : Nat} {ls : List (Option Value)} {st : List Value} {V : DM} (C : Cx X S RX8 cc f lo) (h : decode cc pc = .ok (.getfield 245, 3)) (kk : InR (V 10 0 2) → PW X S (mst M 2 V) (pc + 3) ls (iv (V 10 0 2) :: st)) : PW X S (mst M 2 V) pc ls (rv S 2 10 0 :: st) := gf_8_245 C h (by rw [mst_s]; exact kk)
theorem gf_2_9 {X : PX} {S : SW} {M : Mem} {cc : ByteArray} {f lo pc : Nat} {ls : List (Option Value)} {st : List Value} (C : Cx X S RX2 cc f lo) (h : decode cc pc = .ok (.getfield 9, 3)) (kk : PW X S M (pc + 3) ls (rv S 2 13 0 :: st)) : PW X S M pc ls (rv S 2 12 0 :: st) := pw_getf (n := 0) C (inT2 7 rfl rfl) iX2 rfl (by decide) rfl (oC_12) rfl h (fun _ => kk)
theorem gf_2_13 {X : PX} {S : SW} {M : Mem} {cc : ByteArray} {f lo pc : Nat} {ls : List (Option Value)} {st : List Value} (C : Cx X S RX2 cc f lo) (h : decode cc pc = .ok (.getfield 13, 3)) (kk : PW X S M (pc + 3) ls (rv S 2 14 0 :: st)) : PW X S M pc ls (rv S 2 12 0 :: st) := pw_getf (n := 1) C (inT2 8 rfl rfl) iX2 rfl (by decide) rfl (oC_12) rfl h (fun _ => kk)
theorem gf_8_12 {X : PX} {S : SW} {M : Mem} {cc : ByteArray} {f lo pc : Nat} {ls : List (Option Value)} {st : List Value} (C : Cx X S RX8 cc f lo) (h : decode cc pc = .ok (.getfield 12, 3)) (kk : PW X S M (pc + 3) ls (rv S 0 0 0 :: st)) : PW X S M pc ls (rv S 2 0 0 :: st) := pw_getf (n := 0) C (inT2 14 rfl rfl) iX8 rfl (by decide) rfl (oC_0) rfl h (fun _ => kk)
theorem gf_8_21 {X : PX} {S : SW} {M : Mem} {cc : ByteArray} {f lo pc : Nat} {ls : List (Option Value)} {st : List Value} (C : Cx X S RX8 cc f lo) (h : decode cc pc = .ok (.getfield 21, 3)) (kk : PW X S M (pc + 3) ls (rv S 2 1 0 :: st)) : PW X S M pc ls (rv S 2 0 0 :: st) := pw_getf (n := 1) C (inT2 15 rfl rfl) iX8 rfl (by decide) rfl (oC_0) rfl h (fun _ => kk)
theorem gf_8_28 {X : PX} {S : SW} {M : Mem} {cc : ByteArray} {f lo pc : Nat} {ls : List (Option Value)} {st : List Value} (C : Cx X S RX8 cc f lo) (h : decode cc pc = .ok (.getfield 28, 3)) (kk : PW X S M (pc + 3) ls (rv S 2 5 0 :: st)) : PW X S M pc ls (rv S 2 0 0 :: st) := pw_getf (n := 2) C (inT2 16 rfl rfl) iX8 rfl (by decide) rfl (oC_0) rfl h (fun _ => kk)
theorem gf_8_35 {X : PX} {S : SW} {M : Mem} {cc : ByteArray} {f lo pc : Nat} {ls : List (Option Value)} {st : List Value} (C : Cx X S RX8 cc f lo) (h : decode cc pc = .ok (.getfield 35, 3)) (kk : PW X S M (pc + 3) ls (rv S 2 10 0 :: st)) : PW X S M pc ls (rv S 2 0 0 :: st) := pw_getf (n := 3) C (inT2 17 rfl rfl) iX8 rfl (by decide) rfl (oC_0) rfl h (fun _ => kk)
theorem gf_8_42 {X : PX} {S : SW} {M : Mem} {cc : ByteArray} {f lo pc : Nat} {ls : List (Option Value)} {st : List Value} (C : Cx X S RX8 cc f lo) (h : decode cc pc = .ok (.getfield 42, 3)) (kk : PW X S M (pc + 3) ls (rv S 2 12 0 :: st)) : PW X S M pc ls (rv S 2 0 0 :: st) := pw_getf (n := 4) C (inT2 18 rfl rfl) iX8 rfl (by decide) rfl (oC_0) rfl h (fun _ => kk)
theorem gf_8_318 {X : PX} {S : SW} {M : Mem} {cc : ByteArray} {f lo pc : Nat} {ls : List (Option Value)} {st : List Value} (C : Cx X S RX8 cc f lo) (h : decode cc pc = .ok (.getfield 318, 3)) (kk : InR (M 2 0 0 5) → PW X S M (pc + 3) ls (iv (M 2 0 0 5) :: st)) : PW X S M pc ls (rv S 2 0 0 :: st) := pw_getf (n := 5) C (inT2 19 rfl rfl) iX8 rfl (by decide) rfl (oC_0) rfl h kk
theorem gv_8_318 {X : PX} {S : SW} {M : Mem} {cc : ByteArray} {f lo pc : Nat} {ls : List (Option Value)} {st : List Value} {V : DM} (C : Cx X S RX8 cc f lo) (h : decode cc pc = .ok (.getfield 318, 3)) (kk : InR (V 0 0 5) → PW X S (mst M 2 V) (pc + 3) ls (iv (V 0 0 5) :: st)) : PW X S (mst M 2 V) pc ls (rv S 2 0 0 :: st) := gf_8_318 C h (by rw [mst_s]; exact kk)
theorem pf_8_318 {X : PX} {S : SW} {M : Mem} {cc : ByteArray} {f lo pc : Nat} {ls : List (Option Value)} {st : List Value} (C : Cx X S RX8 cc f lo) {v : Int} (hv : InR v) (h : decode cc pc = .ok (.putfield 318, 3)) (kk : PW X S (mst M 2 (vup (M 2) 0 0 5 v)) (pc + 3) ls st) : PW X S M pc ls (iv v :: rv S 2 0 0 :: st) := pw_putf (n := 5) (q := (0, 0, 0)) C (inT2 19 rfl rfl) iX8 rfl (by decide) rfl tyX8_ok nmX8 rfl (oC_0) rfl rfl rfl rfl hv h kk
theorem pv_8_318 {X : PX} {S : SW} {M : Mem} {cc : ByteArray} {f lo pc : Nat} {ls : List (Option Value)} {st : List Value} {V : DM} (C : Cx X S RX8 cc f lo) {v : Int} (hv : InR v) (h : decode cc pc = .ok (.putfield 318, 3)) (kk : PW X S (mst M 2 (vup V 0 0 5 v)) (pc + 3) ls st) : PW X S (mst M 2 V) pc ls (iv v :: rv S 2 0 0 :: st) := pf_8_318 C hv h (by rw [mst_m, mst_s]; exact kk)
theorem gf_8_115 {X : PX} {S : SW} {M : Mem} {cc : ByteArray} {f lo pc : Nat} {ls : List (Option Value)} {st : List Value} (C : Cx X S RX8 cc f lo) (h : decode cc pc = .ok (.getfield 115, 3)) (kk : InR (M 2 0 0 6) → PW X S M (pc + 3) ls (iv (M 2 0 0 6) :: st)) : PW X S M pc ls (rv S 2 0 0 :: st) := pw_getf (n := 6) C (inT2 20 rfl rfl) iX8 rfl (by decide) rfl (oC_0) rfl h kk
theorem gv_8_115 {X : PX} {S : SW} {M : Mem} {cc : ByteArray} {f lo pc : Nat} {ls : List (Option Value)} {st : List Value} {V : DM} (C : Cx X S RX8 cc f lo) (h : decode cc pc = .ok (.getfield 115, 3)) (kk : InR (V 0 0 6) → PW X S (mst M 2 V) (pc + 3) ls (iv (V 0 0 6) :: st)) : PW X S (mst M 2 V) pc ls (rv S 2 0 0 :: st) := gf_8_115 C h (by rw [mst_s]; exact kk)
theorem pf_8_115 {X : PX} {S : SW} {M : Mem} {cc : ByteArray} {f lo pc : Nat} {ls : List (Option Value)} {st : List Value} (C : Cx X S RX8 cc f lo) {v : Int} (hv : InR v) (h : decode cc pc = .ok (.putfield 115, 3)) (kk : PW X S (mst M 2 (vup (M 2) 0 0 6 v)) (pc + 3) ls st) : PW X S M pc ls (iv v :: rv S 2 0 0 :: st) := pw_putf (n := 6) (q := (0, 0, 0)) C (inT2 20 rfl rfl) iX8 rfl (by decide) rfl tyX8_ok nmX8 rfl (oC_0) rfl rfl rfl rfl hv h kk
theorem pv_8_115 {X : PX} {S : SW} {M : Mem} {cc : ByteArray} {f lo pc : Nat} {ls : List (Option Value)} {st : List Value} {V : DM} (C : Cx X S RX8 cc f lo) {v : Int} (hv : InR v) (h : decode cc pc = .ok (.putfield 115, 3)) (kk : PW X S (mst M 2 (vup V 0 0 6 v)) (pc + 3) ls st) : PW X S (mst M 2 V) pc ls (iv v :: rv S 2 0 0 :: st) := pf_8_115 C hv h (by rw [mst_m, mst_s]; exact kk)
theorem gf_9_91 {X : PX} {S : SW} {M : Mem} {cc : ByteArray} {f lo pc : Nat} {ls : List (Option Value)} {st : List Value} (C : Cx X S RX9 cc f lo) (h : decode cc pc = .ok (.getfield 91, 3)) (kk : InR (M 3 0 0 0) → PW X S M (pc + 3) ls (iv (M 3 0 0 0) :: st)) : PW X S M pc ls (rv S 3 0 0 :: st) := pw_getf (n := 0) C (inT3 226 rfl rfl) iX9 rfl (by decide) rfl (oM_0) rfl h kk
theorem gv_9_91 {X : PX} {S : SW} {M : Mem} {cc : ByteArray} {f lo pc : Nat} {ls : List (Option Value)} {st : List Value} {V : DM} (C : Cx X S RX9 cc f lo) (h : decode cc pc = .ok (.getfield 91, 3)) (kk : InR (V 0 0 0) → PW X S (mst M 3 V) (pc + 3) ls (iv (V 0 0 0) :: st)) : PW X S (mst M 3 V) pc ls (rv S 3 0 0 :: st) := gf_9_91 C h (by rw [mst_s]; exact kk)
theorem pf_9_91 {X : PX} {S : SW} {M : Mem} {cc : ByteArray} {f lo pc : Nat} {ls : List (Option Value)} {st : List Value} (C : Cx X S RX9 cc f lo) {v : Int} (hv : InR v) (h : decode cc pc = .ok (.putfield 91, 3)) (kk : PW X S (mst M 3 (vup (M 3) 0 0 0 v)) (pc + 3) ls st) : PW X S M pc ls (iv v :: rv S 3 0 0 :: st) := pw_putf (n := 0) (q := (0, 0, 0)) C (inT3 226 rfl rfl) iX9 rfl (by decide) rfl tyX9_ok nmX9 rfl (oM_0) rfl rfl rfl rfl hv h kk
theorem pv_9_91 {X : PX} {S : SW} {M : Mem} {cc : ByteArray} {f lo pc : Nat} {ls : List (Option Value)} {st : List Value} {V : DM} (C : Cx X S RX9 cc f lo) {v : Int} (hv : InR v) (h : decode cc pc = .ok (.putfield 91, 3)) (kk : PW X S (mst M 3 (vup V 0 0 0 v)) (pc + 3) ls st) : PW X S (mst M 3 V) pc ls (iv v :: rv S 3 0 0 :: st) := pf_9_91 C hv h (by rw [mst_m, mst_s]; exact kk)
theorem gf_9_119 {X : PX} {S : SW} {M : Mem} {cc : ByteArray} {f lo pc : Nat} {ls : List (Option Value)} {st : List Value} (C : Cx X S RX9 cc f lo) (h : decode cc pc = .ok (.getfield 119, 3)) (kk : InR (M 3 0 0 1) → PW X S M (pc + 3) ls (iv (M 3 0 0 1) :: st)) : PW X S M pc ls (rv S 3 0 0 :: st) := pw_getf (n := 1) C (inT3 227 rfl rfl) iX9 rfl (by decide) rfl (oM_0) rfl h kk
theorem gv_9_119 {X : PX} {S : SW} {M : Mem} {cc : ByteArray} {f lo pc : Nat} {ls : List (Option Value)} {st : List Value} {V : DM} (C : Cx X S RX9 cc f lo) (h : decode cc pc = .ok (.getfield 119, 3)) (kk : InR (V 0 0 1) → PW X S (mst M 3 V) (pc + 3) ls (iv (V 0 0 1) :: st)) : PW X S (mst M 3 V) pc ls (rv S 3 0 0 :: st) := gf_9_119 C h (by rw [mst_s]; exact kk)
theorem pf_9_119 {X : PX} {S : SW} {M : Mem} {cc : ByteArray} {f lo pc : Nat} {ls : List (Option Value)} {st : List Value} (C : Cx X S RX9 cc f lo) {v : Int} (hv : InR v) (h : decode cc pc = .ok (.putfield 119, 3)) (kk : PW X S (mst M 3 (vup (M 3) 0 0 1 v)) (pc + 3) ls st) : PW X S M pc ls (iv v :: rv S 3 0 0 :: st) := pw_putf (n := 1) (q := (0, 0, 0)) C (inT3 227 rfl rfl) iX9 rfl (by decide) rfl tyX9_ok nmX9 rfl (oM_0) rfl rfl rfl rfl hv h kk
theorem pv_9_119 {X : PX} {S : SW} {M : Mem} {cc : ByteArray} {f lo pc : Nat} {ls : List (Option Value)} {st : List Value} {V : DM} (C : Cx X S RX9 cc f lo) {v : Int} (hv : InR v) (h : decode cc pc = .ok (.putfield 119, 3)) (kk : PW X S (mst M 3 (vup V 0 0 1 v)) (pc + 3) ls st) : PW X S (mst M 3 V) pc ls (iv v :: rv S 3 0 0 :: st) := pf_9_119 C hv h (by rw [mst_m, mst_s]; exact kk)
theorem gf_9_116 {X : PX} {S : SW} {M : Mem} {cc : ByteArray} {f lo pc : Nat} {ls : List (Option Value)} {st : List Value} (C : Cx X S RX9 cc f lo) (h : decode cc pc = .ok (.getfield 116, 3)) (kk : InR (M 3 0 0 2) → PW X S M (pc + 3) ls (iv (M 3 0 0 2) :: st)) : PW X S M pc ls (rv S 3 0 0 :: st) := pw_getf (n := 2) C (inT3 228 rfl rfl) iX9 rfl (by decide) rfl (oM_0) rfl h kk
theorem gv_9_116 {X : PX} {S : SW} {M : Mem} {cc : ByteArray} {f lo pc : Nat} {ls : List (Option Value)} {st : List Value} {V : DM} (C : Cx X S RX9 cc f lo) (h : decode cc pc = .ok (.getfield 116, 3)) (kk : InR (V 0 0 2) → PW X S (mst M 3 V) (pc + 3) ls (iv (V 0 0 2) :: st)) : PW X S (mst M 3 V) pc ls (rv S 3 0 0 :: st) := gf_9_116 C h (by rw [mst_s]; exact kk)
theorem pf_9_116 {X : PX} {S : SW} {M : Mem} {cc : ByteArray} {f lo pc : Nat} {ls : List (Option Value)} {st : List Value} (C : Cx X S RX9 cc f lo) {v : Int} (hv : InR v) (h : decode cc pc = .ok (.putfield 116, 3)) (kk : PW X S (mst M 3 (vup (M 3) 0 0 2 v)) (pc + 3) ls st) : PW X S M pc ls (iv v :: rv S 3 0 0 :: st) := pw_putf (n := 2) (q := (0, 0, 0)) C (inT3 228 rfl rfl) iX9 rfl (by decide) rfl tyX9_ok nmX9 rfl (oM_0) rfl rfl rfl rfl hv h kk
theorem pv_9_116 {X : PX} {S : SW} {M : Mem} {cc : ByteArray} {f lo pc : Nat} {ls : List (Option Value)} {st : List Value} {V : DM} (C : Cx X S RX9 cc f lo) {v : Int} (hv : InR v) (h : decode cc pc = .ok (.putfield 116, 3)) (kk : PW X S (mst M 3 (vup V 0 0 2 v)) (pc + 3) ls st) : PW X S (mst M 3 V) pc ls (iv v :: rv S 3 0 0 :: st) := pf_9_116 C hv h (by rw [mst_m, mst_s]; exact kk)
theorem gf_9_7 {X : PX} {S : SW} {M : Mem} {cc : ByteArray} {f lo pc : Nat} {ls : List (Option Value)} {st : List Value} (C : Cx X S RX9 cc f lo) (h : decode cc pc = .ok (.getfield 7, 3)) (kk : PW X S M (pc + 3) ls (rv S 3 4 0 :: st)) : PW X S M pc ls (rv S 3 0 0 :: st) := pw_getf (n := 3) C (inT3 229 rfl rfl) iX9 rfl (by decide) rfl (oM_0) rfl h (fun _ => kk)
theorem gf_9_13 {X : PX} {S : SW} {M : Mem} {cc : ByteArray} {f lo pc : Nat} {ls : List (Option Value)} {st : List Value} (C : Cx X S RX9 cc f lo) (h : decode cc pc = .ok (.getfield 13, 3)) (kk : PW X S M (pc + 3) ls (rv S 3 5 0 :: st)) : PW X S M pc ls (rv S 3 0 0 :: st) := pw_getf (n := 4) C (inT3 230 rfl rfl) iX9 rfl (by decide) rfl (oM_0) rfl h (fun _ => kk)
theorem gf_9_16 {X : PX} {S : SW} {M : Mem} {cc : ByteArray} {f lo pc : Nat} {ls : List (Option Value)} {st : List Value} (C : Cx X S RX9 cc f lo) (h : decode cc pc = .ok (.getfield 16, 3)) (kk : PW X S M (pc + 3) ls (rv S 3 6 0 :: st)) : PW X S M pc ls (rv S 3 0 0 :: st) := pw_getf (n := 5) C (inT3 231 rfl rfl) iX9 rfl (by decide) rfl (oM_0) rfl h (fun _ => kk)
theorem gf_9_19 {X : PX} {S : SW} {M : Mem} {cc : ByteArray} {f lo pc : Nat} {ls : List (Option Value)} {st : List Value} (C : Cx X S RX9 cc f lo) (h : decode cc pc = .ok (.getfield 19, 3)) (kk : PW X S M (pc + 3) ls (rv S 3 7 0 :: st)) : PW X S M pc ls (rv S 3 0 0 :: st) := pw_getf (n := 6) C (inT3 232 rfl rfl) iX9 rfl (by decide) rfl (oM_0) rfl h (fun _ => kk)
theorem gf_9_22 {X : PX} {S : SW} {M : Mem} {cc : ByteArray} {f lo pc : Nat} {ls : List (Option Value)} {st : List Value} (C : Cx X S RX9 cc f lo) (h : decode cc pc = .ok (.getfield 22, 3)) (kk : PW X S M (pc + 3) ls (rv S 3 8 0 :: st)) : PW X S M pc ls (rv S 3 0 0 :: st) := pw_getf (n := 7) C (inT3 233 rfl rfl) iX9 rfl (by decide) rfl (oM_0) rfl h (fun _ => kk)
theorem gf_9_156 {X : PX} {S : SW} {M : Mem} {cc : ByteArray} {f lo pc : Nat} {ls : List (Option Value)} {st : List Value} (C : Cx X S RX9 cc f lo) (h : decode cc pc = .ok (.getfield 156, 3)) (kk : InR (M 3 0 0 8) → PW X S M (pc + 3) ls (iv (M 3 0 0 8) :: st)) : PW X S M pc ls (rv S 3 0 0 :: st) := pw_getf (n := 8) C (inT3 234 rfl rfl) iX9 rfl (by decide) rfl (oM_0) rfl h kk
theorem gv_9_156 {X : PX} {S : SW} {M : Mem} {cc : ByteArray} {f lo pc : Nat} {ls : List (Option Value)} {st : List Value} {V : DM} (C : Cx X S RX9 cc f lo) (h : decode cc pc = .ok (.getfield 156, 3)) (kk : InR (V 0 0 8) → PW X S (mst M 3 V) (pc + 3) ls (iv (V 0 0 8) :: st)) : PW X S (mst M 3 V) pc ls (rv S 3 0 0 :: st) := gf_9_156 C h (by rw [mst_s]; exact kk)
theorem pf_9_156 {X : PX} {S : SW} {M : Mem} {cc : ByteArray} {f lo pc : Nat} {ls : List (Option Value)} {st : List Value} (C : Cx X S RX9 cc f lo) {v : Int} (hv : InR v) (h : decode cc pc = .ok (.putfield 156, 3)) (kk : PW X S (mst M 3 (vup (M 3) 0 0 8 v)) (pc + 3) ls st) : PW X S M pc ls (iv v :: rv S 3 0 0 :: st) := pw_putf (n := 8) (q := (0, 0, 0)) C (inT3 234 rfl rfl) iX9 rfl (by decide) rfl tyX9_ok nmX9 rfl (oM_0) rfl rfl rfl rfl hv h kk
theorem pv_9_156 {X : PX} {S : SW} {M : Mem} {cc : ByteArray} {f lo pc : Nat} {ls : List (Option Value)} {st : List Value} {V : DM} (C : Cx X S RX9 cc f lo) {v : Int} (hv : InR v) (h : decode cc pc = .ok (.putfield 156, 3)) (kk : PW X S (mst M 3 (vup V 0 0 8 v)) (pc + 3) ls st) : PW X S (mst M 3 V) pc ls (iv v :: rv S 3 0 0 :: st) := pf_9_156 C hv h (by rw [mst_m, mst_s]; exact kk)
theorem gf_9_159 {X : PX} {S : SW} {M : Mem} {cc : ByteArray} {f lo pc : Nat} {ls : List (Option Value)} {st : List Value} (C : Cx X S RX9 cc f lo) (h : decode cc pc = .ok (.getfield 159, 3)) (kk : InR (M 3 0 0 9) → PW X S M (pc + 3) ls (iv (M 3 0 0 9) :: st)) : PW X S M pc ls (rv S 3 0 0 :: st) := pw_getf (n := 9) C (inT3 235 rfl rfl) iX9 rfl (by decide) rfl (oM_0) rfl h kk
theorem gv_9_159 {X : PX} {S : SW} {M : Mem} {cc : ByteArray} {f lo pc : Nat} {ls : List (Option Value)} {st : List Value} {V : DM} (C : Cx X S RX9 cc f lo) (h : decode cc pc = .ok (.getfield 159, 3)) (kk : InR (V 0 0 9) → PW X S (mst M 3 V) (pc + 3) ls (iv (V 0 0 9) :: st)) : PW X S (mst M 3 V) pc ls (rv S 3 0 0 :: st) := gf_9_159 C h (by rw [mst_s]; exact kk)
theorem pf_9_159 {X : PX} {S : SW} {M : Mem} {cc : ByteArray} {f lo pc : Nat} {ls : List (Option Value)} {st : List Value} (C : Cx X S RX9 cc f lo) {v : Int} (hv : v = 0 ∨ v = 1) (h : decode cc pc = .ok (.putfield 159, 3)) (kk : PW X S (mst M 3 (vup (M 3) 0 0 9 v)) (pc + 3) ls st) : PW X S M pc ls (iv v :: rv S 3 0 0 :: st) := pw_putf (n := 9) (q := (0, 0, 0)) C (inT3 235 rfl rfl) iX9 rfl (by decide) rfl tyX9_ok nmX9 rfl (oM_0) rfl rfl (by rcases hv with rfl | rfl <;> rfl) (by rcases hv with rfl | rfl <;> rfl) (by rcases hv with rfl | rfl <;> unfold InR <;> omega) h kk
theorem pv_9_159 {X : PX} {S : SW} {M : Mem} {cc : ByteArray} {f lo pc : Nat} {ls : List (Option Value)} {st : List Value} {V : DM} (C : Cx X S RX9 cc f lo) {v : Int} (hv : v = 0 ∨ v = 1) (h : decode cc pc = .ok (.putfield 159, 3)) (kk : PW X S (mst M 3 (vup V 0 0 9 v)) (pc + 3) ls st) : PW X S (mst M 3 V) pc ls (iv v :: rv S 3 0 0 :: st) := pf_9_159 C hv h (by rw [mst_m, mst_s]; exact kk)
theorem gf_9_122 {X : PX} {S : SW} {M : Mem} {cc : ByteArray} {f lo pc : Nat} {ls : List (Option Value)} {st : List Value} (C : Cx X S RX9 cc f lo) (h : decode cc pc = .ok (.getfield 122, 3)) (kk : InR (M 3 0 0 10) → PW X S M (pc + 3) ls (iv (M 3 0 0 10) :: st)) : PW X S M pc ls (rv S 3 0 0 :: st) := pw_getf (n := 10) C (inT3 236 rfl rfl) iX9 rfl (by decide) rfl (oM_0) rfl h kk
theorem gv_9_122 {X : PX} {S : SW} {M : Mem} {cc : ByteArray} {f lo pc : Nat} {ls : List (Option Value)} {st : List Value} {V : DM} (C : Cx X S RX9 cc f lo) (h : decode cc pc = .ok (.getfield 122, 3)) (kk : InR (V 0 0 10) → PW X S (mst M 3 V) (pc + 3) ls (iv (V 0 0 10) :: st)) : PW X S (mst M 3 V) pc ls (rv S 3 0 0 :: st) := gf_9_122 C h (by rw [mst_s]; exact kk)
theorem pf_9_122 {X : PX} {S : SW} {M : Mem} {cc : ByteArray} {f lo pc : Nat} {ls : List (Option Value)} {st : List Value} (C : Cx X S RX9 cc f lo) {v : Int} (hv : InR v) (h : decode cc pc = .ok (.putfield 122, 3)) (kk : PW X S (mst M 3 (vup (M 3) 0 0 10 v)) (pc + 3) ls st) : PW X S M pc ls (iv v :: rv S 3 0 0 :: st) := pw_putf (n := 10) (q := (0, 0, 0)) C (inT3 236 rfl rfl) iX9 rfl (by decide) rfl tyX9_ok nmX9 rfl (oM_0) rfl rfl rfl rfl hv h kk
theorem pv_9_122 {X : PX} {S : SW} {M : Mem} {cc : ByteArray} {f lo pc : Nat} {ls : List (Option Value)} {st : List Value} {V : DM} (C : Cx X S RX9 cc f lo) {v : Int} (hv : InR v) (h : decode cc pc = .ok (.putfield 122, 3)) (kk : PW X S (mst M 3 (vup V 0 0 10 v)) (pc + 3) ls st) : PW X S (mst M 3 V) pc ls (iv v :: rv S 3 0 0 :: st) := pf_9_122 C hv h (by rw [mst_m, mst_s]; exact kk)
theorem gf_9_125 {X : PX} {S : SW} {M : Mem} {cc : ByteArray} {f lo pc : Nat} {ls : List (Option Value)} {st : List Value} (C : Cx X S RX9 cc f lo) (h : decode cc pc = .ok (.getfield 125, 3)) (kk : InR (M 3 0 0 11) → PW X S M (pc + 3) ls (iv (M 3 0 0 11) :: st)) : PW X S M pc ls (rv S 3 0 0 :: st) := pw_getf (n := 11) C (inT3 237 rfl rfl) iX9 rfl (by decide) rfl (oM_0) rfl h kk
theorem gv_9_125 {X : PX} {S : SW} {M : Mem} {cc : ByteArray} {f lo pc : Nat} {ls : List (Option Value)} {st : List Value} {V : DM} (C : Cx X S RX9 cc f lo) (h : decode cc pc = .ok (.getfield 125, 3)) (kk : InR (V 0 0 11) → PW X S (mst M 3 V) (pc + 3) ls (iv (V 0 0 11) :: st)) : PW X S (mst M 3 V) pc ls (rv S 3 0 0 :: st) := gf_9_125 C h (by rw [mst_s]; exact kk)
theorem pf_9_125 {X : PX} {S : SW} {M : Mem} {cc : ByteArray} {f lo pc : Nat} {ls : List (Option Value)} {st : List Value} (C : Cx X S RX9 cc f lo) {v : Int} (hv : InR v) (h : decode cc pc = .ok (.putfield 125, 3)) (kk : PW X S (mst M 3 (vup (M 3) 0 0 11 v)) (pc + 3) ls st) : PW X S M pc ls (iv v :: rv S 3 0 0 :: st) := pw_putf (n := 11) (q := (0, 0, 0)) C (inT3 237 rfl rfl) iX9 rfl (by decide) rfl tyX9_ok nmX9 rfl (oM_0) rfl rfl rfl rfl hv h kk
theorem pv_9_125 {X : PX} {S : SW} {M : Mem} {cc : ByteArray} {f lo pc : Nat} {ls : List (Option Value)} {st : List Value} {V : DM} (C : Cx X S RX9 cc f lo) {v : Int} (hv : InR v) (h : decode cc pc = .ok (.putfield 125, 3)) (kk : PW X S (mst M 3 (vup V 0 0 11 v)) (pc + 3) ls st) : PW X S (mst M 3 V) pc ls (iv v :: rv S 3 0 0 :: st) := pf_9_125 C hv h (by rw [mst_m, mst_s]; exact kk)
theorem gf_9_139 {X : PX} {S : SW} {M : Mem} {cc : ByteArray} {f lo pc : Nat} {ls : List (Option Value)} {st : List Value} (C : Cx X S RX9 cc f lo) (h : decode cc pc = .ok (.getfield 139, 3)) (kk : InR (M 3 0 0 12) → PW X S M (pc + 3) ls (iv (M 3 0 0 12) :: st)) : PW X S M pc ls (rv S 3 0 0 :: st) := pw_getf (n := 12) C (inT3 238 rfl rfl) iX9 rfl (by decide) rfl (oM_0) rfl h kk
theorem gv_9_139 {X : PX} {S : SW} {M : Mem} {cc : ByteArray} {f lo pc : Nat} {ls : List (Option Value)} {st : List Value} {V : DM} (C : Cx X S RX9 cc f lo) (h : decode cc pc = .ok (.getfield 139, 3)) (kk : InR (V 0 0 12) → PW X S (mst M 3 V) (pc + 3) ls (iv (V 0 0 12) :: st)) : PW X S (mst M 3 V) pc ls (rv S 3 0 0 :: st) := gf_9_139 C h (by rw [mst_s]; exact kk)
theorem pf_9_139 {X : PX} {S : SW} {M : Mem} {cc : ByteArray} {f lo pc : Nat} {ls : List (Option Value)} {st : List Value} (C : Cx X S RX9 cc f lo) {v : Int} (hv : InR v) (h : decode cc pc = .ok (.putfield 139, 3)) (kk : PW X S (mst M 3 (vup (M 3) 0 0 12 v)) (pc + 3) ls st) : PW X S M pc ls (iv v :: rv S 3 0 0 :: st) := pw_putf (n := 12) (q := (0, 0, 0)) C (inT3 238 rfl rfl) iX9 rfl (by decide) rfl tyX9_ok nmX9 rfl (oM_0) rfl rfl rfl rfl hv h kk
theorem pv_9_139 {X : PX} {S : SW} {M : Mem} {cc : ByteArray} {f lo pc : Nat} {ls : List (Option Value)} {st : List Value} {V : DM} (C : Cx X S RX9 cc f lo) {v : Int} (hv : InR v) (h : decode cc pc = .ok (.putfield 139, 3)) (kk : PW X S (mst M 3 (vup V 0 0 12 v)) (pc + 3) ls st) : PW X S (mst M 3 V) pc ls (iv v :: rv S 3 0 0 :: st) := pf_9_139 C hv h (by rw [mst_m, mst_s]; exact kk)
theorem gf_9_128 {X : PX} {S : SW} {M : Mem} {cc : ByteArray} {f lo pc : Nat} {ls : List (Option Value)} {st : List Value} (C : Cx X S RX9 cc f lo) (h : decode cc pc = .ok (.getfield 128, 3)) (kk : InR (M 3 0 0 13) → PW X S M (pc + 3) ls (iv (M 3 0 0 13) :: st)) : PW X S M pc ls (rv S 3 0 0 :: st) := pw_getf (n := 13) C (inT3 239 rfl rfl) iX9 rfl (by decide) rfl (oM_0) rfl h kk
theorem gv_9_128 {X : PX} {S : SW} {M : Mem} {cc : ByteArray} {f lo pc : Nat} {ls : List (Option Value)} {st : List Value} {V : DM} (C : Cx X S RX9 cc f lo) (h : decode cc pc = .ok (.getfield 128, 3)) (kk : InR (V 0 0 13) → PW X S (mst M 3 V) (pc + 3) ls (iv (V 0 0 13) :: st)) : PW X S (mst M 3 V) pc ls (rv S 3 0 0 :: st) := gf_9_128 C h (by rw [mst_s]; exact kk)
theorem pf_9_128 {X : PX} {S : SW} {M : Mem} {cc : ByteArray} {f lo pc : Nat} {ls : List (Option Value)} {st : List Value} (C : Cx X S RX9 cc f lo) {v : Int} (hv : InR v) (h : decode cc pc = .ok (.putfield 128, 3)) (kk : PW X S (mst M 3 (vup (M 3) 0 0 13 v)) (pc + 3) ls st) : PW X S M pc ls (iv v :: rv S 3 0 0 :: st) := pw_putf (n := 13) (q := (0, 0, 0)) C (inT3 239 rfl rfl) iX9 rfl (by decide) rfl tyX9_ok nmX9 rfl (oM_0) rfl rfl rfl rfl hv h kk
theorem pv_9_128 {X : PX} {S : SW} {M : Mem} {cc : ByteArray} {f lo pc : Nat} {ls : List (Option Value)} {st : List Value} {V : DM} (C : Cx X S RX9 cc f lo) {v : Int} (hv : InR v) (h : decode cc pc = .ok (.putfield 128, 3)) (kk : PW X S (mst M 3 (vup V 0 0 13 v)) (pc + 3) ls st) : PW X S (mst M 3 V) pc ls (iv v :: rv S 3 0 0 :: st) := pf_9_128 C hv h (by rw [mst_m, mst_s]; exact kk)
theorem gf_9_25 {X : PX} {S : SW} {M : Mem} {cc : ByteArray} {f lo pc : Nat} {ls : List (Option Value)} {st : List Value} (C : Cx X S RX9 cc f lo) (h : decode cc pc = .ok (.getfield 25, 3)) (kk : PW X S M (pc + 3) ls (rv S 3 15 0 :: st)) : PW X S M pc ls (rv S 3 0 0 :: st) := pw_getf (n := 14) C (inT4 0 rfl rfl) iX9 rfl (by decide) rfl (oM_0) rfl h (fun _ => kk)
theorem gf_9_153 {X : PX} {S : SW} {M : Mem} {cc : ByteArray} {f lo pc : Nat} {ls : List (Option Value)} {st : List Value} (C : Cx X S RX9 cc f lo) (h : decode cc pc = .ok (.getfield 153, 3)) (kk : InR (M 3 0 0 15) → PW X S M (pc + 3) ls (iv (M 3 0 0 15) :: st)) : PW X S M pc ls (rv S 3 0 0 :: st) := pw_getf (n := 15) C (inT4 1 rfl rfl) iX9 rfl (by decide) rfl (oM_0) rfl h kk
theorem gv_9_153 {X : PX} {S : SW} {M : Mem} {cc : ByteArray} {f lo pc : Nat} {ls : List (Option Value)} {st : List Value} {V : DM} (C : Cx X S RX9 cc f lo) (h : decode cc pc = .ok (.getfield 153, 3)) (kk : InR (V 0 0 15) → PW X S (mst M 3 V) (pc + 3) ls (iv (V 0 0 15) :: st)) : PW X S (mst M 3 V) pc ls (rv S 3 0 0 :: st) := gf_9_153 C h (by rw [mst_s]; exact kk)
theorem pf_9_153 {X : PX} {S : SW} {M : Mem} {cc : ByteArray} {f lo pc : Nat} {ls : List (Option Value)} {st : List Value} (C : Cx X S RX9 cc f lo) {v : Int} (hv : InR v) (h : decode cc pc = .ok (.putfield 153, 3)) (kk : PW X S (mst M 3 (vup (M 3) 0 0 15 v)) (pc + 3) ls st) : PW X S M pc ls (iv v :: rv S 3 0 0 :: st) := pw_putf (n := 15) (q := (0, 0, 0)) C (inT4 1 rfl rfl) iX9 rfl (by decide) rfl tyX9_ok nmX9 rfl (oM_0) rfl rfl rfl rfl hv h kk
theorem pv_9_153 {X : PX} {S : SW} {M : Mem} {cc : ByteArray} {f lo pc : Nat} {ls : List (Option Value)} {st : List Value} {V : DM} (C : Cx X S RX9 cc f lo) {v : Int} (hv : InR v) (h : decode cc pc = .ok (.putfield 153, 3)) (kk : PW X S (mst M 3 (vup V 0 0 15 v)) (pc + 3) ls st) : PW X S (mst M 3 V) pc ls (iv v :: rv S 3 0 0 :: st) := pf_9_153 C hv h (by rw [mst_m, mst_s]; exact kk)
theorem gf_9_28 {X : PX} {S : SW} {M : Mem} {cc : ByteArray} {f lo pc : Nat} {ls : List (Option Value)} {st : List Value} (C : Cx X S RX9 cc f lo) (h : decode cc pc = .ok (.getfield 28, 3)) (kk : PW X S M (pc + 3) ls (rv S 3 17 0 :: st)) : PW X S M pc ls (rv S 3 0 0 :: st) := pw_getf (n := 16) C (inT4 2 rfl rfl) iX9 rfl (by decide) rfl (oM_0) rfl h (fun _ => kk)
theorem gf_9_31 {X : PX} {S : SW} {M : Mem} {cc : ByteArray} {f lo pc : Nat} {ls : List (Option Value)} {st : List Value} (C : Cx X S RX9 cc f lo) (h : decode cc pc = .ok (.getfield 31, 3)) (kk : PW X S M (pc + 3) ls (rv S 3 18 0 :: st)) : PW X S M pc ls (rv S 3 0 0 :: st) := pw_getf (n := 17) C (inT4 3 rfl rfl) iX9 rfl (by decide) rfl (oM_0) rfl h (fun _ => kk)
theorem gf_9_34 {X : PX} {S : SW} {M : Mem} {cc : ByteArray} {f lo pc : Nat} {ls : List (Option Value)} {st : List Value} (C : Cx X S RX9 cc f lo) (h : decode cc pc = .ok (.getfield 34, 3)) (kk : PW X S M (pc + 3) ls (rv S 3 19 0 :: st)) : PW X S M pc ls (rv S 3 0 0 :: st) := pw_getf (n := 18) C (inT4 4 rfl rfl) iX9 rfl (by decide) rfl (oM_0) rfl h (fun _ => kk)
theorem gf_9_37 {X : PX} {S : SW} {M : Mem} {cc : ByteArray} {f lo pc : Nat} {ls : List (Option Value)} {st : List Value} (C : Cx X S RX9 cc f lo) (h : decode cc pc = .ok (.getfield 37, 3)) (kk : PW X S M (pc + 3) ls (rv S 3 20 0 :: st)) : PW X S M pc ls (rv S 3 0 0 :: st) := pw_getf (n := 19) C (inT4 5 rfl rfl) iX9 rfl (by decide) rfl (oM_0) rfl h (fun _ => kk)
theorem gf_9_40 {X : PX} {S : SW} {M : Mem} {cc : ByteArray} {f lo pc : Nat} {ls : List (Option Value)} {st : List Value} (C : Cx X S RX9 cc f lo) (h : decode cc pc = .ok (.getfield 40, 3)) (kk : PW X S M (pc + 3) ls (rv S 3 21 0 :: st)) : PW X S M pc ls (rv S 3 0 0 :: st) := pw_getf (n := 20) C (inT4 6 rfl rfl) iX9 rfl (by decide) rfl (oM_0) rfl h (fun _ => kk)
theorem gf_9_207 {X : PX} {S : SW} {M : Mem} {cc : ByteArray} {f lo pc : Nat} {ls : List (Option Value)} {st : List Value} (C : Cx X S RX9 cc f lo) (h : decode cc pc = .ok (.getfield 207, 3)) (kk : InR (M 3 0 0 21) → PW X S M (pc + 3) ls (iv (M 3 0 0 21) :: st)) : PW X S M pc ls (rv S 3 0 0 :: st) := pw_getf (n := 21) C (inT4 7 rfl rfl) iX9 rfl (by decide) rfl (oM_0) rfl h kk
theorem gv_9_207 {X : PX} {S : SW} {M : Mem} {cc : ByteArray} {f lo pc : Nat} {ls : List (Option Value)} {st : List Value} {V : DM} (C : Cx X S RX9 cc f lo) (h : decode cc pc = .ok (.getfield 207, 3)) (kk : InR (V 0 0 21) → PW X S (mst M 3 V) (pc + 3) ls (iv (V 0 0 21) :: st)) : PW X S (mst M 3 V) pc ls (rv S 3 0 0 :: st) := gf_9_207 C h (by rw [mst_s]; exact kk)
theorem pf_9_207 {X : PX} {S : SW} {M : Mem} {cc : ByteArray} {f lo pc : Nat} {ls : List (Option Value)} {st : List Value} (C : Cx X S RX9 cc f lo) {v : Int} (hv : InR v) (h : decode cc pc = .ok (.putfield 207, 3)) (kk : PW X S (mst M 3 (vup (M 3) 0 0 21 v)) (pc + 3) ls st) : PW X S M pc ls (iv v :: rv S 3 0 0 :: st) := pw_putf (n := 21) (q := (0, 0, 0)) C (inT4 7 rfl rfl) iX9 rfl (by decide) rfl tyX9_ok nmX9 rfl (oM_0) rfl rfl rfl rfl hv h kk
theorem pv_9_207 {X : PX} {S : SW} {M : Mem} {cc : ByteArray} {f lo pc : Nat} {ls : List (Option Value)} {st : List Value} {V : DM} (C : Cx X S RX9 cc f lo) {v : Int} (hv : InR v) (h : decode cc pc = .ok (.putfield 207, 3)) (kk : PW X S (mst M 3 (vup V 0 0 21 v)) (pc + 3) ls st) : PW X S (mst M 3 V) pc ls (iv v :: rv S 3 0 0 :: st) := pf_9_207 C hv h (by rw [mst_m, mst_s]; exact kk)
theorem gf_9_43 {X : PX} {S : SW} {M : Mem} {cc : ByteArray} {f lo pc : Nat} {ls : List (Option Value)} {st : List Value} (C : Cx X S RX9 cc f lo) (h : decode cc pc = .ok (.getfield 43, 3)) (kk : PW X S M (pc + 3) ls (rv S 3 23 0 :: st)) : PW X S M pc ls (rv S 3 0 0 :: st) := pw_getf (n := 22) C (inT4 8 rfl rfl) iX9 rfl (by decide) rfl (oM_0) rfl h (fun _ => kk)
theorem gf_9_46 {X : PX} {S : SW} {M : Mem} {cc : ByteArray} {f lo pc : Nat} {ls : List (Option Value)} {st : List Value} (C : Cx X S RX9 cc f lo) (h : decode cc pc = .ok (.getfield 46, 3)) (kk : PW X S M (pc + 3) ls (rv S 3 24 0 :: st)) : PW X S M pc ls (rv S 3 0 0 :: st) := pw_getf (n := 23) C (inT4 9 rfl rfl) iX9 rfl (by decide) rfl (oM_0) rfl h (fun _ => kk)
theorem gf_9_49 {X : PX} {S : SW} {M : Mem} {cc : ByteArray} {f lo pc : Nat} {ls : List (Option Value)} {st : List Value} (C : Cx X S RX9 cc f lo) (h : decode cc pc = .ok (.getfield 49, 3)) (kk : PW X S M (pc + 3) ls (rv S 3 25 0 :: st)) : PW X S M pc ls (rv S 3 0 0 :: st) := pw_getf (n := 24) C (inT4 10 rfl rfl) iX9 rfl (by decide) rfl (oM_0) rfl h (fun _ => kk)
theorem gf_9_52 {X : PX} {S : SW} {M : Mem} {cc : ByteArray} {f lo pc : Nat} {ls : List (Option Value)} {st : List Value} (C : Cx X S RX9 cc f lo) (h : decode cc pc = .ok (.getfield 52, 3)) (kk : PW X S M (pc + 3) ls (rv S 3 26 0 :: st)) : PW X S M pc ls (rv S 3 0 0 :: st) := pw_getf (n := 25) C (inT4 11 rfl rfl) iX9 rfl (by decide) rfl (oM_0) rfl h (fun _ => kk)
theorem gf_9_55 {X : PX} {S : SW} {M : Mem} {cc : ByteArray} {f lo pc : Nat} {ls : List (Option Value)} {st : List Value} (C : Cx X S RX9 cc f lo) (h : decode cc pc = .ok (.getfield 55, 3)) (kk : PW X S M (pc + 3) ls (rv S 3 27 0 :: st)) : PW X S M pc ls (rv S 3 0 0 :: st) := pw_getf (n := 26) C (inT4 12 rfl rfl) iX9 rfl (by decide) rfl (oM_0) rfl h (fun _ => kk)
theorem gf_9_58 {X : PX} {S : SW} {M : Mem} {cc : ByteArray} {f lo pc : Nat} {ls : List (Option Value)} {st : List Value} (C : Cx X S RX9 cc f lo) (h : decode cc pc = .ok (.getfield 58, 3)) (kk : PW X S M (pc + 3) ls (rv S 3 28 0 :: st)) : PW X S M pc ls (rv S 3 0 0 :: st) := pw_getf (n := 27) C (inT4 13 rfl rfl) iX9 rfl (by decide) rfl (oM_0) rfl h (fun _ => kk)
theorem gf_9_61 {X : PX} {S : SW} {M : Mem} {cc : ByteArray} {f lo pc : Nat} {ls : List (Option Value)} {st : List Value} (C : Cx X S RX9 cc f lo) (h : decode cc pc = .ok (.getfield 61, 3)) (kk : PW X S M (pc + 3) ls (rv S 3 29 0 :: st)) : PW X S M pc ls (rv S 3 0 0 :: st) := pw_getf (n := 28) C (inT4 14 rfl rfl) iX9 rfl (by decide) rfl (oM_0) rfl h (fun _ => kk)
theorem gf_9_64 {X : PX} {S : SW} {M : Mem} {cc : ByteArray} {f lo pc : Nat} {ls : List (Option Value)} {st : List Value} (C : Cx X S RX9 cc f lo) (h : decode cc pc = .ok (.getfield 64, 3)) (kk : PW X S M (pc + 3) ls (rv S 3 30 0 :: st)) : PW X S M pc ls (rv S 3 0 0 :: st) := pw_getf (n := 29) C (inT4 15 rfl rfl) iX9 rfl (by decide) rfl (oM_0) rfl h (fun _ => kk)
theorem gf_9_67 {X : PX} {S : SW} {M : Mem} {cc : ByteArray} {f lo pc : Nat} {ls : List (Option Value)} {st : List Value} (C : Cx X S RX9 cc f lo) (h : decode cc pc = .ok (.getfield 67, 3)) (kk : PW X S M (pc + 3) ls (rv S 3 31 0 :: st)) : PW X S M pc ls (rv S 3 0 0 :: st) := pw_getf (n := 30) C (inT4 16 rfl rfl) iX9 rfl (by decide) rfl (oM_0) rfl h (fun _ => kk)
theorem gf_9_70 {X : PX} {S : SW} {M : Mem} {cc : ByteArray} {f lo pc : Nat} {ls : List (Option Value)} {st : List Value} (C : Cx X S RX9 cc f lo) (h : decode cc pc = .ok (.getfield 70, 3)) (kk : PW X S M (pc + 3) ls (rv S 3 32 0 :: st)) : PW X S M pc ls (rv S 3 0 0 :: st) := pw_getf (n := 31) C (inT4 17 rfl rfl) iX9 rfl (by decide) rfl (oM_0) rfl h (fun _ => kk)
theorem gf_9_273 {X : PX} {S : SW} {M : Mem} {cc : ByteArray} {f lo pc : Nat} {ls : List (Option Value)} {st : List Value} (C : Cx X S RX9 cc f lo) (h : decode cc pc = .ok (.getfield 273, 3)) (kk : InR (M 3 0 0 32) → PW X S M (pc + 3) ls (jv (M 3 0 0 32) :: st)) : PW X S M pc ls (rv S 3 0 0 :: st) := pw_getf (n := 32) C (inT4 18 rfl rfl) iX9 rfl (by decide) rfl (oM_0) rfl h kk
theorem gv_9_273 {X : PX} {S : SW} {M : Mem} {cc : ByteArray} {f lo pc : Nat} {ls : List (Option Value)} {st : List Value} {V : DM} (C : Cx X S RX9 cc f lo) (h : decode cc pc = .ok (.getfield 273, 3)) (kk : InR (V 0 0 32) → PW X S (mst M 3 V) (pc + 3) ls (jv (V 0 0 32) :: st)) : PW X S (mst M 3 V) pc ls (rv S 3 0 0 :: st) := gf_9_273 C h (by rw [mst_s]; exact kk)
theorem pf_9_273 {X : PX} {S : SW} {M : Mem} {cc : ByteArray} {f lo pc : Nat} {ls : List (Option Value)} {st : List Value} (C : Cx X S RX9 cc f lo) {v : Int} (hv : InR v) (h : decode cc pc = .ok (.putfield 273, 3)) (kk : PW X S (mst M 3 (vup (M 3) 0 0 32 v)) (pc + 3) ls st) : PW X S M pc ls (jv v :: rv S 3 0 0 :: st) := pw_putf (n := 32) (q := (1, 0, 0)) C (inT4 18 rfl rfl) iX9 rfl (by decide) rfl tyX9_ok nmX9 rfl (oM_0) rfl rfl rfl rfl hv h kk
theorem pv_9_273 {X : PX} {S : SW} {M : Mem} {cc : ByteArray} {f lo pc : Nat} {ls : List (Option Value)} {st : List Value} {V : DM} (C : Cx X S RX9 cc f lo) {v : Int} (hv : InR v) (h : decode cc pc = .ok (.putfield 273, 3)) (kk : PW X S (mst M 3 (vup V 0 0 32 v)) (pc + 3) ls st) : PW X S (mst M 3 V) pc ls (jv v :: rv S 3 0 0 :: st) := pf_9_273 C hv h (by rw [mst_m, mst_s]; exact kk)
theorem gf_9_277 {X : PX} {S : SW} {M : Mem} {cc : ByteArray} {f lo pc : Nat} {ls : List (Option Value)} {st : List Value} (C : Cx X S RX9 cc f lo) (h : decode cc pc = .ok (.getfield 277, 3)) (kk : InR (M 3 0 0 33) → PW X S M (pc + 3) ls (jv (M 3 0 0 33) :: st)) : PW X S M pc ls (rv S 3 0 0 :: st) := pw_getf (n := 33) C (inT4 19 rfl rfl) iX9 rfl (by decide) rfl (oM_0) rfl h kk
theorem gv_9_277 {X : PX} {S : SW} {M : Mem} {cc : ByteArray} {f lo pc : Nat} {ls : List (Option Value)} {st : List Value} {V : DM} (C : Cx X S RX9 cc f lo) (h : decode cc pc = .ok (.getfield 277, 3)) (kk : InR (V 0 0 33) → PW X S (mst M 3 V) (pc + 3) ls (jv (V 0 0 33) :: st)) : PW X S (mst M 3 V) pc ls (rv S 3 0 0 :: st) := gf_9_277 C h (by rw [mst_s]; exact kk)
theorem pf_9_277 {X : PX} {S : SW} {M : Mem} {cc : ByteArray} {f lo pc : Nat} {ls : List (Option Value)} {st : List Value} (C : Cx X S RX9 cc f lo) {v : Int} (hv : InR v) (h : decode cc pc = .ok (.putfield 277, 3)) (kk : PW X S (mst M 3 (vup (M 3) 0 0 33 v)) (pc + 3) ls st) : PW X S M pc ls (jv v :: rv S 3 0 0 :: st) := pw_putf (n := 33) (q := (1, 0, 0)) C (inT4 19 rfl rfl) iX9 rfl (by decide) rfl tyX9_ok nmX9 rfl (oM_0) rfl rfl rfl rfl hv h kk
theorem pv_9_277 {X : PX} {S : SW} {M : Mem} {cc : ByteArray} {f lo pc : Nat} {ls : List (Option Value)} {st : List Value} {V : DM} (C : Cx X S RX9 cc f lo) {v : Int} (hv : InR v) (h : decode cc pc = .ok (.putfield 277, 3)) (kk : PW X S (mst M 3 (vup V 0 0 33 v)) (pc + 3) ls st) : PW X S (mst M 3 V) pc ls (jv v :: rv S 3 0 0 :: st) := pf_9_277 C hv h (by rw [mst_m, mst_s]; exact kk)
theorem gf_9_73 {X : PX} {S : SW} {M : Mem} {cc : ByteArray} {f lo pc : Nat} {ls : List (Option Value)} {st : List Value} (C : Cx X S RX9 cc f lo) (h : decode cc pc = .ok (.getfield 73, 3)) (kk : PW X S M (pc + 3) ls (rv S 3 35 0 :: st)) : PW X S M pc ls (rv S 3 0 0 :: st) := pw_getf (n := 34) C (inT4 20 rfl rfl) iX9 rfl (by decide) rfl (oM_0) rfl h (fun _ => kk)
theorem gf_9_76 {X : PX} {S : SW} {M : Mem} {cc : ByteArray} {f lo pc : Nat} {ls : List (Option Value)} {st : List Value} (C : Cx X S RX9 cc f lo) (h : decode cc pc = .ok (.getfield 76, 3)) (kk : PW X S M (pc + 3) ls (rv S 3 36 0 :: st)) : PW X S M pc ls (rv S 3 0 0 :: st) := pw_getf (n := 35) C (inT4 21 rfl rfl) iX9 rfl (by decide) rfl (oM_0) rfl h (fun _ => kk)
theorem gf_9_79 {X : PX} {S : SW} {M : Mem} {cc : ByteArray} {f lo pc : Nat} {ls : List (Option Value)} {st : List Value} (C : Cx X S RX9 cc f lo) (h : decode cc pc = .ok (.getfield 79, 3)) (kk : PW X S M (pc + 3) ls (rv S 3 37 0 :: st)) : PW X S M pc ls (rv S 3 0 0 :: st) := pw_getf (n := 36) C (inT4 22 rfl rfl) iX9 rfl (by decide) rfl (oM_0) rfl h (fun _ => kk)
theorem gf_9_82 {X : PX} {S : SW} {M : Mem} {cc : ByteArray} {f lo pc : Nat} {ls : List (Option Value)} {st : List Value} (C : Cx X S RX9 cc f lo) (h : decode cc pc = .ok (.getfield 82, 3)) (kk : PW X S M (pc + 3) ls (rv S 3 38 0 :: st)) : PW X S M pc ls (rv S 3 0 0 :: st) := pw_getf (n := 37) C (inT4 23 rfl rfl) iX9 rfl (by decide) rfl (oM_0) rfl h (fun _ => kk)
theorem gf_9_290 {X : PX} {S : SW} {M : Mem} {cc : ByteArray} {f lo pc : Nat} {ls : List (Option Value)} {st : List Value} (C : Cx X S RX9 cc f lo) (h : decode cc pc = .ok (.getfield 290, 3)) (kk : InR (M 3 0 0 38) → PW X S M (pc + 3) ls (iv (M 3 0 0 38) :: st)) : PW X S M pc ls (rv S 3 0 0 :: st) := pw_getf (n := 38) C (inT4 24 rfl rfl) iX9 rfl (by decide) rfl (oM_0) rfl h kk
theorem gv_9_290 {X : PX} {S : SW} {M : Mem} {cc : ByteArray} {f lo pc : Nat} {ls : List (Option Value)} {st : List Value} {V : DM} (C : Cx X S RX9 cc f lo) (h : decode cc pc = .ok (.getfield 290, 3)) (kk : InR (V 0 0 38) → PW X S (mst M 3 V) (pc + 3) ls (iv (V 0 0 38) :: st)) : PW X S (mst M 3 V) pc ls (rv S 3 0 0 :: st) := gf_9_290 C h (by rw [mst_s]; exact kk)
theorem pf_9_290 {X : PX} {S : SW} {M : Mem} {cc : ByteArray} {f lo pc : Nat} {ls : List (Option Value)} {st : List Value} (C : Cx X S RX9 cc f lo) {v : Int} (hv : InR v) (h : decode cc pc = .ok (.putfield 290, 3)) (kk : PW X S (mst M 3 (vup (M 3) 0 0 38 v)) (pc + 3) ls st) : PW X S M pc ls (iv v :: rv S 3 0 0 :: st) := pw_putf (n := 38) (q := (0, 0, 0)) C (inT4 24 rfl rfl) iX9 rfl (by decide) rfl tyX9_ok nmX9 rfl (oM_0) rfl rfl rfl rfl hv h kk
theorem pv_9_290 {X : PX} {S : SW} {M : Mem} {cc : ByteArray} {f lo pc : Nat} {ls : List (Option Value)} {st : List Value} {V : DM} (C : Cx X S RX9 cc f lo) {v : Int} (hv : InR v) (h : decode cc pc = .ok (.putfield 290, 3)) (kk : PW X S (mst M 3 (vup V 0 0 38 v)) (pc + 3) ls st) : PW X S (mst M 3 V) pc ls (iv v :: rv S 3 0 0 :: st) := pf_9_290 C hv h (by rw [mst_m, mst_s]; exact kk)
theorem cpy_8_125 : CPY RX8 125 := ⟨(inT2 118 rfl rfl), (inT2 120 rfl rfl), (inT2 119 rfl rfl), (inT1 11 rfl rfl)⟩
theorem cpy_6_45 : CPY RX6 45 := ⟨(inT3 1 rfl rfl), (inT2 120 rfl rfl), (inT2 119 rfl rfl), (inT1 11 rfl rfl)⟩
theorem cpy_0_28 : CPY RX0 28 := ⟨(inT3 6 rfl rfl), (inT2 120 rfl rfl), (inT2 119 rfl rfl), (inT1 11 rfl rfl)⟩
theorem mx_6_55 : MXX RX6 55 Lib.Math.max.name Lib.Math.max.code 2 .int := ⟨(inT3 22 rfl rfl), (inT3 23 rfl rfl), (inT1 12 rfl rfl), (inT3 24 rfl rfl)⟩
theorem cpy_4_98 : CPY RX4 98 := ⟨(inT3 41 rfl rfl), (inT2 120 rfl rfl), (inT2 119 rfl rfl), (inT1 11 rfl rfl)⟩
theorem mx_3_30 : MXX RX3 30 Lib.Math.min.name Lib.Math.min.code 2 .int := ⟨(inT3 84 rfl rfl), (inT3 85 rfl rfl), (inT1 12 rfl rfl), (inT3 86 rfl rfl)⟩
theorem mx_8_321 : MXX RX8 321 Lib.MathLoose.abs_long.x Lib.MathLoose.abs_long.code 2 .long := ⟨(inT3 90 rfl rfl), (inT3 91 rfl rfl), (inT1 12 rfl rfl), (inT3 92 rfl rfl)⟩
