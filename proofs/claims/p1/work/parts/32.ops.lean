theorem mz_eqv {x c : Int32} (k : Int) (hc : c.toInt = k) (h : x.toInt = k) : x = c := Int32.toInt_inj.mp (h.trans hc.symm)
theorem op_letter (x : Int32) : mm_eqI 11 116 [some (.ref 100), some (.int x)] [some (.ref 138), some (.int x)] := by
  by_cases h0 : x.toInt < 0
  · exact oe_letter_0 x (by omega)
  by_cases h1 : 255 < x.toInt
  · exact oe_letter_1 x (by omega)
  obtain ⟨ix, hix, ex⟩ := mz_in (x := x) (N := 256) (by omega) (by omega) (by omega)
  subst ex
  exact mm_chi_ok (mz_all (ob_letter) hix)
theorem op_minister (x y : Int32) : mm_eqI 47 142 [some (.ref 100), some (.int x), some (.int y)] [some (.ref 138), some (.int x), some (.int y)] := by
  by_cases h0 : x.toInt < 0
  · exact oe_minister_0 x y (by omega)
  exact oe_minister_1 x y (by omega)
theorem op_steps (x : Int32) : mm_eqI 57 152 [some (.ref 100), some (.int x)] [some (.ref 138), some (.int x)] := by
  by_cases h0 : x.toInt < 0
  · exact oe_steps_0 x (by omega)
  exact oe_steps_1 x (by omega)
theorem op_turn (x y z0 : Int32) : mm_eqI 59 153 [some (.ref 100), some (.int x), some (.int y), some (.int z0), none] [some (.ref 138), some (.int x), some (.int y), some (.int z0), none, none] := by
  by_cases h0 : x.toInt < 0
  · exact oe_turn_0 x y z0 (by omega)
  exact oe_turn_1 x y z0 (by omega)
theorem op_fallsThen (x y : Int32) : mm_eqI 65 158 [some (.ref 100), some (.int x), some (.int y), none] [some (.ref 138), some (.int x), some (.int y), none] := by
  by_cases h0 : x.toInt < 0
  · exact oe_fallsThen_0 x y (by omega)
  exact oe_fallsThen_1 x y (by omega)
theorem op_bestKind (x y : Int32) : mm_eqI 83 175 [some (.ref 100), some (.int x), some (.int y), none, none] [some (.ref 138), some (.int x), some (.int y), none, none, none, none] := by
  by_cases h0 : x.toInt < 0
  · exact oe_bestKind_0 x y (by omega)
  exact oe_bestKind_1 x y (by omega)
theorem op_two (x y z0 : Int32) : mm_eqI 92 182 [some (.ref 100), some (.int x), some (.int y), some (.int z0), none, none, none] [some (.ref 138), some (.int x), some (.int y), some (.int z0), none, none, none, none] := by
  by_cases h0 : x.toInt < 0
  · exact oe_two_0 x y z0 (by omega)
  exact oe_two_1 x y z0 (by omega)
theorem op_cell (x y : Int32) : mm_eqI 50 143 [some (.ref 100), some (.int x), some (.int y)] [some (.ref 138), some (.int x), some (.int y)] := by
  by_cases h0 : x.toInt < 0
  · exact oe_cell_0 x y (by omega)
  by_cases h1 : 24 < x.toInt
  · exact oe_cell_1 x y (by omega)
  by_cases h2 : y.toInt < 0
  · exact oe_cell_2 x y (by omega) (by omega) (by omega)
  by_cases h3 : 1 < y.toInt
  · exact oe_cell_3 x y (by omega) (by omega) (by omega)
  obtain ⟨ix, hix, ex⟩ := mz_in (x := x) (N := 25) (by omega) (by omega) (by omega)
  subst ex
  obtain ⟨iy, hiy, ey⟩ := mz_in (x := y) (N := 2) (by omega) (by omega) (by omega)
  subst ey
  exact mm_chi_ok (mz_all (mz_all (ob_cell) hix) hiy)
theorem op_pushing (x : Int32) : mm_eqI 51 144 [some (.ref 100), some (.int x)] [some (.ref 138), some (.int x), none, none] := by
  by_cases h0 : x.toInt < 0
  · exact oe_pushing_0 x (by omega)
  by_cases h1 : 2 < x.toInt
  · exact oe_pushing_1 x (by omega)
  obtain ⟨ix, hix, ex⟩ := mz_in (x := x) (N := 3) (by omega) (by omega) (by omega)
  subst ex
  exact mm_chi_ok (mz_all (ob_pushing) hix)
theorem op_heaps (x y : Int32) : mm_eqI 52 145 [some (.ref 100), some (.int x), some (.int y), none] [some (.ref 138), some (.int x), some (.int y), none] := by
  by_cases h0 : x.toInt < 0
  · exact oe_heaps_0 x y (by omega)
  by_cases h1 : 24 < x.toInt
  · exact oe_heaps_1 x y (by omega)
  by_cases h2 : y.toInt < 0
  · exact oe_heaps_2 x y (by omega) (by omega) (by omega)
  by_cases h3 : 9 < y.toInt
  · exact oe_heaps_3 x y (by omega) (by omega) (by omega)
  obtain ⟨ix, hix, ex⟩ := mz_in (x := x) (N := 25) (by omega) (by omega) (by omega)
  subst ex
  obtain ⟨iy, hiy, ey⟩ := mz_in (x := y) (N := 10) (by omega) (by omega) (by omega)
  subst ey
  exact mm_chi_ok (mz_all (mz_all (ob_heaps) hix) hiy)
theorem op_kerbs (x : Int32) : mm_eqI 53 148 [some (.ref 100), some (.int x)] [some (.ref 138), some (.int x)] := by
  by_cases h0 : x.toInt < 0
  · exact oe_kerbs_0 x (by omega)
  by_cases h1 : 24 < x.toInt
  · exact oe_kerbs_1 x (by omega)
  obtain ⟨ix, hix, ex⟩ := mz_in (x := x) (N := 25) (by omega) (by omega) (by omega)
  subst ex
  exact mm_chi_ok (mz_all (ob_kerbs) hix)
theorem op_stands (x : Int32) : mm_eqI 54 149 [some (.ref 100), some (.int x), none] [some (.ref 138), some (.int x)] := by
  by_cases h0 : x.toInt < 0
  · exact oe_stands_0 x (by omega)
  by_cases h1 : 24 < x.toInt
  · exact oe_stands_1 x (by omega)
  obtain ⟨ix, hix, ex⟩ := mz_in (x := x) (N := 25) (by omega) (by omega) (by omega)
  subst ex
  exact mm_chi_ok (mz_all (ob_stands) hix)
theorem op_goal (x : Int32) : mm_eqI 55 150 [some (.ref 100), some (.int x), none] [some (.ref 138), some (.int x)] := by
  by_cases h0 : x.toInt < 0
  · exact oe_goal_0 x (by omega)
  by_cases h1 : 24 < x.toInt
  · exact oe_goal_1 x (by omega)
  obtain ⟨ix, hix, ex⟩ := mz_in (x := x) (N := 25) (by omega) (by omega) (by omega)
  subst ex
  exact mm_chi_ok (mz_all (ob_goal) hix)
theorem op_weighs (x : Int32) : mm_eqI 56 151 [some (.ref 100), some (.int x), none] [some (.ref 138), some (.int x), none] := by
  by_cases h0 : x.toInt < 0
  · exact oe_weighs_0 x (by omega)
  by_cases h1 : 20 < x.toInt
  · exact oe_weighs_1 x (by omega)
  obtain ⟨ix, hix, ex⟩ := mz_in (x := x) (N := 21) (by omega) (by omega) (by omega)
  subst ex
  exact mm_chi_ok (mz_all (ob_weighs) hix)
theorem op_goes (x : Int32) : mm_eqI 60 154 [some (.ref 100), some (.int x)] [some (.ref 138), some (.int x)] := by
  by_cases h0 : x.toInt < 1
  · exact oe_goes_0 x (by omega)
  by_cases h1 : 60 < x.toInt
  · exact oe_goes_1 x (by omega)
  obtain ⟨i, hi, e⟩ := mz_in (x := x) (N := 61) (by omega) (by omega) (by omega)
  subst e
  have h5 : 1 ≤ (nI i).toInt := by omega
  rw [nI_toInt (by omega)] at h5
  exact oe_goes_k i (by omega) (by omega)
theorem op_then (x y : Int32) : mm_eqI 61 155 [some (.ref 100), some (.int x), some (.int y), none] [some (.ref 138), some (.int x), some (.int y), none] := by
  by_cases h0 : x.toInt < 0
  · exact oe_then_0 x y (by omega)
  by_cases h1 : 60 < x.toInt
  · exact oe_then_1 x y (by omega)
  by_cases h2 : y.toInt < 0
  · exact oe_then_2 x y (by omega) (by omega) (by omega)
  by_cases h3 : 2 < y.toInt
  · exact oe_then_3 x y (by omega) (by omega) (by omega)
  obtain ⟨i, hi, e⟩ := mz_in (x := x) (N := 61) (by omega) (by omega) (by omega)
  subst e
  obtain ⟨j, hj, e⟩ := mz_in (x := y) (N := 3) (by omega) (by omega) (by omega)
  subst e
  match j, hj with
  | 0, _ => exact oe_then_k0 i (by omega)
  | 1, _ => exact oe_then_k1 i (by omega)
  | 2, _ => exact oe_then_k2 i (by omega)
  | j + 3, hj => exact absurd hj (by omega)
theorem op_comes (x : Int32) : mm_eqI 66 159 [some (.ref 100), some (.int x), none] [some (.ref 138), some (.int x)] := by
  by_cases h0 : x.toInt < -1
  · exact oe_comes_0 x (by omega)
  by_cases h1 : 24 < x.toInt
  · exact oe_comes_1 x (by omega)
  by_cases h2 : x.toInt = -1
  · rw [mz_eqv (x := x) (c := -1) (-1) (by decide) h2]
    exact oe_comes_2
  by_cases h3 : x.toInt = 0
  · rw [mz_eqv (x := x) (c := 0) 0 (by decide) h3]
    exact oe_comes_3
  exact oe_comes_4 x (by omega) (by omega)
theorem op_down (x : Int32) : mm_eqI 68 161 [some (.ref 100), some (.int x), none] [some (.ref 138), some (.int x)] := by
  by_cases h0 : x.toInt < -1
  · exact oe_down_0 x (by omega)
  by_cases h1 : 0 ≤ x.toInt
  · exact oe_down_1 x (by omega)
  rw [mz_eqv (x := x) (c := -1) (-1) (by decide) (by omega)]
  exact oe_down_2
theorem op_climb (x y : Int32) : mm_eqI 73 165 [some (.ref 100), some (.int x), some (.int y), none, none] [some (.ref 138), some (.int x), some (.int y), none, none, none, none, none] := by
  by_cases h0 : x.toInt < 0
  · exact oe_climb_0 x y (by omega)
  by_cases h1 : 24 < x.toInt
  · exact oe_climb_1 x y (by omega)
  by_cases h2 : y.toInt < 0
  · exact oe_climb_2 x y (by omega) (by omega) (by omega)
  by_cases h3 : 1 < y.toInt
  · exact oe_climb_3 x y (by omega) (by omega) (by omega)
  obtain ⟨i, hi, e⟩ := mz_in (x := x) (N := 25) (by omega) (by omega) (by omega)
  subst e
  obtain ⟨j, hj, e⟩ := mz_in (x := y) (N := 2) (by omega) (by omega) (by omega)
  subst e
  match j, hj with
  | 0, _ => exact oe_climb_10 i hi
  | 1, _ => exact oe_climb_11 i hi
  | j + 2, hj => exact absurd hj (by omega)
theorem op_start (x : Int32) : mm_eqI 81 174 [some (.ref 100), some (.int x), none, none] [some (.ref 138), some (.int x), none, none, none, none] := by
  by_cases h0 : x.toInt < 0
  · exact oe_start_0 x (by omega)
  by_cases h1 : 1 < x.toInt
  · exact oe_start_1 x (by omega)
  obtain ⟨j, hj, e⟩ := mz_in (x := x) (N := 2) (by omega) (by omega) (by omega)
  subst e
  match j, hj with
  | 0, _ => exact oe_start_2
  | 1, _ => exact oe_start_3
  | j + 2, hj => exact absurd hj (by omega)
theorem op_far (x : Int32) : mm_eqI 84 176 [some (.ref 100), some (.int x)] [some (.ref 138), some (.int x), none, none, none, none, none] := by
  by_cases h0 : x.toInt < 0
  · exact oe_far_0 x (by omega)
  by_cases h1 : 3 < x.toInt
  · exact oe_far_1 x (by omega)
  obtain ⟨ix, hix, ex⟩ := mz_in (x := x) (N := 4) (by omega) (by omega) (by omega)
  subst ex
  exact mm_chi_ok (mz_all (ob_far) hix)
theorem op_easy (x : Int32) : mm_eqI 88 180 [some (.ref 100), some (.int x)] [some (.ref 138), some (.int x), none, none, none] := by
  by_cases h0 : x.toInt < 0
  · exact oe_easy_0 x (by omega)
  by_cases h1 : 2 < x.toInt
  · exact oe_easy_1 x (by omega)
  obtain ⟨ix, hix, ex⟩ := mz_in (x := x) (N := 3) (by omega) (by omega) (by omega)
  subst ex
  exact mm_chi_ok (mz_all (ob_easy) hix)
theorem op_mean (x : Int32) : mm_eqL 101 188 [some (.ref 100), some (.int x), none, none] [some (.ref 138), some (.int x), none, none, none] := by
  by_cases h0 : x.toInt < 0
  · exact oe_mean_0 x (by omega)
  by_cases h1 : 1 < x.toInt
  · exact oe_mean_1 x (by omega)
  obtain ⟨ix, hix, ex⟩ := mz_in (x := x) (N := 2) (by omega) (by omega) (by omega)
  subst ex
  exact mm_chl_ok (mz_all (ob_mean) hix)
theorem op_whoPushed (x : Int32) : mm_eqI 102 189 [some (.ref 100), some (.int x)] [some (.ref 138), some (.int x), none, none] := by
  by_cases h0 : x.toInt < 0
  · exact oe_whoPushed_0 x (by omega)
  by_cases h1 : 1 < x.toInt
  · exact oe_whoPushed_1 x (by omega)
  obtain ⟨ix, hix, ex⟩ := mz_in (x := x) (N := 2) (by omega) (by omega) (by omega)
  subst ex
  exact mm_chi_ok (mz_all (ob_whoPushed) hix)
theorem op_row (x : Int32) : mm_eqI 106 191 [some (.ref 100), some (.int x)] [some (.ref 138), some (.int x), none] := by
  by_cases h0 : x.toInt < 0
  · exact oe_row_0 x (by omega)
  by_cases h1 : 99 < x.toInt
  · exact oe_row_1 x (by omega)
  obtain ⟨ix, hix, ex⟩ := mz_in (x := x) (N := 100) (by omega) (by omega) (by omega)
  subst ex
  exact mm_chi_ok (mz_all (ob_row) hix)
theorem op_count (x : Int32) : mm_eqI 114 198 [some (.ref 100), some (.int x)] [some (.ref 138), some (.int x)] := by
  by_cases h0 : x.toInt < 0
  · exact oe_count_0 x (by omega)
  by_cases h1 : 16 < x.toInt
  · exact oe_count_1 x (by omega)
  by_cases h2 : 8 ≤ x.toInt ∧ x.toInt ≤ 10
  · exact oe_count_2 x (by omega) (by omega)
  by_cases h3 : x.toInt < 8
  · obtain ⟨ix, hix, ex⟩ := mz_in (x := x) (N := 8) (by omega) (by omega) (by omega)
    subst ex
    exact mm_chi_ok (mz_all (ob_count) hix)
  obtain ⟨i, hi, e⟩ := mz_in (x := x) (N := 17) (by omega) (by omega) (by omega)
  subst e
  have h5 : 11 ≤ (nI i).toInt := by omega
  rw [nI_toInt (by omega)] at h5
  obtain ⟨k, e⟩ : ∃ k, i = 11 + k := ⟨i - 11, by omega⟩
  subst e
  exact mm_chi_ok (mz_all (ob_count_11) (show k < 6 by omega))
theorem op_lots (x y z0 : Int32) : mm_eqI 109 194 [some (.ref 100), some (.int x), some (.int y), some (.int z0), none, none, none, none, none] [some (.ref 138), some (.int x), some (.int y), some (.int z0), none, none] := by
  by_cases h0 : x.toInt < 1
  · exact oe_lots_0 x y z0 (by omega)
  by_cases h1 : 20 < x.toInt
  · exact oe_lots_1 x y z0 (by omega)
  by_cases h2 : z0.toInt < 0
  · exact oe_lots_2 x y z0 (by omega) (by omega) (by omega)
  by_cases h3 : 1 < z0.toInt
  · exact oe_lots_3 x y z0 (by omega) (by omega) (by omega)
  obtain ⟨i, hi, e⟩ := mz_in (x := x) (N := 21) (by omega) (by omega) (by omega)
  subst e
  have h5 : 1 ≤ (nI i).toInt := by omega
  rw [nI_toInt (by omega)] at h5
  obtain ⟨k, e⟩ : ∃ k, i = k + 1 := ⟨i - 1, by omega⟩
  subst e
  obtain ⟨j, hj, e⟩ := mz_in (x := z0) (N := 2) (by omega) (by omega) (by omega)
  subst e
  match j, hj with
  | 0, _ => exact oe_lots_10 k (by omega) y
  | 1, _ => exact oe_lots_11 k (by omega) y
  | j + 2, hj => exact absurd hj (by omega)
theorem op_plank_open (hpl : ∀ x y z0 q : Int32, 0 ≤ x.toInt → x.toInt ≤ 24 → 0 ≤ y.toInt → y.toInt ≤ 7 → 2 ≤ z0.toInt → z0.toInt ≤ 20 → 0 ≤ q.toInt → q.toInt ≤ 1 → mm_eqL 94 184 [some (.ref 100), some (.int x), some (.int y), some (.int z0), some (.int q), none, none, none] [some (.ref 138), some (.int x), some (.int y), some (.int z0), some (.int q), none, none, none, none, none, none, none, none]) (x y z0 q : Int32) : mm_eqL 94 184 [some (.ref 100), some (.int x), some (.int y), some (.int z0), some (.int q), none, none, none] [some (.ref 138), some (.int x), some (.int y), some (.int z0), some (.int q), none, none, none, none, none, none, none, none] := by
  by_cases h0 : x.toInt < 0
  · exact oe_plank_0 x y z0 q (by omega)
  by_cases h1 : 24 < x.toInt
  · exact oe_plank_1 x y z0 q (by omega)
  by_cases h2 : y.toInt < 0
  · exact oe_plank_2 x y z0 q (by omega) (by omega) (by omega)
  by_cases h3 : z0.toInt < 2
  · exact oe_plank_3 x y z0 q (by omega) (by omega) (by omega) (by omega)
  by_cases h4 : 7 < y.toInt
  · exact oe_plank_4 x y z0 q (by omega) (by omega) (by omega) (by omega)
  by_cases h5 : 20 < z0.toInt
  · exact oe_plank_5 x y z0 q (by omega) (by omega) (by omega) (by omega) (by omega)
  by_cases h6 : q.toInt < 0
  · exact oe_plank_6 x y z0 q (by omega) (by omega) (by omega) (by omega) (by omega) (by omega) (by omega)
  by_cases h7 : 1 < q.toInt
  · exact oe_plank_7 x y z0 q (by omega) (by omega) (by omega) (by omega) (by omega) (by omega) (by omega)
  exact hpl x y z0 q (by omega) (by omega) (by omega) (by omega) (by omega) (by omega) (by omega) (by omega)
theorem op_flat : mm_eqI 79 172 [some (.ref 100), none, none] [some (.ref 138), none, none, none, none] := by
  exact oe_flat_0
theorem op_mostWeight : mm_eqI 80 173 [some (.ref 100), none, none] [some (.ref 138), none] := by
  exact oe_mostWeight_0
theorem op_kingdom : mm_eqI 14 118 [some (.ref 100), none] [some (.ref 138), none, none, none, none, none] := by
  exact mm_chi_ok ob_kingdom
theorem op_stuck : mm_eqI 72 164 [some (.ref 100), none, none, none, none] [some (.ref 138), none, none, none] := by
  exact mm_chi_ok ob_stuck
theorem op_push : mm_eqI 75 166 [some (.ref 100), none, none] [some (.ref 138), none, none, none, none] := by
  exact mm_chi_ok ob_push
theorem op_take : mm_eqI 78 171 [some (.ref 100), none, none] [some (.ref 138), none, none, none, none] := by
  exact mm_chi_ok ob_take
theorem op_judge : mm_eqI 107 192 [some (.ref 100), none, none] [some (.ref 138), none, none] := by
  exact mm_chi_ok ob_judge
theorem op_clear : mm_eqI 108 193 [some (.ref 100), none] [some (.ref 138), none] := by
  exact mm_chi_ok ob_clear
theorem op_image : mm_eqI 112 196 [some (.ref 100)] [some (.ref 138)] := by
  exact mm_chi_ok ob_image
theorem op_on : mm_eqI 113 197 [some (.ref 100)] [some (.ref 138)] := by
  exact mm_chi_ok ob_on
