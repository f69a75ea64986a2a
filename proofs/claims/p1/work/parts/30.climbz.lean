set_option maxRecDepth 100000 in
theorem oe_climb_10 (j : Nat) (hj : j < 25) : mm_eqI 73 165 [some (.ref 100), some (.int (nI j)), some (.int 0), none, none] [some (.ref 138), some (.int (nI j)), some (.int 0), none, none, none, none, none] := by
  have hxl : 0 ≤ (nI j).toInt := by rw [nI_toInt (by omega)]; omega
  have hxu : (nI j).toInt ≤ 24 := by rw [nI_toInt (by omega)]; omega
  exact ⟨123146, 0, _, _, (cc_climb0 118433 (nI j) hxl hxu).trans (cc_climb0_f 118433 j hj), (mo_climb0_1 122730 (nI j) hxl hxu).trans ((mo_climb0_2 118010 (nI j) hxl hxu).trans ((mo_climb0_r 24 1 0 (nI j) hxl hxu (by omega)).trans (mo_climb0_f 0 j hj)))⟩
set_option maxRecDepth 100000 in
theorem oe_climb_11 (j : Nat) (hj : j < 25) : mm_eqI 73 165 [some (.ref 100), some (.int (nI j)), some (.int 1), none, none] [some (.ref 138), some (.int (nI j)), some (.int 1), none, none, none, none, none] := by
  have hxl : 0 ≤ (nI j).toInt := by rw [nI_toInt (by omega)]; omega
  have hxu : (nI j).toInt ≤ 24 := by rw [nI_toInt (by omega)]; omega
  exact ⟨137706, 0, _, _, (cc_climb1 132992 (nI j) hxl hxu).trans (cc_climb1_f 132992 j hj), (mo_climb1_1 137290 (nI j) hxl hxu).trans ((mo_climb1_2 132010 (nI j) hxl hxu).trans ((mo_climb1_r 24 1 0 (nI j) hxl hxu (by omega)).trans (mo_climb1_f 0 j hj)))⟩
