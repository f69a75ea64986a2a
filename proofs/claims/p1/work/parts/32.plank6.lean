theorem pl_hpl : ∀ x y z0 q : Int32, 0 ≤ x.toInt → x.toInt ≤ 24 → 0 ≤ y.toInt → y.toInt ≤ 7 → 2 ≤ z0.toInt → z0.toInt ≤ 20 → 0 ≤ q.toInt → q.toInt ≤ 1 → mm_eqL 94 184 [some (.ref 100), some (.int x), some (.int y), some (.int z0), some (.int q), none, none, none] [some (.ref 138), some (.int x), some (.int y), some (.int z0), some (.int q), none, none, none, none, none, none, none, none] := by
  intro x y z0 q h1 h2 h3 h4 h5 h6 h7 h8
  obtain ⟨i, hi, e⟩ := mz_in (x := y) (N := 8) (by omega) (by omega) (by omega)
  subst e
  match i, hi with
  | 0, _ =>
    by_cases hx : x.toInt = 0
    · rw [mz_eqv (x := x) (c := 0) 0 (by decide) hx]
      exact pl_eq0_0 z0 q h5 h6 h7 h8
    · exact pl_eq0_1 x (by omega) h2 z0 q h5 h6 h7 h8
  | 1, _ =>
    by_cases hx : x.toInt = 0
    · rw [mz_eqv (x := x) (c := 0) 0 (by decide) hx]
      exact pl_eq1_0 z0 q h5 h6 h7 h8
    · exact pl_eq1_1 x (by omega) h2 z0 q h5 h6 h7 h8
  | 2, _ =>
    by_cases hx : x.toInt = 0
    · rw [mz_eqv (x := x) (c := 0) 0 (by decide) hx]
      exact pl_eq2_0 z0 q h5 h6 h7 h8
    · exact pl_eq2_1 x (by omega) h2 z0 q h5 h6 h7 h8
  | 3, _ =>
    by_cases hx : x.toInt = 0
    · rw [mz_eqv (x := x) (c := 0) 0 (by decide) hx]
      exact pl_eq3_0 z0 q h5 h6 h7 h8
    · exact pl_eq3_1 x (by omega) h2 z0 q h5 h6 h7 h8
  | 4, _ =>
    by_cases hx : x.toInt = 0
    · rw [mz_eqv (x := x) (c := 0) 0 (by decide) hx]
      exact pl_eq4_0 z0 q h5 h6 h7 h8
    · exact pl_eq4_1 x (by omega) h2 z0 q h5 h6 h7 h8
  | 5, _ =>
    by_cases hx : x.toInt = 0
    · rw [mz_eqv (x := x) (c := 0) 0 (by decide) hx]
      exact pl_eq5_0 z0 q h5 h6 h7 h8
    · exact pl_eq5_1 x (by omega) h2 z0 q h5 h6 h7 h8
  | 6, _ =>
    by_cases hx : x.toInt = 0
    · rw [mz_eqv (x := x) (c := 0) 0 (by decide) hx]
      exact pl_eq6_0 z0 q h5 h6 h7 h8
    · exact pl_eq6_1 x (by omega) h2 z0 q h5 h6 h7 h8
  | 7, _ =>
    by_cases hx : x.toInt = 0
    · rw [mz_eqv (x := x) (c := 0) 0 (by decide) hx]
      exact pl_eq7_0 z0 q h5 h6 h7 h8
    · exact pl_eq7_1 x (by omega) h2 z0 q h5 h6 h7 h8
  | i + 8, hi => exact absurd hi (by omega)
