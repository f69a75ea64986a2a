set_option maxRecDepth 100000 in
theorem pl_mi0_0 (k : Nat) : ∀ (j n : Nat) (b1 : Int32) (y q p : Int32) (A Bv wt : Int64), j + k = 0 → 24 * k + 700 ≤ n → ∃ m, n ≤ m + 24 * k + 3 ∧ mm_x none n 184 121 [some (.ref 138), some (.int 0), some (.int 0), some (.int y), some (.int q), some (.long A), none, some (.long Bv), none, some (.int p), some (.long wt), none, some (.int (nI j))] [] (mm_MC 0 0 24 1 5 (0 + (nI 0)) 0 0 0 0 0 0 0 0 b1 0 24 1 5 0 0 0 0 0 0 ([0, 0, 0, 0, 0, 0, 0, 0, 0, 0, 0, 0, 0, 0, 0, 0, 0, 0, 0, 0, 0, 0, 0, 0, 0]) ([0, 0, 0, 0, 0, 0, 0, 0, 0, 0, 0, 0, 0, 0, 0, 0, 0, 0, 0, 0, 0, 0, 0, 0, 0])) 0 0 = mm_x none m 184 178 [some (.ref 138), some (.int 0), some (.int 0), some (.int y), some (.int q), some (.long A), none, some (.long Bv), none, some (.int p), some (.long (ms_ml (ms_gw ((y - 1).toInt64) p) k j wt)), none, some (.int (nI 0))] [] (mm_MC 0 0 24 1 5 (0 + (nI 0)) 0 0 0 0 0 0 0 0 (b1 + nI k) 0 24 1 5 0 0 0 0 0 0 ([0, 0, 0, 0, 0, 0, 0, 0, 0, 0, 0, 0, 0, 0, 0, 0, 0, 0, 0, 0, 0, 0, 0, 0, 0]) ([0, 0, 0, 0, 0, 0, 0, 0, 0, 0, 0, 0, 0, 0, 0, 0, 0, 0, 0, 0, 0, 0, 0, 0, 0])) 0 0 := by
  induction k with
  | zero =>
    intro j n b1 y q p A Bv wt hj hn
    have f0 : n - 700 + 700 = n := by omega
    have e : j = 0 := by omega
    subst e
    have ex := pl_m0_0_e (n - 700) b1 y q p (nI 0) A Bv wt (show nI 0 ≤ nI 0 from nI_le (Nat.le_refl 0) (by omega))
    rw [f0] at ex
    have e0 : b1 + nI 0 = b1 := by rw [nI_0, Int32.add_zero]
    rw [e0, ms_ml_0]
    exact ⟨n - 700 + 697, by omega, ex⟩
  | succ k IH =>
    intro j n b1 y q p A Bv wt hj hn
    have f0 : n - 700 + 700 = n := by omega
    have e2 : nI j + 1 = nI (j + 1) := nI_1 j
    have e1 : b1 + nI (k + 1) = (b1 + 1) + nI k := by rw [nI_succ, Int32.add_assoc, Int32.add_comm 1 (nI k)]
    by_cases hb : ((p >>> (nI j &&& 31)) &&& 1) = 1
    · have it := pl_m0_0_b (n - 700) b1 y q p (nI j) A Bv wt (show ¬ nI 0 ≤ nI j from nI_ge (by omega) (by omega)) hb
      rw [f0, e2] at it
      obtain ⟨m, hm, ih⟩ := IH (j + 1) (n - 700 + 677) (b1 + 1) y q p A Bv (wt * 1) (by omega) (by omega)
      rw [e1, ms_ml_s, ms_gw_t hb]
      exact ⟨m, by omega, it.trans ih⟩
    · have it := pl_m0_0_n (n - 700) b1 y q p (nI j) A Bv wt (show ¬ nI 0 ≤ nI j from nI_ge (by omega) (by omega)) hb
      rw [f0, e2] at it
      obtain ⟨m, hm, ih⟩ := IH (j + 1) (n - 700 + 676) (b1 + 1) y q p A Bv (wt * ((y - 1).toInt64)) (by omega) (by omega)
      rw [e1, ms_ml_s, ms_gw_f hb]
      exact ⟨m, by omega, it.trans ih⟩
set_option maxRecDepth 100000 in
theorem pl_mo0_0_0 (j n : Nat) (b1 b2 b3 b4 b5 : Int32) (y q : Int32) (A Bv : Int64) (hj : j < 1) (hn : 30 + 1400 ≤ n) : ∃ m, n ≤ m + 30 ∧ mm_x none n 184 96 [some (.ref 138), some (.int 0), some (.int 0), some (.int y), some (.int q), some (.long A), none, some (.long Bv), none, some (.int (nI j)), none, none, none] [] (mm_MC 0 0 24 1 5 (0 + (nI 0)) 0 0 0 0 0 0 0 0 b1 b2 b3 b4 b5 0 0 0 0 0 0 ([0, 0, 0, 0, 0, 0, 0, 0, 0, 0, 0, 0, 0, 0, 0, 0, 0, 0, 0, 0, 0, 0, 0, 0, 0]) ([0, 0, 0, 0, 0, 0, 0, 0, 0, 0, 0, 0, 0, 0, 0, 0, 0, 0, 0, 0, 0, 0, 0, 0, 0])) 0 0 = mm_x none m 184 96 [some (.ref 138), some (.int 0), some (.int 0), some (.int y), some (.int q), some (.long (ms_gm 0 ((y - 1).toInt64) j A)), none, some (.long Bv), none, some (.int (nI (j + 1))), some (.long (ms_ml (ms_gw ((y - 1).toInt64) (nI j)) 0 0 1)), none, some (.int (nI 0))] [] (mm_MC 0 0 24 1 5 (0 + (nI 0)) 0 0 0 0 0 0 0 0 (0 + nI 0) 0 24 1 5 0 0 0 0 0 0 ([0, 0, 0, 0, 0, 0, 0, 0, 0, 0, 0, 0, 0, 0, 0, 0, 0, 0, 0, 0, 0, 0, 0, 0, 0]) ([0, 0, 0, 0, 0, 0, 0, 0, 0, 0, 0, 0, 0, 0, 0, 0, 0, 0, 0, 0, 0, 0, 0, 0, 0])) 0 0 := by
  have f0 : n - 700 + 700 = n := by omega
  have e2 : nI j + 1 = nI (j + 1) := nI_1 j
  have pre := pl_m0_0_p0 (n - 700) b1 b2 b3 b4 b5 y q (nI j) A Bv (show ¬ nI 1 ≤ nI j from nI_ge (by omega) (by omega))
  rw [f0] at pre
  obtain ⟨m, hm, hi⟩ := pl_mi0_0 0 0 (n - 700 + 686) 0 y q (nI j) A Bv 1 (by omega) (by omega)
  have po := pl_m0_0_a (m - 700) (0 + nI 0) y q (nI j) (nI 0) A Bv (ms_ml (ms_gw ((y - 1).toInt64) (nI j)) 0 0 1)
  have f1 : m - 700 + 700 = m := by omega
  rw [f1, e2] at po
  exact ⟨m - 700 + 687, by omega, (pre.trans hi).trans po⟩
set_option maxRecDepth 100000 in
theorem pl_mo0_0_1 (j n : Nat) (b1 b2 b3 b4 b5 : Int32) (y q : Int32) (A Bv : Int64) (wv : Int64) (kv : Int32) (hj : j < 1) (hn : 30 + 1400 ≤ n) : ∃ m, n ≤ m + 30 ∧ mm_x none n 184 96 [some (.ref 138), some (.int 0), some (.int 0), some (.int y), some (.int q), some (.long A), none, some (.long Bv), none, some (.int (nI j)), some (.long wv), none, some (.int kv)] [] (mm_MC 0 0 24 1 5 (0 + (nI 0)) 0 0 0 0 0 0 0 0 b1 b2 b3 b4 b5 0 0 0 0 0 0 ([0, 0, 0, 0, 0, 0, 0, 0, 0, 0, 0, 0, 0, 0, 0, 0, 0, 0, 0, 0, 0, 0, 0, 0, 0]) ([0, 0, 0, 0, 0, 0, 0, 0, 0, 0, 0, 0, 0, 0, 0, 0, 0, 0, 0, 0, 0, 0, 0, 0, 0])) 0 0 = mm_x none m 184 96 [some (.ref 138), some (.int 0), some (.int 0), some (.int y), some (.int q), some (.long (ms_gm 0 ((y - 1).toInt64) j A)), none, some (.long Bv), none, some (.int (nI (j + 1))), some (.long (ms_ml (ms_gw ((y - 1).toInt64) (nI j)) 0 0 1)), none, some (.int (nI 0))] [] (mm_MC 0 0 24 1 5 (0 + (nI 0)) 0 0 0 0 0 0 0 0 (0 + nI 0) 0 24 1 5 0 0 0 0 0 0 ([0, 0, 0, 0, 0, 0, 0, 0, 0, 0, 0, 0, 0, 0, 0, 0, 0, 0, 0, 0, 0, 0, 0, 0, 0]) ([0, 0, 0, 0, 0, 0, 0, 0, 0, 0, 0, 0, 0, 0, 0, 0, 0, 0, 0, 0, 0, 0, 0, 0, 0])) 0 0 := by
  have f0 : n - 700 + 700 = n := by omega
  have e2 : nI j + 1 = nI (j + 1) := nI_1 j
  have pre := pl_m0_0_p1 (n - 700) b1 b2 b3 b4 b5 y q (nI j) A Bv wv kv (show ¬ nI 1 ≤ nI j from nI_ge (by omega) (by omega))
  rw [f0] at pre
  obtain ⟨m, hm, hi⟩ := pl_mi0_0 0 0 (n - 700 + 686) 0 y q (nI j) A Bv 1 (by omega) (by omega)
  have po := pl_m0_0_a (m - 700) (0 + nI 0) y q (nI j) (nI 0) A Bv (ms_ml (ms_gw ((y - 1).toInt64) (nI j)) 0 0 1)
  have f1 : m - 700 + 700 = m := by omega
  rw [f1, e2] at po
  exact ⟨m - 700 + 687, by omega, (pre.trans hi).trans po⟩
set_option maxRecDepth 100000 in
theorem pl_ma0_0 (k : Nat) : ∀ (j n : Nat) (b1 b2 b3 b4 b5 : Int32) (y q : Int32) (A Bv wv : Int64) (kv : Int32), j + k = 1 → 30 * k + 2100 ≤ n → ∃ (m : Nat) (w2 : Int64) (k2 : Int32) (c1 c2 c3 c4 c5 : Int32), 2100 ≤ m ∧ mm_x none n 184 96 [some (.ref 138), some (.int 0), some (.int 0), some (.int y), some (.int q), some (.long A), none, some (.long Bv), none, some (.int (nI j)), some (.long wv), none, some (.int kv)] [] (mm_MC 0 0 24 1 5 (0 + (nI 0)) 0 0 0 0 0 0 0 0 b1 b2 b3 b4 b5 0 0 0 0 0 0 ([0, 0, 0, 0, 0, 0, 0, 0, 0, 0, 0, 0, 0, 0, 0, 0, 0, 0, 0, 0, 0, 0, 0, 0, 0]) ([0, 0, 0, 0, 0, 0, 0, 0, 0, 0, 0, 0, 0, 0, 0, 0, 0, 0, 0, 0, 0, 0, 0, 0, 0])) 0 0 = mm_x none m 184 96 [some (.ref 138), some (.int 0), some (.int 0), some (.int y), some (.int q), some (.long (ms_ml (ms_gm 0 ((y - 1).toInt64)) k j A)), none, some (.long Bv), none, some (.int (nI 1)), some (.long w2), none, some (.int k2)] [] (mm_MC 0 0 24 1 5 (0 + (nI 0)) 0 0 0 0 0 0 0 0 c1 c2 c3 c4 c5 0 0 0 0 0 0 ([0, 0, 0, 0, 0, 0, 0, 0, 0, 0, 0, 0, 0, 0, 0, 0, 0, 0, 0, 0, 0, 0, 0, 0, 0]) ([0, 0, 0, 0, 0, 0, 0, 0, 0, 0, 0, 0, 0, 0, 0, 0, 0, 0, 0, 0, 0, 0, 0, 0, 0])) 0 0 := by
  induction k with
  | zero =>
    intro j n b1 b2 b3 b4 b5 y q A Bv wv kv hj hn
    have e : j = 1 := by omega
    subst e
    exact ⟨n, wv, kv, b1, b2, b3, b4, b5, by omega, rfl⟩
  | succ k IH =>
    intro j n b1 b2 b3 b4 b5 y q A Bv wv kv hj hn
    obtain ⟨m, hm, h⟩ := pl_mo0_0_1 j n b1 b2 b3 b4 b5 y q A Bv wv kv (by omega) (by omega)
    obtain ⟨m2, w2, k2, c1, c2, c3, c4, c5, hm2, h2⟩ := IH (j + 1) m (0 + nI 0) 0 24 1 5 y q (ms_gm 0 ((y - 1).toInt64) j A) Bv (ms_ml (ms_gw ((y - 1).toInt64) (nI j)) 0 0 1) (nI 0) (by omega) (by omega)
    exact ⟨m2, w2, k2, c1, c2, c3, c4, c5, hm2, h.trans h2⟩
set_option maxRecDepth 100000 in
theorem pl_mt0_0 (n : Nat) (b1 b2 b3 b4 b5 : Int32) (y q : Int32) (Bv : Int64) (hn : 2130 ≤ n) : ∃ (m : Nat) (w2 : Int64) (k2 : Int32) (c1 c2 c3 c4 c5 : Int32), 2100 ≤ m ∧ mm_x none n 184 96 [some (.ref 138), some (.int 0), some (.int 0), some (.int y), some (.int q), some (.long 0), none, some (.long Bv), none, some (.int 0), none, none, none] [] (mm_MC 0 0 24 1 5 (0 + (nI 0)) 0 0 0 0 0 0 0 0 b1 b2 b3 b4 b5 0 0 0 0 0 0 ([0, 0, 0, 0, 0, 0, 0, 0, 0, 0, 0, 0, 0, 0, 0, 0, 0, 0, 0, 0, 0, 0, 0, 0, 0]) ([0, 0, 0, 0, 0, 0, 0, 0, 0, 0, 0, 0, 0, 0, 0, 0, 0, 0, 0, 0, 0, 0, 0, 0, 0])) 0 0 = mm_x none m 184 96 [some (.ref 138), some (.int 0), some (.int 0), some (.int y), some (.int q), some (.long (ms_ml (ms_gm 0 ((y - 1).toInt64)) 1 0 0)), none, some (.long Bv), none, some (.int (nI 1)), some (.long w2), none, some (.int k2)] [] (mm_MC 0 0 24 1 5 (0 + (nI 0)) 0 0 0 0 0 0 0 0 c1 c2 c3 c4 c5 0 0 0 0 0 0 ([0, 0, 0, 0, 0, 0, 0, 0, 0, 0, 0, 0, 0, 0, 0, 0, 0, 0, 0, 0, 0, 0, 0, 0, 0]) ([0, 0, 0, 0, 0, 0, 0, 0, 0, 0, 0, 0, 0, 0, 0, 0, 0, 0, 0, 0, 0, 0, 0, 0, 0])) 0 0 := by
  obtain ⟨m, hm, h⟩ := pl_mo0_0_0 0 n b1 b2 b3 b4 b5 y q 0 Bv (by omega) (by omega)
  obtain ⟨m2, w2, k2, c1, c2, c3, c4, c5, hm2, h2⟩ := pl_ma0_0 0 1 m (0 + nI 0) 0 24 1 5 y q (ms_gm 0 ((y - 1).toInt64) 0 0) Bv (ms_ml (ms_gw ((y - 1).toInt64) (nI 0)) 0 0 1) (nI 0) (by omega) (by omega)
  exact ⟨m2, w2, k2, c1, c2, c3, c4, c5, hm2, h.trans h2⟩
set_option maxRecDepth 100000 in
theorem pl_mi0_1 (k : Nat) : ∀ (j n : Nat) (b1 : Int32) (x : Int32) (hxl : 1 ≤ x.toInt) (hxu : x.toInt ≤ 24) (y q p : Int32) (A Bv wt : Int64), j + k = 0 → 24 * k + 700 ≤ n → ∃ m, n ≤ m + 24 * k + 3 ∧ mm_x none n 184 121 [some (.ref 138), some (.int x), some (.int 0), some (.int y), some (.int q), some (.long A), none, some (.long Bv), none, some (.int p), some (.long wt), none, some (.int (nI j))] [] (mm_MC 0 0 24 1 5 (0 + (nI 0)) 0 0 0 0 0 0 0 0 b1 0 24 1 5 0 0 0 0 0 0 ([0, 0, 0, 0, 0, 0, 0, 0, 0, 0, 0, 0, 0, 0, 0, 0, 0, 0, 0, 0, 0, 0, 0, 0, 0]) ([0, 0, 0, 0, 0, 0, 0, 0, 0, 0, 0, 0, 0, 0, 0, 0, 0, 0, 0, 0, 0, 0, 0, 0, 0])) 0 0 = mm_x none m 184 178 [some (.ref 138), some (.int x), some (.int 0), some (.int y), some (.int q), some (.long A), none, some (.long Bv), none, some (.int p), some (.long (ms_ml (ms_gw ((y - 1).toInt64) p) k j wt)), none, some (.int (nI 0))] [] (mm_MC 0 0 24 1 5 (0 + (nI 0)) 0 0 0 0 0 0 0 0 (b1 + nI k) 0 24 1 5 0 0 0 0 0 0 ([0, 0, 0, 0, 0, 0, 0, 0, 0, 0, 0, 0, 0, 0, 0, 0, 0, 0, 0, 0, 0, 0, 0, 0, 0]) ([0, 0, 0, 0, 0, 0, 0, 0, 0, 0, 0, 0, 0, 0, 0, 0, 0, 0, 0, 0, 0, 0, 0, 0, 0])) 0 0 := by
  induction k with
  | zero =>
    intro j n b1 x hxl hxu y q p A Bv wt hj hn
    have f0 : n - 700 + 700 = n := by omega
    have e : j = 0 := by omega
    subst e
    have ex := pl_m0_1_e (n - 700) b1 x hxl hxu y q p (nI 0) A Bv wt (show nI 0 ≤ nI 0 from nI_le (Nat.le_refl 0) (by omega))
    rw [f0] at ex
    have e0 : b1 + nI 0 = b1 := by rw [nI_0, Int32.add_zero]
    rw [e0, ms_ml_0]
    exact ⟨n - 700 + 697, by omega, ex⟩
  | succ k IH =>
    intro j n b1 x hxl hxu y q p A Bv wt hj hn
    have f0 : n - 700 + 700 = n := by omega
    have e2 : nI j + 1 = nI (j + 1) := nI_1 j
    have e1 : b1 + nI (k + 1) = (b1 + 1) + nI k := by rw [nI_succ, Int32.add_assoc, Int32.add_comm 1 (nI k)]
    by_cases hb : ((p >>> (nI j &&& 31)) &&& 1) = 1
    · have it := pl_m0_1_b (n - 700) b1 x hxl hxu y q p (nI j) A Bv wt (show ¬ nI 0 ≤ nI j from nI_ge (by omega) (by omega)) hb
      rw [f0, e2] at it
      obtain ⟨m, hm, ih⟩ := IH (j + 1) (n - 700 + 677) (b1 + 1) x hxl hxu y q p A Bv (wt * 1) (by omega) (by omega)
      rw [e1, ms_ml_s, ms_gw_t hb]
      exact ⟨m, by omega, it.trans ih⟩
    · have it := pl_m0_1_n (n - 700) b1 x hxl hxu y q p (nI j) A Bv wt (show ¬ nI 0 ≤ nI j from nI_ge (by omega) (by omega)) hb
      rw [f0, e2] at it
      obtain ⟨m, hm, ih⟩ := IH (j + 1) (n - 700 + 676) (b1 + 1) x hxl hxu y q p A Bv (wt * ((y - 1).toInt64)) (by omega) (by omega)
      rw [e1, ms_ml_s, ms_gw_f hb]
      exact ⟨m, by omega, it.trans ih⟩
set_option maxRecDepth 100000 in
theorem pl_mo0_1_0 (j n : Nat) (b1 b2 b3 b4 b5 : Int32) (x : Int32) (hxl : 1 ≤ x.toInt) (hxu : x.toInt ≤ 24) (y q : Int32) (A Bv : Int64) (hj : j < 1) (hn : 29 + 1400 ≤ n) : ∃ m, n ≤ m + 29 ∧ mm_x none n 184 96 [some (.ref 138), some (.int x), some (.int 0), some (.int y), some (.int q), some (.long A), none, some (.long Bv), none, some (.int (nI j)), none, none, none] [] (mm_MC 0 0 24 1 5 (0 + (nI 0)) 0 0 0 0 0 0 0 0 b1 b2 b3 b4 b5 0 0 0 0 0 0 ([0, 0, 0, 0, 0, 0, 0, 0, 0, 0, 0, 0, 0, 0, 0, 0, 0, 0, 0, 0, 0, 0, 0, 0, 0]) ([0, 0, 0, 0, 0, 0, 0, 0, 0, 0, 0, 0, 0, 0, 0, 0, 0, 0, 0, 0, 0, 0, 0, 0, 0])) 0 0 = mm_x none m 184 96 [some (.ref 138), some (.int x), some (.int 0), some (.int y), some (.int q), some (.long (ms_g0 j A)), none, some (.long Bv), none, some (.int (nI (j + 1))), some (.long (ms_ml (ms_gw ((y - 1).toInt64) (nI j)) 0 0 1)), none, some (.int (nI 0))] [] (mm_MC 0 0 24 1 5 (0 + (nI 0)) 0 0 0 0 0 0 0 0 (0 + nI 0) 0 24 1 5 0 0 0 0 0 0 ([0, 0, 0, 0, 0, 0, 0, 0, 0, 0, 0, 0, 0, 0, 0, 0, 0, 0, 0, 0, 0, 0, 0, 0, 0]) ([0, 0, 0, 0, 0, 0, 0, 0, 0, 0, 0, 0, 0, 0, 0, 0, 0, 0, 0, 0, 0, 0, 0, 0, 0])) 0 0 := by
  have f0 : n - 700 + 700 = n := by omega
  have e2 : nI j + 1 = nI (j + 1) := nI_1 j
  have pre := pl_m0_1_p0 (n - 700) b1 b2 b3 b4 b5 x hxl hxu y q (nI j) A Bv (show ¬ nI 1 ≤ nI j from nI_ge (by omega) (by omega))
  rw [f0] at pre
  obtain ⟨m, hm, hi⟩ := pl_mi0_1 0 0 (n - 700 + 686) 0 x hxl hxu y q (nI j) A Bv 1 (by omega) (by omega)
  have po := pl_m0_1_a (m - 700) (0 + nI 0) x hxl hxu y q (nI j) (nI 0) A Bv (ms_ml (ms_gw ((y - 1).toInt64) (nI j)) 0 0 1)
  have f1 : m - 700 + 700 = m := by omega
  rw [f1, e2] at po
  exact ⟨m - 700 + 688, by omega, (pre.trans hi).trans po⟩
set_option maxRecDepth 100000 in
theorem pl_mo0_1_1 (j n : Nat) (b1 b2 b3 b4 b5 : Int32) (x : Int32) (hxl : 1 ≤ x.toInt) (hxu : x.toInt ≤ 24) (y q : Int32) (A Bv : Int64) (wv : Int64) (kv : Int32) (hj : j < 1) (hn : 29 + 1400 ≤ n) : ∃ m, n ≤ m + 29 ∧ mm_x none n 184 96 [some (.ref 138), some (.int x), some (.int 0), some (.int y), some (.int q), some (.long A), none, some (.long Bv), none, some (.int (nI j)), some (.long wv), none, some (.int kv)] [] (mm_MC 0 0 24 1 5 (0 + (nI 0)) 0 0 0 0 0 0 0 0 b1 b2 b3 b4 b5 0 0 0 0 0 0 ([0, 0, 0, 0, 0, 0, 0, 0, 0, 0, 0, 0, 0, 0, 0, 0, 0, 0, 0, 0, 0, 0, 0, 0, 0]) ([0, 0, 0, 0, 0, 0, 0, 0, 0, 0, 0, 0, 0, 0, 0, 0, 0, 0, 0, 0, 0, 0, 0, 0, 0])) 0 0 = mm_x none m 184 96 [some (.ref 138), some (.int x), some (.int 0), some (.int y), some (.int q), some (.long (ms_g0 j A)), none, some (.long Bv), none, some (.int (nI (j + 1))), some (.long (ms_ml (ms_gw ((y - 1).toInt64) (nI j)) 0 0 1)), none, some (.int (nI 0))] [] (mm_MC 0 0 24 1 5 (0 + (nI 0)) 0 0 0 0 0 0 0 0 (0 + nI 0) 0 24 1 5 0 0 0 0 0 0 ([0, 0, 0, 0, 0, 0, 0, 0, 0, 0, 0, 0, 0, 0, 0, 0, 0, 0, 0, 0, 0, 0, 0, 0, 0]) ([0, 0, 0, 0, 0, 0, 0, 0, 0, 0, 0, 0, 0, 0, 0, 0, 0, 0, 0, 0, 0, 0, 0, 0, 0])) 0 0 := by
  have f0 : n - 700 + 700 = n := by omega
  have e2 : nI j + 1 = nI (j + 1) := nI_1 j
  have pre := pl_m0_1_p1 (n - 700) b1 b2 b3 b4 b5 x hxl hxu y q (nI j) A Bv wv kv (show ¬ nI 1 ≤ nI j from nI_ge (by omega) (by omega))
  rw [f0] at pre
  obtain ⟨m, hm, hi⟩ := pl_mi0_1 0 0 (n - 700 + 686) 0 x hxl hxu y q (nI j) A Bv 1 (by omega) (by omega)
  have po := pl_m0_1_a (m - 700) (0 + nI 0) x hxl hxu y q (nI j) (nI 0) A Bv (ms_ml (ms_gw ((y - 1).toInt64) (nI j)) 0 0 1)
  have f1 : m - 700 + 700 = m := by omega
  rw [f1, e2] at po
  exact ⟨m - 700 + 688, by omega, (pre.trans hi).trans po⟩
set_option maxRecDepth 100000 in
theorem pl_ma0_1 (k : Nat) : ∀ (j n : Nat) (b1 b2 b3 b4 b5 : Int32) (x : Int32) (hxl : 1 ≤ x.toInt) (hxu : x.toInt ≤ 24) (y q : Int32) (A Bv wv : Int64) (kv : Int32), j + k = 1 → 29 * k + 2100 ≤ n → ∃ (m : Nat) (w2 : Int64) (k2 : Int32) (c1 c2 c3 c4 c5 : Int32), 2100 ≤ m ∧ mm_x none n 184 96 [some (.ref 138), some (.int x), some (.int 0), some (.int y), some (.int q), some (.long A), none, some (.long Bv), none, some (.int (nI j)), some (.long wv), none, some (.int kv)] [] (mm_MC 0 0 24 1 5 (0 + (nI 0)) 0 0 0 0 0 0 0 0 b1 b2 b3 b4 b5 0 0 0 0 0 0 ([0, 0, 0, 0, 0, 0, 0, 0, 0, 0, 0, 0, 0, 0, 0, 0, 0, 0, 0, 0, 0, 0, 0, 0, 0]) ([0, 0, 0, 0, 0, 0, 0, 0, 0, 0, 0, 0, 0, 0, 0, 0, 0, 0, 0, 0, 0, 0, 0, 0, 0])) 0 0 = mm_x none m 184 96 [some (.ref 138), some (.int x), some (.int 0), some (.int y), some (.int q), some (.long (ms_ml (ms_g0) k j A)), none, some (.long Bv), none, some (.int (nI 1)), some (.long w2), none, some (.int k2)] [] (mm_MC 0 0 24 1 5 (0 + (nI 0)) 0 0 0 0 0 0 0 0 c1 c2 c3 c4 c5 0 0 0 0 0 0 ([0, 0, 0, 0, 0, 0, 0, 0, 0, 0, 0, 0, 0, 0, 0, 0, 0, 0, 0, 0, 0, 0, 0, 0, 0]) ([0, 0, 0, 0, 0, 0, 0, 0, 0, 0, 0, 0, 0, 0, 0, 0, 0, 0, 0, 0, 0, 0, 0, 0, 0])) 0 0 := by
  induction k with
  | zero =>
    intro j n b1 b2 b3 b4 b5 x hxl hxu y q A Bv wv kv hj hn
    have e : j = 1 := by omega
    subst e
    exact ⟨n, wv, kv, b1, b2, b3, b4, b5, by omega, rfl⟩
  | succ k IH =>
    intro j n b1 b2 b3 b4 b5 x hxl hxu y q A Bv wv kv hj hn
    obtain ⟨m, hm, h⟩ := pl_mo0_1_1 j n b1 b2 b3 b4 b5 x hxl hxu y q A Bv wv kv (by omega) (by omega)
    obtain ⟨m2, w2, k2, c1, c2, c3, c4, c5, hm2, h2⟩ := IH (j + 1) m (0 + nI 0) 0 24 1 5 x hxl hxu y q (ms_g0 j A) Bv (ms_ml (ms_gw ((y - 1).toInt64) (nI j)) 0 0 1) (nI 0) (by omega) (by omega)
    exact ⟨m2, w2, k2, c1, c2, c3, c4, c5, hm2, h.trans h2⟩
set_option maxRecDepth 100000 in
theorem pl_mt0_1 (n : Nat) (b1 b2 b3 b4 b5 : Int32) (x : Int32) (hxl : 1 ≤ x.toInt) (hxu : x.toInt ≤ 24) (y q : Int32) (Bv : Int64) (hn : 2129 ≤ n) : ∃ (m : Nat) (w2 : Int64) (k2 : Int32) (c1 c2 c3 c4 c5 : Int32), 2100 ≤ m ∧ mm_x none n 184 96 [some (.ref 138), some (.int x), some (.int 0), some (.int y), some (.int q), some (.long 0), none, some (.long Bv), none, some (.int 0), none, none, none] [] (mm_MC 0 0 24 1 5 (0 + (nI 0)) 0 0 0 0 0 0 0 0 b1 b2 b3 b4 b5 0 0 0 0 0 0 ([0, 0, 0, 0, 0, 0, 0, 0, 0, 0, 0, 0, 0, 0, 0, 0, 0, 0, 0, 0, 0, 0, 0, 0, 0]) ([0, 0, 0, 0, 0, 0, 0, 0, 0, 0, 0, 0, 0, 0, 0, 0, 0, 0, 0, 0, 0, 0, 0, 0, 0])) 0 0 = mm_x none m 184 96 [some (.ref 138), some (.int x), some (.int 0), some (.int y), some (.int q), some (.long (ms_ml (ms_g0) 1 0 0)), none, some (.long Bv), none, some (.int (nI 1)), some (.long w2), none, some (.int k2)] [] (mm_MC 0 0 24 1 5 (0 + (nI 0)) 0 0 0 0 0 0 0 0 c1 c2 c3 c4 c5 0 0 0 0 0 0 ([0, 0, 0, 0, 0, 0, 0, 0, 0, 0, 0, 0, 0, 0, 0, 0, 0, 0, 0, 0, 0, 0, 0, 0, 0]) ([0, 0, 0, 0, 0, 0, 0, 0, 0, 0, 0, 0, 0, 0, 0, 0, 0, 0, 0, 0, 0, 0, 0, 0, 0])) 0 0 := by
  obtain ⟨m, hm, h⟩ := pl_mo0_1_0 0 n b1 b2 b3 b4 b5 x hxl hxu y q 0 Bv (by omega) (by omega)
  obtain ⟨m2, w2, k2, c1, c2, c3, c4, c5, hm2, h2⟩ := pl_ma0_1 0 1 m (0 + nI 0) 0 24 1 5 x hxl hxu y q (ms_g0 0 0) Bv (ms_ml (ms_gw ((y - 1).toInt64) (nI 0)) 0 0 1) (nI 0) (by omega) (by omega)
  exact ⟨m2, w2, k2, c1, c2, c3, c4, c5, hm2, h.trans h2⟩
set_option maxRecDepth 100000 in
theorem pl_mi1_0 (k : Nat) : ∀ (j n : Nat) (b1 : Int32) (y q p : Int32) (A Bv wt : Int64), j + k = 1 → 24 * k + 700 ≤ n → ∃ m, n ≤ m + 24 * k + 3 ∧ mm_x none n 184 121 [some (.ref 138), some (.int 0), some (.int 1), some (.int y), some (.int q), some (.long A), none, some (.long Bv), none, some (.int p), some (.long wt), none, some (.int (nI j))] [] (mm_MC 0 0 24 1 5 (0 + (nI 1)) 0 0 0 0 0 0 0 0 b1 0 24 1 5 0 0 0 0 0 0 ([0, 0, 0, 0, 0, 0, 0, 0, 0, 0, 0, 0, 0, 0, 0, 0, 0, 0, 0, 0, 0, 0, 0, 0, 0]) ([0, 0, 0, 0, 0, 0, 0, 0, 0, 0, 0, 0, 0, 0, 0, 0, 0, 0, 0, 0, 0, 0, 0, 0, 0])) 0 0 = mm_x none m 184 178 [some (.ref 138), some (.int 0), some (.int 1), some (.int y), some (.int q), some (.long A), none, some (.long Bv), none, some (.int p), some (.long (ms_ml (ms_gw ((y - 1).toInt64) p) k j wt)), none, some (.int (nI 1))] [] (mm_MC 0 0 24 1 5 (0 + (nI 1)) 0 0 0 0 0 0 0 0 (b1 + nI k) 0 24 1 5 0 0 0 0 0 0 ([0, 0, 0, 0, 0, 0, 0, 0, 0, 0, 0, 0, 0, 0, 0, 0, 0, 0, 0, 0, 0, 0, 0, 0, 0]) ([0, 0, 0, 0, 0, 0, 0, 0, 0, 0, 0, 0, 0, 0, 0, 0, 0, 0, 0, 0, 0, 0, 0, 0, 0])) 0 0 := by
  induction k with
  | zero =>
    intro j n b1 y q p A Bv wt hj hn
    have f0 : n - 700 + 700 = n := by omega
    have e : j = 1 := by omega
    subst e
    have ex := pl_m1_0_e (n - 700) b1 y q p (nI 1) A Bv wt (show nI 1 ≤ nI 1 from nI_le (Nat.le_refl 1) (by omega))
    rw [f0] at ex
    have e0 : b1 + nI 0 = b1 := by rw [nI_0, Int32.add_zero]
    rw [e0, ms_ml_0]
    exact ⟨n - 700 + 697, by omega, ex⟩
  | succ k IH =>
    intro j n b1 y q p A Bv wt hj hn
    have f0 : n - 700 + 700 = n := by omega
    have e2 : nI j + 1 = nI (j + 1) := nI_1 j
    have e1 : b1 + nI (k + 1) = (b1 + 1) + nI k := by rw [nI_succ, Int32.add_assoc, Int32.add_comm 1 (nI k)]
    by_cases hb : ((p >>> (nI j &&& 31)) &&& 1) = 1
    · have it := pl_m1_0_b (n - 700) b1 y q p (nI j) A Bv wt (show ¬ nI 1 ≤ nI j from nI_ge (by omega) (by omega)) hb
      rw [f0, e2] at it
      obtain ⟨m, hm, ih⟩ := IH (j + 1) (n - 700 + 677) (b1 + 1) y q p A Bv (wt * 1) (by omega) (by omega)
      rw [e1, ms_ml_s, ms_gw_t hb]
      exact ⟨m, by omega, it.trans ih⟩
    · have it := pl_m1_0_n (n - 700) b1 y q p (nI j) A Bv wt (show ¬ nI 1 ≤ nI j from nI_ge (by omega) (by omega)) hb
      rw [f0, e2] at it
      obtain ⟨m, hm, ih⟩ := IH (j + 1) (n - 700 + 676) (b1 + 1) y q p A Bv (wt * ((y - 1).toInt64)) (by omega) (by omega)
      rw [e1, ms_ml_s, ms_gw_f hb]
      exact ⟨m, by omega, it.trans ih⟩
set_option maxRecDepth 100000 in
theorem pl_mo1_0_0 (j n : Nat) (b1 b2 b3 b4 b5 : Int32) (y q : Int32) (A Bv : Int64) (hj : j < 2) (hn : 54 + 1400 ≤ n) : ∃ m, n ≤ m + 54 ∧ mm_x none n 184 96 [some (.ref 138), some (.int 0), some (.int 1), some (.int y), some (.int q), some (.long A), none, some (.long Bv), none, some (.int (nI j)), none, none, none] [] (mm_MC 0 0 24 1 5 (0 + (nI 1)) 0 0 0 0 0 0 0 0 b1 b2 b3 b4 b5 0 0 0 0 0 0 ([0, 0, 0, 0, 0, 0, 0, 0, 0, 0, 0, 0, 0, 0, 0, 0, 0, 0, 0, 0, 0, 0, 0, 0, 0]) ([0, 0, 0, 0, 0, 0, 0, 0, 0, 0, 0, 0, 0, 0, 0, 0, 0, 0, 0, 0, 0, 0, 0, 0, 0])) 0 0 = mm_x none m 184 96 [some (.ref 138), some (.int 0), some (.int 1), some (.int y), some (.int q), some (.long (ms_gm 1 ((y - 1).toInt64) j A)), none, some (.long Bv), none, some (.int (nI (j + 1))), some (.long (ms_ml (ms_gw ((y - 1).toInt64) (nI j)) 1 0 1)), none, some (.int (nI 1))] [] (mm_MC 0 0 24 1 5 (0 + (nI 1)) 0 0 0 0 0 0 0 0 (0 + nI 1) 0 24 1 5 0 0 0 0 0 0 ([0, 0, 0, 0, 0, 0, 0, 0, 0, 0, 0, 0, 0, 0, 0, 0, 0, 0, 0, 0, 0, 0, 0, 0, 0]) ([0, 0, 0, 0, 0, 0, 0, 0, 0, 0, 0, 0, 0, 0, 0, 0, 0, 0, 0, 0, 0, 0, 0, 0, 0])) 0 0 := by
  have f0 : n - 700 + 700 = n := by omega
  have e2 : nI j + 1 = nI (j + 1) := nI_1 j
  have pre := pl_m1_0_p0 (n - 700) b1 b2 b3 b4 b5 y q (nI j) A Bv (show ¬ nI 2 ≤ nI j from nI_ge (by omega) (by omega))
  rw [f0] at pre
  obtain ⟨m, hm, hi⟩ := pl_mi1_0 1 0 (n - 700 + 686) 0 y q (nI j) A Bv 1 (by omega) (by omega)
  have po := pl_m1_0_a (m - 700) (0 + nI 1) y q (nI j) (nI 1) A Bv (ms_ml (ms_gw ((y - 1).toInt64) (nI j)) 1 0 1)
  have f1 : m - 700 + 700 = m := by omega
  rw [f1, e2] at po
  exact ⟨m - 700 + 687, by omega, (pre.trans hi).trans po⟩
set_option maxRecDepth 100000 in
theorem pl_mo1_0_1 (j n : Nat) (b1 b2 b3 b4 b5 : Int32) (y q : Int32) (A Bv : Int64) (wv : Int64) (kv : Int32) (hj : j < 2) (hn : 54 + 1400 ≤ n) : ∃ m, n ≤ m + 54 ∧ mm_x none n 184 96 [some (.ref 138), some (.int 0), some (.int 1), some (.int y), some (.int q), some (.long A), none, some (.long Bv), none, some (.int (nI j)), some (.long wv), none, some (.int kv)] [] (mm_MC 0 0 24 1 5 (0 + (nI 1)) 0 0 0 0 0 0 0 0 b1 b2 b3 b4 b5 0 0 0 0 0 0 ([0, 0, 0, 0, 0, 0, 0, 0, 0, 0, 0, 0, 0, 0, 0, 0, 0, 0, 0, 0, 0, 0, 0, 0, 0]) ([0, 0, 0, 0, 0, 0, 0, 0, 0, 0, 0, 0, 0, 0, 0, 0, 0, 0, 0, 0, 0, 0, 0, 0, 0])) 0 0 = mm_x none m 184 96 [some (.ref 138), some (.int 0), some (.int 1), some (.int y), some (.int q), some (.long (ms_gm 1 ((y - 1).toInt64) j A)), none, some (.long Bv), none, some (.int (nI (j + 1))), some (.long (ms_ml (ms_gw ((y - 1).toInt64) (nI j)) 1 0 1)), none, some (.int (nI 1))] [] (mm_MC 0 0 24 1 5 (0 + (nI 1)) 0 0 0 0 0 0 0 0 (0 + nI 1) 0 24 1 5 0 0 0 0 0 0 ([0, 0, 0, 0, 0, 0, 0, 0, 0, 0, 0, 0, 0, 0, 0, 0, 0, 0, 0, 0, 0, 0, 0, 0, 0]) ([0, 0, 0, 0, 0, 0, 0, 0, 0, 0, 0, 0, 0, 0, 0, 0, 0, 0, 0, 0, 0, 0, 0, 0, 0])) 0 0 := by
  have f0 : n - 700 + 700 = n := by omega
  have e2 : nI j + 1 = nI (j + 1) := nI_1 j
  have pre := pl_m1_0_p1 (n - 700) b1 b2 b3 b4 b5 y q (nI j) A Bv wv kv (show ¬ nI 2 ≤ nI j from nI_ge (by omega) (by omega))
  rw [f0] at pre
  obtain ⟨m, hm, hi⟩ := pl_mi1_0 1 0 (n - 700 + 686) 0 y q (nI j) A Bv 1 (by omega) (by omega)
  have po := pl_m1_0_a (m - 700) (0 + nI 1) y q (nI j) (nI 1) A Bv (ms_ml (ms_gw ((y - 1).toInt64) (nI j)) 1 0 1)
  have f1 : m - 700 + 700 = m := by omega
  rw [f1, e2] at po
  exact ⟨m - 700 + 687, by omega, (pre.trans hi).trans po⟩
set_option maxRecDepth 100000 in
theorem pl_ma1_0 (k : Nat) : ∀ (j n : Nat) (b1 b2 b3 b4 b5 : Int32) (y q : Int32) (A Bv wv : Int64) (kv : Int32), j + k = 2 → 54 * k + 2100 ≤ n → ∃ (m : Nat) (w2 : Int64) (k2 : Int32) (c1 c2 c3 c4 c5 : Int32), 2100 ≤ m ∧ mm_x none n 184 96 [some (.ref 138), some (.int 0), some (.int 1), some (.int y), some (.int q), some (.long A), none, some (.long Bv), none, some (.int (nI j)), some (.long wv), none, some (.int kv)] [] (mm_MC 0 0 24 1 5 (0 + (nI 1)) 0 0 0 0 0 0 0 0 b1 b2 b3 b4 b5 0 0 0 0 0 0 ([0, 0, 0, 0, 0, 0, 0, 0, 0, 0, 0, 0, 0, 0, 0, 0, 0, 0, 0, 0, 0, 0, 0, 0, 0]) ([0, 0, 0, 0, 0, 0, 0, 0, 0, 0, 0, 0, 0, 0, 0, 0, 0, 0, 0, 0, 0, 0, 0, 0, 0])) 0 0 = mm_x none m 184 96 [some (.ref 138), some (.int 0), some (.int 1), some (.int y), some (.int q), some (.long (ms_ml (ms_gm 1 ((y - 1).toInt64)) k j A)), none, some (.long Bv), none, some (.int (nI 2)), some (.long w2), none, some (.int k2)] [] (mm_MC 0 0 24 1 5 (0 + (nI 1)) 0 0 0 0 0 0 0 0 c1 c2 c3 c4 c5 0 0 0 0 0 0 ([0, 0, 0, 0, 0, 0, 0, 0, 0, 0, 0, 0, 0, 0, 0, 0, 0, 0, 0, 0, 0, 0, 0, 0, 0]) ([0, 0, 0, 0, 0, 0, 0, 0, 0, 0, 0, 0, 0, 0, 0, 0, 0, 0, 0, 0, 0, 0, 0, 0, 0])) 0 0 := by
  induction k with
  | zero =>
    intro j n b1 b2 b3 b4 b5 y q A Bv wv kv hj hn
    have e : j = 2 := by omega
    subst e
    exact ⟨n, wv, kv, b1, b2, b3, b4, b5, by omega, rfl⟩
  | succ k IH =>
    intro j n b1 b2 b3 b4 b5 y q A Bv wv kv hj hn
    obtain ⟨m, hm, h⟩ := pl_mo1_0_1 j n b1 b2 b3 b4 b5 y q A Bv wv kv (by omega) (by omega)
    obtain ⟨m2, w2, k2, c1, c2, c3, c4, c5, hm2, h2⟩ := IH (j + 1) m (0 + nI 1) 0 24 1 5 y q (ms_gm 1 ((y - 1).toInt64) j A) Bv (ms_ml (ms_gw ((y - 1).toInt64) (nI j)) 1 0 1) (nI 1) (by omega) (by omega)
    exact ⟨m2, w2, k2, c1, c2, c3, c4, c5, hm2, h.trans h2⟩
set_option maxRecDepth 100000 in
theorem pl_mt1_0 (n : Nat) (b1 b2 b3 b4 b5 : Int32) (y q : Int32) (Bv : Int64) (hn : 2208 ≤ n) : ∃ (m : Nat) (w2 : Int64) (k2 : Int32) (c1 c2 c3 c4 c5 : Int32), 2100 ≤ m ∧ mm_x none n 184 96 [some (.ref 138), some (.int 0), some (.int 1), some (.int y), some (.int q), some (.long 0), none, some (.long Bv), none, some (.int 0), none, none, none] [] (mm_MC 0 0 24 1 5 (0 + (nI 1)) 0 0 0 0 0 0 0 0 b1 b2 b3 b4 b5 0 0 0 0 0 0 ([0, 0, 0, 0, 0, 0, 0, 0, 0, 0, 0, 0, 0, 0, 0, 0, 0, 0, 0, 0, 0, 0, 0, 0, 0]) ([0, 0, 0, 0, 0, 0, 0, 0, 0, 0, 0, 0, 0, 0, 0, 0, 0, 0, 0, 0, 0, 0, 0, 0, 0])) 0 0 = mm_x none m 184 96 [some (.ref 138), some (.int 0), some (.int 1), some (.int y), some (.int q), some (.long (ms_ml (ms_gm 1 ((y - 1).toInt64)) 2 0 0)), none, some (.long Bv), none, some (.int (nI 2)), some (.long w2), none, some (.int k2)] [] (mm_MC 0 0 24 1 5 (0 + (nI 1)) 0 0 0 0 0 0 0 0 c1 c2 c3 c4 c5 0 0 0 0 0 0 ([0, 0, 0, 0, 0, 0, 0, 0, 0, 0, 0, 0, 0, 0, 0, 0, 0, 0, 0, 0, 0, 0, 0, 0, 0]) ([0, 0, 0, 0, 0, 0, 0, 0, 0, 0, 0, 0, 0, 0, 0, 0, 0, 0, 0, 0, 0, 0, 0, 0, 0])) 0 0 := by
  obtain ⟨m, hm, h⟩ := pl_mo1_0_0 0 n b1 b2 b3 b4 b5 y q 0 Bv (by omega) (by omega)
  obtain ⟨m2, w2, k2, c1, c2, c3, c4, c5, hm2, h2⟩ := pl_ma1_0 1 1 m (0 + nI 1) 0 24 1 5 y q (ms_gm 1 ((y - 1).toInt64) 0 0) Bv (ms_ml (ms_gw ((y - 1).toInt64) (nI 0)) 1 0 1) (nI 1) (by omega) (by omega)
  exact ⟨m2, w2, k2, c1, c2, c3, c4, c5, hm2, h.trans h2⟩
set_option maxRecDepth 100000 in
theorem pl_mi1_1 (k : Nat) : ∀ (j n : Nat) (b1 : Int32) (x : Int32) (hxl : 1 ≤ x.toInt) (hxu : x.toInt ≤ 24) (y q p : Int32) (A Bv wt : Int64), j + k = 1 → 24 * k + 700 ≤ n → ∃ m, n ≤ m + 24 * k + 3 ∧ mm_x none n 184 121 [some (.ref 138), some (.int x), some (.int 1), some (.int y), some (.int q), some (.long A), none, some (.long Bv), none, some (.int p), some (.long wt), none, some (.int (nI j))] [] (mm_MC 0 0 24 1 5 (0 + (nI 1)) 0 0 0 0 0 0 0 0 b1 0 24 1 5 0 0 0 0 0 0 ([0, 0, 0, 0, 0, 0, 0, 0, 0, 0, 0, 0, 0, 0, 0, 0, 0, 0, 0, 0, 0, 0, 0, 0, 0]) ([0, 0, 0, 0, 0, 0, 0, 0, 0, 0, 0, 0, 0, 0, 0, 0, 0, 0, 0, 0, 0, 0, 0, 0, 0])) 0 0 = mm_x none m 184 178 [some (.ref 138), some (.int x), some (.int 1), some (.int y), some (.int q), some (.long A), none, some (.long Bv), none, some (.int p), some (.long (ms_ml (ms_gw ((y - 1).toInt64) p) k j wt)), none, some (.int (nI 1))] [] (mm_MC 0 0 24 1 5 (0 + (nI 1)) 0 0 0 0 0 0 0 0 (b1 + nI k) 0 24 1 5 0 0 0 0 0 0 ([0, 0, 0, 0, 0, 0, 0, 0, 0, 0, 0, 0, 0, 0, 0, 0, 0, 0, 0, 0, 0, 0, 0, 0, 0]) ([0, 0, 0, 0, 0, 0, 0, 0, 0, 0, 0, 0, 0, 0, 0, 0, 0, 0, 0, 0, 0, 0, 0, 0, 0])) 0 0 := by
  induction k with
  | zero =>
    intro j n b1 x hxl hxu y q p A Bv wt hj hn
    have f0 : n - 700 + 700 = n := by omega
    have e : j = 1 := by omega
    subst e
    have ex := pl_m1_1_e (n - 700) b1 x hxl hxu y q p (nI 1) A Bv wt (show nI 1 ≤ nI 1 from nI_le (Nat.le_refl 1) (by omega))
    rw [f0] at ex
    have e0 : b1 + nI 0 = b1 := by rw [nI_0, Int32.add_zero]
    rw [e0, ms_ml_0]
    exact ⟨n - 700 + 697, by omega, ex⟩
  | succ k IH =>
    intro j n b1 x hxl hxu y q p A Bv wt hj hn
    have f0 : n - 700 + 700 = n := by omega
    have e2 : nI j + 1 = nI (j + 1) := nI_1 j
    have e1 : b1 + nI (k + 1) = (b1 + 1) + nI k := by rw [nI_succ, Int32.add_assoc, Int32.add_comm 1 (nI k)]
    by_cases hb : ((p >>> (nI j &&& 31)) &&& 1) = 1
    · have it := pl_m1_1_b (n - 700) b1 x hxl hxu y q p (nI j) A Bv wt (show ¬ nI 1 ≤ nI j from nI_ge (by omega) (by omega)) hb
      rw [f0, e2] at it
      obtain ⟨m, hm, ih⟩ := IH (j + 1) (n - 700 + 677) (b1 + 1) x hxl hxu y q p A Bv (wt * 1) (by omega) (by omega)
      rw [e1, ms_ml_s, ms_gw_t hb]
      exact ⟨m, by omega, it.trans ih⟩
    · have it := pl_m1_1_n (n - 700) b1 x hxl hxu y q p (nI j) A Bv wt (show ¬ nI 1 ≤ nI j from nI_ge (by omega) (by omega)) hb
      rw [f0, e2] at it
      obtain ⟨m, hm, ih⟩ := IH (j + 1) (n - 700 + 676) (b1 + 1) x hxl hxu y q p A Bv (wt * ((y - 1).toInt64)) (by omega) (by omega)
      rw [e1, ms_ml_s, ms_gw_f hb]
      exact ⟨m, by omega, it.trans ih⟩
set_option maxRecDepth 100000 in
theorem pl_mo1_1_0 (j n : Nat) (b1 b2 b3 b4 b5 : Int32) (x : Int32) (hxl : 1 ≤ x.toInt) (hxu : x.toInt ≤ 24) (y q : Int32) (A Bv : Int64) (hj : j < 2) (hn : 53 + 1400 ≤ n) : ∃ m, n ≤ m + 53 ∧ mm_x none n 184 96 [some (.ref 138), some (.int x), some (.int 1), some (.int y), some (.int q), some (.long A), none, some (.long Bv), none, some (.int (nI j)), none, none, none] [] (mm_MC 0 0 24 1 5 (0 + (nI 1)) 0 0 0 0 0 0 0 0 b1 b2 b3 b4 b5 0 0 0 0 0 0 ([0, 0, 0, 0, 0, 0, 0, 0, 0, 0, 0, 0, 0, 0, 0, 0, 0, 0, 0, 0, 0, 0, 0, 0, 0]) ([0, 0, 0, 0, 0, 0, 0, 0, 0, 0, 0, 0, 0, 0, 0, 0, 0, 0, 0, 0, 0, 0, 0, 0, 0])) 0 0 = mm_x none m 184 96 [some (.ref 138), some (.int x), some (.int 1), some (.int y), some (.int q), some (.long (ms_g0 j A)), none, some (.long Bv), none, some (.int (nI (j + 1))), some (.long (ms_ml (ms_gw ((y - 1).toInt64) (nI j)) 1 0 1)), none, some (.int (nI 1))] [] (mm_MC 0 0 24 1 5 (0 + (nI 1)) 0 0 0 0 0 0 0 0 (0 + nI 1) 0 24 1 5 0 0 0 0 0 0 ([0, 0, 0, 0, 0, 0, 0, 0, 0, 0, 0, 0, 0, 0, 0, 0, 0, 0, 0, 0, 0, 0, 0, 0, 0]) ([0, 0, 0, 0, 0, 0, 0, 0, 0, 0, 0, 0, 0, 0, 0, 0, 0, 0, 0, 0, 0, 0, 0, 0, 0])) 0 0 := by
  have f0 : n - 700 + 700 = n := by omega
  have e2 : nI j + 1 = nI (j + 1) := nI_1 j
  have pre := pl_m1_1_p0 (n - 700) b1 b2 b3 b4 b5 x hxl hxu y q (nI j) A Bv (show ¬ nI 2 ≤ nI j from nI_ge (by omega) (by omega))
  rw [f0] at pre
  obtain ⟨m, hm, hi⟩ := pl_mi1_1 1 0 (n - 700 + 686) 0 x hxl hxu y q (nI j) A Bv 1 (by omega) (by omega)
  have po := pl_m1_1_a (m - 700) (0 + nI 1) x hxl hxu y q (nI j) (nI 1) A Bv (ms_ml (ms_gw ((y - 1).toInt64) (nI j)) 1 0 1)
  have f1 : m - 700 + 700 = m := by omega
  rw [f1, e2] at po
  exact ⟨m - 700 + 688, by omega, (pre.trans hi).trans po⟩
set_option maxRecDepth 100000 in
theorem pl_mo1_1_1 (j n : Nat) (b1 b2 b3 b4 b5 : Int32) (x : Int32) (hxl : 1 ≤ x.toInt) (hxu : x.toInt ≤ 24) (y q : Int32) (A Bv : Int64) (wv : Int64) (kv : Int32) (hj : j < 2) (hn : 53 + 1400 ≤ n) : ∃ m, n ≤ m + 53 ∧ mm_x none n 184 96 [some (.ref 138), some (.int x), some (.int 1), some (.int y), some (.int q), some (.long A), none, some (.long Bv), none, some (.int (nI j)), some (.long wv), none, some (.int kv)] [] (mm_MC 0 0 24 1 5 (0 + (nI 1)) 0 0 0 0 0 0 0 0 b1 b2 b3 b4 b5 0 0 0 0 0 0 ([0, 0, 0, 0, 0, 0, 0, 0, 0, 0, 0, 0, 0, 0, 0, 0, 0, 0, 0, 0, 0, 0, 0, 0, 0]) ([0, 0, 0, 0, 0, 0, 0, 0, 0, 0, 0, 0, 0, 0, 0, 0, 0, 0, 0, 0, 0, 0, 0, 0, 0])) 0 0 = mm_x none m 184 96 [some (.ref 138), some (.int x), some (.int 1), some (.int y), some (.int q), some (.long (ms_g0 j A)), none, some (.long Bv), none, some (.int (nI (j + 1))), some (.long (ms_ml (ms_gw ((y - 1).toInt64) (nI j)) 1 0 1)), none, some (.int (nI 1))] [] (mm_MC 0 0 24 1 5 (0 + (nI 1)) 0 0 0 0 0 0 0 0 (0 + nI 1) 0 24 1 5 0 0 0 0 0 0 ([0, 0, 0, 0, 0, 0, 0, 0, 0, 0, 0, 0, 0, 0, 0, 0, 0, 0, 0, 0, 0, 0, 0, 0, 0]) ([0, 0, 0, 0, 0, 0, 0, 0, 0, 0, 0, 0, 0, 0, 0, 0, 0, 0, 0, 0, 0, 0, 0, 0, 0])) 0 0 := by
  have f0 : n - 700 + 700 = n := by omega
  have e2 : nI j + 1 = nI (j + 1) := nI_1 j
  have pre := pl_m1_1_p1 (n - 700) b1 b2 b3 b4 b5 x hxl hxu y q (nI j) A Bv wv kv (show ¬ nI 2 ≤ nI j from nI_ge (by omega) (by omega))
  rw [f0] at pre
  obtain ⟨m, hm, hi⟩ := pl_mi1_1 1 0 (n - 700 + 686) 0 x hxl hxu y q (nI j) A Bv 1 (by omega) (by omega)
  have po := pl_m1_1_a (m - 700) (0 + nI 1) x hxl hxu y q (nI j) (nI 1) A Bv (ms_ml (ms_gw ((y - 1).toInt64) (nI j)) 1 0 1)
  have f1 : m - 700 + 700 = m := by omega
  rw [f1, e2] at po
  exact ⟨m - 700 + 688, by omega, (pre.trans hi).trans po⟩
set_option maxRecDepth 100000 in
theorem pl_ma1_1 (k : Nat) : ∀ (j n : Nat) (b1 b2 b3 b4 b5 : Int32) (x : Int32) (hxl : 1 ≤ x.toInt) (hxu : x.toInt ≤ 24) (y q : Int32) (A Bv wv : Int64) (kv : Int32), j + k = 2 → 53 * k + 2100 ≤ n → ∃ (m : Nat) (w2 : Int64) (k2 : Int32) (c1 c2 c3 c4 c5 : Int32), 2100 ≤ m ∧ mm_x none n 184 96 [some (.ref 138), some (.int x), some (.int 1), some (.int y), some (.int q), some (.long A), none, some (.long Bv), none, some (.int (nI j)), some (.long wv), none, some (.int kv)] [] (mm_MC 0 0 24 1 5 (0 + (nI 1)) 0 0 0 0 0 0 0 0 b1 b2 b3 b4 b5 0 0 0 0 0 0 ([0, 0, 0, 0, 0, 0, 0, 0, 0, 0, 0, 0, 0, 0, 0, 0, 0, 0, 0, 0, 0, 0, 0, 0, 0]) ([0, 0, 0, 0, 0, 0, 0, 0, 0, 0, 0, 0, 0, 0, 0, 0, 0, 0, 0, 0, 0, 0, 0, 0, 0])) 0 0 = mm_x none m 184 96 [some (.ref 138), some (.int x), some (.int 1), some (.int y), some (.int q), some (.long (ms_ml (ms_g0) k j A)), none, some (.long Bv), none, some (.int (nI 2)), some (.long w2), none, some (.int k2)] [] (mm_MC 0 0 24 1 5 (0 + (nI 1)) 0 0 0 0 0 0 0 0 c1 c2 c3 c4 c5 0 0 0 0 0 0 ([0, 0, 0, 0, 0, 0, 0, 0, 0, 0, 0, 0, 0, 0, 0, 0, 0, 0, 0, 0, 0, 0, 0, 0, 0]) ([0, 0, 0, 0, 0, 0, 0, 0, 0, 0, 0, 0, 0, 0, 0, 0, 0, 0, 0, 0, 0, 0, 0, 0, 0])) 0 0 := by
  induction k with
  | zero =>
    intro j n b1 b2 b3 b4 b5 x hxl hxu y q A Bv wv kv hj hn
    have e : j = 2 := by omega
    subst e
    exact ⟨n, wv, kv, b1, b2, b3, b4, b5, by omega, rfl⟩
  | succ k IH =>
    intro j n b1 b2 b3 b4 b5 x hxl hxu y q A Bv wv kv hj hn
    obtain ⟨m, hm, h⟩ := pl_mo1_1_1 j n b1 b2 b3 b4 b5 x hxl hxu y q A Bv wv kv (by omega) (by omega)
    obtain ⟨m2, w2, k2, c1, c2, c3, c4, c5, hm2, h2⟩ := IH (j + 1) m (0 + nI 1) 0 24 1 5 x hxl hxu y q (ms_g0 j A) Bv (ms_ml (ms_gw ((y - 1).toInt64) (nI j)) 1 0 1) (nI 1) (by omega) (by omega)
    exact ⟨m2, w2, k2, c1, c2, c3, c4, c5, hm2, h.trans h2⟩
set_option maxRecDepth 100000 in
theorem pl_mt1_1 (n : Nat) (b1 b2 b3 b4 b5 : Int32) (x : Int32) (hxl : 1 ≤ x.toInt) (hxu : x.toInt ≤ 24) (y q : Int32) (Bv : Int64) (hn : 2206 ≤ n) : ∃ (m : Nat) (w2 : Int64) (k2 : Int32) (c1 c2 c3 c4 c5 : Int32), 2100 ≤ m ∧ mm_x none n 184 96 [some (.ref 138), some (.int x), some (.int 1), some (.int y), some (.int q), some (.long 0), none, some (.long Bv), none, some (.int 0), none, none, none] [] (mm_MC 0 0 24 1 5 (0 + (nI 1)) 0 0 0 0 0 0 0 0 b1 b2 b3 b4 b5 0 0 0 0 0 0 ([0, 0, 0, 0, 0, 0, 0, 0, 0, 0, 0, 0, 0, 0, 0, 0, 0, 0, 0, 0, 0, 0, 0, 0, 0]) ([0, 0, 0, 0, 0, 0, 0, 0, 0, 0, 0, 0, 0, 0, 0, 0, 0, 0, 0, 0, 0, 0, 0, 0, 0])) 0 0 = mm_x none m 184 96 [some (.ref 138), some (.int x), some (.int 1), some (.int y), some (.int q), some (.long (ms_ml (ms_g0) 2 0 0)), none, some (.long Bv), none, some (.int (nI 2)), some (.long w2), none, some (.int k2)] [] (mm_MC 0 0 24 1 5 (0 + (nI 1)) 0 0 0 0 0 0 0 0 c1 c2 c3 c4 c5 0 0 0 0 0 0 ([0, 0, 0, 0, 0, 0, 0, 0, 0, 0, 0, 0, 0, 0, 0, 0, 0, 0, 0, 0, 0, 0, 0, 0, 0]) ([0, 0, 0, 0, 0, 0, 0, 0, 0, 0, 0, 0, 0, 0, 0, 0, 0, 0, 0, 0, 0, 0, 0, 0, 0])) 0 0 := by
  obtain ⟨m, hm, h⟩ := pl_mo1_1_0 0 n b1 b2 b3 b4 b5 x hxl hxu y q 0 Bv (by omega) (by omega)
  obtain ⟨m2, w2, k2, c1, c2, c3, c4, c5, hm2, h2⟩ := pl_ma1_1 1 1 m (0 + nI 1) 0 24 1 5 x hxl hxu y q (ms_g0 0 0) Bv (ms_ml (ms_gw ((y - 1).toInt64) (nI 0)) 1 0 1) (nI 1) (by omega) (by omega)
  exact ⟨m2, w2, k2, c1, c2, c3, c4, c5, hm2, h.trans h2⟩
set_option maxRecDepth 100000 in
theorem pl_mi2_0 (k : Nat) : ∀ (j n : Nat) (b1 : Int32) (y q p : Int32) (A Bv wt : Int64), j + k = 2 → 24 * k + 700 ≤ n → ∃ m, n ≤ m + 24 * k + 3 ∧ mm_x none n 184 121 [some (.ref 138), some (.int 0), some (.int 2), some (.int y), some (.int q), some (.long A), none, some (.long Bv), none, some (.int p), some (.long wt), none, some (.int (nI j))] [] (mm_MC 0 0 24 1 5 (0 + (nI 2)) 0 0 0 0 0 0 0 0 b1 0 24 1 5 0 0 0 0 0 0 ([0, 0, 0, 0, 0, 0, 0, 0, 0, 0, 0, 0, 0, 0, 0, 0, 0, 0, 0, 0, 0, 0, 0, 0, 0]) ([0, 0, 0, 0, 0, 0, 0, 0, 0, 0, 0, 0, 0, 0, 0, 0, 0, 0, 0, 0, 0, 0, 0, 0, 0])) 0 0 = mm_x none m 184 178 [some (.ref 138), some (.int 0), some (.int 2), some (.int y), some (.int q), some (.long A), none, some (.long Bv), none, some (.int p), some (.long (ms_ml (ms_gw ((y - 1).toInt64) p) k j wt)), none, some (.int (nI 2))] [] (mm_MC 0 0 24 1 5 (0 + (nI 2)) 0 0 0 0 0 0 0 0 (b1 + nI k) 0 24 1 5 0 0 0 0 0 0 ([0, 0, 0, 0, 0, 0, 0, 0, 0, 0, 0, 0, 0, 0, 0, 0, 0, 0, 0, 0, 0, 0, 0, 0, 0]) ([0, 0, 0, 0, 0, 0, 0, 0, 0, 0, 0, 0, 0, 0, 0, 0, 0, 0, 0, 0, 0, 0, 0, 0, 0])) 0 0 := by
  induction k with
  | zero =>
    intro j n b1 y q p A Bv wt hj hn
    have f0 : n - 700 + 700 = n := by omega
    have e : j = 2 := by omega
    subst e
    have ex := pl_m2_0_e (n - 700) b1 y q p (nI 2) A Bv wt (show nI 2 ≤ nI 2 from nI_le (Nat.le_refl 2) (by omega))
    rw [f0] at ex
    have e0 : b1 + nI 0 = b1 := by rw [nI_0, Int32.add_zero]
    rw [e0, ms_ml_0]
    exact ⟨n - 700 + 697, by omega, ex⟩
  | succ k IH =>
    intro j n b1 y q p A Bv wt hj hn
    have f0 : n - 700 + 700 = n := by omega
    have e2 : nI j + 1 = nI (j + 1) := nI_1 j
    have e1 : b1 + nI (k + 1) = (b1 + 1) + nI k := by rw [nI_succ, Int32.add_assoc, Int32.add_comm 1 (nI k)]
    by_cases hb : ((p >>> (nI j &&& 31)) &&& 1) = 1
    · have it := pl_m2_0_b (n - 700) b1 y q p (nI j) A Bv wt (show ¬ nI 2 ≤ nI j from nI_ge (by omega) (by omega)) hb
      rw [f0, e2] at it
      obtain ⟨m, hm, ih⟩ := IH (j + 1) (n - 700 + 677) (b1 + 1) y q p A Bv (wt * 1) (by omega) (by omega)
      rw [e1, ms_ml_s, ms_gw_t hb]
      exact ⟨m, by omega, it.trans ih⟩
    · have it := pl_m2_0_n (n - 700) b1 y q p (nI j) A Bv wt (show ¬ nI 2 ≤ nI j from nI_ge (by omega) (by omega)) hb
      rw [f0, e2] at it
      obtain ⟨m, hm, ih⟩ := IH (j + 1) (n - 700 + 676) (b1 + 1) y q p A Bv (wt * ((y - 1).toInt64)) (by omega) (by omega)
      rw [e1, ms_ml_s, ms_gw_f hb]
      exact ⟨m, by omega, it.trans ih⟩
set_option maxRecDepth 100000 in
theorem pl_mo2_0_0 (j n : Nat) (b1 b2 b3 b4 b5 : Int32) (y q : Int32) (A Bv : Int64) (hj : j < 4) (hn : 78 + 1400 ≤ n) : ∃ m, n ≤ m + 78 ∧ mm_x none n 184 96 [some (.ref 138), some (.int 0), some (.int 2), some (.int y), some (.int q), some (.long A), none, some (.long Bv), none, some (.int (nI j)), none, none, none] [] (mm_MC 0 0 24 1 5 (0 + (nI 2)) 0 0 0 0 0 0 0 0 b1 b2 b3 b4 b5 0 0 0 0 0 0 ([0, 0, 0, 0, 0, 0, 0, 0, 0, 0, 0, 0, 0, 0, 0, 0, 0, 0, 0, 0, 0, 0, 0, 0, 0]) ([0, 0, 0, 0, 0, 0, 0, 0, 0, 0, 0, 0, 0, 0, 0, 0, 0, 0, 0, 0, 0, 0, 0, 0, 0])) 0 0 = mm_x none m 184 96 [some (.ref 138), some (.int 0), some (.int 2), some (.int y), some (.int q), some (.long (ms_gm 2 ((y - 1).toInt64) j A)), none, some (.long Bv), none, some (.int (nI (j + 1))), some (.long (ms_ml (ms_gw ((y - 1).toInt64) (nI j)) 2 0 1)), none, some (.int (nI 2))] [] (mm_MC 0 0 24 1 5 (0 + (nI 2)) 0 0 0 0 0 0 0 0 (0 + nI 2) 0 24 1 5 0 0 0 0 0 0 ([0, 0, 0, 0, 0, 0, 0, 0, 0, 0, 0, 0, 0, 0, 0, 0, 0, 0, 0, 0, 0, 0, 0, 0, 0]) ([0, 0, 0, 0, 0, 0, 0, 0, 0, 0, 0, 0, 0, 0, 0, 0, 0, 0, 0, 0, 0, 0, 0, 0, 0])) 0 0 := by
  have f0 : n - 700 + 700 = n := by omega
  have e2 : nI j + 1 = nI (j + 1) := nI_1 j
  have pre := pl_m2_0_p0 (n - 700) b1 b2 b3 b4 b5 y q (nI j) A Bv (show ¬ nI 4 ≤ nI j from nI_ge (by omega) (by omega))
  rw [f0] at pre
  obtain ⟨m, hm, hi⟩ := pl_mi2_0 2 0 (n - 700 + 686) 0 y q (nI j) A Bv 1 (by omega) (by omega)
  have po := pl_m2_0_a (m - 700) (0 + nI 2) y q (nI j) (nI 2) A Bv (ms_ml (ms_gw ((y - 1).toInt64) (nI j)) 2 0 1)
  have f1 : m - 700 + 700 = m := by omega
  rw [f1, e2] at po
  exact ⟨m - 700 + 687, by omega, (pre.trans hi).trans po⟩
set_option maxRecDepth 100000 in
theorem pl_mo2_0_1 (j n : Nat) (b1 b2 b3 b4 b5 : Int32) (y q : Int32) (A Bv : Int64) (wv : Int64) (kv : Int32) (hj : j < 4) (hn : 78 + 1400 ≤ n) : ∃ m, n ≤ m + 78 ∧ mm_x none n 184 96 [some (.ref 138), some (.int 0), some (.int 2), some (.int y), some (.int q), some (.long A), none, some (.long Bv), none, some (.int (nI j)), some (.long wv), none, some (.int kv)] [] (mm_MC 0 0 24 1 5 (0 + (nI 2)) 0 0 0 0 0 0 0 0 b1 b2 b3 b4 b5 0 0 0 0 0 0 ([0, 0, 0, 0, 0, 0, 0, 0, 0, 0, 0, 0, 0, 0, 0, 0, 0, 0, 0, 0, 0, 0, 0, 0, 0]) ([0, 0, 0, 0, 0, 0, 0, 0, 0, 0, 0, 0, 0, 0, 0, 0, 0, 0, 0, 0, 0, 0, 0, 0, 0])) 0 0 = mm_x none m 184 96 [some (.ref 138), some (.int 0), some (.int 2), some (.int y), some (.int q), some (.long (ms_gm 2 ((y - 1).toInt64) j A)), none, some (.long Bv), none, some (.int (nI (j + 1))), some (.long (ms_ml (ms_gw ((y - 1).toInt64) (nI j)) 2 0 1)), none, some (.int (nI 2))] [] (mm_MC 0 0 24 1 5 (0 + (nI 2)) 0 0 0 0 0 0 0 0 (0 + nI 2) 0 24 1 5 0 0 0 0 0 0 ([0, 0, 0, 0, 0, 0, 0, 0, 0, 0, 0, 0, 0, 0, 0, 0, 0, 0, 0, 0, 0, 0, 0, 0, 0]) ([0, 0, 0, 0, 0, 0, 0, 0, 0, 0, 0, 0, 0, 0, 0, 0, 0, 0, 0, 0, 0, 0, 0, 0, 0])) 0 0 := by
  have f0 : n - 700 + 700 = n := by omega
  have e2 : nI j + 1 = nI (j + 1) := nI_1 j
  have pre := pl_m2_0_p1 (n - 700) b1 b2 b3 b4 b5 y q (nI j) A Bv wv kv (show ¬ nI 4 ≤ nI j from nI_ge (by omega) (by omega))
  rw [f0] at pre
  obtain ⟨m, hm, hi⟩ := pl_mi2_0 2 0 (n - 700 + 686) 0 y q (nI j) A Bv 1 (by omega) (by omega)
  have po := pl_m2_0_a (m - 700) (0 + nI 2) y q (nI j) (nI 2) A Bv (ms_ml (ms_gw ((y - 1).toInt64) (nI j)) 2 0 1)
  have f1 : m - 700 + 700 = m := by omega
  rw [f1, e2] at po
  exact ⟨m - 700 + 687, by omega, (pre.trans hi).trans po⟩
set_option maxRecDepth 100000 in
theorem pl_ma2_0 (k : Nat) : ∀ (j n : Nat) (b1 b2 b3 b4 b5 : Int32) (y q : Int32) (A Bv wv : Int64) (kv : Int32), j + k = 4 → 78 * k + 2100 ≤ n → ∃ (m : Nat) (w2 : Int64) (k2 : Int32) (c1 c2 c3 c4 c5 : Int32), 2100 ≤ m ∧ mm_x none n 184 96 [some (.ref 138), some (.int 0), some (.int 2), some (.int y), some (.int q), some (.long A), none, some (.long Bv), none, some (.int (nI j)), some (.long wv), none, some (.int kv)] [] (mm_MC 0 0 24 1 5 (0 + (nI 2)) 0 0 0 0 0 0 0 0 b1 b2 b3 b4 b5 0 0 0 0 0 0 ([0, 0, 0, 0, 0, 0, 0, 0, 0, 0, 0, 0, 0, 0, 0, 0, 0, 0, 0, 0, 0, 0, 0, 0, 0]) ([0, 0, 0, 0, 0, 0, 0, 0, 0, 0, 0, 0, 0, 0, 0, 0, 0, 0, 0, 0, 0, 0, 0, 0, 0])) 0 0 = mm_x none m 184 96 [some (.ref 138), some (.int 0), some (.int 2), some (.int y), some (.int q), some (.long (ms_ml (ms_gm 2 ((y - 1).toInt64)) k j A)), none, some (.long Bv), none, some (.int (nI 4)), some (.long w2), none, some (.int k2)] [] (mm_MC 0 0 24 1 5 (0 + (nI 2)) 0 0 0 0 0 0 0 0 c1 c2 c3 c4 c5 0 0 0 0 0 0 ([0, 0, 0, 0, 0, 0, 0, 0, 0, 0, 0, 0, 0, 0, 0, 0, 0, 0, 0, 0, 0, 0, 0, 0, 0]) ([0, 0, 0, 0, 0, 0, 0, 0, 0, 0, 0, 0, 0, 0, 0, 0, 0, 0, 0, 0, 0, 0, 0, 0, 0])) 0 0 := by
  induction k with
  | zero =>
    intro j n b1 b2 b3 b4 b5 y q A Bv wv kv hj hn
    have e : j = 4 := by omega
    subst e
    exact ⟨n, wv, kv, b1, b2, b3, b4, b5, by omega, rfl⟩
  | succ k IH =>
    intro j n b1 b2 b3 b4 b5 y q A Bv wv kv hj hn
    obtain ⟨m, hm, h⟩ := pl_mo2_0_1 j n b1 b2 b3 b4 b5 y q A Bv wv kv (by omega) (by omega)
    obtain ⟨m2, w2, k2, c1, c2, c3, c4, c5, hm2, h2⟩ := IH (j + 1) m (0 + nI 2) 0 24 1 5 y q (ms_gm 2 ((y - 1).toInt64) j A) Bv (ms_ml (ms_gw ((y - 1).toInt64) (nI j)) 2 0 1) (nI 2) (by omega) (by omega)
    exact ⟨m2, w2, k2, c1, c2, c3, c4, c5, hm2, h.trans h2⟩
set_option maxRecDepth 100000 in
theorem pl_mt2_0 (n : Nat) (b1 b2 b3 b4 b5 : Int32) (y q : Int32) (Bv : Int64) (hn : 2412 ≤ n) : ∃ (m : Nat) (w2 : Int64) (k2 : Int32) (c1 c2 c3 c4 c5 : Int32), 2100 ≤ m ∧ mm_x none n 184 96 [some (.ref 138), some (.int 0), some (.int 2), some (.int y), some (.int q), some (.long 0), none, some (.long Bv), none, some (.int 0), none, none, none] [] (mm_MC 0 0 24 1 5 (0 + (nI 2)) 0 0 0 0 0 0 0 0 b1 b2 b3 b4 b5 0 0 0 0 0 0 ([0, 0, 0, 0, 0, 0, 0, 0, 0, 0, 0, 0, 0, 0, 0, 0, 0, 0, 0, 0, 0, 0, 0, 0, 0]) ([0, 0, 0, 0, 0, 0, 0, 0, 0, 0, 0, 0, 0, 0, 0, 0, 0, 0, 0, 0, 0, 0, 0, 0, 0])) 0 0 = mm_x none m 184 96 [some (.ref 138), some (.int 0), some (.int 2), some (.int y), some (.int q), some (.long (ms_ml (ms_gm 2 ((y - 1).toInt64)) 4 0 0)), none, some (.long Bv), none, some (.int (nI 4)), some (.long w2), none, some (.int k2)] [] (mm_MC 0 0 24 1 5 (0 + (nI 2)) 0 0 0 0 0 0 0 0 c1 c2 c3 c4 c5 0 0 0 0 0 0 ([0, 0, 0, 0, 0, 0, 0, 0, 0, 0, 0, 0, 0, 0, 0, 0, 0, 0, 0, 0, 0, 0, 0, 0, 0]) ([0, 0, 0, 0, 0, 0, 0, 0, 0, 0, 0, 0, 0, 0, 0, 0, 0, 0, 0, 0, 0, 0, 0, 0, 0])) 0 0 := by
  obtain ⟨m, hm, h⟩ := pl_mo2_0_0 0 n b1 b2 b3 b4 b5 y q 0 Bv (by omega) (by omega)
  obtain ⟨m2, w2, k2, c1, c2, c3, c4, c5, hm2, h2⟩ := pl_ma2_0 3 1 m (0 + nI 2) 0 24 1 5 y q (ms_gm 2 ((y - 1).toInt64) 0 0) Bv (ms_ml (ms_gw ((y - 1).toInt64) (nI 0)) 2 0 1) (nI 2) (by omega) (by omega)
  exact ⟨m2, w2, k2, c1, c2, c3, c4, c5, hm2, h.trans h2⟩
set_option maxRecDepth 100000 in
theorem pl_mi2_1 (k : Nat) : ∀ (j n : Nat) (b1 : Int32) (x : Int32) (hxl : 1 ≤ x.toInt) (hxu : x.toInt ≤ 24) (y q p : Int32) (A Bv wt : Int64), j + k = 2 → 24 * k + 700 ≤ n → ∃ m, n ≤ m + 24 * k + 3 ∧ mm_x none n 184 121 [some (.ref 138), some (.int x), some (.int 2), some (.int y), some (.int q), some (.long A), none, some (.long Bv), none, some (.int p), some (.long wt), none, some (.int (nI j))] [] (mm_MC 0 0 24 1 5 (0 + (nI 2)) 0 0 0 0 0 0 0 0 b1 0 24 1 5 0 0 0 0 0 0 ([0, 0, 0, 0, 0, 0, 0, 0, 0, 0, 0, 0, 0, 0, 0, 0, 0, 0, 0, 0, 0, 0, 0, 0, 0]) ([0, 0, 0, 0, 0, 0, 0, 0, 0, 0, 0, 0, 0, 0, 0, 0, 0, 0, 0, 0, 0, 0, 0, 0, 0])) 0 0 = mm_x none m 184 178 [some (.ref 138), some (.int x), some (.int 2), some (.int y), some (.int q), some (.long A), none, some (.long Bv), none, some (.int p), some (.long (ms_ml (ms_gw ((y - 1).toInt64) p) k j wt)), none, some (.int (nI 2))] [] (mm_MC 0 0 24 1 5 (0 + (nI 2)) 0 0 0 0 0 0 0 0 (b1 + nI k) 0 24 1 5 0 0 0 0 0 0 ([0, 0, 0, 0, 0, 0, 0, 0, 0, 0, 0, 0, 0, 0, 0, 0, 0, 0, 0, 0, 0, 0, 0, 0, 0]) ([0, 0, 0, 0, 0, 0, 0, 0, 0, 0, 0, 0, 0, 0, 0, 0, 0, 0, 0, 0, 0, 0, 0, 0, 0])) 0 0 := by
  induction k with
  | zero =>
    intro j n b1 x hxl hxu y q p A Bv wt hj hn
    have f0 : n - 700 + 700 = n := by omega
    have e : j = 2 := by omega
    subst e
    have ex := pl_m2_1_e (n - 700) b1 x hxl hxu y q p (nI 2) A Bv wt (show nI 2 ≤ nI 2 from nI_le (Nat.le_refl 2) (by omega))
    rw [f0] at ex
    have e0 : b1 + nI 0 = b1 := by rw [nI_0, Int32.add_zero]
    rw [e0, ms_ml_0]
    exact ⟨n - 700 + 697, by omega, ex⟩
  | succ k IH =>
    intro j n b1 x hxl hxu y q p A Bv wt hj hn
    have f0 : n - 700 + 700 = n := by omega
    have e2 : nI j + 1 = nI (j + 1) := nI_1 j
    have e1 : b1 + nI (k + 1) = (b1 + 1) + nI k := by rw [nI_succ, Int32.add_assoc, Int32.add_comm 1 (nI k)]
    by_cases hb : ((p >>> (nI j &&& 31)) &&& 1) = 1
    · have it := pl_m2_1_b (n - 700) b1 x hxl hxu y q p (nI j) A Bv wt (show ¬ nI 2 ≤ nI j from nI_ge (by omega) (by omega)) hb
      rw [f0, e2] at it
      obtain ⟨m, hm, ih⟩ := IH (j + 1) (n - 700 + 677) (b1 + 1) x hxl hxu y q p A Bv (wt * 1) (by omega) (by omega)
      rw [e1, ms_ml_s, ms_gw_t hb]
      exact ⟨m, by omega, it.trans ih⟩
    · have it := pl_m2_1_n (n - 700) b1 x hxl hxu y q p (nI j) A Bv wt (show ¬ nI 2 ≤ nI j from nI_ge (by omega) (by omega)) hb
      rw [f0, e2] at it
      obtain ⟨m, hm, ih⟩ := IH (j + 1) (n - 700 + 676) (b1 + 1) x hxl hxu y q p A Bv (wt * ((y - 1).toInt64)) (by omega) (by omega)
      rw [e1, ms_ml_s, ms_gw_f hb]
      exact ⟨m, by omega, it.trans ih⟩
set_option maxRecDepth 100000 in
theorem pl_mo2_1_0 (j n : Nat) (b1 b2 b3 b4 b5 : Int32) (x : Int32) (hxl : 1 ≤ x.toInt) (hxu : x.toInt ≤ 24) (y q : Int32) (A Bv : Int64) (hj : j < 4) (hn : 77 + 1400 ≤ n) : ∃ m, n ≤ m + 77 ∧ mm_x none n 184 96 [some (.ref 138), some (.int x), some (.int 2), some (.int y), some (.int q), some (.long A), none, some (.long Bv), none, some (.int (nI j)), none, none, none] [] (mm_MC 0 0 24 1 5 (0 + (nI 2)) 0 0 0 0 0 0 0 0 b1 b2 b3 b4 b5 0 0 0 0 0 0 ([0, 0, 0, 0, 0, 0, 0, 0, 0, 0, 0, 0, 0, 0, 0, 0, 0, 0, 0, 0, 0, 0, 0, 0, 0]) ([0, 0, 0, 0, 0, 0, 0, 0, 0, 0, 0, 0, 0, 0, 0, 0, 0, 0, 0, 0, 0, 0, 0, 0, 0])) 0 0 = mm_x none m 184 96 [some (.ref 138), some (.int x), some (.int 2), some (.int y), some (.int q), some (.long (ms_g0 j A)), none, some (.long Bv), none, some (.int (nI (j + 1))), some (.long (ms_ml (ms_gw ((y - 1).toInt64) (nI j)) 2 0 1)), none, some (.int (nI 2))] [] (mm_MC 0 0 24 1 5 (0 + (nI 2)) 0 0 0 0 0 0 0 0 (0 + nI 2) 0 24 1 5 0 0 0 0 0 0 ([0, 0, 0, 0, 0, 0, 0, 0, 0, 0, 0, 0, 0, 0, 0, 0, 0, 0, 0, 0, 0, 0, 0, 0, 0]) ([0, 0, 0, 0, 0, 0, 0, 0, 0, 0, 0, 0, 0, 0, 0, 0, 0, 0, 0, 0, 0, 0, 0, 0, 0])) 0 0 := by
  have f0 : n - 700 + 700 = n := by omega
  have e2 : nI j + 1 = nI (j + 1) := nI_1 j
  have pre := pl_m2_1_p0 (n - 700) b1 b2 b3 b4 b5 x hxl hxu y q (nI j) A Bv (show ¬ nI 4 ≤ nI j from nI_ge (by omega) (by omega))
  rw [f0] at pre
  obtain ⟨m, hm, hi⟩ := pl_mi2_1 2 0 (n - 700 + 686) 0 x hxl hxu y q (nI j) A Bv 1 (by omega) (by omega)
  have po := pl_m2_1_a (m - 700) (0 + nI 2) x hxl hxu y q (nI j) (nI 2) A Bv (ms_ml (ms_gw ((y - 1).toInt64) (nI j)) 2 0 1)
  have f1 : m - 700 + 700 = m := by omega
  rw [f1, e2] at po
  exact ⟨m - 700 + 688, by omega, (pre.trans hi).trans po⟩
set_option maxRecDepth 100000 in
theorem pl_mo2_1_1 (j n : Nat) (b1 b2 b3 b4 b5 : Int32) (x : Int32) (hxl : 1 ≤ x.toInt) (hxu : x.toInt ≤ 24) (y q : Int32) (A Bv : Int64) (wv : Int64) (kv : Int32) (hj : j < 4) (hn : 77 + 1400 ≤ n) : ∃ m, n ≤ m + 77 ∧ mm_x none n 184 96 [some (.ref 138), some (.int x), some (.int 2), some (.int y), some (.int q), some (.long A), none, some (.long Bv), none, some (.int (nI j)), some (.long wv), none, some (.int kv)] [] (mm_MC 0 0 24 1 5 (0 + (nI 2)) 0 0 0 0 0 0 0 0 b1 b2 b3 b4 b5 0 0 0 0 0 0 ([0, 0, 0, 0, 0, 0, 0, 0, 0, 0, 0, 0, 0, 0, 0, 0, 0, 0, 0, 0, 0, 0, 0, 0, 0]) ([0, 0, 0, 0, 0, 0, 0, 0, 0, 0, 0, 0, 0, 0, 0, 0, 0, 0, 0, 0, 0, 0, 0, 0, 0])) 0 0 = mm_x none m 184 96 [some (.ref 138), some (.int x), some (.int 2), some (.int y), some (.int q), some (.long (ms_g0 j A)), none, some (.long Bv), none, some (.int (nI (j + 1))), some (.long (ms_ml (ms_gw ((y - 1).toInt64) (nI j)) 2 0 1)), none, some (.int (nI 2))] [] (mm_MC 0 0 24 1 5 (0 + (nI 2)) 0 0 0 0 0 0 0 0 (0 + nI 2) 0 24 1 5 0 0 0 0 0 0 ([0, 0, 0, 0, 0, 0, 0, 0, 0, 0, 0, 0, 0, 0, 0, 0, 0, 0, 0, 0, 0, 0, 0, 0, 0]) ([0, 0, 0, 0, 0, 0, 0, 0, 0, 0, 0, 0, 0, 0, 0, 0, 0, 0, 0, 0, 0, 0, 0, 0, 0])) 0 0 := by
  have f0 : n - 700 + 700 = n := by omega
  have e2 : nI j + 1 = nI (j + 1) := nI_1 j
  have pre := pl_m2_1_p1 (n - 700) b1 b2 b3 b4 b5 x hxl hxu y q (nI j) A Bv wv kv (show ¬ nI 4 ≤ nI j from nI_ge (by omega) (by omega))
  rw [f0] at pre
  obtain ⟨m, hm, hi⟩ := pl_mi2_1 2 0 (n - 700 + 686) 0 x hxl hxu y q (nI j) A Bv 1 (by omega) (by omega)
  have po := pl_m2_1_a (m - 700) (0 + nI 2) x hxl hxu y q (nI j) (nI 2) A Bv (ms_ml (ms_gw ((y - 1).toInt64) (nI j)) 2 0 1)
  have f1 : m - 700 + 700 = m := by omega
  rw [f1, e2] at po
  exact ⟨m - 700 + 688, by omega, (pre.trans hi).trans po⟩
set_option maxRecDepth 100000 in
theorem pl_ma2_1 (k : Nat) : ∀ (j n : Nat) (b1 b2 b3 b4 b5 : Int32) (x : Int32) (hxl : 1 ≤ x.toInt) (hxu : x.toInt ≤ 24) (y q : Int32) (A Bv wv : Int64) (kv : Int32), j + k = 4 → 77 * k + 2100 ≤ n → ∃ (m : Nat) (w2 : Int64) (k2 : Int32) (c1 c2 c3 c4 c5 : Int32), 2100 ≤ m ∧ mm_x none n 184 96 [some (.ref 138), some (.int x), some (.int 2), some (.int y), some (.int q), some (.long A), none, some (.long Bv), none, some (.int (nI j)), some (.long wv), none, some (.int kv)] [] (mm_MC 0 0 24 1 5 (0 + (nI 2)) 0 0 0 0 0 0 0 0 b1 b2 b3 b4 b5 0 0 0 0 0 0 ([0, 0, 0, 0, 0, 0, 0, 0, 0, 0, 0, 0, 0, 0, 0, 0, 0, 0, 0, 0, 0, 0, 0, 0, 0]) ([0, 0, 0, 0, 0, 0, 0, 0, 0, 0, 0, 0, 0, 0, 0, 0, 0, 0, 0, 0, 0, 0, 0, 0, 0])) 0 0 = mm_x none m 184 96 [some (.ref 138), some (.int x), some (.int 2), some (.int y), some (.int q), some (.long (ms_ml (ms_g0) k j A)), none, some (.long Bv), none, some (.int (nI 4)), some (.long w2), none, some (.int k2)] [] (mm_MC 0 0 24 1 5 (0 + (nI 2)) 0 0 0 0 0 0 0 0 c1 c2 c3 c4 c5 0 0 0 0 0 0 ([0, 0, 0, 0, 0, 0, 0, 0, 0, 0, 0, 0, 0, 0, 0, 0, 0, 0, 0, 0, 0, 0, 0, 0, 0]) ([0, 0, 0, 0, 0, 0, 0, 0, 0, 0, 0, 0, 0, 0, 0, 0, 0, 0, 0, 0, 0, 0, 0, 0, 0])) 0 0 := by
  induction k with
  | zero =>
    intro j n b1 b2 b3 b4 b5 x hxl hxu y q A Bv wv kv hj hn
    have e : j = 4 := by omega
    subst e
    exact ⟨n, wv, kv, b1, b2, b3, b4, b5, by omega, rfl⟩
  | succ k IH =>
    intro j n b1 b2 b3 b4 b5 x hxl hxu y q A Bv wv kv hj hn
    obtain ⟨m, hm, h⟩ := pl_mo2_1_1 j n b1 b2 b3 b4 b5 x hxl hxu y q A Bv wv kv (by omega) (by omega)
    obtain ⟨m2, w2, k2, c1, c2, c3, c4, c5, hm2, h2⟩ := IH (j + 1) m (0 + nI 2) 0 24 1 5 x hxl hxu y q (ms_g0 j A) Bv (ms_ml (ms_gw ((y - 1).toInt64) (nI j)) 2 0 1) (nI 2) (by omega) (by omega)
    exact ⟨m2, w2, k2, c1, c2, c3, c4, c5, hm2, h.trans h2⟩
set_option maxRecDepth 100000 in
theorem pl_mt2_1 (n : Nat) (b1 b2 b3 b4 b5 : Int32) (x : Int32) (hxl : 1 ≤ x.toInt) (hxu : x.toInt ≤ 24) (y q : Int32) (Bv : Int64) (hn : 2408 ≤ n) : ∃ (m : Nat) (w2 : Int64) (k2 : Int32) (c1 c2 c3 c4 c5 : Int32), 2100 ≤ m ∧ mm_x none n 184 96 [some (.ref 138), some (.int x), some (.int 2), some (.int y), some (.int q), some (.long 0), none, some (.long Bv), none, some (.int 0), none, none, none] [] (mm_MC 0 0 24 1 5 (0 + (nI 2)) 0 0 0 0 0 0 0 0 b1 b2 b3 b4 b5 0 0 0 0 0 0 ([0, 0, 0, 0, 0, 0, 0, 0, 0, 0, 0, 0, 0, 0, 0, 0, 0, 0, 0, 0, 0, 0, 0, 0, 0]) ([0, 0, 0, 0, 0, 0, 0, 0, 0, 0, 0, 0, 0, 0, 0, 0, 0, 0, 0, 0, 0, 0, 0, 0, 0])) 0 0 = mm_x none m 184 96 [some (.ref 138), some (.int x), some (.int 2), some (.int y), some (.int q), some (.long (ms_ml (ms_g0) 4 0 0)), none, some (.long Bv), none, some (.int (nI 4)), some (.long w2), none, some (.int k2)] [] (mm_MC 0 0 24 1 5 (0 + (nI 2)) 0 0 0 0 0 0 0 0 c1 c2 c3 c4 c5 0 0 0 0 0 0 ([0, 0, 0, 0, 0, 0, 0, 0, 0, 0, 0, 0, 0, 0, 0, 0, 0, 0, 0, 0, 0, 0, 0, 0, 0]) ([0, 0, 0, 0, 0, 0, 0, 0, 0, 0, 0, 0, 0, 0, 0, 0, 0, 0, 0, 0, 0, 0, 0, 0, 0])) 0 0 := by
  obtain ⟨m, hm, h⟩ := pl_mo2_1_0 0 n b1 b2 b3 b4 b5 x hxl hxu y q 0 Bv (by omega) (by omega)
  obtain ⟨m2, w2, k2, c1, c2, c3, c4, c5, hm2, h2⟩ := pl_ma2_1 3 1 m (0 + nI 2) 0 24 1 5 x hxl hxu y q (ms_g0 0 0) Bv (ms_ml (ms_gw ((y - 1).toInt64) (nI 0)) 2 0 1) (nI 2) (by omega) (by omega)
  exact ⟨m2, w2, k2, c1, c2, c3, c4, c5, hm2, h.trans h2⟩
set_option maxRecDepth 100000 in
theorem pl_mi3_0 (k : Nat) : ∀ (j n : Nat) (b1 : Int32) (y q p : Int32) (A Bv wt : Int64), j + k = 3 → 24 * k + 700 ≤ n → ∃ m, n ≤ m + 24 * k + 3 ∧ mm_x none n 184 121 [some (.ref 138), some (.int 0), some (.int 3), some (.int y), some (.int q), some (.long A), none, some (.long Bv), none, some (.int p), some (.long wt), none, some (.int (nI j))] [] (mm_MC 0 0 24 1 5 (0 + (nI 3)) 0 0 0 0 0 0 0 0 b1 0 24 1 5 0 0 0 0 0 0 ([0, 0, 0, 0, 0, 0, 0, 0, 0, 0, 0, 0, 0, 0, 0, 0, 0, 0, 0, 0, 0, 0, 0, 0, 0]) ([0, 0, 0, 0, 0, 0, 0, 0, 0, 0, 0, 0, 0, 0, 0, 0, 0, 0, 0, 0, 0, 0, 0, 0, 0])) 0 0 = mm_x none m 184 178 [some (.ref 138), some (.int 0), some (.int 3), some (.int y), some (.int q), some (.long A), none, some (.long Bv), none, some (.int p), some (.long (ms_ml (ms_gw ((y - 1).toInt64) p) k j wt)), none, some (.int (nI 3))] [] (mm_MC 0 0 24 1 5 (0 + (nI 3)) 0 0 0 0 0 0 0 0 (b1 + nI k) 0 24 1 5 0 0 0 0 0 0 ([0, 0, 0, 0, 0, 0, 0, 0, 0, 0, 0, 0, 0, 0, 0, 0, 0, 0, 0, 0, 0, 0, 0, 0, 0]) ([0, 0, 0, 0, 0, 0, 0, 0, 0, 0, 0, 0, 0, 0, 0, 0, 0, 0, 0, 0, 0, 0, 0, 0, 0])) 0 0 := by
  induction k with
  | zero =>
    intro j n b1 y q p A Bv wt hj hn
    have f0 : n - 700 + 700 = n := by omega
    have e : j = 3 := by omega
    subst e
    have ex := pl_m3_0_e (n - 700) b1 y q p (nI 3) A Bv wt (show nI 3 ≤ nI 3 from nI_le (Nat.le_refl 3) (by omega))
    rw [f0] at ex
    have e0 : b1 + nI 0 = b1 := by rw [nI_0, Int32.add_zero]
    rw [e0, ms_ml_0]
    exact ⟨n - 700 + 697, by omega, ex⟩
  | succ k IH =>
    intro j n b1 y q p A Bv wt hj hn
    have f0 : n - 700 + 700 = n := by omega
    have e2 : nI j + 1 = nI (j + 1) := nI_1 j
    have e1 : b1 + nI (k + 1) = (b1 + 1) + nI k := by rw [nI_succ, Int32.add_assoc, Int32.add_comm 1 (nI k)]
    by_cases hb : ((p >>> (nI j &&& 31)) &&& 1) = 1
    · have it := pl_m3_0_b (n - 700) b1 y q p (nI j) A Bv wt (show ¬ nI 3 ≤ nI j from nI_ge (by omega) (by omega)) hb
      rw [f0, e2] at it
      obtain ⟨m, hm, ih⟩ := IH (j + 1) (n - 700 + 677) (b1 + 1) y q p A Bv (wt * 1) (by omega) (by omega)
      rw [e1, ms_ml_s, ms_gw_t hb]
      exact ⟨m, by omega, it.trans ih⟩
    · have it := pl_m3_0_n (n - 700) b1 y q p (nI j) A Bv wt (show ¬ nI 3 ≤ nI j from nI_ge (by omega) (by omega)) hb
      rw [f0, e2] at it
      obtain ⟨m, hm, ih⟩ := IH (j + 1) (n - 700 + 676) (b1 + 1) y q p A Bv (wt * ((y - 1).toInt64)) (by omega) (by omega)
      rw [e1, ms_ml_s, ms_gw_f hb]
      exact ⟨m, by omega, it.trans ih⟩
set_option maxRecDepth 100000 in
theorem pl_mo3_0_0 (j n : Nat) (b1 b2 b3 b4 b5 : Int32) (y q : Int32) (A Bv : Int64) (hj : j < 8) (hn : 102 + 1400 ≤ n) : ∃ m, n ≤ m + 102 ∧ mm_x none n 184 96 [some (.ref 138), some (.int 0), some (.int 3), some (.int y), some (.int q), some (.long A), none, some (.long Bv), none, some (.int (nI j)), none, none, none] [] (mm_MC 0 0 24 1 5 (0 + (nI 3)) 0 0 0 0 0 0 0 0 b1 b2 b3 b4 b5 0 0 0 0 0 0 ([0, 0, 0, 0, 0, 0, 0, 0, 0, 0, 0, 0, 0, 0, 0, 0, 0, 0, 0, 0, 0, 0, 0, 0, 0]) ([0, 0, 0, 0, 0, 0, 0, 0, 0, 0, 0, 0, 0, 0, 0, 0, 0, 0, 0, 0, 0, 0, 0, 0, 0])) 0 0 = mm_x none m 184 96 [some (.ref 138), some (.int 0), some (.int 3), some (.int y), some (.int q), some (.long (ms_gm 3 ((y - 1).toInt64) j A)), none, some (.long Bv), none, some (.int (nI (j + 1))), some (.long (ms_ml (ms_gw ((y - 1).toInt64) (nI j)) 3 0 1)), none, some (.int (nI 3))] [] (mm_MC 0 0 24 1 5 (0 + (nI 3)) 0 0 0 0 0 0 0 0 (0 + nI 3) 0 24 1 5 0 0 0 0 0 0 ([0, 0, 0, 0, 0, 0, 0, 0, 0, 0, 0, 0, 0, 0, 0, 0, 0, 0, 0, 0, 0, 0, 0, 0, 0]) ([0, 0, 0, 0, 0, 0, 0, 0, 0, 0, 0, 0, 0, 0, 0, 0, 0, 0, 0, 0, 0, 0, 0, 0, 0])) 0 0 := by
  have f0 : n - 700 + 700 = n := by omega
  have e2 : nI j + 1 = nI (j + 1) := nI_1 j
  have pre := pl_m3_0_p0 (n - 700) b1 b2 b3 b4 b5 y q (nI j) A Bv (show ¬ nI 8 ≤ nI j from nI_ge (by omega) (by omega))
  rw [f0] at pre
  obtain ⟨m, hm, hi⟩ := pl_mi3_0 3 0 (n - 700 + 686) 0 y q (nI j) A Bv 1 (by omega) (by omega)
  have po := pl_m3_0_a (m - 700) (0 + nI 3) y q (nI j) (nI 3) A Bv (ms_ml (ms_gw ((y - 1).toInt64) (nI j)) 3 0 1)
  have f1 : m - 700 + 700 = m := by omega
  rw [f1, e2] at po
  exact ⟨m - 700 + 687, by omega, (pre.trans hi).trans po⟩
set_option maxRecDepth 100000 in
theorem pl_mo3_0_1 (j n : Nat) (b1 b2 b3 b4 b5 : Int32) (y q : Int32) (A Bv : Int64) (wv : Int64) (kv : Int32) (hj : j < 8) (hn : 102 + 1400 ≤ n) : ∃ m, n ≤ m + 102 ∧ mm_x none n 184 96 [some (.ref 138), some (.int 0), some (.int 3), some (.int y), some (.int q), some (.long A), none, some (.long Bv), none, some (.int (nI j)), some (.long wv), none, some (.int kv)] [] (mm_MC 0 0 24 1 5 (0 + (nI 3)) 0 0 0 0 0 0 0 0 b1 b2 b3 b4 b5 0 0 0 0 0 0 ([0, 0, 0, 0, 0, 0, 0, 0, 0, 0, 0, 0, 0, 0, 0, 0, 0, 0, 0, 0, 0, 0, 0, 0, 0]) ([0, 0, 0, 0, 0, 0, 0, 0, 0, 0, 0, 0, 0, 0, 0, 0, 0, 0, 0, 0, 0, 0, 0, 0, 0])) 0 0 = mm_x none m 184 96 [some (.ref 138), some (.int 0), some (.int 3), some (.int y), some (.int q), some (.long (ms_gm 3 ((y - 1).toInt64) j A)), none, some (.long Bv), none, some (.int (nI (j + 1))), some (.long (ms_ml (ms_gw ((y - 1).toInt64) (nI j)) 3 0 1)), none, some (.int (nI 3))] [] (mm_MC 0 0 24 1 5 (0 + (nI 3)) 0 0 0 0 0 0 0 0 (0 + nI 3) 0 24 1 5 0 0 0 0 0 0 ([0, 0, 0, 0, 0, 0, 0, 0, 0, 0, 0, 0, 0, 0, 0, 0, 0, 0, 0, 0, 0, 0, 0, 0, 0]) ([0, 0, 0, 0, 0, 0, 0, 0, 0, 0, 0, 0, 0, 0, 0, 0, 0, 0, 0, 0, 0, 0, 0, 0, 0])) 0 0 := by
  have f0 : n - 700 + 700 = n := by omega
  have e2 : nI j + 1 = nI (j + 1) := nI_1 j
  have pre := pl_m3_0_p1 (n - 700) b1 b2 b3 b4 b5 y q (nI j) A Bv wv kv (show ¬ nI 8 ≤ nI j from nI_ge (by omega) (by omega))
  rw [f0] at pre
  obtain ⟨m, hm, hi⟩ := pl_mi3_0 3 0 (n - 700 + 686) 0 y q (nI j) A Bv 1 (by omega) (by omega)
  have po := pl_m3_0_a (m - 700) (0 + nI 3) y q (nI j) (nI 3) A Bv (ms_ml (ms_gw ((y - 1).toInt64) (nI j)) 3 0 1)
  have f1 : m - 700 + 700 = m := by omega
  rw [f1, e2] at po
  exact ⟨m - 700 + 687, by omega, (pre.trans hi).trans po⟩
set_option maxRecDepth 100000 in
theorem pl_ma3_0 (k : Nat) : ∀ (j n : Nat) (b1 b2 b3 b4 b5 : Int32) (y q : Int32) (A Bv wv : Int64) (kv : Int32), j + k = 8 → 102 * k + 2100 ≤ n → ∃ (m : Nat) (w2 : Int64) (k2 : Int32) (c1 c2 c3 c4 c5 : Int32), 2100 ≤ m ∧ mm_x none n 184 96 [some (.ref 138), some (.int 0), some (.int 3), some (.int y), some (.int q), some (.long A), none, some (.long Bv), none, some (.int (nI j)), some (.long wv), none, some (.int kv)] [] (mm_MC 0 0 24 1 5 (0 + (nI 3)) 0 0 0 0 0 0 0 0 b1 b2 b3 b4 b5 0 0 0 0 0 0 ([0, 0, 0, 0, 0, 0, 0, 0, 0, 0, 0, 0, 0, 0, 0, 0, 0, 0, 0, 0, 0, 0, 0, 0, 0]) ([0, 0, 0, 0, 0, 0, 0, 0, 0, 0, 0, 0, 0, 0, 0, 0, 0, 0, 0, 0, 0, 0, 0, 0, 0])) 0 0 = mm_x none m 184 96 [some (.ref 138), some (.int 0), some (.int 3), some (.int y), some (.int q), some (.long (ms_ml (ms_gm 3 ((y - 1).toInt64)) k j A)), none, some (.long Bv), none, some (.int (nI 8)), some (.long w2), none, some (.int k2)] [] (mm_MC 0 0 24 1 5 (0 + (nI 3)) 0 0 0 0 0 0 0 0 c1 c2 c3 c4 c5 0 0 0 0 0 0 ([0, 0, 0, 0, 0, 0, 0, 0, 0, 0, 0, 0, 0, 0, 0, 0, 0, 0, 0, 0, 0, 0, 0, 0, 0]) ([0, 0, 0, 0, 0, 0, 0, 0, 0, 0, 0, 0, 0, 0, 0, 0, 0, 0, 0, 0, 0, 0, 0, 0, 0])) 0 0 := by
  induction k with
  | zero =>
    intro j n b1 b2 b3 b4 b5 y q A Bv wv kv hj hn
    have e : j = 8 := by omega
    subst e
    exact ⟨n, wv, kv, b1, b2, b3, b4, b5, by omega, rfl⟩
  | succ k IH =>
    intro j n b1 b2 b3 b4 b5 y q A Bv wv kv hj hn
    obtain ⟨m, hm, h⟩ := pl_mo3_0_1 j n b1 b2 b3 b4 b5 y q A Bv wv kv (by omega) (by omega)
    obtain ⟨m2, w2, k2, c1, c2, c3, c4, c5, hm2, h2⟩ := IH (j + 1) m (0 + nI 3) 0 24 1 5 y q (ms_gm 3 ((y - 1).toInt64) j A) Bv (ms_ml (ms_gw ((y - 1).toInt64) (nI j)) 3 0 1) (nI 3) (by omega) (by omega)
    exact ⟨m2, w2, k2, c1, c2, c3, c4, c5, hm2, h.trans h2⟩
set_option maxRecDepth 100000 in
theorem pl_mt3_0 (n : Nat) (b1 b2 b3 b4 b5 : Int32) (y q : Int32) (Bv : Int64) (hn : 2916 ≤ n) : ∃ (m : Nat) (w2 : Int64) (k2 : Int32) (c1 c2 c3 c4 c5 : Int32), 2100 ≤ m ∧ mm_x none n 184 96 [some (.ref 138), some (.int 0), some (.int 3), some (.int y), some (.int q), some (.long 0), none, some (.long Bv), none, some (.int 0), none, none, none] [] (mm_MC 0 0 24 1 5 (0 + (nI 3)) 0 0 0 0 0 0 0 0 b1 b2 b3 b4 b5 0 0 0 0 0 0 ([0, 0, 0, 0, 0, 0, 0, 0, 0, 0, 0, 0, 0, 0, 0, 0, 0, 0, 0, 0, 0, 0, 0, 0, 0]) ([0, 0, 0, 0, 0, 0, 0, 0, 0, 0, 0, 0, 0, 0, 0, 0, 0, 0, 0, 0, 0, 0, 0, 0, 0])) 0 0 = mm_x none m 184 96 [some (.ref 138), some (.int 0), some (.int 3), some (.int y), some (.int q), some (.long (ms_ml (ms_gm 3 ((y - 1).toInt64)) 8 0 0)), none, some (.long Bv), none, some (.int (nI 8)), some (.long w2), none, some (.int k2)] [] (mm_MC 0 0 24 1 5 (0 + (nI 3)) 0 0 0 0 0 0 0 0 c1 c2 c3 c4 c5 0 0 0 0 0 0 ([0, 0, 0, 0, 0, 0, 0, 0, 0, 0, 0, 0, 0, 0, 0, 0, 0, 0, 0, 0, 0, 0, 0, 0, 0]) ([0, 0, 0, 0, 0, 0, 0, 0, 0, 0, 0, 0, 0, 0, 0, 0, 0, 0, 0, 0, 0, 0, 0, 0, 0])) 0 0 := by
  obtain ⟨m, hm, h⟩ := pl_mo3_0_0 0 n b1 b2 b3 b4 b5 y q 0 Bv (by omega) (by omega)
  obtain ⟨m2, w2, k2, c1, c2, c3, c4, c5, hm2, h2⟩ := pl_ma3_0 7 1 m (0 + nI 3) 0 24 1 5 y q (ms_gm 3 ((y - 1).toInt64) 0 0) Bv (ms_ml (ms_gw ((y - 1).toInt64) (nI 0)) 3 0 1) (nI 3) (by omega) (by omega)
  exact ⟨m2, w2, k2, c1, c2, c3, c4, c5, hm2, h.trans h2⟩
set_option maxRecDepth 100000 in
theorem pl_mi3_1 (k : Nat) : ∀ (j n : Nat) (b1 : Int32) (x : Int32) (hxl : 1 ≤ x.toInt) (hxu : x.toInt ≤ 24) (y q p : Int32) (A Bv wt : Int64), j + k = 3 → 24 * k + 700 ≤ n → ∃ m, n ≤ m + 24 * k + 3 ∧ mm_x none n 184 121 [some (.ref 138), some (.int x), some (.int 3), some (.int y), some (.int q), some (.long A), none, some (.long Bv), none, some (.int p), some (.long wt), none, some (.int (nI j))] [] (mm_MC 0 0 24 1 5 (0 + (nI 3)) 0 0 0 0 0 0 0 0 b1 0 24 1 5 0 0 0 0 0 0 ([0, 0, 0, 0, 0, 0, 0, 0, 0, 0, 0, 0, 0, 0, 0, 0, 0, 0, 0, 0, 0, 0, 0, 0, 0]) ([0, 0, 0, 0, 0, 0, 0, 0, 0, 0, 0, 0, 0, 0, 0, 0, 0, 0, 0, 0, 0, 0, 0, 0, 0])) 0 0 = mm_x none m 184 178 [some (.ref 138), some (.int x), some (.int 3), some (.int y), some (.int q), some (.long A), none, some (.long Bv), none, some (.int p), some (.long (ms_ml (ms_gw ((y - 1).toInt64) p) k j wt)), none, some (.int (nI 3))] [] (mm_MC 0 0 24 1 5 (0 + (nI 3)) 0 0 0 0 0 0 0 0 (b1 + nI k) 0 24 1 5 0 0 0 0 0 0 ([0, 0, 0, 0, 0, 0, 0, 0, 0, 0, 0, 0, 0, 0, 0, 0, 0, 0, 0, 0, 0, 0, 0, 0, 0]) ([0, 0, 0, 0, 0, 0, 0, 0, 0, 0, 0, 0, 0, 0, 0, 0, 0, 0, 0, 0, 0, 0, 0, 0, 0])) 0 0 := by
  induction k with
  | zero =>
    intro j n b1 x hxl hxu y q p A Bv wt hj hn
    have f0 : n - 700 + 700 = n := by omega
    have e : j = 3 := by omega
    subst e
    have ex := pl_m3_1_e (n - 700) b1 x hxl hxu y q p (nI 3) A Bv wt (show nI 3 ≤ nI 3 from nI_le (Nat.le_refl 3) (by omega))
    rw [f0] at ex
    have e0 : b1 + nI 0 = b1 := by rw [nI_0, Int32.add_zero]
    rw [e0, ms_ml_0]
    exact ⟨n - 700 + 697, by omega, ex⟩
  | succ k IH =>
    intro j n b1 x hxl hxu y q p A Bv wt hj hn
    have f0 : n - 700 + 700 = n := by omega
    have e2 : nI j + 1 = nI (j + 1) := nI_1 j
    have e1 : b1 + nI (k + 1) = (b1 + 1) + nI k := by rw [nI_succ, Int32.add_assoc, Int32.add_comm 1 (nI k)]
    by_cases hb : ((p >>> (nI j &&& 31)) &&& 1) = 1
    · have it := pl_m3_1_b (n - 700) b1 x hxl hxu y q p (nI j) A Bv wt (show ¬ nI 3 ≤ nI j from nI_ge (by omega) (by omega)) hb
      rw [f0, e2] at it
      obtain ⟨m, hm, ih⟩ := IH (j + 1) (n - 700 + 677) (b1 + 1) x hxl hxu y q p A Bv (wt * 1) (by omega) (by omega)
      rw [e1, ms_ml_s, ms_gw_t hb]
      exact ⟨m, by omega, it.trans ih⟩
    · have it := pl_m3_1_n (n - 700) b1 x hxl hxu y q p (nI j) A Bv wt (show ¬ nI 3 ≤ nI j from nI_ge (by omega) (by omega)) hb
      rw [f0, e2] at it
      obtain ⟨m, hm, ih⟩ := IH (j + 1) (n - 700 + 676) (b1 + 1) x hxl hxu y q p A Bv (wt * ((y - 1).toInt64)) (by omega) (by omega)
      rw [e1, ms_ml_s, ms_gw_f hb]
      exact ⟨m, by omega, it.trans ih⟩
set_option maxRecDepth 100000 in
theorem pl_mo3_1_0 (j n : Nat) (b1 b2 b3 b4 b5 : Int32) (x : Int32) (hxl : 1 ≤ x.toInt) (hxu : x.toInt ≤ 24) (y q : Int32) (A Bv : Int64) (hj : j < 8) (hn : 101 + 1400 ≤ n) : ∃ m, n ≤ m + 101 ∧ mm_x none n 184 96 [some (.ref 138), some (.int x), some (.int 3), some (.int y), some (.int q), some (.long A), none, some (.long Bv), none, some (.int (nI j)), none, none, none] [] (mm_MC 0 0 24 1 5 (0 + (nI 3)) 0 0 0 0 0 0 0 0 b1 b2 b3 b4 b5 0 0 0 0 0 0 ([0, 0, 0, 0, 0, 0, 0, 0, 0, 0, 0, 0, 0, 0, 0, 0, 0, 0, 0, 0, 0, 0, 0, 0, 0]) ([0, 0, 0, 0, 0, 0, 0, 0, 0, 0, 0, 0, 0, 0, 0, 0, 0, 0, 0, 0, 0, 0, 0, 0, 0])) 0 0 = mm_x none m 184 96 [some (.ref 138), some (.int x), some (.int 3), some (.int y), some (.int q), some (.long (ms_g0 j A)), none, some (.long Bv), none, some (.int (nI (j + 1))), some (.long (ms_ml (ms_gw ((y - 1).toInt64) (nI j)) 3 0 1)), none, some (.int (nI 3))] [] (mm_MC 0 0 24 1 5 (0 + (nI 3)) 0 0 0 0 0 0 0 0 (0 + nI 3) 0 24 1 5 0 0 0 0 0 0 ([0, 0, 0, 0, 0, 0, 0, 0, 0, 0, 0, 0, 0, 0, 0, 0, 0, 0, 0, 0, 0, 0, 0, 0, 0]) ([0, 0, 0, 0, 0, 0, 0, 0, 0, 0, 0, 0, 0, 0, 0, 0, 0, 0, 0, 0, 0, 0, 0, 0, 0])) 0 0 := by
  have f0 : n - 700 + 700 = n := by omega
  have e2 : nI j + 1 = nI (j + 1) := nI_1 j
  have pre := pl_m3_1_p0 (n - 700) b1 b2 b3 b4 b5 x hxl hxu y q (nI j) A Bv (show ¬ nI 8 ≤ nI j from nI_ge (by omega) (by omega))
  rw [f0] at pre
  obtain ⟨m, hm, hi⟩ := pl_mi3_1 3 0 (n - 700 + 686) 0 x hxl hxu y q (nI j) A Bv 1 (by omega) (by omega)
  have po := pl_m3_1_a (m - 700) (0 + nI 3) x hxl hxu y q (nI j) (nI 3) A Bv (ms_ml (ms_gw ((y - 1).toInt64) (nI j)) 3 0 1)
  have f1 : m - 700 + 700 = m := by omega
  rw [f1, e2] at po
  exact ⟨m - 700 + 688, by omega, (pre.trans hi).trans po⟩
set_option maxRecDepth 100000 in
theorem pl_mo3_1_1 (j n : Nat) (b1 b2 b3 b4 b5 : Int32) (x : Int32) (hxl : 1 ≤ x.toInt) (hxu : x.toInt ≤ 24) (y q : Int32) (A Bv : Int64) (wv : Int64) (kv : Int32) (hj : j < 8) (hn : 101 + 1400 ≤ n) : ∃ m, n ≤ m + 101 ∧ mm_x none n 184 96 [some (.ref 138), some (.int x), some (.int 3), some (.int y), some (.int q), some (.long A), none, some (.long Bv), none, some (.int (nI j)), some (.long wv), none, some (.int kv)] [] (mm_MC 0 0 24 1 5 (0 + (nI 3)) 0 0 0 0 0 0 0 0 b1 b2 b3 b4 b5 0 0 0 0 0 0 ([0, 0, 0, 0, 0, 0, 0, 0, 0, 0, 0, 0, 0, 0, 0, 0, 0, 0, 0, 0, 0, 0, 0, 0, 0]) ([0, 0, 0, 0, 0, 0, 0, 0, 0, 0, 0, 0, 0, 0, 0, 0, 0, 0, 0, 0, 0, 0, 0, 0, 0])) 0 0 = mm_x none m 184 96 [some (.ref 138), some (.int x), some (.int 3), some (.int y), some (.int q), some (.long (ms_g0 j A)), none, some (.long Bv), none, some (.int (nI (j + 1))), some (.long (ms_ml (ms_gw ((y - 1).toInt64) (nI j)) 3 0 1)), none, some (.int (nI 3))] [] (mm_MC 0 0 24 1 5 (0 + (nI 3)) 0 0 0 0 0 0 0 0 (0 + nI 3) 0 24 1 5 0 0 0 0 0 0 ([0, 0, 0, 0, 0, 0, 0, 0, 0, 0, 0, 0, 0, 0, 0, 0, 0, 0, 0, 0, 0, 0, 0, 0, 0]) ([0, 0, 0, 0, 0, 0, 0, 0, 0, 0, 0, 0, 0, 0, 0, 0, 0, 0, 0, 0, 0, 0, 0, 0, 0])) 0 0 := by
  have f0 : n - 700 + 700 = n := by omega
  have e2 : nI j + 1 = nI (j + 1) := nI_1 j
  have pre := pl_m3_1_p1 (n - 700) b1 b2 b3 b4 b5 x hxl hxu y q (nI j) A Bv wv kv (show ¬ nI 8 ≤ nI j from nI_ge (by omega) (by omega))
  rw [f0] at pre
  obtain ⟨m, hm, hi⟩ := pl_mi3_1 3 0 (n - 700 + 686) 0 x hxl hxu y q (nI j) A Bv 1 (by omega) (by omega)
  have po := pl_m3_1_a (m - 700) (0 + nI 3) x hxl hxu y q (nI j) (nI 3) A Bv (ms_ml (ms_gw ((y - 1).toInt64) (nI j)) 3 0 1)
  have f1 : m - 700 + 700 = m := by omega
  rw [f1, e2] at po
  exact ⟨m - 700 + 688, by omega, (pre.trans hi).trans po⟩
set_option maxRecDepth 100000 in
theorem pl_ma3_1 (k : Nat) : ∀ (j n : Nat) (b1 b2 b3 b4 b5 : Int32) (x : Int32) (hxl : 1 ≤ x.toInt) (hxu : x.toInt ≤ 24) (y q : Int32) (A Bv wv : Int64) (kv : Int32), j + k = 8 → 101 * k + 2100 ≤ n → ∃ (m : Nat) (w2 : Int64) (k2 : Int32) (c1 c2 c3 c4 c5 : Int32), 2100 ≤ m ∧ mm_x none n 184 96 [some (.ref 138), some (.int x), some (.int 3), some (.int y), some (.int q), some (.long A), none, some (.long Bv), none, some (.int (nI j)), some (.long wv), none, some (.int kv)] [] (mm_MC 0 0 24 1 5 (0 + (nI 3)) 0 0 0 0 0 0 0 0 b1 b2 b3 b4 b5 0 0 0 0 0 0 ([0, 0, 0, 0, 0, 0, 0, 0, 0, 0, 0, 0, 0, 0, 0, 0, 0, 0, 0, 0, 0, 0, 0, 0, 0]) ([0, 0, 0, 0, 0, 0, 0, 0, 0, 0, 0, 0, 0, 0, 0, 0, 0, 0, 0, 0, 0, 0, 0, 0, 0])) 0 0 = mm_x none m 184 96 [some (.ref 138), some (.int x), some (.int 3), some (.int y), some (.int q), some (.long (ms_ml (ms_g0) k j A)), none, some (.long Bv), none, some (.int (nI 8)), some (.long w2), none, some (.int k2)] [] (mm_MC 0 0 24 1 5 (0 + (nI 3)) 0 0 0 0 0 0 0 0 c1 c2 c3 c4 c5 0 0 0 0 0 0 ([0, 0, 0, 0, 0, 0, 0, 0, 0, 0, 0, 0, 0, 0, 0, 0, 0, 0, 0, 0, 0, 0, 0, 0, 0]) ([0, 0, 0, 0, 0, 0, 0, 0, 0, 0, 0, 0, 0, 0, 0, 0, 0, 0, 0, 0, 0, 0, 0, 0, 0])) 0 0 := by
  induction k with
  | zero =>
    intro j n b1 b2 b3 b4 b5 x hxl hxu y q A Bv wv kv hj hn
    have e : j = 8 := by omega
    subst e
    exact ⟨n, wv, kv, b1, b2, b3, b4, b5, by omega, rfl⟩
  | succ k IH =>
    intro j n b1 b2 b3 b4 b5 x hxl hxu y q A Bv wv kv hj hn
    obtain ⟨m, hm, h⟩ := pl_mo3_1_1 j n b1 b2 b3 b4 b5 x hxl hxu y q A Bv wv kv (by omega) (by omega)
    obtain ⟨m2, w2, k2, c1, c2, c3, c4, c5, hm2, h2⟩ := IH (j + 1) m (0 + nI 3) 0 24 1 5 x hxl hxu y q (ms_g0 j A) Bv (ms_ml (ms_gw ((y - 1).toInt64) (nI j)) 3 0 1) (nI 3) (by omega) (by omega)
    exact ⟨m2, w2, k2, c1, c2, c3, c4, c5, hm2, h.trans h2⟩
set_option maxRecDepth 100000 in
theorem pl_mt3_1 (n : Nat) (b1 b2 b3 b4 b5 : Int32) (x : Int32) (hxl : 1 ≤ x.toInt) (hxu : x.toInt ≤ 24) (y q : Int32) (Bv : Int64) (hn : 2908 ≤ n) : ∃ (m : Nat) (w2 : Int64) (k2 : Int32) (c1 c2 c3 c4 c5 : Int32), 2100 ≤ m ∧ mm_x none n 184 96 [some (.ref 138), some (.int x), some (.int 3), some (.int y), some (.int q), some (.long 0), none, some (.long Bv), none, some (.int 0), none, none, none] [] (mm_MC 0 0 24 1 5 (0 + (nI 3)) 0 0 0 0 0 0 0 0 b1 b2 b3 b4 b5 0 0 0 0 0 0 ([0, 0, 0, 0, 0, 0, 0, 0, 0, 0, 0, 0, 0, 0, 0, 0, 0, 0, 0, 0, 0, 0, 0, 0, 0]) ([0, 0, 0, 0, 0, 0, 0, 0, 0, 0, 0, 0, 0, 0, 0, 0, 0, 0, 0, 0, 0, 0, 0, 0, 0])) 0 0 = mm_x none m 184 96 [some (.ref 138), some (.int x), some (.int 3), some (.int y), some (.int q), some (.long (ms_ml (ms_g0) 8 0 0)), none, some (.long Bv), none, some (.int (nI 8)), some (.long w2), none, some (.int k2)] [] (mm_MC 0 0 24 1 5 (0 + (nI 3)) 0 0 0 0 0 0 0 0 c1 c2 c3 c4 c5 0 0 0 0 0 0 ([0, 0, 0, 0, 0, 0, 0, 0, 0, 0, 0, 0, 0, 0, 0, 0, 0, 0, 0, 0, 0, 0, 0, 0, 0]) ([0, 0, 0, 0, 0, 0, 0, 0, 0, 0, 0, 0, 0, 0, 0, 0, 0, 0, 0, 0, 0, 0, 0, 0, 0])) 0 0 := by
  obtain ⟨m, hm, h⟩ := pl_mo3_1_0 0 n b1 b2 b3 b4 b5 x hxl hxu y q 0 Bv (by omega) (by omega)
  obtain ⟨m2, w2, k2, c1, c2, c3, c4, c5, hm2, h2⟩ := pl_ma3_1 7 1 m (0 + nI 3) 0 24 1 5 x hxl hxu y q (ms_g0 0 0) Bv (ms_ml (ms_gw ((y - 1).toInt64) (nI 0)) 3 0 1) (nI 3) (by omega) (by omega)
  exact ⟨m2, w2, k2, c1, c2, c3, c4, c5, hm2, h.trans h2⟩
set_option maxRecDepth 100000 in
theorem pl_mi4_0 (k : Nat) : ∀ (j n : Nat) (b1 : Int32) (y q p : Int32) (A Bv wt : Int64), j + k = 4 → 24 * k + 700 ≤ n → ∃ m, n ≤ m + 24 * k + 3 ∧ mm_x none n 184 121 [some (.ref 138), some (.int 0), some (.int 4), some (.int y), some (.int q), some (.long A), none, some (.long Bv), none, some (.int p), some (.long wt), none, some (.int (nI j))] [] (mm_MC 0 0 24 1 5 (0 + (nI 4)) 0 0 0 0 0 0 0 0 b1 0 24 1 5 0 0 0 0 0 0 ([0, 0, 0, 0, 0, 0, 0, 0, 0, 0, 0, 0, 0, 0, 0, 0, 0, 0, 0, 0, 0, 0, 0, 0, 0]) ([0, 0, 0, 0, 0, 0, 0, 0, 0, 0, 0, 0, 0, 0, 0, 0, 0, 0, 0, 0, 0, 0, 0, 0, 0])) 0 0 = mm_x none m 184 178 [some (.ref 138), some (.int 0), some (.int 4), some (.int y), some (.int q), some (.long A), none, some (.long Bv), none, some (.int p), some (.long (ms_ml (ms_gw ((y - 1).toInt64) p) k j wt)), none, some (.int (nI 4))] [] (mm_MC 0 0 24 1 5 (0 + (nI 4)) 0 0 0 0 0 0 0 0 (b1 + nI k) 0 24 1 5 0 0 0 0 0 0 ([0, 0, 0, 0, 0, 0, 0, 0, 0, 0, 0, 0, 0, 0, 0, 0, 0, 0, 0, 0, 0, 0, 0, 0, 0]) ([0, 0, 0, 0, 0, 0, 0, 0, 0, 0, 0, 0, 0, 0, 0, 0, 0, 0, 0, 0, 0, 0, 0, 0, 0])) 0 0 := by
  induction k with
  | zero =>
    intro j n b1 y q p A Bv wt hj hn
    have f0 : n - 700 + 700 = n := by omega
    have e : j = 4 := by omega
    subst e
    have ex := pl_m4_0_e (n - 700) b1 y q p (nI 4) A Bv wt (show nI 4 ≤ nI 4 from nI_le (Nat.le_refl 4) (by omega))
    rw [f0] at ex
    have e0 : b1 + nI 0 = b1 := by rw [nI_0, Int32.add_zero]
    rw [e0, ms_ml_0]
    exact ⟨n - 700 + 697, by omega, ex⟩
  | succ k IH =>
    intro j n b1 y q p A Bv wt hj hn
    have f0 : n - 700 + 700 = n := by omega
    have e2 : nI j + 1 = nI (j + 1) := nI_1 j
    have e1 : b1 + nI (k + 1) = (b1 + 1) + nI k := by rw [nI_succ, Int32.add_assoc, Int32.add_comm 1 (nI k)]
    by_cases hb : ((p >>> (nI j &&& 31)) &&& 1) = 1
    · have it := pl_m4_0_b (n - 700) b1 y q p (nI j) A Bv wt (show ¬ nI 4 ≤ nI j from nI_ge (by omega) (by omega)) hb
      rw [f0, e2] at it
      obtain ⟨m, hm, ih⟩ := IH (j + 1) (n - 700 + 677) (b1 + 1) y q p A Bv (wt * 1) (by omega) (by omega)
      rw [e1, ms_ml_s, ms_gw_t hb]
      exact ⟨m, by omega, it.trans ih⟩
    · have it := pl_m4_0_n (n - 700) b1 y q p (nI j) A Bv wt (show ¬ nI 4 ≤ nI j from nI_ge (by omega) (by omega)) hb
      rw [f0, e2] at it
      obtain ⟨m, hm, ih⟩ := IH (j + 1) (n - 700 + 676) (b1 + 1) y q p A Bv (wt * ((y - 1).toInt64)) (by omega) (by omega)
      rw [e1, ms_ml_s, ms_gw_f hb]
      exact ⟨m, by omega, it.trans ih⟩
set_option maxRecDepth 100000 in
theorem pl_mo4_0_0 (j n : Nat) (b1 b2 b3 b4 b5 : Int32) (y q : Int32) (A Bv : Int64) (hj : j < 16) (hn : 126 + 1400 ≤ n) : ∃ m, n ≤ m + 126 ∧ mm_x none n 184 96 [some (.ref 138), some (.int 0), some (.int 4), some (.int y), some (.int q), some (.long A), none, some (.long Bv), none, some (.int (nI j)), none, none, none] [] (mm_MC 0 0 24 1 5 (0 + (nI 4)) 0 0 0 0 0 0 0 0 b1 b2 b3 b4 b5 0 0 0 0 0 0 ([0, 0, 0, 0, 0, 0, 0, 0, 0, 0, 0, 0, 0, 0, 0, 0, 0, 0, 0, 0, 0, 0, 0, 0, 0]) ([0, 0, 0, 0, 0, 0, 0, 0, 0, 0, 0, 0, 0, 0, 0, 0, 0, 0, 0, 0, 0, 0, 0, 0, 0])) 0 0 = mm_x none m 184 96 [some (.ref 138), some (.int 0), some (.int 4), some (.int y), some (.int q), some (.long (ms_gm 4 ((y - 1).toInt64) j A)), none, some (.long Bv), none, some (.int (nI (j + 1))), some (.long (ms_ml (ms_gw ((y - 1).toInt64) (nI j)) 4 0 1)), none, some (.int (nI 4))] [] (mm_MC 0 0 24 1 5 (0 + (nI 4)) 0 0 0 0 0 0 0 0 (0 + nI 4) 0 24 1 5 0 0 0 0 0 0 ([0, 0, 0, 0, 0, 0, 0, 0, 0, 0, 0, 0, 0, 0, 0, 0, 0, 0, 0, 0, 0, 0, 0, 0, 0]) ([0, 0, 0, 0, 0, 0, 0, 0, 0, 0, 0, 0, 0, 0, 0, 0, 0, 0, 0, 0, 0, 0, 0, 0, 0])) 0 0 := by
  have f0 : n - 700 + 700 = n := by omega
  have e2 : nI j + 1 = nI (j + 1) := nI_1 j
  have pre := pl_m4_0_p0 (n - 700) b1 b2 b3 b4 b5 y q (nI j) A Bv (show ¬ nI 16 ≤ nI j from nI_ge (by omega) (by omega))
  rw [f0] at pre
  obtain ⟨m, hm, hi⟩ := pl_mi4_0 4 0 (n - 700 + 686) 0 y q (nI j) A Bv 1 (by omega) (by omega)
  have po := pl_m4_0_a (m - 700) (0 + nI 4) y q (nI j) (nI 4) A Bv (ms_ml (ms_gw ((y - 1).toInt64) (nI j)) 4 0 1)
  have f1 : m - 700 + 700 = m := by omega
  rw [f1, e2] at po
  exact ⟨m - 700 + 687, by omega, (pre.trans hi).trans po⟩
set_option maxRecDepth 100000 in
theorem pl_mo4_0_1 (j n : Nat) (b1 b2 b3 b4 b5 : Int32) (y q : Int32) (A Bv : Int64) (wv : Int64) (kv : Int32) (hj : j < 16) (hn : 126 + 1400 ≤ n) : ∃ m, n ≤ m + 126 ∧ mm_x none n 184 96 [some (.ref 138), some (.int 0), some (.int 4), some (.int y), some (.int q), some (.long A), none, some (.long Bv), none, some (.int (nI j)), some (.long wv), none, some (.int kv)] [] (mm_MC 0 0 24 1 5 (0 + (nI 4)) 0 0 0 0 0 0 0 0 b1 b2 b3 b4 b5 0 0 0 0 0 0 ([0, 0, 0, 0, 0, 0, 0, 0, 0, 0, 0, 0, 0, 0, 0, 0, 0, 0, 0, 0, 0, 0, 0, 0, 0]) ([0, 0, 0, 0, 0, 0, 0, 0, 0, 0, 0, 0, 0, 0, 0, 0, 0, 0, 0, 0, 0, 0, 0, 0, 0])) 0 0 = mm_x none m 184 96 [some (.ref 138), some (.int 0), some (.int 4), some (.int y), some (.int q), some (.long (ms_gm 4 ((y - 1).toInt64) j A)), none, some (.long Bv), none, some (.int (nI (j + 1))), some (.long (ms_ml (ms_gw ((y - 1).toInt64) (nI j)) 4 0 1)), none, some (.int (nI 4))] [] (mm_MC 0 0 24 1 5 (0 + (nI 4)) 0 0 0 0 0 0 0 0 (0 + nI 4) 0 24 1 5 0 0 0 0 0 0 ([0, 0, 0, 0, 0, 0, 0, 0, 0, 0, 0, 0, 0, 0, 0, 0, 0, 0, 0, 0, 0, 0, 0, 0, 0]) ([0, 0, 0, 0, 0, 0, 0, 0, 0, 0, 0, 0, 0, 0, 0, 0, 0, 0, 0, 0, 0, 0, 0, 0, 0])) 0 0 := by
  have f0 : n - 700 + 700 = n := by omega
  have e2 : nI j + 1 = nI (j + 1) := nI_1 j
  have pre := pl_m4_0_p1 (n - 700) b1 b2 b3 b4 b5 y q (nI j) A Bv wv kv (show ¬ nI 16 ≤ nI j from nI_ge (by omega) (by omega))
  rw [f0] at pre
  obtain ⟨m, hm, hi⟩ := pl_mi4_0 4 0 (n - 700 + 686) 0 y q (nI j) A Bv 1 (by omega) (by omega)
  have po := pl_m4_0_a (m - 700) (0 + nI 4) y q (nI j) (nI 4) A Bv (ms_ml (ms_gw ((y - 1).toInt64) (nI j)) 4 0 1)
  have f1 : m - 700 + 700 = m := by omega
  rw [f1, e2] at po
  exact ⟨m - 700 + 687, by omega, (pre.trans hi).trans po⟩
set_option maxRecDepth 100000 in
theorem pl_ma4_0 (k : Nat) : ∀ (j n : Nat) (b1 b2 b3 b4 b5 : Int32) (y q : Int32) (A Bv wv : Int64) (kv : Int32), j + k = 16 → 126 * k + 2100 ≤ n → ∃ (m : Nat) (w2 : Int64) (k2 : Int32) (c1 c2 c3 c4 c5 : Int32), 2100 ≤ m ∧ mm_x none n 184 96 [some (.ref 138), some (.int 0), some (.int 4), some (.int y), some (.int q), some (.long A), none, some (.long Bv), none, some (.int (nI j)), some (.long wv), none, some (.int kv)] [] (mm_MC 0 0 24 1 5 (0 + (nI 4)) 0 0 0 0 0 0 0 0 b1 b2 b3 b4 b5 0 0 0 0 0 0 ([0, 0, 0, 0, 0, 0, 0, 0, 0, 0, 0, 0, 0, 0, 0, 0, 0, 0, 0, 0, 0, 0, 0, 0, 0]) ([0, 0, 0, 0, 0, 0, 0, 0, 0, 0, 0, 0, 0, 0, 0, 0, 0, 0, 0, 0, 0, 0, 0, 0, 0])) 0 0 = mm_x none m 184 96 [some (.ref 138), some (.int 0), some (.int 4), some (.int y), some (.int q), some (.long (ms_ml (ms_gm 4 ((y - 1).toInt64)) k j A)), none, some (.long Bv), none, some (.int (nI 16)), some (.long w2), none, some (.int k2)] [] (mm_MC 0 0 24 1 5 (0 + (nI 4)) 0 0 0 0 0 0 0 0 c1 c2 c3 c4 c5 0 0 0 0 0 0 ([0, 0, 0, 0, 0, 0, 0, 0, 0, 0, 0, 0, 0, 0, 0, 0, 0, 0, 0, 0, 0, 0, 0, 0, 0]) ([0, 0, 0, 0, 0, 0, 0, 0, 0, 0, 0, 0, 0, 0, 0, 0, 0, 0, 0, 0, 0, 0, 0, 0, 0])) 0 0 := by
  induction k with
  | zero =>
    intro j n b1 b2 b3 b4 b5 y q A Bv wv kv hj hn
    have e : j = 16 := by omega
    subst e
    exact ⟨n, wv, kv, b1, b2, b3, b4, b5, by omega, rfl⟩
  | succ k IH =>
    intro j n b1 b2 b3 b4 b5 y q A Bv wv kv hj hn
    obtain ⟨m, hm, h⟩ := pl_mo4_0_1 j n b1 b2 b3 b4 b5 y q A Bv wv kv (by omega) (by omega)
    obtain ⟨m2, w2, k2, c1, c2, c3, c4, c5, hm2, h2⟩ := IH (j + 1) m (0 + nI 4) 0 24 1 5 y q (ms_gm 4 ((y - 1).toInt64) j A) Bv (ms_ml (ms_gw ((y - 1).toInt64) (nI j)) 4 0 1) (nI 4) (by omega) (by omega)
    exact ⟨m2, w2, k2, c1, c2, c3, c4, c5, hm2, h.trans h2⟩
set_option maxRecDepth 100000 in
theorem pl_mt4_0 (n : Nat) (b1 b2 b3 b4 b5 : Int32) (y q : Int32) (Bv : Int64) (hn : 4116 ≤ n) : ∃ (m : Nat) (w2 : Int64) (k2 : Int32) (c1 c2 c3 c4 c5 : Int32), 2100 ≤ m ∧ mm_x none n 184 96 [some (.ref 138), some (.int 0), some (.int 4), some (.int y), some (.int q), some (.long 0), none, some (.long Bv), none, some (.int 0), none, none, none] [] (mm_MC 0 0 24 1 5 (0 + (nI 4)) 0 0 0 0 0 0 0 0 b1 b2 b3 b4 b5 0 0 0 0 0 0 ([0, 0, 0, 0, 0, 0, 0, 0, 0, 0, 0, 0, 0, 0, 0, 0, 0, 0, 0, 0, 0, 0, 0, 0, 0]) ([0, 0, 0, 0, 0, 0, 0, 0, 0, 0, 0, 0, 0, 0, 0, 0, 0, 0, 0, 0, 0, 0, 0, 0, 0])) 0 0 = mm_x none m 184 96 [some (.ref 138), some (.int 0), some (.int 4), some (.int y), some (.int q), some (.long (ms_ml (ms_gm 4 ((y - 1).toInt64)) 16 0 0)), none, some (.long Bv), none, some (.int (nI 16)), some (.long w2), none, some (.int k2)] [] (mm_MC 0 0 24 1 5 (0 + (nI 4)) 0 0 0 0 0 0 0 0 c1 c2 c3 c4 c5 0 0 0 0 0 0 ([0, 0, 0, 0, 0, 0, 0, 0, 0, 0, 0, 0, 0, 0, 0, 0, 0, 0, 0, 0, 0, 0, 0, 0, 0]) ([0, 0, 0, 0, 0, 0, 0, 0, 0, 0, 0, 0, 0, 0, 0, 0, 0, 0, 0, 0, 0, 0, 0, 0, 0])) 0 0 := by
  obtain ⟨m, hm, h⟩ := pl_mo4_0_0 0 n b1 b2 b3 b4 b5 y q 0 Bv (by omega) (by omega)
  obtain ⟨m2, w2, k2, c1, c2, c3, c4, c5, hm2, h2⟩ := pl_ma4_0 15 1 m (0 + nI 4) 0 24 1 5 y q (ms_gm 4 ((y - 1).toInt64) 0 0) Bv (ms_ml (ms_gw ((y - 1).toInt64) (nI 0)) 4 0 1) (nI 4) (by omega) (by omega)
  exact ⟨m2, w2, k2, c1, c2, c3, c4, c5, hm2, h.trans h2⟩
set_option maxRecDepth 100000 in
theorem pl_mi4_1 (k : Nat) : ∀ (j n : Nat) (b1 : Int32) (x : Int32) (hxl : 1 ≤ x.toInt) (hxu : x.toInt ≤ 24) (y q p : Int32) (A Bv wt : Int64), j + k = 4 → 24 * k + 700 ≤ n → ∃ m, n ≤ m + 24 * k + 3 ∧ mm_x none n 184 121 [some (.ref 138), some (.int x), some (.int 4), some (.int y), some (.int q), some (.long A), none, some (.long Bv), none, some (.int p), some (.long wt), none, some (.int (nI j))] [] (mm_MC 0 0 24 1 5 (0 + (nI 4)) 0 0 0 0 0 0 0 0 b1 0 24 1 5 0 0 0 0 0 0 ([0, 0, 0, 0, 0, 0, 0, 0, 0, 0, 0, 0, 0, 0, 0, 0, 0, 0, 0, 0, 0, 0, 0, 0, 0]) ([0, 0, 0, 0, 0, 0, 0, 0, 0, 0, 0, 0, 0, 0, 0, 0, 0, 0, 0, 0, 0, 0, 0, 0, 0])) 0 0 = mm_x none m 184 178 [some (.ref 138), some (.int x), some (.int 4), some (.int y), some (.int q), some (.long A), none, some (.long Bv), none, some (.int p), some (.long (ms_ml (ms_gw ((y - 1).toInt64) p) k j wt)), none, some (.int (nI 4))] [] (mm_MC 0 0 24 1 5 (0 + (nI 4)) 0 0 0 0 0 0 0 0 (b1 + nI k) 0 24 1 5 0 0 0 0 0 0 ([0, 0, 0, 0, 0, 0, 0, 0, 0, 0, 0, 0, 0, 0, 0, 0, 0, 0, 0, 0, 0, 0, 0, 0, 0]) ([0, 0, 0, 0, 0, 0, 0, 0, 0, 0, 0, 0, 0, 0, 0, 0, 0, 0, 0, 0, 0, 0, 0, 0, 0])) 0 0 := by
  induction k with
  | zero =>
    intro j n b1 x hxl hxu y q p A Bv wt hj hn
    have f0 : n - 700 + 700 = n := by omega
    have e : j = 4 := by omega
    subst e
    have ex := pl_m4_1_e (n - 700) b1 x hxl hxu y q p (nI 4) A Bv wt (show nI 4 ≤ nI 4 from nI_le (Nat.le_refl 4) (by omega))
    rw [f0] at ex
    have e0 : b1 + nI 0 = b1 := by rw [nI_0, Int32.add_zero]
    rw [e0, ms_ml_0]
    exact ⟨n - 700 + 697, by omega, ex⟩
  | succ k IH =>
    intro j n b1 x hxl hxu y q p A Bv wt hj hn
    have f0 : n - 700 + 700 = n := by omega
    have e2 : nI j + 1 = nI (j + 1) := nI_1 j
    have e1 : b1 + nI (k + 1) = (b1 + 1) + nI k := by rw [nI_succ, Int32.add_assoc, Int32.add_comm 1 (nI k)]
    by_cases hb : ((p >>> (nI j &&& 31)) &&& 1) = 1
    · have it := pl_m4_1_b (n - 700) b1 x hxl hxu y q p (nI j) A Bv wt (show ¬ nI 4 ≤ nI j from nI_ge (by omega) (by omega)) hb
      rw [f0, e2] at it
      obtain ⟨m, hm, ih⟩ := IH (j + 1) (n - 700 + 677) (b1 + 1) x hxl hxu y q p A Bv (wt * 1) (by omega) (by omega)
      rw [e1, ms_ml_s, ms_gw_t hb]
      exact ⟨m, by omega, it.trans ih⟩
    · have it := pl_m4_1_n (n - 700) b1 x hxl hxu y q p (nI j) A Bv wt (show ¬ nI 4 ≤ nI j from nI_ge (by omega) (by omega)) hb
      rw [f0, e2] at it
      obtain ⟨m, hm, ih⟩ := IH (j + 1) (n - 700 + 676) (b1 + 1) x hxl hxu y q p A Bv (wt * ((y - 1).toInt64)) (by omega) (by omega)
      rw [e1, ms_ml_s, ms_gw_f hb]
      exact ⟨m, by omega, it.trans ih⟩
set_option maxRecDepth 100000 in
theorem pl_mo4_1_0 (j n : Nat) (b1 b2 b3 b4 b5 : Int32) (x : Int32) (hxl : 1 ≤ x.toInt) (hxu : x.toInt ≤ 24) (y q : Int32) (A Bv : Int64) (hj : j < 16) (hn : 125 + 1400 ≤ n) : ∃ m, n ≤ m + 125 ∧ mm_x none n 184 96 [some (.ref 138), some (.int x), some (.int 4), some (.int y), some (.int q), some (.long A), none, some (.long Bv), none, some (.int (nI j)), none, none, none] [] (mm_MC 0 0 24 1 5 (0 + (nI 4)) 0 0 0 0 0 0 0 0 b1 b2 b3 b4 b5 0 0 0 0 0 0 ([0, 0, 0, 0, 0, 0, 0, 0, 0, 0, 0, 0, 0, 0, 0, 0, 0, 0, 0, 0, 0, 0, 0, 0, 0]) ([0, 0, 0, 0, 0, 0, 0, 0, 0, 0, 0, 0, 0, 0, 0, 0, 0, 0, 0, 0, 0, 0, 0, 0, 0])) 0 0 = mm_x none m 184 96 [some (.ref 138), some (.int x), some (.int 4), some (.int y), some (.int q), some (.long (ms_g0 j A)), none, some (.long Bv), none, some (.int (nI (j + 1))), some (.long (ms_ml (ms_gw ((y - 1).toInt64) (nI j)) 4 0 1)), none, some (.int (nI 4))] [] (mm_MC 0 0 24 1 5 (0 + (nI 4)) 0 0 0 0 0 0 0 0 (0 + nI 4) 0 24 1 5 0 0 0 0 0 0 ([0, 0, 0, 0, 0, 0, 0, 0, 0, 0, 0, 0, 0, 0, 0, 0, 0, 0, 0, 0, 0, 0, 0, 0, 0]) ([0, 0, 0, 0, 0, 0, 0, 0, 0, 0, 0, 0, 0, 0, 0, 0, 0, 0, 0, 0, 0, 0, 0, 0, 0])) 0 0 := by
  have f0 : n - 700 + 700 = n := by omega
  have e2 : nI j + 1 = nI (j + 1) := nI_1 j
  have pre := pl_m4_1_p0 (n - 700) b1 b2 b3 b4 b5 x hxl hxu y q (nI j) A Bv (show ¬ nI 16 ≤ nI j from nI_ge (by omega) (by omega))
  rw [f0] at pre
  obtain ⟨m, hm, hi⟩ := pl_mi4_1 4 0 (n - 700 + 686) 0 x hxl hxu y q (nI j) A Bv 1 (by omega) (by omega)
  have po := pl_m4_1_a (m - 700) (0 + nI 4) x hxl hxu y q (nI j) (nI 4) A Bv (ms_ml (ms_gw ((y - 1).toInt64) (nI j)) 4 0 1)
  have f1 : m - 700 + 700 = m := by omega
  rw [f1, e2] at po
  exact ⟨m - 700 + 688, by omega, (pre.trans hi).trans po⟩
set_option maxRecDepth 100000 in
theorem pl_mo4_1_1 (j n : Nat) (b1 b2 b3 b4 b5 : Int32) (x : Int32) (hxl : 1 ≤ x.toInt) (hxu : x.toInt ≤ 24) (y q : Int32) (A Bv : Int64) (wv : Int64) (kv : Int32) (hj : j < 16) (hn : 125 + 1400 ≤ n) : ∃ m, n ≤ m + 125 ∧ mm_x none n 184 96 [some (.ref 138), some (.int x), some (.int 4), some (.int y), some (.int q), some (.long A), none, some (.long Bv), none, some (.int (nI j)), some (.long wv), none, some (.int kv)] [] (mm_MC 0 0 24 1 5 (0 + (nI 4)) 0 0 0 0 0 0 0 0 b1 b2 b3 b4 b5 0 0 0 0 0 0 ([0, 0, 0, 0, 0, 0, 0, 0, 0, 0, 0, 0, 0, 0, 0, 0, 0, 0, 0, 0, 0, 0, 0, 0, 0]) ([0, 0, 0, 0, 0, 0, 0, 0, 0, 0, 0, 0, 0, 0, 0, 0, 0, 0, 0, 0, 0, 0, 0, 0, 0])) 0 0 = mm_x none m 184 96 [some (.ref 138), some (.int x), some (.int 4), some (.int y), some (.int q), some (.long (ms_g0 j A)), none, some (.long Bv), none, some (.int (nI (j + 1))), some (.long (ms_ml (ms_gw ((y - 1).toInt64) (nI j)) 4 0 1)), none, some (.int (nI 4))] [] (mm_MC 0 0 24 1 5 (0 + (nI 4)) 0 0 0 0 0 0 0 0 (0 + nI 4) 0 24 1 5 0 0 0 0 0 0 ([0, 0, 0, 0, 0, 0, 0, 0, 0, 0, 0, 0, 0, 0, 0, 0, 0, 0, 0, 0, 0, 0, 0, 0, 0]) ([0, 0, 0, 0, 0, 0, 0, 0, 0, 0, 0, 0, 0, 0, 0, 0, 0, 0, 0, 0, 0, 0, 0, 0, 0])) 0 0 := by
  have f0 : n - 700 + 700 = n := by omega
  have e2 : nI j + 1 = nI (j + 1) := nI_1 j
  have pre := pl_m4_1_p1 (n - 700) b1 b2 b3 b4 b5 x hxl hxu y q (nI j) A Bv wv kv (show ¬ nI 16 ≤ nI j from nI_ge (by omega) (by omega))
  rw [f0] at pre
  obtain ⟨m, hm, hi⟩ := pl_mi4_1 4 0 (n - 700 + 686) 0 x hxl hxu y q (nI j) A Bv 1 (by omega) (by omega)
  have po := pl_m4_1_a (m - 700) (0 + nI 4) x hxl hxu y q (nI j) (nI 4) A Bv (ms_ml (ms_gw ((y - 1).toInt64) (nI j)) 4 0 1)
  have f1 : m - 700 + 700 = m := by omega
  rw [f1, e2] at po
  exact ⟨m - 700 + 688, by omega, (pre.trans hi).trans po⟩
set_option maxRecDepth 100000 in
theorem pl_ma4_1 (k : Nat) : ∀ (j n : Nat) (b1 b2 b3 b4 b5 : Int32) (x : Int32) (hxl : 1 ≤ x.toInt) (hxu : x.toInt ≤ 24) (y q : Int32) (A Bv wv : Int64) (kv : Int32), j + k = 16 → 125 * k + 2100 ≤ n → ∃ (m : Nat) (w2 : Int64) (k2 : Int32) (c1 c2 c3 c4 c5 : Int32), 2100 ≤ m ∧ mm_x none n 184 96 [some (.ref 138), some (.int x), some (.int 4), some (.int y), some (.int q), some (.long A), none, some (.long Bv), none, some (.int (nI j)), some (.long wv), none, some (.int kv)] [] (mm_MC 0 0 24 1 5 (0 + (nI 4)) 0 0 0 0 0 0 0 0 b1 b2 b3 b4 b5 0 0 0 0 0 0 ([0, 0, 0, 0, 0, 0, 0, 0, 0, 0, 0, 0, 0, 0, 0, 0, 0, 0, 0, 0, 0, 0, 0, 0, 0]) ([0, 0, 0, 0, 0, 0, 0, 0, 0, 0, 0, 0, 0, 0, 0, 0, 0, 0, 0, 0, 0, 0, 0, 0, 0])) 0 0 = mm_x none m 184 96 [some (.ref 138), some (.int x), some (.int 4), some (.int y), some (.int q), some (.long (ms_ml (ms_g0) k j A)), none, some (.long Bv), none, some (.int (nI 16)), some (.long w2), none, some (.int k2)] [] (mm_MC 0 0 24 1 5 (0 + (nI 4)) 0 0 0 0 0 0 0 0 c1 c2 c3 c4 c5 0 0 0 0 0 0 ([0, 0, 0, 0, 0, 0, 0, 0, 0, 0, 0, 0, 0, 0, 0, 0, 0, 0, 0, 0, 0, 0, 0, 0, 0]) ([0, 0, 0, 0, 0, 0, 0, 0, 0, 0, 0, 0, 0, 0, 0, 0, 0, 0, 0, 0, 0, 0, 0, 0, 0])) 0 0 := by
  induction k with
  | zero =>
    intro j n b1 b2 b3 b4 b5 x hxl hxu y q A Bv wv kv hj hn
    have e : j = 16 := by omega
    subst e
    exact ⟨n, wv, kv, b1, b2, b3, b4, b5, by omega, rfl⟩
  | succ k IH =>
    intro j n b1 b2 b3 b4 b5 x hxl hxu y q A Bv wv kv hj hn
    obtain ⟨m, hm, h⟩ := pl_mo4_1_1 j n b1 b2 b3 b4 b5 x hxl hxu y q A Bv wv kv (by omega) (by omega)
    obtain ⟨m2, w2, k2, c1, c2, c3, c4, c5, hm2, h2⟩ := IH (j + 1) m (0 + nI 4) 0 24 1 5 x hxl hxu y q (ms_g0 j A) Bv (ms_ml (ms_gw ((y - 1).toInt64) (nI j)) 4 0 1) (nI 4) (by omega) (by omega)
    exact ⟨m2, w2, k2, c1, c2, c3, c4, c5, hm2, h.trans h2⟩
set_option maxRecDepth 100000 in
theorem pl_mt4_1 (n : Nat) (b1 b2 b3 b4 b5 : Int32) (x : Int32) (hxl : 1 ≤ x.toInt) (hxu : x.toInt ≤ 24) (y q : Int32) (Bv : Int64) (hn : 4100 ≤ n) : ∃ (m : Nat) (w2 : Int64) (k2 : Int32) (c1 c2 c3 c4 c5 : Int32), 2100 ≤ m ∧ mm_x none n 184 96 [some (.ref 138), some (.int x), some (.int 4), some (.int y), some (.int q), some (.long 0), none, some (.long Bv), none, some (.int 0), none, none, none] [] (mm_MC 0 0 24 1 5 (0 + (nI 4)) 0 0 0 0 0 0 0 0 b1 b2 b3 b4 b5 0 0 0 0 0 0 ([0, 0, 0, 0, 0, 0, 0, 0, 0, 0, 0, 0, 0, 0, 0, 0, 0, 0, 0, 0, 0, 0, 0, 0, 0]) ([0, 0, 0, 0, 0, 0, 0, 0, 0, 0, 0, 0, 0, 0, 0, 0, 0, 0, 0, 0, 0, 0, 0, 0, 0])) 0 0 = mm_x none m 184 96 [some (.ref 138), some (.int x), some (.int 4), some (.int y), some (.int q), some (.long (ms_ml (ms_g0) 16 0 0)), none, some (.long Bv), none, some (.int (nI 16)), some (.long w2), none, some (.int k2)] [] (mm_MC 0 0 24 1 5 (0 + (nI 4)) 0 0 0 0 0 0 0 0 c1 c2 c3 c4 c5 0 0 0 0 0 0 ([0, 0, 0, 0, 0, 0, 0, 0, 0, 0, 0, 0, 0, 0, 0, 0, 0, 0, 0, 0, 0, 0, 0, 0, 0]) ([0, 0, 0, 0, 0, 0, 0, 0, 0, 0, 0, 0, 0, 0, 0, 0, 0, 0, 0, 0, 0, 0, 0, 0, 0])) 0 0 := by
  obtain ⟨m, hm, h⟩ := pl_mo4_1_0 0 n b1 b2 b3 b4 b5 x hxl hxu y q 0 Bv (by omega) (by omega)
  obtain ⟨m2, w2, k2, c1, c2, c3, c4, c5, hm2, h2⟩ := pl_ma4_1 15 1 m (0 + nI 4) 0 24 1 5 x hxl hxu y q (ms_g0 0 0) Bv (ms_ml (ms_gw ((y - 1).toInt64) (nI 0)) 4 0 1) (nI 4) (by omega) (by omega)
  exact ⟨m2, w2, k2, c1, c2, c3, c4, c5, hm2, h.trans h2⟩
set_option maxRecDepth 100000 in
theorem pl_mi5_0 (k : Nat) : ∀ (j n : Nat) (b1 : Int32) (y q p : Int32) (A Bv wt : Int64), j + k = 5 → 24 * k + 700 ≤ n → ∃ m, n ≤ m + 24 * k + 3 ∧ mm_x none n 184 121 [some (.ref 138), some (.int 0), some (.int 5), some (.int y), some (.int q), some (.long A), none, some (.long Bv), none, some (.int p), some (.long wt), none, some (.int (nI j))] [] (mm_MC 0 0 24 1 5 (0 + (nI 5)) 0 0 0 0 0 0 0 0 b1 0 24 1 5 0 0 0 0 0 0 ([0, 0, 0, 0, 0, 0, 0, 0, 0, 0, 0, 0, 0, 0, 0, 0, 0, 0, 0, 0, 0, 0, 0, 0, 0]) ([0, 0, 0, 0, 0, 0, 0, 0, 0, 0, 0, 0, 0, 0, 0, 0, 0, 0, 0, 0, 0, 0, 0, 0, 0])) 0 0 = mm_x none m 184 178 [some (.ref 138), some (.int 0), some (.int 5), some (.int y), some (.int q), some (.long A), none, some (.long Bv), none, some (.int p), some (.long (ms_ml (ms_gw ((y - 1).toInt64) p) k j wt)), none, some (.int (nI 5))] [] (mm_MC 0 0 24 1 5 (0 + (nI 5)) 0 0 0 0 0 0 0 0 (b1 + nI k) 0 24 1 5 0 0 0 0 0 0 ([0, 0, 0, 0, 0, 0, 0, 0, 0, 0, 0, 0, 0, 0, 0, 0, 0, 0, 0, 0, 0, 0, 0, 0, 0]) ([0, 0, 0, 0, 0, 0, 0, 0, 0, 0, 0, 0, 0, 0, 0, 0, 0, 0, 0, 0, 0, 0, 0, 0, 0])) 0 0 := by
  induction k with
  | zero =>
    intro j n b1 y q p A Bv wt hj hn
    have f0 : n - 700 + 700 = n := by omega
    have e : j = 5 := by omega
    subst e
    have ex := pl_m5_0_e (n - 700) b1 y q p (nI 5) A Bv wt (show nI 5 ≤ nI 5 from nI_le (Nat.le_refl 5) (by omega))
    rw [f0] at ex
    have e0 : b1 + nI 0 = b1 := by rw [nI_0, Int32.add_zero]
    rw [e0, ms_ml_0]
    exact ⟨n - 700 + 697, by omega, ex⟩
  | succ k IH =>
    intro j n b1 y q p A Bv wt hj hn
    have f0 : n - 700 + 700 = n := by omega
    have e2 : nI j + 1 = nI (j + 1) := nI_1 j
    have e1 : b1 + nI (k + 1) = (b1 + 1) + nI k := by rw [nI_succ, Int32.add_assoc, Int32.add_comm 1 (nI k)]
    by_cases hb : ((p >>> (nI j &&& 31)) &&& 1) = 1
    · have it := pl_m5_0_b (n - 700) b1 y q p (nI j) A Bv wt (show ¬ nI 5 ≤ nI j from nI_ge (by omega) (by omega)) hb
      rw [f0, e2] at it
      obtain ⟨m, hm, ih⟩ := IH (j + 1) (n - 700 + 677) (b1 + 1) y q p A Bv (wt * 1) (by omega) (by omega)
      rw [e1, ms_ml_s, ms_gw_t hb]
      exact ⟨m, by omega, it.trans ih⟩
    · have it := pl_m5_0_n (n - 700) b1 y q p (nI j) A Bv wt (show ¬ nI 5 ≤ nI j from nI_ge (by omega) (by omega)) hb
      rw [f0, e2] at it
      obtain ⟨m, hm, ih⟩ := IH (j + 1) (n - 700 + 676) (b1 + 1) y q p A Bv (wt * ((y - 1).toInt64)) (by omega) (by omega)
      rw [e1, ms_ml_s, ms_gw_f hb]
      exact ⟨m, by omega, it.trans ih⟩
set_option maxRecDepth 100000 in
theorem pl_mo5_0_0 (j n : Nat) (b1 b2 b3 b4 b5 : Int32) (y q : Int32) (A Bv : Int64) (hj : j < 32) (hn : 150 + 1400 ≤ n) : ∃ m, n ≤ m + 150 ∧ mm_x none n 184 96 [some (.ref 138), some (.int 0), some (.int 5), some (.int y), some (.int q), some (.long A), none, some (.long Bv), none, some (.int (nI j)), none, none, none] [] (mm_MC 0 0 24 1 5 (0 + (nI 5)) 0 0 0 0 0 0 0 0 b1 b2 b3 b4 b5 0 0 0 0 0 0 ([0, 0, 0, 0, 0, 0, 0, 0, 0, 0, 0, 0, 0, 0, 0, 0, 0, 0, 0, 0, 0, 0, 0, 0, 0]) ([0, 0, 0, 0, 0, 0, 0, 0, 0, 0, 0, 0, 0, 0, 0, 0, 0, 0, 0, 0, 0, 0, 0, 0, 0])) 0 0 = mm_x none m 184 96 [some (.ref 138), some (.int 0), some (.int 5), some (.int y), some (.int q), some (.long (ms_gm 5 ((y - 1).toInt64) j A)), none, some (.long Bv), none, some (.int (nI (j + 1))), some (.long (ms_ml (ms_gw ((y - 1).toInt64) (nI j)) 5 0 1)), none, some (.int (nI 5))] [] (mm_MC 0 0 24 1 5 (0 + (nI 5)) 0 0 0 0 0 0 0 0 (0 + nI 5) 0 24 1 5 0 0 0 0 0 0 ([0, 0, 0, 0, 0, 0, 0, 0, 0, 0, 0, 0, 0, 0, 0, 0, 0, 0, 0, 0, 0, 0, 0, 0, 0]) ([0, 0, 0, 0, 0, 0, 0, 0, 0, 0, 0, 0, 0, 0, 0, 0, 0, 0, 0, 0, 0, 0, 0, 0, 0])) 0 0 := by
  have f0 : n - 700 + 700 = n := by omega
  have e2 : nI j + 1 = nI (j + 1) := nI_1 j
  have pre := pl_m5_0_p0 (n - 700) b1 b2 b3 b4 b5 y q (nI j) A Bv (show ¬ nI 32 ≤ nI j from nI_ge (by omega) (by omega))
  rw [f0] at pre
  obtain ⟨m, hm, hi⟩ := pl_mi5_0 5 0 (n - 700 + 686) 0 y q (nI j) A Bv 1 (by omega) (by omega)
  have po := pl_m5_0_a (m - 700) (0 + nI 5) y q (nI j) (nI 5) A Bv (ms_ml (ms_gw ((y - 1).toInt64) (nI j)) 5 0 1)
  have f1 : m - 700 + 700 = m := by omega
  rw [f1, e2] at po
  exact ⟨m - 700 + 687, by omega, (pre.trans hi).trans po⟩
set_option maxRecDepth 100000 in
theorem pl_mo5_0_1 (j n : Nat) (b1 b2 b3 b4 b5 : Int32) (y q : Int32) (A Bv : Int64) (wv : Int64) (kv : Int32) (hj : j < 32) (hn : 150 + 1400 ≤ n) : ∃ m, n ≤ m + 150 ∧ mm_x none n 184 96 [some (.ref 138), some (.int 0), some (.int 5), some (.int y), some (.int q), some (.long A), none, some (.long Bv), none, some (.int (nI j)), some (.long wv), none, some (.int kv)] [] (mm_MC 0 0 24 1 5 (0 + (nI 5)) 0 0 0 0 0 0 0 0 b1 b2 b3 b4 b5 0 0 0 0 0 0 ([0, 0, 0, 0, 0, 0, 0, 0, 0, 0, 0, 0, 0, 0, 0, 0, 0, 0, 0, 0, 0, 0, 0, 0, 0]) ([0, 0, 0, 0, 0, 0, 0, 0, 0, 0, 0, 0, 0, 0, 0, 0, 0, 0, 0, 0, 0, 0, 0, 0, 0])) 0 0 = mm_x none m 184 96 [some (.ref 138), some (.int 0), some (.int 5), some (.int y), some (.int q), some (.long (ms_gm 5 ((y - 1).toInt64) j A)), none, some (.long Bv), none, some (.int (nI (j + 1))), some (.long (ms_ml (ms_gw ((y - 1).toInt64) (nI j)) 5 0 1)), none, some (.int (nI 5))] [] (mm_MC 0 0 24 1 5 (0 + (nI 5)) 0 0 0 0 0 0 0 0 (0 + nI 5) 0 24 1 5 0 0 0 0 0 0 ([0, 0, 0, 0, 0, 0, 0, 0, 0, 0, 0, 0, 0, 0, 0, 0, 0, 0, 0, 0, 0, 0, 0, 0, 0]) ([0, 0, 0, 0, 0, 0, 0, 0, 0, 0, 0, 0, 0, 0, 0, 0, 0, 0, 0, 0, 0, 0, 0, 0, 0])) 0 0 := by
  have f0 : n - 700 + 700 = n := by omega
  have e2 : nI j + 1 = nI (j + 1) := nI_1 j
  have pre := pl_m5_0_p1 (n - 700) b1 b2 b3 b4 b5 y q (nI j) A Bv wv kv (show ¬ nI 32 ≤ nI j from nI_ge (by omega) (by omega))
  rw [f0] at pre
  obtain ⟨m, hm, hi⟩ := pl_mi5_0 5 0 (n - 700 + 686) 0 y q (nI j) A Bv 1 (by omega) (by omega)
  have po := pl_m5_0_a (m - 700) (0 + nI 5) y q (nI j) (nI 5) A Bv (ms_ml (ms_gw ((y - 1).toInt64) (nI j)) 5 0 1)
  have f1 : m - 700 + 700 = m := by omega
  rw [f1, e2] at po
  exact ⟨m - 700 + 687, by omega, (pre.trans hi).trans po⟩
set_option maxRecDepth 100000 in
theorem pl_ma5_0 (k : Nat) : ∀ (j n : Nat) (b1 b2 b3 b4 b5 : Int32) (y q : Int32) (A Bv wv : Int64) (kv : Int32), j + k = 32 → 150 * k + 2100 ≤ n → ∃ (m : Nat) (w2 : Int64) (k2 : Int32) (c1 c2 c3 c4 c5 : Int32), 2100 ≤ m ∧ mm_x none n 184 96 [some (.ref 138), some (.int 0), some (.int 5), some (.int y), some (.int q), some (.long A), none, some (.long Bv), none, some (.int (nI j)), some (.long wv), none, some (.int kv)] [] (mm_MC 0 0 24 1 5 (0 + (nI 5)) 0 0 0 0 0 0 0 0 b1 b2 b3 b4 b5 0 0 0 0 0 0 ([0, 0, 0, 0, 0, 0, 0, 0, 0, 0, 0, 0, 0, 0, 0, 0, 0, 0, 0, 0, 0, 0, 0, 0, 0]) ([0, 0, 0, 0, 0, 0, 0, 0, 0, 0, 0, 0, 0, 0, 0, 0, 0, 0, 0, 0, 0, 0, 0, 0, 0])) 0 0 = mm_x none m 184 96 [some (.ref 138), some (.int 0), some (.int 5), some (.int y), some (.int q), some (.long (ms_ml (ms_gm 5 ((y - 1).toInt64)) k j A)), none, some (.long Bv), none, some (.int (nI 32)), some (.long w2), none, some (.int k2)] [] (mm_MC 0 0 24 1 5 (0 + (nI 5)) 0 0 0 0 0 0 0 0 c1 c2 c3 c4 c5 0 0 0 0 0 0 ([0, 0, 0, 0, 0, 0, 0, 0, 0, 0, 0, 0, 0, 0, 0, 0, 0, 0, 0, 0, 0, 0, 0, 0, 0]) ([0, 0, 0, 0, 0, 0, 0, 0, 0, 0, 0, 0, 0, 0, 0, 0, 0, 0, 0, 0, 0, 0, 0, 0, 0])) 0 0 := by
  induction k with
  | zero =>
    intro j n b1 b2 b3 b4 b5 y q A Bv wv kv hj hn
    have e : j = 32 := by omega
    subst e
    exact ⟨n, wv, kv, b1, b2, b3, b4, b5, by omega, rfl⟩
  | succ k IH =>
    intro j n b1 b2 b3 b4 b5 y q A Bv wv kv hj hn
    obtain ⟨m, hm, h⟩ := pl_mo5_0_1 j n b1 b2 b3 b4 b5 y q A Bv wv kv (by omega) (by omega)
    obtain ⟨m2, w2, k2, c1, c2, c3, c4, c5, hm2, h2⟩ := IH (j + 1) m (0 + nI 5) 0 24 1 5 y q (ms_gm 5 ((y - 1).toInt64) j A) Bv (ms_ml (ms_gw ((y - 1).toInt64) (nI j)) 5 0 1) (nI 5) (by omega) (by omega)
    exact ⟨m2, w2, k2, c1, c2, c3, c4, c5, hm2, h.trans h2⟩
set_option maxRecDepth 100000 in
theorem pl_mt5_0 (n : Nat) (b1 b2 b3 b4 b5 : Int32) (y q : Int32) (Bv : Int64) (hn : 6900 ≤ n) : ∃ (m : Nat) (w2 : Int64) (k2 : Int32) (c1 c2 c3 c4 c5 : Int32), 2100 ≤ m ∧ mm_x none n 184 96 [some (.ref 138), some (.int 0), some (.int 5), some (.int y), some (.int q), some (.long 0), none, some (.long Bv), none, some (.int 0), none, none, none] [] (mm_MC 0 0 24 1 5 (0 + (nI 5)) 0 0 0 0 0 0 0 0 b1 b2 b3 b4 b5 0 0 0 0 0 0 ([0, 0, 0, 0, 0, 0, 0, 0, 0, 0, 0, 0, 0, 0, 0, 0, 0, 0, 0, 0, 0, 0, 0, 0, 0]) ([0, 0, 0, 0, 0, 0, 0, 0, 0, 0, 0, 0, 0, 0, 0, 0, 0, 0, 0, 0, 0, 0, 0, 0, 0])) 0 0 = mm_x none m 184 96 [some (.ref 138), some (.int 0), some (.int 5), some (.int y), some (.int q), some (.long (ms_ml (ms_gm 5 ((y - 1).toInt64)) 32 0 0)), none, some (.long Bv), none, some (.int (nI 32)), some (.long w2), none, some (.int k2)] [] (mm_MC 0 0 24 1 5 (0 + (nI 5)) 0 0 0 0 0 0 0 0 c1 c2 c3 c4 c5 0 0 0 0 0 0 ([0, 0, 0, 0, 0, 0, 0, 0, 0, 0, 0, 0, 0, 0, 0, 0, 0, 0, 0, 0, 0, 0, 0, 0, 0]) ([0, 0, 0, 0, 0, 0, 0, 0, 0, 0, 0, 0, 0, 0, 0, 0, 0, 0, 0, 0, 0, 0, 0, 0, 0])) 0 0 := by
  obtain ⟨m, hm, h⟩ := pl_mo5_0_0 0 n b1 b2 b3 b4 b5 y q 0 Bv (by omega) (by omega)
  obtain ⟨m2, w2, k2, c1, c2, c3, c4, c5, hm2, h2⟩ := pl_ma5_0 31 1 m (0 + nI 5) 0 24 1 5 y q (ms_gm 5 ((y - 1).toInt64) 0 0) Bv (ms_ml (ms_gw ((y - 1).toInt64) (nI 0)) 5 0 1) (nI 5) (by omega) (by omega)
  exact ⟨m2, w2, k2, c1, c2, c3, c4, c5, hm2, h.trans h2⟩
set_option maxRecDepth 100000 in
theorem pl_mi5_1 (k : Nat) : ∀ (j n : Nat) (b1 : Int32) (x : Int32) (hxl : 1 ≤ x.toInt) (hxu : x.toInt ≤ 24) (y q p : Int32) (A Bv wt : Int64), j + k = 5 → 24 * k + 700 ≤ n → ∃ m, n ≤ m + 24 * k + 3 ∧ mm_x none n 184 121 [some (.ref 138), some (.int x), some (.int 5), some (.int y), some (.int q), some (.long A), none, some (.long Bv), none, some (.int p), some (.long wt), none, some (.int (nI j))] [] (mm_MC 0 0 24 1 5 (0 + (nI 5)) 0 0 0 0 0 0 0 0 b1 0 24 1 5 0 0 0 0 0 0 ([0, 0, 0, 0, 0, 0, 0, 0, 0, 0, 0, 0, 0, 0, 0, 0, 0, 0, 0, 0, 0, 0, 0, 0, 0]) ([0, 0, 0, 0, 0, 0, 0, 0, 0, 0, 0, 0, 0, 0, 0, 0, 0, 0, 0, 0, 0, 0, 0, 0, 0])) 0 0 = mm_x none m 184 178 [some (.ref 138), some (.int x), some (.int 5), some (.int y), some (.int q), some (.long A), none, some (.long Bv), none, some (.int p), some (.long (ms_ml (ms_gw ((y - 1).toInt64) p) k j wt)), none, some (.int (nI 5))] [] (mm_MC 0 0 24 1 5 (0 + (nI 5)) 0 0 0 0 0 0 0 0 (b1 + nI k) 0 24 1 5 0 0 0 0 0 0 ([0, 0, 0, 0, 0, 0, 0, 0, 0, 0, 0, 0, 0, 0, 0, 0, 0, 0, 0, 0, 0, 0, 0, 0, 0]) ([0, 0, 0, 0, 0, 0, 0, 0, 0, 0, 0, 0, 0, 0, 0, 0, 0, 0, 0, 0, 0, 0, 0, 0, 0])) 0 0 := by
  induction k with
  | zero =>
    intro j n b1 x hxl hxu y q p A Bv wt hj hn
    have f0 : n - 700 + 700 = n := by omega
    have e : j = 5 := by omega
    subst e
    have ex := pl_m5_1_e (n - 700) b1 x hxl hxu y q p (nI 5) A Bv wt (show nI 5 ≤ nI 5 from nI_le (Nat.le_refl 5) (by omega))
    rw [f0] at ex
    have e0 : b1 + nI 0 = b1 := by rw [nI_0, Int32.add_zero]
    rw [e0, ms_ml_0]
    exact ⟨n - 700 + 697, by omega, ex⟩
  | succ k IH =>
    intro j n b1 x hxl hxu y q p A Bv wt hj hn
    have f0 : n - 700 + 700 = n := by omega
    have e2 : nI j + 1 = nI (j + 1) := nI_1 j
    have e1 : b1 + nI (k + 1) = (b1 + 1) + nI k := by rw [nI_succ, Int32.add_assoc, Int32.add_comm 1 (nI k)]
    by_cases hb : ((p >>> (nI j &&& 31)) &&& 1) = 1
    · have it := pl_m5_1_b (n - 700) b1 x hxl hxu y q p (nI j) A Bv wt (show ¬ nI 5 ≤ nI j from nI_ge (by omega) (by omega)) hb
      rw [f0, e2] at it
      obtain ⟨m, hm, ih⟩ := IH (j + 1) (n - 700 + 677) (b1 + 1) x hxl hxu y q p A Bv (wt * 1) (by omega) (by omega)
      rw [e1, ms_ml_s, ms_gw_t hb]
      exact ⟨m, by omega, it.trans ih⟩
    · have it := pl_m5_1_n (n - 700) b1 x hxl hxu y q p (nI j) A Bv wt (show ¬ nI 5 ≤ nI j from nI_ge (by omega) (by omega)) hb
      rw [f0, e2] at it
      obtain ⟨m, hm, ih⟩ := IH (j + 1) (n - 700 + 676) (b1 + 1) x hxl hxu y q p A Bv (wt * ((y - 1).toInt64)) (by omega) (by omega)
      rw [e1, ms_ml_s, ms_gw_f hb]
      exact ⟨m, by omega, it.trans ih⟩
set_option maxRecDepth 100000 in
theorem pl_mo5_1_0 (j n : Nat) (b1 b2 b3 b4 b5 : Int32) (x : Int32) (hxl : 1 ≤ x.toInt) (hxu : x.toInt ≤ 24) (y q : Int32) (A Bv : Int64) (hj : j < 32) (hn : 149 + 1400 ≤ n) : ∃ m, n ≤ m + 149 ∧ mm_x none n 184 96 [some (.ref 138), some (.int x), some (.int 5), some (.int y), some (.int q), some (.long A), none, some (.long Bv), none, some (.int (nI j)), none, none, none] [] (mm_MC 0 0 24 1 5 (0 + (nI 5)) 0 0 0 0 0 0 0 0 b1 b2 b3 b4 b5 0 0 0 0 0 0 ([0, 0, 0, 0, 0, 0, 0, 0, 0, 0, 0, 0, 0, 0, 0, 0, 0, 0, 0, 0, 0, 0, 0, 0, 0]) ([0, 0, 0, 0, 0, 0, 0, 0, 0, 0, 0, 0, 0, 0, 0, 0, 0, 0, 0, 0, 0, 0, 0, 0, 0])) 0 0 = mm_x none m 184 96 [some (.ref 138), some (.int x), some (.int 5), some (.int y), some (.int q), some (.long (ms_g0 j A)), none, some (.long Bv), none, some (.int (nI (j + 1))), some (.long (ms_ml (ms_gw ((y - 1).toInt64) (nI j)) 5 0 1)), none, some (.int (nI 5))] [] (mm_MC 0 0 24 1 5 (0 + (nI 5)) 0 0 0 0 0 0 0 0 (0 + nI 5) 0 24 1 5 0 0 0 0 0 0 ([0, 0, 0, 0, 0, 0, 0, 0, 0, 0, 0, 0, 0, 0, 0, 0, 0, 0, 0, 0, 0, 0, 0, 0, 0]) ([0, 0, 0, 0, 0, 0, 0, 0, 0, 0, 0, 0, 0, 0, 0, 0, 0, 0, 0, 0, 0, 0, 0, 0, 0])) 0 0 := by
  have f0 : n - 700 + 700 = n := by omega
  have e2 : nI j + 1 = nI (j + 1) := nI_1 j
  have pre := pl_m5_1_p0 (n - 700) b1 b2 b3 b4 b5 x hxl hxu y q (nI j) A Bv (show ¬ nI 32 ≤ nI j from nI_ge (by omega) (by omega))
  rw [f0] at pre
  obtain ⟨m, hm, hi⟩ := pl_mi5_1 5 0 (n - 700 + 686) 0 x hxl hxu y q (nI j) A Bv 1 (by omega) (by omega)
  have po := pl_m5_1_a (m - 700) (0 + nI 5) x hxl hxu y q (nI j) (nI 5) A Bv (ms_ml (ms_gw ((y - 1).toInt64) (nI j)) 5 0 1)
  have f1 : m - 700 + 700 = m := by omega
  rw [f1, e2] at po
  exact ⟨m - 700 + 688, by omega, (pre.trans hi).trans po⟩
set_option maxRecDepth 100000 in
theorem pl_mo5_1_1 (j n : Nat) (b1 b2 b3 b4 b5 : Int32) (x : Int32) (hxl : 1 ≤ x.toInt) (hxu : x.toInt ≤ 24) (y q : Int32) (A Bv : Int64) (wv : Int64) (kv : Int32) (hj : j < 32) (hn : 149 + 1400 ≤ n) : ∃ m, n ≤ m + 149 ∧ mm_x none n 184 96 [some (.ref 138), some (.int x), some (.int 5), some (.int y), some (.int q), some (.long A), none, some (.long Bv), none, some (.int (nI j)), some (.long wv), none, some (.int kv)] [] (mm_MC 0 0 24 1 5 (0 + (nI 5)) 0 0 0 0 0 0 0 0 b1 b2 b3 b4 b5 0 0 0 0 0 0 ([0, 0, 0, 0, 0, 0, 0, 0, 0, 0, 0, 0, 0, 0, 0, 0, 0, 0, 0, 0, 0, 0, 0, 0, 0]) ([0, 0, 0, 0, 0, 0, 0, 0, 0, 0, 0, 0, 0, 0, 0, 0, 0, 0, 0, 0, 0, 0, 0, 0, 0])) 0 0 = mm_x none m 184 96 [some (.ref 138), some (.int x), some (.int 5), some (.int y), some (.int q), some (.long (ms_g0 j A)), none, some (.long Bv), none, some (.int (nI (j + 1))), some (.long (ms_ml (ms_gw ((y - 1).toInt64) (nI j)) 5 0 1)), none, some (.int (nI 5))] [] (mm_MC 0 0 24 1 5 (0 + (nI 5)) 0 0 0 0 0 0 0 0 (0 + nI 5) 0 24 1 5 0 0 0 0 0 0 ([0, 0, 0, 0, 0, 0, 0, 0, 0, 0, 0, 0, 0, 0, 0, 0, 0, 0, 0, 0, 0, 0, 0, 0, 0]) ([0, 0, 0, 0, 0, 0, 0, 0, 0, 0, 0, 0, 0, 0, 0, 0, 0, 0, 0, 0, 0, 0, 0, 0, 0])) 0 0 := by
  have f0 : n - 700 + 700 = n := by omega
  have e2 : nI j + 1 = nI (j + 1) := nI_1 j
  have pre := pl_m5_1_p1 (n - 700) b1 b2 b3 b4 b5 x hxl hxu y q (nI j) A Bv wv kv (show ¬ nI 32 ≤ nI j from nI_ge (by omega) (by omega))
  rw [f0] at pre
  obtain ⟨m, hm, hi⟩ := pl_mi5_1 5 0 (n - 700 + 686) 0 x hxl hxu y q (nI j) A Bv 1 (by omega) (by omega)
  have po := pl_m5_1_a (m - 700) (0 + nI 5) x hxl hxu y q (nI j) (nI 5) A Bv (ms_ml (ms_gw ((y - 1).toInt64) (nI j)) 5 0 1)
  have f1 : m - 700 + 700 = m := by omega
  rw [f1, e2] at po
  exact ⟨m - 700 + 688, by omega, (pre.trans hi).trans po⟩
set_option maxRecDepth 100000 in
theorem pl_ma5_1 (k : Nat) : ∀ (j n : Nat) (b1 b2 b3 b4 b5 : Int32) (x : Int32) (hxl : 1 ≤ x.toInt) (hxu : x.toInt ≤ 24) (y q : Int32) (A Bv wv : Int64) (kv : Int32), j + k = 32 → 149 * k + 2100 ≤ n → ∃ (m : Nat) (w2 : Int64) (k2 : Int32) (c1 c2 c3 c4 c5 : Int32), 2100 ≤ m ∧ mm_x none n 184 96 [some (.ref 138), some (.int x), some (.int 5), some (.int y), some (.int q), some (.long A), none, some (.long Bv), none, some (.int (nI j)), some (.long wv), none, some (.int kv)] [] (mm_MC 0 0 24 1 5 (0 + (nI 5)) 0 0 0 0 0 0 0 0 b1 b2 b3 b4 b5 0 0 0 0 0 0 ([0, 0, 0, 0, 0, 0, 0, 0, 0, 0, 0, 0, 0, 0, 0, 0, 0, 0, 0, 0, 0, 0, 0, 0, 0]) ([0, 0, 0, 0, 0, 0, 0, 0, 0, 0, 0, 0, 0, 0, 0, 0, 0, 0, 0, 0, 0, 0, 0, 0, 0])) 0 0 = mm_x none m 184 96 [some (.ref 138), some (.int x), some (.int 5), some (.int y), some (.int q), some (.long (ms_ml (ms_g0) k j A)), none, some (.long Bv), none, some (.int (nI 32)), some (.long w2), none, some (.int k2)] [] (mm_MC 0 0 24 1 5 (0 + (nI 5)) 0 0 0 0 0 0 0 0 c1 c2 c3 c4 c5 0 0 0 0 0 0 ([0, 0, 0, 0, 0, 0, 0, 0, 0, 0, 0, 0, 0, 0, 0, 0, 0, 0, 0, 0, 0, 0, 0, 0, 0]) ([0, 0, 0, 0, 0, 0, 0, 0, 0, 0, 0, 0, 0, 0, 0, 0, 0, 0, 0, 0, 0, 0, 0, 0, 0])) 0 0 := by
  induction k with
  | zero =>
    intro j n b1 b2 b3 b4 b5 x hxl hxu y q A Bv wv kv hj hn
    have e : j = 32 := by omega
    subst e
    exact ⟨n, wv, kv, b1, b2, b3, b4, b5, by omega, rfl⟩
  | succ k IH =>
    intro j n b1 b2 b3 b4 b5 x hxl hxu y q A Bv wv kv hj hn
    obtain ⟨m, hm, h⟩ := pl_mo5_1_1 j n b1 b2 b3 b4 b5 x hxl hxu y q A Bv wv kv (by omega) (by omega)
    obtain ⟨m2, w2, k2, c1, c2, c3, c4, c5, hm2, h2⟩ := IH (j + 1) m (0 + nI 5) 0 24 1 5 x hxl hxu y q (ms_g0 j A) Bv (ms_ml (ms_gw ((y - 1).toInt64) (nI j)) 5 0 1) (nI 5) (by omega) (by omega)
    exact ⟨m2, w2, k2, c1, c2, c3, c4, c5, hm2, h.trans h2⟩
set_option maxRecDepth 100000 in
theorem pl_mt5_1 (n : Nat) (b1 b2 b3 b4 b5 : Int32) (x : Int32) (hxl : 1 ≤ x.toInt) (hxu : x.toInt ≤ 24) (y q : Int32) (Bv : Int64) (hn : 6868 ≤ n) : ∃ (m : Nat) (w2 : Int64) (k2 : Int32) (c1 c2 c3 c4 c5 : Int32), 2100 ≤ m ∧ mm_x none n 184 96 [some (.ref 138), some (.int x), some (.int 5), some (.int y), some (.int q), some (.long 0), none, some (.long Bv), none, some (.int 0), none, none, none] [] (mm_MC 0 0 24 1 5 (0 + (nI 5)) 0 0 0 0 0 0 0 0 b1 b2 b3 b4 b5 0 0 0 0 0 0 ([0, 0, 0, 0, 0, 0, 0, 0, 0, 0, 0, 0, 0, 0, 0, 0, 0, 0, 0, 0, 0, 0, 0, 0, 0]) ([0, 0, 0, 0, 0, 0, 0, 0, 0, 0, 0, 0, 0, 0, 0, 0, 0, 0, 0, 0, 0, 0, 0, 0, 0])) 0 0 = mm_x none m 184 96 [some (.ref 138), some (.int x), some (.int 5), some (.int y), some (.int q), some (.long (ms_ml (ms_g0) 32 0 0)), none, some (.long Bv), none, some (.int (nI 32)), some (.long w2), none, some (.int k2)] [] (mm_MC 0 0 24 1 5 (0 + (nI 5)) 0 0 0 0 0 0 0 0 c1 c2 c3 c4 c5 0 0 0 0 0 0 ([0, 0, 0, 0, 0, 0, 0, 0, 0, 0, 0, 0, 0, 0, 0, 0, 0, 0, 0, 0, 0, 0, 0, 0, 0]) ([0, 0, 0, 0, 0, 0, 0, 0, 0, 0, 0, 0, 0, 0, 0, 0, 0, 0, 0, 0, 0, 0, 0, 0, 0])) 0 0 := by
  obtain ⟨m, hm, h⟩ := pl_mo5_1_0 0 n b1 b2 b3 b4 b5 x hxl hxu y q 0 Bv (by omega) (by omega)
  obtain ⟨m2, w2, k2, c1, c2, c3, c4, c5, hm2, h2⟩ := pl_ma5_1 31 1 m (0 + nI 5) 0 24 1 5 x hxl hxu y q (ms_g0 0 0) Bv (ms_ml (ms_gw ((y - 1).toInt64) (nI 0)) 5 0 1) (nI 5) (by omega) (by omega)
  exact ⟨m2, w2, k2, c1, c2, c3, c4, c5, hm2, h.trans h2⟩
set_option maxRecDepth 100000 in
theorem pl_mi6_0 (k : Nat) : ∀ (j n : Nat) (b1 : Int32) (y q p : Int32) (A Bv wt : Int64), j + k = 6 → 24 * k + 700 ≤ n → ∃ m, n ≤ m + 24 * k + 3 ∧ mm_x none n 184 121 [some (.ref 138), some (.int 0), some (.int 6), some (.int y), some (.int q), some (.long A), none, some (.long Bv), none, some (.int p), some (.long wt), none, some (.int (nI j))] [] (mm_MC 0 0 24 1 5 (0 + (nI 6)) 0 0 0 0 0 0 0 0 b1 0 24 1 5 0 0 0 0 0 0 ([0, 0, 0, 0, 0, 0, 0, 0, 0, 0, 0, 0, 0, 0, 0, 0, 0, 0, 0, 0, 0, 0, 0, 0, 0]) ([0, 0, 0, 0, 0, 0, 0, 0, 0, 0, 0, 0, 0, 0, 0, 0, 0, 0, 0, 0, 0, 0, 0, 0, 0])) 0 0 = mm_x none m 184 178 [some (.ref 138), some (.int 0), some (.int 6), some (.int y), some (.int q), some (.long A), none, some (.long Bv), none, some (.int p), some (.long (ms_ml (ms_gw ((y - 1).toInt64) p) k j wt)), none, some (.int (nI 6))] [] (mm_MC 0 0 24 1 5 (0 + (nI 6)) 0 0 0 0 0 0 0 0 (b1 + nI k) 0 24 1 5 0 0 0 0 0 0 ([0, 0, 0, 0, 0, 0, 0, 0, 0, 0, 0, 0, 0, 0, 0, 0, 0, 0, 0, 0, 0, 0, 0, 0, 0]) ([0, 0, 0, 0, 0, 0, 0, 0, 0, 0, 0, 0, 0, 0, 0, 0, 0, 0, 0, 0, 0, 0, 0, 0, 0])) 0 0 := by
  induction k with
  | zero =>
    intro j n b1 y q p A Bv wt hj hn
    have f0 : n - 700 + 700 = n := by omega
    have e : j = 6 := by omega
    subst e
    have ex := pl_m6_0_e (n - 700) b1 y q p (nI 6) A Bv wt (show nI 6 ≤ nI 6 from nI_le (Nat.le_refl 6) (by omega))
    rw [f0] at ex
    have e0 : b1 + nI 0 = b1 := by rw [nI_0, Int32.add_zero]
    rw [e0, ms_ml_0]
    exact ⟨n - 700 + 697, by omega, ex⟩
  | succ k IH =>
    intro j n b1 y q p A Bv wt hj hn
    have f0 : n - 700 + 700 = n := by omega
    have e2 : nI j + 1 = nI (j + 1) := nI_1 j
    have e1 : b1 + nI (k + 1) = (b1 + 1) + nI k := by rw [nI_succ, Int32.add_assoc, Int32.add_comm 1 (nI k)]
    by_cases hb : ((p >>> (nI j &&& 31)) &&& 1) = 1
    · have it := pl_m6_0_b (n - 700) b1 y q p (nI j) A Bv wt (show ¬ nI 6 ≤ nI j from nI_ge (by omega) (by omega)) hb
      rw [f0, e2] at it
      obtain ⟨m, hm, ih⟩ := IH (j + 1) (n - 700 + 677) (b1 + 1) y q p A Bv (wt * 1) (by omega) (by omega)
      rw [e1, ms_ml_s, ms_gw_t hb]
      exact ⟨m, by omega, it.trans ih⟩
    · have it := pl_m6_0_n (n - 700) b1 y q p (nI j) A Bv wt (show ¬ nI 6 ≤ nI j from nI_ge (by omega) (by omega)) hb
      rw [f0, e2] at it
      obtain ⟨m, hm, ih⟩ := IH (j + 1) (n - 700 + 676) (b1 + 1) y q p A Bv (wt * ((y - 1).toInt64)) (by omega) (by omega)
      rw [e1, ms_ml_s, ms_gw_f hb]
      exact ⟨m, by omega, it.trans ih⟩
set_option maxRecDepth 100000 in
theorem pl_mo6_0_0 (j n : Nat) (b1 b2 b3 b4 b5 : Int32) (y q : Int32) (A Bv : Int64) (hj : j < 64) (hn : 174 + 1400 ≤ n) : ∃ m, n ≤ m + 174 ∧ mm_x none n 184 96 [some (.ref 138), some (.int 0), some (.int 6), some (.int y), some (.int q), some (.long A), none, some (.long Bv), none, some (.int (nI j)), none, none, none] [] (mm_MC 0 0 24 1 5 (0 + (nI 6)) 0 0 0 0 0 0 0 0 b1 b2 b3 b4 b5 0 0 0 0 0 0 ([0, 0, 0, 0, 0, 0, 0, 0, 0, 0, 0, 0, 0, 0, 0, 0, 0, 0, 0, 0, 0, 0, 0, 0, 0]) ([0, 0, 0, 0, 0, 0, 0, 0, 0, 0, 0, 0, 0, 0, 0, 0, 0, 0, 0, 0, 0, 0, 0, 0, 0])) 0 0 = mm_x none m 184 96 [some (.ref 138), some (.int 0), some (.int 6), some (.int y), some (.int q), some (.long (ms_gm 6 ((y - 1).toInt64) j A)), none, some (.long Bv), none, some (.int (nI (j + 1))), some (.long (ms_ml (ms_gw ((y - 1).toInt64) (nI j)) 6 0 1)), none, some (.int (nI 6))] [] (mm_MC 0 0 24 1 5 (0 + (nI 6)) 0 0 0 0 0 0 0 0 (0 + nI 6) 0 24 1 5 0 0 0 0 0 0 ([0, 0, 0, 0, 0, 0, 0, 0, 0, 0, 0, 0, 0, 0, 0, 0, 0, 0, 0, 0, 0, 0, 0, 0, 0]) ([0, 0, 0, 0, 0, 0, 0, 0, 0, 0, 0, 0, 0, 0, 0, 0, 0, 0, 0, 0, 0, 0, 0, 0, 0])) 0 0 := by
  have f0 : n - 700 + 700 = n := by omega
  have e2 : nI j + 1 = nI (j + 1) := nI_1 j
  have pre := pl_m6_0_p0 (n - 700) b1 b2 b3 b4 b5 y q (nI j) A Bv (show ¬ nI 64 ≤ nI j from nI_ge (by omega) (by omega))
  rw [f0] at pre
  obtain ⟨m, hm, hi⟩ := pl_mi6_0 6 0 (n - 700 + 686) 0 y q (nI j) A Bv 1 (by omega) (by omega)
  have po := pl_m6_0_a (m - 700) (0 + nI 6) y q (nI j) (nI 6) A Bv (ms_ml (ms_gw ((y - 1).toInt64) (nI j)) 6 0 1)
  have f1 : m - 700 + 700 = m := by omega
  rw [f1, e2] at po
  exact ⟨m - 700 + 687, by omega, (pre.trans hi).trans po⟩
set_option maxRecDepth 100000 in
theorem pl_mo6_0_1 (j n : Nat) (b1 b2 b3 b4 b5 : Int32) (y q : Int32) (A Bv : Int64) (wv : Int64) (kv : Int32) (hj : j < 64) (hn : 174 + 1400 ≤ n) : ∃ m, n ≤ m + 174 ∧ mm_x none n 184 96 [some (.ref 138), some (.int 0), some (.int 6), some (.int y), some (.int q), some (.long A), none, some (.long Bv), none, some (.int (nI j)), some (.long wv), none, some (.int kv)] [] (mm_MC 0 0 24 1 5 (0 + (nI 6)) 0 0 0 0 0 0 0 0 b1 b2 b3 b4 b5 0 0 0 0 0 0 ([0, 0, 0, 0, 0, 0, 0, 0, 0, 0, 0, 0, 0, 0, 0, 0, 0, 0, 0, 0, 0, 0, 0, 0, 0]) ([0, 0, 0, 0, 0, 0, 0, 0, 0, 0, 0, 0, 0, 0, 0, 0, 0, 0, 0, 0, 0, 0, 0, 0, 0])) 0 0 = mm_x none m 184 96 [some (.ref 138), some (.int 0), some (.int 6), some (.int y), some (.int q), some (.long (ms_gm 6 ((y - 1).toInt64) j A)), none, some (.long Bv), none, some (.int (nI (j + 1))), some (.long (ms_ml (ms_gw ((y - 1).toInt64) (nI j)) 6 0 1)), none, some (.int (nI 6))] [] (mm_MC 0 0 24 1 5 (0 + (nI 6)) 0 0 0 0 0 0 0 0 (0 + nI 6) 0 24 1 5 0 0 0 0 0 0 ([0, 0, 0, 0, 0, 0, 0, 0, 0, 0, 0, 0, 0, 0, 0, 0, 0, 0, 0, 0, 0, 0, 0, 0, 0]) ([0, 0, 0, 0, 0, 0, 0, 0, 0, 0, 0, 0, 0, 0, 0, 0, 0, 0, 0, 0, 0, 0, 0, 0, 0])) 0 0 := by
  have f0 : n - 700 + 700 = n := by omega
  have e2 : nI j + 1 = nI (j + 1) := nI_1 j
  have pre := pl_m6_0_p1 (n - 700) b1 b2 b3 b4 b5 y q (nI j) A Bv wv kv (show ¬ nI 64 ≤ nI j from nI_ge (by omega) (by omega))
  rw [f0] at pre
  obtain ⟨m, hm, hi⟩ := pl_mi6_0 6 0 (n - 700 + 686) 0 y q (nI j) A Bv 1 (by omega) (by omega)
  have po := pl_m6_0_a (m - 700) (0 + nI 6) y q (nI j) (nI 6) A Bv (ms_ml (ms_gw ((y - 1).toInt64) (nI j)) 6 0 1)
  have f1 : m - 700 + 700 = m := by omega
  rw [f1, e2] at po
  exact ⟨m - 700 + 687, by omega, (pre.trans hi).trans po⟩
set_option maxRecDepth 100000 in
theorem pl_ma6_0 (k : Nat) : ∀ (j n : Nat) (b1 b2 b3 b4 b5 : Int32) (y q : Int32) (A Bv wv : Int64) (kv : Int32), j + k = 64 → 174 * k + 2100 ≤ n → ∃ (m : Nat) (w2 : Int64) (k2 : Int32) (c1 c2 c3 c4 c5 : Int32), 2100 ≤ m ∧ mm_x none n 184 96 [some (.ref 138), some (.int 0), some (.int 6), some (.int y), some (.int q), some (.long A), none, some (.long Bv), none, some (.int (nI j)), some (.long wv), none, some (.int kv)] [] (mm_MC 0 0 24 1 5 (0 + (nI 6)) 0 0 0 0 0 0 0 0 b1 b2 b3 b4 b5 0 0 0 0 0 0 ([0, 0, 0, 0, 0, 0, 0, 0, 0, 0, 0, 0, 0, 0, 0, 0, 0, 0, 0, 0, 0, 0, 0, 0, 0]) ([0, 0, 0, 0, 0, 0, 0, 0, 0, 0, 0, 0, 0, 0, 0, 0, 0, 0, 0, 0, 0, 0, 0, 0, 0])) 0 0 = mm_x none m 184 96 [some (.ref 138), some (.int 0), some (.int 6), some (.int y), some (.int q), some (.long (ms_ml (ms_gm 6 ((y - 1).toInt64)) k j A)), none, some (.long Bv), none, some (.int (nI 64)), some (.long w2), none, some (.int k2)] [] (mm_MC 0 0 24 1 5 (0 + (nI 6)) 0 0 0 0 0 0 0 0 c1 c2 c3 c4 c5 0 0 0 0 0 0 ([0, 0, 0, 0, 0, 0, 0, 0, 0, 0, 0, 0, 0, 0, 0, 0, 0, 0, 0, 0, 0, 0, 0, 0, 0]) ([0, 0, 0, 0, 0, 0, 0, 0, 0, 0, 0, 0, 0, 0, 0, 0, 0, 0, 0, 0, 0, 0, 0, 0, 0])) 0 0 := by
  induction k with
  | zero =>
    intro j n b1 b2 b3 b4 b5 y q A Bv wv kv hj hn
    have e : j = 64 := by omega
    subst e
    exact ⟨n, wv, kv, b1, b2, b3, b4, b5, by omega, rfl⟩
  | succ k IH =>
    intro j n b1 b2 b3 b4 b5 y q A Bv wv kv hj hn
    obtain ⟨m, hm, h⟩ := pl_mo6_0_1 j n b1 b2 b3 b4 b5 y q A Bv wv kv (by omega) (by omega)
    obtain ⟨m2, w2, k2, c1, c2, c3, c4, c5, hm2, h2⟩ := IH (j + 1) m (0 + nI 6) 0 24 1 5 y q (ms_gm 6 ((y - 1).toInt64) j A) Bv (ms_ml (ms_gw ((y - 1).toInt64) (nI j)) 6 0 1) (nI 6) (by omega) (by omega)
    exact ⟨m2, w2, k2, c1, c2, c3, c4, c5, hm2, h.trans h2⟩
set_option maxRecDepth 100000 in
theorem pl_mt6_0 (n : Nat) (b1 b2 b3 b4 b5 : Int32) (y q : Int32) (Bv : Int64) (hn : 13236 ≤ n) : ∃ (m : Nat) (w2 : Int64) (k2 : Int32) (c1 c2 c3 c4 c5 : Int32), 2100 ≤ m ∧ mm_x none n 184 96 [some (.ref 138), some (.int 0), some (.int 6), some (.int y), some (.int q), some (.long 0), none, some (.long Bv), none, some (.int 0), none, none, none] [] (mm_MC 0 0 24 1 5 (0 + (nI 6)) 0 0 0 0 0 0 0 0 b1 b2 b3 b4 b5 0 0 0 0 0 0 ([0, 0, 0, 0, 0, 0, 0, 0, 0, 0, 0, 0, 0, 0, 0, 0, 0, 0, 0, 0, 0, 0, 0, 0, 0]) ([0, 0, 0, 0, 0, 0, 0, 0, 0, 0, 0, 0, 0, 0, 0, 0, 0, 0, 0, 0, 0, 0, 0, 0, 0])) 0 0 = mm_x none m 184 96 [some (.ref 138), some (.int 0), some (.int 6), some (.int y), some (.int q), some (.long (ms_ml (ms_gm 6 ((y - 1).toInt64)) 64 0 0)), none, some (.long Bv), none, some (.int (nI 64)), some (.long w2), none, some (.int k2)] [] (mm_MC 0 0 24 1 5 (0 + (nI 6)) 0 0 0 0 0 0 0 0 c1 c2 c3 c4 c5 0 0 0 0 0 0 ([0, 0, 0, 0, 0, 0, 0, 0, 0, 0, 0, 0, 0, 0, 0, 0, 0, 0, 0, 0, 0, 0, 0, 0, 0]) ([0, 0, 0, 0, 0, 0, 0, 0, 0, 0, 0, 0, 0, 0, 0, 0, 0, 0, 0, 0, 0, 0, 0, 0, 0])) 0 0 := by
  obtain ⟨m, hm, h⟩ := pl_mo6_0_0 0 n b1 b2 b3 b4 b5 y q 0 Bv (by omega) (by omega)
  obtain ⟨m2, w2, k2, c1, c2, c3, c4, c5, hm2, h2⟩ := pl_ma6_0 63 1 m (0 + nI 6) 0 24 1 5 y q (ms_gm 6 ((y - 1).toInt64) 0 0) Bv (ms_ml (ms_gw ((y - 1).toInt64) (nI 0)) 6 0 1) (nI 6) (by omega) (by omega)
  exact ⟨m2, w2, k2, c1, c2, c3, c4, c5, hm2, h.trans h2⟩
set_option maxRecDepth 100000 in
theorem pl_mi6_1 (k : Nat) : ∀ (j n : Nat) (b1 : Int32) (x : Int32) (hxl : 1 ≤ x.toInt) (hxu : x.toInt ≤ 24) (y q p : Int32) (A Bv wt : Int64), j + k = 6 → 24 * k + 700 ≤ n → ∃ m, n ≤ m + 24 * k + 3 ∧ mm_x none n 184 121 [some (.ref 138), some (.int x), some (.int 6), some (.int y), some (.int q), some (.long A), none, some (.long Bv), none, some (.int p), some (.long wt), none, some (.int (nI j))] [] (mm_MC 0 0 24 1 5 (0 + (nI 6)) 0 0 0 0 0 0 0 0 b1 0 24 1 5 0 0 0 0 0 0 ([0, 0, 0, 0, 0, 0, 0, 0, 0, 0, 0, 0, 0, 0, 0, 0, 0, 0, 0, 0, 0, 0, 0, 0, 0]) ([0, 0, 0, 0, 0, 0, 0, 0, 0, 0, 0, 0, 0, 0, 0, 0, 0, 0, 0, 0, 0, 0, 0, 0, 0])) 0 0 = mm_x none m 184 178 [some (.ref 138), some (.int x), some (.int 6), some (.int y), some (.int q), some (.long A), none, some (.long Bv), none, some (.int p), some (.long (ms_ml (ms_gw ((y - 1).toInt64) p) k j wt)), none, some (.int (nI 6))] [] (mm_MC 0 0 24 1 5 (0 + (nI 6)) 0 0 0 0 0 0 0 0 (b1 + nI k) 0 24 1 5 0 0 0 0 0 0 ([0, 0, 0, 0, 0, 0, 0, 0, 0, 0, 0, 0, 0, 0, 0, 0, 0, 0, 0, 0, 0, 0, 0, 0, 0]) ([0, 0, 0, 0, 0, 0, 0, 0, 0, 0, 0, 0, 0, 0, 0, 0, 0, 0, 0, 0, 0, 0, 0, 0, 0])) 0 0 := by
  induction k with
  | zero =>
    intro j n b1 x hxl hxu y q p A Bv wt hj hn
    have f0 : n - 700 + 700 = n := by omega
    have e : j = 6 := by omega
    subst e
    have ex := pl_m6_1_e (n - 700) b1 x hxl hxu y q p (nI 6) A Bv wt (show nI 6 ≤ nI 6 from nI_le (Nat.le_refl 6) (by omega))
    rw [f0] at ex
    have e0 : b1 + nI 0 = b1 := by rw [nI_0, Int32.add_zero]
    rw [e0, ms_ml_0]
    exact ⟨n - 700 + 697, by omega, ex⟩
  | succ k IH =>
    intro j n b1 x hxl hxu y q p A Bv wt hj hn
    have f0 : n - 700 + 700 = n := by omega
    have e2 : nI j + 1 = nI (j + 1) := nI_1 j
    have e1 : b1 + nI (k + 1) = (b1 + 1) + nI k := by rw [nI_succ, Int32.add_assoc, Int32.add_comm 1 (nI k)]
    by_cases hb : ((p >>> (nI j &&& 31)) &&& 1) = 1
    · have it := pl_m6_1_b (n - 700) b1 x hxl hxu y q p (nI j) A Bv wt (show ¬ nI 6 ≤ nI j from nI_ge (by omega) (by omega)) hb
      rw [f0, e2] at it
      obtain ⟨m, hm, ih⟩ := IH (j + 1) (n - 700 + 677) (b1 + 1) x hxl hxu y q p A Bv (wt * 1) (by omega) (by omega)
      rw [e1, ms_ml_s, ms_gw_t hb]
      exact ⟨m, by omega, it.trans ih⟩
    · have it := pl_m6_1_n (n - 700) b1 x hxl hxu y q p (nI j) A Bv wt (show ¬ nI 6 ≤ nI j from nI_ge (by omega) (by omega)) hb
      rw [f0, e2] at it
      obtain ⟨m, hm, ih⟩ := IH (j + 1) (n - 700 + 676) (b1 + 1) x hxl hxu y q p A Bv (wt * ((y - 1).toInt64)) (by omega) (by omega)
      rw [e1, ms_ml_s, ms_gw_f hb]
      exact ⟨m, by omega, it.trans ih⟩
set_option maxRecDepth 100000 in
theorem pl_mo6_1_0 (j n : Nat) (b1 b2 b3 b4 b5 : Int32) (x : Int32) (hxl : 1 ≤ x.toInt) (hxu : x.toInt ≤ 24) (y q : Int32) (A Bv : Int64) (hj : j < 64) (hn : 173 + 1400 ≤ n) : ∃ m, n ≤ m + 173 ∧ mm_x none n 184 96 [some (.ref 138), some (.int x), some (.int 6), some (.int y), some (.int q), some (.long A), none, some (.long Bv), none, some (.int (nI j)), none, none, none] [] (mm_MC 0 0 24 1 5 (0 + (nI 6)) 0 0 0 0 0 0 0 0 b1 b2 b3 b4 b5 0 0 0 0 0 0 ([0, 0, 0, 0, 0, 0, 0, 0, 0, 0, 0, 0, 0, 0, 0, 0, 0, 0, 0, 0, 0, 0, 0, 0, 0]) ([0, 0, 0, 0, 0, 0, 0, 0, 0, 0, 0, 0, 0, 0, 0, 0, 0, 0, 0, 0, 0, 0, 0, 0, 0])) 0 0 = mm_x none m 184 96 [some (.ref 138), some (.int x), some (.int 6), some (.int y), some (.int q), some (.long (ms_g0 j A)), none, some (.long Bv), none, some (.int (nI (j + 1))), some (.long (ms_ml (ms_gw ((y - 1).toInt64) (nI j)) 6 0 1)), none, some (.int (nI 6))] [] (mm_MC 0 0 24 1 5 (0 + (nI 6)) 0 0 0 0 0 0 0 0 (0 + nI 6) 0 24 1 5 0 0 0 0 0 0 ([0, 0, 0, 0, 0, 0, 0, 0, 0, 0, 0, 0, 0, 0, 0, 0, 0, 0, 0, 0, 0, 0, 0, 0, 0]) ([0, 0, 0, 0, 0, 0, 0, 0, 0, 0, 0, 0, 0, 0, 0, 0, 0, 0, 0, 0, 0, 0, 0, 0, 0])) 0 0 := by
  have f0 : n - 700 + 700 = n := by omega
  have e2 : nI j + 1 = nI (j + 1) := nI_1 j
  have pre := pl_m6_1_p0 (n - 700) b1 b2 b3 b4 b5 x hxl hxu y q (nI j) A Bv (show ¬ nI 64 ≤ nI j from nI_ge (by omega) (by omega))
  rw [f0] at pre
  obtain ⟨m, hm, hi⟩ := pl_mi6_1 6 0 (n - 700 + 686) 0 x hxl hxu y q (nI j) A Bv 1 (by omega) (by omega)
  have po := pl_m6_1_a (m - 700) (0 + nI 6) x hxl hxu y q (nI j) (nI 6) A Bv (ms_ml (ms_gw ((y - 1).toInt64) (nI j)) 6 0 1)
  have f1 : m - 700 + 700 = m := by omega
  rw [f1, e2] at po
  exact ⟨m - 700 + 688, by omega, (pre.trans hi).trans po⟩
set_option maxRecDepth 100000 in
theorem pl_mo6_1_1 (j n : Nat) (b1 b2 b3 b4 b5 : Int32) (x : Int32) (hxl : 1 ≤ x.toInt) (hxu : x.toInt ≤ 24) (y q : Int32) (A Bv : Int64) (wv : Int64) (kv : Int32) (hj : j < 64) (hn : 173 + 1400 ≤ n) : ∃ m, n ≤ m + 173 ∧ mm_x none n 184 96 [some (.ref 138), some (.int x), some (.int 6), some (.int y), some (.int q), some (.long A), none, some (.long Bv), none, some (.int (nI j)), some (.long wv), none, some (.int kv)] [] (mm_MC 0 0 24 1 5 (0 + (nI 6)) 0 0 0 0 0 0 0 0 b1 b2 b3 b4 b5 0 0 0 0 0 0 ([0, 0, 0, 0, 0, 0, 0, 0, 0, 0, 0, 0, 0, 0, 0, 0, 0, 0, 0, 0, 0, 0, 0, 0, 0]) ([0, 0, 0, 0, 0, 0, 0, 0, 0, 0, 0, 0, 0, 0, 0, 0, 0, 0, 0, 0, 0, 0, 0, 0, 0])) 0 0 = mm_x none m 184 96 [some (.ref 138), some (.int x), some (.int 6), some (.int y), some (.int q), some (.long (ms_g0 j A)), none, some (.long Bv), none, some (.int (nI (j + 1))), some (.long (ms_ml (ms_gw ((y - 1).toInt64) (nI j)) 6 0 1)), none, some (.int (nI 6))] [] (mm_MC 0 0 24 1 5 (0 + (nI 6)) 0 0 0 0 0 0 0 0 (0 + nI 6) 0 24 1 5 0 0 0 0 0 0 ([0, 0, 0, 0, 0, 0, 0, 0, 0, 0, 0, 0, 0, 0, 0, 0, 0, 0, 0, 0, 0, 0, 0, 0, 0]) ([0, 0, 0, 0, 0, 0, 0, 0, 0, 0, 0, 0, 0, 0, 0, 0, 0, 0, 0, 0, 0, 0, 0, 0, 0])) 0 0 := by
  have f0 : n - 700 + 700 = n := by omega
  have e2 : nI j + 1 = nI (j + 1) := nI_1 j
  have pre := pl_m6_1_p1 (n - 700) b1 b2 b3 b4 b5 x hxl hxu y q (nI j) A Bv wv kv (show ¬ nI 64 ≤ nI j from nI_ge (by omega) (by omega))
  rw [f0] at pre
  obtain ⟨m, hm, hi⟩ := pl_mi6_1 6 0 (n - 700 + 686) 0 x hxl hxu y q (nI j) A Bv 1 (by omega) (by omega)
  have po := pl_m6_1_a (m - 700) (0 + nI 6) x hxl hxu y q (nI j) (nI 6) A Bv (ms_ml (ms_gw ((y - 1).toInt64) (nI j)) 6 0 1)
  have f1 : m - 700 + 700 = m := by omega
  rw [f1, e2] at po
  exact ⟨m - 700 + 688, by omega, (pre.trans hi).trans po⟩
set_option maxRecDepth 100000 in
theorem pl_ma6_1 (k : Nat) : ∀ (j n : Nat) (b1 b2 b3 b4 b5 : Int32) (x : Int32) (hxl : 1 ≤ x.toInt) (hxu : x.toInt ≤ 24) (y q : Int32) (A Bv wv : Int64) (kv : Int32), j + k = 64 → 173 * k + 2100 ≤ n → ∃ (m : Nat) (w2 : Int64) (k2 : Int32) (c1 c2 c3 c4 c5 : Int32), 2100 ≤ m ∧ mm_x none n 184 96 [some (.ref 138), some (.int x), some (.int 6), some (.int y), some (.int q), some (.long A), none, some (.long Bv), none, some (.int (nI j)), some (.long wv), none, some (.int kv)] [] (mm_MC 0 0 24 1 5 (0 + (nI 6)) 0 0 0 0 0 0 0 0 b1 b2 b3 b4 b5 0 0 0 0 0 0 ([0, 0, 0, 0, 0, 0, 0, 0, 0, 0, 0, 0, 0, 0, 0, 0, 0, 0, 0, 0, 0, 0, 0, 0, 0]) ([0, 0, 0, 0, 0, 0, 0, 0, 0, 0, 0, 0, 0, 0, 0, 0, 0, 0, 0, 0, 0, 0, 0, 0, 0])) 0 0 = mm_x none m 184 96 [some (.ref 138), some (.int x), some (.int 6), some (.int y), some (.int q), some (.long (ms_ml (ms_g0) k j A)), none, some (.long Bv), none, some (.int (nI 64)), some (.long w2), none, some (.int k2)] [] (mm_MC 0 0 24 1 5 (0 + (nI 6)) 0 0 0 0 0 0 0 0 c1 c2 c3 c4 c5 0 0 0 0 0 0 ([0, 0, 0, 0, 0, 0, 0, 0, 0, 0, 0, 0, 0, 0, 0, 0, 0, 0, 0, 0, 0, 0, 0, 0, 0]) ([0, 0, 0, 0, 0, 0, 0, 0, 0, 0, 0, 0, 0, 0, 0, 0, 0, 0, 0, 0, 0, 0, 0, 0, 0])) 0 0 := by
  induction k with
  | zero =>
    intro j n b1 b2 b3 b4 b5 x hxl hxu y q A Bv wv kv hj hn
    have e : j = 64 := by omega
    subst e
    exact ⟨n, wv, kv, b1, b2, b3, b4, b5, by omega, rfl⟩
  | succ k IH =>
    intro j n b1 b2 b3 b4 b5 x hxl hxu y q A Bv wv kv hj hn
    obtain ⟨m, hm, h⟩ := pl_mo6_1_1 j n b1 b2 b3 b4 b5 x hxl hxu y q A Bv wv kv (by omega) (by omega)
    obtain ⟨m2, w2, k2, c1, c2, c3, c4, c5, hm2, h2⟩ := IH (j + 1) m (0 + nI 6) 0 24 1 5 x hxl hxu y q (ms_g0 j A) Bv (ms_ml (ms_gw ((y - 1).toInt64) (nI j)) 6 0 1) (nI 6) (by omega) (by omega)
    exact ⟨m2, w2, k2, c1, c2, c3, c4, c5, hm2, h.trans h2⟩
set_option maxRecDepth 100000 in
theorem pl_mt6_1 (n : Nat) (b1 b2 b3 b4 b5 : Int32) (x : Int32) (hxl : 1 ≤ x.toInt) (hxu : x.toInt ≤ 24) (y q : Int32) (Bv : Int64) (hn : 13172 ≤ n) : ∃ (m : Nat) (w2 : Int64) (k2 : Int32) (c1 c2 c3 c4 c5 : Int32), 2100 ≤ m ∧ mm_x none n 184 96 [some (.ref 138), some (.int x), some (.int 6), some (.int y), some (.int q), some (.long 0), none, some (.long Bv), none, some (.int 0), none, none, none] [] (mm_MC 0 0 24 1 5 (0 + (nI 6)) 0 0 0 0 0 0 0 0 b1 b2 b3 b4 b5 0 0 0 0 0 0 ([0, 0, 0, 0, 0, 0, 0, 0, 0, 0, 0, 0, 0, 0, 0, 0, 0, 0, 0, 0, 0, 0, 0, 0, 0]) ([0, 0, 0, 0, 0, 0, 0, 0, 0, 0, 0, 0, 0, 0, 0, 0, 0, 0, 0, 0, 0, 0, 0, 0, 0])) 0 0 = mm_x none m 184 96 [some (.ref 138), some (.int x), some (.int 6), some (.int y), some (.int q), some (.long (ms_ml (ms_g0) 64 0 0)), none, some (.long Bv), none, some (.int (nI 64)), some (.long w2), none, some (.int k2)] [] (mm_MC 0 0 24 1 5 (0 + (nI 6)) 0 0 0 0 0 0 0 0 c1 c2 c3 c4 c5 0 0 0 0 0 0 ([0, 0, 0, 0, 0, 0, 0, 0, 0, 0, 0, 0, 0, 0, 0, 0, 0, 0, 0, 0, 0, 0, 0, 0, 0]) ([0, 0, 0, 0, 0, 0, 0, 0, 0, 0, 0, 0, 0, 0, 0, 0, 0, 0, 0, 0, 0, 0, 0, 0, 0])) 0 0 := by
  obtain ⟨m, hm, h⟩ := pl_mo6_1_0 0 n b1 b2 b3 b4 b5 x hxl hxu y q 0 Bv (by omega) (by omega)
  obtain ⟨m2, w2, k2, c1, c2, c3, c4, c5, hm2, h2⟩ := pl_ma6_1 63 1 m (0 + nI 6) 0 24 1 5 x hxl hxu y q (ms_g0 0 0) Bv (ms_ml (ms_gw ((y - 1).toInt64) (nI 0)) 6 0 1) (nI 6) (by omega) (by omega)
  exact ⟨m2, w2, k2, c1, c2, c3, c4, c5, hm2, h.trans h2⟩
set_option maxRecDepth 100000 in
theorem pl_mi7_0 (k : Nat) : ∀ (j n : Nat) (b1 : Int32) (y q p : Int32) (A Bv wt : Int64), j + k = 7 → 24 * k + 700 ≤ n → ∃ m, n ≤ m + 24 * k + 3 ∧ mm_x none n 184 121 [some (.ref 138), some (.int 0), some (.int 7), some (.int y), some (.int q), some (.long A), none, some (.long Bv), none, some (.int p), some (.long wt), none, some (.int (nI j))] [] (mm_MC 0 0 24 1 5 (0 + (nI 7)) 0 0 0 0 0 0 0 0 b1 0 24 1 5 0 0 0 0 0 0 ([0, 0, 0, 0, 0, 0, 0, 0, 0, 0, 0, 0, 0, 0, 0, 0, 0, 0, 0, 0, 0, 0, 0, 0, 0]) ([0, 0, 0, 0, 0, 0, 0, 0, 0, 0, 0, 0, 0, 0, 0, 0, 0, 0, 0, 0, 0, 0, 0, 0, 0])) 0 0 = mm_x none m 184 178 [some (.ref 138), some (.int 0), some (.int 7), some (.int y), some (.int q), some (.long A), none, some (.long Bv), none, some (.int p), some (.long (ms_ml (ms_gw ((y - 1).toInt64) p) k j wt)), none, some (.int (nI 7))] [] (mm_MC 0 0 24 1 5 (0 + (nI 7)) 0 0 0 0 0 0 0 0 (b1 + nI k) 0 24 1 5 0 0 0 0 0 0 ([0, 0, 0, 0, 0, 0, 0, 0, 0, 0, 0, 0, 0, 0, 0, 0, 0, 0, 0, 0, 0, 0, 0, 0, 0]) ([0, 0, 0, 0, 0, 0, 0, 0, 0, 0, 0, 0, 0, 0, 0, 0, 0, 0, 0, 0, 0, 0, 0, 0, 0])) 0 0 := by
  induction k with
  | zero =>
    intro j n b1 y q p A Bv wt hj hn
    have f0 : n - 700 + 700 = n := by omega
    have e : j = 7 := by omega
    subst e
    have ex := pl_m7_0_e (n - 700) b1 y q p (nI 7) A Bv wt (show nI 7 ≤ nI 7 from nI_le (Nat.le_refl 7) (by omega))
    rw [f0] at ex
    have e0 : b1 + nI 0 = b1 := by rw [nI_0, Int32.add_zero]
    rw [e0, ms_ml_0]
    exact ⟨n - 700 + 697, by omega, ex⟩
  | succ k IH =>
    intro j n b1 y q p A Bv wt hj hn
    have f0 : n - 700 + 700 = n := by omega
    have e2 : nI j + 1 = nI (j + 1) := nI_1 j
    have e1 : b1 + nI (k + 1) = (b1 + 1) + nI k := by rw [nI_succ, Int32.add_assoc, Int32.add_comm 1 (nI k)]
    by_cases hb : ((p >>> (nI j &&& 31)) &&& 1) = 1
    · have it := pl_m7_0_b (n - 700) b1 y q p (nI j) A Bv wt (show ¬ nI 7 ≤ nI j from nI_ge (by omega) (by omega)) hb
      rw [f0, e2] at it
      obtain ⟨m, hm, ih⟩ := IH (j + 1) (n - 700 + 677) (b1 + 1) y q p A Bv (wt * 1) (by omega) (by omega)
      rw [e1, ms_ml_s, ms_gw_t hb]
      exact ⟨m, by omega, it.trans ih⟩
    · have it := pl_m7_0_n (n - 700) b1 y q p (nI j) A Bv wt (show ¬ nI 7 ≤ nI j from nI_ge (by omega) (by omega)) hb
      rw [f0, e2] at it
      obtain ⟨m, hm, ih⟩ := IH (j + 1) (n - 700 + 676) (b1 + 1) y q p A Bv (wt * ((y - 1).toInt64)) (by omega) (by omega)
      rw [e1, ms_ml_s, ms_gw_f hb]
      exact ⟨m, by omega, it.trans ih⟩
set_option maxRecDepth 100000 in
theorem pl_mo7_0_0 (j n : Nat) (b1 b2 b3 b4 b5 : Int32) (y q : Int32) (A Bv : Int64) (hj : j < 128) (hn : 198 + 1400 ≤ n) : ∃ m, n ≤ m + 198 ∧ mm_x none n 184 96 [some (.ref 138), some (.int 0), some (.int 7), some (.int y), some (.int q), some (.long A), none, some (.long Bv), none, some (.int (nI j)), none, none, none] [] (mm_MC 0 0 24 1 5 (0 + (nI 7)) 0 0 0 0 0 0 0 0 b1 b2 b3 b4 b5 0 0 0 0 0 0 ([0, 0, 0, 0, 0, 0, 0, 0, 0, 0, 0, 0, 0, 0, 0, 0, 0, 0, 0, 0, 0, 0, 0, 0, 0]) ([0, 0, 0, 0, 0, 0, 0, 0, 0, 0, 0, 0, 0, 0, 0, 0, 0, 0, 0, 0, 0, 0, 0, 0, 0])) 0 0 = mm_x none m 184 96 [some (.ref 138), some (.int 0), some (.int 7), some (.int y), some (.int q), some (.long (ms_gm 7 ((y - 1).toInt64) j A)), none, some (.long Bv), none, some (.int (nI (j + 1))), some (.long (ms_ml (ms_gw ((y - 1).toInt64) (nI j)) 7 0 1)), none, some (.int (nI 7))] [] (mm_MC 0 0 24 1 5 (0 + (nI 7)) 0 0 0 0 0 0 0 0 (0 + nI 7) 0 24 1 5 0 0 0 0 0 0 ([0, 0, 0, 0, 0, 0, 0, 0, 0, 0, 0, 0, 0, 0, 0, 0, 0, 0, 0, 0, 0, 0, 0, 0, 0]) ([0, 0, 0, 0, 0, 0, 0, 0, 0, 0, 0, 0, 0, 0, 0, 0, 0, 0, 0, 0, 0, 0, 0, 0, 0])) 0 0 := by
  have f0 : n - 700 + 700 = n := by omega
  have e2 : nI j + 1 = nI (j + 1) := nI_1 j
  have pre := pl_m7_0_p0 (n - 700) b1 b2 b3 b4 b5 y q (nI j) A Bv (show ¬ nI 128 ≤ nI j from nI_ge (by omega) (by omega))
  rw [f0] at pre
  obtain ⟨m, hm, hi⟩ := pl_mi7_0 7 0 (n - 700 + 686) 0 y q (nI j) A Bv 1 (by omega) (by omega)
  have po := pl_m7_0_a (m - 700) (0 + nI 7) y q (nI j) (nI 7) A Bv (ms_ml (ms_gw ((y - 1).toInt64) (nI j)) 7 0 1)
  have f1 : m - 700 + 700 = m := by omega
  rw [f1, e2] at po
  exact ⟨m - 700 + 687, by omega, (pre.trans hi).trans po⟩
set_option maxRecDepth 100000 in
theorem pl_mo7_0_1 (j n : Nat) (b1 b2 b3 b4 b5 : Int32) (y q : Int32) (A Bv : Int64) (wv : Int64) (kv : Int32) (hj : j < 128) (hn : 198 + 1400 ≤ n) : ∃ m, n ≤ m + 198 ∧ mm_x none n 184 96 [some (.ref 138), some (.int 0), some (.int 7), some (.int y), some (.int q), some (.long A), none, some (.long Bv), none, some (.int (nI j)), some (.long wv), none, some (.int kv)] [] (mm_MC 0 0 24 1 5 (0 + (nI 7)) 0 0 0 0 0 0 0 0 b1 b2 b3 b4 b5 0 0 0 0 0 0 ([0, 0, 0, 0, 0, 0, 0, 0, 0, 0, 0, 0, 0, 0, 0, 0, 0, 0, 0, 0, 0, 0, 0, 0, 0]) ([0, 0, 0, 0, 0, 0, 0, 0, 0, 0, 0, 0, 0, 0, 0, 0, 0, 0, 0, 0, 0, 0, 0, 0, 0])) 0 0 = mm_x none m 184 96 [some (.ref 138), some (.int 0), some (.int 7), some (.int y), some (.int q), some (.long (ms_gm 7 ((y - 1).toInt64) j A)), none, some (.long Bv), none, some (.int (nI (j + 1))), some (.long (ms_ml (ms_gw ((y - 1).toInt64) (nI j)) 7 0 1)), none, some (.int (nI 7))] [] (mm_MC 0 0 24 1 5 (0 + (nI 7)) 0 0 0 0 0 0 0 0 (0 + nI 7) 0 24 1 5 0 0 0 0 0 0 ([0, 0, 0, 0, 0, 0, 0, 0, 0, 0, 0, 0, 0, 0, 0, 0, 0, 0, 0, 0, 0, 0, 0, 0, 0]) ([0, 0, 0, 0, 0, 0, 0, 0, 0, 0, 0, 0, 0, 0, 0, 0, 0, 0, 0, 0, 0, 0, 0, 0, 0])) 0 0 := by
  have f0 : n - 700 + 700 = n := by omega
  have e2 : nI j + 1 = nI (j + 1) := nI_1 j
  have pre := pl_m7_0_p1 (n - 700) b1 b2 b3 b4 b5 y q (nI j) A Bv wv kv (show ¬ nI 128 ≤ nI j from nI_ge (by omega) (by omega))
  rw [f0] at pre
  obtain ⟨m, hm, hi⟩ := pl_mi7_0 7 0 (n - 700 + 686) 0 y q (nI j) A Bv 1 (by omega) (by omega)
  have po := pl_m7_0_a (m - 700) (0 + nI 7) y q (nI j) (nI 7) A Bv (ms_ml (ms_gw ((y - 1).toInt64) (nI j)) 7 0 1)
  have f1 : m - 700 + 700 = m := by omega
  rw [f1, e2] at po
  exact ⟨m - 700 + 687, by omega, (pre.trans hi).trans po⟩
set_option maxRecDepth 100000 in
theorem pl_ma7_0 (k : Nat) : ∀ (j n : Nat) (b1 b2 b3 b4 b5 : Int32) (y q : Int32) (A Bv wv : Int64) (kv : Int32), j + k = 128 → 198 * k + 2100 ≤ n → ∃ (m : Nat) (w2 : Int64) (k2 : Int32) (c1 c2 c3 c4 c5 : Int32), 2100 ≤ m ∧ mm_x none n 184 96 [some (.ref 138), some (.int 0), some (.int 7), some (.int y), some (.int q), some (.long A), none, some (.long Bv), none, some (.int (nI j)), some (.long wv), none, some (.int kv)] [] (mm_MC 0 0 24 1 5 (0 + (nI 7)) 0 0 0 0 0 0 0 0 b1 b2 b3 b4 b5 0 0 0 0 0 0 ([0, 0, 0, 0, 0, 0, 0, 0, 0, 0, 0, 0, 0, 0, 0, 0, 0, 0, 0, 0, 0, 0, 0, 0, 0]) ([0, 0, 0, 0, 0, 0, 0, 0, 0, 0, 0, 0, 0, 0, 0, 0, 0, 0, 0, 0, 0, 0, 0, 0, 0])) 0 0 = mm_x none m 184 96 [some (.ref 138), some (.int 0), some (.int 7), some (.int y), some (.int q), some (.long (ms_ml (ms_gm 7 ((y - 1).toInt64)) k j A)), none, some (.long Bv), none, some (.int (nI 128)), some (.long w2), none, some (.int k2)] [] (mm_MC 0 0 24 1 5 (0 + (nI 7)) 0 0 0 0 0 0 0 0 c1 c2 c3 c4 c5 0 0 0 0 0 0 ([0, 0, 0, 0, 0, 0, 0, 0, 0, 0, 0, 0, 0, 0, 0, 0, 0, 0, 0, 0, 0, 0, 0, 0, 0]) ([0, 0, 0, 0, 0, 0, 0, 0, 0, 0, 0, 0, 0, 0, 0, 0, 0, 0, 0, 0, 0, 0, 0, 0, 0])) 0 0 := by
  induction k with
  | zero =>
    intro j n b1 b2 b3 b4 b5 y q A Bv wv kv hj hn
    have e : j = 128 := by omega
    subst e
    exact ⟨n, wv, kv, b1, b2, b3, b4, b5, by omega, rfl⟩
  | succ k IH =>
    intro j n b1 b2 b3 b4 b5 y q A Bv wv kv hj hn
    obtain ⟨m, hm, h⟩ := pl_mo7_0_1 j n b1 b2 b3 b4 b5 y q A Bv wv kv (by omega) (by omega)
    obtain ⟨m2, w2, k2, c1, c2, c3, c4, c5, hm2, h2⟩ := IH (j + 1) m (0 + nI 7) 0 24 1 5 y q (ms_gm 7 ((y - 1).toInt64) j A) Bv (ms_ml (ms_gw ((y - 1).toInt64) (nI j)) 7 0 1) (nI 7) (by omega) (by omega)
    exact ⟨m2, w2, k2, c1, c2, c3, c4, c5, hm2, h.trans h2⟩
set_option maxRecDepth 100000 in
theorem pl_mt7_0 (n : Nat) (b1 b2 b3 b4 b5 : Int32) (y q : Int32) (Bv : Int64) (hn : 27444 ≤ n) : ∃ (m : Nat) (w2 : Int64) (k2 : Int32) (c1 c2 c3 c4 c5 : Int32), 2100 ≤ m ∧ mm_x none n 184 96 [some (.ref 138), some (.int 0), some (.int 7), some (.int y), some (.int q), some (.long 0), none, some (.long Bv), none, some (.int 0), none, none, none] [] (mm_MC 0 0 24 1 5 (0 + (nI 7)) 0 0 0 0 0 0 0 0 b1 b2 b3 b4 b5 0 0 0 0 0 0 ([0, 0, 0, 0, 0, 0, 0, 0, 0, 0, 0, 0, 0, 0, 0, 0, 0, 0, 0, 0, 0, 0, 0, 0, 0]) ([0, 0, 0, 0, 0, 0, 0, 0, 0, 0, 0, 0, 0, 0, 0, 0, 0, 0, 0, 0, 0, 0, 0, 0, 0])) 0 0 = mm_x none m 184 96 [some (.ref 138), some (.int 0), some (.int 7), some (.int y), some (.int q), some (.long (ms_ml (ms_gm 7 ((y - 1).toInt64)) 128 0 0)), none, some (.long Bv), none, some (.int (nI 128)), some (.long w2), none, some (.int k2)] [] (mm_MC 0 0 24 1 5 (0 + (nI 7)) 0 0 0 0 0 0 0 0 c1 c2 c3 c4 c5 0 0 0 0 0 0 ([0, 0, 0, 0, 0, 0, 0, 0, 0, 0, 0, 0, 0, 0, 0, 0, 0, 0, 0, 0, 0, 0, 0, 0, 0]) ([0, 0, 0, 0, 0, 0, 0, 0, 0, 0, 0, 0, 0, 0, 0, 0, 0, 0, 0, 0, 0, 0, 0, 0, 0])) 0 0 := by
  obtain ⟨m, hm, h⟩ := pl_mo7_0_0 0 n b1 b2 b3 b4 b5 y q 0 Bv (by omega) (by omega)
  obtain ⟨m2, w2, k2, c1, c2, c3, c4, c5, hm2, h2⟩ := pl_ma7_0 127 1 m (0 + nI 7) 0 24 1 5 y q (ms_gm 7 ((y - 1).toInt64) 0 0) Bv (ms_ml (ms_gw ((y - 1).toInt64) (nI 0)) 7 0 1) (nI 7) (by omega) (by omega)
  exact ⟨m2, w2, k2, c1, c2, c3, c4, c5, hm2, h.trans h2⟩
set_option maxRecDepth 100000 in
theorem pl_mi7_1 (k : Nat) : ∀ (j n : Nat) (b1 : Int32) (x : Int32) (hxl : 1 ≤ x.toInt) (hxu : x.toInt ≤ 24) (y q p : Int32) (A Bv wt : Int64), j + k = 7 → 24 * k + 700 ≤ n → ∃ m, n ≤ m + 24 * k + 3 ∧ mm_x none n 184 121 [some (.ref 138), some (.int x), some (.int 7), some (.int y), some (.int q), some (.long A), none, some (.long Bv), none, some (.int p), some (.long wt), none, some (.int (nI j))] [] (mm_MC 0 0 24 1 5 (0 + (nI 7)) 0 0 0 0 0 0 0 0 b1 0 24 1 5 0 0 0 0 0 0 ([0, 0, 0, 0, 0, 0, 0, 0, 0, 0, 0, 0, 0, 0, 0, 0, 0, 0, 0, 0, 0, 0, 0, 0, 0]) ([0, 0, 0, 0, 0, 0, 0, 0, 0, 0, 0, 0, 0, 0, 0, 0, 0, 0, 0, 0, 0, 0, 0, 0, 0])) 0 0 = mm_x none m 184 178 [some (.ref 138), some (.int x), some (.int 7), some (.int y), some (.int q), some (.long A), none, some (.long Bv), none, some (.int p), some (.long (ms_ml (ms_gw ((y - 1).toInt64) p) k j wt)), none, some (.int (nI 7))] [] (mm_MC 0 0 24 1 5 (0 + (nI 7)) 0 0 0 0 0 0 0 0 (b1 + nI k) 0 24 1 5 0 0 0 0 0 0 ([0, 0, 0, 0, 0, 0, 0, 0, 0, 0, 0, 0, 0, 0, 0, 0, 0, 0, 0, 0, 0, 0, 0, 0, 0]) ([0, 0, 0, 0, 0, 0, 0, 0, 0, 0, 0, 0, 0, 0, 0, 0, 0, 0, 0, 0, 0, 0, 0, 0, 0])) 0 0 := by
  induction k with
  | zero =>
    intro j n b1 x hxl hxu y q p A Bv wt hj hn
    have f0 : n - 700 + 700 = n := by omega
    have e : j = 7 := by omega
    subst e
    have ex := pl_m7_1_e (n - 700) b1 x hxl hxu y q p (nI 7) A Bv wt (show nI 7 ≤ nI 7 from nI_le (Nat.le_refl 7) (by omega))
    rw [f0] at ex
    have e0 : b1 + nI 0 = b1 := by rw [nI_0, Int32.add_zero]
    rw [e0, ms_ml_0]
    exact ⟨n - 700 + 697, by omega, ex⟩
  | succ k IH =>
    intro j n b1 x hxl hxu y q p A Bv wt hj hn
    have f0 : n - 700 + 700 = n := by omega
    have e2 : nI j + 1 = nI (j + 1) := nI_1 j
    have e1 : b1 + nI (k + 1) = (b1 + 1) + nI k := by rw [nI_succ, Int32.add_assoc, Int32.add_comm 1 (nI k)]
    by_cases hb : ((p >>> (nI j &&& 31)) &&& 1) = 1
    · have it := pl_m7_1_b (n - 700) b1 x hxl hxu y q p (nI j) A Bv wt (show ¬ nI 7 ≤ nI j from nI_ge (by omega) (by omega)) hb
      rw [f0, e2] at it
      obtain ⟨m, hm, ih⟩ := IH (j + 1) (n - 700 + 677) (b1 + 1) x hxl hxu y q p A Bv (wt * 1) (by omega) (by omega)
      rw [e1, ms_ml_s, ms_gw_t hb]
      exact ⟨m, by omega, it.trans ih⟩
    · have it := pl_m7_1_n (n - 700) b1 x hxl hxu y q p (nI j) A Bv wt (show ¬ nI 7 ≤ nI j from nI_ge (by omega) (by omega)) hb
      rw [f0, e2] at it
      obtain ⟨m, hm, ih⟩ := IH (j + 1) (n - 700 + 676) (b1 + 1) x hxl hxu y q p A Bv (wt * ((y - 1).toInt64)) (by omega) (by omega)
      rw [e1, ms_ml_s, ms_gw_f hb]
      exact ⟨m, by omega, it.trans ih⟩
set_option maxRecDepth 100000 in
theorem pl_mo7_1_0 (j n : Nat) (b1 b2 b3 b4 b5 : Int32) (x : Int32) (hxl : 1 ≤ x.toInt) (hxu : x.toInt ≤ 24) (y q : Int32) (A Bv : Int64) (hj : j < 128) (hn : 197 + 1400 ≤ n) : ∃ m, n ≤ m + 197 ∧ mm_x none n 184 96 [some (.ref 138), some (.int x), some (.int 7), some (.int y), some (.int q), some (.long A), none, some (.long Bv), none, some (.int (nI j)), none, none, none] [] (mm_MC 0 0 24 1 5 (0 + (nI 7)) 0 0 0 0 0 0 0 0 b1 b2 b3 b4 b5 0 0 0 0 0 0 ([0, 0, 0, 0, 0, 0, 0, 0, 0, 0, 0, 0, 0, 0, 0, 0, 0, 0, 0, 0, 0, 0, 0, 0, 0]) ([0, 0, 0, 0, 0, 0, 0, 0, 0, 0, 0, 0, 0, 0, 0, 0, 0, 0, 0, 0, 0, 0, 0, 0, 0])) 0 0 = mm_x none m 184 96 [some (.ref 138), some (.int x), some (.int 7), some (.int y), some (.int q), some (.long (ms_g0 j A)), none, some (.long Bv), none, some (.int (nI (j + 1))), some (.long (ms_ml (ms_gw ((y - 1).toInt64) (nI j)) 7 0 1)), none, some (.int (nI 7))] [] (mm_MC 0 0 24 1 5 (0 + (nI 7)) 0 0 0 0 0 0 0 0 (0 + nI 7) 0 24 1 5 0 0 0 0 0 0 ([0, 0, 0, 0, 0, 0, 0, 0, 0, 0, 0, 0, 0, 0, 0, 0, 0, 0, 0, 0, 0, 0, 0, 0, 0]) ([0, 0, 0, 0, 0, 0, 0, 0, 0, 0, 0, 0, 0, 0, 0, 0, 0, 0, 0, 0, 0, 0, 0, 0, 0])) 0 0 := by
  have f0 : n - 700 + 700 = n := by omega
  have e2 : nI j + 1 = nI (j + 1) := nI_1 j
  have pre := pl_m7_1_p0 (n - 700) b1 b2 b3 b4 b5 x hxl hxu y q (nI j) A Bv (show ¬ nI 128 ≤ nI j from nI_ge (by omega) (by omega))
  rw [f0] at pre
  obtain ⟨m, hm, hi⟩ := pl_mi7_1 7 0 (n - 700 + 686) 0 x hxl hxu y q (nI j) A Bv 1 (by omega) (by omega)
  have po := pl_m7_1_a (m - 700) (0 + nI 7) x hxl hxu y q (nI j) (nI 7) A Bv (ms_ml (ms_gw ((y - 1).toInt64) (nI j)) 7 0 1)
  have f1 : m - 700 + 700 = m := by omega
  rw [f1, e2] at po
  exact ⟨m - 700 + 688, by omega, (pre.trans hi).trans po⟩
set_option maxRecDepth 100000 in
theorem pl_mo7_1_1 (j n : Nat) (b1 b2 b3 b4 b5 : Int32) (x : Int32) (hxl : 1 ≤ x.toInt) (hxu : x.toInt ≤ 24) (y q : Int32) (A Bv : Int64) (wv : Int64) (kv : Int32) (hj : j < 128) (hn : 197 + 1400 ≤ n) : ∃ m, n ≤ m + 197 ∧ mm_x none n 184 96 [some (.ref 138), some (.int x), some (.int 7), some (.int y), some (.int q), some (.long A), none, some (.long Bv), none, some (.int (nI j)), some (.long wv), none, some (.int kv)] [] (mm_MC 0 0 24 1 5 (0 + (nI 7)) 0 0 0 0 0 0 0 0 b1 b2 b3 b4 b5 0 0 0 0 0 0 ([0, 0, 0, 0, 0, 0, 0, 0, 0, 0, 0, 0, 0, 0, 0, 0, 0, 0, 0, 0, 0, 0, 0, 0, 0]) ([0, 0, 0, 0, 0, 0, 0, 0, 0, 0, 0, 0, 0, 0, 0, 0, 0, 0, 0, 0, 0, 0, 0, 0, 0])) 0 0 = mm_x none m 184 96 [some (.ref 138), some (.int x), some (.int 7), some (.int y), some (.int q), some (.long (ms_g0 j A)), none, some (.long Bv), none, some (.int (nI (j + 1))), some (.long (ms_ml (ms_gw ((y - 1).toInt64) (nI j)) 7 0 1)), none, some (.int (nI 7))] [] (mm_MC 0 0 24 1 5 (0 + (nI 7)) 0 0 0 0 0 0 0 0 (0 + nI 7) 0 24 1 5 0 0 0 0 0 0 ([0, 0, 0, 0, 0, 0, 0, 0, 0, 0, 0, 0, 0, 0, 0, 0, 0, 0, 0, 0, 0, 0, 0, 0, 0]) ([0, 0, 0, 0, 0, 0, 0, 0, 0, 0, 0, 0, 0, 0, 0, 0, 0, 0, 0, 0, 0, 0, 0, 0, 0])) 0 0 := by
  have f0 : n - 700 + 700 = n := by omega
  have e2 : nI j + 1 = nI (j + 1) := nI_1 j
  have pre := pl_m7_1_p1 (n - 700) b1 b2 b3 b4 b5 x hxl hxu y q (nI j) A Bv wv kv (show ¬ nI 128 ≤ nI j from nI_ge (by omega) (by omega))
  rw [f0] at pre
  obtain ⟨m, hm, hi⟩ := pl_mi7_1 7 0 (n - 700 + 686) 0 x hxl hxu y q (nI j) A Bv 1 (by omega) (by omega)
  have po := pl_m7_1_a (m - 700) (0 + nI 7) x hxl hxu y q (nI j) (nI 7) A Bv (ms_ml (ms_gw ((y - 1).toInt64) (nI j)) 7 0 1)
  have f1 : m - 700 + 700 = m := by omega
  rw [f1, e2] at po
  exact ⟨m - 700 + 688, by omega, (pre.trans hi).trans po⟩
set_option maxRecDepth 100000 in
theorem pl_ma7_1 (k : Nat) : ∀ (j n : Nat) (b1 b2 b3 b4 b5 : Int32) (x : Int32) (hxl : 1 ≤ x.toInt) (hxu : x.toInt ≤ 24) (y q : Int32) (A Bv wv : Int64) (kv : Int32), j + k = 128 → 197 * k + 2100 ≤ n → ∃ (m : Nat) (w2 : Int64) (k2 : Int32) (c1 c2 c3 c4 c5 : Int32), 2100 ≤ m ∧ mm_x none n 184 96 [some (.ref 138), some (.int x), some (.int 7), some (.int y), some (.int q), some (.long A), none, some (.long Bv), none, some (.int (nI j)), some (.long wv), none, some (.int kv)] [] (mm_MC 0 0 24 1 5 (0 + (nI 7)) 0 0 0 0 0 0 0 0 b1 b2 b3 b4 b5 0 0 0 0 0 0 ([0, 0, 0, 0, 0, 0, 0, 0, 0, 0, 0, 0, 0, 0, 0, 0, 0, 0, 0, 0, 0, 0, 0, 0, 0]) ([0, 0, 0, 0, 0, 0, 0, 0, 0, 0, 0, 0, 0, 0, 0, 0, 0, 0, 0, 0, 0, 0, 0, 0, 0])) 0 0 = mm_x none m 184 96 [some (.ref 138), some (.int x), some (.int 7), some (.int y), some (.int q), some (.long (ms_ml (ms_g0) k j A)), none, some (.long Bv), none, some (.int (nI 128)), some (.long w2), none, some (.int k2)] [] (mm_MC 0 0 24 1 5 (0 + (nI 7)) 0 0 0 0 0 0 0 0 c1 c2 c3 c4 c5 0 0 0 0 0 0 ([0, 0, 0, 0, 0, 0, 0, 0, 0, 0, 0, 0, 0, 0, 0, 0, 0, 0, 0, 0, 0, 0, 0, 0, 0]) ([0, 0, 0, 0, 0, 0, 0, 0, 0, 0, 0, 0, 0, 0, 0, 0, 0, 0, 0, 0, 0, 0, 0, 0, 0])) 0 0 := by
  induction k with
  | zero =>
    intro j n b1 b2 b3 b4 b5 x hxl hxu y q A Bv wv kv hj hn
    have e : j = 128 := by omega
    subst e
    exact ⟨n, wv, kv, b1, b2, b3, b4, b5, by omega, rfl⟩
  | succ k IH =>
    intro j n b1 b2 b3 b4 b5 x hxl hxu y q A Bv wv kv hj hn
    obtain ⟨m, hm, h⟩ := pl_mo7_1_1 j n b1 b2 b3 b4 b5 x hxl hxu y q A Bv wv kv (by omega) (by omega)
    obtain ⟨m2, w2, k2, c1, c2, c3, c4, c5, hm2, h2⟩ := IH (j + 1) m (0 + nI 7) 0 24 1 5 x hxl hxu y q (ms_g0 j A) Bv (ms_ml (ms_gw ((y - 1).toInt64) (nI j)) 7 0 1) (nI 7) (by omega) (by omega)
    exact ⟨m2, w2, k2, c1, c2, c3, c4, c5, hm2, h.trans h2⟩
set_option maxRecDepth 100000 in
theorem pl_mt7_1 (n : Nat) (b1 b2 b3 b4 b5 : Int32) (x : Int32) (hxl : 1 ≤ x.toInt) (hxu : x.toInt ≤ 24) (y q : Int32) (Bv : Int64) (hn : 27316 ≤ n) : ∃ (m : Nat) (w2 : Int64) (k2 : Int32) (c1 c2 c3 c4 c5 : Int32), 2100 ≤ m ∧ mm_x none n 184 96 [some (.ref 138), some (.int x), some (.int 7), some (.int y), some (.int q), some (.long 0), none, some (.long Bv), none, some (.int 0), none, none, none] [] (mm_MC 0 0 24 1 5 (0 + (nI 7)) 0 0 0 0 0 0 0 0 b1 b2 b3 b4 b5 0 0 0 0 0 0 ([0, 0, 0, 0, 0, 0, 0, 0, 0, 0, 0, 0, 0, 0, 0, 0, 0, 0, 0, 0, 0, 0, 0, 0, 0]) ([0, 0, 0, 0, 0, 0, 0, 0, 0, 0, 0, 0, 0, 0, 0, 0, 0, 0, 0, 0, 0, 0, 0, 0, 0])) 0 0 = mm_x none m 184 96 [some (.ref 138), some (.int x), some (.int 7), some (.int y), some (.int q), some (.long (ms_ml (ms_g0) 128 0 0)), none, some (.long Bv), none, some (.int (nI 128)), some (.long w2), none, some (.int k2)] [] (mm_MC 0 0 24 1 5 (0 + (nI 7)) 0 0 0 0 0 0 0 0 c1 c2 c3 c4 c5 0 0 0 0 0 0 ([0, 0, 0, 0, 0, 0, 0, 0, 0, 0, 0, 0, 0, 0, 0, 0, 0, 0, 0, 0, 0, 0, 0, 0, 0]) ([0, 0, 0, 0, 0, 0, 0, 0, 0, 0, 0, 0, 0, 0, 0, 0, 0, 0, 0, 0, 0, 0, 0, 0, 0])) 0 0 := by
  obtain ⟨m, hm, h⟩ := pl_mo7_1_0 0 n b1 b2 b3 b4 b5 x hxl hxu y q 0 Bv (by omega) (by omega)
  obtain ⟨m2, w2, k2, c1, c2, c3, c4, c5, hm2, h2⟩ := pl_ma7_1 127 1 m (0 + nI 7) 0 24 1 5 x hxl hxu y q (ms_g0 0 0) Bv (ms_ml (ms_gw ((y - 1).toInt64) (nI 0)) 7 0 1) (nI 7) (by omega) (by omega)
  exact ⟨m2, w2, k2, c1, c2, c3, c4, c5, hm2, h.trans h2⟩
