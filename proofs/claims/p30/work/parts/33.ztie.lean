/-! ===== a call, tied ===== -/
theorem oI_of {K : kK} {m kk : kG} {im : Nat} {le : List Nat} {ln : Nat} {ys : List Int32} {vt : Int32} {nu : List Nat} {nn : Nat} {rf : List Nat} {vw vq : Int32} {yc yh yg xm xi xw : List Int32} {vp : Int32} {xn xc : List Int32} {vs : Int32} {nn2 : Nat} (V : Int32) (hA : iA K) (hB : iB le ln) (hC2 : iC nu nn2) (hD : iD rf) (hK : iK im kk xi) {zc zm : Nat} {lc lm : mm_L}
    (h1 : mm_E zc 0 lc [] (mk_M (cT im le ln ys vt nu nn rf vw vq yc yh yg) (kr K) m kk (rT K xm xi xw im le nu rf ln nn vp xn xc vs)) (pC (fun r => r = some (.int V)) K im le ln ys vt nu nn2 rf kk (rT K xm xi xw im le nu rf ln nn vp xn xc vs)))
    (h2 : ∀ (c : cC) (n m kk : kG), mm_E zm 0 lm [] (mk_M c n m kk (rT K xm xi xw im le nu rf ln nn vp xn xc vs)) (pM (fun r => r = some (.int V)) K xi im le nu rf ln nn2 c n m kk)) : oI zc zm lc lm (mk_M (cT im le ln ys vt nu nn rf vw vq yc yh yg) (kr K) m kk (rT K xm xi xw im le nu rf ln nn vp xn xc vs)) := by
  obtain ⟨_, _, r1, rfl, vw2, vq2, yc2, yh2, yg2, m2, rfl, hJ2⟩ := h1
  obtain ⟨_, _, r2, rfl, xm2, xw2, vp2, xn2, xc2, vs2, rfl, hR2⟩ := h2 (cT im le ln ys vt nu nn2 rf vw2 vq2 yc2 yh2 yg2) (kr K) m2 kk
  exact ⟨V, _, _, r1, r2, K, m2, kk, im, le, ln, ys, vt, nu, nn2, rf, vw2, vq2, yc2, yh2, yg2, xm2, xi, xw2, vp2, xn2, xc2, vs2, rfl, hA, hB, hC2, hD, hJ2, hR2, hK⟩
theorem oL_of {K : kK} {m kk : kG} {im : Nat} {le : List Nat} {ln : Nat} {ys : List Int32} {vt : Int32} {nu : List Nat} {nn : Nat} {rf : List Nat} {vw vq : Int32} {yc yh yg xm xi xw : List Int32} {vp : Int32} {xn xc : List Int32} {vs : Int32} (V : Int64) (hA : iA K) (hB : iB le ln) (hC2 : iC nu nn) (hD : iD rf) (hK : iK im kk xi) {zc zm : Nat} {lc lm : mm_L}
    (h1 : mm_E zc 0 lc [] (mk_M (cT im le ln ys vt nu nn rf vw vq yc yh yg) (kr K) m kk (rT K xm xi xw im le nu rf ln nn vp xn xc vs)) (pC (fun r => r = some (.long V)) K im le ln ys vt nu nn rf kk (rT K xm xi xw im le nu rf ln nn vp xn xc vs)))
    (h2 : ∀ (c : cC) (n m kk : kG), mm_E zm 0 lm [] (mk_M c n m kk (rT K xm xi xw im le nu rf ln nn vp xn xc vs)) (pM (fun r => r = some (.long V)) K xi im le nu rf ln nn c n m kk)) : oL zc zm lc lm (mk_M (cT im le ln ys vt nu nn rf vw vq yc yh yg) (kr K) m kk (rT K xm xi xw im le nu rf ln nn vp xn xc vs)) := by
  obtain ⟨_, _, r1, rfl, vw2, vq2, yc2, yh2, yg2, m2, rfl, hJ2⟩ := h1
  obtain ⟨_, _, r2, rfl, xm2, xw2, vp2, xn2, xc2, vs2, rfl, hR2⟩ := h2 (cT im le ln ys vt nu nn rf vw2 vq2 yc2 yh2 yg2) (kr K) m2 kk
  exact ⟨V, _, _, r1, r2, K, m2, kk, im, le, ln, ys, vt, nu, nn, rf, vw2, vq2, yc2, yh2, yg2, xm2, xi, xw2, vp2, xn2, xc2, vs2, rfl, hA, hB, hC2, hD, hJ2, hR2, hK⟩
def nL (n : Nat) : Int64 := Int64.ofNat n
theorem nL_toInt {n : Nat} (h : n < 2 ^ 63) : (nL n).toInt = (n : Int) := Int64.toInt_ofNat_of_lt h
theorem nL_i2l {a : Nat} (h : a < 2 ^ 31) : (nI a).toInt64 = nL a := by
  apply Int64.toInt_inj.mp
  rw [Int32.toInt_toInt64, nI_toInt h, nL_toInt (by omega)]
theorem nL_add {a b : Nat} (h : a + b < 2 ^ 62) : nL a + nL b = nL (a + b) := by
  apply Int64.toInt_inj.mp
  rw [Int64.toInt_add, nL_toInt (by omega), nL_toInt (by omega), nL_toInt (by omega), Int.bmod_eq_of_le (by omega) (by omega)]
  omega
theorem nL_mul {a b : Nat} (ha : a < 2 ^ 62) (hb : b < 2 ^ 62) (h : a * b < 2 ^ 62) : nL a * nL b = nL (a * b) := by
  apply Int64.toInt_inj.mp
  have e : ((a * b : Nat) : Int) = (a : Int) * (b : Int) := Int.natCast_mul a b
  rw [Int64.toInt_mul, nL_toInt (by omega), nL_toInt (by omega), nL_toInt (by omega), ← e, Int.bmod_eq_of_le (by omega) (by omega)]
theorem nL_z {a : Nat} (h : a < 2 ^ 62) : nL a = 0 ↔ a = 0 := by
  constructor
  · intro q
    have h1 := nL_toInt (n := a) (by omega)
    rw [q] at h1
    have h2 : (0 : Int64).toInt = 0 := by decide
    omega
  · intro q
    subst q
    rfl
theorem nL_rem {x y : Nat} (hx : x < 2 ^ 62) (hy : y < 2 ^ 62) (h0 : 0 < y) : nL x - nL x / nL y * nL y = nL (x % y) := by
  apply Int64.toInt_inj.mp
  have e : (nL x - nL x / nL y * nL y).toInt = ((nL x).toInt.tmod (nL y).toInt).bmod (2 ^ 64) := by
    rw [Int64.toInt_sub, Int64.toInt_mul, Int64.toInt_div, Int.bmod_mul_bmod, Int.sub_bmod_bmod, Int.tmod_def, Int.mul_comm]
  have h1 : x % y < y := Nat.mod_lt _ h0
  rw [e, nL_toInt (by omega), nL_toInt (by omega), nL_toInt (by omega), ← Int.ofNat_tmod, Int.bmod_eq_of_le (by omega) (by omega)]
theorem nL_div {x y : Nat} (hx : x < 2 ^ 62) (hy : y < 2 ^ 62) : nL x / nL y = nL (x / y) := by
  apply Int64.toInt_inj.mp
  have h1 : x / y ≤ x := Nat.div_le_self _ _
  rw [Int64.toInt_div, nL_toInt (show x < 2 ^ 63 by omega), nL_toInt (show y < 2 ^ 63 by omega), ← Int.ofNat_tdiv]
  generalize x / y = d at h1 ⊢
  rw [nL_toInt (by omega), Int.bmod_eq_of_le (by omega) (by omega)]
theorem nL_cmp {a : Nat} (h : a < 2 ^ 62) : lg_cmp (nL a) 0 = 0 ↔ a = 0 := k_cmp0.trans (nL_z h)
section KL16
variable {z pc : Nat} {ls : mm_L} {r : List Value} {M : mm_H} {o : Option Value × mm_H}
theorem mr_lrem {x y : Int64} {ex : List (Nat × Nat)} (hc : mm_code z pc = some (.lrem, ex)) (hy : ¬ y = 0) (h : mm_R z (pc + 1) ls (.long (x - x / y * y) :: r) M o) : mm_R z pc ls (.long y :: .long x :: r) M o := by
  obtain ⟨n, hn⟩ := h
  refine ⟨n + 1, ?_⟩
  rw [mm_xs]
  unfold mm_b
  rw [hc]
  show (if y = 0 then none else mm_x none n z (pc + 1) ls (.long (x - x / y * y) :: r) M 0 0) = some o
  rw [if_neg hy]
  exact hn
theorem mr_ldiv {x y : Int64} {ex : List (Nat × Nat)} (hc : mm_code z pc = some (.ldiv, ex)) (hy : ¬ y = 0) (h : mm_R z (pc + 1) ls (.long (x / y) :: r) M o) : mm_R z pc ls (.long y :: .long x :: r) M o := by
  obtain ⟨n, hn⟩ := h
  refine ⟨n + 1, ?_⟩
  rw [mm_xs]
  unfold mm_b
  rw [hc]
  show (if y = 0 then none else mm_x none n z (pc + 1) ls (.long (x / y) :: r) M 0 0) = some o
  rw [if_neg hy]
  exact hn
end KL16
def kgc : Nat → Nat → Nat → Nat
  | 0, x, _ => x
  | r + 1, x, y => if y = 0 then x else kgc r y (x % y)
theorem kg_rec {u v : Nat} : Nat.gcd u v = Nat.gcd v (u % v) := by
  rw [Nat.gcd_comm u v, Nat.gcd_rec v u, Nat.gcd_comm]
theorem kgc_0 (r x : Nat) : kgc r x 0 = x := by
  cases r with
  | zero => rfl
  | succ r => exact if_pos rfl
theorem kgc_s {r x y : Nat} (h : ¬ y = 0) : kgc (r + 1) x y = kgc r y (x % y) := if_neg h
theorem kgc_gcd : ∀ (k r x y : Nat), y < 2 ^ k → 2 * k ≤ r → kgc r x y = Nat.gcd x y
  | 0, r, x, y, h, _ => by
    have e : y = 0 := by
      have : y < 1 := h
      omega
    subst e
    rw [kgc_0, Nat.gcd_zero_right]
  | k + 1, r, x, y, h, hr => by
    by_cases hy : y = 0
    · subst hy
      rw [kgc_0, Nat.gcd_zero_right]
    · obtain ⟨q, rfl⟩ : ∃ q, r = q + 2 := ⟨r - 2, by omega⟩
      have h1 : x % y < y := Nat.mod_lt _ (by omega)
      rw [kgc_s hy, kg_rec (u := x)]
      by_cases hz : x % y = 0
      · rw [hz, kgc_0, Nat.gcd_zero_right]
      · have h2 : y % (x % y) < x % y := Nat.mod_lt _ (by omega)
        have h3 : y % (x % y) + x % y ≤ y := by
          have e1 := Nat.div_add_mod y (x % y)
          have e2 : 1 ≤ y / (x % y) := (Nat.le_div_iff_mul_le (by omega)).mpr (by omega)
          have e3 : x % y * 1 ≤ x % y * (y / (x % y)) := Nat.mul_le_mul_left _ e2
          omega
        rw [kgc_s hz, kg_rec (u := y)]
        refine kgc_gcd k q _ _ ?_ (by omega)
        rw [Nat.pow_succ] at h
        omega
def kfr (a b x : Nat) : Nat := (if x = 0 then a else b) / Nat.gcd a b
theorem kfr_0 {b x : Nat} (hb : 0 < b) (hx : x < 2) : kfr 0 b x = x := by
  unfold kfr
  rw [Nat.gcd_zero_left]
  by_cases h : x = 0
  · rw [if_pos h, Nat.zero_div, h]
  · rw [if_neg h, Nat.div_self hb]
    omega
theorem kgp {a b : Nat} (hb : 0 < b) : 0 < Nat.gcd a b := Nat.gcd_pos_of_pos_right a hb
theorem kgle {a b : Nat} (hb : 0 < b) : Nat.gcd a b ≤ b := Nat.gcd_le_right a hb
set_option maxRecDepth 100000 in
theorem cf_gd0 (a b : Nat) (M : mm_H) (k : Nat) : ∀ (j u v : Nat) (l1 l2 : Option Value), j + k = 200 → u < 2 ^ 62 → v < 2 ^ 62 → mm_R 113 9 [some (.long (nL a)), none, some (.long (nL b)), none, some (.long (nL u)), none, some (.long (nL v)), none, some (.int (nI j)), l1, l2] [] M (some (.long (nL (kgc k u v))), M) := by
  induction k with
  | zero =>
    intro j u v l1 l2 hj hu hv
    refine mr_seg 2 (pc1 := 14) (ls1 := [some (.long (nL a)), none, some (.long (nL b)), none, some (.long (nL u)), none, some (.long (nL v)), none, some (.int (nI j)), l1, l2]) (st1 := [.int 200, .int (nI j)]) (M1 := M) (fun f => rfl) ?_
    refine mr_t (C := 200 ≤ (nI j)) (nI_let (a := 200) (b := j) (by omega)) (fun f => rfl) ?_
    refine mr_eq (mr_ret 2 (o := (some (.long (nL u)), M)) (fun f => rfl)) ?_
    rfl
  | succ k IH =>
    intro j u v l1 l2 hj hu hv
    refine mr_seg 2 (pc1 := 14) (ls1 := [some (.long (nL a)), none, some (.long (nL b)), none, some (.long (nL u)), none, some (.long (nL v)), none, some (.int (nI j)), l1, l2]) (st1 := [.int 200, .int (nI j)]) (M1 := M) (fun f => rfl) ?_
    refine mr_f (C := 200 ≤ (nI j)) (nI_lef (a := 200) (b := j) (by omega)) (fun f => rfl) ?_
    refine mr_seg 3 (pc1 := 21) (ls1 := [some (.long (nL a)), none, some (.long (nL b)), none, some (.long (nL u)), none, some (.long (nL v)), none, some (.int (nI j)), l1, l2]) (st1 := [.int (lg_cmp (nL v) 0)]) (M1 := M) (fun f => rfl) ?_
    refine mr_ifN (C := (lg_cmp (nL v) 0) = 0) (nL_cmp (a := v) (by omega)) (fun f => rfl) (fun h1 => ?_) (fun h1 => ?_)
    · refine mr_eq (mr_ret 2 (o := (some (.long (nL u)), M)) (fun f => rfl)) ?_
      rw [h1, kgc_0]
    · refine mr_seg 2 (pc1 := 28) (ls1 := [some (.long (nL a)), none, some (.long (nL b)), none, some (.long (nL u)), none, some (.long (nL v)), none, some (.int (nI j)), l1, l2]) (st1 := [.long (nL v), .long (nL u)]) (M1 := M) (fun f => rfl) ?_
      refine mr_lrem (x := (nL u)) (y := (nL v)) rfl (fun q_ => absurd ((nL_z (a := v) (by omega)).mp q_) (by omega)) ?_
      refine mr_lv (nL_rem (x := u) (y := v) (by omega) (by omega) (by omega)) ?_
      refine mr_seg 6 (pc1 := 42) (ls1 := [some (.long (nL a)), none, some (.long (nL b)), none, some (.long (nL v)), none, some (.long (nL (u % v))), none, some (.int ((nI j) + 1)), some (.long (nL (u % v))), none]) (st1 := []) (M1 := M) (fun f => rfl) ?_
      refine mr_l (fun q_ => [some (.long (nL a)), none, some (.long (nL b)), none, some (.long (nL v)), none, some (.long (nL (u % v))), none, some (.int q_), some (.long (nL (u % v))), none]) (nI_add j 1) ?_
      refine mr_seg 1 (pc1 := 9) (ls1 := [some (.long (nL a)), none, some (.long (nL b)), none, some (.long (nL v)), none, some (.long (nL (u % v))), none, some (.int (nI (j + 1))), some (.long (nL (u % v))), none]) (st1 := []) (M1 := M) (fun f => rfl) ?_
      have hm := Nat.mod_lt u (show 0 < v by omega)
      rw [kgc_s h1]
      exact IH (j + 1) v (u % v) (some (.long (nL (u % v)))) (none) (by omega) (by omega) (by omega)
theorem cf_gd (a b : Nat) (ha : a < 2 ^ 62) (hb : b < 2 ^ 62) (M : mm_H) : mm_R 113 0 [some (.long (nL a)), none, some (.long (nL b)), none, none, none, none, none, none, none, none] [] M (some (.long (nL (Nat.gcd a b))), M) := by
  refine mr_seg 6 (pc1 := 9) (ls1 := [some (.long (nL a)), none, some (.long (nL b)), none, some (.long (nL a)), none, some (.long (nL b)), none, some (.int 0), none, none]) (st1 := []) (M1 := M) (fun f => rfl) ?_
  refine mr_eq (cf_gd0 a b M 200 0 a b none none (by omega) ha hb) ?_
  rw [kgc_gcd 62 200 a b hb (by decide)]
set_option maxRecDepth 100000 in
theorem cf_pf (a b x : Nat) (ha : a < 2 ^ 62) (hb : b < 2 ^ 62) (hb0 : 0 < b) (hx : x < 2) (M : mm_H) : mm_R 112 0 [some (.long (nL a)), none, some (.long (nL b)), none, some (.int (nI x)), none, none] [] M (some (.long (nL (kfr a b x))), M) := by
  have g1 := kgp (a := a) hb0
  have g2 := kgle (a := a) hb0
  refine mr_seg 2 (pc1 := 2) (ls1 := [some (.long (nL a)), none, some (.long (nL b)), none, some (.int (nI x)), none, none]) (st1 := [.long (nL b), .long (nL a)]) (M1 := M) (fun f => rfl) ?_
  refine mr_call (y := 113) (y0 := 5) (L := [some (.long (nL a)), none, some (.long (nL b)), none, none, none, none, none, none, none, none]) (rest := []) (rr := some (.long (nL (Nat.gcd a b)))) (M1 := M) (fun f => rfl) (cf_gd a b ha hb _) ?_
  refine mr_seg 4 (pc1 := 11) (ls1 := [some (.long (nL a)), none, some (.long (nL b)), none, some (.int (nI x)), some (.long (nL (Nat.gcd a b))), none]) (st1 := [.int (lg_cmp (nL (Nat.gcd a b)) 0)]) (M1 := M) (fun f => rfl) ?_
  refine mr_f (C := (lg_cmp (nL (Nat.gcd a b)) 0) = 0) (fun q_ => absurd ((nL_cmp (a := Nat.gcd a b) (by omega)).mp q_) (by omega)) (fun f => rfl) ?_
  refine mr_seg 1 (pc1 := 18) (ls1 := [some (.long (nL a)), none, some (.long (nL b)), none, some (.int (nI x)), some (.long (nL (Nat.gcd a b))), none]) (st1 := [.int (nI x)]) (M1 := M) (fun f => rfl) ?_
  refine mr_ifN (C := (nI x) = 0) (nI_eqi (a := x) (b := 0) (by omega)) (fun f => rfl) (fun h2 => ?_) (fun h2 => ?_)
  · refine mr_seg 3 (pc1 := 28) (ls1 := [some (.long (nL a)), none, some (.long (nL b)), none, some (.int (nI x)), some (.long (nL (Nat.gcd a b))), none]) (st1 := [.long (nL (Nat.gcd a b)), .long (nL a)]) (M1 := M) (fun f => rfl) ?_
    refine mr_ldiv (x := (nL a)) (y := (nL (Nat.gcd a b))) rfl (fun q_ => absurd ((nL_z (a := Nat.gcd a b) (by omega)).mp q_) (by omega)) ?_
    refine mr_lv (nL_div (x := a) (y := Nat.gcd a b) (by omega) (by omega)) ?_
    refine mr_eq (mr_ret 1 (o := (some (.long (nL (a / (Nat.gcd a b)))), M)) (fun f => rfl)) ?_
    rw [show kfr a b x = a / (Nat.gcd a b) from by unfold kfr; rw [if_pos h2]]
  · refine mr_seg 2 (pc1 := 28) (ls1 := [some (.long (nL a)), none, some (.long (nL b)), none, some (.int (nI x)), some (.long (nL (Nat.gcd a b))), none]) (st1 := [.long (nL (Nat.gcd a b)), .long (nL b)]) (M1 := M) (fun f => rfl) ?_
    refine mr_ldiv (x := (nL b)) (y := (nL (Nat.gcd a b))) rfl (fun q_ => absurd ((nL_z (a := Nat.gcd a b) (by omega)).mp q_) (by omega)) ?_
    refine mr_lv (nL_div (x := b) (y := Nat.gcd a b) (by omega) (by omega)) ?_
    refine mr_eq (mr_ret 1 (o := (some (.long (nL (b / (Nat.gcd a b)))), M)) (fun f => rfl)) ?_
    rw [show kfr a b x = b / (Nat.gcd a b) from by unfold kfr; rw [if_neg h2]]
set_option maxRecDepth 100000 in
theorem mf_gcd0 (a b : Nat) (M : mm_H) (k : Nat) : ∀ (u v : Nat) (l1 : Option Value), v ≤ k → u < 2 ^ 62 → v < 2 ^ 62 → mm_R 200 6 [some (.long (nL a)), none, some (.long (nL b)), none, some (.long (nL u)), none, some (.long (nL v)), none, l1, none] [] M (some (.long (nL (Nat.gcd u v))), M) := by
  induction k with
  | zero =>
    intro u v l1 hk hu hv
    refine mr_seg 3 (pc1 := 10) (ls1 := [some (.long (nL a)), none, some (.long (nL b)), none, some (.long (nL u)), none, some (.long (nL v)), none, l1, none]) (st1 := [.int (lg_cmp (nL v) 0)]) (M1 := M) (fun f => rfl) ?_
    refine mr_t (C := (lg_cmp (nL v) 0) = 0) ((nL_cmp (a := v) (by omega)).mpr (by omega)) (fun f => rfl) ?_
    refine mr_eq (mr_ret 2 (o := (some (.long (nL u)), M)) (fun f => rfl)) ?_
    rw [show v = 0 by omega, Nat.gcd_zero_right]
  | succ k IH =>
    intro u v l1 hk hu hv
    refine mr_seg 3 (pc1 := 10) (ls1 := [some (.long (nL a)), none, some (.long (nL b)), none, some (.long (nL u)), none, some (.long (nL v)), none, l1, none]) (st1 := [.int (lg_cmp (nL v) 0)]) (M1 := M) (fun f => rfl) ?_
    refine mr_ifN (C := (lg_cmp (nL v) 0) = 0) (nL_cmp (a := v) (by omega)) (fun f => rfl) (fun h1 => ?_) (fun h1 => ?_)
    · refine mr_eq (mr_ret 2 (o := (some (.long (nL u)), M)) (fun f => rfl)) ?_
      rw [h1, Nat.gcd_zero_right]
    · refine mr_seg 2 (pc1 := 17) (ls1 := [some (.long (nL a)), none, some (.long (nL b)), none, some (.long (nL u)), none, some (.long (nL v)), none, l1, none]) (st1 := [.long (nL v), .long (nL u)]) (M1 := M) (fun f => rfl) ?_
      refine mr_lrem (x := (nL u)) (y := (nL v)) rfl (fun q_ => absurd ((nL_z (a := v) (by omega)).mp q_) (by omega)) ?_
      refine mr_lv (nL_rem (x := u) (y := v) (by omega) (by omega) (by omega)) ?_
      refine mr_seg 6 (pc1 := 6) (ls1 := [some (.long (nL a)), none, some (.long (nL b)), none, some (.long (nL v)), none, some (.long (nL (u % v))), none, some (.long (nL (u % v))), none]) (st1 := []) (M1 := M) (fun f => rfl) ?_
      have hm := Nat.mod_lt u (show 0 < v by omega)
      rw [kg_rec (u := u)]
      exact IH v (u % v) (some (.long (nL (u % v)))) (by omega) (by omega) (by omega)
theorem mf_gcd (a b : Nat) (ha : a < 2 ^ 62) (hb : b < 2 ^ 62) (M : mm_H) : mm_R 200 0 [some (.long (nL a)), none, some (.long (nL b)), none, none, none, none, none, none, none] [] M (some (.long (nL (Nat.gcd a b))), M) := by
  refine mr_seg 4 (pc1 := 6) (ls1 := [some (.long (nL a)), none, some (.long (nL b)), none, some (.long (nL a)), none, some (.long (nL b)), none, none, none]) (st1 := []) (M1 := M) (fun f => rfl) ?_
  exact mf_gcd0 a b M b a b none (Nat.le_refl b) ha hb
set_option maxRecDepth 100000 in
theorem mf_po (a b x : Nat) (ha : a < 2 ^ 62) (hb : b < 2 ^ 62) (hb0 : 0 < b) (hx : x < 2) (M : mm_H) : mm_R 199 0 [some (.long (nL a)), none, some (.long (nL b)), none, some (.int (nI x))] [] M (some (.long (nL (kfr a b x))), M) := by
  have g1 := kgp (a := a) hb0
  have g2 := kgle (a := a) hb0
  refine mr_seg 3 (pc1 := 3) (ls1 := [some (.long (nL a)), none, some (.long (nL b)), none, some (.int (nI x))]) (st1 := [.int (lg_cmp (nL a) 0)]) (M1 := M) (fun f => rfl) ?_
  refine mr_ifN (C := (lg_cmp (nL a) 0) = 0) (nL_cmp (a := a) (by omega)) (fun f => rfl) (fun h1 => ?_) (fun h1 => ?_)
  · refine mr_seg 2 (pc1 := 9) (ls1 := [some (.long (nL a)), none, some (.long (nL b)), none, some (.int (nI x))]) (st1 := [.long ((nI x).toInt64)]) (M1 := M) (fun f => rfl) ?_
    refine mr_lv (nL_i2l (a := x) (by omega)) ?_
    refine mr_eq (mr_ret 1 (o := (some (.long (nL x)), M)) (fun f => rfl)) ?_
    rw [h1, kfr_0 hb0 hx]
  · refine mr_seg 1 (pc1 := 12) (ls1 := [some (.long (nL a)), none, some (.long (nL b)), none, some (.int (nI x))]) (st1 := [.int (nI x)]) (M1 := M) (fun f => rfl) ?_
    refine mr_ifN (C := (nI x) = 0) (nI_eqi (a := x) (b := 0) (by omega)) (fun f => rfl) (fun h2 => ?_) (fun h2 => ?_)
    · refine mr_seg 4 (pc1 := 22) (ls1 := [some (.long (nL a)), none, some (.long (nL b)), none, some (.int (nI x))]) (st1 := [.long (nL b), .long (nL a), .long (nL a)]) (M1 := M) (fun f => rfl) ?_
      refine mr_call (y := 200) (y0 := 25) (L := [some (.long (nL a)), none, some (.long (nL b)), none, none, none, none, none, none, none]) (rest := [.long (nL a)]) (rr := some (.long (nL (Nat.gcd a b)))) (M1 := M) (fun f => rfl) (mf_gcd a b ha hb _) ?_
      refine mr_ldiv (x := (nL a)) (y := (nL (Nat.gcd a b))) rfl (fun q_ => absurd ((nL_z (a := Nat.gcd a b) (by omega)).mp q_) (by omega)) ?_
      refine mr_lv (nL_div (x := a) (y := Nat.gcd a b) (by omega) (by omega)) ?_
      refine mr_eq (mr_ret 1 (o := (some (.long (nL (a / (Nat.gcd a b)))), M)) (fun f => rfl)) ?_
      rw [show kfr a b x = a / (Nat.gcd a b) from by unfold kfr; rw [if_pos h2]]
    · refine mr_seg 3 (pc1 := 22) (ls1 := [some (.long (nL a)), none, some (.long (nL b)), none, some (.int (nI x))]) (st1 := [.long (nL b), .long (nL a), .long (nL b)]) (M1 := M) (fun f => rfl) ?_
      refine mr_call (y := 200) (y0 := 25) (L := [some (.long (nL a)), none, some (.long (nL b)), none, none, none, none, none, none, none]) (rest := [.long (nL b)]) (rr := some (.long (nL (Nat.gcd a b)))) (M1 := M) (fun f => rfl) (mf_gcd a b ha hb _) ?_
      refine mr_ldiv (x := (nL b)) (y := (nL (Nat.gcd a b))) rfl (fun q_ => absurd ((nL_z (a := Nat.gcd a b) (by omega)).mp q_) (by omega)) ?_
      refine mr_lv (nL_div (x := b) (y := Nat.gcd a b) (by omega) (by omega)) ?_
      refine mr_eq (mr_ret 1 (o := (some (.long (nL (b / (Nat.gcd a b)))), M)) (fun f => rfl)) ?_
      rw [show kfr a b x = b / (Nat.gcd a b) from by unfold kfr; rw [if_neg h2]]
def kbt (e i : Nat) : Nat := e / 2 ^ i % 2
theorem kbt_lt (e i : Nat) : kbt e i < 2 := Nat.mod_lt _ (by decide)
theorem k_bit {e c : Nat} (he : e < 2 ^ 31) (hc : c < 32) : (nI e >>> (nI c &&& 31)) &&& 1 = nI (kbt e c) := by
  rw [pk_shrN he _ c (s_l c hc), pk_andN (by have := Nat.div_le_self e (2 ^ c); omega) 1 (by decide)]
  rfl
def kpk : Nat → Nat → Nat → kK → kK
  | 0, _, _, Q => Q
  | r + 1, i, e, Q => kpk r (i + 1) e (kstep Q (if kbt e i = 1 then 5 else 0))
theorem kpk_1 {r i e : Nat} {Q : kK} (h : kbt e i = 1) : kpk (r + 1) i e Q = kpk r (i + 1) e (kstep Q 5) := by
  show kpk r (i + 1) e (kstep Q (if kbt e i = 1 then 5 else 0)) = _
  rw [if_pos h]
theorem kpk_0 {r i e : Nat} {Q : kK} (h : ¬ kbt e i = 1) : kpk (r + 1) i e Q = kpk r (i + 1) e (kstep Q 0) := by
  show kpk r (i + 1) e (kstep Q (if kbt e i = 1 then 5 else 0)) = _
  rw [if_neg h]
theorem kV_pk : ∀ (r i e : Nat) {Q : kK}, kV Q → kV (kpk r i e Q)
  | 0, _, _, _, h => h
  | r + 1, i, e, _, h => kV_pk r (i + 1) e (kV_step h _)
def kpc (e : Nat) : Nat → Nat
  | 0 => 0
  | n + 1 => kpc e n + kbt e n
theorem kpc_le (e : Nat) : ∀ n, kpc e n ≤ n
  | 0 => Nat.le_refl 0
  | n + 1 => by
    have h1 := kpc_le e n
    have h2 := kbt_lt e n
    show kpc e n + kbt e n ≤ n + 1
    omega
def kpd (b e : Nat) : Nat → Nat
  | 0 => 1
  | n + 1 => kpd b e n * (if kbt e n = 1 then 1 else b)
theorem kpd_1 {b e n : Nat} (h : kbt e n = 1) : kpd b e (n + 1) = kpd b e n * 1 := by
  show kpd b e n * (if kbt e n = 1 then 1 else b) = _
  rw [if_pos h]
theorem kpd_0 {b e n : Nat} (h : ¬ kbt e n = 1) : kpd b e (n + 1) = kpd b e n * b := by
  show kpd b e n * (if kbt e n = 1 then 1 else b) = _
  rw [if_neg h]
theorem kpd_eq (b e : Nat) : ∀ n, kpd b e n = b ^ (n - kpc e n)
  | 0 => rfl
  | n + 1 => by
    have h1 := kpc_le e n
    have h2 := kbt_lt e n
    by_cases h : kbt e n = 1
    · rw [kpd_1 h, kpd_eq b e n, Nat.mul_one]
      show _ = b ^ (n + 1 - (kpc e n + kbt e n))
      rw [h, show n + 1 - (kpc e n + 1) = n - kpc e n by omega]
    · rw [kpd_0 h, kpd_eq b e n]
      show _ = b ^ (n + 1 - (kpc e n + kbt e n))
      rw [show n + 1 - (kpc e n + kbt e n) = (n - kpc e n) + 1 by omega, Nat.pow_succ]
theorem kpw_le {b m : Nat} (hb : b ≤ 20) (hm : m ≤ 7) : b ^ m ≤ 1280000000 := by
  have h1 : b ^ m ≤ 20 ^ m := Nat.pow_le_pow_left hb m
  have h2 : 20 ^ m ≤ 20 ^ 7 := Nat.pow_le_pow_right (by decide) hm
  have h3 : 20 ^ 7 = 1280000000 := by decide
  omega
def kpa (K : kK) (n t p : Nat) : Nat → Nat → Nat → Nat
  | 0, _, u => u
  | r + 1, e, u => kpa K n t p r (e + 1) (u + (if k_at (kpk n 0 e K) = p then (t - 1) ^ (n - kpc e n) else 0))
theorem kpa_y {K : kK} {n t p r e u : Nat} (h : k_at (kpk n 0 e K) = p) : kpa K n t p (r + 1) e u = kpa K n t p r (e + 1) (u + (t - 1) ^ (n - kpc e n)) := by
  show kpa K n t p r (e + 1) (u + (if k_at (kpk n 0 e K) = p then (t - 1) ^ (n - kpc e n) else 0)) = _
  rw [if_pos h]
theorem kpa_n {K : kK} {n t p r e u : Nat} (h : ¬ k_at (kpk n 0 e K) = p) : kpa K n t p (r + 1) e u = kpa K n t p r (e + 1) u := by
  show kpa K n t p r (e + 1) (u + (if k_at (kpk n 0 e K) = p then (t - 1) ^ (n - kpc e n) else 0)) = _
  rw [if_neg h]
  rfl
theorem k_sh1 : ∀ n, n < 8 → (1 : Int32) <<< (nI n &&& 31) = nI (2 ^ n) := by decide +kernel
theorem k_2n : ∀ n, n < 8 → 2 ^ n ≤ 128 := by decide +kernel
theorem kpc_7t : (List.range 8).all (fun n => (List.range (2 ^ n)).all (fun e => decide (kpc e 7 = kpc e n))) = true := by decide +kernel
theorem kpc_7 {n e : Nat} (hn : n < 8) (he : e < 2 ^ n) : kpc e 7 = kpc e n := of_decide_eq_true (k_all (k_all kpc_7t hn) he)
set_option maxRecDepth 100000 in
theorem cf_pow0 (b m : Nat) (hb : b ≤ 20) (hm : m ≤ 7) (M : mm_H) (k : Nat) : ∀ (j : Nat), j + k = m → mm_R 111 5 [some (.long (nL b)), none, some (.int (nI m)), some (.long (nL (b ^ j))), none, some (.int (nI j))] [] M (some (.long (nL (b ^ m))), M) := by
  induction k with
  | zero =>
    intro j hj
    have hp := kpw_le (b := b) (m := j) hb (by omega)
    refine mr_seg 2 (pc1 := 8) (ls1 := [some (.long (nL b)), none, some (.int (nI m)), some (.long (nL (b ^ j))), none, some (.int (nI j))]) (st1 := [.int (nI m), .int (nI j)]) (M1 := M) (fun f => rfl) ?_
    refine mr_t (C := (nI m) ≤ (nI j)) (nI_let (a := m) (b := j) (by omega)) (fun f => rfl) ?_
    refine mr_eq (mr_ret 2 (o := (some (.long (nL (b ^ j))), M)) (fun f => rfl)) ?_
    rw [show j = m by omega]
  | succ k IH =>
    intro j hj
    have hp := kpw_le (b := b) (m := j) hb (by omega)
    refine mr_seg 2 (pc1 := 8) (ls1 := [some (.long (nL b)), none, some (.int (nI m)), some (.long (nL (b ^ j))), none, some (.int (nI j))]) (st1 := [.int (nI m), .int (nI j)]) (M1 := M) (fun f => rfl) ?_
    refine mr_f (C := (nI m) ≤ (nI j)) (nI_lef (a := m) (b := j) (by omega)) (fun f => rfl) ?_
    refine mr_seg 3 (pc1 := 14) (ls1 := [some (.long (nL b)), none, some (.int (nI m)), some (.long (nL (b ^ j))), none, some (.int (nI j))]) (st1 := [.long ((nL (b ^ j)) * (nL b))]) (M1 := M) (fun f => rfl) ?_
    refine mr_lv (nL_mul (a := b ^ j) (b := b) (by omega) (by omega) (Nat.lt_of_le_of_lt (Nat.mul_le_mul (hp) (hb)) (by decide))) ?_
    refine mr_seg 2 (pc1 := 18) (ls1 := [some (.long (nL b)), none, some (.int (nI m)), some (.long (nL ((b ^ j) * b))), none, some (.int ((nI j) + 1))]) (st1 := []) (M1 := M) (fun f => rfl) ?_
    refine mr_l (fun q_ => [some (.long (nL b)), none, some (.int (nI m)), some (.long (nL ((b ^ j) * b))), none, some (.int q_)]) (nI_add j 1) ?_
    refine mr_seg 1 (pc1 := 5) (ls1 := [some (.long (nL b)), none, some (.int (nI m)), some (.long (nL ((b ^ j) * b))), none, some (.int (nI (j + 1)))]) (st1 := []) (M1 := M) (fun f => rfl) ?_
    exact IH (j + 1) (by omega)
theorem cf_pow (b m : Nat) (hb : b ≤ 20) (hm : m ≤ 7) (M : mm_H) : mm_R 111 0 [some (.long (nL b)), none, some (.int (nI m)), none, none, none] [] M (some (.long (nL (b ^ m))), M) := by
  refine mr_seg 4 (pc1 := 5) (ls1 := [some (.long (nL b)), none, some (.int (nI m)), some (.long 1), none, some (.int 0)]) (st1 := []) (M1 := M) (fun f => rfl) ?_
  exact cf_pow0 b m hb hm M m 0 (by omega)
theorem kd_bc_t0 : (List.range 16).all (fun i => mr_chk 60 110 [some (.int (nI (0 + i)))] (nI (kpc (0 + i) 7))) = true := by decide +kernel
theorem kd_bc_t16 : (List.range 16).all (fun i => mr_chk 60 110 [some (.int (nI (16 + i)))] (nI (kpc (16 + i) 7))) = true := by decide +kernel
theorem kd_bc_t32 : (List.range 16).all (fun i => mr_chk 60 110 [some (.int (nI (32 + i)))] (nI (kpc (32 + i) 7))) = true := by decide +kernel
theorem kd_bc_t48 : (List.range 16).all (fun i => mr_chk 60 110 [some (.int (nI (48 + i)))] (nI (kpc (48 + i) 7))) = true := by decide +kernel
theorem kd_bc_t64 : (List.range 16).all (fun i => mr_chk 60 110 [some (.int (nI (64 + i)))] (nI (kpc (64 + i) 7))) = true := by decide +kernel
theorem kd_bc_t80 : (List.range 16).all (fun i => mr_chk 60 110 [some (.int (nI (80 + i)))] (nI (kpc (80 + i) 7))) = true := by decide +kernel
theorem kd_bc_t96 : (List.range 16).all (fun i => mr_chk 60 110 [some (.int (nI (96 + i)))] (nI (kpc (96 + i) 7))) = true := by decide +kernel
theorem kd_bc_t112 : (List.range 16).all (fun i => mr_chk 60 110 [some (.int (nI (112 + i)))] (nI (kpc (112 + i) 7))) = true := by decide +kernel
theorem kd_bc {e : Nat} (he : e < 128) (M : mm_H) : mm_R 110 0 [some (.int (nI e))] [] M (some (.int (nI (kpc e 7))), M) := by
  by_cases h0 : e < 16
  · have h := k_all kd_bc_t0 (show e - 0 < 16 by omega)
    rw [show 0 + (e - 0) = e by omega] at h
    exact mr_chk_ok h M
  by_cases h1 : e < 32
  · have h := k_all kd_bc_t16 (show e - 16 < 16 by omega)
    rw [show 16 + (e - 16) = e by omega] at h
    exact mr_chk_ok h M
  by_cases h2 : e < 48
  · have h := k_all kd_bc_t32 (show e - 32 < 16 by omega)
    rw [show 32 + (e - 32) = e by omega] at h
    exact mr_chk_ok h M
  by_cases h3 : e < 64
  · have h := k_all kd_bc_t48 (show e - 48 < 16 by omega)
    rw [show 48 + (e - 48) = e by omega] at h
    exact mr_chk_ok h M
  by_cases h4 : e < 80
  · have h := k_all kd_bc_t64 (show e - 64 < 16 by omega)
    rw [show 64 + (e - 64) = e by omega] at h
    exact mr_chk_ok h M
  by_cases h5 : e < 96
  · have h := k_all kd_bc_t80 (show e - 80 < 16 by omega)
    rw [show 80 + (e - 80) = e by omega] at h
    exact mr_chk_ok h M
  by_cases h6 : e < 112
  · have h := k_all kd_bc_t96 (show e - 96 < 16 by omega)
    rw [show 96 + (e - 96) = e by omega] at h
    exact mr_chk_ok h M
  by_cases h7 : e < 128
  · have h := k_all kd_bc_t112 (show e - 112 < 16 by omega)
    rw [show 112 + (e - 112) = e by omega] at h
    exact mr_chk_ok h M
  exact absurd he h7
set_option maxRecDepth 100000 in
theorem tc_wwL (he ke ki fi fa or : List Nat) (mi a g l w s : Nat) (im : Nat) (le : List Nat) (ln : Nat) (ys : List Int32) (vt : Int32) (nu : List Nat) (nn : Nat) (rf : List Nat) (kk : kG) (q : cR) (hA : iA (he, ke, ki, fi, fa, or, mi, a, g, l, w, s)) (hC : iC nu nn) (e n0 : Nat) (hee : e < 128) (hn : n0 ≤ 7) (A : kK) (k : Nat) : ∀ (j : Nat)  (vw vq : Int32) (yc yh yg : List Int32) (Q : kK), j + k = n0 → iJ (kr Q) ys yc yh yg → kV Q → k_st Q + k < 2 ^ 20 → A = kpk k j e Q → mm_E 109 8 [some (.ref 100), some (.int (nI e)), some (.int (nI n0)), some (.ref 124), some (.int (nI j))] [] (mk_M (cT im le ln ys vt nu nn rf vw vq yc yh yg) (kr (he, ke, ki, fi, fa, or, mi, a, g, l, w, s)) (kr Q) kk q) (pC (fun r => r = some (.int (nI (k_at A)))) (he, ke, ki, fi, fa, or, mi, a, g, l, w, s) im le ln ys vt nu nn rf kk q) := by
  obtain ⟨hV, hst⟩ := id hA
  have hst2 : s ≤ 999 := hst
  obtain ⟨v1, v2, v3, v4, v5, v6, v7, v8, v9, v10, v11, v12, v13, v14, v15, v16⟩ := id hV
  have v6l := kO_len mi v7 or v6
  obtain ⟨c1, c2, c3⟩ := id hC
  induction k with
  | zero =>
    intro j vw vq yc yh yg Q hj hJ hQ hQs g0
    obtain ⟨j0, j1, j2, j3, j4⟩ := id hJ
    have hbt := kbt_lt e j
    refine me_seg 2 (pc1 := 11) (ls1 := [some (.ref 100), some (.int (nI e)), some (.int (nI n0)), some (.ref 124), some (.int (nI j))]) (st1 := [.int (nI n0), .int (nI j)]) (M1 := (mk_M (cT im le ln ys vt nu nn rf vw vq yc yh yg) (kr (he, ke, ki, fi, fa, or, mi, a, g, l, w, s)) (kr Q) kk q)) (fun f => rfl) ?_
    refine me_t (C := (nI n0) ≤ (nI j)) (nI_let (a := n0) (b := j) (by omega)) (fun f => rfl) ?_
    refine me_ret 3 (r := some (.int (nI (k_at Q)))) (M1 := (mk_M (cT im le ln ys vt nu nn rf vw vq yc yh yg) (kr (he, ke, ki, fi, fa, or, mi, a, g, l, w, s)) (kr Q) kk q)) (fun f => rfl) ?_
    exact ⟨(by rw [g0]; rfl), _, _, _, _, _, _, rfl, ⟨(kSh_r hQ), j1, by assumption, by assumption, by assumption⟩⟩
  | succ k IH =>
    intro j vw vq yc yh yg Q hj hJ hQ hQs g0
    obtain ⟨j0, j1, j2, j3, j4⟩ := id hJ
    have hbt := kbt_lt e j
    refine me_seg 2 (pc1 := 11) (ls1 := [some (.ref 100), some (.int (nI e)), some (.int (nI n0)), some (.ref 124), some (.int (nI j))]) (st1 := [.int (nI n0), .int (nI j)]) (M1 := (mk_M (cT im le ln ys vt nu nn rf vw vq yc yh yg) (kr (he, ke, ki, fi, fa, or, mi, a, g, l, w, s)) (kr Q) kk q)) (fun f => rfl) ?_
    refine me_f (C := (nI n0) ≤ (nI j)) (nI_lef (a := n0) (b := j) (by omega)) (fun f => rfl) ?_
    refine me_seg 6 (pc1 := 21) (ls1 := [some (.ref 100), some (.int (nI e)), some (.int (nI n0)), some (.ref 124), some (.int (nI j))]) (st1 := [.int (((nI e) >>> ((nI j) &&& 31)) &&& (1 : Int32)), .ref 124]) (M1 := (mk_M (cT im le ln ys vt nu nn rf vw vq yc yh yg) (kr (he, ke, ki, fi, fa, or, mi, a, g, l, w, s)) (kr Q) kk q)) (fun f => rfl) ?_
    refine me_v (k_bit (e := e) (c := j) (by omega) (by omega)) ?_
    refine me_seg 1 (pc1 := 22) (ls1 := [some (.ref 100), some (.int (nI e)), some (.int (nI n0)), some (.ref 124), some (.int (nI j))]) (st1 := [.int 1, .int (nI (kbt e j)), .ref 124]) (M1 := (mk_M (cT im le ln ys vt nu nn rf vw vq yc yh yg) (kr (he, ke, ki, fi, fa, or, mi, a, g, l, w, s)) (kr Q) kk q)) (fun f => rfl) ?_
    refine me_ifN (C := (nI (kbt e j)) = 1) (nI_eqi (a := kbt e j) (b := 1) (by omega)) (fun f => rfl) (fun h1 => ?_) (fun h1 => ?_)
    · refine me_seg 2 (pc1 := 30) (ls1 := [some (.ref 100), some (.int (nI e)), some (.int (nI n0)), some (.ref 124), some (.int (nI j))]) (st1 := [.int 5, .ref 124]) (M1 := (mk_M (cT im le ln ys vt nu nn rf vw vq yc yh yg) (kr (he, ke, ki, fi, fa, or, mi, a, g, l, w, s)) (kr Q) kk q)) (fun f => rfl) ?_
      refine me_call (y := 44) (y0 := 33) (L := [some (.ref 124), some (.int 5), none, none, none]) (rest := []) (rr := none) (M1 := (mk_M (cT im le ln ys vt nu nn rf vw vq yc yh yg) (kr (he, ke, ki, fi, fa, or, mi, a, g, l, w, s)) (kr (kstep Q 5)) kk q)) (fun f => rfl) (kl_m (cT im le ln ys vt nu nn rf vw vq yc yh yg) (kr (he, ke, ki, fi, fa, or, mi, a, g, l, w, s)) kk q (kc_advQ Q 5 (by decide) hQ (Nat.lt_trans (m := 2 ^ 20) (by omega) (by decide)))) ?_
      refine me_seg 1 (pc1 := 36) (ls1 := [some (.ref 100), some (.int (nI e)), some (.int (nI n0)), some (.ref 124), some (.int ((nI j) + 1))]) (st1 := []) (M1 := (mk_M (cT im le ln ys vt nu nn rf vw vq yc yh yg) (kr (he, ke, ki, fi, fa, or, mi, a, g, l, w, s)) (kr (kstep Q 5)) kk q)) (fun f => rfl) ?_
      refine me_l (fun q_ => [some (.ref 100), some (.int (nI e)), some (.int (nI n0)), some (.ref 124), some (.int q_)]) (nI_add j 1) ?_
      refine me_seg 1 (pc1 := 8) (ls1 := [some (.ref 100), some (.int (nI e)), some (.int (nI n0)), some (.ref 124), some (.int (nI (j + 1)))]) (st1 := []) (M1 := (mk_M (cT im le ln ys vt nu nn rf vw vq yc yh yg) (kr (he, ke, ki, fi, fa, or, mi, a, g, l, w, s)) (kr (kstep Q 5)) kk q)) (fun f => rfl) ?_
      exact IH (j + 1)  vw vq yc yh yg (kstep Q 5) (by omega) ⟨(kSh_r (kV_step hQ 5)), j1, by assumption, by assumption, by assumption⟩ (kV_step hQ 5) (by first | omega | (rw [kst_step]; omega)) (g0.trans (kpk_1 h1))
    · refine me_seg 1 (pc1 := 30) (ls1 := [some (.ref 100), some (.int (nI e)), some (.int (nI n0)), some (.ref 124), some (.int (nI j))]) (st1 := [.int 0, .ref 124]) (M1 := (mk_M (cT im le ln ys vt nu nn rf vw vq yc yh yg) (kr (he, ke, ki, fi, fa, or, mi, a, g, l, w, s)) (kr Q) kk q)) (fun f => rfl) ?_
      refine me_call (y := 44) (y0 := 33) (L := [some (.ref 124), some (.int 0), none, none, none]) (rest := []) (rr := none) (M1 := (mk_M (cT im le ln ys vt nu nn rf vw vq yc yh yg) (kr (he, ke, ki, fi, fa, or, mi, a, g, l, w, s)) (kr (kstep Q 0)) kk q)) (fun f => rfl) (kl_m (cT im le ln ys vt nu nn rf vw vq yc yh yg) (kr (he, ke, ki, fi, fa, or, mi, a, g, l, w, s)) kk q (kc_advQ Q 0 (by decide) hQ (Nat.lt_trans (m := 2 ^ 20) (by omega) (by decide)))) ?_
      refine me_seg 1 (pc1 := 36) (ls1 := [some (.ref 100), some (.int (nI e)), some (.int (nI n0)), some (.ref 124), some (.int ((nI j) + 1))]) (st1 := []) (M1 := (mk_M (cT im le ln ys vt nu nn rf vw vq yc yh yg) (kr (he, ke, ki, fi, fa, or, mi, a, g, l, w, s)) (kr (kstep Q 0)) kk q)) (fun f => rfl) ?_
      refine me_l (fun q_ => [some (.ref 100), some (.int (nI e)), some (.int (nI n0)), some (.ref 124), some (.int q_)]) (nI_add j 1) ?_
      refine me_seg 1 (pc1 := 8) (ls1 := [some (.ref 100), some (.int (nI e)), some (.int (nI n0)), some (.ref 124), some (.int (nI (j + 1)))]) (st1 := []) (M1 := (mk_M (cT im le ln ys vt nu nn rf vw vq yc yh yg) (kr (he, ke, ki, fi, fa, or, mi, a, g, l, w, s)) (kr (kstep Q 0)) kk q)) (fun f => rfl) ?_
      exact IH (j + 1)  vw vq yc yh yg (kstep Q 0) (by omega) ⟨(kSh_r (kV_step hQ 0)), j1, by assumption, by assumption, by assumption⟩ (kV_step hQ 0) (by first | omega | (rw [kst_step]; omega)) (g0.trans (kpk_0 h1))
set_option maxRecDepth 100000 in
theorem tc_ww (he ke ki fi fa or : List Nat) (mi a g l w s : Nat) (im : Nat) (le : List Nat) (ln : Nat) (ys : List Int32) (vt : Int32) (nu : List Nat) (nn : Nat) (rf : List Nat) (kk : kG) (q : cR) (hA : iA (he, ke, ki, fi, fa, or, mi, a, g, l, w, s)) (hC : iC nu nn) (vw vq : Int32) (yc yh yg : List Int32) (m : kG) (hJ : iJ m ys yc yh yg) (e n0 : Nat) (hee : e < 128) (hn : n0 ≤ 7) : mm_E 109 0 [some (.ref 100), some (.int (nI e)), some (.int (nI n0)), none, none] [] (mk_M (cT im le ln ys vt nu nn rf vw vq yc yh yg) (kr (he, ke, ki, fi, fa, or, mi, a, g, l, w, s)) m kk q) (pC (fun r => r = some (.int (nI (k_at (kpk n0 0 e (he, ke, ki, fi, fa, or, mi, a, g, l, w, s)))))) (he, ke, ki, fi, fa, or, mi, a, g, l, w, s) im le ln ys vt nu nn rf kk q) := by
  obtain ⟨hV, hst⟩ := id hA
  have hst2 : s ≤ 999 := hst
  obtain ⟨v1, v2, v3, v4, v5, v6, v7, v8, v9, v10, v11, v12, v13, v14, v15, v16⟩ := id hV
  have v6l := kO_len mi v7 or v6
  obtain ⟨c1, c2, c3⟩ := id hC
  obtain ⟨j0, j1, j2, j3, j4⟩ := id hJ
  refine me_seg 1 (pc1 := 1) (ls1 := [some (.ref 100), some (.int (nI e)), some (.int (nI n0)), none, none]) (st1 := [.ref 100]) (M1 := (mk_M (cT im le ln ys vt nu nn rf vw vq yc yh yg) (kr (he, ke, ki, fi, fa, or, mi, a, g, l, w, s)) m kk q)) (fun f => rfl) ?_
  refine me_call (y := 75) (y0 := 4) (L := [some (.ref 100)]) (rest := []) (rr := some (.ref 124)) (M1 := (mk_M (cT im le ln ys vt nu nn rf vw vq yc yh yg) (kr (he, ke, ki, fi, fa, or, mi, a, g, l, w, s)) (kr (he, ke, ki, fi, fa, or, mi, a, g, l, w, s)) kk q)) (fun f => rfl) (cc_now (he, ke, ki, fi, fa, or, mi, a, g, l, w, s) (cT im le ln ys vt nu nn rf vw vq yc yh yg) m kk q hV (by assumption)) ?_
  refine me_seg 3 (pc1 := 8) (ls1 := [some (.ref 100), some (.int (nI e)), some (.int (nI n0)), some (.ref 124), some (.int 0)]) (st1 := []) (M1 := (mk_M (cT im le ln ys vt nu nn rf vw vq yc yh yg) (kr (he, ke, ki, fi, fa, or, mi, a, g, l, w, s)) (kr (he, ke, ki, fi, fa, or, mi, a, g, l, w, s)) kk q)) (fun f => rfl) ?_
  exact tc_wwL he ke ki fi fa or mi a g l w s im le ln ys vt nu nn rf kk q hA hC e n0 hee hn _ n0 0  vw vq yc yh yg (he, ke, ki, fi, fa, or, mi, a, g, l, w, s) (by omega) ⟨(kSh_r hV), j1, by assumption, by assumption, by assumption⟩ hV (by show s + n0 < 2 ^ 20; omega) rfl
set_option maxRecDepth 100000 in
theorem tc_plankL (he ke ki fi fa or : List Nat) (mi a g l w s : Nat) (im : Nat) (le : List Nat) (ln : Nat) (ys : List Int32) (vt : Int32) (nu : List Nat) (nn : Nat) (rf : List Nat) (kk : kG) (q : cR) (hA : iA (he, ke, ki, fi, fa, or, mi, a, g, l, w, s)) (hC : iC nu nn) (p n0 t x : Nat) (hp : p < 25) (hn : n0 ≤ 7) (ht1 : 2 ≤ t) (ht : t ≤ 20) (hx : x < 2) (N2 : Nat) (hN : N2 = 2 ^ n0) (A : Nat) (k : Nat) : ∀ (j : Nat) (u : Nat) (vw vq : Int32) (yc yh yg : List Int32) (m : kG), j + k = N2 → iJ m ys yc yh yg → A = kpa (he, ke, ki, fi, fa, or, mi, a, g, l, w, s) n0 t p k j u → u ≤ j * 1280000000 → mm_E 107 72 [some (.ref 100), some (.int (nI p)), some (.int (nI n0)), some (.int (nI t)), some (.int (nI x)), some (.long (nL u)), none, some (.int (nI j))] [] (mk_M (cT im le ln ys vt nu nn rf vw vq yc yh yg) (kr (he, ke, ki, fi, fa, or, mi, a, g, l, w, s)) m kk q) (pC (fun r => r = some (.long (nL (kfr A (t ^ n0) x)))) (he, ke, ki, fi, fa, or, mi, a, g, l, w, s) im le ln ys vt nu nn rf kk q) := by
  obtain ⟨hV, hst⟩ := id hA
  have hst2 : s ≤ 999 := hst
  obtain ⟨v1, v2, v3, v4, v5, v6, v7, v8, v9, v10, v11, v12, v13, v14, v15, v16⟩ := id hV
  have v6l := kO_len mi v7 or v6
  obtain ⟨c1, c2, c3⟩ := id hC
  induction k with
  | zero =>
    intro j u vw vq yc yh yg m hj hJ g0 g1
    obtain ⟨j0, j1, j2, j3, j4⟩ := id hJ
    have hN2 : N2 ≤ 128 := by rw [hN]; exact k_2n n0 (by omega)
    have hpt := kpw_le (b := t) (m := n0) ht hn
    have hpp : 0 < t ^ n0 := Nat.pow_pos (by omega)
    have hkc := kpc_le j n0
    have hpu := kpw_le (b := t - 1) (m := n0 - kpc j n0) (by omega) (by omega)
    have hka := kV_at (kV_pk n0 0 j hV)
    refine me_seg 4 (pc1 := 77) (ls1 := [some (.ref 100), some (.int (nI p)), some (.int (nI n0)), some (.int (nI t)), some (.int (nI x)), some (.long (nL u)), none, some (.int (nI j))]) (st1 := [.int ((1 : Int32) <<< ((nI n0) &&& 31)), .int (nI j)]) (M1 := (mk_M (cT im le ln ys vt nu nn rf vw vq yc yh yg) (kr (he, ke, ki, fi, fa, or, mi, a, g, l, w, s)) m kk q)) (fun f => rfl) ?_
    refine me_v (show (1 : Int32) <<< (nI n0 &&& 31) = nI N2 by rw [hN]; exact k_sh1 n0 (by omega)) ?_
    refine me_t (C := (nI N2) ≤ (nI j)) (nI_let (a := N2) (b := j) (by omega)) (fun f => rfl) ?_
    refine me_seg 3 (pc1 := 120) (ls1 := [some (.ref 100), some (.int (nI p)), some (.int (nI n0)), some (.int (nI t)), some (.int (nI x)), some (.long (nL u)), none, some (.int (nI j))]) (st1 := [.long ((nI t).toInt64), .long (nL u)]) (M1 := (mk_M (cT im le ln ys vt nu nn rf vw vq yc yh yg) (kr (he, ke, ki, fi, fa, or, mi, a, g, l, w, s)) m kk q)) (fun f => rfl) ?_
    refine me_lv (nL_i2l (a := t) (by omega)) ?_
    refine me_seg 1 (pc1 := 121) (ls1 := [some (.ref 100), some (.int (nI p)), some (.int (nI n0)), some (.int (nI t)), some (.int (nI x)), some (.long (nL u)), none, some (.int (nI j))]) (st1 := [.int (nI n0), .long (nL t), .long (nL u)]) (M1 := (mk_M (cT im le ln ys vt nu nn rf vw vq yc yh yg) (kr (he, ke, ki, fi, fa, or, mi, a, g, l, w, s)) m kk q)) (fun f => rfl) ?_
    refine me_call (y := 111) (y0 := 124) (L := [some (.long (nL t)), none, some (.int (nI n0)), none, none, none]) (rest := [.long (nL u)]) (rr := some (.long (nL (t ^ n0)))) (M1 := (mk_M (cT im le ln ys vt nu nn rf vw vq yc yh yg) (kr (he, ke, ki, fi, fa, or, mi, a, g, l, w, s)) m kk q)) (fun f => rfl) (cf_pow t n0 (by omega) (by omega) _) ?_
    refine me_seg 1 (pc1 := 126) (ls1 := [some (.ref 100), some (.int (nI p)), some (.int (nI n0)), some (.int (nI t)), some (.int (nI x)), some (.long (nL u)), none, some (.int (nI j))]) (st1 := [.int (nI x), .long (nL (t ^ n0)), .long (nL u)]) (M1 := (mk_M (cT im le ln ys vt nu nn rf vw vq yc yh yg) (kr (he, ke, ki, fi, fa, or, mi, a, g, l, w, s)) m kk q)) (fun f => rfl) ?_
    refine me_call (y := 112) (y0 := 129) (L := [some (.long (nL u)), none, some (.long (nL (t ^ n0))), none, some (.int (nI x)), none, none]) (rest := []) (rr := some (.long (nL (kfr u (t ^ n0) x)))) (M1 := (mk_M (cT im le ln ys vt nu nn rf vw vq yc yh yg) (kr (he, ke, ki, fi, fa, or, mi, a, g, l, w, s)) m kk q)) (fun f => rfl) (cf_pf u (t ^ n0) x (by omega) (by omega) (by omega) (by omega) _) ?_
    refine me_ret 1 (r := some (.long (nL (kfr u (t ^ n0) x)))) (M1 := (mk_M (cT im le ln ys vt nu nn rf vw vq yc yh yg) (kr (he, ke, ki, fi, fa, or, mi, a, g, l, w, s)) m kk q)) (fun f => rfl) ?_
    exact ⟨(by rw [g0]; rfl), _, _, _, _, _, _, rfl, ⟨(by assumption), j1, by assumption, by assumption, by assumption⟩⟩
  | succ k IH =>
    intro j u vw vq yc yh yg m hj hJ g0 g1
    obtain ⟨j0, j1, j2, j3, j4⟩ := id hJ
    have hN2 : N2 ≤ 128 := by rw [hN]; exact k_2n n0 (by omega)
    have hpt := kpw_le (b := t) (m := n0) ht hn
    have hpp : 0 < t ^ n0 := Nat.pow_pos (by omega)
    have hkc := kpc_le j n0
    have hpu := kpw_le (b := t - 1) (m := n0 - kpc j n0) (by omega) (by omega)
    have hka := kV_at (kV_pk n0 0 j hV)
    refine me_seg 4 (pc1 := 77) (ls1 := [some (.ref 100), some (.int (nI p)), some (.int (nI n0)), some (.int (nI t)), some (.int (nI x)), some (.long (nL u)), none, some (.int (nI j))]) (st1 := [.int ((1 : Int32) <<< ((nI n0) &&& 31)), .int (nI j)]) (M1 := (mk_M (cT im le ln ys vt nu nn rf vw vq yc yh yg) (kr (he, ke, ki, fi, fa, or, mi, a, g, l, w, s)) m kk q)) (fun f => rfl) ?_
    refine me_v (show (1 : Int32) <<< (nI n0 &&& 31) = nI N2 by rw [hN]; exact k_sh1 n0 (by omega)) ?_
    refine me_f (C := (nI N2) ≤ (nI j)) (nI_lef (a := N2) (b := j) (by omega)) (fun f => rfl) ?_
    refine me_seg 3 (pc1 := 84) (ls1 := [some (.ref 100), some (.int (nI p)), some (.int (nI n0)), some (.int (nI t)), some (.int (nI x)), some (.long (nL u)), none, some (.int (nI j))]) (st1 := [.int (nI n0), .int (nI j), .ref 100]) (M1 := (mk_M (cT im le ln ys vt nu nn rf vw vq yc yh yg) (kr (he, ke, ki, fi, fa, or, mi, a, g, l, w, s)) m kk q)) (fun f => rfl) ?_
    refine me_callE (y := 109) (y0 := 87) (L := [some (.ref 100), some (.int (nI j)), some (.int (nI n0)), none, none]) (rest := []) (fun f => rfl) (tc_ww he ke ki fi fa or mi a g l w s im le ln ys vt nu nn rf kk q hA hC vw vq yc yh yg m ⟨(by assumption), j1, by assumption, by assumption, by assumption⟩ j n0 (by omega) (by omega)) ?_
    rintro _ _ ⟨rfl, vw_1, vq_1, yc_1, yh_1, yg_1, m_1, rfl, hJ_1⟩
    obtain ⟨j0_1, j1_1, j2_1, j3_1, j4_1⟩ := id hJ_1
    refine me_seg 1 (pc1 := 88) (ls1 := [some (.ref 100), some (.int (nI p)), some (.int (nI n0)), some (.int (nI t)), some (.int (nI x)), some (.long (nL u)), none, some (.int (nI j))]) (st1 := [.int (nI p), .int (nI (k_at (kpk n0 0 j (he, ke, ki, fi, fa, or, mi, a, g, l, w, s))))]) (M1 := (mk_M (cT im le ln ys vt nu nn rf vw_1 vq_1 yc_1 yh_1 yg_1) (kr (he, ke, ki, fi, fa, or, mi, a, g, l, w, s)) m_1 kk q)) (fun f => rfl) ?_
    refine me_ifN (C := (nI (k_at (kpk n0 0 j (he, ke, ki, fi, fa, or, mi, a, g, l, w, s)))) = (nI p)) (nI_eqi (a := k_at (kpk n0 0 j (he, ke, ki, fi, fa, or, mi, a, g, l, w, s))) (b := p) (by omega)) (fun f => rfl) (fun h2 => ?_) (fun h2 => ?_)
    · refine me_seg 4 (pc1 := 96) (ls1 := [some (.ref 100), some (.int (nI p)), some (.int (nI n0)), some (.int (nI t)), some (.int (nI x)), some (.long (nL u)), none, some (.int (nI j))]) (st1 := [.int ((nI t) - (1 : Int32)), .long (nL u)]) (M1 := (mk_M (cT im le ln ys vt nu nn rf vw_1 vq_1 yc_1 yh_1 yg_1) (kr (he, ke, ki, fi, fa, or, mi, a, g, l, w, s)) m_1 kk q)) (fun f => rfl) ?_
      refine me_v (pk_sub (a := t) (b := 1) (by omega)) ?_
      refine me_seg 1 (pc1 := 97) (ls1 := [some (.ref 100), some (.int (nI p)), some (.int (nI n0)), some (.int (nI t)), some (.int (nI x)), some (.long (nL u)), none, some (.int (nI j))]) (st1 := [.long ((nI (t - 1)).toInt64), .long (nL u)]) (M1 := (mk_M (cT im le ln ys vt nu nn rf vw_1 vq_1 yc_1 yh_1 yg_1) (kr (he, ke, ki, fi, fa, or, mi, a, g, l, w, s)) m_1 kk q)) (fun f => rfl) ?_
      refine me_lv (nL_i2l (a := t - 1) (by omega)) ?_
      refine me_seg 2 (pc1 := 100) (ls1 := [some (.ref 100), some (.int (nI p)), some (.int (nI n0)), some (.int (nI t)), some (.int (nI x)), some (.long (nL u)), none, some (.int (nI j))]) (st1 := [.int (nI j), .int (nI n0), .long (nL (t - 1)), .long (nL u)]) (M1 := (mk_M (cT im le ln ys vt nu nn rf vw_1 vq_1 yc_1 yh_1 yg_1) (kr (he, ke, ki, fi, fa, or, mi, a, g, l, w, s)) m_1 kk q)) (fun f => rfl) ?_
      refine me_call (y := 110) (y0 := 103) (L := [some (.int (nI j))]) (rest := [.int (nI n0), .long (nL (t - 1)), .long (nL u)]) (rr := some (.int (nI (kpc j n0)))) (M1 := (mk_M (cT im le ln ys vt nu nn rf vw_1 vq_1 yc_1 yh_1 yg_1) (kr (he, ke, ki, fi, fa, or, mi, a, g, l, w, s)) m_1 kk q)) (fun f => rfl) (mr_eq (kd_bc (e := j) (by omega) _) (by rw [kpc_7 (n := n0) (by omega) (show j < 2 ^ n0 by rw [← hN]; omega)])) ?_
      refine me_seg 1 (pc1 := 104) (ls1 := [some (.ref 100), some (.int (nI p)), some (.int (nI n0)), some (.int (nI t)), some (.int (nI x)), some (.long (nL u)), none, some (.int (nI j))]) (st1 := [.int ((nI n0) - (nI (kpc j n0))), .long (nL (t - 1)), .long (nL u)]) (M1 := (mk_M (cT im le ln ys vt nu nn rf vw_1 vq_1 yc_1 yh_1 yg_1) (kr (he, ke, ki, fi, fa, or, mi, a, g, l, w, s)) m_1 kk q)) (fun f => rfl) ?_
      refine me_v (pk_sub (a := n0) (b := kpc j n0) (by omega)) ?_
      refine me_call (y := 111) (y0 := 107) (L := [some (.long (nL (t - 1))), none, some (.int (nI (n0 - (kpc j n0)))), none, none, none]) (rest := [.long (nL u)]) (rr := some (.long (nL ((t - 1) ^ (n0 - (kpc j n0)))))) (M1 := (mk_M (cT im le ln ys vt nu nn rf vw_1 vq_1 yc_1 yh_1 yg_1) (kr (he, ke, ki, fi, fa, or, mi, a, g, l, w, s)) m_1 kk q)) (fun f => rfl) (cf_pow (t - 1) (n0 - (kpc j n0)) (by omega) (by omega) _) ?_
      refine me_seg 1 (pc1 := 108) (ls1 := [some (.ref 100), some (.int (nI p)), some (.int (nI n0)), some (.int (nI t)), some (.int (nI x)), some (.long (nL u)), none, some (.int (nI j))]) (st1 := [.long ((nL u) + (nL ((t - 1) ^ (n0 - (kpc j n0)))))]) (M1 := (mk_M (cT im le ln ys vt nu nn rf vw_1 vq_1 yc_1 yh_1 yg_1) (kr (he, ke, ki, fi, fa, or, mi, a, g, l, w, s)) m_1 kk q)) (fun f => rfl) ?_
      refine me_lv (nL_add (a := u) (b := (t - 1) ^ (n0 - (kpc j n0))) (by omega)) ?_
      refine me_seg 2 (pc1 := 113) (ls1 := [some (.ref 100), some (.int (nI p)), some (.int (nI n0)), some (.int (nI t)), some (.int (nI x)), some (.long (nL (u + (t - 1) ^ (n0 - (kpc j n0))))), none, some (.int ((nI j) + 1))]) (st1 := []) (M1 := (mk_M (cT im le ln ys vt nu nn rf vw_1 vq_1 yc_1 yh_1 yg_1) (kr (he, ke, ki, fi, fa, or, mi, a, g, l, w, s)) m_1 kk q)) (fun f => rfl) ?_
      refine me_l (fun q_ => [some (.ref 100), some (.int (nI p)), some (.int (nI n0)), some (.int (nI t)), some (.int (nI x)), some (.long (nL (u + (t - 1) ^ (n0 - (kpc j n0))))), none, some (.int q_)]) (nI_add j 1) ?_
      refine me_seg 1 (pc1 := 72) (ls1 := [some (.ref 100), some (.int (nI p)), some (.int (nI n0)), some (.int (nI t)), some (.int (nI x)), some (.long (nL (u + (t - 1) ^ (n0 - (kpc j n0))))), none, some (.int (nI (j + 1)))]) (st1 := []) (M1 := (mk_M (cT im le ln ys vt nu nn rf vw_1 vq_1 yc_1 yh_1 yg_1) (kr (he, ke, ki, fi, fa, or, mi, a, g, l, w, s)) m_1 kk q)) (fun f => rfl) ?_
      exact IH (j + 1) (u + (t - 1) ^ (n0 - (kpc j n0))) vw_1 vq_1 yc_1 yh_1 yg_1 m_1 (by omega) ⟨(by assumption), j1, by assumption, by assumption, by assumption⟩ (g0.trans (kpa_y h2)) (by omega)
    · refine me_seg 1 (pc1 := 113) (ls1 := [some (.ref 100), some (.int (nI p)), some (.int (nI n0)), some (.int (nI t)), some (.int (nI x)), some (.long (nL u)), none, some (.int ((nI j) + 1))]) (st1 := []) (M1 := (mk_M (cT im le ln ys vt nu nn rf vw_1 vq_1 yc_1 yh_1 yg_1) (kr (he, ke, ki, fi, fa, or, mi, a, g, l, w, s)) m_1 kk q)) (fun f => rfl) ?_
      refine me_l (fun q_ => [some (.ref 100), some (.int (nI p)), some (.int (nI n0)), some (.int (nI t)), some (.int (nI x)), some (.long (nL u)), none, some (.int q_)]) (nI_add j 1) ?_
      refine me_seg 1 (pc1 := 72) (ls1 := [some (.ref 100), some (.int (nI p)), some (.int (nI n0)), some (.int (nI t)), some (.int (nI x)), some (.long (nL u)), none, some (.int (nI (j + 1)))]) (st1 := []) (M1 := (mk_M (cT im le ln ys vt nu nn rf vw_1 vq_1 yc_1 yh_1 yg_1) (kr (he, ke, ki, fi, fa, or, mi, a, g, l, w, s)) m_1 kk q)) (fun f => rfl) ?_
      exact IH (j + 1) u vw_1 vq_1 yc_1 yh_1 yg_1 m_1 (by omega) ⟨(by assumption), j1, by assumption, by assumption, by assumption⟩ (g0.trans (kpa_n h2)) (Nat.le_trans g1 (Nat.mul_le_mul_right _ (Nat.le_succ j)))
set_option maxRecDepth 100000 in
theorem tc_plank (he ke ki fi fa or : List Nat) (mi a g l w s : Nat) (im : Nat) (le : List Nat) (ln : Nat) (ys : List Int32) (vt : Int32) (nu : List Nat) (nn : Nat) (rf : List Nat) (kk : kG) (q : cR) (hA : iA (he, ke, ki, fi, fa, or, mi, a, g, l, w, s)) (hC : iC nu nn) (vw vq : Int32) (yc yh yg : List Int32) (m : kG) (hJ : iJ m ys yc yh yg) (p n0 t x : Nat) (hp : p < 25) (hn : n0 ≤ 7) (ht1 : 2 ≤ t) (ht : t ≤ 20) (hx : x < 2) : mm_E 107 0 [some (.ref 100), some (.int (nI p)), some (.int (nI n0)), some (.int (nI t)), some (.int (nI x)), none, none, none] [] (mk_M (cT im le ln ys vt nu nn rf vw vq yc yh yg) (kr (he, ke, ki, fi, fa, or, mi, a, g, l, w, s)) m kk q) (pC (fun r => r = some (.long (nL (kfr (kpa (he, ke, ki, fi, fa, or, mi, a, g, l, w, s) n0 t p (2 ^ n0) 0 0) (t ^ n0) x)))) (he, ke, ki, fi, fa, or, mi, a, g, l, w, s) im le ln ys vt nu nn rf kk q) := by
  obtain ⟨hV, hst⟩ := id hA
  have hst2 : s ≤ 999 := hst
  obtain ⟨v1, v2, v3, v4, v5, v6, v7, v8, v9, v10, v11, v12, v13, v14, v15, v16⟩ := id hV
  have v6l := kO_len mi v7 or v6
  obtain ⟨c1, c2, c3⟩ := id hC
  obtain ⟨j0, j1, j2, j3, j4⟩ := id hJ
  refine me_seg 1 (pc1 := 1) (ls1 := [some (.ref 100), some (.int (nI p)), some (.int (nI n0)), some (.int (nI t)), some (.int (nI x)), none, none, none]) (st1 := [.int (nI p)]) (M1 := (mk_M (cT im le ln ys vt nu nn rf vw vq yc yh yg) (kr (he, ke, ki, fi, fa, or, mi, a, g, l, w, s)) m kk q)) (fun f => rfl) ?_
  refine me_call (y := 37) (y0 := 4) (L := [some (.int (nI p))]) (rest := []) (rr := some (.int 1)) (M1 := (mk_M (cT im le ln ys vt nu nn rf vw vq yc yh yg) (kr (he, ke, ki, fi, fa, or, mi, a, g, l, w, s)) m kk q)) (fun f => rfl) (ms_c1_ok (x := (nI p)) (nI_ltf (a := p) (b := 0) (by omega)) (nI_lef (a := 25) (b := p) (by omega))) ?_
  refine me_seg 2 (pc1 := 14) (ls1 := [some (.ref 100), some (.int (nI p)), some (.int (nI n0)), some (.int (nI t)), some (.int (nI x)), none, none, none]) (st1 := [.int (nI n0)]) (M1 := (mk_M (cT im le ln ys vt nu nn rf vw vq yc yh yg) (kr (he, ke, ki, fi, fa, or, mi, a, g, l, w, s)) m kk q)) (fun f => rfl) ?_
  refine me_f (C := (nI n0) < 0) (nI_ltf (a := n0) (b := 0) (by omega)) (fun f => rfl) ?_
  refine me_seg 2 (pc1 := 19) (ls1 := [some (.ref 100), some (.int (nI p)), some (.int (nI n0)), some (.int (nI t)), some (.int (nI x)), none, none, none]) (st1 := [.int 2, .int (nI t)]) (M1 := (mk_M (cT im le ln ys vt nu nn rf vw vq yc yh yg) (kr (he, ke, ki, fi, fa, or, mi, a, g, l, w, s)) m kk q)) (fun f => rfl) ?_
  refine me_t (C := 2 ≤ (nI t)) (nI_let (a := 2) (b := t) (by omega)) (fun f => rfl) ?_
  refine me_seg 2 (pc1 := 32) (ls1 := [some (.ref 100), some (.int (nI p)), some (.int (nI n0)), some (.int (nI t)), some (.int (nI x)), none, none, none]) (st1 := [.int 7, .int (nI n0)]) (M1 := (mk_M (cT im le ln ys vt nu nn rf vw vq yc yh yg) (kr (he, ke, ki, fi, fa, or, mi, a, g, l, w, s)) m kk q)) (fun f => rfl) ?_
  refine me_f (C := 7 < (nI n0)) (nI_ltf (a := 7) (b := n0) (by omega)) (fun f => rfl) ?_
  refine me_seg 2 (pc1 := 38) (ls1 := [some (.ref 100), some (.int (nI p)), some (.int (nI n0)), some (.int (nI t)), some (.int (nI x)), none, none, none]) (st1 := [.int 20, .int (nI t)]) (M1 := (mk_M (cT im le ln ys vt nu nn rf vw vq yc yh yg) (kr (he, ke, ki, fi, fa, or, mi, a, g, l, w, s)) m kk q)) (fun f => rfl) ?_
  refine me_t (C := (nI t) ≤ 20) (nI_let (a := t) (b := 20) (by omega)) (fun f => rfl) ?_
  refine me_seg 1 (pc1 := 50) (ls1 := [some (.ref 100), some (.int (nI p)), some (.int (nI n0)), some (.int (nI t)), some (.int (nI x)), none, none, none]) (st1 := [.int (nI x)]) (M1 := (mk_M (cT im le ln ys vt nu nn rf vw vq yc yh yg) (kr (he, ke, ki, fi, fa, or, mi, a, g, l, w, s)) m kk q)) (fun f => rfl) ?_
  refine me_f (C := (nI x) < 0) (nI_ltf (a := x) (b := 0) (by omega)) (fun f => rfl) ?_
  refine me_seg 2 (pc1 := 56) (ls1 := [some (.ref 100), some (.int (nI p)), some (.int (nI n0)), some (.int (nI t)), some (.int (nI x)), none, none, none]) (st1 := [.int 1, .int (nI x)]) (M1 := (mk_M (cT im le ln ys vt nu nn rf vw vq yc yh yg) (kr (he, ke, ki, fi, fa, or, mi, a, g, l, w, s)) m kk q)) (fun f => rfl) ?_
  refine me_t (C := (nI x) ≤ 1) (nI_let (a := x) (b := 1) (by omega)) (fun f => rfl) ?_
  refine me_seg 4 (pc1 := 72) (ls1 := [some (.ref 100), some (.int (nI p)), some (.int (nI n0)), some (.int (nI t)), some (.int (nI x)), some (.long 0), none, some (.int 0)]) (st1 := []) (M1 := (mk_M (cT im le ln ys vt nu nn rf vw vq yc yh yg) (kr (he, ke, ki, fi, fa, or, mi, a, g, l, w, s)) m kk q)) (fun f => rfl) ?_
  exact tc_plankL he ke ki fi fa or mi a g l w s im le ln ys vt nu nn rf kk q hA hC p n0 t x hp hn ht1 ht hx (2 ^ n0) rfl _ (2 ^ n0) 0 0 vw vq yc yh yg m (Nat.zero_add _) ⟨(by assumption), j1, by assumption, by assumption, by assumption⟩ rfl (by omega)
set_option maxRecDepth 100000 in
theorem mf_has (e j : Nat) (hee : e < 2 ^ 31) (hj : j < 32) (M : mm_H) : mm_R 151 0 [some (.int (nI e)), some (.int (nI j))] [] M (some (.int (nI (kbt e j))), M) := by
  have hb := kbt_lt e j
  refine mr_seg 5 (pc1 := 5) (ls1 := [some (.int (nI e)), some (.int (nI j))]) (st1 := [.int (((nI e) >>> ((nI j) &&& 31)) &&& (1 : Int32))]) (M1 := M) (fun f => rfl) ?_
  refine mr_v (k_bit (e := e) (c := j) (by omega) (by omega)) ?_
  refine mr_seg 1 (pc1 := 6) (ls1 := [some (.int (nI e)), some (.int (nI j))]) (st1 := [.int 1, .int (nI (kbt e j))]) (M1 := M) (fun f => rfl) ?_
  refine mr_ifN (C := (nI (kbt e j)) = 1) (nI_eqi (a := kbt e j) (b := 1) (by omega)) (fun f => rfl) (fun h1 => ?_) (fun h1 => ?_)
  · refine mr_eq (mr_ret 3 (o := (some (.int 1), M)) (fun f => rfl)) ?_
    rw [show kbt e j = 1 by omega]
    rfl
  · refine mr_eq (mr_ret 2 (o := (some (.int 0), M)) (fun f => rfl)) ?_
    rw [show kbt e j = 0 by omega]
    rfl
set_option maxRecDepth 100000 in
theorem tm_pl121 (he ke ki fi fa or : List Nat) (mi a g l w s : Nat) (xi : List Int32) (im : Nat) (le nu rf : List Nat) (ln nn : Nat) (c : cC) (n m kk : kG) (hA : iA (he, ke, ki, fi, fa, or, mi, a, g, l, w, s)) (hC : iC nu nn) (p n0 t x : Nat) (hp : p < 25) (hn : n0 ≤ 7) (ht1 : 2 ≤ t) (ht : t ≤ 20) (hx : x < 2) (A : Nat) (u e : Nat) (hee : e < 128) (hu : u ≤ 128 * 1280000000) (B : kK) (HO : ∀ (u2 : Nat) (lo10 lo12 : Option Value) (xm xw : List Int32) (vp : Int32) (xn xc : List Int32) (vs : Int32), iR xm xw xn xc → u2 = u + (if k_at B = p then kpd (t - 1) e n0 else 0) → mm_E 197 96 [some (.ref 138), some (.int (nI p)), some (.int (nI n0)), some (.int (nI t)), some (.int (nI x)), some (.long (nL u2)), none, some (.long (nL (t ^ n0))), none, some (.int (nI (e + 1))), lo10, none, lo12] [] (mk_M c n m kk (rT (he, ke, ki, fi, fa, or, mi, a, g, l, w, s) xm xi xw im le nu rf ln nn vp xn xc vs)) (pM (fun r => r = some (.long (nL (kfr A (t ^ n0) x)))) (he, ke, ki, fi, fa, or, mi, a, g, l, w, s) xi im le nu rf ln nn c n m kk)) (k : Nat) : ∀ (j : Nat) (w0 : Nat) (Q : kK) (xw : List Int32) (vp : Int32) (xn xc : List Int32) (vs : Int32), j + k = n0 → iR (er Q) xw xn xc → kV Q → k_st Q + k < 2 ^ 20 → B = kpk k j e Q → w0 = kpd (t - 1) e j → mm_E 197 121 [some (.ref 138), some (.int (nI p)), some (.int (nI n0)), some (.int (nI t)), some (.int (nI x)), some (.long (nL u)), none, some (.long (nL (t ^ n0))), none, some (.int (nI e)), some (.long (nL w0)), none, some (.int (nI j))] [] (mk_M c n m kk (rT (he, ke, ki, fi, fa, or, mi, a, g, l, w, s) (er Q) xi xw im le nu rf ln nn vp xn xc vs)) (pM (fun r => r = some (.long (nL (kfr A (t ^ n0) x)))) (he, ke, ki, fi, fa, or, mi, a, g, l, w, s) xi im le nu rf ln nn c n m kk) := by
  obtain ⟨hV, hst⟩ := id hA
  have hst2 : s ≤ 999 := hst
  obtain ⟨v1, v2, v3, v4, v5, v6, v7, v8, v9, v10, v11, v12, v13, v14, v15, v16⟩ := id hV
  have v6l := kO_len mi v7 or v6
  obtain ⟨c1, c2, c3⟩ := id hC
  induction k with
  | zero =>
    intro j w0 Q xw vp xn xc vs hj hR hQ hQs g0 g1
    obtain ⟨r1, r2, r3, r4⟩ := id hR
    have hbt := kbt_lt e j
    have hw0 : w0 ≤ 1280000000 := by rw [g1, kpd_eq]; exact kpw_le (by omega) (by have := kpc_le e j; omega)
    have ha := kV_at hQ
    refine me_seg 2 (pc1 := 124) (ls1 := [some (.ref 138), some (.int (nI p)), some (.int (nI n0)), some (.int (nI t)), some (.int (nI x)), some (.long (nL u)), none, some (.long (nL (t ^ n0))), none, some (.int (nI e)), some (.long (nL w0)), none, some (.int (nI j))]) (st1 := [.int (nI n0), .int (nI j)]) (M1 := (mk_M c n m kk (rT (he, ke, ki, fi, fa, or, mi, a, g, l, w, s) (er Q) xi xw im le nu rf ln nn vp xn xc vs))) (fun f => rfl) ?_
    refine me_t (C := (nI n0) ≤ (nI j)) (nI_let (a := n0) (b := j) (by omega)) (fun f => rfl) ?_
    refine me_seg 4 (pc1 := 185) (ls1 := [some (.ref 138), some (.int (nI p)), some (.int (nI n0)), some (.int (nI t)), some (.int (nI x)), some (.long (nL u)), none, some (.long (nL (t ^ n0))), none, some (.int (nI e)), some (.long (nL w0)), none, some (.int (nI j))]) (st1 := [.int 2, .ref 140, .long (nL u)]) (M1 := (mk_M c n m kk (rT (he, ke, ki, fi, fa, or, mi, a, g, l, w, s) (er Q) xi xw im le nu rf ln nn vp xn xc vs))) (fun f => rfl) ?_
    refine me_ldn (xs := (er Q)) rfl rfl (k := 2) (by decide) rfl ?_
    refine me_seg 1 (pc1 := 187) (ls1 := [some (.ref 138), some (.int (nI p)), some (.int (nI n0)), some (.int (nI t)), some (.int (nI x)), some (.long (nL u)), none, some (.long (nL (t ^ n0))), none, some (.int (nI e)), some (.long (nL w0)), none, some (.int (nI j))]) (st1 := [.int (nI p), .int (nI (k_at Q)), .long (nL u)]) (M1 := (mk_M c n m kk (rT (he, ke, ki, fi, fa, or, mi, a, g, l, w, s) (er Q) xi xw im le nu rf ln nn vp xn xc vs))) (fun f => rfl) ?_
    refine me_ifN (C := (nI (k_at Q)) = (nI p)) (nI_eqi (a := k_at Q) (b := p) (by omega)) (fun f => rfl) (fun h1 => ?_) (fun h1 => ?_)
    · refine me_seg 3 (pc1 := 197) (ls1 := [some (.ref 138), some (.int (nI p)), some (.int (nI n0)), some (.int (nI t)), some (.int (nI x)), some (.long (nL u)), none, some (.long (nL (t ^ n0))), none, some (.int (nI e)), some (.long (nL w0)), none, some (.int (nI j))]) (st1 := [.long ((nL u) + (nL w0))]) (M1 := (mk_M c n m kk (rT (he, ke, ki, fi, fa, or, mi, a, g, l, w, s) (er Q) xi xw im le nu rf ln nn vp xn xc vs))) (fun f => rfl) ?_
      refine me_lv (nL_add (a := u) (b := w0) (by omega)) ?_
      refine me_seg 2 (pc1 := 202) (ls1 := [some (.ref 138), some (.int (nI p)), some (.int (nI n0)), some (.int (nI t)), some (.int (nI x)), some (.long (nL (u + w0))), none, some (.long (nL (t ^ n0))), none, some (.int ((nI e) + 1)), some (.long (nL w0)), none, some (.int (nI j))]) (st1 := []) (M1 := (mk_M c n m kk (rT (he, ke, ki, fi, fa, or, mi, a, g, l, w, s) (er Q) xi xw im le nu rf ln nn vp xn xc vs))) (fun f => rfl) ?_
      refine me_l (fun q_ => [some (.ref 138), some (.int (nI p)), some (.int (nI n0)), some (.int (nI t)), some (.int (nI x)), some (.long (nL (u + w0))), none, some (.long (nL (t ^ n0))), none, some (.int q_), some (.long (nL w0)), none, some (.int (nI j))]) (nI_add e 1) ?_
      refine me_seg 1 (pc1 := 96) (ls1 := [some (.ref 138), some (.int (nI p)), some (.int (nI n0)), some (.int (nI t)), some (.int (nI x)), some (.long (nL (u + w0))), none, some (.long (nL (t ^ n0))), none, some (.int (nI (e + 1))), some (.long (nL w0)), none, some (.int (nI j))]) (st1 := []) (M1 := (mk_M c n m kk (rT (he, ke, ki, fi, fa, or, mi, a, g, l, w, s) (er Q) xi xw im le nu rf ln nn vp xn xc vs))) (fun f => rfl) ?_
      exact HO (u + w0) (some (.long (nL w0))) (some (.int (nI j))) (er Q) xw vp xn xc vs ⟨(er_len hQ), (by assumption), (by assumption), (by assumption)⟩ (by rw [g0]; show _ = u + (if k_at Q = p then _ else 0); rw [if_pos h1, g1, show j = n0 by omega])
    · refine me_seg 2 (pc1 := 197) (ls1 := [some (.ref 138), some (.int (nI p)), some (.int (nI n0)), some (.int (nI t)), some (.int (nI x)), some (.long (nL u)), none, some (.long (nL (t ^ n0))), none, some (.int (nI e)), some (.long (nL w0)), none, some (.int (nI j))]) (st1 := [.long ((nL u) + 0)]) (M1 := (mk_M c n m kk (rT (he, ke, ki, fi, fa, or, mi, a, g, l, w, s) (er Q) xi xw im le nu rf ln nn vp xn xc vs))) (fun f => rfl) ?_
      refine me_lv (nL_add (a := u) (b := 0) (by omega)) ?_
      refine me_seg 2 (pc1 := 202) (ls1 := [some (.ref 138), some (.int (nI p)), some (.int (nI n0)), some (.int (nI t)), some (.int (nI x)), some (.long (nL (u + 0))), none, some (.long (nL (t ^ n0))), none, some (.int ((nI e) + 1)), some (.long (nL w0)), none, some (.int (nI j))]) (st1 := []) (M1 := (mk_M c n m kk (rT (he, ke, ki, fi, fa, or, mi, a, g, l, w, s) (er Q) xi xw im le nu rf ln nn vp xn xc vs))) (fun f => rfl) ?_
      refine me_l (fun q_ => [some (.ref 138), some (.int (nI p)), some (.int (nI n0)), some (.int (nI t)), some (.int (nI x)), some (.long (nL (u + 0))), none, some (.long (nL (t ^ n0))), none, some (.int q_), some (.long (nL w0)), none, some (.int (nI j))]) (nI_add e 1) ?_
      refine me_seg 1 (pc1 := 96) (ls1 := [some (.ref 138), some (.int (nI p)), some (.int (nI n0)), some (.int (nI t)), some (.int (nI x)), some (.long (nL (u + 0))), none, some (.long (nL (t ^ n0))), none, some (.int (nI (e + 1))), some (.long (nL w0)), none, some (.int (nI j))]) (st1 := []) (M1 := (mk_M c n m kk (rT (he, ke, ki, fi, fa, or, mi, a, g, l, w, s) (er Q) xi xw im le nu rf ln nn vp xn xc vs))) (fun f => rfl) ?_
      exact HO (u + 0) (some (.long (nL w0))) (some (.int (nI j))) (er Q) xw vp xn xc vs ⟨(er_len hQ), (by assumption), (by assumption), (by assumption)⟩ (by rw [g0]; show _ = u + (if k_at Q = p then _ else 0); rw [if_neg h1])
  | succ k IH =>
    intro j w0 Q xw vp xn xc vs hj hR hQ hQs g0 g1
    obtain ⟨r1, r2, r3, r4⟩ := id hR
    have hbt := kbt_lt e j
    have hw0 : w0 ≤ 1280000000 := by rw [g1, kpd_eq]; exact kpw_le (by omega) (by have := kpc_le e j; omega)
    have ha := kV_at hQ
    refine me_seg 2 (pc1 := 124) (ls1 := [some (.ref 138), some (.int (nI p)), some (.int (nI n0)), some (.int (nI t)), some (.int (nI x)), some (.long (nL u)), none, some (.long (nL (t ^ n0))), none, some (.int (nI e)), some (.long (nL w0)), none, some (.int (nI j))]) (st1 := [.int (nI n0), .int (nI j)]) (M1 := (mk_M c n m kk (rT (he, ke, ki, fi, fa, or, mi, a, g, l, w, s) (er Q) xi xw im le nu rf ln nn vp xn xc vs))) (fun f => rfl) ?_
    refine me_f (C := (nI n0) ≤ (nI j)) (nI_lef (a := n0) (b := j) (by omega)) (fun f => rfl) ?_
    refine me_seg 3 (pc1 := 133) (ls1 := [some (.ref 138), some (.int (nI p)), some (.int (nI n0)), some (.int (nI t)), some (.int (nI x)), some (.long (nL u)), none, some (.long (nL (t ^ n0))), none, some (.int (nI e)), some (.long (nL w0)), none, some (.int (nI j))]) (st1 := [.int (nI j), .int (nI e), .long (nL w0)]) (M1 := (mk_M c n m kk (rT (he, ke, ki, fi, fa, or, mi, a, g, l, w, s) (er Q) xi xw im le nu rf ln nn vp xn xc vs))) (fun f => rfl) ?_
    refine me_call (y := 151) (y0 := 136) (L := [some (.int (nI e)), some (.int (nI j))]) (rest := [.long (nL w0)]) (rr := some (.int (nI (kbt e j)))) (M1 := (mk_M c n m kk (rT (he, ke, ki, fi, fa, or, mi, a, g, l, w, s) (er Q) xi xw im le nu rf ln nn vp xn xc vs))) (fun f => rfl) (mf_has e j (by omega) (by omega) _) ?_
    refine me_ifN (C := (nI (kbt e j)) = 0) (nI_eqi (a := kbt e j) (b := 0) (by omega)) (fun f => rfl) (fun h1 => ?_) (fun h1 => ?_)
    · refine me_seg 3 (pc1 := 146) (ls1 := [some (.ref 138), some (.int (nI p)), some (.int (nI n0)), some (.int (nI t)), some (.int (nI x)), some (.long (nL u)), none, some (.long (nL (t ^ n0))), none, some (.int (nI e)), some (.long (nL w0)), none, some (.int (nI j))]) (st1 := [.int ((nI t) - (1 : Int32)), .long (nL w0)]) (M1 := (mk_M c n m kk (rT (he, ke, ki, fi, fa, or, mi, a, g, l, w, s) (er Q) xi xw im le nu rf ln nn vp xn xc vs))) (fun f => rfl) ?_
      refine me_v (pk_sub (a := t) (b := 1) (by omega)) ?_
      refine me_seg 1 (pc1 := 147) (ls1 := [some (.ref 138), some (.int (nI p)), some (.int (nI n0)), some (.int (nI t)), some (.int (nI x)), some (.long (nL u)), none, some (.long (nL (t ^ n0))), none, some (.int (nI e)), some (.long (nL w0)), none, some (.int (nI j))]) (st1 := [.long ((nI (t - 1)).toInt64), .long (nL w0)]) (M1 := (mk_M c n m kk (rT (he, ke, ki, fi, fa, or, mi, a, g, l, w, s) (er Q) xi xw im le nu rf ln nn vp xn xc vs))) (fun f => rfl) ?_
      refine me_lv (nL_i2l (a := t - 1) (by omega)) ?_
      refine me_seg 1 (pc1 := 148) (ls1 := [some (.ref 138), some (.int (nI p)), some (.int (nI n0)), some (.int (nI t)), some (.int (nI x)), some (.long (nL u)), none, some (.long (nL (t ^ n0))), none, some (.int (nI e)), some (.long (nL w0)), none, some (.int (nI j))]) (st1 := [.long ((nL w0) * (nL (t - 1)))]) (M1 := (mk_M c n m kk (rT (he, ke, ki, fi, fa, or, mi, a, g, l, w, s) (er Q) xi xw im le nu rf ln nn vp xn xc vs))) (fun f => rfl) ?_
      refine me_lv (nL_mul (a := w0) (b := t - 1) (by omega) (by omega) (Nat.lt_of_le_of_lt (Nat.mul_le_mul (hw0) ((show t - 1 ≤ 20 by omega))) (by decide))) ?_
      refine me_seg 5 (pc1 := 158) (ls1 := [some (.ref 138), some (.int (nI p)), some (.int (nI n0)), some (.int (nI t)), some (.int (nI x)), some (.long (nL u)), none, some (.long (nL (t ^ n0))), none, some (.int (nI e)), some (.long (nL (w0 * (t - 1)))), none, some (.int (nI j))]) (st1 := [.int (nI j), .int (nI e), .ref 140]) (M1 := (mk_M c n m kk (rT (he, ke, ki, fi, fa, or, mi, a, g, l, w, s) (er Q) xi xw im le nu rf ln nn vp xn xc vs))) (fun f => rfl) ?_
      refine me_call (y := 151) (y0 := 161) (L := [some (.int (nI e)), some (.int (nI j))]) (rest := [.ref 140]) (rr := some (.int (nI (kbt e j)))) (M1 := (mk_M c n m kk (rT (he, ke, ki, fi, fa, or, mi, a, g, l, w, s) (er Q) xi xw im le nu rf ln nn vp xn xc vs))) (fun f => rfl) (mf_has e j (by omega) (by omega) _) ?_
      refine me_t (C := (nI (kbt e j)) = 0) (nI_eqt (a := kbt e j) (b := 0) (by omega)) (fun f => rfl) ?_
      refine me_seg 1 (pc1 := 169) (ls1 := [some (.ref 138), some (.int (nI p)), some (.int (nI n0)), some (.int (nI t)), some (.int (nI x)), some (.long (nL u)), none, some (.long (nL (t ^ n0))), none, some (.int (nI e)), some (.long (nL (w0 * (t - 1)))), none, some (.int (nI j))]) (st1 := [.int 0, .ref 140]) (M1 := (mk_M c n m kk (rT (he, ke, ki, fi, fa, or, mi, a, g, l, w, s) (er Q) xi xw im le nu rf ln nn vp xn xc vs))) (fun f => rfl) ?_
      refine me_call (y := 146) (y0 := 172) (L := [some (.ref 140), some (.int 0), none, none, none]) (rest := []) (rr := none) (M1 := (mk_M c n m kk (rT (he, ke, ki, fi, fa, or, mi, a, g, l, w, s) (er (kstep Q 0)) xi xw im le nu rf ln nn vp xn xc vs))) (fun f => rfl) (rl_m c n m kk (rT (he, ke, ki, fi, fa, or, mi, a, g, l, w, s) (er Q) xi xw im le nu rf ln nn vp xn xc vs) (rc_stepQ Q 0 (by decide) hQ (Nat.lt_trans (m := 2 ^ 20) (by omega) (by decide))) rfl) ?_
      refine me_seg 1 (pc1 := 175) (ls1 := [some (.ref 138), some (.int (nI p)), some (.int (nI n0)), some (.int (nI t)), some (.int (nI x)), some (.long (nL u)), none, some (.long (nL (t ^ n0))), none, some (.int (nI e)), some (.long (nL (w0 * (t - 1)))), none, some (.int ((nI j) + 1))]) (st1 := []) (M1 := (mk_M c n m kk (rT (he, ke, ki, fi, fa, or, mi, a, g, l, w, s) (er (kstep Q 0)) xi xw im le nu rf ln nn vp xn xc vs))) (fun f => rfl) ?_
      refine me_l (fun q_ => [some (.ref 138), some (.int (nI p)), some (.int (nI n0)), some (.int (nI t)), some (.int (nI x)), some (.long (nL u)), none, some (.long (nL (t ^ n0))), none, some (.int (nI e)), some (.long (nL (w0 * (t - 1)))), none, some (.int q_)]) (nI_add j 1) ?_
      refine me_seg 1 (pc1 := 121) (ls1 := [some (.ref 138), some (.int (nI p)), some (.int (nI n0)), some (.int (nI t)), some (.int (nI x)), some (.long (nL u)), none, some (.long (nL (t ^ n0))), none, some (.int (nI e)), some (.long (nL (w0 * (t - 1)))), none, some (.int (nI (j + 1)))]) (st1 := []) (M1 := (mk_M c n m kk (rT (he, ke, ki, fi, fa, or, mi, a, g, l, w, s) (er (kstep Q 0)) xi xw im le nu rf ln nn vp xn xc vs))) (fun f => rfl) ?_
      exact IH (j + 1) (w0 * (t - 1)) (kstep Q 0) xw vp xn xc vs (by omega) ⟨(er_len (kV_step hQ 0)), (by assumption), (by assumption), (by assumption)⟩ (kV_step hQ 0) (by first | omega | (rw [kst_step]; omega)) (g0.trans (kpk_0 (by omega))) (by rw [kpd_0 (by omega), ← g1])
    · refine me_seg 3 (pc1 := 148) (ls1 := [some (.ref 138), some (.int (nI p)), some (.int (nI n0)), some (.int (nI t)), some (.int (nI x)), some (.long (nL u)), none, some (.long (nL (t ^ n0))), none, some (.int (nI e)), some (.long (nL w0)), none, some (.int (nI j))]) (st1 := [.long ((nL w0) * 1)]) (M1 := (mk_M c n m kk (rT (he, ke, ki, fi, fa, or, mi, a, g, l, w, s) (er Q) xi xw im le nu rf ln nn vp xn xc vs))) (fun f => rfl) ?_
      refine me_lv (nL_mul (a := w0) (b := 1) (by omega) (by omega) (Nat.lt_of_le_of_lt (Nat.mul_le_mul (hw0) (Nat.le_refl 1)) (by decide))) ?_
      refine me_seg 5 (pc1 := 158) (ls1 := [some (.ref 138), some (.int (nI p)), some (.int (nI n0)), some (.int (nI t)), some (.int (nI x)), some (.long (nL u)), none, some (.long (nL (t ^ n0))), none, some (.int (nI e)), some (.long (nL (w0 * 1))), none, some (.int (nI j))]) (st1 := [.int (nI j), .int (nI e), .ref 140]) (M1 := (mk_M c n m kk (rT (he, ke, ki, fi, fa, or, mi, a, g, l, w, s) (er Q) xi xw im le nu rf ln nn vp xn xc vs))) (fun f => rfl) ?_
      refine me_call (y := 151) (y0 := 161) (L := [some (.int (nI e)), some (.int (nI j))]) (rest := [.ref 140]) (rr := some (.int (nI (kbt e j)))) (M1 := (mk_M c n m kk (rT (he, ke, ki, fi, fa, or, mi, a, g, l, w, s) (er Q) xi xw im le nu rf ln nn vp xn xc vs))) (fun f => rfl) (mf_has e j (by omega) (by omega) _) ?_
      refine me_f (C := (nI (kbt e j)) = 0) (nI_eqf (a := kbt e j) (b := 0) (by omega)) (fun f => rfl) ?_
      refine me_seg 2 (pc1 := 169) (ls1 := [some (.ref 138), some (.int (nI p)), some (.int (nI n0)), some (.int (nI t)), some (.int (nI x)), some (.long (nL u)), none, some (.long (nL (t ^ n0))), none, some (.int (nI e)), some (.long (nL (w0 * 1))), none, some (.int (nI j))]) (st1 := [.int 5, .ref 140]) (M1 := (mk_M c n m kk (rT (he, ke, ki, fi, fa, or, mi, a, g, l, w, s) (er Q) xi xw im le nu rf ln nn vp xn xc vs))) (fun f => rfl) ?_
      refine me_call (y := 146) (y0 := 172) (L := [some (.ref 140), some (.int 5), none, none, none]) (rest := []) (rr := none) (M1 := (mk_M c n m kk (rT (he, ke, ki, fi, fa, or, mi, a, g, l, w, s) (er (kstep Q 5)) xi xw im le nu rf ln nn vp xn xc vs))) (fun f => rfl) (rl_m c n m kk (rT (he, ke, ki, fi, fa, or, mi, a, g, l, w, s) (er Q) xi xw im le nu rf ln nn vp xn xc vs) (rc_stepQ Q 5 (by decide) hQ (Nat.lt_trans (m := 2 ^ 20) (by omega) (by decide))) rfl) ?_
      refine me_seg 1 (pc1 := 175) (ls1 := [some (.ref 138), some (.int (nI p)), some (.int (nI n0)), some (.int (nI t)), some (.int (nI x)), some (.long (nL u)), none, some (.long (nL (t ^ n0))), none, some (.int (nI e)), some (.long (nL (w0 * 1))), none, some (.int ((nI j) + 1))]) (st1 := []) (M1 := (mk_M c n m kk (rT (he, ke, ki, fi, fa, or, mi, a, g, l, w, s) (er (kstep Q 5)) xi xw im le nu rf ln nn vp xn xc vs))) (fun f => rfl) ?_
      refine me_l (fun q_ => [some (.ref 138), some (.int (nI p)), some (.int (nI n0)), some (.int (nI t)), some (.int (nI x)), some (.long (nL u)), none, some (.long (nL (t ^ n0))), none, some (.int (nI e)), some (.long (nL (w0 * 1))), none, some (.int q_)]) (nI_add j 1) ?_
      refine me_seg 1 (pc1 := 121) (ls1 := [some (.ref 138), some (.int (nI p)), some (.int (nI n0)), some (.int (nI t)), some (.int (nI x)), some (.long (nL u)), none, some (.long (nL (t ^ n0))), none, some (.int (nI e)), some (.long (nL (w0 * 1))), none, some (.int (nI (j + 1)))]) (st1 := []) (M1 := (mk_M c n m kk (rT (he, ke, ki, fi, fa, or, mi, a, g, l, w, s) (er (kstep Q 5)) xi xw im le nu rf ln nn vp xn xc vs))) (fun f => rfl) ?_
      exact IH (j + 1) (w0 * 1) (kstep Q 5) xw vp xn xc vs (by omega) ⟨(er_len (kV_step hQ 5)), (by assumption), (by assumption), (by assumption)⟩ (kV_step hQ 5) (by first | omega | (rw [kst_step]; omega)) (g0.trans (kpk_1 (by omega))) (by rw [kpd_1 (by omega), ← g1])
set_option maxRecDepth 100000 in
theorem tm_pl96 (he ke ki fi fa or : List Nat) (mi a g l w s : Nat) (xi : List Int32) (im : Nat) (le nu rf : List Nat) (ln nn : Nat) (c : cC) (n m kk : kG) (hA : iA (he, ke, ki, fi, fa, or, mi, a, g, l, w, s)) (hC : iC nu nn) (p n0 t x : Nat) (hp : p < 25) (hn : n0 ≤ 7) (ht1 : 2 ≤ t) (ht : t ≤ 20) (hx : x < 2) (N2 : Nat) (hN : N2 = 2 ^ n0) (A : Nat) (k : Nat) : ∀ (j : Nat) (u : Nat) (lo10 : Option Value) (lo12 : Option Value) (xm xw : List Int32) (vp : Int32) (xn xc : List Int32) (vs : Int32), j + k = N2 → iR xm xw xn xc → A = kpa (he, ke, ki, fi, fa, or, mi, a, g, l, w, s) n0 t p k j u → u ≤ j * 1280000000 → mm_E 197 96 [some (.ref 138), some (.int (nI p)), some (.int (nI n0)), some (.int (nI t)), some (.int (nI x)), some (.long (nL u)), none, some (.long (nL (t ^ n0))), none, some (.int (nI j)), lo10, none, lo12] [] (mk_M c n m kk (rT (he, ke, ki, fi, fa, or, mi, a, g, l, w, s) xm xi xw im le nu rf ln nn vp xn xc vs)) (pM (fun r => r = some (.long (nL (kfr A (t ^ n0) x)))) (he, ke, ki, fi, fa, or, mi, a, g, l, w, s) xi im le nu rf ln nn c n m kk) := by
  obtain ⟨hV, hst⟩ := id hA
  have hst2 : s ≤ 999 := hst
  obtain ⟨v1, v2, v3, v4, v5, v6, v7, v8, v9, v10, v11, v12, v13, v14, v15, v16⟩ := id hV
  have v6l := kO_len mi v7 or v6
  obtain ⟨c1, c2, c3⟩ := id hC
  induction k with
  | zero =>
    intro j u lo10 lo12 xm xw vp xn xc vs hj hR g0 g1
    obtain ⟨r1, r2, r3, r4⟩ := id hR
    have hN2 : N2 ≤ 128 := by rw [hN]; exact k_2n n0 (by omega)
    have hpt := kpw_le (b := t) (m := n0) ht hn
    have hpp : 0 < t ^ n0 := Nat.pow_pos (by omega)
    have hkc := kpc_le j n0
    have hpu := kpw_le (b := t - 1) (m := n0 - kpc j n0) (by omega) (by omega)
    have hka := kV_at (kV_pk n0 0 j hV)
    refine me_seg 4 (pc1 := 101) (ls1 := [some (.ref 138), some (.int (nI p)), some (.int (nI n0)), some (.int (nI t)), some (.int (nI x)), some (.long (nL u)), none, some (.long (nL (t ^ n0))), none, some (.int (nI j)), lo10, none, lo12]) (st1 := [.int ((1 : Int32) <<< ((nI n0) &&& 31)), .int (nI j)]) (M1 := (mk_M c n m kk (rT (he, ke, ki, fi, fa, or, mi, a, g, l, w, s) xm xi xw im le nu rf ln nn vp xn xc vs))) (fun f => rfl) ?_
    refine me_v (show (1 : Int32) <<< (nI n0 &&& 31) = nI N2 by rw [hN]; exact k_sh1 n0 (by omega)) ?_
    refine me_t (C := (nI N2) ≤ (nI j)) (nI_let (a := N2) (b := j) (by omega)) (fun f => rfl) ?_
    refine me_seg 3 (pc1 := 211) (ls1 := [some (.ref 138), some (.int (nI p)), some (.int (nI n0)), some (.int (nI t)), some (.int (nI x)), some (.long (nL u)), none, some (.long (nL (t ^ n0))), none, some (.int (nI j)), lo10, none, lo12]) (st1 := [.int (nI x), .long (nL (t ^ n0)), .long (nL u)]) (M1 := (mk_M c n m kk (rT (he, ke, ki, fi, fa, or, mi, a, g, l, w, s) xm xi xw im le nu rf ln nn vp xn xc vs))) (fun f => rfl) ?_
    refine me_call (y := 199) (y0 := 214) (L := [some (.long (nL u)), none, some (.long (nL (t ^ n0))), none, some (.int (nI x))]) (rest := []) (rr := some (.long (nL (kfr u (t ^ n0) x)))) (M1 := (mk_M c n m kk (rT (he, ke, ki, fi, fa, or, mi, a, g, l, w, s) xm xi xw im le nu rf ln nn vp xn xc vs))) (fun f => rfl) (mf_po u (t ^ n0) x (by omega) (by omega) (by omega) (by omega) _) ?_
    refine me_ret 1 (r := some (.long (nL (kfr u (t ^ n0) x)))) (M1 := (mk_M c n m kk (rT (he, ke, ki, fi, fa, or, mi, a, g, l, w, s) xm xi xw im le nu rf ln nn vp xn xc vs))) (fun f => rfl) ?_
    exact ⟨(by rw [g0]; rfl), _, _, _, _, _, _, rfl, ⟨(by assumption), (by assumption), (by assumption), (by assumption)⟩⟩
  | succ k IH =>
    intro j u lo10 lo12 xm xw vp xn xc vs hj hR g0 g1
    obtain ⟨r1, r2, r3, r4⟩ := id hR
    have hN2 : N2 ≤ 128 := by rw [hN]; exact k_2n n0 (by omega)
    have hpt := kpw_le (b := t) (m := n0) ht hn
    have hpp : 0 < t ^ n0 := Nat.pow_pos (by omega)
    have hkc := kpc_le j n0
    have hpu := kpw_le (b := t - 1) (m := n0 - kpc j n0) (by omega) (by omega)
    have hka := kV_at (kV_pk n0 0 j hV)
    refine me_seg 4 (pc1 := 101) (ls1 := [some (.ref 138), some (.int (nI p)), some (.int (nI n0)), some (.int (nI t)), some (.int (nI x)), some (.long (nL u)), none, some (.long (nL (t ^ n0))), none, some (.int (nI j)), lo10, none, lo12]) (st1 := [.int ((1 : Int32) <<< ((nI n0) &&& 31)), .int (nI j)]) (M1 := (mk_M c n m kk (rT (he, ke, ki, fi, fa, or, mi, a, g, l, w, s) xm xi xw im le nu rf ln nn vp xn xc vs))) (fun f => rfl) ?_
    refine me_v (show (1 : Int32) <<< (nI n0 &&& 31) = nI N2 by rw [hN]; exact k_sh1 n0 (by omega)) ?_
    refine me_f (C := (nI N2) ≤ (nI j)) (nI_lef (a := N2) (b := j) (by omega)) (fun f => rfl) ?_
    refine me_seg 6 (pc1 := 115) (ls1 := [some (.ref 138), some (.int (nI p)), some (.int (nI n0)), some (.int (nI t)), some (.int (nI x)), some (.long (nL u)), none, some (.long (nL (t ^ n0))), none, some (.int (nI j)), some (.long 1), none, lo12]) (st1 := [.ref 140, .ref 139]) (M1 := (mk_M c n m kk (rT (he, ke, ki, fi, fa, or, mi, a, g, l, w, s) xm xi xw im le nu rf ln nn vp xn xc vs))) (fun f => rfl) ?_
    refine me_call (y := 138) (y0 := 118) (L := [some (.ref 139), some (.ref 140), none]) (rest := []) (rr := none) (M1 := (mk_M c n m kk (rT (he, ke, ki, fi, fa, or, mi, a, g, l, w, s) (er (he, ke, ki, fi, fa, or, mi, a, g, l, w, s)) xi xw im le nu rf ln nn vp xn xc vs))) (fun f => rfl) (rc_copies (a := 140) (b := 139) (by decide) rfl rfl (er_len hV) (by assumption)) ?_
    refine me_seg 2 (pc1 := 121) (ls1 := [some (.ref 138), some (.int (nI p)), some (.int (nI n0)), some (.int (nI t)), some (.int (nI x)), some (.long (nL u)), none, some (.long (nL (t ^ n0))), none, some (.int (nI j)), some (.long 1), none, some (.int 0)]) (st1 := []) (M1 := (mk_M c n m kk (rT (he, ke, ki, fi, fa, or, mi, a, g, l, w, s) (er (he, ke, ki, fi, fa, or, mi, a, g, l, w, s)) xi xw im le nu rf ln nn vp xn xc vs))) (fun f => rfl) ?_
    refine tm_pl121 he ke ki fi fa or mi a g l w s xi im le nu rf ln nn c n m kk hA hC p n0 t x hp hn ht1 ht hx A u j (by omega) (Nat.le_trans g1 (Nat.mul_le_mul_right _ (by omega))) _ ?_ n0 0 1 (he, ke, ki, fi, fa, or, mi, a, g, l, w, s) xw vp xn xc vs (by omega) ⟨(er_len hV), (by assumption), (by assumption), (by assumption)⟩ hV (show s + n0 < 2 ^ 20 by omega) rfl rfl
    intro u2 lo10 lo12 xm xw vp xn xc vs hR hu2
    by_cases hq : k_at (kpk n0 0 j (he, ke, ki, fi, fa, or, mi, a, g, l, w, s)) = p
    · rw [if_pos hq, kpd_eq] at hu2
      exact IH (j + 1) u2 lo10 lo12 xm xw vp xn xc vs (by omega) hR (by rw [g0, kpa_y hq, hu2]) (by omega)
    · rw [if_neg hq] at hu2
      exact IH (j + 1) u2 lo10 lo12 xm xw vp xn xc vs (by omega) hR (by rw [g0, kpa_n hq]; subst hu2; rfl) (by subst hu2; exact Nat.le_trans g1 (Nat.mul_le_mul_right _ (Nat.le_succ j)))
set_option maxRecDepth 100000 in
theorem tm_pl74 (he ke ki fi fa or : List Nat) (mi a g l w s : Nat) (xi : List Int32) (im : Nat) (le nu rf : List Nat) (ln nn : Nat) (c : cC) (n m kk : kG) (hA : iA (he, ke, ki, fi, fa, or, mi, a, g, l, w, s)) (hC : iC nu nn) (p n0 t x : Nat) (hp : p < 25) (hn : n0 ≤ 7) (ht1 : 2 ≤ t) (ht : t ≤ 20) (hx : x < 2) (k : Nat) : ∀ (j : Nat)  (xm xw : List Int32) (vp : Int32) (xn xc : List Int32) (vs : Int32), j + k = n0 → iR xm xw xn xc → mm_E 197 74 [some (.ref 138), some (.int (nI p)), some (.int (nI n0)), some (.int (nI t)), some (.int (nI x)), some (.long 0), none, some (.long (nL (t ^ j))), none, some (.int (nI j)), none, none, none] [] (mk_M c n m kk (rT (he, ke, ki, fi, fa, or, mi, a, g, l, w, s) xm xi xw im le nu rf ln nn vp xn xc vs)) (pM (fun r => r = some (.long (nL (kfr (kpa (he, ke, ki, fi, fa, or, mi, a, g, l, w, s) n0 t p (2 ^ n0) 0 0) (t ^ n0) x)))) (he, ke, ki, fi, fa, or, mi, a, g, l, w, s) xi im le nu rf ln nn c n m kk) := by
  obtain ⟨hV, hst⟩ := id hA
  have hst2 : s ≤ 999 := hst
  obtain ⟨v1, v2, v3, v4, v5, v6, v7, v8, v9, v10, v11, v12, v13, v14, v15, v16⟩ := id hV
  have v6l := kO_len mi v7 or v6
  obtain ⟨c1, c2, c3⟩ := id hC
  induction k with
  | zero =>
    intro j xm xw vp xn xc vs hj hR
    obtain ⟨r1, r2, r3, r4⟩ := id hR
    have hpj := kpw_le (b := t) (m := j) ht (by omega)
    refine me_seg 2 (pc1 := 77) (ls1 := [some (.ref 138), some (.int (nI p)), some (.int (nI n0)), some (.int (nI t)), some (.int (nI x)), some (.long 0), none, some (.long (nL (t ^ j))), none, some (.int (nI j)), none, none, none]) (st1 := [.int (nI n0), .int (nI j)]) (M1 := (mk_M c n m kk (rT (he, ke, ki, fi, fa, or, mi, a, g, l, w, s) xm xi xw im le nu rf ln nn vp xn xc vs))) (fun f => rfl) ?_
    refine me_t (C := (nI n0) ≤ (nI j)) (nI_let (a := n0) (b := j) (by omega)) (fun f => rfl) ?_
    refine me_seg 2 (pc1 := 96) (ls1 := [some (.ref 138), some (.int (nI p)), some (.int (nI n0)), some (.int (nI t)), some (.int (nI x)), some (.long 0), none, some (.long (nL (t ^ j))), none, some (.int 0), none, none, none]) (st1 := []) (M1 := (mk_M c n m kk (rT (he, ke, ki, fi, fa, or, mi, a, g, l, w, s) xm xi xw im le nu rf ln nn vp xn xc vs))) (fun f => rfl) ?_
    rw [show j = n0 by omega]
    exact tm_pl96 he ke ki fi fa or mi a g l w s xi im le nu rf ln nn c n m kk hA hC p n0 t x hp hn ht1 ht hx (2 ^ n0) rfl _ (2 ^ n0) 0 0 none none xm xw vp xn xc vs (Nat.zero_add _) ⟨(by assumption), (by assumption), (by assumption), (by assumption)⟩ rfl (by omega)
  | succ k IH =>
    intro j xm xw vp xn xc vs hj hR
    obtain ⟨r1, r2, r3, r4⟩ := id hR
    have hpj := kpw_le (b := t) (m := j) ht (by omega)
    refine me_seg 2 (pc1 := 77) (ls1 := [some (.ref 138), some (.int (nI p)), some (.int (nI n0)), some (.int (nI t)), some (.int (nI x)), some (.long 0), none, some (.long (nL (t ^ j))), none, some (.int (nI j)), none, none, none]) (st1 := [.int (nI n0), .int (nI j)]) (M1 := (mk_M c n m kk (rT (he, ke, ki, fi, fa, or, mi, a, g, l, w, s) xm xi xw im le nu rf ln nn vp xn xc vs))) (fun f => rfl) ?_
    refine me_f (C := (nI n0) ≤ (nI j)) (nI_lef (a := n0) (b := j) (by omega)) (fun f => rfl) ?_
    refine me_seg 3 (pc1 := 84) (ls1 := [some (.ref 138), some (.int (nI p)), some (.int (nI n0)), some (.int (nI t)), some (.int (nI x)), some (.long 0), none, some (.long (nL (t ^ j))), none, some (.int (nI j)), none, none, none]) (st1 := [.long ((nI t).toInt64), .long (nL (t ^ j))]) (M1 := (mk_M c n m kk (rT (he, ke, ki, fi, fa, or, mi, a, g, l, w, s) xm xi xw im le nu rf ln nn vp xn xc vs))) (fun f => rfl) ?_
    refine me_lv (nL_i2l (a := t) (by omega)) ?_
    refine me_seg 1 (pc1 := 85) (ls1 := [some (.ref 138), some (.int (nI p)), some (.int (nI n0)), some (.int (nI t)), some (.int (nI x)), some (.long 0), none, some (.long (nL (t ^ j))), none, some (.int (nI j)), none, none, none]) (st1 := [.long ((nL (t ^ j)) * (nL t))]) (M1 := (mk_M c n m kk (rT (he, ke, ki, fi, fa, or, mi, a, g, l, w, s) xm xi xw im le nu rf ln nn vp xn xc vs))) (fun f => rfl) ?_
    refine me_lv (nL_mul (a := t ^ j) (b := t) (by omega) (by omega) (Nat.lt_of_le_of_lt (Nat.mul_le_mul (hpj) (ht)) (by decide))) ?_
    refine me_seg 2 (pc1 := 90) (ls1 := [some (.ref 138), some (.int (nI p)), some (.int (nI n0)), some (.int (nI t)), some (.int (nI x)), some (.long 0), none, some (.long (nL ((t ^ j) * t))), none, some (.int ((nI j) + 1)), none, none, none]) (st1 := []) (M1 := (mk_M c n m kk (rT (he, ke, ki, fi, fa, or, mi, a, g, l, w, s) xm xi xw im le nu rf ln nn vp xn xc vs))) (fun f => rfl) ?_
    refine me_l (fun q_ => [some (.ref 138), some (.int (nI p)), some (.int (nI n0)), some (.int (nI t)), some (.int (nI x)), some (.long 0), none, some (.long (nL ((t ^ j) * t))), none, some (.int q_), none, none, none]) (nI_add j 1) ?_
    refine me_seg 1 (pc1 := 74) (ls1 := [some (.ref 138), some (.int (nI p)), some (.int (nI n0)), some (.int (nI t)), some (.int (nI x)), some (.long 0), none, some (.long (nL ((t ^ j) * t))), none, some (.int (nI (j + 1))), none, none, none]) (st1 := []) (M1 := (mk_M c n m kk (rT (he, ke, ki, fi, fa, or, mi, a, g, l, w, s) xm xi xw im le nu rf ln nn vp xn xc vs))) (fun f => rfl) ?_
    exact IH (j + 1)  xm xw vp xn xc vs (by omega) ⟨(by assumption), (by assumption), (by assumption), (by assumption)⟩
set_option maxRecDepth 100000 in
theorem tm_plank (he ke ki fi fa or : List Nat) (mi a g l w s : Nat) (xi : List Int32) (im : Nat) (le nu rf : List Nat) (ln nn : Nat) (c : cC) (n m kk : kG) (hA : iA (he, ke, ki, fi, fa, or, mi, a, g, l, w, s)) (hC : iC nu nn) (xm xw : List Int32) (vp : Int32) (xn xc : List Int32) (vs : Int32) (hR : iR xm xw xn xc) (p n0 t x : Nat) (hp : p < 25) (hn : n0 ≤ 7) (ht1 : 2 ≤ t) (ht : t ≤ 20) (hx : x < 2) : mm_E 197 0 [some (.ref 138), some (.int (nI p)), some (.int (nI n0)), some (.int (nI t)), some (.int (nI x)), none, none, none, none, none, none, none, none] [] (mk_M c n m kk (rT (he, ke, ki, fi, fa, or, mi, a, g, l, w, s) xm xi xw im le nu rf ln nn vp xn xc vs)) (pM (fun r => r = some (.long (nL (kfr (kpa (he, ke, ki, fi, fa, or, mi, a, g, l, w, s) n0 t p (2 ^ n0) 0 0) (t ^ n0) x)))) (he, ke, ki, fi, fa, or, mi, a, g, l, w, s) xi im le nu rf ln nn c n m kk) := by
  obtain ⟨hV, hst⟩ := id hA
  have hst2 : s ≤ 999 := hst
  obtain ⟨v1, v2, v3, v4, v5, v6, v7, v8, v9, v10, v11, v12, v13, v14, v15, v16⟩ := id hV
  have v6l := kO_len mi v7 or v6
  obtain ⟨c1, c2, c3⟩ := id hC
  obtain ⟨r1, r2, r3, r4⟩ := id hR
  refine me_seg 1 (pc1 := 1) (ls1 := [some (.ref 138), some (.int (nI p)), some (.int (nI n0)), some (.int (nI t)), some (.int (nI x)), none, none, none, none, none, none, none, none]) (st1 := [.int (nI p)]) (M1 := (mk_M c n m kk (rT (he, ke, ki, fi, fa, or, mi, a, g, l, w, s) xm xi xw im le nu rf ln nn vp xn xc vs))) (fun f => rfl) ?_
  refine me_call (y := 140) (y0 := 4) (L := [some (.int (nI p))]) (rest := []) (rr := some (.int 1)) (M1 := (mk_M c n m kk (rT (he, ke, ki, fi, fa, or, mi, a, g, l, w, s) xm xi xw im le nu rf ln nn vp xn xc vs))) (fun f => rfl) (ms_c2_ok (x := (nI p)) (nI_ltf (a := p) (b := 0) (by omega)) (nI_ltf (a := 24) (b := p) (by omega))) ?_
  refine me_seg 2 (pc1 := 14) (ls1 := [some (.ref 138), some (.int (nI p)), some (.int (nI n0)), some (.int (nI t)), some (.int (nI x)), none, none, none, none, none, none, none, none]) (st1 := [.int (nI n0)]) (M1 := (mk_M c n m kk (rT (he, ke, ki, fi, fa, or, mi, a, g, l, w, s) xm xi xw im le nu rf ln nn vp xn xc vs))) (fun f => rfl) ?_
  refine me_f (C := (nI n0) < 0) (nI_ltf (a := n0) (b := 0) (by omega)) (fun f => rfl) ?_
  refine me_seg 2 (pc1 := 19) (ls1 := [some (.ref 138), some (.int (nI p)), some (.int (nI n0)), some (.int (nI t)), some (.int (nI x)), none, none, none, none, none, none, none, none]) (st1 := [.int 2, .int (nI t)]) (M1 := (mk_M c n m kk (rT (he, ke, ki, fi, fa, or, mi, a, g, l, w, s) xm xi xw im le nu rf ln nn vp xn xc vs))) (fun f => rfl) ?_
  refine me_t (C := 2 ≤ (nI t)) (nI_let (a := 2) (b := t) (by omega)) (fun f => rfl) ?_
  refine me_seg 2 (pc1 := 32) (ls1 := [some (.ref 138), some (.int (nI p)), some (.int (nI n0)), some (.int (nI t)), some (.int (nI x)), none, none, none, none, none, none, none, none]) (st1 := [.int 7, .int (nI n0)]) (M1 := (mk_M c n m kk (rT (he, ke, ki, fi, fa, or, mi, a, g, l, w, s) xm xi xw im le nu rf ln nn vp xn xc vs))) (fun f => rfl) ?_
  refine me_f (C := 7 < (nI n0)) (nI_ltf (a := 7) (b := n0) (by omega)) (fun f => rfl) ?_
  refine me_seg 2 (pc1 := 38) (ls1 := [some (.ref 138), some (.int (nI p)), some (.int (nI n0)), some (.int (nI t)), some (.int (nI x)), none, none, none, none, none, none, none, none]) (st1 := [.int 20, .int (nI t)]) (M1 := (mk_M c n m kk (rT (he, ke, ki, fi, fa, or, mi, a, g, l, w, s) xm xi xw im le nu rf ln nn vp xn xc vs))) (fun f => rfl) ?_
  refine me_t (C := (nI t) ≤ 20) (nI_let (a := t) (b := 20) (by omega)) (fun f => rfl) ?_
  refine me_seg 3 (pc1 := 52) (ls1 := [some (.ref 138), some (.int (nI p)), some (.int (nI n0)), some (.int (nI t)), some (.int (nI x)), none, none, none, none, none, none, none, none]) (st1 := [.int 1, .int 0, .int (nI x)]) (M1 := (mk_M c n m kk (rT (he, ke, ki, fi, fa, or, mi, a, g, l, w, s) xm xi xw im le nu rf ln nn vp xn xc vs))) (fun f => rfl) ?_
  refine me_call (y := 135) (y0 := 55) (L := [some (.int (nI x)), some (.int 0), some (.int 1)]) (rest := []) (rr := some (.int 1)) (M1 := (mk_M c n m kk (rT (he, ke, ki, fi, fa, or, mi, a, g, l, w, s) xm xi xw im le nu rf ln nn vp xn xc vs))) (fun f => rfl) (ms_in_ok (x := (nI x)) (a := 0) (b := 1) (nI_ltf (a := x) (b := 0) (by omega)) (nI_ltf (a := 1) (b := x) (by omega))) ?_
  refine me_seg 7 (pc1 := 74) (ls1 := [some (.ref 138), some (.int (nI p)), some (.int (nI n0)), some (.int (nI t)), some (.int (nI x)), some (.long 0), none, some (.long 1), none, some (.int 0), none, none, none]) (st1 := []) (M1 := (mk_M c n m kk (rT (he, ke, ki, fi, fa, or, mi, a, g, l, w, s) xm xi xw im le nu rf ln nn vp xn xc vs))) (fun f => rfl) ?_
  exact tm_pl74 he ke ki fi fa or mi a g l w s xi im le nu rf ln nn c n m kk hA hC p n0 t x hp hn ht1 ht hx n0 0 xm xw vp xn xc vs (by omega) ⟨(by assumption), (by assumption), (by assumption), (by assumption)⟩
theorem ot_plank {M : mm_H} (hM : kInv M) (x : Int32) (y : Int32) (z : Int32) (t : Int32) : oL 107 197 [some (.ref 100), some (.int x), some (.int y), some (.int z), some (.int t), none, none, none] [some (.ref 138), some (.int x), some (.int y), some (.int z), some (.int t), none, none, none, none, none, none, none, none] M := by
  obtain ⟨K, m, kk, im, le, ln, ys, vt, nu, nn, rf, vw, vq, yc, yh, yg, xm, xi, xw, vp, xn, xc, vs, rfl, hA, hB, hC, hD, hJ, hR, hK⟩ := hM
  obtain ⟨he, ke, ki, fi, fa, or, mi, a, g, l, w, s⟩ := K
  have v7 : mi ≤ 5 := hA.1.2.2.2.2.2.2.1
  rcases k_cs x 25 0 24 rfl rfl with hx | hx | ⟨x_, hx_, rfl⟩
  · exact oe_plank_0 he ke ki fi fa or mi a g l w s m kk im le ln ys vt nu nn rf vw vq yc yh yg xm xi xw vp xn xc vs hA hB hC hD hJ hR hK x hx y z t
  · exact oe_plank_1 he ke ki fi fa or mi a g l w s m kk im le ln ys vt nu nn rf vw vq yc yh yg xm xi xw vp xn xc vs hA hB hC hD hJ hR hK x hx y z t
  · rcases (show y.toInt ≤ -1 ∨ 0 ≤ y.toInt by omega) with hy | hy
    · exact oe_plank_2 he ke ki fi fa or mi a g l w s m kk im le ln ys vt nu nn rf vw vq yc yh yg xm xi xw vp xn xc vs hA hB hC hD hJ hR hK x_ hx_ y hy z t
    · rcases (show z.toInt ≤ 1 ∨ 2 ≤ z.toInt by omega) with hz | hz
      · exact oe_plank_3 he ke ki fi fa or mi a g l w s m kk im le ln ys vt nu nn rf vw vq yc yh yg xm xi xw vp xn xc vs hA hB hC hD hJ hR hK x_ hx_ y hy z hz t
      · rcases (show 8 ≤ y.toInt ∨ y.toInt < 8 by omega) with hy2 | hy2
        · exact oe_plank_4 he ke ki fi fa or mi a g l w s m kk im le ln ys vt nu nn rf vw vq yc yh yg xm xi xw vp xn xc vs hA hB hC hD hJ hR hK x_ hx_ y hy2 z hz t
        · obtain ⟨y_, hy_, rfl⟩ := k_in 8 hy hy2
          rcases (show 21 ≤ z.toInt ∨ z.toInt < 21 by omega) with hz2 | hz2
          · exact oe_plank_5 he ke ki fi fa or mi a g l w s m kk im le ln ys vt nu nn rf vw vq yc yh yg xm xi xw vp xn xc vs hA hB hC hD hJ hR hK x_ hx_ y_ hy_ z hz2 t
          · obtain ⟨z_, hz_, rfl⟩ := k_in (x := z) 21 (by omega) hz2
            have hz1 : 2 ≤ z_ := by rw [nI_toInt (by omega)] at hz; omega
            rcases k_cs t 2 0 1 rfl rfl with ht | ht | ⟨t_, ht_, rfl⟩
            · exact oe_plank_6 he ke ki fi fa or mi a g l w s m kk im le ln ys vt nu nn rf vw vq yc yh yg xm xi xw vp xn xc vs hA hB hC hD hJ hR hK x_ hx_ y_ hy_ z_ hz1 (by omega) t ht
            · exact oe_plank_7 he ke ki fi fa or mi a g l w s m kk im le ln ys vt nu nn rf vw vq yc yh yg xm xi xw vp xn xc vs hA hB hC hD hJ hR hK x_ hx_ y_ hy_ z_ hz1 (by omega) t ht
            · exact oL_of (nL (kfr (kpa (he, ke, ki, fi, fa, or, mi, a, g, l, w, s) y_ z_ x_ (2 ^ y_) 0 0) (z_ ^ y_) t_)) hA hB hC hD hK (tc_plank he ke ki fi fa or mi a g l w s im le ln ys vt nu nn rf kk _ hA hC vw vq yc yh yg m hJ x_ y_ z_ t_ hx_ (by omega) hz1 (by omega) ht_) (fun c n m kk => tm_plank he ke ki fi fa or mi a g l w s xi im le nu rf ln nn c n m kk hA hC xm xw vp xn xc vs hR x_ y_ z_ t_ hx_ (by omega) hz1 (by omega) ht_)
