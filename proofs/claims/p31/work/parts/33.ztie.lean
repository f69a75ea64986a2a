/-! ===== a call, tied ===== -/
theorem oI_of {K : kK} {m kk : kG} {im : Nat} {le : List Nat} {ln : Nat} {ys : List Int32} {vt : Int32} {nu : List Nat} {nn : Nat} {rf : List Nat} {vw vq : Int32} {yc yh yg xm xi xw : List Int32} {vp : Int32} {xn xc : List Int32} {vs : Int32} {nn2 : Nat} (V : Int32) (hA : iA K) (hB : iB le ln) (hC2 : iC nu nn2) (hD : iD rf) (hK : iK im kk xi) {zc zm : Nat} {lc lm : mm_L}
    (h1 : mm_E zc 0 lc [] (mk_M (cT im le ln ys vt nu nn rf vw vq yc yh yg) (kr K) m kk (rT K xm xi xw im le nu rf ln nn vp xn xc vs)) (pC (fun r => r = some (.int V)) K im le ln ys vt nu nn2 rf kk (rT K xm xi xw im le nu rf ln nn vp xn xc vs)))
    (h2 : ∀ (c : cC) (n m kk : kG), mm_E zm 0 lm [] (mk_M c n m kk (rT K xm xi xw im le nu rf ln nn vp xn xc vs)) (pM (fun r => r = some (.int V)) K xi im le nu rf ln nn2 c n m kk)) : oI zc zm lc lm (mk_M (cT im le ln ys vt nu nn rf vw vq yc yh yg) (kr K) m kk (rT K xm xi xw im le nu rf ln nn vp xn xc vs)) := by
  obtain ⟨_, _, r1, rfl, vw2, vq2, yc2, yh2, yg2, m2, rfl, hJ2⟩ := h1
  obtain ⟨_, _, r2, rfl, xm2, xw2, vp2, xn2, xc2, vs2, rfl, hR2⟩ := h2 (cT im le ln ys vt nu nn2 rf vw2 vq2 yc2 yh2 yg2) (kr K) m2 kk
  exact ⟨V, _, _, r1, r2, K, m2, kk, im, le, ln, ys, vt, nu, nn2, rf, vw2, vq2, yc2, yh2, yg2, xm2, xi, xw2, vp2, xn2, xc2, vs2, rfl, hA, hB, hC2, hD, hJ2, hR2, hK⟩
theorem oL_of {K : kK} {m kk : kG} {im : Nat} {le : List Nat} {ln : Nat} {ys : List Int32} {vt : Int32} {nu : List Nat} {nn : Nat} {rf : List Nat} {vw vq : Int32} {yc yh yg xm xi xw : List Int32} {vp : Int32} {xn xc : List Int32} {vs : Int32} (V : Int64) (hA : iA K) (hB : iB le ln) (hC2 : iC nu nn) (hD : iD rf) (hK : iK im kk xi) {zc zm : Nat} {lc lm : mm_L}
    (h1 : mm_E zc 0 lc [] (mk_M (cT im le ln ys vt nu nn rf vw vq yc yh yg) (kr K) m kk (rT K xm xi xw im le nu rf ln nn vp xn xc vs)) (pC (fun r => r = some (.long V)) K im le ln ys vt nu nn rf kk (rT K xm xi xw im le nu rf ln nn vp xn xc vs)))
    (h2 : ∀ (c : cC) (n m kk : kG), mm_E zm 0 lm [] (mk_M c n m kk (rT K xm xi xw im le nu rf ln nn vp xn xc vs)) (pM (fun r => r = some (.long V)) K xi im le nu rf ln nn c n m kk)) : oL zc zm lc lm (mk_M (cT im le ln ys vt nu nn rf vw vq yc yh yg) (kr K) m kk (rT K xm xi xw im le nu rf ln nn vp xn xc vs)) := by
  obtain ⟨_, _, r1, rfl, vw2, vq2, yc2, yh2, yg2, m2, rfl, hJ2⟩ := h1
  obtain ⟨_, _, r2, rfl, xm2, xw2, vp2, xn2, xc2, vs2, rfl, hR2⟩ := h2 (cT im le ln ys vt nu nn rf vw2 vq2 yc2 yh2 yg2) (kr K) m2 kk
  exact ⟨V, _, _, r1, r2, K, m2, kk, im, le, ln, ys, vt, nu, nn, rf, vw2, vq2, yc2, yh2, yg2, xm2, xi, xw2, vp2, xn2, xc2, vs2, rfl, hA, hB, hC2, hD, hJ2, hR2, hK⟩
def nL (n : Nat) : Int64 := Int64.ofNat n
theorem nL_toInt {n : Nat} (h : n < 2 ^ 63) : (nL n).toInt = (n : Int) := Int64.toInt_ofNat_of_lt h
theorem nL_i2l {a : Nat} (h : a < 2 ^ 31) : (nI a).toInt64 = nL a := by
  apply Int64.toInt_inj.mp
  rw [Int32.toInt_toInt64, nI_toInt h, nL_toInt (by omega)]
theorem nL_add {a b : Nat} (h : a + b < 2 ^ 62) : nL a + nL b = nL (a + b) := by
  apply Int64.toInt_inj.mp
  rw [Int64.toInt_add, nL_toInt (by omega), nL_toInt (by omega), nL_toInt (by omega), Int.bmod_eq_of_le (by omega) (by omega)]
  omega
theorem nL_mul {a b : Nat} (ha : a < 2 ^ 62) (hb : b < 2 ^ 62) (h : a * b < 2 ^ 62) : nL a * nL b = nL (a * b) := by
  apply Int64.toInt_inj.mp
  have e : ((a * b : Nat) : Int) = (a : Int) * (b : Int) := Int.natCast_mul a b
  rw [Int64.toInt_mul, nL_toInt (by omega), nL_toInt (by omega), nL_toInt (by omega), ← e, Int.bmod_eq_of_le (by omega) (by omega)]
theorem nL_z {a : Nat} (h : a < 2 ^ 62) : nL a = 0 ↔ a = 0 := by
  constructor
  · intro q
    have h1 := nL_toInt (n := a) (by omega)
    rw [q] at h1
    have h2 : (0 : Int64).toInt = 0 := by decide
    omega
  · intro q
    subst q
    rfl
theorem nL_rem {x y : Nat} (hx : x < 2 ^ 62) (hy : y < 2 ^ 62) (h0 : 0 < y) : nL x - nL x / nL y * nL y = nL (x % y) := by
  apply Int64.toInt_inj.mp
  have e : (nL x - nL x / nL y * nL y).toInt = ((nL x).toInt.tmod (nL y).toInt).bmod (2 ^ 64) := by
    rw [Int64.toInt_sub, Int64.toInt_mul, Int64.toInt_div, Int.bmod_mul_bmod, Int.sub_bmod_bmod, Int.tmod_def, Int.mul_comm]
  have h1 : x % y < y := Nat.mod_lt _ h0
  rw [e, nL_toInt (by omega), nL_toInt (by omega), nL_toInt (by omega), ← Int.ofNat_tmod, Int.bmod_eq_of_le (by omega) (by omega)]
theorem nL_div {x y : Nat} (hx : x < 2 ^ 62) (hy : y < 2 ^ 62) : nL x / nL y = nL (x / y) := by
  apply Int64.toInt_inj.mp
  have h1 : x / y ≤ x := Nat.div_le_self _ _
  rw [Int64.toInt_div, nL_toInt (show x < 2 ^ 63 by omega), nL_toInt (show y < 2 ^ 63 by omega), ← Int.ofNat_tdiv]
  generalize x / y = d at h1 ⊢
  rw [nL_toInt (by omega), Int.bmod_eq_of_le (by omega) (by omega)]
theorem nL_cmp {a : Nat} (h : a < 2 ^ 62) : lg_cmp (nL a) 0 = 0 ↔ a = 0 := k_cmp0.trans (nL_z h)
section KL16
variable {z pc : Nat} {ls : mm_L} {r : List Value} {M : mm_H} {o : Option Value × mm_H}
theorem mr_lrem {x y : Int64} {ex : List (Nat × Nat)} (hc : mm_code z pc = some (.lrem, ex)) (hy : ¬ y = 0) (h : mm_R z (pc + 1) ls (.long (x - x / y * y) :: r) M o) : mm_R z pc ls (.long y :: .long x :: r) M o := by
  obtain ⟨n, hn⟩ := h
  refine ⟨n + 1, ?_⟩
  rw [mm_xs]
  unfold mm_b
  rw [hc]
  show (if y = 0 then none else mm_x none n z (pc + 1) ls (.long (x - x / y * y) :: r) M 0 0) = some o
  rw [if_neg hy]
  exact hn
theorem mr_ldiv {x y : Int64} {ex : List (Nat × Nat)} (hc : mm_code z pc = some (.ldiv, ex)) (hy : ¬ y = 0) (h : mm_R z (pc + 1) ls (.long (x / y) :: r) M o) : mm_R z pc ls (.long y :: .long x :: r) M o := by
  obtain ⟨n, hn⟩ := h
  refine ⟨n + 1, ?_⟩
  rw [mm_xs]
  unfold mm_b
  rw [hc]
  show (if y = 0 then none else mm_x none n z (pc + 1) ls (.long (x / y) :: r) M 0 0) = some o
  rw [if_neg hy]
  exact hn
end KL16
def kgc : Nat → Nat → Nat → Nat
  | 0, x, _ => x
  | r + 1, x, y => if y = 0 then x else kgc r y (x % y)
theorem kg_rec {u v : Nat} : Nat.gcd u v = Nat.gcd v (u % v) := by
  rw [Nat.gcd_comm u v, Nat.gcd_rec v u, Nat.gcd_comm]
theorem kgc_0 (r x : Nat) : kgc r x 0 = x := by
  cases r with
  | zero => rfl
  | succ r => exact if_pos rfl
theorem kgc_s {r x y : Nat} (h : ¬ y = 0) : kgc (r + 1) x y = kgc r y (x % y) := if_neg h
theorem kgc_gcd : ∀ (k r x y : Nat), y < 2 ^ k → 2 * k ≤ r → kgc r x y = Nat.gcd x y
  | 0, r, x, y, h, _ => by
    have e : y = 0 := by
      have : y < 1 := h
      omega
    subst e
    rw [kgc_0, Nat.gcd_zero_right]
  | k + 1, r, x, y, h, hr => by
    by_cases hy : y = 0
    · subst hy
      rw [kgc_0, Nat.gcd_zero_right]
    · obtain ⟨q, rfl⟩ : ∃ q, r = q + 2 := ⟨r - 2, by omega⟩
      have h1 : x % y < y := Nat.mod_lt _ (by omega)
      rw [kgc_s hy, kg_rec (u := x)]
      by_cases hz : x % y = 0
      · rw [hz, kgc_0, Nat.gcd_zero_right]
      · have h2 : y % (x % y) < x % y := Nat.mod_lt _ (by omega)
        have h3 : y % (x % y) + x % y ≤ y := by
          have e1 := Nat.div_add_mod y (x % y)
          have e2 : 1 ≤ y / (x % y) := (Nat.le_div_iff_mul_le (by omega)).mpr (by omega)
          have e3 : x % y * 1 ≤ x % y * (y / (x % y)) := Nat.mul_le_mul_left _ e2
          omega
        rw [kgc_s hz, kg_rec (u := y)]
        refine kgc_gcd k q _ _ ?_ (by omega)
        rw [Nat.pow_succ] at h
        omega
def kfr (a b x : Nat) : Nat := (if x = 0 then a else b) / Nat.gcd a b
theorem kfr_0 {b x : Nat} (hb : 0 < b) (hx : x < 2) : kfr 0 b x = x := by
  unfold kfr
  rw [Nat.gcd_zero_left]
  by_cases h : x = 0
  · rw [if_pos h, Nat.zero_div, h]
  · rw [if_neg h, Nat.div_self hb]
    omega
theorem kgp {a b : Nat} (hb : 0 < b) : 0 < Nat.gcd a b := Nat.gcd_pos_of_pos_right a hb
theorem kgle {a b : Nat} (hb : 0 < b) : Nat.gcd a b ≤ b := Nat.gcd_le_right a hb
set_option maxRecDepth 100000 in
theorem cf_gd0 (a b : Nat) (M : mm_H) (k : Nat) : ∀ (j u v : Nat) (l1 l2 : Option Value), j + k = 200 → u < 2 ^ 62 → v < 2 ^ 62 → mm_R 113 9 [some (.long (nL a)), none, some (.long (nL b)), none, some (.long (nL u)), none, some (.long (nL v)), none, some (.int (nI j)), l1, l2] [] M (some (.long (nL (kgc k u v))), M) := by
  induction k with
  | zero =>
    intro j u v l1 l2 hj hu hv
    refine mr_seg 2 (pc1 := 14) (ls1 := [some (.long (nL a)), none, some (.long (nL b)), none, some (.long (nL u)), none, some (.long (nL v)), none, some (.int (nI j)), l1, l2]) (st1 := [.int 200, .int (nI j)]) (M1 := M) (fun f => rfl) ?_
    refine mr_t (C := 200 ≤ (nI j)) (nI_let (a := 200) (b := j) (by omega)) (fun f => rfl) ?_
    refine mr_eq (mr_ret 2 (o := (some (.long (nL u)), M)) (fun f => rfl)) ?_
    rfl
  | succ k IH =>
    intro j u v l1 l2 hj hu hv
    refine mr_seg 2 (pc1 := 14) (ls1 := [some (.long (nL a)), none, some (.long (nL b)), none, some (.long (nL u)), none, some (.long (nL v)), none, some (.int (nI j)), l1, l2]) (st1 := [.int 200, .int (nI j)]) (M1 := M) (fun f => rfl) ?_
    refine mr_f (C := 200 ≤ (nI j)) (nI_lef (a := 200) (b := j) (by omega)) (fun f => rfl) ?_
    refine mr_seg 3 (pc1 := 21) (ls1 := [some (.long (nL a)), none, some (.long (nL b)), none, some (.long (nL u)), none, some (.long (nL v)), none, some (.int (nI j)), l1, l2]) (st1 := [.int (lg_cmp (nL v) 0)]) (M1 := M) (fun f => rfl) ?_
    refine mr_ifN (C := (lg_cmp (nL v) 0) = 0) (nL_cmp (a := v) (by omega)) (fun f => rfl) (fun h1 => ?_) (fun h1 => ?_)
    · refine mr_eq (mr_ret 2 (o := (some (.long (nL u)), M)) (fun f => rfl)) ?_
      rw [h1, kgc_0]
    · refine mr_seg 2 (pc1 := 28) (ls1 := [some (.long (nL a)), none, some (.long (nL b)), none, some (.long (nL u)), none, some (.long (nL v)), none, some (.int (nI j)), l1, l2]) (st1 := [.long (nL v), .long (nL u)]) (M1 := M) (fun f => rfl) ?_
      refine mr_lrem (x := (nL u)) (y := (nL v)) rfl (fun q_ => absurd ((nL_z (a := v) (by omega)).mp q_) (by omega)) ?_
      refine mr_lv (nL_rem (x := u) (y := v) (by omega) (by omega) (by omega)) ?_
      refine mr_seg 6 (pc1 := 42) (ls1 := [some (.long (nL a)), none, some (.long (nL b)), none, some (.long (nL v)), none, some (.long (nL (u % v))), none, some (.int ((nI j) + 1)), some (.long (nL (u % v))), none]) (st1 := []) (M1 := M) (fun f => rfl) ?_
      refine mr_l (fun q_ => [some (.long (nL a)), none, some (.long (nL b)), none, some (.long (nL v)), none, some (.long (nL (u % v))), none, some (.int q_), some (.long (nL (u % v))), none]) (nI_add j 1) ?_
      refine mr_seg 1 (pc1 := 9) (ls1 := [some (.long (nL a)), none, some (.long (nL b)), none, some (.long (nL v)), none, some (.long (nL (u % v))), none, some (.int (nI (j + 1))), some (.long (nL (u % v))), none]) (st1 := []) (M1 := M) (fun f => rfl) ?_
      have hm := Nat.mod_lt u (show 0 < v by omega)
      rw [kgc_s h1]
      exact IH (j + 1) v (u % v) (some (.long (nL (u % v)))) (none) (by omega) (by omega) (by omega)
theorem cf_gd (a b : Nat) (ha : a < 2 ^ 62) (hb : b < 2 ^ 62) (M : mm_H) : mm_R 113 0 [some (.long (nL a)), none, some (.long (nL b)), none, none, none, none, none, none, none, none] [] M (some (.long (nL (Nat.gcd a b))), M) := by
  refine mr_seg 6 (pc1 := 9) (ls1 := [some (.long (nL a)), none, some (.long (nL b)), none, some (.long (nL a)), none, some (.long (nL b)), none, some (.int 0), none, none]) (st1 := []) (M1 := M) (fun f => rfl) ?_
  refine mr_eq (cf_gd0 a b M 200 0 a b none none (by omega) ha hb) ?_
  rw [kgc_gcd 62 200 a b hb (by decide)]
set_option maxRecDepth 100000 in
theorem cf_pf (a b x : Nat) (ha : a < 2 ^ 62) (hb : b < 2 ^ 62) (hb0 : 0 < b) (hx : x < 2) (M : mm_H) : mm_R 112 0 [some (.long (nL a)), none, some (.long (nL b)), none, some (.int (nI x)), none, none] [] M (some (.long (nL (kfr a b x))), M) := by
  have g1 := kgp (a := a) hb0
  have g2 := kgle (a := a) hb0
  refine mr_seg 2 (pc1 := 2) (ls1 := [some (.long (nL a)), none, some (.long (nL b)), none, some (.int (nI x)), none, none]) (st1 := [.long (nL b), .long (nL a)]) (M1 := M) (fun f => rfl) ?_
  refine mr_call (y := 113) (y0 := 5) (L := [some (.long (nL a)), none, some (.long (nL b)), none, none, none, none, none, none, none, none]) (rest := []) (rr := some (.long (nL (Nat.gcd a b)))) (M1 := M) (fun f => rfl) (cf_gd a b ha hb _) ?_
  refine mr_seg 4 (pc1 := 11) (ls1 := [some (.long (nL a)), none, some (.long (nL b)), none, some (.int (nI x)), some (.long (nL (Nat.gcd a b))), none]) (st1 := [.int (lg_cmp (nL (Nat.gcd a b)) 0)]) (M1 := M) (fun f => rfl) ?_
  refine mr_f (C := (lg_cmp (nL (Nat.gcd a b)) 0) = 0) (fun q_ => absurd ((nL_cmp (a := Nat.gcd a b) (by omega)).mp q_) (by omega)) (fun f => rfl) ?_
  refine mr_seg 1 (pc1 := 18) (ls1 := [some (.long (nL a)), none, some (.long (nL b)), none, some (.int (nI x)), some (.long (nL (Nat.gcd a b))), none]) (st1 := [.int (nI x)]) (M1 := M) (fun f => rfl) ?_
  refine mr_ifN (C := (nI x) = 0) (nI_eqi (a := x) (b := 0) (by omega)) (fun f => rfl) (fun h2 => ?_) (fun h2 => ?_)
  · refine mr_seg 3 (pc1 := 28) (ls1 := [some (.long (nL a)), none, some (.long (nL b)), none, some (.int (nI x)), some (.long (nL (Nat.gcd a b))), none]) (st1 := [.long (nL (Nat.gcd a b)), .long (nL a)]) (M1 := M) (fun f => rfl) ?_
    refine mr_ldiv (x := (nL a)) (y := (nL (Nat.gcd a b))) rfl (fun q_ => absurd ((nL_z (a := Nat.gcd a b) (by omega)).mp q_) (by omega)) ?_
    refine mr_lv (nL_div (x := a) (y := Nat.gcd a b) (by omega) (by omega)) ?_
    refine mr_eq (mr_ret 1 (o := (some (.long (nL (a / (Nat.gcd a b)))), M)) (fun f => rfl)) ?_
    rw [show kfr a b x = a / (Nat.gcd a b) from by unfold kfr; rw [if_pos h2]]
  · refine mr_seg 2 (pc1 := 28) (ls1 := [some (.long (nL a)), none, some (.long (nL b)), none, some (.int (nI x)), some (.long (nL (Nat.gcd a b))), none]) (st1 := [.long (nL (Nat.gcd a b)), .long (nL b)]) (M1 := M) (fun f => rfl) ?_
    refine mr_ldiv (x := (nL b)) (y := (nL (Nat.gcd a b))) rfl (fun q_ => absurd ((nL_z (a := Nat.gcd a b) (by omega)).mp q_) (by omega)) ?_
    refine mr_lv (nL_div (x := b) (y := Nat.gcd a b) (by omega) (by omega)) ?_
    refine mr_eq (mr_ret 1 (o := (some (.long (nL (b / (Nat.gcd a b)))), M)) (fun f => rfl)) ?_
    rw [show kfr a b x = b / (Nat.gcd a b) from by unfold kfr; rw [if_neg h2]]
set_option maxRecDepth 100000 in
theorem mf_gcd0 (a b : Nat) (M : mm_H) (k : Nat) : ∀ (u v : Nat) (l1 : Option Value), v ≤ k → u < 2 ^ 62 → v < 2 ^ 62 → mm_R 200 6 [some (.long (nL a)), none, some (.long (nL b)), none, some (.long (nL u)), none, some (.long (nL v)), none, l1, none] [] M (some (.long (nL (Nat.gcd u v))), M) := by
  induction k with
  | zero =>
    intro u v l1 hk hu hv
    refine mr_seg 3 (pc1 := 10) (ls1 := [some (.long (nL a)), none, some (.long (nL b)), none, some (.long (nL u)), none, some (.long (nL v)), none, l1, none]) (st1 := [.int (lg_cmp (nL v) 0)]) (M1 := M) (fun f => rfl) ?_
    refine mr_t (C := (lg_cmp (nL v) 0) = 0) ((nL_cmp (a := v) (by omega)).mpr (by omega)) (fun f => rfl) ?_
    refine mr_eq (mr_ret 2 (o := (some (.long (nL u)), M)) (fun f => rfl)) ?_
    rw [show v = 0 by omega, Nat.gcd_zero_right]
  | succ k IH =>
    intro u v l1 hk hu hv
    refine mr_seg 3 (pc1 := 10) (ls1 := [some (.long (nL a)), none, some (.long (nL b)), none, some (.long (nL u)), none, some (.long (nL v)), none, l1, none]) (st1 := [.int (lg_cmp (nL v) 0)]) (M1 := M) (fun f => rfl) ?_
    refine mr_ifN (C := (lg_cmp (nL v) 0) = 0) (nL_cmp (a := v) (by omega)) (fun f => rfl) (fun h1 => ?_) (fun h1 => ?_)
    · refine mr_eq (mr_ret 2 (o := (some (.long (nL u)), M)) (fun f => rfl)) ?_
      rw [h1, Nat.gcd_zero_right]
    · refine mr_seg 2 (pc1 := 17) (ls1 := [some (.long (nL a)), none, some (.long (nL b)), none, some (.long (nL u)), none, some (.long (nL v)), none, l1, none]) (st1 := [.long (nL v), .long (nL u)]) (M1 := M) (fun f => rfl) ?_
      refine mr_lrem (x := (nL u)) (y := (nL v)) rfl (fun q_ => absurd ((nL_z (a := v) (by omega)).mp q_) (by omega)) ?_
      refine mr_lv (nL_rem (x := u) (y := v) (by omega) (by omega) (by omega)) ?_
      refine mr_seg 6 (pc1 := 6) (ls1 := [some (.long (nL a)), none, some (.long (nL b)), none, some (.long (nL v)), none, some (.long (nL (u % v))), none, some (.long (nL (u % v))), none]) (st1 := []) (M1 := M) (fun f => rfl) ?_
      have hm := Nat.mod_lt u (show 0 < v by omega)
      rw [kg_rec (u := u)]
      exact IH v (u % v) (some (.long (nL (u % v)))) (by omega) (by omega) (by omega)
theorem mf_gcd (a b : Nat) (ha : a < 2 ^ 62) (hb : b < 2 ^ 62) (M : mm_H) : mm_R 200 0 [some (.long (nL a)), none, some (.long (nL b)), none, none, none, none, none, none, none] [] M (some (.long (nL (Nat.gcd a b))), M) := by
  refine mr_seg 4 (pc1 := 6) (ls1 := [some (.long (nL a)), none, some (.long (nL b)), none, some (.long (nL a)), none, some (.long (nL b)), none, none, none]) (st1 := []) (M1 := M) (fun f => rfl) ?_
  exact mf_gcd0 a b M b a b none (Nat.le_refl b) ha hb
set_option maxRecDepth 100000 in
theorem mf_po (a b x : Nat) (ha : a < 2 ^ 62) (hb : b < 2 ^ 62) (hb0 : 0 < b) (hx : x < 2) (M : mm_H) : mm_R 199 0 [some (.long (nL a)), none, some (.long (nL b)), none, some (.int (nI x))] [] M (some (.long (nL (kfr a b x))), M) := by
  have g1 := kgp (a := a) hb0
  have g2 := kgle (a := a) hb0
  refine mr_seg 3 (pc1 := 3) (ls1 := [some (.long (nL a)), none, some (.long (nL b)), none, some (.int (nI x))]) (st1 := [.int (lg_cmp (nL a) 0)]) (M1 := M) (fun f => rfl) ?_
  refine mr_ifN (C := (lg_cmp (nL a) 0) = 0) (nL_cmp (a := a) (by omega)) (fun f => rfl) (fun h1 => ?_) (fun h1 => ?_)
  · refine mr_seg 2 (pc1 := 9) (ls1 := [some (.long (nL a)), none, some (.long (nL b)), none, some (.int (nI x))]) (st1 := [.long ((nI x).toInt64)]) (M1 := M) (fun f => rfl) ?_
    refine mr_lv (nL_i2l (a := x) (by omega)) ?_
    refine mr_eq (mr_ret 1 (o := (some (.long (nL x)), M)) (fun f => rfl)) ?_
    rw [h1, kfr_0 hb0 hx]
  · refine mr_seg 1 (pc1 := 12) (ls1 := [some (.long (nL a)), none, some (.long (nL b)), none, some (.int (nI x))]) (st1 := [.int (nI x)]) (M1 := M) (fun f => rfl) ?_
    refine mr_ifN (C := (nI x) = 0) (nI_eqi (a := x) (b := 0) (by omega)) (fun f => rfl) (fun h2 => ?_) (fun h2 => ?_)
    · refine mr_seg 4 (pc1 := 22) (ls1 := [some (.long (nL a)), none, some (.long (nL b)), none, some (.int (nI x))]) (st1 := [.long (nL b), .long (nL a), .long (nL a)]) (M1 := M) (fun f => rfl) ?_
      refine mr_call (y := 200) (y0 := 25) (L := [some (.long (nL a)), none, some (.long (nL b)), none, none, none, none, none, none, none]) (rest := [.long (nL a)]) (rr := some (.long (nL (Nat.gcd a b)))) (M1 := M) (fun f => rfl) (mf_gcd a b ha hb _) ?_
      refine mr_ldiv (x := (nL a)) (y := (nL (Nat.gcd a b))) rfl (fun q_ => absurd ((nL_z (a := Nat.gcd a b) (by omega)).mp q_) (by omega)) ?_
      refine mr_lv (nL_div (x := a) (y := Nat.gcd a b) (by omega) (by omega)) ?_
      refine mr_eq (mr_ret 1 (o := (some (.long (nL (a / (Nat.gcd a b)))), M)) (fun f => rfl)) ?_
      rw [show kfr a b x = a / (Nat.gcd a b) from by unfold kfr; rw [if_pos h2]]
    · refine mr_seg 3 (pc1 := 22) (ls1 := [some (.long (nL a)), none, some (.long (nL b)), none, some (.int (nI x))]) (st1 := [.long (nL b), .long (nL a), .long (nL b)]) (M1 := M) (fun f => rfl) ?_
      refine mr_call (y := 200) (y0 := 25) (L := [some (.long (nL a)), none, some (.long (nL b)), none, none, none, none, none, none, none]) (rest := [.long (nL b)]) (rr := some (.long (nL (Nat.gcd a b)))) (M1 := M) (fun f => rfl) (mf_gcd a b ha hb _) ?_
      refine mr_ldiv (x := (nL b)) (y := (nL (Nat.gcd a b))) rfl (fun q_ => absurd ((nL_z (a := Nat.gcd a b) (by omega)).mp q_) (by omega)) ?_
      refine mr_lv (nL_div (x := b) (y := Nat.gcd a b) (by omega) (by omega)) ?_
      refine mr_eq (mr_ret 1 (o := (some (.long (nL (b / (Nat.gcd a b)))), M)) (fun f => rfl)) ?_
      rw [show kfr a b x = b / (Nat.gcd a b) from by unfold kfr; rw [if_neg h2]]
set_option maxRecDepth 100000 in
theorem tc_meanL (he ke ki fi fa or : List Nat) (mi a g l w s : Nat) (im : Nat) (le : List Nat) (ln : Nat) (ys : List Int32) (vt : Int32) (nu : List Nat) (nn : Nat) (rf : List Nat) (kk : kG) (q : cR) (hA : iA (he, ke, ki, fi, fa, or, mi, a, g, l, w, s)) (hC : iC nu nn) (x : Nat) (hx : x < 2) (k : Nat) : ∀ (j : Nat)  (vw vq : Int32) (yc yh yg : List Int32) (m : kG), j + k = 25 → iJ m ys yc yh yg → mm_E 114 20 [some (.ref 100), some (.int (nI x)), some (.int (nI (ksum he j))), some (.int (nI j))] [] (mk_M (cT im le ln ys vt nu nn rf vw vq yc yh yg) (kr (he, ke, ki, fi, fa, or, mi, a, g, l, w, s)) m kk q) (pC (fun r => r = some (.long (nL (kfr (ksum he 25) 25 x)))) (he, ke, ki, fi, fa, or, mi, a, g, l, w, s) im le ln ys vt nu nn rf kk q) := by
  obtain ⟨hV, hst⟩ := id hA
  have hst2 : s ≤ 999 := hst
  obtain ⟨v1, v2, v3, v4, v5, v6, v7, v8, v9, v10, v11, v12, v13, v14, v15, v16⟩ := id hV
  have v6l := kO_len mi v7 or v6
  obtain ⟨c1, c2, c3⟩ := id hC
  induction k with
  | zero =>
    intro j vw vq yc yh yg m hj hJ
    obtain ⟨j0, j1, j2, j3, j4⟩ := id hJ
    have q1 := ksum_le v12 j
    have q2 := v12 j
    refine me_seg 2 (pc1 := 23) (ls1 := [some (.ref 100), some (.int (nI x)), some (.int (nI (ksum he j))), some (.int (nI j))]) (st1 := [.int 25, .int (nI j)]) (M1 := (mk_M (cT im le ln ys vt nu nn rf vw vq yc yh yg) (kr (he, ke, ki, fi, fa, or, mi, a, g, l, w, s)) m kk q)) (fun f => rfl) ?_
    refine me_t (C := 25 ≤ (nI j)) (nI_let (a := 25) (b := j) (by omega)) (fun f => rfl) ?_
    refine me_seg 2 (pc1 := 46) (ls1 := [some (.ref 100), some (.int (nI x)), some (.int (nI (ksum he j))), some (.int (nI j))]) (st1 := [.long ((nI (ksum he j)).toInt64)]) (M1 := (mk_M (cT im le ln ys vt nu nn rf vw vq yc yh yg) (kr (he, ke, ki, fi, fa, or, mi, a, g, l, w, s)) m kk q)) (fun f => rfl) ?_
    refine me_lv (nL_i2l (a := ksum he j) (by omega)) ?_
    refine me_seg 2 (pc1 := 50) (ls1 := [some (.ref 100), some (.int (nI x)), some (.int (nI (ksum he j))), some (.int (nI j))]) (st1 := [.int (nI x), .long 25, .long (nL (ksum he j))]) (M1 := (mk_M (cT im le ln ys vt nu nn rf vw vq yc yh yg) (kr (he, ke, ki, fi, fa, or, mi, a, g, l, w, s)) m kk q)) (fun f => rfl) ?_
    refine me_call (y := 112) (y0 := 53) (L := [some (.long (nL (ksum he j))), none, some (.long 25), none, some (.int (nI x)), none, none]) (rest := []) (rr := some (.long (nL (kfr (ksum he j) 25 x)))) (M1 := (mk_M (cT im le ln ys vt nu nn rf vw vq yc yh yg) (kr (he, ke, ki, fi, fa, or, mi, a, g, l, w, s)) m kk q)) (fun f => rfl) (cf_pf (ksum he j) 25 x (by omega) (by omega) (by omega) (by omega) _) ?_
    refine me_ret 1 (r := some (.long (nL (kfr (ksum he j) 25 x)))) (M1 := (mk_M (cT im le ln ys vt nu nn rf vw vq yc yh yg) (kr (he, ke, ki, fi, fa, or, mi, a, g, l, w, s)) m kk q)) (fun f => rfl) ?_
    exact ⟨(by rw [show j = 25 by omega]), _, _, _, _, _, _, rfl, ⟨(by assumption), j1, by assumption, by assumption, by assumption⟩⟩
  | succ k IH =>
    intro j vw vq yc yh yg m hj hJ
    obtain ⟨j0, j1, j2, j3, j4⟩ := id hJ
    have q1 := ksum_le v12 j
    have q2 := v12 j
    refine me_seg 2 (pc1 := 23) (ls1 := [some (.ref 100), some (.int (nI x)), some (.int (nI (ksum he j))), some (.int (nI j))]) (st1 := [.int 25, .int (nI j)]) (M1 := (mk_M (cT im le ln ys vt nu nn rf vw vq yc yh yg) (kr (he, ke, ki, fi, fa, or, mi, a, g, l, w, s)) m kk q)) (fun f => rfl) ?_
    refine me_f (C := 25 ≤ (nI j)) (nI_lef (a := 25) (b := j) (by omega)) (fun f => rfl) ?_
    refine me_seg 5 (pc1 := 35) (ls1 := [some (.ref 100), some (.int (nI x)), some (.int (nI (ksum he j))), some (.int (nI j))]) (st1 := [.int (nI j), .ref 118, .int (nI (ksum he j))]) (M1 := (mk_M (cT im le ln ys vt nu nn rf vw vq yc yh yg) (kr (he, ke, ki, fi, fa, or, mi, a, g, l, w, s)) m kk q)) (fun f => rfl) ?_
    refine me_ldn (xs := (he.map nI)) rfl rfl (k := j) (by omega) (kg_ok (by omega)) ?_
    refine me_seg 1 (pc1 := 37) (ls1 := [some (.ref 100), some (.int (nI x)), some (.int (nI (ksum he j))), some (.int (nI j))]) (st1 := [.int ((nI (ksum he j)) + (nI (kg he j)))]) (M1 := (mk_M (cT im le ln ys vt nu nn rf vw vq yc yh yg) (kr (he, ke, ki, fi, fa, or, mi, a, g, l, w, s)) m kk q)) (fun f => rfl) ?_
    refine me_v (nI_add (ksum he j) (kg he j)) ?_
    refine me_seg 2 (pc1 := 41) (ls1 := [some (.ref 100), some (.int (nI x)), some (.int (nI (ksum he j + kg he j))), some (.int ((nI j) + 1))]) (st1 := []) (M1 := (mk_M (cT im le ln ys vt nu nn rf vw vq yc yh yg) (kr (he, ke, ki, fi, fa, or, mi, a, g, l, w, s)) m kk q)) (fun f => rfl) ?_
    refine me_l (fun q_ => [some (.ref 100), some (.int (nI x)), some (.int (nI (ksum he j + kg he j))), some (.int q_)]) (nI_add j 1) ?_
    refine me_seg 1 (pc1 := 20) (ls1 := [some (.ref 100), some (.int (nI x)), some (.int (nI (ksum he j + kg he j))), some (.int (nI (j + 1)))]) (st1 := []) (M1 := (mk_M (cT im le ln ys vt nu nn rf vw vq yc yh yg) (kr (he, ke, ki, fi, fa, or, mi, a, g, l, w, s)) m kk q)) (fun f => rfl) ?_
    exact IH (j + 1)  vw vq yc yh yg m (by omega) ⟨(by assumption), j1, by assumption, by assumption, by assumption⟩
set_option maxRecDepth 100000 in
theorem tc_mean (he ke ki fi fa or : List Nat) (mi a g l w s : Nat) (im : Nat) (le : List Nat) (ln : Nat) (ys : List Int32) (vt : Int32) (nu : List Nat) (nn : Nat) (rf : List Nat) (kk : kG) (q : cR) (hA : iA (he, ke, ki, fi, fa, or, mi, a, g, l, w, s)) (hC : iC nu nn) (vw vq : Int32) (yc yh yg : List Int32) (m : kG) (hJ : iJ m ys yc yh yg) (x : Nat) (hx : x < 2) : mm_E 114 0 [some (.ref 100), some (.int (nI x)), none, none] [] (mk_M (cT im le ln ys vt nu nn rf vw vq yc yh yg) (kr (he, ke, ki, fi, fa, or, mi, a, g, l, w, s)) m kk q) (pC (fun r => r = some (.long (nL (kfr (ksum he 25) 25 x)))) (he, ke, ki, fi, fa, or, mi, a, g, l, w, s) im le ln ys vt nu nn rf kk q) := by
  obtain ⟨hV, hst⟩ := id hA
  have hst2 : s ≤ 999 := hst
  obtain ⟨v1, v2, v3, v4, v5, v6, v7, v8, v9, v10, v11, v12, v13, v14, v15, v16⟩ := id hV
  have v6l := kO_len mi v7 or v6
  obtain ⟨c1, c2, c3⟩ := id hC
  obtain ⟨j0, j1, j2, j3, j4⟩ := id hJ
  refine me_seg 1 (pc1 := 1) (ls1 := [some (.ref 100), some (.int (nI x)), none, none]) (st1 := [.int (nI x)]) (M1 := (mk_M (cT im le ln ys vt nu nn rf vw vq yc yh yg) (kr (he, ke, ki, fi, fa, or, mi, a, g, l, w, s)) m kk q)) (fun f => rfl) ?_
  refine me_f (C := (nI x) < 0) (nI_ltf (a := x) (b := 0) (by omega)) (fun f => rfl) ?_
  refine me_seg 2 (pc1 := 6) (ls1 := [some (.ref 100), some (.int (nI x)), none, none]) (st1 := [.int 1, .int (nI x)]) (M1 := (mk_M (cT im le ln ys vt nu nn rf vw vq yc yh yg) (kr (he, ke, ki, fi, fa, or, mi, a, g, l, w, s)) m kk q)) (fun f => rfl) ?_
  refine me_t (C := (nI x) ≤ 1) (nI_let (a := x) (b := 1) (by omega)) (fun f => rfl) ?_
  refine me_seg 4 (pc1 := 20) (ls1 := [some (.ref 100), some (.int (nI x)), some (.int 0), some (.int 0)]) (st1 := []) (M1 := (mk_M (cT im le ln ys vt nu nn rf vw vq yc yh yg) (kr (he, ke, ki, fi, fa, or, mi, a, g, l, w, s)) m kk q)) (fun f => rfl) ?_
  exact tc_meanL he ke ki fi fa or mi a g l w s im le ln ys vt nu nn rf kk q hA hC x hx 25 0 vw vq yc yh yg m (by omega) ⟨(by assumption), j1, by assumption, by assumption, by assumption⟩
set_option maxRecDepth 100000 in
theorem tm_meanL (he ke ki fi fa or : List Nat) (mi a g l w s : Nat) (xi : List Int32) (im : Nat) (le nu rf : List Nat) (ln nn : Nat) (c : cC) (n m kk : kG) (hA : iA (he, ke, ki, fi, fa, or, mi, a, g, l, w, s)) (hC : iC nu nn) (x : Nat) (hx : x < 2) (k : Nat) : ∀ (j : Nat)  (xm xw : List Int32) (vp : Int32) (xn xc : List Int32) (vs : Int32), j + k = 25 → iR xm xw xn xc → mm_E 201 21 [some (.ref 138), some (.int (nI x)), some (.long (nL (ksum he j))), none, some (.int (nI j))] [] (mk_M c n m kk (rT (he, ke, ki, fi, fa, or, mi, a, g, l, w, s) xm xi xw im le nu rf ln nn vp xn xc vs)) (pM (fun r => r = some (.long (nL (kfr (ksum he 25) 25 x)))) (he, ke, ki, fi, fa, or, mi, a, g, l, w, s) xi im le nu rf ln nn c n m kk) := by
  obtain ⟨hV, hst⟩ := id hA
  have hst2 : s ≤ 999 := hst
  obtain ⟨v1, v2, v3, v4, v5, v6, v7, v8, v9, v10, v11, v12, v13, v14, v15, v16⟩ := id hV
  have v6l := kO_len mi v7 or v6
  obtain ⟨c1, c2, c3⟩ := id hC
  induction k with
  | zero =>
    intro j xm xw vp xn xc vs hj hR
    obtain ⟨r1, r2, r3, r4⟩ := id hR
    have q1 := ksum_le v12 j
    have q2 := v12 j
    refine me_seg 2 (pc1 := 25) (ls1 := [some (.ref 138), some (.int (nI x)), some (.long (nL (ksum he j))), none, some (.int (nI j))]) (st1 := [.int 25, .int (nI j)]) (M1 := (mk_M c n m kk (rT (he, ke, ki, fi, fa, or, mi, a, g, l, w, s) xm xi xw im le nu rf ln nn vp xn xc vs))) (fun f => rfl) ?_
    refine me_t (C := 25 ≤ (nI j)) (nI_let (a := 25) (b := j) (by omega)) (fun f => rfl) ?_
    refine me_seg 3 (pc1 := 53) (ls1 := [some (.ref 138), some (.int (nI x)), some (.long (nL (ksum he j))), none, some (.int (nI j))]) (st1 := [.int (nI x), .long 25, .long (nL (ksum he j))]) (M1 := (mk_M c n m kk (rT (he, ke, ki, fi, fa, or, mi, a, g, l, w, s) xm xi xw im le nu rf ln nn vp xn xc vs))) (fun f => rfl) ?_
    refine me_call (y := 199) (y0 := 56) (L := [some (.long (nL (ksum he j))), none, some (.long 25), none, some (.int (nI x))]) (rest := []) (rr := some (.long (nL (kfr (ksum he j) 25 x)))) (M1 := (mk_M c n m kk (rT (he, ke, ki, fi, fa, or, mi, a, g, l, w, s) xm xi xw im le nu rf ln nn vp xn xc vs))) (fun f => rfl) (mf_po (ksum he j) 25 x (by omega) (by omega) (by omega) (by omega) _) ?_
    refine me_ret 1 (r := some (.long (nL (kfr (ksum he j) 25 x)))) (M1 := (mk_M c n m kk (rT (he, ke, ki, fi, fa, or, mi, a, g, l, w, s) xm xi xw im le nu rf ln nn vp xn xc vs))) (fun f => rfl) ?_
    exact ⟨(by rw [show j = 25 by omega]), _, _, _, _, _, _, rfl, ⟨(by assumption), (by assumption), (by assumption), (by assumption)⟩⟩
  | succ k IH =>
    intro j xm xw vp xn xc vs hj hR
    obtain ⟨r1, r2, r3, r4⟩ := id hR
    have q1 := ksum_le v12 j
    have q2 := v12 j
    refine me_seg 2 (pc1 := 25) (ls1 := [some (.ref 138), some (.int (nI x)), some (.long (nL (ksum he j))), none, some (.int (nI j))]) (st1 := [.int 25, .int (nI j)]) (M1 := (mk_M c n m kk (rT (he, ke, ki, fi, fa, or, mi, a, g, l, w, s) xm xi xw im le nu rf ln nn vp xn xc vs))) (fun f => rfl) ?_
    refine me_f (C := 25 ≤ (nI j)) (nI_lef (a := 25) (b := j) (by omega)) (fun f => rfl) ?_
    refine me_seg 6 (pc1 := 38) (ls1 := [some (.ref 138), some (.int (nI x)), some (.long (nL (ksum he j))), none, some (.int (nI j))]) (st1 := [.int ((7 : Int32) + (nI j)), .ref 139, .long (nL (ksum he j))]) (M1 := (mk_M c n m kk (rT (he, ke, ki, fi, fa, or, mi, a, g, l, w, s) xm xi xw im le nu rf ln nn vp xn xc vs))) (fun f => rfl) ?_
    refine me_v (nI_add 7 j) ?_
    refine me_ldn (xs := (er (he, ke, ki, fi, fa, or, mi, a, g, l, w, s))) rfl rfl (k := 7 + j) (by omega) (er_h (K := (he, ke, ki, fi, fa, or, mi, a, g, l, w, s)) v1 (by omega)) ?_
    refine me_seg 1 (pc1 := 40) (ls1 := [some (.ref 138), some (.int (nI x)), some (.long (nL (ksum he j))), none, some (.int (nI j))]) (st1 := [.long ((nI (kg he j)).toInt64), .long (nL (ksum he j))]) (M1 := (mk_M c n m kk (rT (he, ke, ki, fi, fa, or, mi, a, g, l, w, s) xm xi xw im le nu rf ln nn vp xn xc vs))) (fun f => rfl) ?_
    refine me_lv (nL_i2l (a := kg he j) (by omega)) ?_
    refine me_seg 1 (pc1 := 41) (ls1 := [some (.ref 138), some (.int (nI x)), some (.long (nL (ksum he j))), none, some (.int (nI j))]) (st1 := [.long ((nL (ksum he j)) + (nL (kg he j)))]) (M1 := (mk_M c n m kk (rT (he, ke, ki, fi, fa, or, mi, a, g, l, w, s) xm xi xw im le nu rf ln nn vp xn xc vs))) (fun f => rfl) ?_
    refine me_lv (nL_add (a := ksum he j) (b := kg he j) (by omega)) ?_
    refine me_seg 2 (pc1 := 45) (ls1 := [some (.ref 138), some (.int (nI x)), some (.long (nL (ksum he j + kg he j))), none, some (.int ((nI j) + 1))]) (st1 := []) (M1 := (mk_M c n m kk (rT (he, ke, ki, fi, fa, or, mi, a, g, l, w, s) xm xi xw im le nu rf ln nn vp xn xc vs))) (fun f => rfl) ?_
    refine me_l (fun q_ => [some (.ref 138), some (.int (nI x)), some (.long (nL (ksum he j + kg he j))), none, some (.int q_)]) (nI_add j 1) ?_
    refine me_seg 1 (pc1 := 21) (ls1 := [some (.ref 138), some (.int (nI x)), some (.long (nL (ksum he j + kg he j))), none, some (.int (nI (j + 1)))]) (st1 := []) (M1 := (mk_M c n m kk (rT (he, ke, ki, fi, fa, or, mi, a, g, l, w, s) xm xi xw im le nu rf ln nn vp xn xc vs))) (fun f => rfl) ?_
    exact IH (j + 1)  xm xw vp xn xc vs (by omega) ⟨(by assumption), (by assumption), (by assumption), (by assumption)⟩
set_option maxRecDepth 100000 in
theorem tm_mean (he ke ki fi fa or : List Nat) (mi a g l w s : Nat) (xi : List Int32) (im : Nat) (le nu rf : List Nat) (ln nn : Nat) (c : cC) (n m kk : kG) (hA : iA (he, ke, ki, fi, fa, or, mi, a, g, l, w, s)) (hC : iC nu nn) (xm xw : List Int32) (vp : Int32) (xn xc : List Int32) (vs : Int32) (hR : iR xm xw xn xc) (x : Nat) (hx : x < 2) : mm_E 201 0 [some (.ref 138), some (.int (nI x)), none, none, none] [] (mk_M c n m kk (rT (he, ke, ki, fi, fa, or, mi, a, g, l, w, s) xm xi xw im le nu rf ln nn vp xn xc vs)) (pM (fun r => r = some (.long (nL (kfr (ksum he 25) 25 x)))) (he, ke, ki, fi, fa, or, mi, a, g, l, w, s) xi im le nu rf ln nn c n m kk) := by
  obtain ⟨hV, hst⟩ := id hA
  have hst2 : s ≤ 999 := hst
  obtain ⟨v1, v2, v3, v4, v5, v6, v7, v8, v9, v10, v11, v12, v13, v14, v15, v16⟩ := id hV
  have v6l := kO_len mi v7 or v6
  obtain ⟨c1, c2, c3⟩ := id hC
  obtain ⟨r1, r2, r3, r4⟩ := id hR
  refine me_seg 3 (pc1 := 3) (ls1 := [some (.ref 138), some (.int (nI x)), none, none, none]) (st1 := [.int 1, .int 0, .int (nI x)]) (M1 := (mk_M c n m kk (rT (he, ke, ki, fi, fa, or, mi, a, g, l, w, s) xm xi xw im le nu rf ln nn vp xn xc vs))) (fun f => rfl) ?_
  refine me_call (y := 135) (y0 := 6) (L := [some (.int (nI x)), some (.int 0), some (.int 1)]) (rest := []) (rr := some (.int 1)) (M1 := (mk_M c n m kk (rT (he, ke, ki, fi, fa, or, mi, a, g, l, w, s) xm xi xw im le nu rf ln nn vp xn xc vs))) (fun f => rfl) (ms_in_ok (x := (nI x)) (a := 0) (b := 1) (nI_ltf (a := x) (b := 0) (by omega)) (nI_ltf (a := 1) (b := x) (by omega))) ?_
  refine me_seg 5 (pc1 := 21) (ls1 := [some (.ref 138), some (.int (nI x)), some (.long 0), none, some (.int 0)]) (st1 := []) (M1 := (mk_M c n m kk (rT (he, ke, ki, fi, fa, or, mi, a, g, l, w, s) xm xi xw im le nu rf ln nn vp xn xc vs))) (fun f => rfl) ?_
  exact tm_meanL he ke ki fi fa or mi a g l w s xi im le nu rf ln nn c n m kk hA hC x hx 25 0 xm xw vp xn xc vs (by omega) ⟨(by assumption), (by assumption), (by assumption), (by assumption)⟩
theorem ot_mean {M : mm_H} (hM : kInv M) (x : Int32) : oL 114 201 [some (.ref 100), some (.int x), none, none] [some (.ref 138), some (.int x), none, none, none] M := by
  obtain ⟨K, m, kk, im, le, ln, ys, vt, nu, nn, rf, vw, vq, yc, yh, yg, xm, xi, xw, vp, xn, xc, vs, rfl, hA, hB, hC, hD, hJ, hR, hK⟩ := hM
  obtain ⟨he, ke, ki, fi, fa, or, mi, a, g, l, w, s⟩ := K
  have v7 : mi ≤ 5 := hA.1.2.2.2.2.2.2.1
  rcases k_cs x 2 0 1 rfl rfl with hx | hx | ⟨x_, hx_, rfl⟩
  · exact oe_mean_0 he ke ki fi fa or mi a g l w s m kk im le ln ys vt nu nn rf vw vq yc yh yg xm xi xw vp xn xc vs hA hB hC hD hJ hR hK x hx
  · exact oe_mean_1 he ke ki fi fa or mi a g l w s m kk im le ln ys vt nu nn rf vw vq yc yh yg xm xi xw vp xn xc vs hA hB hC hD hJ hR hK x hx
  · exact oL_of (nL (kfr (ksum he 25) 25 x_)) hA hB hC hD hK (tc_mean he ke ki fi fa or mi a g l w s im le ln ys vt nu nn rf kk _ hA hC vw vq yc yh yg m hJ x_ hx_) (fun c n m kk => tm_mean he ke ki fi fa or mi a g l w s xi im le nu rf ln nn c n m kk hA hC xm xw vp xn xc vs hR x_ hx_)
