theorem kb_tb {l : List Nat} (h : ∀ i, kg l i ≤ 1) (i : Nat) : (kbits l).testBit i = decide (kg l i = 1) := by
  rw [Nat.testBit_eq_decide_div_mod_eq, kb_div l h i]
theorem kb_clr {ke : List Nat} (hl : ke.length = 25) (h : ∀ i, kg ke i ≤ 1) {c : Nat} (hc : c < 25) : nI (kbits ke) &&& (((1 : Int32) <<< (nI c &&& 31)) ^^^ -1) = nI (kbits (ke.set c 0)) := by
  have e : (1 : Int32) <<< (nI c &&& 31) = nI (2 ^ c) := by
    have := pk_shlN (n := 1) (nI c &&& 31) c (s_l c (by omega)) (by
      have : 2 ^ c ≤ 2 ^ 24 := Nat.pow_le_pow_right (by decide) (by omega)
      omega)
    rw [Nat.one_mul] at this
    exact this
  have h2 : ∀ i, kg (ke.set c 0) i ≤ 1 := kbt_le h (by decide)
  rw [e]
  apply Int32.toBitVec_inj.1
  show BitVec.ofNat 32 (kbits ke) &&& (BitVec.ofNat 32 (2 ^ c) ^^^ (-1 : Int32).toBitVec) = BitVec.ofNat 32 (kbits (ke.set c 0))
  rw [show (-1 : Int32).toBitVec = BitVec.allOnes 32 by decide]
  apply BitVec.eq_of_getLsbD_eq
  intro i hi
  rw [BitVec.getLsbD_and, BitVec.getLsbD_xor, BitVec.getLsbD_ofNat, BitVec.getLsbD_ofNat, BitVec.getLsbD_ofNat, BitVec.getLsbD_allOnes, kb_tb h, kb_tb h2, Nat.testBit_two_pow, kg_setc]
  simp only [hi, decide_true, Bool.true_and]
  by_cases q : c = i
  · subst q
    simp [hl, hc]
  · simp [q]
def isD (d : Nat) (r : Option Value) : Prop := ∃ v, v < d ∧ r = some (.int (nI v))
def isLn (r : Option Value) : Prop := ∃ w : Int64, ¬ w = 0 ∧ r = some (.long w)
set_option maxRecDepth 100000 in
theorem wm_least (a b : Int32) (M : mm_H) : mm_R 154 0 [some (.int a), some (.int b)] [] M (some (.int (if a < b then a else b)), M) := by
  refine mr_seg 2 (pc1 := 2) (ls1 := [some (.int a), some (.int b)]) (st1 := [.int b, .int a]) (M1 := M) (fun f => rfl) ?_
  refine mr_if (C := b ≤ a) (fun f => rfl) (fun h1 => ?_) (fun h1 => ?_)
  · refine mr_eq (mr_ret 2 (o := (some (.int b), M)) (fun f => rfl)) ?_
    rw [if_neg (Int32.not_lt.mpr h1)]
  · refine mr_eq (mr_ret 3 (o := (some (.int a), M)) (fun f => rfl)) ?_
    rw [if_pos (Int32.not_le.mp h1)]
set_option maxRecDepth 100000 in
theorem wm_has (x y : Int32) (M : mm_H) : mm_E 151 0 [some (.int x), some (.int y)] [] M (pP isB M) := by
  refine me_seg 6 (pc1 := 6) (ls1 := [some (.int x), some (.int y)]) (st1 := [.int 1, .int ((x >>> (y &&& 31)) &&& (1 : Int32))]) (M1 := M) (fun f => rfl) ?_
  refine me_if (C := ((x >>> (y &&& 31)) &&& (1 : Int32)) = 1) (fun f => rfl) (fun h1 => ?_) (fun h1 => ?_)
  · refine me_ret 3 (r := some (.int 1)) (M1 := M) (fun f => rfl) ?_
    exact ⟨⟨1, by omega, rfl⟩, rfl⟩
  · refine me_ret 2 (r := some (.int 0)) (M1 := M) (fun f => rfl) ?_
    exact ⟨⟨0, by omega, rfl⟩, rfl⟩
set_option maxRecDepth 100000 in
theorem wm_orN (x : Int32) (M : mm_H) : mm_E 182 0 [some (.int x)] [] M (pP isI M) := by
  refine me_seg 1 (pc1 := 1) (ls1 := [some (.int x)]) (st1 := [.int x]) (M1 := M) (fun f => rfl) ?_
  refine me_if (C := 0 ≤ x) (fun f => rfl) (fun h1 => ?_) (fun h1 => ?_)
  · refine me_ret 2 (r := some (.int x)) (M1 := M) (fun f => rfl) ?_
    exact ⟨⟨_, rfl⟩, rfl⟩
  · refine me_ret 3 (r := some (.int 61)) (M1 := M) (fun f => rfl) ?_
    exact ⟨⟨_, rfl⟩, rfl⟩
set_option maxRecDepth 100000 in
theorem wm_apart (x y : Int32) (M : mm_H) : mm_E 191 0 [some (.int x), some (.int y)] [] M (pP isI M) := by
  refine me_seg 2 (pc1 := 2) (ls1 := [some (.int x), some (.int y)]) (st1 := [.int y, .int x]) (M1 := M) (fun f => rfl) ?_
  refine me_if (C := y ≤ x) (fun f => rfl) (fun h1 => ?_) (fun h1 => ?_)
  · refine me_ret 4 (r := some (.int (x - y))) (M1 := M) (fun f => rfl) ?_
    exact ⟨⟨_, rfl⟩, rfl⟩
  · refine me_ret 5 (r := some (.int (y - x))) (M1 := M) (fun f => rfl) ?_
    exact ⟨⟨_, rfl⟩, rfl⟩
set_option maxRecDepth 100000 in
theorem wm_isin (x y t : Int32) (M : mm_H) : mm_E 135 0 [some (.int x), some (.int y), some (.int t)] [] M (pP isB M) := by
  refine me_seg 2 (pc1 := 2) (ls1 := [some (.int x), some (.int y), some (.int t)]) (st1 := [.int y, .int x]) (M1 := M) (fun f => rfl) ?_
  refine me_if (C := x < y) (fun f => rfl) (fun h1 => ?_) (fun h1 => ?_)
  · refine me_ret 2 (r := some (.int 0)) (M1 := M) (fun f => rfl) ?_
    exact ⟨⟨0, by omega, rfl⟩, rfl⟩
  · refine me_seg 2 (pc1 := 7) (ls1 := [some (.int x), some (.int y), some (.int t)]) (st1 := [.int t, .int x]) (M1 := M) (fun f => rfl) ?_
    refine me_if (C := t < x) (fun f => rfl) (fun h2 => ?_) (fun h2 => ?_)
    · refine me_ret 2 (r := some (.int 0)) (M1 := M) (fun f => rfl) ?_
      exact ⟨⟨0, by omega, rfl⟩, rfl⟩
    · refine me_ret 3 (r := some (.int 1)) (M1 := M) (fun f => rfl) ?_
      exact ⟨⟨1, by omega, rfl⟩, rfl⟩
set_option maxRecDepth 100000 in
theorem wm_isb (x y t : Int32) (M : mm_H) : mm_E 190 0 [some (.int x), some (.int y), some (.int t)] [] M (pP isB M) := by
  refine me_seg 2 (pc1 := 2) (ls1 := [some (.int x), some (.int y), some (.int t)]) (st1 := [.int t, .int y]) (M1 := M) (fun f => rfl) ?_
  refine me_if (C := t < y) (fun f => rfl) (fun h1 => ?_) (fun h1 => ?_)
  · refine me_seg 3 (pc1 := 17) (ls1 := [some (.int x), some (.int y), some (.int t)]) (st1 := [.int y, .int t, .int x]) (M1 := M) (fun f => rfl) ?_
    refine me_callE (y := 135) (y0 := 20) (L := [some (.int x), some (.int t), some (.int y)]) (rest := []) (fun f => rfl) (wm_isin x t y _) ?_
    rintro _ _ ⟨⟨b_2, hb_2, rfl⟩, rfl⟩
    refine me_b01 (b := b_2) (by omega) (fun f => rfl) (fun f => rfl) ?_
    exact ⟨⟨b_2, by omega, rfl⟩, rfl⟩
  · refine me_seg 3 (pc1 := 8) (ls1 := [some (.int x), some (.int y), some (.int t)]) (st1 := [.int t, .int y, .int x]) (M1 := M) (fun f => rfl) ?_
    refine me_callE (y := 135) (y0 := 11) (L := [some (.int x), some (.int y), some (.int t)]) (rest := []) (fun f => rfl) (wm_isin x y t _) ?_
    rintro _ _ ⟨⟨b_3, hb_3, rfl⟩, rfl⟩
    refine me_seg 1 (pc1 := 20) (ls1 := [some (.int x), some (.int y), some (.int t)]) (st1 := [.int (nI b_3)]) (M1 := M) (fun f => rfl) ?_
    refine me_b01 (b := b_3) (by omega) (fun f => rfl) (fun f => rfl) ?_
    exact ⟨⟨b_3, by omega, rfl⟩, rfl⟩
set_option maxRecDepth 100000 in
theorem wm_bits0 (x : Int32) (M : mm_H) (k : Nat) : ∀ (j : Nat) (v : Int32), j + k = 25 → mm_E 192 4 [some (.int x), some (.int v), some (.int (nI j))] [] M (pP isI M) := by
  induction k with
  | zero =>
    intro j v hj
    refine me_seg 2 (pc1 := 7) (ls1 := [some (.int x), some (.int v), some (.int (nI j))]) (st1 := [.int 25, .int (nI j)]) (M1 := M) (fun f => rfl) ?_
    refine me_t (C := 25 ≤ (nI j)) (nI_let (a := 25) (b := j) (by omega)) (fun f => rfl) ?_
    refine me_ret 2 (r := some (.int v)) (M1 := M) (fun f => rfl) ?_
    exact ⟨⟨_, rfl⟩, rfl⟩
  | succ k IH =>
    intro j v hj
    refine me_seg 2 (pc1 := 7) (ls1 := [some (.int x), some (.int v), some (.int (nI j))]) (st1 := [.int 25, .int (nI j)]) (M1 := M) (fun f => rfl) ?_
    refine me_f (C := 25 ≤ (nI j)) (nI_lef (a := 25) (b := j) (by omega)) (fun f => rfl) ?_
    refine me_seg 9 (pc1 := 21) (ls1 := [some (.int x), some (.int (v + ((x >>> ((nI j) &&& 31)) &&& (1 : Int32)))), some (.int ((nI j) + 1))]) (st1 := []) (M1 := M) (fun f => rfl) ?_
    refine me_l (fun q_ => [some (.int x), some (.int (v + ((x >>> ((nI j) &&& 31)) &&& (1 : Int32)))), some (.int q_)]) (nI_add j 1) ?_
    refine me_seg 1 (pc1 := 4) (ls1 := [some (.int x), some (.int (v + ((x >>> ((nI j) &&& 31)) &&& (1 : Int32)))), some (.int (nI (j + 1)))]) (st1 := []) (M1 := M) (fun f => rfl) ?_
    exact IH (j + 1) (v + ((x >>> ((nI j) &&& 31)) &&& (1 : Int32))) (by omega) 
set_option maxRecDepth 100000 in
theorem wm_bits (x : Int32) (M : mm_H) : mm_E 192 0 [some (.int x), none, none] [] M (pP isI M) := by
  refine me_seg 4 (pc1 := 4) (ls1 := [some (.int x), some (.int 0), some (.int 0)]) (st1 := []) (M1 := M) (fun f => rfl) ?_
  exact wm_bits0 x M 25 0 0 (by omega)
set_option maxRecDepth 100000 in
theorem wm_gcd0 (a b : Int64) (M : mm_H) (k : Nat) : ∀ (u v : Int64) (l1 : Option Value), ¬ u = 0 → v.toInt.natAbs ≤ k → mm_E 200 6 [some (.long a), none, some (.long b), none, some (.long u), none, some (.long v), none, l1, none] [] M (pP isLn M) := by
  induction k with
  | zero =>
    intro u v l1 hu hk
    refine me_seg 3 (pc1 := 10) (ls1 := [some (.long a), none, some (.long b), none, some (.long u), none, some (.long v), none, l1, none]) (st1 := [.int (lg_cmp v 0)]) (M1 := M) (fun f => rfl) ?_
    refine me_t (C := (lg_cmp v 0) = 0) (k_cmp0.mpr (Int64.toInt_inj.mp (show v.toInt = (0 : Int64).toInt by have h0 : (0 : Int64).toInt = 0 := (by decide); omega))) (fun f => rfl) ?_
    refine me_ret 2 (r := some (.long u)) (M1 := M) (fun f => rfl) ?_
    exact ⟨⟨_, hu, rfl⟩, rfl⟩
  | succ k IH =>
    intro u v l1 hu hk
    refine me_seg 3 (pc1 := 10) (ls1 := [some (.long a), none, some (.long b), none, some (.long u), none, some (.long v), none, l1, none]) (st1 := [.int (lg_cmp v 0)]) (M1 := M) (fun f => rfl) ?_
    refine me_ifN (C := (lg_cmp v 0) = 0) (k_cmp0) (fun f => rfl) (fun h1 => ?_) (fun h1 => ?_)
    · refine me_ret 2 (r := some (.long u)) (M1 := M) (fun f => rfl) ?_
      exact ⟨⟨_, hu, rfl⟩, rfl⟩
    · refine me_seg 2 (pc1 := 17) (ls1 := [some (.long a), none, some (.long b), none, some (.long u), none, some (.long v), none, l1, none]) (st1 := [.long v, .long u]) (M1 := M) (fun f => rfl) ?_
      refine me_lrem (x := u) (y := v) rfl h1 ?_
      refine me_seg 6 (pc1 := 6) (ls1 := [some (.long a), none, some (.long b), none, some (.long v), none, some (.long (u - u / v * v)), none, some (.long (u - u / v * v)), none]) (st1 := []) (M1 := M) (fun f => rfl) ?_
      exact IH v (u - u / v * v) (some (.long (u - u / v * v))) h1 (by have := k_lrem u v h1; omega)
set_option maxRecDepth 100000 in
theorem wm_gcd (a b : Int64) (ha : ¬ a = 0) (M : mm_H) : mm_E 200 0 [some (.long a), none, some (.long b), none, none, none, none, none, none, none] [] M (pP isLn M) := by
  refine me_seg 4 (pc1 := 6) (ls1 := [some (.long a), none, some (.long b), none, some (.long a), none, some (.long b), none, none, none]) (st1 := []) (M1 := M) (fun f => rfl) ?_
  exact wm_gcd0 a b M b.toInt.natAbs a b none ha (Nat.le_refl _)
set_option maxRecDepth 100000 in
theorem wm_po (a b : Int64) (x : Int32) (M : mm_H) : mm_E 199 0 [some (.long a), none, some (.long b), none, some (.int x)] [] M (pP isL M) := by
  refine me_seg 3 (pc1 := 3) (ls1 := [some (.long a), none, some (.long b), none, some (.int x)]) (st1 := [.int (lg_cmp a 0)]) (M1 := M) (fun f => rfl) ?_
  refine me_ifN (C := (lg_cmp a 0) = 0) (k_cmp0) (fun f => rfl) (fun h1 => ?_) (fun h1 => ?_)
  · refine me_ret 3 (r := some (.long x.toInt64)) (M1 := M) (fun f => rfl) ?_
    exact ⟨⟨_, rfl⟩, rfl⟩
  · refine me_seg 1 (pc1 := 12) (ls1 := [some (.long a), none, some (.long b), none, some (.int x)]) (st1 := [.int x]) (M1 := M) (fun f => rfl) ?_
    refine me_if (C := x = 0) (fun f => rfl) (fun h2 => ?_) (fun h2 => ?_)
    · refine me_seg 4 (pc1 := 22) (ls1 := [some (.long a), none, some (.long b), none, some (.int x)]) (st1 := [.long b, .long a, .long a]) (M1 := M) (fun f => rfl) ?_
      refine me_callE (y := 200) (y0 := 25) (L := [some (.long a), none, some (.long b), none, none, none, none, none, none, none]) (rest := [.long a]) (fun f => rfl) (wm_gcd a b h1 _) ?_
      rintro _ _ ⟨⟨w_3, hw_3, rfl⟩, rfl⟩
      refine me_ldiv (x := a) (y := w_3) rfl hw_3 ?_
      refine me_ret 1 (r := some (.long (a / w_3))) (M1 := M) (fun f => rfl) ?_
      exact ⟨⟨_, rfl⟩, rfl⟩
    · refine me_seg 3 (pc1 := 22) (ls1 := [some (.long a), none, some (.long b), none, some (.int x)]) (st1 := [.long b, .long a, .long b]) (M1 := M) (fun f => rfl) ?_
      refine me_callE (y := 200) (y0 := 25) (L := [some (.long a), none, some (.long b), none, none, none, none, none, none, none]) (rest := [.long b]) (fun f => rfl) (wm_gcd a b h1 _) ?_
      rintro _ _ ⟨⟨w_4, hw_4, rfl⟩, rfl⟩
      refine me_ldiv (x := b) (y := w_4) rfl hw_4 ?_
      refine me_ret 1 (r := some (.long (b / w_4))) (M1 := M) (fun f => rfl) ?_
      exact ⟨⟨_, rfl⟩, rfl⟩
set_option maxRecDepth 100000 in
theorem wm_drawn25 (K : kK) (xm xi xw : List Int32) (im : Nat) (le nu rf : List Nat) (ln nn : Nat) (vp : Int32) (xn xc : List Int32) (vs : Int32) (c : cC) (n m kk : kG) : mm_E 208 0 [some (.ref 138), some (.int 25)] [] (mk_M c n m kk (rT K xm xi xw im le nu rf ln nn vp xn xc vs)) (fun r M1 => isD 25 r ∧ ∃ vs2, M1 = mk_M c n m kk (rT K xm xi xw im le nu rf ln nn vp xn xc vs2)) := by
  obtain ⟨he, ke, ki, fi, fa, or, mi, a, g, l, w, s⟩ := K
  refine me_seg 8 (pc1 := 14) (ls1 := [some (.ref 138), some (.int 25)]) (st1 := []) (M1 := (mk_MR c n m kk (er (he, ke, ki, fi, fa, or, mi, a, g, l, w, s)) xm xi xw (nI im) (le.map nI) (nu.map nI) (rf.map nI) (nI ln) (nI nn) vp xn xc ((vs * (1664525 : Int32)) + (1013904223 : Int32)))) (fun f => rfl) ?_
  refine me_M (mk_MRk c n m kk (he, ke, ki, fi, fa, or, mi, a, g, l, w, s) xm xi xw im le nu rf ln nn vp xn xc ((vs * (1664525 : Int32)) + (1013904223 : Int32))) ?_
  obtain ⟨v, hv, e⟩ := k_draw ((vs * (1664525 : Int32)) + (1013904223 : Int32)) 25 (by decide) (by decide)
  refine me_ret 9 (r := some (.int (((((vs * (1664525 : Int32)) + (1013904223 : Int32)) &&& (2147483647 : Int32)) / (256 : Int32)) - ((((vs * (1664525 : Int32)) + (1013904223 : Int32)) &&& (2147483647 : Int32)) / (256 : Int32)) / (25 : Int32) * (25 : Int32)))) (M1 := (mk_M c n m kk (rT (he, ke, ki, fi, fa, or, mi, a, g, l, w, s) xm xi xw im le nu rf ln nn vp xn xc ((vs * (1664525 : Int32)) + (1013904223 : Int32))))) (fun f => rfl) ?_
  exact ⟨⟨v, hv, congrArg (fun q => some (Value.int q)) e⟩, _, rfl⟩
set_option maxRecDepth 100000 in
theorem wm_drawn11 (K : kK) (xm xi xw : List Int32) (im : Nat) (le nu rf : List Nat) (ln nn : Nat) (vp : Int32) (xn xc : List Int32) (vs : Int32) (c : cC) (n m kk : kG) : mm_E 208 0 [some (.ref 138), some (.int 11)] [] (mk_M c n m kk (rT K xm xi xw im le nu rf ln nn vp xn xc vs)) (fun r M1 => isD 11 r ∧ ∃ vs2, M1 = mk_M c n m kk (rT K xm xi xw im le nu rf ln nn vp xn xc vs2)) := by
  obtain ⟨he, ke, ki, fi, fa, or, mi, a, g, l, w, s⟩ := K
  refine me_seg 8 (pc1 := 14) (ls1 := [some (.ref 138), some (.int 11)]) (st1 := []) (M1 := (mk_MR c n m kk (er (he, ke, ki, fi, fa, or, mi, a, g, l, w, s)) xm xi xw (nI im) (le.map nI) (nu.map nI) (rf.map nI) (nI ln) (nI nn) vp xn xc ((vs * (1664525 : Int32)) + (1013904223 : Int32)))) (fun f => rfl) ?_
  refine me_M (mk_MRk c n m kk (he, ke, ki, fi, fa, or, mi, a, g, l, w, s) xm xi xw im le nu rf ln nn vp xn xc ((vs * (1664525 : Int32)) + (1013904223 : Int32))) ?_
  obtain ⟨v, hv, e⟩ := k_draw ((vs * (1664525 : Int32)) + (1013904223 : Int32)) 11 (by decide) (by decide)
  refine me_ret 9 (r := some (.int (((((vs * (1664525 : Int32)) + (1013904223 : Int32)) &&& (2147483647 : Int32)) / (256 : Int32)) - ((((vs * (1664525 : Int32)) + (1013904223 : Int32)) &&& (2147483647 : Int32)) / (256 : Int32)) / (11 : Int32) * (11 : Int32)))) (M1 := (mk_M c n m kk (rT (he, ke, ki, fi, fa, or, mi, a, g, l, w, s) xm xi xw im le nu rf ln nn vp xn xc ((vs * (1664525 : Int32)) + (1013904223 : Int32))))) (fun f => rfl) ?_
  exact ⟨⟨v, hv, congrArg (fun q => some (Value.int q)) e⟩, _, rfl⟩
set_option maxRecDepth 100000 in
theorem wm_there (he ke ki fi fa or : List Nat) (mi a g l w s : Nat) (xi : List Int32) (im : Nat) (le nu rf : List Nat) (ln nn : Nat) (c : cC) (n m kk : kG) (hA : iA (he, ke, ki, fi, fa, or, mi, a, g, l, w, s)) (hC : iC nu nn) (Q : kK) (xw : List Int32) (vp : Int32) (xn xc : List Int32) (vs : Int32) (hR : iR (er Q) xw xn xc) (hQ : kV Q) (hQs : k_st Q + 100 < 2 ^ 20) : mm_E 181 0 [some (.ref 138)] [] (mk_M c n m kk (rT (he, ke, ki, fi, fa, or, mi, a, g, l, w, s) (er Q) xi xw im le nu rf ln nn vp xn xc vs)) (pM isI (he, ke, ki, fi, fa, or, mi, a, g, l, w, s) xi im le nu rf ln nn c n m kk) := by
  obtain ⟨hV, hst⟩ := id hA
  have hst2 : s ≤ 999 := hst
  obtain ⟨v1, v2, v3, v4, v5, v6, v7, v8, v9, v10, v11, v12, v13, v14, v15, v16⟩ := id hV
  have v6l := kO_len mi v7 or v6
  obtain ⟨c1, c2, c3⟩ := id hC
  obtain ⟨r1, r2, r3, r4⟩ := id hR
  refine me_seg 4 (pc1 := 6) (ls1 := [some (.ref 138)]) (st1 := [.int 3, .ref 140, .ref 138]) (M1 := (mk_M c n m kk (rT (he, ke, ki, fi, fa, or, mi, a, g, l, w, s) (er Q) xi xw im le nu rf ln nn vp xn xc vs))) (fun f => rfl) ?_
  refine me_ldn (xs := (er Q)) rfl rfl (k := 3) (by decide) rfl ?_
  refine me_call (y := 173) (y0 := 10) (L := [some (.ref 138), some (.int (nI (k_go Q))), none]) (rest := []) (rr := some (.int (kI (kwa 60 0 Q (k_go Q))))) (M1 := (mk_M c n m kk (rT (he, ke, ki, fi, fa, or, mi, a, g, l, w, s) (er (kwaR 60 Q (k_go Q))) xi xw im le nu rf ln nn vp xn xc vs))) (fun f => rfl) (rc_wa c n m kk (rT (he, ke, ki, fi, fa, or, mi, a, g, l, w, s) (er Q) xi xw im le nu rf ln nn vp xn xc vs) (k_go Q) (kV_go hQ) Q hQ (by omega)) ?_
  refine me_callE (y := 182) (y0 := 13) (L := [some (.int (kI (kwa 60 0 Q (k_go Q))))]) (rest := []) (fun f => rfl) (wm_orN (kI (kwa 60 0 Q (k_go Q))) _) ?_
  rintro _ _ ⟨⟨w_1, rfl⟩, rfl⟩
  refine me_ret 1 (r := some (.int w_1)) (M1 := (mk_M c n m kk (rT (he, ke, ki, fi, fa, or, mi, a, g, l, w, s) (er (kwaR 60 Q (k_go Q))) xi xw im le nu rf ln nn vp xn xc vs))) (fun f => rfl) ?_
  exact ⟨⟨_, rfl⟩, _, _, _, _, _, _, rfl, ⟨(er_len (kV_waR 60 (k_go Q) hQ)), (by assumption), (by assumption), (by assumption)⟩⟩
set_option maxRecDepth 100000 in
theorem wm_now (he ke ki fi fa or : List Nat) (mi a g l w s : Nat) (xi : List Int32) (im : Nat) (le nu rf : List Nat) (ln nn : Nat) (c : cC) (n m kk : kG) (hA : iA (he, ke, ki, fi, fa, or, mi, a, g, l, w, s)) (hC : iC nu nn) (xm xw : List Int32) (vp : Int32) (xn xc : List Int32) (vs : Int32) (hR : iR xm xw xn xc) : mm_E 180 0 [some (.ref 138)] [] (mk_M c n m kk (rT (he, ke, ki, fi, fa, or, mi, a, g, l, w, s) xm xi xw im le nu rf ln nn vp xn xc vs)) (pM isI (he, ke, ki, fi, fa, or, mi, a, g, l, w, s) xi im le nu rf ln nn c n m kk) := by
  obtain ⟨hV, hst⟩ := id hA
  have hst2 : s ≤ 999 := hst
  obtain ⟨v1, v2, v3, v4, v5, v6, v7, v8, v9, v10, v11, v12, v13, v14, v15, v16⟩ := id hV
  have v6l := kO_len mi v7 or v6
  obtain ⟨c1, c2, c3⟩ := id hC
  obtain ⟨r1, r2, r3, r4⟩ := id hR
  refine me_seg 4 (pc1 := 8) (ls1 := [some (.ref 138)]) (st1 := [.ref 140, .ref 139]) (M1 := (mk_M c n m kk (rT (he, ke, ki, fi, fa, or, mi, a, g, l, w, s) xm xi xw im le nu rf ln nn vp xn xc vs))) (fun f => rfl) ?_
  refine me_call (y := 138) (y0 := 11) (L := [some (.ref 139), some (.ref 140), none]) (rest := []) (rr := none) (M1 := (mk_M c n m kk (rT (he, ke, ki, fi, fa, or, mi, a, g, l, w, s) (er (he, ke, ki, fi, fa, or, mi, a, g, l, w, s)) xi xw im le nu rf ln nn vp xn xc vs))) (fun f => rfl) (rc_copies (a := 140) (b := 139) (by decide) rfl rfl (er_len hV) (by assumption)) ?_
  refine me_seg 1 (pc1 := 12) (ls1 := [some (.ref 138)]) (st1 := [.ref 138]) (M1 := (mk_M c n m kk (rT (he, ke, ki, fi, fa, or, mi, a, g, l, w, s) (er (he, ke, ki, fi, fa, or, mi, a, g, l, w, s)) xi xw im le nu rf ln nn vp xn xc vs))) (fun f => rfl) ?_
  refine me_callE (y := 181) (y0 := 15) (L := [some (.ref 138)]) (rest := []) (fun f => rfl) (wm_there he ke ki fi fa or mi a g l w s xi im le nu rf ln nn c n m kk hA hC (he, ke, ki, fi, fa, or, mi, a, g, l, w, s) xw vp xn xc vs ⟨(er_len hV), (by assumption), (by assumption), (by assumption)⟩ hV (show s + 100 < 2 ^ 20 by omega)) ?_
  rintro _ _ ⟨⟨w_1, rfl⟩, xm_1, xw_1, vp_1, xn_1, xc_1, vs_1, rfl, hR_1⟩
  obtain ⟨r1_1, r2_1, r3_1, r4_1⟩ := id hR_1
  refine me_ret 1 (r := some (.int w_1)) (M1 := (mk_M c n m kk (rT (he, ke, ki, fi, fa, or, mi, a, g, l, w, s) xm_1 xi xw_1 im le nu rf ln nn vp_1 xn_1 xc_1 vs_1))) (fun f => rfl) ?_
  exact ⟨⟨_, rfl⟩, _, _, _, _, _, _, rfl, ⟨(by assumption), (by assumption), (by assumption), (by assumption)⟩⟩
set_option maxRecDepth 100000 in
theorem wm_doL (he ke ki fi fa or : List Nat) (mi a g l w s : Nat) (xi : List Int32) (im : Nat) (le nu rf : List Nat) (ln nn : Nat) (c : cC) (n m kk : kG) (hA : iA (he, ke, ki, fi, fa, or, mi, a, g, l, w, s)) (hC : iC nu nn) (p : Nat) (hp : p < mi) (k : Nat) : ∀ (j : Nat)  (Q : kK) (xw : List Int32) (vp : Int32) (xn xc : List Int32) (vs : Int32), j + k = 61 → iR (er Q) xw xn xc → kV Q → k_st Q + k < 2 ^ 20 → mm_E 176 13 [some (.ref 138), some (.int (nI p)), some (.int (nI j))] [] (mk_M c n m kk (rT (he, ke, ki, fi, fa, or, mi, a, g, l, w, s) (er Q) xi xw im le nu rf ln nn vp xn xc vs)) (pM isI (he, ke, ki, fi, fa, or, mi, a, g, l, w, s) xi im le nu rf ln nn c n m kk) := by
  obtain ⟨hV, hst⟩ := id hA
  have hst2 : s ≤ 999 := hst
  obtain ⟨v1, v2, v3, v4, v5, v6, v7, v8, v9, v10, v11, v12, v13, v14, v15, v16⟩ := id hV
  have v6l := kO_len mi v7 or v6
  obtain ⟨c1, c2, c3⟩ := id hC
  induction k with
  | zero =>
    intro j Q xw vp xn xc vs hj hR hQ hQs
    obtain ⟨r1, r2, r3, r4⟩ := id hR
    refine me_seg 2 (pc1 := 16) (ls1 := [some (.ref 138), some (.int (nI p)), some (.int (nI j))]) (st1 := [.int 60, .int (nI j)]) (M1 := (mk_M c n m kk (rT (he, ke, ki, fi, fa, or, mi, a, g, l, w, s) (er Q) xi xw im le nu rf ln nn vp xn xc vs))) (fun f => rfl) ?_
    refine me_t (C := 60 < (nI j)) (nI_ltt (a := 60) (b := j) (by omega)) (fun f => rfl) ?_
    refine me_ret 2 (r := some (.int (-9))) (M1 := (mk_M c n m kk (rT (he, ke, ki, fi, fa, or, mi, a, g, l, w, s) (er Q) xi xw im le nu rf ln nn vp xn xc vs))) (fun f => rfl) ?_
    exact ⟨⟨_, rfl⟩, _, _, _, _, _, _, rfl, ⟨(er_len hQ), (by assumption), (by assumption), (by assumption)⟩⟩
  | succ k IH =>
    intro j Q xw vp xn xc vs hj hR hQ hQs
    obtain ⟨r1, r2, r3, r4⟩ := id hR
    refine me_seg 2 (pc1 := 16) (ls1 := [some (.ref 138), some (.int (nI p)), some (.int (nI j))]) (st1 := [.int 60, .int (nI j)]) (M1 := (mk_M c n m kk (rT (he, ke, ki, fi, fa, or, mi, a, g, l, w, s) (er Q) xi xw im le nu rf ln nn vp xn xc vs))) (fun f => rfl) ?_
    refine me_f (C := 60 < (nI j)) (nI_ltf (a := 60) (b := j) (by omega)) (fun f => rfl) ?_
    refine me_seg 4 (pc1 := 25) (ls1 := [some (.ref 138), some (.int (nI p)), some (.int (nI j))]) (st1 := [.int 2, .int (nI p), .ref 140]) (M1 := (mk_M c n m kk (rT (he, ke, ki, fi, fa, or, mi, a, g, l, w, s) (er Q) xi xw im le nu rf ln nn vp xn xc vs))) (fun f => rfl) ?_
    refine me_call (y := 141) (y0 := 28) (L := [some (.int (nI p)), some (.int 2)]) (rest := [.ref 140]) (rr := some (.int (nI (32 + 3 * p + 2)))) (M1 := (mk_M c n m kk (rT (he, ke, ki, fi, fa, or, mi, a, g, l, w, s) (er Q) xi xw im le nu rf ln nn vp xn xc vs))) (fun f => rfl) (rc_of p 2 (by omega) (by decide) _) ?_
    refine me_ldn (xs := (er Q)) rfl rfl (k := 32 + 3 * p + 2) (by omega) (er_fa (K := Q) (kV_he hQ) (by omega)) ?_
    refine me_seg 4 (pc1 := 35) (ls1 := [some (.ref 138), some (.int (nI p)), some (.int (nI j))]) (st1 := [.int 2, .int (nI p), .ref 139, .int (nI (kg (k_fa Q) p))]) (M1 := (mk_M c n m kk (rT (he, ke, ki, fi, fa, or, mi, a, g, l, w, s) (er Q) xi xw im le nu rf ln nn vp xn xc vs))) (fun f => rfl) ?_
    refine me_call (y := 141) (y0 := 38) (L := [some (.int (nI p)), some (.int 2)]) (rest := [.ref 139, .int (nI (kg (k_fa Q) p))]) (rr := some (.int (nI (32 + 3 * p + 2)))) (M1 := (mk_M c n m kk (rT (he, ke, ki, fi, fa, or, mi, a, g, l, w, s) (er Q) xi xw im le nu rf ln nn vp xn xc vs))) (fun f => rfl) (rc_of p 2 (by omega) (by decide) _) ?_
    refine me_ldn (xs := (er (he, ke, ki, fi, fa, or, mi, a, g, l, w, s))) rfl rfl (k := 32 + 3 * p + 2) (by omega) (er_fa (K := (he, ke, ki, fi, fa, or, mi, a, g, l, w, s)) v1 (by omega)) ?_
    refine me_if (C := (nI (kg (k_fa Q) p)) ≤ (nI (kg fa p))) (fun f => rfl) (fun h1 => ?_) (fun h1 => ?_)
    · refine me_seg 3 (pc1 := 49) (ls1 := [some (.ref 138), some (.int (nI p)), some (.int (nI j))]) (st1 := [.int 0, .ref 140]) (M1 := (mk_M c n m kk (rT (he, ke, ki, fi, fa, or, mi, a, g, l, w, s) (er Q) xi xw im le nu rf ln nn vp xn xc vs))) (fun f => rfl) ?_
      refine me_call (y := 146) (y0 := 52) (L := [some (.ref 140), some (.int 0), none, none, none]) (rest := []) (rr := none) (M1 := (mk_M c n m kk (rT (he, ke, ki, fi, fa, or, mi, a, g, l, w, s) (er (kstep Q 0)) xi xw im le nu rf ln nn vp xn xc vs))) (fun f => rfl) (rl_m c n m kk (rT (he, ke, ki, fi, fa, or, mi, a, g, l, w, s) (er Q) xi xw im le nu rf ln nn vp xn xc vs) (rc_stepQ Q 0 (by decide) hQ (Nat.lt_trans (m := 2 ^ 20) (by omega) (by decide))) rfl) ?_
      refine me_seg 1 (pc1 := 55) (ls1 := [some (.ref 138), some (.int (nI p)), some (.int ((nI j) + 1))]) (st1 := []) (M1 := (mk_M c n m kk (rT (he, ke, ki, fi, fa, or, mi, a, g, l, w, s) (er (kstep Q 0)) xi xw im le nu rf ln nn vp xn xc vs))) (fun f => rfl) ?_
      refine me_l (fun q_ => [some (.ref 138), some (.int (nI p)), some (.int q_)]) (nI_add j 1) ?_
      refine me_seg 1 (pc1 := 13) (ls1 := [some (.ref 138), some (.int (nI p)), some (.int (nI (j + 1)))]) (st1 := []) (M1 := (mk_M c n m kk (rT (he, ke, ki, fi, fa, or, mi, a, g, l, w, s) (er (kstep Q 0)) xi xw im le nu rf ln nn vp xn xc vs))) (fun f => rfl) ?_
      exact IH (j + 1)  (kstep Q 0) xw vp xn xc vs (by omega) ⟨(er_len (kV_step hQ 0)), (by assumption), (by assumption), (by assumption)⟩ (kV_step hQ 0) (by first | omega | (rw [kst_step]; omega))
    · refine me_ret 2 (r := some (.int (nI j))) (M1 := (mk_M c n m kk (rT (he, ke, ki, fi, fa, or, mi, a, g, l, w, s) (er Q) xi xw im le nu rf ln nn vp xn xc vs))) (fun f => rfl) ?_
      exact ⟨⟨_, rfl⟩, _, _, _, _, _, _, rfl, ⟨(er_len hQ), (by assumption), (by assumption), (by assumption)⟩⟩
set_option maxRecDepth 100000 in
theorem wm_do (he ke ki fi fa or : List Nat) (mi a g l w s : Nat) (xi : List Int32) (im : Nat) (le nu rf : List Nat) (ln nn : Nat) (c : cC) (n m kk : kG) (hA : iA (he, ke, ki, fi, fa, or, mi, a, g, l, w, s)) (hC : iC nu nn) (xm xw : List Int32) (vp : Int32) (xn xc : List Int32) (vs : Int32) (hR : iR xm xw xn xc) (p : Nat) (hp : p < mi) : mm_E 176 0 [some (.ref 138), some (.int (nI p)), none] [] (mk_M c n m kk (rT (he, ke, ki, fi, fa, or, mi, a, g, l, w, s) xm xi xw im le nu rf ln nn vp xn xc vs)) (pM isI (he, ke, ki, fi, fa, or, mi, a, g, l, w, s) xi im le nu rf ln nn c n m kk) := by
  obtain ⟨hV, hst⟩ := id hA
  have hst2 : s ≤ 999 := hst
  obtain ⟨v1, v2, v3, v4, v5, v6, v7, v8, v9, v10, v11, v12, v13, v14, v15, v16⟩ := id hV
  have v6l := kO_len mi v7 or v6
  obtain ⟨c1, c2, c3⟩ := id hC
  obtain ⟨r1, r2, r3, r4⟩ := id hR
  refine me_seg 4 (pc1 := 8) (ls1 := [some (.ref 138), some (.int (nI p)), none]) (st1 := [.ref 140, .ref 139]) (M1 := (mk_M c n m kk (rT (he, ke, ki, fi, fa, or, mi, a, g, l, w, s) xm xi xw im le nu rf ln nn vp xn xc vs))) (fun f => rfl) ?_
  refine me_call (y := 138) (y0 := 11) (L := [some (.ref 139), some (.ref 140), none]) (rest := []) (rr := none) (M1 := (mk_M c n m kk (rT (he, ke, ki, fi, fa, or, mi, a, g, l, w, s) (er (he, ke, ki, fi, fa, or, mi, a, g, l, w, s)) xi xw im le nu rf ln nn vp xn xc vs))) (fun f => rfl) (rc_copies (a := 140) (b := 139) (by decide) rfl rfl (er_len hV) (by assumption)) ?_
  refine me_seg 2 (pc1 := 13) (ls1 := [some (.ref 138), some (.int (nI p)), some (.int 0)]) (st1 := []) (M1 := (mk_M c n m kk (rT (he, ke, ki, fi, fa, or, mi, a, g, l, w, s) (er (he, ke, ki, fi, fa, or, mi, a, g, l, w, s)) xi xw im le nu rf ln nn vp xn xc vs))) (fun f => rfl) ?_
  exact wm_doL he ke ki fi fa or mi a g l w s xi im le nu rf ln nn c n m kk hA hC p hp 61 0  (he, ke, ki, fi, fa, or, mi, a, g, l, w, s) xw vp xn xc vs (by omega) ⟨(er_len hV), (by assumption), (by assumption), (by assumption)⟩ hV (by show s + 61 < 2 ^ 20; omega)
set_option maxRecDepth 100000 in
theorem wm_fdL (he ke ki fi fa or : List Nat) (mi a g l w s : Nat) (xi : List Int32) (im : Nat) (le nu rf : List Nat) (ln nn : Nat) (c : cC) (n m kk : kG) (hA : iA (he, ke, ki, fi, fa, or, mi, a, g, l, w, s)) (hC : iC nu nn) (k : Nat) : ∀ (j : Nat) (u : Int32) (v : Int32) (lo4 : Option Value) (xm xw : List Int32) (vp : Int32) (xn xc : List Int32) (vs : Int32), j + k = mi → iR xm xw xn xc → mm_E 175 8 [some (.ref 138), some (.int u), some (.int v), some (.int (nI j)), lo4] [] (mk_M c n m kk (rT (he, ke, ki, fi, fa, or, mi, a, g, l, w, s) xm xi xw im le nu rf ln nn vp xn xc vs)) (pM isI (he, ke, ki, fi, fa, or, mi, a, g, l, w, s) xi im le nu rf ln nn c n m kk) := by
  obtain ⟨hV, hst⟩ := id hA
  have hst2 : s ≤ 999 := hst
  obtain ⟨v1, v2, v3, v4, v5, v6, v7, v8, v9, v10, v11, v12, v13, v14, v15, v16⟩ := id hV
  have v6l := kO_len mi v7 or v6
  obtain ⟨c1, c2, c3⟩ := id hC
  induction k with
  | zero =>
    intro j u v lo4 xm xw vp xn xc vs hj hR
    obtain ⟨r1, r2, r3, r4⟩ := id hR
    refine me_seg 4 (pc1 := 14) (ls1 := [some (.ref 138), some (.int u), some (.int v), some (.int (nI j)), lo4]) (st1 := [.int 0, .ref 139, .int (nI j)]) (M1 := (mk_M c n m kk (rT (he, ke, ki, fi, fa, or, mi, a, g, l, w, s) xm xi xw im le nu rf ln nn vp xn xc vs))) (fun f => rfl) ?_
    refine me_ldn (xs := (er (he, ke, ki, fi, fa, or, mi, a, g, l, w, s))) rfl rfl (k := 0) (by decide) rfl ?_
    refine me_t (C := (nI mi) ≤ (nI j)) (nI_let (a := mi) (b := j) (by omega)) (fun f => rfl) ?_
    refine me_ret 2 (r := some (.int u)) (M1 := (mk_M c n m kk (rT (he, ke, ki, fi, fa, or, mi, a, g, l, w, s) xm xi xw im le nu rf ln nn vp xn xc vs))) (fun f => rfl) ?_
    exact ⟨⟨_, rfl⟩, _, _, _, _, _, _, rfl, ⟨(by assumption), (by assumption), (by assumption), (by assumption)⟩⟩
  | succ k IH =>
    intro j u v lo4 xm xw vp xn xc vs hj hR
    obtain ⟨r1, r2, r3, r4⟩ := id hR
    refine me_seg 4 (pc1 := 14) (ls1 := [some (.ref 138), some (.int u), some (.int v), some (.int (nI j)), lo4]) (st1 := [.int 0, .ref 139, .int (nI j)]) (M1 := (mk_M c n m kk (rT (he, ke, ki, fi, fa, or, mi, a, g, l, w, s) xm xi xw im le nu rf ln nn vp xn xc vs))) (fun f => rfl) ?_
    refine me_ldn (xs := (er (he, ke, ki, fi, fa, or, mi, a, g, l, w, s))) rfl rfl (k := 0) (by decide) rfl ?_
    refine me_f (C := (nI mi) ≤ (nI j)) (nI_lef (a := mi) (b := j) (by omega)) (fun f => rfl) ?_
    refine me_seg 2 (pc1 := 20) (ls1 := [some (.ref 138), some (.int u), some (.int v), some (.int (nI j)), lo4]) (st1 := [.int (nI j), .ref 138]) (M1 := (mk_M c n m kk (rT (he, ke, ki, fi, fa, or, mi, a, g, l, w, s) xm xi xw im le nu rf ln nn vp xn xc vs))) (fun f => rfl) ?_
    refine me_callE (y := 176) (y0 := 23) (L := [some (.ref 138), some (.int (nI j)), none]) (rest := []) (fun f => rfl) (wm_do he ke ki fi fa or mi a g l w s xi im le nu rf ln nn c n m kk hA hC xm xw vp xn xc vs ⟨(by assumption), (by assumption), (by assumption), (by assumption)⟩ j (by omega)) ?_
    rintro _ _ ⟨⟨w_1, rfl⟩, xm_1, xw_1, vp_1, xn_1, xc_1, vs_1, rfl, hR_1⟩
    obtain ⟨r1_1, r2_1, r3_1, r4_1⟩ := id hR_1
    refine me_seg 2 (pc1 := 27) (ls1 := [some (.ref 138), some (.int u), some (.int v), some (.int (nI j)), some (.int w_1)]) (st1 := [.int w_1]) (M1 := (mk_M c n m kk (rT (he, ke, ki, fi, fa, or, mi, a, g, l, w, s) xm_1 xi xw_1 im le nu rf ln nn vp_1 xn_1 xc_1 vs_1))) (fun f => rfl) ?_
    refine me_if (C := w_1 < 0) (fun f => rfl) (fun h2 => ?_) (fun h2 => ?_)
    · refine me_seg 1 (pc1 := 47) (ls1 := [some (.ref 138), some (.int u), some (.int v), some (.int ((nI j) + 1)), some (.int w_1)]) (st1 := []) (M1 := (mk_M c n m kk (rT (he, ke, ki, fi, fa, or, mi, a, g, l, w, s) xm_1 xi xw_1 im le nu rf ln nn vp_1 xn_1 xc_1 vs_1))) (fun f => rfl) ?_
      refine me_l (fun q_ => [some (.ref 138), some (.int u), some (.int v), some (.int q_), some (.int w_1)]) (nI_add j 1) ?_
      refine me_seg 1 (pc1 := 8) (ls1 := [some (.ref 138), some (.int u), some (.int v), some (.int (nI (j + 1))), some (.int w_1)]) (st1 := []) (M1 := (mk_M c n m kk (rT (he, ke, ki, fi, fa, or, mi, a, g, l, w, s) xm_1 xi xw_1 im le nu rf ln nn vp_1 xn_1 xc_1 vs_1))) (fun f => rfl) ?_
      exact IH (j + 1) u v (some (.int w_1)) xm_1 xw_1 vp_1 xn_1 xc_1 vs_1 (by omega) ⟨(by assumption), (by assumption), (by assumption), (by assumption)⟩
    · refine me_seg 2 (pc1 := 33) (ls1 := [some (.ref 138), some (.int u), some (.int v), some (.int (nI j)), some (.int w_1)]) (st1 := [.int v, .int w_1]) (M1 := (mk_M c n m kk (rT (he, ke, ki, fi, fa, or, mi, a, g, l, w, s) xm_1 xi xw_1 im le nu rf ln nn vp_1 xn_1 xc_1 vs_1))) (fun f => rfl) ?_
      refine me_if (C := w_1 < v) (fun f => rfl) (fun h3 => ?_) (fun h3 => ?_)
      · refine me_seg 5 (pc1 := 47) (ls1 := [some (.ref 138), some (.int (nI j)), some (.int w_1), some (.int ((nI j) + 1)), some (.int w_1)]) (st1 := []) (M1 := (mk_M c n m kk (rT (he, ke, ki, fi, fa, or, mi, a, g, l, w, s) xm_1 xi xw_1 im le nu rf ln nn vp_1 xn_1 xc_1 vs_1))) (fun f => rfl) ?_
        refine me_l (fun q_ => [some (.ref 138), some (.int (nI j)), some (.int w_1), some (.int q_), some (.int w_1)]) (nI_add j 1) ?_
        refine me_seg 1 (pc1 := 8) (ls1 := [some (.ref 138), some (.int (nI j)), some (.int w_1), some (.int (nI (j + 1))), some (.int w_1)]) (st1 := []) (M1 := (mk_M c n m kk (rT (he, ke, ki, fi, fa, or, mi, a, g, l, w, s) xm_1 xi xw_1 im le nu rf ln nn vp_1 xn_1 xc_1 vs_1))) (fun f => rfl) ?_
        exact IH (j + 1) (nI j) w_1 (some (.int w_1)) xm_1 xw_1 vp_1 xn_1 xc_1 vs_1 (by omega) ⟨(by assumption), (by assumption), (by assumption), (by assumption)⟩
      · refine me_seg 2 (pc1 := 47) (ls1 := [some (.ref 138), some (.int u), some (.int v), some (.int ((nI j) + 1)), some (.int w_1)]) (st1 := []) (M1 := (mk_M c n m kk (rT (he, ke, ki, fi, fa, or, mi, a, g, l, w, s) xm_1 xi xw_1 im le nu rf ln nn vp_1 xn_1 xc_1 vs_1))) (fun f => rfl) ?_
        refine me_l (fun q_ => [some (.ref 138), some (.int u), some (.int v), some (.int q_), some (.int w_1)]) (nI_add j 1) ?_
        refine me_seg 1 (pc1 := 8) (ls1 := [some (.ref 138), some (.int u), some (.int v), some (.int (nI (j + 1))), some (.int w_1)]) (st1 := []) (M1 := (mk_M c n m kk (rT (he, ke, ki, fi, fa, or, mi, a, g, l, w, s) xm_1 xi xw_1 im le nu rf ln nn vp_1 xn_1 xc_1 vs_1))) (fun f => rfl) ?_
        exact IH (j + 1) u v (some (.int w_1)) xm_1 xw_1 vp_1 xn_1 xc_1 vs_1 (by omega) ⟨(by assumption), (by assumption), (by assumption), (by assumption)⟩
set_option maxRecDepth 100000 in
theorem wm_fd (he ke ki fi fa or : List Nat) (mi a g l w s : Nat) (xi : List Int32) (im : Nat) (le nu rf : List Nat) (ln nn : Nat) (c : cC) (n m kk : kG) (hA : iA (he, ke, ki, fi, fa, or, mi, a, g, l, w, s)) (hC : iC nu nn) (xm xw : List Int32) (vp : Int32) (xn xc : List Int32) (vs : Int32) (hR : iR xm xw xn xc) : mm_E 175 0 [some (.ref 138), none, none, none, none] [] (mk_M c n m kk (rT (he, ke, ki, fi, fa, or, mi, a, g, l, w, s) xm xi xw im le nu rf ln nn vp xn xc vs)) (pM isI (he, ke, ki, fi, fa, or, mi, a, g, l, w, s) xi im le nu rf ln nn c n m kk) := by
  obtain ⟨hV, hst⟩ := id hA
  have hst2 : s ≤ 999 := hst
  obtain ⟨v1, v2, v3, v4, v5, v6, v7, v8, v9, v10, v11, v12, v13, v14, v15, v16⟩ := id hV
  have v6l := kO_len mi v7 or v6
  obtain ⟨c1, c2, c3⟩ := id hC
  obtain ⟨r1, r2, r3, r4⟩ := id hR
  refine me_seg 6 (pc1 := 8) (ls1 := [some (.ref 138), some (.int (-9)), some (.int 1000000000), some (.int 0), none]) (st1 := []) (M1 := (mk_M c n m kk (rT (he, ke, ki, fi, fa, or, mi, a, g, l, w, s) xm xi xw im le nu rf ln nn vp xn xc vs))) (fun f => rfl) ?_
  exact wm_fdL he ke ki fi fa or mi a g l w s xi im le nu rf ln nn c n m kk hA hC mi 0 (-9) 1000000000 none xm xw vp xn xc vs (by omega) ⟨(by assumption), (by assumption), (by assumption), (by assumption)⟩
set_option maxRecDepth 100000 in
theorem wm_down_0 (he ke ki fi fa or : List Nat) (mi a g l w s : Nat) (xi : List Int32) (im : Nat) (le nu rf : List Nat) (ln nn : Nat) (c : cC) (n m kk : kG) (hA : iA (he, ke, ki, fi, fa, or, mi, a, g, l, w, s)) (hC : iC nu nn) (xm xw : List Int32) (vp : Int32) (xn xc : List Int32) (vs : Int32) (hR : iR xm xw xn xc) : mm_E 174 0 [some (.ref 138), some (.int (-1))] [] (mk_M c n m kk (rT (he, ke, ki, fi, fa, or, mi, a, g, l, w, s) xm xi xw im le nu rf ln nn vp xn xc vs)) (pM isI (he, ke, ki, fi, fa, or, mi, a, g, l, w, s) xi im le nu rf ln nn c n m kk) := by
  obtain ⟨hV, hst⟩ := id hA
  have hst2 : s ≤ 999 := hst
  obtain ⟨v1, v2, v3, v4, v5, v6, v7, v8, v9, v10, v11, v12, v13, v14, v15, v16⟩ := id hV
  have v6l := kO_len mi v7 or v6
  obtain ⟨c1, c2, c3⟩ := id hC
  obtain ⟨r1, r2, r3, r4⟩ := id hR
  refine me_seg 4 (pc1 := 6) (ls1 := [some (.ref 138), some (.int (-1))]) (st1 := [.ref 138]) (M1 := (mk_M c n m kk (rT (he, ke, ki, fi, fa, or, mi, a, g, l, w, s) xm xi xw im le nu rf ln nn vp xn xc vs))) (fun f => rfl) ?_
  refine me_callE (y := 175) (y0 := 9) (L := [some (.ref 138), none, none, none, none]) (rest := []) (fun f => rfl) (wm_fd he ke ki fi fa or mi a g l w s xi im le nu rf ln nn c n m kk hA hC xm xw vp xn xc vs ⟨(by assumption), (by assumption), (by assumption), (by assumption)⟩) ?_
  rintro _ _ ⟨⟨w_1, rfl⟩, xm_1, xw_1, vp_1, xn_1, xc_1, vs_1, rfl, hR_1⟩
  obtain ⟨r1_1, r2_1, r3_1, r4_1⟩ := id hR_1
  refine me_ret 2 (r := some (.int w_1)) (M1 := (mk_M c n m kk (rT (he, ke, ki, fi, fa, or, mi, a, g, l, w, s) xm_1 xi xw_1 im le nu rf ln nn vp_1 xn_1 xc_1 vs_1))) (fun f => rfl) ?_
  exact ⟨⟨_, rfl⟩, _, _, _, _, _, _, rfl, ⟨(by assumption), (by assumption), (by assumption), (by assumption)⟩⟩
set_option maxRecDepth 100000 in
theorem wm_down_1 (he ke ki fi fa or : List Nat) (mi a g l w s : Nat) (xi : List Int32) (im : Nat) (le nu rf : List Nat) (ln nn : Nat) (c : cC) (n m kk : kG) (hA : iA (he, ke, ki, fi, fa, or, mi, a, g, l, w, s)) (hC : iC nu nn) (xm xw : List Int32) (vp : Int32) (xn xc : List Int32) (vs : Int32) (hR : iR xm xw xn xc) (p : Nat) (hp : p < mi) : mm_E 174 0 [some (.ref 138), some (.int (nI p))] [] (mk_M c n m kk (rT (he, ke, ki, fi, fa, or, mi, a, g, l, w, s) xm xi xw im le nu rf ln nn vp xn xc vs)) (pM isI (he, ke, ki, fi, fa, or, mi, a, g, l, w, s) xi im le nu rf ln nn c n m kk) := by
  obtain ⟨hV, hst⟩ := id hA
  have hst2 : s ≤ 999 := hst
  obtain ⟨v1, v2, v3, v4, v5, v6, v7, v8, v9, v10, v11, v12, v13, v14, v15, v16⟩ := id hV
  have v6l := kO_len mi v7 or v6
  obtain ⟨c1, c2, c3⟩ := id hC
  obtain ⟨r1, r2, r3, r4⟩ := id hR
  refine me_seg 2 (pc1 := 2) (ls1 := [some (.ref 138), some (.int (nI p))]) (st1 := [.int (-1), .int (nI p)]) (M1 := (mk_M c n m kk (rT (he, ke, ki, fi, fa, or, mi, a, g, l, w, s) xm xi xw im le nu rf ln nn vp xn xc vs))) (fun f => rfl) ?_
  refine me_f (C := (nI p) = (-1)) (k_nc (by omega) (by decide)) (fun f => rfl) ?_
  refine me_seg 2 (pc1 := 14) (ls1 := [some (.ref 138), some (.int (nI p))]) (st1 := [.int (nI p), .ref 138]) (M1 := (mk_M c n m kk (rT (he, ke, ki, fi, fa, or, mi, a, g, l, w, s) xm xi xw im le nu rf ln nn vp xn xc vs))) (fun f => rfl) ?_
  refine me_call (y := 142) (y0 := 17) (L := [some (.ref 138), some (.int (nI p))]) (rest := []) (rr := some (.int 1)) (M1 := (mk_M c n m kk (rT (he, ke, ki, fi, fa, or, mi, a, g, l, w, s) xm xi xw im le nu rf ln nn vp xn xc vs))) (fun f => rfl) (ms_m2_ok (x := (nI p)) (b := (nI (mi - 1))) (pk_sub (a := mi) (b := 1) (by omega)) (nI_ltf (a := p) (b := 0) (by omega)) (nI_ltf (a := mi - 1) (b := p) (by omega))) ?_
  refine me_seg 3 (pc1 := 22) (ls1 := [some (.ref 138), some (.int (nI p))]) (st1 := [.int (nI p), .ref 138]) (M1 := (mk_M c n m kk (rT (he, ke, ki, fi, fa, or, mi, a, g, l, w, s) xm xi xw im le nu rf ln nn vp xn xc vs))) (fun f => rfl) ?_
  refine me_callE (y := 176) (y0 := 25) (L := [some (.ref 138), some (.int (nI p)), none]) (rest := []) (fun f => rfl) (wm_do he ke ki fi fa or mi a g l w s xi im le nu rf ln nn c n m kk hA hC xm xw vp xn xc vs ⟨(by assumption), (by assumption), (by assumption), (by assumption)⟩ p (by omega)) ?_
  rintro _ _ ⟨⟨w_1, rfl⟩, xm_1, xw_1, vp_1, xn_1, xc_1, vs_1, rfl, hR_1⟩
  obtain ⟨r1_1, r2_1, r3_1, r4_1⟩ := id hR_1
  refine me_ret 2 (r := some (.int w_1)) (M1 := (mk_M c n m kk (rT (he, ke, ki, fi, fa, or, mi, a, g, l, w, s) xm_1 xi xw_1 im le nu rf ln nn vp_1 xn_1 xc_1 vs_1))) (fun f => rfl) ?_
  exact ⟨⟨_, rfl⟩, _, _, _, _, _, _, rfl, ⟨(by assumption), (by assumption), (by assumption), (by assumption)⟩⟩
set_option maxRecDepth 100000 in
theorem wm_stuckL (he ke ki fi fa or : List Nat) (mi a g l w s : Nat) (xi : List Int32) (im : Nat) (le nu rf : List Nat) (ln nn : Nat) (c : cC) (n m kk : kG) (hA : iA (he, ke, ki, fi, fa, or, mi, a, g, l, w, s)) (hC : iC nu nn) (k : Nat) : ∀ (j : Nat) (v : Int32) (lo3 : Option Value) (Q : kK) (xw : List Int32) (vp : Int32) (xn xc : List Int32) (vs : Int32), j + k = 72 → iR (er Q) xw xn xc → kV Q → k_st Q + k < 2 ^ 20 → mm_E 177 15 [some (.ref 138), some (.int v), some (.int (nI j)), lo3] [] (mk_M c n m kk (rT (he, ke, ki, fi, fa, or, mi, a, g, l, w, s) (er Q) xi xw im le nu rf ln nn vp xn xc vs)) (pM isI (he, ke, ki, fi, fa, or, mi, a, g, l, w, s) xi im le nu rf ln nn c n m kk) := by
  obtain ⟨hV, hst⟩ := id hA
  have hst2 : s ≤ 999 := hst
  obtain ⟨v1, v2, v3, v4, v5, v6, v7, v8, v9, v10, v11, v12, v13, v14, v15, v16⟩ := id hV
  have v6l := kO_len mi v7 or v6
  obtain ⟨c1, c2, c3⟩ := id hC
  induction k with
  | zero =>
    intro j v lo3 Q xw vp xn xc vs hj hR hQ hQs
    obtain ⟨r1, r2, r3, r4⟩ := id hR
    refine me_seg 2 (pc1 := 18) (ls1 := [some (.ref 138), some (.int v), some (.int (nI j)), lo3]) (st1 := [.int 72, .int (nI j)]) (M1 := (mk_M c n m kk (rT (he, ke, ki, fi, fa, or, mi, a, g, l, w, s) (er Q) xi xw im le nu rf ln nn vp xn xc vs))) (fun f => rfl) ?_
    refine me_t (C := 72 ≤ (nI j)) (nI_let (a := 72) (b := j) (by omega)) (fun f => rfl) ?_
    refine me_ret 2 (r := some (.int (-9))) (M1 := (mk_M c n m kk (rT (he, ke, ki, fi, fa, or, mi, a, g, l, w, s) (er Q) xi xw im le nu rf ln nn vp xn xc vs))) (fun f => rfl) ?_
    exact ⟨⟨_, rfl⟩, _, _, _, _, _, _, rfl, ⟨(er_len hQ), (by assumption), (by assumption), (by assumption)⟩⟩
  | succ k IH =>
    intro j v lo3 Q xw vp xn xc vs hj hR hQ hQs
    obtain ⟨r1, r2, r3, r4⟩ := id hR
    refine me_seg 2 (pc1 := 18) (ls1 := [some (.ref 138), some (.int v), some (.int (nI j)), lo3]) (st1 := [.int 72, .int (nI j)]) (M1 := (mk_M c n m kk (rT (he, ke, ki, fi, fa, or, mi, a, g, l, w, s) (er Q) xi xw im le nu rf ln nn vp xn xc vs))) (fun f => rfl) ?_
    refine me_f (C := 72 ≤ (nI j)) (nI_lef (a := 72) (b := j) (by omega)) (fun f => rfl) ?_
    refine me_seg 3 (pc1 := 26) (ls1 := [some (.ref 138), some (.int v), some (.int (nI j)), lo3]) (st1 := [.int 2, .ref 140]) (M1 := (mk_M c n m kk (rT (he, ke, ki, fi, fa, or, mi, a, g, l, w, s) (er Q) xi xw im le nu rf ln nn vp xn xc vs))) (fun f => rfl) ?_
    refine me_ldn (xs := (er Q)) rfl rfl (k := 2) (by decide) rfl ?_
    refine me_seg 4 (pc1 := 33) (ls1 := [some (.ref 138), some (.int v), some (.int (nI j)), some (.int (nI (k_at Q)))]) (st1 := [.int 0, .ref 140]) (M1 := (mk_M c n m kk (rT (he, ke, ki, fi, fa, or, mi, a, g, l, w, s) (er Q) xi xw im le nu rf ln nn vp xn xc vs))) (fun f => rfl) ?_
    refine me_call (y := 146) (y0 := 36) (L := [some (.ref 140), some (.int 0), none, none, none]) (rest := []) (rr := none) (M1 := (mk_M c n m kk (rT (he, ke, ki, fi, fa, or, mi, a, g, l, w, s) (er (kstep Q 0)) xi xw im le nu rf ln nn vp xn xc vs))) (fun f => rfl) (rl_m c n m kk (rT (he, ke, ki, fi, fa, or, mi, a, g, l, w, s) (er Q) xi xw im le nu rf ln nn vp xn xc vs) (rc_stepQ Q 0 (by decide) hQ (Nat.lt_trans (m := 2 ^ 20) (by omega) (by decide))) rfl) ?_
    refine me_seg 3 (pc1 := 41) (ls1 := [some (.ref 138), some (.int v), some (.int (nI j)), some (.int (nI (k_at Q)))]) (st1 := [.int 2, .ref 140]) (M1 := (mk_M c n m kk (rT (he, ke, ki, fi, fa, or, mi, a, g, l, w, s) (er (kstep Q 0)) xi xw im le nu rf ln nn vp xn xc vs))) (fun f => rfl) ?_
    refine me_ldn (xs := (er (kstep Q 0))) rfl rfl (k := 2) (by decide) rfl ?_
    refine me_seg 1 (pc1 := 43) (ls1 := [some (.ref 138), some (.int v), some (.int (nI j)), some (.int (nI (k_at Q)))]) (st1 := [.int (nI (k_at Q)), .int (nI (k_at (kstep Q 0)))]) (M1 := (mk_M c n m kk (rT (he, ke, ki, fi, fa, or, mi, a, g, l, w, s) (er (kstep Q 0)) xi xw im le nu rf ln nn vp xn xc vs))) (fun f => rfl) ?_
    refine me_if (C := (nI (k_at (kstep Q 0))) = (nI (k_at Q))) (fun f => rfl) (fun h1 => ?_) (fun h1 => ?_)
    · refine me_seg 7 (pc1 := 57) (ls1 := [some (.ref 138), some (.int (v + (1 : Int32))), some (.int (nI j)), some (.int (nI (k_at Q)))]) (st1 := [.int 12, .int (v + (1 : Int32))]) (M1 := (mk_M c n m kk (rT (he, ke, ki, fi, fa, or, mi, a, g, l, w, s) (er (kstep Q 0)) xi xw im le nu rf ln nn vp xn xc vs))) (fun f => rfl) ?_
      refine me_if (C := (v + (1 : Int32)) = 12) (fun f => rfl) (fun h2 => ?_) (fun h2 => ?_)
      · refine me_ret 4 (r := some (.int ((nI j) - (11 : Int32)))) (M1 := (mk_M c n m kk (rT (he, ke, ki, fi, fa, or, mi, a, g, l, w, s) (er (kstep Q 0)) xi xw im le nu rf ln nn vp xn xc vs))) (fun f => rfl) ?_
        exact ⟨⟨_, rfl⟩, _, _, _, _, _, _, rfl, ⟨(er_len (kV_step hQ 0)), (by assumption), (by assumption), (by assumption)⟩⟩
      · refine me_seg 1 (pc1 := 68) (ls1 := [some (.ref 138), some (.int (v + (1 : Int32))), some (.int ((nI j) + 1)), some (.int (nI (k_at Q)))]) (st1 := []) (M1 := (mk_M c n m kk (rT (he, ke, ki, fi, fa, or, mi, a, g, l, w, s) (er (kstep Q 0)) xi xw im le nu rf ln nn vp xn xc vs))) (fun f => rfl) ?_
        refine me_l (fun q_ => [some (.ref 138), some (.int (v + (1 : Int32))), some (.int q_), some (.int (nI (k_at Q)))]) (nI_add j 1) ?_
        refine me_seg 1 (pc1 := 15) (ls1 := [some (.ref 138), some (.int (v + (1 : Int32))), some (.int (nI (j + 1))), some (.int (nI (k_at Q)))]) (st1 := []) (M1 := (mk_M c n m kk (rT (he, ke, ki, fi, fa, or, mi, a, g, l, w, s) (er (kstep Q 0)) xi xw im le nu rf ln nn vp xn xc vs))) (fun f => rfl) ?_
        exact IH (j + 1) (v + (1 : Int32)) (some (.int (nI (k_at Q)))) (kstep Q 0) xw vp xn xc vs (by omega) ⟨(er_len (kV_step hQ 0)), (by assumption), (by assumption), (by assumption)⟩ (kV_step hQ 0) (by first | omega | (rw [kst_step]; omega))
    · refine me_seg 6 (pc1 := 68) (ls1 := [some (.ref 138), some (.int 0), some (.int ((nI j) + 1)), some (.int (nI (k_at Q)))]) (st1 := []) (M1 := (mk_M c n m kk (rT (he, ke, ki, fi, fa, or, mi, a, g, l, w, s) (er (kstep Q 0)) xi xw im le nu rf ln nn vp xn xc vs))) (fun f => rfl) ?_
      refine me_l (fun q_ => [some (.ref 138), some (.int 0), some (.int q_), some (.int (nI (k_at Q)))]) (nI_add j 1) ?_
      refine me_seg 1 (pc1 := 15) (ls1 := [some (.ref 138), some (.int 0), some (.int (nI (j + 1))), some (.int (nI (k_at Q)))]) (st1 := []) (M1 := (mk_M c n m kk (rT (he, ke, ki, fi, fa, or, mi, a, g, l, w, s) (er (kstep Q 0)) xi xw im le nu rf ln nn vp xn xc vs))) (fun f => rfl) ?_
      exact IH (j + 1) 0 (some (.int (nI (k_at Q)))) (kstep Q 0) xw vp xn xc vs (by omega) ⟨(er_len (kV_step hQ 0)), (by assumption), (by assumption), (by assumption)⟩ (kV_step hQ 0) (by first | omega | (rw [kst_step]; omega))
set_option maxRecDepth 100000 in
theorem wm_stuck (he ke ki fi fa or : List Nat) (mi a g l w s : Nat) (xi : List Int32) (im : Nat) (le nu rf : List Nat) (ln nn : Nat) (c : cC) (n m kk : kG) (hA : iA (he, ke, ki, fi, fa, or, mi, a, g, l, w, s)) (hC : iC nu nn) (xm xw : List Int32) (vp : Int32) (xn xc : List Int32) (vs : Int32) (hR : iR xm xw xn xc) : mm_E 177 0 [some (.ref 138), none, none, none] [] (mk_M c n m kk (rT (he, ke, ki, fi, fa, or, mi, a, g, l, w, s) xm xi xw im le nu rf ln nn vp xn xc vs)) (pM isI (he, ke, ki, fi, fa, or, mi, a, g, l, w, s) xi im le nu rf ln nn c n m kk) := by
  obtain ⟨hV, hst⟩ := id hA
  have hst2 : s ≤ 999 := hst
  obtain ⟨v1, v2, v3, v4, v5, v6, v7, v8, v9, v10, v11, v12, v13, v14, v15, v16⟩ := id hV
  have v6l := kO_len mi v7 or v6
  obtain ⟨c1, c2, c3⟩ := id hC
  obtain ⟨r1, r2, r3, r4⟩ := id hR
  refine me_seg 4 (pc1 := 8) (ls1 := [some (.ref 138), none, none, none]) (st1 := [.ref 140, .ref 139]) (M1 := (mk_M c n m kk (rT (he, ke, ki, fi, fa, or, mi, a, g, l, w, s) xm xi xw im le nu rf ln nn vp xn xc vs))) (fun f => rfl) ?_
  refine me_call (y := 138) (y0 := 11) (L := [some (.ref 139), some (.ref 140), none]) (rest := []) (rr := none) (M1 := (mk_M c n m kk (rT (he, ke, ki, fi, fa, or, mi, a, g, l, w, s) (er (he, ke, ki, fi, fa, or, mi, a, g, l, w, s)) xi xw im le nu rf ln nn vp xn xc vs))) (fun f => rfl) (rc_copies (a := 140) (b := 139) (by decide) rfl rfl (er_len hV) (by assumption)) ?_
  refine me_seg 4 (pc1 := 15) (ls1 := [some (.ref 138), some (.int 0), some (.int 0), none]) (st1 := []) (M1 := (mk_M c n m kk (rT (he, ke, ki, fi, fa, or, mi, a, g, l, w, s) (er (he, ke, ki, fi, fa, or, mi, a, g, l, w, s)) xi xw im le nu rf ln nn vp xn xc vs))) (fun f => rfl) ?_
  exact wm_stuckL he ke ki fi fa or mi a g l w s xi im le nu rf ln nn c n m kk hA hC 72 0 0 none (he, ke, ki, fi, fa, or, mi, a, g, l, w, s) xw vp xn xc vs (by omega) ⟨(er_len hV), (by assumption), (by assumption), (by assumption)⟩ hV (by show s + 72 < 2 ^ 20; omega)
set_option maxRecDepth 100000 in
theorem wm_cl86 (he ke ki fi fa or : List Nat) (mi a g l w s : Nat) (xi : List Int32) (im : Nat) (le nu rf : List Nat) (ln nn : Nat) (c : cC) (n m kk : kG) (hA : iA (he, ke, ki, fi, fa, or, mi, a, g, l, w, s)) (hC : iC nu nn) (p x : Nat) (hp : p < 25) (hx : x < 2) (k1 ce : Nat) (hc : ce < 25) (HO : ∀ (lo5 : Option Value) (lo6 : Option Value) (lo7 : Option Value) (xm xw : List Int32) (vp : Int32) (xn xc : List Int32) (vs : Int32), iR xm xw xn xc → mm_E 178 76 [some (.ref 138), some (.int (nI p)), some (.int (nI x)), some (.int (nI k1)), some (.int (nI (ce + 1))), lo5, lo6, lo7] [] (mk_M c n m kk (rT (he, ke, ki, fi, fa, or, mi, a, g, l, w, s) xm xi xw im le nu rf ln nn vp xn xc vs)) (pM isI (he, ke, ki, fi, fa, or, mi, a, g, l, w, s) xi im le nu rf ln nn c n m kk)) (k : Nat) : ∀ (j : Nat) (lo6 : Option Value) (lo7 : Option Value) (xm xw : List Int32) (vp : Int32) (xn xc : List Int32) (vs : Int32), j + k = 4 → iR xm xw xn xc → mm_E 178 86 [some (.ref 138), some (.int (nI p)), some (.int (nI x)), some (.int (nI k1)), some (.int (nI ce)), some (.int (nI j)), lo6, lo7] [] (mk_M c n m kk (rT (he, ke, ki, fi, fa, or, mi, a, g, l, w, s) xm xi xw im le nu rf ln nn vp xn xc vs)) (pM isI (he, ke, ki, fi, fa, or, mi, a, g, l, w, s) xi im le nu rf ln nn c n m kk) := by
  obtain ⟨hV, hst⟩ := id hA
  have hst2 : s ≤ 999 := hst
  obtain ⟨v1, v2, v3, v4, v5, v6, v7, v8, v9, v10, v11, v12, v13, v14, v15, v16⟩ := id hV
  have v6l := kO_len mi v7 or v6
  obtain ⟨c1, c2, c3⟩ := id hC
  induction k with
  | zero =>
    intro j lo6 lo7 xm xw vp xn xc vs hj hR
    obtain ⟨r1, r2, r3, r4⟩ := id hR
    refine me_seg 2 (pc1 := 89) (ls1 := [some (.ref 138), some (.int (nI p)), some (.int (nI x)), some (.int (nI k1)), some (.int (nI ce)), some (.int (nI j)), lo6, lo7]) (st1 := [.int 4, .int (nI j)]) (M1 := (mk_M c n m kk (rT (he, ke, ki, fi, fa, or, mi, a, g, l, w, s) xm xi xw im le nu rf ln nn vp xn xc vs))) (fun f => rfl) ?_
    refine me_t (C := 4 ≤ (nI j)) (nI_let (a := 4) (b := j) (by omega)) (fun f => rfl) ?_
    refine me_seg 1 (pc1 := 215) (ls1 := [some (.ref 138), some (.int (nI p)), some (.int (nI x)), some (.int (nI k1)), some (.int ((nI ce) + 1)), some (.int (nI j)), lo6, lo7]) (st1 := []) (M1 := (mk_M c n m kk (rT (he, ke, ki, fi, fa, or, mi, a, g, l, w, s) xm xi xw im le nu rf ln nn vp xn xc vs))) (fun f => rfl) ?_
    refine me_l (fun q_ => [some (.ref 138), some (.int (nI p)), some (.int (nI x)), some (.int (nI k1)), some (.int q_), some (.int (nI j)), lo6, lo7]) (nI_add ce 1) ?_
    refine me_seg 1 (pc1 := 76) (ls1 := [some (.ref 138), some (.int (nI p)), some (.int (nI x)), some (.int (nI k1)), some (.int (nI (ce + 1))), some (.int (nI j)), lo6, lo7]) (st1 := []) (M1 := (mk_M c n m kk (rT (he, ke, ki, fi, fa, or, mi, a, g, l, w, s) xm xi xw im le nu rf ln nn vp xn xc vs))) (fun f => rfl) ?_
    exact HO (some (.int (nI j))) (lo6) (lo7) xm xw vp xn xc vs ⟨(by assumption), (by assumption), (by assumption), (by assumption)⟩
  | succ k IH =>
    intro j lo6 lo7 xm xw vp xn xc vs hj hR
    obtain ⟨r1, r2, r3, r4⟩ := id hR
    refine me_seg 2 (pc1 := 89) (ls1 := [some (.ref 138), some (.int (nI p)), some (.int (nI x)), some (.int (nI k1)), some (.int (nI ce)), some (.int (nI j)), lo6, lo7]) (st1 := [.int 4, .int (nI j)]) (M1 := (mk_M c n m kk (rT (he, ke, ki, fi, fa, or, mi, a, g, l, w, s) xm xi xw im le nu rf ln nn vp xn xc vs))) (fun f => rfl) ?_
    refine me_f (C := 4 ≤ (nI j)) (nI_lef (a := 4) (b := j) (by omega)) (fun f => rfl) ?_
    refine me_seg 2 (pc1 := 96) (ls1 := [some (.ref 138), some (.int (nI p)), some (.int (nI x)), some (.int (nI k1)), some (.int (nI ce)), some (.int (nI j)), lo6, lo7]) (st1 := [.int (nI j), .int (nI ce)]) (M1 := (mk_M c n m kk (rT (he, ke, ki, fi, fa, or, mi, a, g, l, w, s) xm xi xw im le nu rf ln nn vp xn xc vs))) (fun f => rfl) ?_
    refine me_call (y := 149) (y0 := 99) (L := [some (.int (nI ce)), some (.int (nI j))]) (rest := []) (rr := some (.int (kI (kbey ce j)))) (M1 := (mk_M c n m kk (rT (he, ke, ki, fi, fa, or, mi, a, g, l, w, s) xm xi xw im le nu rf ln nn vp xn xc vs))) (fun f => rfl) (rc_bey (c := ce) (w := j) (by omega) (by omega) _) ?_
    rcases hb_1 : kbey ce j with _ | t_1
    · refine me_v (show kI none = (-9 : Int32) from rfl) ?_
      refine me_seg 4 (pc1 := 209) (ls1 := [some (.ref 138), some (.int (nI p)), some (.int (nI x)), some (.int (nI k1)), some (.int (nI ce)), some (.int ((nI j) + 1)), some (.int (-9)), lo7]) (st1 := []) (M1 := (mk_M c n m kk (rT (he, ke, ki, fi, fa, or, mi, a, g, l, w, s) xm xi xw im le nu rf ln nn vp xn xc vs))) (fun f => rfl) ?_
      refine me_l (fun q_ => [some (.ref 138), some (.int (nI p)), some (.int (nI x)), some (.int (nI k1)), some (.int (nI ce)), some (.int q_), some (.int (-9)), lo7]) (nI_add j 1) ?_
      refine me_seg 1 (pc1 := 86) (ls1 := [some (.ref 138), some (.int (nI p)), some (.int (nI x)), some (.int (nI k1)), some (.int (nI ce)), some (.int (nI (j + 1))), some (.int (-9)), lo7]) (st1 := []) (M1 := (mk_M c n m kk (rT (he, ke, ki, fi, fa, or, mi, a, g, l, w, s) xm xi xw im le nu rf ln nn vp xn xc vs))) (fun f => rfl) ?_
      exact IH (j + 1) (some (.int (-9))) (lo7) xm xw vp xn xc vs (by omega) ⟨(by assumption), (by assumption), (by assumption), (by assumption)⟩
    · have ht_1 := kbey_lt (by omega) hb_1
      refine me_v (show kI (some t_1) = nI t_1 from rfl) ?_
      refine me_seg 2 (pc1 := 103) (ls1 := [some (.ref 138), some (.int (nI p)), some (.int (nI x)), some (.int (nI k1)), some (.int (nI ce)), some (.int (nI j)), some (.int (nI t_1)), lo7]) (st1 := [.int (nI t_1)]) (M1 := (mk_M c n m kk (rT (he, ke, ki, fi, fa, or, mi, a, g, l, w, s) xm xi xw im le nu rf ln nn vp xn xc vs))) (fun f => rfl) ?_
      refine me_f (C := (nI t_1) < 0) (nI_pos (by omega)) (fun f => rfl) ?_
      refine me_seg 3 (pc1 := 112) (ls1 := [some (.ref 138), some (.int (nI p)), some (.int (nI x)), some (.int (nI k1)), some (.int (nI ce)), some (.int (nI j)), some (.int (nI t_1)), lo7]) (st1 := [.int (nI ce), .ref 147]) (M1 := (mk_M c n m kk (rT (he, ke, ki, fi, fa, or, mi, a, g, l, w, s) xm xi xw im le nu rf ln nn vp xn xc vs))) (fun f => rfl) ?_
      refine me_ldn (xs := xc) rfl rfl (k := ce) (by omega) (kgr_ok (by first | omega | (simp only [List.length_set]; omega))) ?_
      refine me_seg 1 (pc1 := 115) (ls1 := [some (.ref 138), some (.int (nI p)), some (.int (nI x)), some (.int (nI k1)), some (.int (nI ce)), some (.int (nI j)), some (.int (nI t_1)), lo7]) (st1 := [.int 1000000000, .int (kgr xc ce)]) (M1 := (mk_M c n m kk (rT (he, ke, ki, fi, fa, or, mi, a, g, l, w, s) xm xi xw im le nu rf ln nn vp xn xc vs))) (fun f => rfl) ?_
      refine me_if (C := (kgr xc ce) < 1000000000) (fun f => rfl) (fun h2 => ?_) (fun h2 => ?_)
      · refine me_seg 5 (pc1 := 130) (ls1 := [some (.ref 138), some (.int (nI p)), some (.int (nI x)), some (.int (nI k1)), some (.int (nI ce)), some (.int (nI j)), some (.int (nI t_1)), lo7]) (st1 := [.int ((7 : Int32) + (nI t_1)), .ref 139]) (M1 := (mk_M c n m kk (rT (he, ke, ki, fi, fa, or, mi, a, g, l, w, s) xm xi xw im le nu rf ln nn vp xn xc vs))) (fun f => rfl) ?_
        refine me_v (nI_add 7 t_1) ?_
        refine me_ldn (xs := (er (he, ke, ki, fi, fa, or, mi, a, g, l, w, s))) rfl rfl (k := 7 + t_1) (by omega) (er_h (K := (he, ke, ki, fi, fa, or, mi, a, g, l, w, s)) v1 (by omega)) ?_
        refine me_seg 5 (pc1 := 140) (ls1 := [some (.ref 138), some (.int (nI p)), some (.int (nI x)), some (.int (nI k1)), some (.int (nI ce)), some (.int (nI j)), some (.int (nI t_1)), lo7]) (st1 := [.int ((7 : Int32) + (nI ce)), .ref 139, .int (nI (kg he t_1))]) (M1 := (mk_M c n m kk (rT (he, ke, ki, fi, fa, or, mi, a, g, l, w, s) xm xi xw im le nu rf ln nn vp xn xc vs))) (fun f => rfl) ?_
        refine me_v (nI_add 7 ce) ?_
        refine me_ldn (xs := (er (he, ke, ki, fi, fa, or, mi, a, g, l, w, s))) rfl rfl (k := 7 + ce) (by omega) (er_h (K := (he, ke, ki, fi, fa, or, mi, a, g, l, w, s)) v1 (by omega)) ?_
        refine me_seg 8 (pc1 := 156) (ls1 := [some (.ref 138), some (.int (nI p)), some (.int (nI x)), some (.int (nI k1)), some (.int (nI ce)), some (.int (nI j)), some (.int (nI t_1)), some (.int ((nI (kg he t_1)) - (nI (kg he ce))))]) (st1 := [.int (nI t_1), .ref 147, .int (nI t_1), .ref 147]) (M1 := (mk_M c n m kk (rT (he, ke, ki, fi, fa, or, mi, a, g, l, w, s) xm xi xw im le nu rf ln nn vp xn xc vs))) (fun f => rfl) ?_
        refine me_ldn (xs := xc) rfl rfl (k := t_1) (by omega) (kgr_ok (by first | omega | (simp only [List.length_set]; omega))) ?_
        refine me_seg 3 (pc1 := 163) (ls1 := [some (.ref 138), some (.int (nI p)), some (.int (nI x)), some (.int (nI k1)), some (.int (nI ce)), some (.int (nI j)), some (.int (nI t_1)), some (.int ((nI (kg he t_1)) - (nI (kg he ce))))]) (st1 := [.int (nI ce), .ref 147, .int (kgr xc t_1), .int (nI t_1), .ref 147]) (M1 := (mk_M c n m kk (rT (he, ke, ki, fi, fa, or, mi, a, g, l, w, s) xm xi xw im le nu rf ln nn vp xn xc vs))) (fun f => rfl) ?_
        refine me_ldn (xs := xc) rfl rfl (k := ce) (by omega) (kgr_ok (by first | omega | (simp only [List.length_set]; omega))) ?_
        refine me_seg 1 (pc1 := 166) (ls1 := [some (.ref 138), some (.int (nI p)), some (.int (nI x)), some (.int (nI k1)), some (.int (nI ce)), some (.int (nI j)), some (.int (nI t_1)), some (.int ((nI (kg he t_1)) - (nI (kg he ce))))]) (st1 := [.int ((nI (kg he t_1)) - (nI (kg he ce))), .int (kgr xc ce), .int (kgr xc t_1), .int (nI t_1), .ref 147]) (M1 := (mk_M c n m kk (rT (he, ke, ki, fi, fa, or, mi, a, g, l, w, s) xm xi xw im le nu rf ln nn vp xn xc vs))) (fun f => rfl) ?_
        refine me_if (C := ((nI (kg he t_1)) - (nI (kg he ce))) ≤ 0) (fun f => rfl) (fun h3 => ?_) (fun h3 => ?_)
        · refine me_seg 4 (pc1 := 178) (ls1 := [some (.ref 138), some (.int (nI p)), some (.int (nI x)), some (.int (nI k1)), some (.int (nI ce)), some (.int (nI j)), some (.int (nI t_1)), some (.int ((nI (kg he t_1)) - (nI (kg he ce))))]) (st1 := [.int 1, .int (nI x), .int ((kgr xc ce) + (0 : Int32)), .int (kgr xc t_1), .int (nI t_1), .ref 147]) (M1 := (mk_M c n m kk (rT (he, ke, ki, fi, fa, or, mi, a, g, l, w, s) xm xi xw im le nu rf ln nn vp xn xc vs))) (fun f => rfl) ?_
          refine me_if (C := (nI x) = 1) (fun f => rfl) (fun h4 => ?_) (fun h4 => ?_)
          · refine me_seg 3 (pc1 := 187) (ls1 := [some (.ref 138), some (.int (nI p)), some (.int (nI x)), some (.int (nI k1)), some (.int (nI ce)), some (.int (nI j)), some (.int (nI t_1)), some (.int ((nI (kg he t_1)) - (nI (kg he ce))))]) (st1 := [.int 6, .ref 139, .int ((kgr xc ce) + (0 : Int32)), .int (kgr xc t_1), .int (nI t_1), .ref 147]) (M1 := (mk_M c n m kk (rT (he, ke, ki, fi, fa, or, mi, a, g, l, w, s) xm xi xw im le nu rf ln nn vp xn xc vs))) (fun f => rfl) ?_
            refine me_ldn (xs := (er (he, ke, ki, fi, fa, or, mi, a, g, l, w, s))) rfl rfl (k := 6) (by decide) rfl ?_
            refine me_seg 1 (pc1 := 190) (ls1 := [some (.ref 138), some (.int (nI p)), some (.int (nI x)), some (.int (nI k1)), some (.int (nI ce)), some (.int (nI j)), some (.int (nI t_1)), some (.int ((nI (kg he t_1)) - (nI (kg he ce))))]) (st1 := [.int (nI t_1), .int (nI (kbits ke)), .int ((kgr xc ce) + (0 : Int32)), .int (kgr xc t_1), .int (nI t_1), .ref 147]) (M1 := (mk_M c n m kk (rT (he, ke, ki, fi, fa, or, mi, a, g, l, w, s) xm xi xw im le nu rf ln nn vp xn xc vs))) (fun f => rfl) ?_
            refine me_callE (y := 151) (y0 := 193) (L := [some (.int (nI (kbits ke))), some (.int (nI t_1))]) (rest := [.int ((kgr xc ce) + (0 : Int32)), .int (kgr xc t_1), .int (nI t_1), .ref 147]) (fun f => rfl) (wm_has (nI (kbits ke)) (nI t_1) _) ?_
            rintro _ _ ⟨⟨b_5, hb_5, rfl⟩, rfl⟩
            refine me_if (C := (nI b_5) = 0) (fun f => rfl) (fun h6 => ?_) (fun h6 => ?_)
            · refine me_seg 2 (pc1 := 202) (ls1 := [some (.ref 138), some (.int (nI p)), some (.int (nI x)), some (.int (nI k1)), some (.int (nI ce)), some (.int (nI j)), some (.int (nI t_1)), some (.int ((nI (kg he t_1)) - (nI (kg he ce))))]) (st1 := [.int (((kgr xc ce) + (0 : Int32)) + (0 : Int32)), .int (kgr xc t_1), .int (nI t_1), .ref 147]) (M1 := (mk_M c n m kk (rT (he, ke, ki, fi, fa, or, mi, a, g, l, w, s) xm xi xw im le nu rf ln nn vp xn xc vs))) (fun f => rfl) ?_
              refine me_call (y := 154) (y0 := 205) (L := [some (.int (kgr xc t_1)), some (.int (((kgr xc ce) + (0 : Int32)) + (0 : Int32)))]) (rest := [.int (nI t_1), .ref 147]) (rr := some (.int (if (kgr xc t_1) < (((kgr xc ce) + (0 : Int32)) + (0 : Int32)) then (kgr xc t_1) else (((kgr xc ce) + (0 : Int32)) + (0 : Int32))))) (M1 := (mk_M c n m kk (rT (he, ke, ki, fi, fa, or, mi, a, g, l, w, s) xm xi xw im le nu rf ln nn vp xn xc vs))) (fun f => rfl) (wm_least (kgr xc t_1) (((kgr xc ce) + (0 : Int32)) + (0 : Int32)) _) ?_
              refine me_stn (xs := xc) (ys := (xc.set t_1 (if (kgr xc t_1) < (((kgr xc ce) + (0 : Int32)) + (0 : Int32)) then (kgr xc t_1) else (((kgr xc ce) + (0 : Int32)) + (0 : Int32))))) (M2 := (mk_M c n m kk (rT (he, ke, ki, fi, fa, or, mi, a, g, l, w, s) xm xi xw im le nu rf ln nn vp xn (xc.set t_1 (if (kgr xc t_1) < (((kgr xc ce) + (0 : Int32)) + (0 : Int32)) then (kgr xc t_1) else (((kgr xc ce) + (0 : Int32)) + (0 : Int32)))) vs))) rfl rfl (k := t_1) (by omega) (by first | omega | (simp only [List.length_set]; omega)) rfl rfl ?_
              refine me_seg 1 (pc1 := 209) (ls1 := [some (.ref 138), some (.int (nI p)), some (.int (nI x)), some (.int (nI k1)), some (.int (nI ce)), some (.int ((nI j) + 1)), some (.int (nI t_1)), some (.int ((nI (kg he t_1)) - (nI (kg he ce))))]) (st1 := []) (M1 := (mk_M c n m kk (rT (he, ke, ki, fi, fa, or, mi, a, g, l, w, s) xm xi xw im le nu rf ln nn vp xn (xc.set t_1 (if (kgr xc t_1) < (((kgr xc ce) + (0 : Int32)) + (0 : Int32)) then (kgr xc t_1) else (((kgr xc ce) + (0 : Int32)) + (0 : Int32)))) vs))) (fun f => rfl) ?_
              refine me_l (fun q_ => [some (.ref 138), some (.int (nI p)), some (.int (nI x)), some (.int (nI k1)), some (.int (nI ce)), some (.int q_), some (.int (nI t_1)), some (.int ((nI (kg he t_1)) - (nI (kg he ce))))]) (nI_add j 1) ?_
              refine me_seg 1 (pc1 := 86) (ls1 := [some (.ref 138), some (.int (nI p)), some (.int (nI x)), some (.int (nI k1)), some (.int (nI ce)), some (.int (nI (j + 1))), some (.int (nI t_1)), some (.int ((nI (kg he t_1)) - (nI (kg he ce))))]) (st1 := []) (M1 := (mk_M c n m kk (rT (he, ke, ki, fi, fa, or, mi, a, g, l, w, s) xm xi xw im le nu rf ln nn vp xn (xc.set t_1 (if (kgr xc t_1) < (((kgr xc ce) + (0 : Int32)) + (0 : Int32)) then (kgr xc t_1) else (((kgr xc ce) + (0 : Int32)) + (0 : Int32)))) vs))) (fun f => rfl) ?_
              exact IH (j + 1) (some (.int (nI t_1))) (some (.int ((nI (kg he t_1)) - (nI (kg he ce))))) xm xw vp xn (xc.set t_1 (if (kgr xc t_1) < (((kgr xc ce) + (0 : Int32)) + (0 : Int32)) then (kgr xc t_1) else (((kgr xc ce) + (0 : Int32)) + (0 : Int32)))) vs (by omega) ⟨(by assumption), (by assumption), (by assumption), (by simp only [List.length_set]; assumption)⟩
            · refine me_seg 3 (pc1 := 202) (ls1 := [some (.ref 138), some (.int (nI p)), some (.int (nI x)), some (.int (nI k1)), some (.int (nI ce)), some (.int (nI j)), some (.int (nI t_1)), some (.int ((nI (kg he t_1)) - (nI (kg he ce))))]) (st1 := [.int (((kgr xc ce) + (0 : Int32)) + (2 : Int32)), .int (kgr xc t_1), .int (nI t_1), .ref 147]) (M1 := (mk_M c n m kk (rT (he, ke, ki, fi, fa, or, mi, a, g, l, w, s) xm xi xw im le nu rf ln nn vp xn xc vs))) (fun f => rfl) ?_
              refine me_call (y := 154) (y0 := 205) (L := [some (.int (kgr xc t_1)), some (.int (((kgr xc ce) + (0 : Int32)) + (2 : Int32)))]) (rest := [.int (nI t_1), .ref 147]) (rr := some (.int (if (kgr xc t_1) < (((kgr xc ce) + (0 : Int32)) + (2 : Int32)) then (kgr xc t_1) else (((kgr xc ce) + (0 : Int32)) + (2 : Int32))))) (M1 := (mk_M c n m kk (rT (he, ke, ki, fi, fa, or, mi, a, g, l, w, s) xm xi xw im le nu rf ln nn vp xn xc vs))) (fun f => rfl) (wm_least (kgr xc t_1) (((kgr xc ce) + (0 : Int32)) + (2 : Int32)) _) ?_
              refine me_stn (xs := xc) (ys := (xc.set t_1 (if (kgr xc t_1) < (((kgr xc ce) + (0 : Int32)) + (2 : Int32)) then (kgr xc t_1) else (((kgr xc ce) + (0 : Int32)) + (2 : Int32))))) (M2 := (mk_M c n m kk (rT (he, ke, ki, fi, fa, or, mi, a, g, l, w, s) xm xi xw im le nu rf ln nn vp xn (xc.set t_1 (if (kgr xc t_1) < (((kgr xc ce) + (0 : Int32)) + (2 : Int32)) then (kgr xc t_1) else (((kgr xc ce) + (0 : Int32)) + (2 : Int32)))) vs))) rfl rfl (k := t_1) (by omega) (by first | omega | (simp only [List.length_set]; omega)) rfl rfl ?_
              refine me_seg 1 (pc1 := 209) (ls1 := [some (.ref 138), some (.int (nI p)), some (.int (nI x)), some (.int (nI k1)), some (.int (nI ce)), some (.int ((nI j) + 1)), some (.int (nI t_1)), some (.int ((nI (kg he t_1)) - (nI (kg he ce))))]) (st1 := []) (M1 := (mk_M c n m kk (rT (he, ke, ki, fi, fa, or, mi, a, g, l, w, s) xm xi xw im le nu rf ln nn vp xn (xc.set t_1 (if (kgr xc t_1) < (((kgr xc ce) + (0 : Int32)) + (2 : Int32)) then (kgr xc t_1) else (((kgr xc ce) + (0 : Int32)) + (2 : Int32)))) vs))) (fun f => rfl) ?_
              refine me_l (fun q_ => [some (.ref 138), some (.int (nI p)), some (.int (nI x)), some (.int (nI k1)), some (.int (nI ce)), some (.int q_), some (.int (nI t_1)), some (.int ((nI (kg he t_1)) - (nI (kg he ce))))]) (nI_add j 1) ?_
              refine me_seg 1 (pc1 := 86) (ls1 := [some (.ref 138), some (.int (nI p)), some (.int (nI x)), some (.int (nI k1)), some (.int (nI ce)), some (.int (nI (j + 1))), some (.int (nI t_1)), some (.int ((nI (kg he t_1)) - (nI (kg he ce))))]) (st1 := []) (M1 := (mk_M c n m kk (rT (he, ke, ki, fi, fa, or, mi, a, g, l, w, s) xm xi xw im le nu rf ln nn vp xn (xc.set t_1 (if (kgr xc t_1) < (((kgr xc ce) + (0 : Int32)) + (2 : Int32)) then (kgr xc t_1) else (((kgr xc ce) + (0 : Int32)) + (2 : Int32)))) vs))) (fun f => rfl) ?_
              exact IH (j + 1) (some (.int (nI t_1))) (some (.int ((nI (kg he t_1)) - (nI (kg he ce))))) xm xw vp xn (xc.set t_1 (if (kgr xc t_1) < (((kgr xc ce) + (0 : Int32)) + (2 : Int32)) then (kgr xc t_1) else (((kgr xc ce) + (0 : Int32)) + (2 : Int32)))) vs (by omega) ⟨(by assumption), (by assumption), (by assumption), (by simp only [List.length_set]; assumption)⟩
          · refine me_seg 2 (pc1 := 202) (ls1 := [some (.ref 138), some (.int (nI p)), some (.int (nI x)), some (.int (nI k1)), some (.int (nI ce)), some (.int (nI j)), some (.int (nI t_1)), some (.int ((nI (kg he t_1)) - (nI (kg he ce))))]) (st1 := [.int (((kgr xc ce) + (0 : Int32)) + (0 : Int32)), .int (kgr xc t_1), .int (nI t_1), .ref 147]) (M1 := (mk_M c n m kk (rT (he, ke, ki, fi, fa, or, mi, a, g, l, w, s) xm xi xw im le nu rf ln nn vp xn xc vs))) (fun f => rfl) ?_
            refine me_call (y := 154) (y0 := 205) (L := [some (.int (kgr xc t_1)), some (.int (((kgr xc ce) + (0 : Int32)) + (0 : Int32)))]) (rest := [.int (nI t_1), .ref 147]) (rr := some (.int (if (kgr xc t_1) < (((kgr xc ce) + (0 : Int32)) + (0 : Int32)) then (kgr xc t_1) else (((kgr xc ce) + (0 : Int32)) + (0 : Int32))))) (M1 := (mk_M c n m kk (rT (he, ke, ki, fi, fa, or, mi, a, g, l, w, s) xm xi xw im le nu rf ln nn vp xn xc vs))) (fun f => rfl) (wm_least (kgr xc t_1) (((kgr xc ce) + (0 : Int32)) + (0 : Int32)) _) ?_
            refine me_stn (xs := xc) (ys := (xc.set t_1 (if (kgr xc t_1) < (((kgr xc ce) + (0 : Int32)) + (0 : Int32)) then (kgr xc t_1) else (((kgr xc ce) + (0 : Int32)) + (0 : Int32))))) (M2 := (mk_M c n m kk (rT (he, ke, ki, fi, fa, or, mi, a, g, l, w, s) xm xi xw im le nu rf ln nn vp xn (xc.set t_1 (if (kgr xc t_1) < (((kgr xc ce) + (0 : Int32)) + (0 : Int32)) then (kgr xc t_1) else (((kgr xc ce) + (0 : Int32)) + (0 : Int32)))) vs))) rfl rfl (k := t_1) (by omega) (by first | omega | (simp only [List.length_set]; omega)) rfl rfl ?_
            refine me_seg 1 (pc1 := 209) (ls1 := [some (.ref 138), some (.int (nI p)), some (.int (nI x)), some (.int (nI k1)), some (.int (nI ce)), some (.int ((nI j) + 1)), some (.int (nI t_1)), some (.int ((nI (kg he t_1)) - (nI (kg he ce))))]) (st1 := []) (M1 := (mk_M c n m kk (rT (he, ke, ki, fi, fa, or, mi, a, g, l, w, s) xm xi xw im le nu rf ln nn vp xn (xc.set t_1 (if (kgr xc t_1) < (((kgr xc ce) + (0 : Int32)) + (0 : Int32)) then (kgr xc t_1) else (((kgr xc ce) + (0 : Int32)) + (0 : Int32)))) vs))) (fun f => rfl) ?_
            refine me_l (fun q_ => [some (.ref 138), some (.int (nI p)), some (.int (nI x)), some (.int (nI k1)), some (.int (nI ce)), some (.int q_), some (.int (nI t_1)), some (.int ((nI (kg he t_1)) - (nI (kg he ce))))]) (nI_add j 1) ?_
            refine me_seg 1 (pc1 := 86) (ls1 := [some (.ref 138), some (.int (nI p)), some (.int (nI x)), some (.int (nI k1)), some (.int (nI ce)), some (.int (nI (j + 1))), some (.int (nI t_1)), some (.int ((nI (kg he t_1)) - (nI (kg he ce))))]) (st1 := []) (M1 := (mk_M c n m kk (rT (he, ke, ki, fi, fa, or, mi, a, g, l, w, s) xm xi xw im le nu rf ln nn vp xn (xc.set t_1 (if (kgr xc t_1) < (((kgr xc ce) + (0 : Int32)) + (0 : Int32)) then (kgr xc t_1) else (((kgr xc ce) + (0 : Int32)) + (0 : Int32)))) vs))) (fun f => rfl) ?_
            exact IH (j + 1) (some (.int (nI t_1))) (some (.int ((nI (kg he t_1)) - (nI (kg he ce))))) xm xw vp xn (xc.set t_1 (if (kgr xc t_1) < (((kgr xc ce) + (0 : Int32)) + (0 : Int32)) then (kgr xc t_1) else (((kgr xc ce) + (0 : Int32)) + (0 : Int32)))) vs (by omega) ⟨(by assumption), (by assumption), (by assumption), (by simp only [List.length_set]; assumption)⟩
        · refine me_seg 5 (pc1 := 178) (ls1 := [some (.ref 138), some (.int (nI p)), some (.int (nI x)), some (.int (nI k1)), some (.int (nI ce)), some (.int (nI j)), some (.int (nI t_1)), some (.int ((nI (kg he t_1)) - (nI (kg he ce))))]) (st1 := [.int 1, .int (nI x), .int ((kgr xc ce) + ((nI (kg he t_1)) - (nI (kg he ce)))), .int (kgr xc t_1), .int (nI t_1), .ref 147]) (M1 := (mk_M c n m kk (rT (he, ke, ki, fi, fa, or, mi, a, g, l, w, s) xm xi xw im le nu rf ln nn vp xn xc vs))) (fun f => rfl) ?_
          refine me_if (C := (nI x) = 1) (fun f => rfl) (fun h7 => ?_) (fun h7 => ?_)
          · refine me_seg 3 (pc1 := 187) (ls1 := [some (.ref 138), some (.int (nI p)), some (.int (nI x)), some (.int (nI k1)), some (.int (nI ce)), some (.int (nI j)), some (.int (nI t_1)), some (.int ((nI (kg he t_1)) - (nI (kg he ce))))]) (st1 := [.int 6, .ref 139, .int ((kgr xc ce) + ((nI (kg he t_1)) - (nI (kg he ce)))), .int (kgr xc t_1), .int (nI t_1), .ref 147]) (M1 := (mk_M c n m kk (rT (he, ke, ki, fi, fa, or, mi, a, g, l, w, s) xm xi xw im le nu rf ln nn vp xn xc vs))) (fun f => rfl) ?_
            refine me_ldn (xs := (er (he, ke, ki, fi, fa, or, mi, a, g, l, w, s))) rfl rfl (k := 6) (by decide) rfl ?_
            refine me_seg 1 (pc1 := 190) (ls1 := [some (.ref 138), some (.int (nI p)), some (.int (nI x)), some (.int (nI k1)), some (.int (nI ce)), some (.int (nI j)), some (.int (nI t_1)), some (.int ((nI (kg he t_1)) - (nI (kg he ce))))]) (st1 := [.int (nI t_1), .int (nI (kbits ke)), .int ((kgr xc ce) + ((nI (kg he t_1)) - (nI (kg he ce)))), .int (kgr xc t_1), .int (nI t_1), .ref 147]) (M1 := (mk_M c n m kk (rT (he, ke, ki, fi, fa, or, mi, a, g, l, w, s) xm xi xw im le nu rf ln nn vp xn xc vs))) (fun f => rfl) ?_
            refine me_callE (y := 151) (y0 := 193) (L := [some (.int (nI (kbits ke))), some (.int (nI t_1))]) (rest := [.int ((kgr xc ce) + ((nI (kg he t_1)) - (nI (kg he ce)))), .int (kgr xc t_1), .int (nI t_1), .ref 147]) (fun f => rfl) (wm_has (nI (kbits ke)) (nI t_1) _) ?_
            rintro _ _ ⟨⟨b_8, hb_8, rfl⟩, rfl⟩
            refine me_if (C := (nI b_8) = 0) (fun f => rfl) (fun h9 => ?_) (fun h9 => ?_)
            · refine me_seg 2 (pc1 := 202) (ls1 := [some (.ref 138), some (.int (nI p)), some (.int (nI x)), some (.int (nI k1)), some (.int (nI ce)), some (.int (nI j)), some (.int (nI t_1)), some (.int ((nI (kg he t_1)) - (nI (kg he ce))))]) (st1 := [.int (((kgr xc ce) + ((nI (kg he t_1)) - (nI (kg he ce)))) + (0 : Int32)), .int (kgr xc t_1), .int (nI t_1), .ref 147]) (M1 := (mk_M c n m kk (rT (he, ke, ki, fi, fa, or, mi, a, g, l, w, s) xm xi xw im le nu rf ln nn vp xn xc vs))) (fun f => rfl) ?_
              refine me_call (y := 154) (y0 := 205) (L := [some (.int (kgr xc t_1)), some (.int (((kgr xc ce) + ((nI (kg he t_1)) - (nI (kg he ce)))) + (0 : Int32)))]) (rest := [.int (nI t_1), .ref 147]) (rr := some (.int (if (kgr xc t_1) < (((kgr xc ce) + ((nI (kg he t_1)) - (nI (kg he ce)))) + (0 : Int32)) then (kgr xc t_1) else (((kgr xc ce) + ((nI (kg he t_1)) - (nI (kg he ce)))) + (0 : Int32))))) (M1 := (mk_M c n m kk (rT (he, ke, ki, fi, fa, or, mi, a, g, l, w, s) xm xi xw im le nu rf ln nn vp xn xc vs))) (fun f => rfl) (wm_least (kgr xc t_1) (((kgr xc ce) + ((nI (kg he t_1)) - (nI (kg he ce)))) + (0 : Int32)) _) ?_
              refine me_stn (xs := xc) (ys := (xc.set t_1 (if (kgr xc t_1) < (((kgr xc ce) + ((nI (kg he t_1)) - (nI (kg he ce)))) + (0 : Int32)) then (kgr xc t_1) else (((kgr xc ce) + ((nI (kg he t_1)) - (nI (kg he ce)))) + (0 : Int32))))) (M2 := (mk_M c n m kk (rT (he, ke, ki, fi, fa, or, mi, a, g, l, w, s) xm xi xw im le nu rf ln nn vp xn (xc.set t_1 (if (kgr xc t_1) < (((kgr xc ce) + ((nI (kg he t_1)) - (nI (kg he ce)))) + (0 : Int32)) then (kgr xc t_1) else (((kgr xc ce) + ((nI (kg he t_1)) - (nI (kg he ce)))) + (0 : Int32)))) vs))) rfl rfl (k := t_1) (by omega) (by first | omega | (simp only [List.length_set]; omega)) rfl rfl ?_
              refine me_seg 1 (pc1 := 209) (ls1 := [some (.ref 138), some (.int (nI p)), some (.int (nI x)), some (.int (nI k1)), some (.int (nI ce)), some (.int ((nI j) + 1)), some (.int (nI t_1)), some (.int ((nI (kg he t_1)) - (nI (kg he ce))))]) (st1 := []) (M1 := (mk_M c n m kk (rT (he, ke, ki, fi, fa, or, mi, a, g, l, w, s) xm xi xw im le nu rf ln nn vp xn (xc.set t_1 (if (kgr xc t_1) < (((kgr xc ce) + ((nI (kg he t_1)) - (nI (kg he ce)))) + (0 : Int32)) then (kgr xc t_1) else (((kgr xc ce) + ((nI (kg he t_1)) - (nI (kg he ce)))) + (0 : Int32)))) vs))) (fun f => rfl) ?_
              refine me_l (fun q_ => [some (.ref 138), some (.int (nI p)), some (.int (nI x)), some (.int (nI k1)), some (.int (nI ce)), some (.int q_), some (.int (nI t_1)), some (.int ((nI (kg he t_1)) - (nI (kg he ce))))]) (nI_add j 1) ?_
              refine me_seg 1 (pc1 := 86) (ls1 := [some (.ref 138), some (.int (nI p)), some (.int (nI x)), some (.int (nI k1)), some (.int (nI ce)), some (.int (nI (j + 1))), some (.int (nI t_1)), some (.int ((nI (kg he t_1)) - (nI (kg he ce))))]) (st1 := []) (M1 := (mk_M c n m kk (rT (he, ke, ki, fi, fa, or, mi, a, g, l, w, s) xm xi xw im le nu rf ln nn vp xn (xc.set t_1 (if (kgr xc t_1) < (((kgr xc ce) + ((nI (kg he t_1)) - (nI (kg he ce)))) + (0 : Int32)) then (kgr xc t_1) else (((kgr xc ce) + ((nI (kg he t_1)) - (nI (kg he ce)))) + (0 : Int32)))) vs))) (fun f => rfl) ?_
              exact IH (j + 1) (some (.int (nI t_1))) (some (.int ((nI (kg he t_1)) - (nI (kg he ce))))) xm xw vp xn (xc.set t_1 (if (kgr xc t_1) < (((kgr xc ce) + ((nI (kg he t_1)) - (nI (kg he ce)))) + (0 : Int32)) then (kgr xc t_1) else (((kgr xc ce) + ((nI (kg he t_1)) - (nI (kg he ce)))) + (0 : Int32)))) vs (by omega) ⟨(by assumption), (by assumption), (by assumption), (by simp only [List.length_set]; assumption)⟩
            · refine me_seg 3 (pc1 := 202) (ls1 := [some (.ref 138), some (.int (nI p)), some (.int (nI x)), some (.int (nI k1)), some (.int (nI ce)), some (.int (nI j)), some (.int (nI t_1)), some (.int ((nI (kg he t_1)) - (nI (kg he ce))))]) (st1 := [.int (((kgr xc ce) + ((nI (kg he t_1)) - (nI (kg he ce)))) + (2 : Int32)), .int (kgr xc t_1), .int (nI t_1), .ref 147]) (M1 := (mk_M c n m kk (rT (he, ke, ki, fi, fa, or, mi, a, g, l, w, s) xm xi xw im le nu rf ln nn vp xn xc vs))) (fun f => rfl) ?_
              refine me_call (y := 154) (y0 := 205) (L := [some (.int (kgr xc t_1)), some (.int (((kgr xc ce) + ((nI (kg he t_1)) - (nI (kg he ce)))) + (2 : Int32)))]) (rest := [.int (nI t_1), .ref 147]) (rr := some (.int (if (kgr xc t_1) < (((kgr xc ce) + ((nI (kg he t_1)) - (nI (kg he ce)))) + (2 : Int32)) then (kgr xc t_1) else (((kgr xc ce) + ((nI (kg he t_1)) - (nI (kg he ce)))) + (2 : Int32))))) (M1 := (mk_M c n m kk (rT (he, ke, ki, fi, fa, or, mi, a, g, l, w, s) xm xi xw im le nu rf ln nn vp xn xc vs))) (fun f => rfl) (wm_least (kgr xc t_1) (((kgr xc ce) + ((nI (kg he t_1)) - (nI (kg he ce)))) + (2 : Int32)) _) ?_
              refine me_stn (xs := xc) (ys := (xc.set t_1 (if (kgr xc t_1) < (((kgr xc ce) + ((nI (kg he t_1)) - (nI (kg he ce)))) + (2 : Int32)) then (kgr xc t_1) else (((kgr xc ce) + ((nI (kg he t_1)) - (nI (kg he ce)))) + (2 : Int32))))) (M2 := (mk_M c n m kk (rT (he, ke, ki, fi, fa, or, mi, a, g, l, w, s) xm xi xw im le nu rf ln nn vp xn (xc.set t_1 (if (kgr xc t_1) < (((kgr xc ce) + ((nI (kg he t_1)) - (nI (kg he ce)))) + (2 : Int32)) then (kgr xc t_1) else (((kgr xc ce) + ((nI (kg he t_1)) - (nI (kg he ce)))) + (2 : Int32)))) vs))) rfl rfl (k := t_1) (by omega) (by first | omega | (simp only [List.length_set]; omega)) rfl rfl ?_
              refine me_seg 1 (pc1 := 209) (ls1 := [some (.ref 138), some (.int (nI p)), some (.int (nI x)), some (.int (nI k1)), some (.int (nI ce)), some (.int ((nI j) + 1)), some (.int (nI t_1)), some (.int ((nI (kg he t_1)) - (nI (kg he ce))))]) (st1 := []) (M1 := (mk_M c n m kk (rT (he, ke, ki, fi, fa, or, mi, a, g, l, w, s) xm xi xw im le nu rf ln nn vp xn (xc.set t_1 (if (kgr xc t_1) < (((kgr xc ce) + ((nI (kg he t_1)) - (nI (kg he ce)))) + (2 : Int32)) then (kgr xc t_1) else (((kgr xc ce) + ((nI (kg he t_1)) - (nI (kg he ce)))) + (2 : Int32)))) vs))) (fun f => rfl) ?_
              refine me_l (fun q_ => [some (.ref 138), some (.int (nI p)), some (.int (nI x)), some (.int (nI k1)), some (.int (nI ce)), some (.int q_), some (.int (nI t_1)), some (.int ((nI (kg he t_1)) - (nI (kg he ce))))]) (nI_add j 1) ?_
              refine me_seg 1 (pc1 := 86) (ls1 := [some (.ref 138), some (.int (nI p)), some (.int (nI x)), some (.int (nI k1)), some (.int (nI ce)), some (.int (nI (j + 1))), some (.int (nI t_1)), some (.int ((nI (kg he t_1)) - (nI (kg he ce))))]) (st1 := []) (M1 := (mk_M c n m kk (rT (he, ke, ki, fi, fa, or, mi, a, g, l, w, s) xm xi xw im le nu rf ln nn vp xn (xc.set t_1 (if (kgr xc t_1) < (((kgr xc ce) + ((nI (kg he t_1)) - (nI (kg he ce)))) + (2 : Int32)) then (kgr xc t_1) else (((kgr xc ce) + ((nI (kg he t_1)) - (nI (kg he ce)))) + (2 : Int32)))) vs))) (fun f => rfl) ?_
              exact IH (j + 1) (some (.int (nI t_1))) (some (.int ((nI (kg he t_1)) - (nI (kg he ce))))) xm xw vp xn (xc.set t_1 (if (kgr xc t_1) < (((kgr xc ce) + ((nI (kg he t_1)) - (nI (kg he ce)))) + (2 : Int32)) then (kgr xc t_1) else (((kgr xc ce) + ((nI (kg he t_1)) - (nI (kg he ce)))) + (2 : Int32)))) vs (by omega) ⟨(by assumption), (by assumption), (by assumption), (by simp only [List.length_set]; assumption)⟩
          · refine me_seg 2 (pc1 := 202) (ls1 := [some (.ref 138), some (.int (nI p)), some (.int (nI x)), some (.int (nI k1)), some (.int (nI ce)), some (.int (nI j)), some (.int (nI t_1)), some (.int ((nI (kg he t_1)) - (nI (kg he ce))))]) (st1 := [.int (((kgr xc ce) + ((nI (kg he t_1)) - (nI (kg he ce)))) + (0 : Int32)), .int (kgr xc t_1), .int (nI t_1), .ref 147]) (M1 := (mk_M c n m kk (rT (he, ke, ki, fi, fa, or, mi, a, g, l, w, s) xm xi xw im le nu rf ln nn vp xn xc vs))) (fun f => rfl) ?_
            refine me_call (y := 154) (y0 := 205) (L := [some (.int (kgr xc t_1)), some (.int (((kgr xc ce) + ((nI (kg he t_1)) - (nI (kg he ce)))) + (0 : Int32)))]) (rest := [.int (nI t_1), .ref 147]) (rr := some (.int (if (kgr xc t_1) < (((kgr xc ce) + ((nI (kg he t_1)) - (nI (kg he ce)))) + (0 : Int32)) then (kgr xc t_1) else (((kgr xc ce) + ((nI (kg he t_1)) - (nI (kg he ce)))) + (0 : Int32))))) (M1 := (mk_M c n m kk (rT (he, ke, ki, fi, fa, or, mi, a, g, l, w, s) xm xi xw im le nu rf ln nn vp xn xc vs))) (fun f => rfl) (wm_least (kgr xc t_1) (((kgr xc ce) + ((nI (kg he t_1)) - (nI (kg he ce)))) + (0 : Int32)) _) ?_
            refine me_stn (xs := xc) (ys := (xc.set t_1 (if (kgr xc t_1) < (((kgr xc ce) + ((nI (kg he t_1)) - (nI (kg he ce)))) + (0 : Int32)) then (kgr xc t_1) else (((kgr xc ce) + ((nI (kg he t_1)) - (nI (kg he ce)))) + (0 : Int32))))) (M2 := (mk_M c n m kk (rT (he, ke, ki, fi, fa, or, mi, a, g, l, w, s) xm xi xw im le nu rf ln nn vp xn (xc.set t_1 (if (kgr xc t_1) < (((kgr xc ce) + ((nI (kg he t_1)) - (nI (kg he ce)))) + (0 : Int32)) then (kgr xc t_1) else (((kgr xc ce) + ((nI (kg he t_1)) - (nI (kg he ce)))) + (0 : Int32)))) vs))) rfl rfl (k := t_1) (by omega) (by first | omega | (simp only [List.length_set]; omega)) rfl rfl ?_
            refine me_seg 1 (pc1 := 209) (ls1 := [some (.ref 138), some (.int (nI p)), some (.int (nI x)), some (.int (nI k1)), some (.int (nI ce)), some (.int ((nI j) + 1)), some (.int (nI t_1)), some (.int ((nI (kg he t_1)) - (nI (kg he ce))))]) (st1 := []) (M1 := (mk_M c n m kk (rT (he, ke, ki, fi, fa, or, mi, a, g, l, w, s) xm xi xw im le nu rf ln nn vp xn (xc.set t_1 (if (kgr xc t_1) < (((kgr xc ce) + ((nI (kg he t_1)) - (nI (kg he ce)))) + (0 : Int32)) then (kgr xc t_1) else (((kgr xc ce) + ((nI (kg he t_1)) - (nI (kg he ce)))) + (0 : Int32)))) vs))) (fun f => rfl) ?_
            refine me_l (fun q_ => [some (.ref 138), some (.int (nI p)), some (.int (nI x)), some (.int (nI k1)), some (.int (nI ce)), some (.int q_), some (.int (nI t_1)), some (.int ((nI (kg he t_1)) - (nI (kg he ce))))]) (nI_add j 1) ?_
            refine me_seg 1 (pc1 := 86) (ls1 := [some (.ref 138), some (.int (nI p)), some (.int (nI x)), some (.int (nI k1)), some (.int (nI ce)), some (.int (nI (j + 1))), some (.int (nI t_1)), some (.int ((nI (kg he t_1)) - (nI (kg he ce))))]) (st1 := []) (M1 := (mk_M c n m kk (rT (he, ke, ki, fi, fa, or, mi, a, g, l, w, s) xm xi xw im le nu rf ln nn vp xn (xc.set t_1 (if (kgr xc t_1) < (((kgr xc ce) + ((nI (kg he t_1)) - (nI (kg he ce)))) + (0 : Int32)) then (kgr xc t_1) else (((kgr xc ce) + ((nI (kg he t_1)) - (nI (kg he ce)))) + (0 : Int32)))) vs))) (fun f => rfl) ?_
            exact IH (j + 1) (some (.int (nI t_1))) (some (.int ((nI (kg he t_1)) - (nI (kg he ce))))) xm xw vp xn (xc.set t_1 (if (kgr xc t_1) < (((kgr xc ce) + ((nI (kg he t_1)) - (nI (kg he ce)))) + (0 : Int32)) then (kgr xc t_1) else (((kgr xc ce) + ((nI (kg he t_1)) - (nI (kg he ce)))) + (0 : Int32)))) vs (by omega) ⟨(by assumption), (by assumption), (by assumption), (by simp only [List.length_set]; assumption)⟩
      · refine me_seg 2 (pc1 := 209) (ls1 := [some (.ref 138), some (.int (nI p)), some (.int (nI x)), some (.int (nI k1)), some (.int (nI ce)), some (.int ((nI j) + 1)), some (.int (nI t_1)), lo7]) (st1 := []) (M1 := (mk_M c n m kk (rT (he, ke, ki, fi, fa, or, mi, a, g, l, w, s) xm xi xw im le nu rf ln nn vp xn xc vs))) (fun f => rfl) ?_
        refine me_l (fun q_ => [some (.ref 138), some (.int (nI p)), some (.int (nI x)), some (.int (nI k1)), some (.int (nI ce)), some (.int q_), some (.int (nI t_1)), lo7]) (nI_add j 1) ?_
        refine me_seg 1 (pc1 := 86) (ls1 := [some (.ref 138), some (.int (nI p)), some (.int (nI x)), some (.int (nI k1)), some (.int (nI ce)), some (.int (nI (j + 1))), some (.int (nI t_1)), lo7]) (st1 := []) (M1 := (mk_M c n m kk (rT (he, ke, ki, fi, fa, or, mi, a, g, l, w, s) xm xi xw im le nu rf ln nn vp xn xc vs))) (fun f => rfl) ?_
        exact IH (j + 1) (some (.int (nI t_1))) (lo7) xm xw vp xn xc vs (by omega) ⟨(by assumption), (by assumption), (by assumption), (by assumption)⟩
set_option maxRecDepth 100000 in
theorem wm_cl76 (he ke ki fi fa or : List Nat) (mi a g l w s : Nat) (xi : List Int32) (im : Nat) (le nu rf : List Nat) (ln nn : Nat) (c : cC) (n m kk : kG) (hA : iA (he, ke, ki, fi, fa, or, mi, a, g, l, w, s)) (hC : iC nu nn) (p x : Nat) (hp : p < 25) (hx : x < 2) (k1 : Nat) (HO : ∀ (lo4 : Option Value) (lo5 : Option Value) (lo6 : Option Value) (lo7 : Option Value) (xm xw : List Int32) (vp : Int32) (xn xc : List Int32) (vs : Int32), iR xm xw xn xc → mm_E 178 67 [some (.ref 138), some (.int (nI p)), some (.int (nI x)), some (.int (nI (k1 + 1))), lo4, lo5, lo6, lo7] [] (mk_M c n m kk (rT (he, ke, ki, fi, fa, or, mi, a, g, l, w, s) xm xi xw im le nu rf ln nn vp xn xc vs)) (pM isI (he, ke, ki, fi, fa, or, mi, a, g, l, w, s) xi im le nu rf ln nn c n m kk)) (k : Nat) : ∀ (j : Nat) (lo5 : Option Value) (lo6 : Option Value) (lo7 : Option Value) (xm xw : List Int32) (vp : Int32) (xn xc : List Int32) (vs : Int32), j + k = 25 → iR xm xw xn xc → mm_E 178 76 [some (.ref 138), some (.int (nI p)), some (.int (nI x)), some (.int (nI k1)), some (.int (nI j)), lo5, lo6, lo7] [] (mk_M c n m kk (rT (he, ke, ki, fi, fa, or, mi, a, g, l, w, s) xm xi xw im le nu rf ln nn vp xn xc vs)) (pM isI (he, ke, ki, fi, fa, or, mi, a, g, l, w, s) xi im le nu rf ln nn c n m kk) := by
  obtain ⟨hV, hst⟩ := id hA
  have hst2 : s ≤ 999 := hst
  obtain ⟨v1, v2, v3, v4, v5, v6, v7, v8, v9, v10, v11, v12, v13, v14, v15, v16⟩ := id hV
  have v6l := kO_len mi v7 or v6
  obtain ⟨c1, c2, c3⟩ := id hC
  induction k with
  | zero =>
    intro j lo5 lo6 lo7 xm xw vp xn xc vs hj hR
    obtain ⟨r1, r2, r3, r4⟩ := id hR
    refine me_seg 2 (pc1 := 80) (ls1 := [some (.ref 138), some (.int (nI p)), some (.int (nI x)), some (.int (nI k1)), some (.int (nI j)), lo5, lo6, lo7]) (st1 := [.int 25, .int (nI j)]) (M1 := (mk_M c n m kk (rT (he, ke, ki, fi, fa, or, mi, a, g, l, w, s) xm xi xw im le nu rf ln nn vp xn xc vs))) (fun f => rfl) ?_
    refine me_t (C := 25 ≤ (nI j)) (nI_let (a := 25) (b := j) (by omega)) (fun f => rfl) ?_
    refine me_seg 1 (pc1 := 221) (ls1 := [some (.ref 138), some (.int (nI p)), some (.int (nI x)), some (.int ((nI k1) + 1)), some (.int (nI j)), lo5, lo6, lo7]) (st1 := []) (M1 := (mk_M c n m kk (rT (he, ke, ki, fi, fa, or, mi, a, g, l, w, s) xm xi xw im le nu rf ln nn vp xn xc vs))) (fun f => rfl) ?_
    refine me_l (fun q_ => [some (.ref 138), some (.int (nI p)), some (.int (nI x)), some (.int q_), some (.int (nI j)), lo5, lo6, lo7]) (nI_add k1 1) ?_
    refine me_seg 1 (pc1 := 67) (ls1 := [some (.ref 138), some (.int (nI p)), some (.int (nI x)), some (.int (nI (k1 + 1))), some (.int (nI j)), lo5, lo6, lo7]) (st1 := []) (M1 := (mk_M c n m kk (rT (he, ke, ki, fi, fa, or, mi, a, g, l, w, s) xm xi xw im le nu rf ln nn vp xn xc vs))) (fun f => rfl) ?_
    exact HO (some (.int (nI j))) (lo5) (lo6) (lo7) xm xw vp xn xc vs ⟨(by assumption), (by assumption), (by assumption), (by assumption)⟩
  | succ k IH =>
    intro j lo5 lo6 lo7 xm xw vp xn xc vs hj hR
    obtain ⟨r1, r2, r3, r4⟩ := id hR
    refine me_seg 2 (pc1 := 80) (ls1 := [some (.ref 138), some (.int (nI p)), some (.int (nI x)), some (.int (nI k1)), some (.int (nI j)), lo5, lo6, lo7]) (st1 := [.int 25, .int (nI j)]) (M1 := (mk_M c n m kk (rT (he, ke, ki, fi, fa, or, mi, a, g, l, w, s) xm xi xw im le nu rf ln nn vp xn xc vs))) (fun f => rfl) ?_
    refine me_f (C := 25 ≤ (nI j)) (nI_lef (a := 25) (b := j) (by omega)) (fun f => rfl) ?_
    refine me_seg 2 (pc1 := 86) (ls1 := [some (.ref 138), some (.int (nI p)), some (.int (nI x)), some (.int (nI k1)), some (.int (nI j)), some (.int 0), lo6, lo7]) (st1 := []) (M1 := (mk_M c n m kk (rT (he, ke, ki, fi, fa, or, mi, a, g, l, w, s) xm xi xw im le nu rf ln nn vp xn xc vs))) (fun f => rfl) ?_
    exact wm_cl86 he ke ki fi fa or mi a g l w s xi im le nu rf ln nn c n m kk hA hC p x hp hx k1 j (by omega) (fun lo5 lo6 lo7 xm xw vp xn xc vs hR => IH (j + 1) lo5 lo6 lo7 xm xw vp xn xc vs (by omega) hR) 4 0 lo6 lo7 xm xw vp xn xc vs (by omega) ⟨(by assumption), (by assumption), (by assumption), (by assumption)⟩
set_option maxRecDepth 100000 in
theorem wm_cl67 (he ke ki fi fa or : List Nat) (mi a g l w s : Nat) (xi : List Int32) (im : Nat) (le nu rf : List Nat) (ln nn : Nat) (c : cC) (n m kk : kG) (hA : iA (he, ke, ki, fi, fa, or, mi, a, g, l, w, s)) (hC : iC nu nn) (p x : Nat) (hp : p < 25) (hx : x < 2) (k : Nat) : ∀ (j : Nat) (lo4 : Option Value) (lo5 : Option Value) (lo6 : Option Value) (lo7 : Option Value) (xm xw : List Int32) (vp : Int32) (xn xc : List Int32) (vs : Int32), j + k = 25 → iR xm xw xn xc → mm_E 178 67 [some (.ref 138), some (.int (nI p)), some (.int (nI x)), some (.int (nI j)), lo4, lo5, lo6, lo7] [] (mk_M c n m kk (rT (he, ke, ki, fi, fa, or, mi, a, g, l, w, s) xm xi xw im le nu rf ln nn vp xn xc vs)) (pM isI (he, ke, ki, fi, fa, or, mi, a, g, l, w, s) xi im le nu rf ln nn c n m kk) := by
  obtain ⟨hV, hst⟩ := id hA
  have hst2 : s ≤ 999 := hst
  obtain ⟨v1, v2, v3, v4, v5, v6, v7, v8, v9, v10, v11, v12, v13, v14, v15, v16⟩ := id hV
  have v6l := kO_len mi v7 or v6
  obtain ⟨c1, c2, c3⟩ := id hC
  induction k with
  | zero =>
    intro j lo4 lo5 lo6 lo7 xm xw vp xn xc vs hj hR
    obtain ⟨r1, r2, r3, r4⟩ := id hR
    refine me_seg 2 (pc1 := 70) (ls1 := [some (.ref 138), some (.int (nI p)), some (.int (nI x)), some (.int (nI j)), lo4, lo5, lo6, lo7]) (st1 := [.int 25, .int (nI j)]) (M1 := (mk_M c n m kk (rT (he, ke, ki, fi, fa, or, mi, a, g, l, w, s) xm xi xw im le nu rf ln nn vp xn xc vs))) (fun f => rfl) ?_
    refine me_t (C := 25 ≤ (nI j)) (nI_let (a := 25) (b := j) (by omega)) (fun f => rfl) ?_
    refine me_seg 3 (pc1 := 229) (ls1 := [some (.ref 138), some (.int (nI p)), some (.int (nI x)), some (.int (nI j)), lo4, lo5, lo6, lo7]) (st1 := [.int (nI p), .ref 147]) (M1 := (mk_M c n m kk (rT (he, ke, ki, fi, fa, or, mi, a, g, l, w, s) xm xi xw im le nu rf ln nn vp xn xc vs))) (fun f => rfl) ?_
    refine me_ldn (xs := xc) rfl rfl (k := p) (by omega) (kgr_ok (by first | omega | (simp only [List.length_set]; omega))) ?_
    refine me_ret 1 (r := some (.int (kgr xc p))) (M1 := (mk_M c n m kk (rT (he, ke, ki, fi, fa, or, mi, a, g, l, w, s) xm xi xw im le nu rf ln nn vp xn xc vs))) (fun f => rfl) ?_
    exact ⟨⟨_, rfl⟩, _, _, _, _, _, _, rfl, ⟨(by assumption), (by assumption), (by assumption), (by assumption)⟩⟩
  | succ k IH =>
    intro j lo4 lo5 lo6 lo7 xm xw vp xn xc vs hj hR
    obtain ⟨r1, r2, r3, r4⟩ := id hR
    refine me_seg 2 (pc1 := 70) (ls1 := [some (.ref 138), some (.int (nI p)), some (.int (nI x)), some (.int (nI j)), lo4, lo5, lo6, lo7]) (st1 := [.int 25, .int (nI j)]) (M1 := (mk_M c n m kk (rT (he, ke, ki, fi, fa, or, mi, a, g, l, w, s) xm xi xw im le nu rf ln nn vp xn xc vs))) (fun f => rfl) ?_
    refine me_f (C := 25 ≤ (nI j)) (nI_lef (a := 25) (b := j) (by omega)) (fun f => rfl) ?_
    refine me_seg 2 (pc1 := 76) (ls1 := [some (.ref 138), some (.int (nI p)), some (.int (nI x)), some (.int (nI j)), some (.int 0), lo5, lo6, lo7]) (st1 := []) (M1 := (mk_M c n m kk (rT (he, ke, ki, fi, fa, or, mi, a, g, l, w, s) xm xi xw im le nu rf ln nn vp xn xc vs))) (fun f => rfl) ?_
    exact wm_cl76 he ke ki fi fa or mi a g l w s xi im le nu rf ln nn c n m kk hA hC p x hp hx j (fun lo4 lo5 lo6 lo7 xm xw vp xn xc vs hR => IH (j + 1) lo4 lo5 lo6 lo7 xm xw vp xn xc vs (by omega) hR) 25 0 lo5 lo6 lo7 xm xw vp xn xc vs (by omega) ⟨(by assumption), (by assumption), (by assumption), (by assumption)⟩
set_option maxRecDepth 100000 in
theorem wm_cl31 (he ke ki fi fa or : List Nat) (mi a g l w s : Nat) (xi : List Int32) (im : Nat) (le nu rf : List Nat) (ln nn : Nat) (c : cC) (n m kk : kG) (hA : iA (he, ke, ki, fi, fa, or, mi, a, g, l, w, s)) (hC : iC nu nn) (p x : Nat) (hp : p < 25) (hx : x < 2) (k : Nat) : ∀ (j : Nat) (lo4 : Option Value) (lo5 : Option Value) (lo6 : Option Value) (lo7 : Option Value) (xm xw : List Int32) (vp : Int32) (xn xc : List Int32) (vs : Int32), j + k = 25 → iR xm xw xn xc → mm_E 178 31 [some (.ref 138), some (.int (nI p)), some (.int (nI x)), some (.int (nI j)), lo4, lo5, lo6, lo7] [] (mk_M c n m kk (rT (he, ke, ki, fi, fa, or, mi, a, g, l, w, s) xm xi xw im le nu rf ln nn vp xn xc vs)) (pM isI (he, ke, ki, fi, fa, or, mi, a, g, l, w, s) xi im le nu rf ln nn c n m kk) := by
  obtain ⟨hV, hst⟩ := id hA
  have hst2 : s ≤ 999 := hst
  obtain ⟨v1, v2, v3, v4, v5, v6, v7, v8, v9, v10, v11, v12, v13, v14, v15, v16⟩ := id hV
  have v6l := kO_len mi v7 or v6
  obtain ⟨c1, c2, c3⟩ := id hC
  induction k with
  | zero =>
    intro j lo4 lo5 lo6 lo7 xm xw vp xn xc vs hj hR
    obtain ⟨r1, r2, r3, r4⟩ := id hR
    refine me_seg 2 (pc1 := 34) (ls1 := [some (.ref 138), some (.int (nI p)), some (.int (nI x)), some (.int (nI j)), lo4, lo5, lo6, lo7]) (st1 := [.int 25, .int (nI j)]) (M1 := (mk_M c n m kk (rT (he, ke, ki, fi, fa, or, mi, a, g, l, w, s) xm xi xw im le nu rf ln nn vp xn xc vs))) (fun f => rfl) ?_
    refine me_t (C := 25 ≤ (nI j)) (nI_let (a := 25) (b := j) (by omega)) (fun f => rfl) ?_
    refine me_seg 2 (pc1 := 67) (ls1 := [some (.ref 138), some (.int (nI p)), some (.int (nI x)), some (.int 0), lo4, lo5, lo6, lo7]) (st1 := []) (M1 := (mk_M c n m kk (rT (he, ke, ki, fi, fa, or, mi, a, g, l, w, s) xm xi xw im le nu rf ln nn vp xn xc vs))) (fun f => rfl) ?_
    exact wm_cl67 he ke ki fi fa or mi a g l w s xi im le nu rf ln nn c n m kk hA hC p x hp hx 25 0 lo4 lo5 lo6 lo7 xm xw vp xn xc vs (by omega) ⟨(by assumption), (by assumption), (by assumption), (by assumption)⟩
  | succ k IH =>
    intro j lo4 lo5 lo6 lo7 xm xw vp xn xc vs hj hR
    obtain ⟨r1, r2, r3, r4⟩ := id hR
    refine me_seg 2 (pc1 := 34) (ls1 := [some (.ref 138), some (.int (nI p)), some (.int (nI x)), some (.int (nI j)), lo4, lo5, lo6, lo7]) (st1 := [.int 25, .int (nI j)]) (M1 := (mk_M c n m kk (rT (he, ke, ki, fi, fa, or, mi, a, g, l, w, s) xm xi xw im le nu rf ln nn vp xn xc vs))) (fun f => rfl) ?_
    refine me_f (C := 25 ≤ (nI j)) (nI_lef (a := 25) (b := j) (by omega)) (fun f => rfl) ?_
    refine me_seg 7 (pc1 := 48) (ls1 := [some (.ref 138), some (.int (nI p)), some (.int (nI x)), some (.int (nI j)), lo4, lo5, lo6, lo7]) (st1 := [.int 2, .ref 139, .int (nI j), .int (nI j), .ref 147]) (M1 := (mk_M c n m kk (rT (he, ke, ki, fi, fa, or, mi, a, g, l, w, s) xm xi xw im le nu rf ln nn vp xn xc vs))) (fun f => rfl) ?_
    refine me_ldn (xs := (er (he, ke, ki, fi, fa, or, mi, a, g, l, w, s))) rfl rfl (k := 2) (by decide) rfl ?_
    refine me_if (C := (nI j) = (nI a)) (fun f => rfl) (fun h1 => ?_) (fun h1 => ?_)
    · refine me_seg 2 (pc1 := 58) (ls1 := [some (.ref 138), some (.int (nI p)), some (.int (nI x)), some (.int (nI j)), lo4, lo5, lo6, lo7]) (st1 := [.int 0, .int (nI j), .ref 147]) (M1 := (mk_M c n m kk (rT (he, ke, ki, fi, fa, or, mi, a, g, l, w, s) xm xi xw im le nu rf ln nn vp xn xc vs))) (fun f => rfl) ?_
      refine me_stn (xs := xc) (ys := (xc.set j 0)) (M2 := (mk_M c n m kk (rT (he, ke, ki, fi, fa, or, mi, a, g, l, w, s) xm xi xw im le nu rf ln nn vp xn (xc.set j 0) vs))) rfl rfl (k := j) (by omega) (by first | omega | (simp only [List.length_set]; omega)) rfl rfl ?_
      refine me_seg 1 (pc1 := 62) (ls1 := [some (.ref 138), some (.int (nI p)), some (.int (nI x)), some (.int ((nI j) + 1)), lo4, lo5, lo6, lo7]) (st1 := []) (M1 := (mk_M c n m kk (rT (he, ke, ki, fi, fa, or, mi, a, g, l, w, s) xm xi xw im le nu rf ln nn vp xn (xc.set j 0) vs))) (fun f => rfl) ?_
      refine me_l (fun q_ => [some (.ref 138), some (.int (nI p)), some (.int (nI x)), some (.int q_), lo4, lo5, lo6, lo7]) (nI_add j 1) ?_
      refine me_seg 1 (pc1 := 31) (ls1 := [some (.ref 138), some (.int (nI p)), some (.int (nI x)), some (.int (nI (j + 1))), lo4, lo5, lo6, lo7]) (st1 := []) (M1 := (mk_M c n m kk (rT (he, ke, ki, fi, fa, or, mi, a, g, l, w, s) xm xi xw im le nu rf ln nn vp xn (xc.set j 0) vs))) (fun f => rfl) ?_
      exact IH (j + 1) (lo4) (lo5) (lo6) (lo7) xm xw vp xn (xc.set j 0) vs (by omega) ⟨(by assumption), (by assumption), (by assumption), (by simp only [List.length_set]; assumption)⟩
    · refine me_seg 1 (pc1 := 58) (ls1 := [some (.ref 138), some (.int (nI p)), some (.int (nI x)), some (.int (nI j)), lo4, lo5, lo6, lo7]) (st1 := [.int 1000000000, .int (nI j), .ref 147]) (M1 := (mk_M c n m kk (rT (he, ke, ki, fi, fa, or, mi, a, g, l, w, s) xm xi xw im le nu rf ln nn vp xn xc vs))) (fun f => rfl) ?_
      refine me_stn (xs := xc) (ys := (xc.set j 1000000000)) (M2 := (mk_M c n m kk (rT (he, ke, ki, fi, fa, or, mi, a, g, l, w, s) xm xi xw im le nu rf ln nn vp xn (xc.set j 1000000000) vs))) rfl rfl (k := j) (by omega) (by first | omega | (simp only [List.length_set]; omega)) rfl rfl ?_
      refine me_seg 1 (pc1 := 62) (ls1 := [some (.ref 138), some (.int (nI p)), some (.int (nI x)), some (.int ((nI j) + 1)), lo4, lo5, lo6, lo7]) (st1 := []) (M1 := (mk_M c n m kk (rT (he, ke, ki, fi, fa, or, mi, a, g, l, w, s) xm xi xw im le nu rf ln nn vp xn (xc.set j 1000000000) vs))) (fun f => rfl) ?_
      refine me_l (fun q_ => [some (.ref 138), some (.int (nI p)), some (.int (nI x)), some (.int q_), lo4, lo5, lo6, lo7]) (nI_add j 1) ?_
      refine me_seg 1 (pc1 := 31) (ls1 := [some (.ref 138), some (.int (nI p)), some (.int (nI x)), some (.int (nI (j + 1))), lo4, lo5, lo6, lo7]) (st1 := []) (M1 := (mk_M c n m kk (rT (he, ke, ki, fi, fa, or, mi, a, g, l, w, s) xm xi xw im le nu rf ln nn vp xn (xc.set j 1000000000) vs))) (fun f => rfl) ?_
      exact IH (j + 1) (lo4) (lo5) (lo6) (lo7) xm xw vp xn (xc.set j 1000000000) vs (by omega) ⟨(by assumption), (by assumption), (by assumption), (by simp only [List.length_set]; assumption)⟩
set_option maxRecDepth 100000 in
theorem wm_climb (he ke ki fi fa or : List Nat) (mi a g l w s : Nat) (xi : List Int32) (im : Nat) (le nu rf : List Nat) (ln nn : Nat) (c : cC) (n m kk : kG) (hA : iA (he, ke, ki, fi, fa, or, mi, a, g, l, w, s)) (hC : iC nu nn) (xm xw : List Int32) (vp : Int32) (xn xc : List Int32) (vs : Int32) (hR : iR xm xw xn xc) (p x : Nat) (hp : p < 25) (hx : x < 2) : mm_E 178 0 [some (.ref 138), some (.int (nI p)), some (.int (nI x)), none, none, none, none, none] [] (mk_M c n m kk (rT (he, ke, ki, fi, fa, or, mi, a, g, l, w, s) xm xi xw im le nu rf ln nn vp xn xc vs)) (pM isI (he, ke, ki, fi, fa, or, mi, a, g, l, w, s) xi im le nu rf ln nn c n m kk) := by
  obtain ⟨hV, hst⟩ := id hA
  have hst2 : s ≤ 999 := hst
  obtain ⟨v1, v2, v3, v4, v5, v6, v7, v8, v9, v10, v11, v12, v13, v14, v15, v16⟩ := id hV
  have v6l := kO_len mi v7 or v6
  obtain ⟨c1, c2, c3⟩ := id hC
  obtain ⟨r1, r2, r3, r4⟩ := id hR
  refine me_seg 1 (pc1 := 1) (ls1 := [some (.ref 138), some (.int (nI p)), some (.int (nI x)), none, none, none, none, none]) (st1 := [.int (nI p)]) (M1 := (mk_M c n m kk (rT (he, ke, ki, fi, fa, or, mi, a, g, l, w, s) xm xi xw im le nu rf ln nn vp xn xc vs))) (fun f => rfl) ?_
  refine me_call (y := 140) (y0 := 4) (L := [some (.int (nI p))]) (rest := []) (rr := some (.int 1)) (M1 := (mk_M c n m kk (rT (he, ke, ki, fi, fa, or, mi, a, g, l, w, s) xm xi xw im le nu rf ln nn vp xn xc vs))) (fun f => rfl) (ms_c2_ok (x := (nI p)) (nI_ltf (a := p) (b := 0) (by omega)) (nI_ltf (a := 24) (b := p) (by omega))) ?_
  refine me_seg 4 (pc1 := 16) (ls1 := [some (.ref 138), some (.int (nI p)), some (.int (nI x)), none, none, none, none, none]) (st1 := [.int 1, .int 0, .int (nI x)]) (M1 := (mk_M c n m kk (rT (he, ke, ki, fi, fa, or, mi, a, g, l, w, s) xm xi xw im le nu rf ln nn vp xn xc vs))) (fun f => rfl) ?_
  refine me_call (y := 135) (y0 := 19) (L := [some (.int (nI x)), some (.int 0), some (.int 1)]) (rest := []) (rr := some (.int 1)) (M1 := (mk_M c n m kk (rT (he, ke, ki, fi, fa, or, mi, a, g, l, w, s) xm xi xw im le nu rf ln nn vp xn xc vs))) (fun f => rfl) (ms_in_ok (x := (nI x)) (a := 0) (b := 1) (nI_ltf (a := x) (b := 0) (by omega)) (nI_ltf (a := 1) (b := x) (by omega))) ?_
  refine me_seg 3 (pc1 := 31) (ls1 := [some (.ref 138), some (.int (nI p)), some (.int (nI x)), some (.int 0), none, none, none, none]) (st1 := []) (M1 := (mk_M c n m kk (rT (he, ke, ki, fi, fa, or, mi, a, g, l, w, s) xm xi xw im le nu rf ln nn vp xn xc vs))) (fun f => rfl) ?_
  exact wm_cl31 he ke ki fi fa or mi a g l w s xi im le nu rf ln nn c n m kk hA hC p x hp hx 25 0 none none none none xm xw vp xn xc vs (by omega) ⟨(by assumption), (by assumption), (by assumption), (by assumption)⟩
set_option maxRecDepth 100000 in
theorem wm_pushL (he ke ki fi fa or : List Nat) (mi a g l w s : Nat) (xi : List Int32) (im : Nat) (le nu rf : List Nat) (ln nn : Nat) (c : cC) (n m kk : kG) (hA : iA (he, ke, ki, fi, fa, or, mi, a, g, l, w, s)) (hC : iC nu nn) (k : Nat) : ∀ (j : Nat) (u : Int32) (v : Int32) (lo4 : Option Value) (xm xw : List Int32) (vp : Int32) (xn xc : List Int32) (vs : Int32), j + k = mi → iR xm xw xn xc → mm_E 179 10 [some (.ref 138), some (.int u), some (.int v), some (.int (nI j)), lo4] [] (mk_M c n m kk (rT (he, ke, ki, fi, fa, or, mi, a, g, l, w, s) xm xi xw im le nu rf ln nn vp xn xc vs)) (pM isI (he, ke, ki, fi, fa, or, mi, a, g, l, w, s) xi im le nu rf ln nn c n m kk) := by
  obtain ⟨hV, hst⟩ := id hA
  have hst2 : s ≤ 999 := hst
  obtain ⟨v1, v2, v3, v4, v5, v6, v7, v8, v9, v10, v11, v12, v13, v14, v15, v16⟩ := id hV
  have v6l := kO_len mi v7 or v6
  obtain ⟨c1, c2, c3⟩ := id hC
  induction k with
  | zero =>
    intro j u v lo4 xm xw vp xn xc vs hj hR
    obtain ⟨r1, r2, r3, r4⟩ := id hR
    refine me_seg 4 (pc1 := 16) (ls1 := [some (.ref 138), some (.int u), some (.int v), some (.int (nI j)), lo4]) (st1 := [.int 0, .ref 139, .int (nI j)]) (M1 := (mk_M c n m kk (rT (he, ke, ki, fi, fa, or, mi, a, g, l, w, s) xm xi xw im le nu rf ln nn vp xn xc vs))) (fun f => rfl) ?_
    refine me_ldn (xs := (er (he, ke, ki, fi, fa, or, mi, a, g, l, w, s))) rfl rfl (k := 0) (by decide) rfl ?_
    refine me_t (C := (nI mi) ≤ (nI j)) (nI_let (a := mi) (b := j) (by omega)) (fun f => rfl) ?_
    refine me_ret 2 (r := some (.int v)) (M1 := (mk_M c n m kk (rT (he, ke, ki, fi, fa, or, mi, a, g, l, w, s) xm xi xw im le nu rf ln nn vp xn xc vs))) (fun f => rfl) ?_
    exact ⟨⟨_, rfl⟩, _, _, _, _, _, _, rfl, ⟨(by assumption), (by assumption), (by assumption), (by assumption)⟩⟩
  | succ k IH =>
    intro j u v lo4 xm xw vp xn xc vs hj hR
    obtain ⟨r1, r2, r3, r4⟩ := id hR
    refine me_seg 4 (pc1 := 16) (ls1 := [some (.ref 138), some (.int u), some (.int v), some (.int (nI j)), lo4]) (st1 := [.int 0, .ref 139, .int (nI j)]) (M1 := (mk_M c n m kk (rT (he, ke, ki, fi, fa, or, mi, a, g, l, w, s) xm xi xw im le nu rf ln nn vp xn xc vs))) (fun f => rfl) ?_
    refine me_ldn (xs := (er (he, ke, ki, fi, fa, or, mi, a, g, l, w, s))) rfl rfl (k := 0) (by decide) rfl ?_
    refine me_f (C := (nI mi) ≤ (nI j)) (nI_lef (a := mi) (b := j) (by omega)) (fun f => rfl) ?_
    refine me_seg 4 (pc1 := 28) (ls1 := [some (.ref 138), some (.int u), some (.int v), some (.int (nI j)), lo4]) (st1 := [.ref 140, .ref 139]) (M1 := (mk_M c n m kk (rT (he, ke, ki, fi, fa, or, mi, a, g, l, w, s) xm xi xw im le nu rf ln nn vp xn xc vs))) (fun f => rfl) ?_
    refine me_call (y := 138) (y0 := 31) (L := [some (.ref 139), some (.ref 140), none]) (rest := []) (rr := none) (M1 := (mk_M c n m kk (rT (he, ke, ki, fi, fa, or, mi, a, g, l, w, s) (er (he, ke, ki, fi, fa, or, mi, a, g, l, w, s)) xi xw im le nu rf ln nn vp xn xc vs))) (fun f => rfl) (rc_copies (a := 140) (b := 139) (by decide) rfl rfl (er_len hV) (by assumption)) ?_
    refine me_seg 3 (pc1 := 36) (ls1 := [some (.ref 138), some (.int u), some (.int v), some (.int (nI j)), lo4]) (st1 := [.int (nI j), .ref 140]) (M1 := (mk_M c n m kk (rT (he, ke, ki, fi, fa, or, mi, a, g, l, w, s) (er (he, ke, ki, fi, fa, or, mi, a, g, l, w, s)) xi xw im le nu rf ln nn vp xn xc vs))) (fun f => rfl) ?_
    refine me_call (y := 183) (y0 := 39) (L := [some (.ref 140), some (.int (nI j)), none]) (rest := []) (rr := none) (M1 := (mk_M c n m kk (rT (he, ke, ki, fi, fa, or, mi, a, g, l, w, s) (er (kpf (he, ke, ki, fi, fa, or, mi, a, g, l, w, s) j)) xi xw im le nu rf ln nn vp xn xc vs))) (fun f => rfl) (rl_m c n m kk (rT (he, ke, ki, fi, fa, or, mi, a, g, l, w, s) (er (he, ke, ki, fi, fa, or, mi, a, g, l, w, s)) xi xw im le nu rf ln nn vp xn xc vs) (rc_pfQ (he, ke, ki, fi, fa, or, mi, a, g, l, w, s) j (show j < mi by omega) hV) rfl) ?_
    refine me_seg 1 (pc1 := 40) (ls1 := [some (.ref 138), some (.int u), some (.int v), some (.int (nI j)), lo4]) (st1 := [.ref 138]) (M1 := (mk_M c n m kk (rT (he, ke, ki, fi, fa, or, mi, a, g, l, w, s) (er (kpf (he, ke, ki, fi, fa, or, mi, a, g, l, w, s) j)) xi xw im le nu rf ln nn vp xn xc vs))) (fun f => rfl) ?_
    refine me_callE (y := 181) (y0 := 43) (L := [some (.ref 138)]) (rest := []) (fun f => rfl) (wm_there he ke ki fi fa or mi a g l w s xi im le nu rf ln nn c n m kk hA hC (kpf (he, ke, ki, fi, fa, or, mi, a, g, l, w, s) j) xw vp xn xc vs ⟨(er_len (kV_pf hV (show j < mi by omega))), (by assumption), (by assumption), (by assumption)⟩ (kV_pf hV (show j < mi by omega)) (show s + 100 < 2 ^ 20 by omega)) ?_
    rintro _ _ ⟨⟨w_1, rfl⟩, xm_1, xw_1, vp_1, xn_1, xc_1, vs_1, rfl, hR_1⟩
    obtain ⟨r1_1, r2_1, r3_1, r4_1⟩ := id hR_1
    refine me_seg 3 (pc1 := 48) (ls1 := [some (.ref 138), some (.int u), some (.int v), some (.int (nI j)), some (.int w_1)]) (st1 := [.int u, .int w_1]) (M1 := (mk_M c n m kk (rT (he, ke, ki, fi, fa, or, mi, a, g, l, w, s) xm_1 xi xw_1 im le nu rf ln nn vp_1 xn_1 xc_1 vs_1))) (fun f => rfl) ?_
    refine me_if (C := w_1 < u) (fun f => rfl) (fun h2 => ?_) (fun h2 => ?_)
    · refine me_seg 5 (pc1 := 62) (ls1 := [some (.ref 138), some (.int w_1), some (.int (nI j)), some (.int ((nI j) + 1)), some (.int w_1)]) (st1 := []) (M1 := (mk_M c n m kk (rT (he, ke, ki, fi, fa, or, mi, a, g, l, w, s) xm_1 xi xw_1 im le nu rf ln nn vp_1 xn_1 xc_1 vs_1))) (fun f => rfl) ?_
      refine me_l (fun q_ => [some (.ref 138), some (.int w_1), some (.int (nI j)), some (.int q_), some (.int w_1)]) (nI_add j 1) ?_
      refine me_seg 1 (pc1 := 10) (ls1 := [some (.ref 138), some (.int w_1), some (.int (nI j)), some (.int (nI (j + 1))), some (.int w_1)]) (st1 := []) (M1 := (mk_M c n m kk (rT (he, ke, ki, fi, fa, or, mi, a, g, l, w, s) xm_1 xi xw_1 im le nu rf ln nn vp_1 xn_1 xc_1 vs_1))) (fun f => rfl) ?_
      exact IH (j + 1) w_1 (nI j) (some (.int w_1)) xm_1 xw_1 vp_1 xn_1 xc_1 vs_1 (by omega) ⟨(by assumption), (by assumption), (by assumption), (by assumption)⟩
    · refine me_seg 2 (pc1 := 62) (ls1 := [some (.ref 138), some (.int u), some (.int v), some (.int ((nI j) + 1)), some (.int w_1)]) (st1 := []) (M1 := (mk_M c n m kk (rT (he, ke, ki, fi, fa, or, mi, a, g, l, w, s) xm_1 xi xw_1 im le nu rf ln nn vp_1 xn_1 xc_1 vs_1))) (fun f => rfl) ?_
      refine me_l (fun q_ => [some (.ref 138), some (.int u), some (.int v), some (.int q_), some (.int w_1)]) (nI_add j 1) ?_
      refine me_seg 1 (pc1 := 10) (ls1 := [some (.ref 138), some (.int u), some (.int v), some (.int (nI (j + 1))), some (.int w_1)]) (st1 := []) (M1 := (mk_M c n m kk (rT (he, ke, ki, fi, fa, or, mi, a, g, l, w, s) xm_1 xi xw_1 im le nu rf ln nn vp_1 xn_1 xc_1 vs_1))) (fun f => rfl) ?_
      exact IH (j + 1) u v (some (.int w_1)) xm_1 xw_1 vp_1 xn_1 xc_1 vs_1 (by omega) ⟨(by assumption), (by assumption), (by assumption), (by assumption)⟩
set_option maxRecDepth 100000 in
theorem wm_push (he ke ki fi fa or : List Nat) (mi a g l w s : Nat) (xi : List Int32) (im : Nat) (le nu rf : List Nat) (ln nn : Nat) (c : cC) (n m kk : kG) (hA : iA (he, ke, ki, fi, fa, or, mi, a, g, l, w, s)) (hC : iC nu nn) (xm xw : List Int32) (vp : Int32) (xn xc : List Int32) (vs : Int32) (hR : iR xm xw xn xc) : mm_E 179 0 [some (.ref 138), none, none, none, none] [] (mk_M c n m kk (rT (he, ke, ki, fi, fa, or, mi, a, g, l, w, s) xm xi xw im le nu rf ln nn vp xn xc vs)) (pM isI (he, ke, ki, fi, fa, or, mi, a, g, l, w, s) xi im le nu rf ln nn c n m kk) := by
  obtain ⟨hV, hst⟩ := id hA
  have hst2 : s ≤ 999 := hst
  obtain ⟨v1, v2, v3, v4, v5, v6, v7, v8, v9, v10, v11, v12, v13, v14, v15, v16⟩ := id hV
  have v6l := kO_len mi v7 or v6
  obtain ⟨c1, c2, c3⟩ := id hC
  obtain ⟨r1, r2, r3, r4⟩ := id hR
  refine me_seg 1 (pc1 := 1) (ls1 := [some (.ref 138), none, none, none, none]) (st1 := [.ref 138]) (M1 := (mk_M c n m kk (rT (he, ke, ki, fi, fa, or, mi, a, g, l, w, s) xm xi xw im le nu rf ln nn vp xn xc vs))) (fun f => rfl) ?_
  refine me_callE (y := 180) (y0 := 4) (L := [some (.ref 138)]) (rest := []) (fun f => rfl) (wm_now he ke ki fi fa or mi a g l w s xi im le nu rf ln nn c n m kk hA hC xm xw vp xn xc vs ⟨(by assumption), (by assumption), (by assumption), (by assumption)⟩) ?_
  rintro _ _ ⟨⟨w_1, rfl⟩, xm_1, xw_1, vp_1, xn_1, xc_1, vs_1, rfl, hR_1⟩
  obtain ⟨r1_1, r2_1, r3_1, r4_1⟩ := id hR_1
  refine me_seg 5 (pc1 := 10) (ls1 := [some (.ref 138), some (.int w_1), some (.int (-9)), some (.int 0), none]) (st1 := []) (M1 := (mk_M c n m kk (rT (he, ke, ki, fi, fa, or, mi, a, g, l, w, s) xm_1 xi xw_1 im le nu rf ln nn vp_1 xn_1 xc_1 vs_1))) (fun f => rfl) ?_
  exact wm_pushL he ke ki fi fa or mi a g l w s xi im le nu rf ln nn c n m kk hA hC mi 0 w_1 (-9) none xm_1 xw_1 vp_1 xn_1 xc_1 vs_1 (by omega) ⟨(by assumption), (by assumption), (by assumption), (by assumption)⟩
set_option maxRecDepth 100000 in
theorem wm_takeL (he ke ki fi fa or : List Nat) (mi a g l w s : Nat) (xi : List Int32) (im : Nat) (le nu rf : List Nat) (ln nn : Nat) (c : cC) (n m kk : kG) (hA : iA (he, ke, ki, fi, fa, or, mi, a, g, l, w, s)) (hC : iC nu nn) (k : Nat) : ∀ (j : Nat) (u : Int32) (v : Int32) (lo4 : Option Value) (xm xw : List Int32) (vp : Int32) (xn xc : List Int32) (vs : Int32), j + k = 25 → iR xm xw xn xc → mm_E 184 10 [some (.ref 138), some (.int u), some (.int v), some (.int (nI j)), lo4] [] (mk_M c n m kk (rT (he, ke, ki, fi, fa, or, mi, a, g, l, w, s) xm xi xw im le nu rf ln nn vp xn xc vs)) (pM isI (he, ke, ki, fi, fa, or, mi, a, g, l, w, s) xi im le nu rf ln nn c n m kk) := by
  obtain ⟨hV, hst⟩ := id hA
  have hst2 : s ≤ 999 := hst
  obtain ⟨v1, v2, v3, v4, v5, v6, v7, v8, v9, v10, v11, v12, v13, v14, v15, v16⟩ := id hV
  have v6l := kO_len mi v7 or v6
  obtain ⟨c1, c2, c3⟩ := id hC
  induction k with
  | zero =>
    intro j u v lo4 xm xw vp xn xc vs hj hR
    obtain ⟨r1, r2, r3, r4⟩ := id hR
    refine me_seg 2 (pc1 := 13) (ls1 := [some (.ref 138), some (.int u), some (.int v), some (.int (nI j)), lo4]) (st1 := [.int 25, .int (nI j)]) (M1 := (mk_M c n m kk (rT (he, ke, ki, fi, fa, or, mi, a, g, l, w, s) xm xi xw im le nu rf ln nn vp xn xc vs))) (fun f => rfl) ?_
    refine me_t (C := 25 ≤ (nI j)) (nI_let (a := 25) (b := j) (by omega)) (fun f => rfl) ?_
    refine me_ret 2 (r := some (.int v)) (M1 := (mk_M c n m kk (rT (he, ke, ki, fi, fa, or, mi, a, g, l, w, s) xm xi xw im le nu rf ln nn vp xn xc vs))) (fun f => rfl) ?_
    exact ⟨⟨_, rfl⟩, _, _, _, _, _, _, rfl, ⟨(by assumption), (by assumption), (by assumption), (by assumption)⟩⟩
  | succ k IH =>
    intro j u v lo4 xm xw vp xn xc vs hj hR
    obtain ⟨r1, r2, r3, r4⟩ := id hR
    refine me_seg 2 (pc1 := 13) (ls1 := [some (.ref 138), some (.int u), some (.int v), some (.int (nI j)), lo4]) (st1 := [.int 25, .int (nI j)]) (M1 := (mk_M c n m kk (rT (he, ke, ki, fi, fa, or, mi, a, g, l, w, s) xm xi xw im le nu rf ln nn vp xn xc vs))) (fun f => rfl) ?_
    refine me_f (C := 25 ≤ (nI j)) (nI_lef (a := 25) (b := j) (by omega)) (fun f => rfl) ?_
    refine me_seg 3 (pc1 := 22) (ls1 := [some (.ref 138), some (.int u), some (.int v), some (.int (nI j)), lo4]) (st1 := [.int 6, .ref 139]) (M1 := (mk_M c n m kk (rT (he, ke, ki, fi, fa, or, mi, a, g, l, w, s) xm xi xw im le nu rf ln nn vp xn xc vs))) (fun f => rfl) ?_
    refine me_ldn (xs := (er (he, ke, ki, fi, fa, or, mi, a, g, l, w, s))) rfl rfl (k := 6) (by decide) rfl ?_
    refine me_seg 1 (pc1 := 24) (ls1 := [some (.ref 138), some (.int u), some (.int v), some (.int (nI j)), lo4]) (st1 := [.int (nI j), .int (nI (kbits ke))]) (M1 := (mk_M c n m kk (rT (he, ke, ki, fi, fa, or, mi, a, g, l, w, s) xm xi xw im le nu rf ln nn vp xn xc vs))) (fun f => rfl) ?_
    refine me_callE (y := 151) (y0 := 27) (L := [some (.int (nI (kbits ke))), some (.int (nI j))]) (rest := []) (fun f => rfl) (wm_has (nI (kbits ke)) (nI j) _) ?_
    rintro _ _ ⟨⟨b_1, hb_1, rfl⟩, rfl⟩
    refine me_if (C := (nI b_1) = 0) (fun f => rfl) (fun h2 => ?_) (fun h2 => ?_)
    · refine me_seg 2 (pc1 := 82) (ls1 := [some (.ref 138), some (.int u), some (.int v), some (.int ((nI j) + 1)), lo4]) (st1 := []) (M1 := (mk_M c n m kk (rT (he, ke, ki, fi, fa, or, mi, a, g, l, w, s) xm xi xw im le nu rf ln nn vp xn xc vs))) (fun f => rfl) ?_
      refine me_l (fun q_ => [some (.ref 138), some (.int u), some (.int v), some (.int q_), lo4]) (nI_add j 1) ?_
      refine me_seg 1 (pc1 := 10) (ls1 := [some (.ref 138), some (.int u), some (.int v), some (.int (nI (j + 1))), lo4]) (st1 := []) (M1 := (mk_M c n m kk (rT (he, ke, ki, fi, fa, or, mi, a, g, l, w, s) xm xi xw im le nu rf ln nn vp xn xc vs))) (fun f => rfl) ?_
      exact IH (j + 1) u v (lo4) xm xw vp xn xc vs (by omega) ⟨(by assumption), (by assumption), (by assumption), (by assumption)⟩
    · refine me_seg 4 (pc1 := 41) (ls1 := [some (.ref 138), some (.int u), some (.int v), some (.int (nI j)), lo4]) (st1 := [.ref 140, .ref 139]) (M1 := (mk_M c n m kk (rT (he, ke, ki, fi, fa, or, mi, a, g, l, w, s) xm xi xw im le nu rf ln nn vp xn xc vs))) (fun f => rfl) ?_
      refine me_call (y := 138) (y0 := 44) (L := [some (.ref 139), some (.ref 140), none]) (rest := []) (rr := none) (M1 := (mk_M c n m kk (rT (he, ke, ki, fi, fa, or, mi, a, g, l, w, s) (er (he, ke, ki, fi, fa, or, mi, a, g, l, w, s)) xi xw im le nu rf ln nn vp xn xc vs))) (fun f => rfl) (rc_copies (a := 140) (b := 139) (by decide) rfl rfl (er_len hV) (by assumption)) ?_
      refine me_seg 4 (pc1 := 51) (ls1 := [some (.ref 138), some (.int u), some (.int v), some (.int (nI j)), lo4]) (st1 := [.int 6, .ref 140, .int 6, .ref 140]) (M1 := (mk_M c n m kk (rT (he, ke, ki, fi, fa, or, mi, a, g, l, w, s) (er (he, ke, ki, fi, fa, or, mi, a, g, l, w, s)) xi xw im le nu rf ln nn vp xn xc vs))) (fun f => rfl) ?_
      refine me_ldn (xs := (er (he, ke, ki, fi, fa, or, mi, a, g, l, w, s))) rfl rfl (k := 6) (by decide) rfl ?_
      refine me_seg 6 (pc1 := 58) (ls1 := [some (.ref 138), some (.int u), some (.int v), some (.int (nI j)), lo4]) (st1 := [.int ((nI (kbits ke)) &&& (((1 : Int32) <<< ((nI j) &&& 31)) ^^^ ((-1) : Int32))), .int 6, .ref 140]) (M1 := (mk_M c n m kk (rT (he, ke, ki, fi, fa, or, mi, a, g, l, w, s) (er (he, ke, ki, fi, fa, or, mi, a, g, l, w, s)) xi xw im le nu rf ln nn vp xn xc vs))) (fun f => rfl) ?_
      refine me_v (kb_clr v2 v13 (by omega)) ?_
      refine me_stn (xs := (er (he, ke, ki, fi, fa, or, mi, a, g, l, w, s))) (ys := (er (he, ke.set j 0, ki, fi, fa, or, mi, a, g, l, w, s))) (M2 := (mk_MR c n m kk (er (he, ke, ki, fi, fa, or, mi, a, g, l, w, s)) (er (he, ke.set j 0, ki, fi, fa, or, mi, a, g, l, w, s)) xi xw (nI im) (le.map nI) (nu.map nI) (rf.map nI) (nI ln) (nI nn) vp xn xc vs)) rfl rfl (k := 6) (by decide) (by rw [er_leq (K := (he, ke, ki, fi, fa, or, mi, a, g, l, w, s)) v1 v6l]; decide) rfl rfl ?_
      refine me_M (mk_MRk c n m kk (he, ke, ki, fi, fa, or, mi, a, g, l, w, s) (er (he, ke.set j 0, ki, fi, fa, or, mi, a, g, l, w, s)) xi xw im le nu rf ln nn vp xn xc vs) ?_
      refine me_seg 1 (pc1 := 60) (ls1 := [some (.ref 138), some (.int u), some (.int v), some (.int (nI j)), lo4]) (st1 := [.ref 138]) (M1 := (mk_M c n m kk (rT (he, ke, ki, fi, fa, or, mi, a, g, l, w, s) (er (he, ke.set j 0, ki, fi, fa, or, mi, a, g, l, w, s)) xi xw im le nu rf ln nn vp xn xc vs))) (fun f => rfl) ?_
      refine me_callE (y := 181) (y0 := 63) (L := [some (.ref 138)]) (rest := []) (fun f => rfl) (wm_there he ke ki fi fa or mi a g l w s xi im le nu rf ln nn c n m kk hA hC (he, ke.set j 0, ki, fi, fa, or, mi, a, g, l, w, s) xw vp xn xc vs ⟨(er_len ⟨v1, by rw [List.length_set]; exact v2, v3, v4, v5, v6, v7, v8, v9, v10, v11, v12, fun i => by rw [kg_setc]; split; omega; exact v13 i, v14, v15, v16⟩), (by assumption), (by assumption), (by assumption)⟩ ⟨v1, by rw [List.length_set]; exact v2, v3, v4, v5, v6, v7, v8, v9, v10, v11, v12, fun i => by rw [kg_setc]; split; omega; exact v13 i, v14, v15, v16⟩ (show s + 100 < 2 ^ 20 by omega)) ?_
      rintro _ _ ⟨⟨w_3, rfl⟩, xm_3, xw_3, vp_3, xn_3, xc_3, vs_3, rfl, hR_3⟩
      obtain ⟨r1_3, r2_3, r3_3, r4_3⟩ := id hR_3
      refine me_seg 3 (pc1 := 68) (ls1 := [some (.ref 138), some (.int u), some (.int v), some (.int (nI j)), some (.int w_3)]) (st1 := [.int u, .int w_3]) (M1 := (mk_M c n m kk (rT (he, ke, ki, fi, fa, or, mi, a, g, l, w, s) xm_3 xi xw_3 im le nu rf ln nn vp_3 xn_3 xc_3 vs_3))) (fun f => rfl) ?_
      refine me_if (C := w_3 < u) (fun f => rfl) (fun h4 => ?_) (fun h4 => ?_)
      · refine me_seg 5 (pc1 := 82) (ls1 := [some (.ref 138), some (.int w_3), some (.int (nI j)), some (.int ((nI j) + 1)), some (.int w_3)]) (st1 := []) (M1 := (mk_M c n m kk (rT (he, ke, ki, fi, fa, or, mi, a, g, l, w, s) xm_3 xi xw_3 im le nu rf ln nn vp_3 xn_3 xc_3 vs_3))) (fun f => rfl) ?_
        refine me_l (fun q_ => [some (.ref 138), some (.int w_3), some (.int (nI j)), some (.int q_), some (.int w_3)]) (nI_add j 1) ?_
        refine me_seg 1 (pc1 := 10) (ls1 := [some (.ref 138), some (.int w_3), some (.int (nI j)), some (.int (nI (j + 1))), some (.int w_3)]) (st1 := []) (M1 := (mk_M c n m kk (rT (he, ke, ki, fi, fa, or, mi, a, g, l, w, s) xm_3 xi xw_3 im le nu rf ln nn vp_3 xn_3 xc_3 vs_3))) (fun f => rfl) ?_
        exact IH (j + 1) w_3 (nI j) (some (.int w_3)) xm_3 xw_3 vp_3 xn_3 xc_3 vs_3 (by omega) ⟨(by assumption), (by assumption), (by assumption), (by assumption)⟩
      · refine me_seg 2 (pc1 := 82) (ls1 := [some (.ref 138), some (.int u), some (.int v), some (.int ((nI j) + 1)), some (.int w_3)]) (st1 := []) (M1 := (mk_M c n m kk (rT (he, ke, ki, fi, fa, or, mi, a, g, l, w, s) xm_3 xi xw_3 im le nu rf ln nn vp_3 xn_3 xc_3 vs_3))) (fun f => rfl) ?_
        refine me_l (fun q_ => [some (.ref 138), some (.int u), some (.int v), some (.int q_), some (.int w_3)]) (nI_add j 1) ?_
        refine me_seg 1 (pc1 := 10) (ls1 := [some (.ref 138), some (.int u), some (.int v), some (.int (nI (j + 1))), some (.int w_3)]) (st1 := []) (M1 := (mk_M c n m kk (rT (he, ke, ki, fi, fa, or, mi, a, g, l, w, s) xm_3 xi xw_3 im le nu rf ln nn vp_3 xn_3 xc_3 vs_3))) (fun f => rfl) ?_
        exact IH (j + 1) u v (some (.int w_3)) xm_3 xw_3 vp_3 xn_3 xc_3 vs_3 (by omega) ⟨(by assumption), (by assumption), (by assumption), (by assumption)⟩
set_option maxRecDepth 100000 in
theorem wm_take (he ke ki fi fa or : List Nat) (mi a g l w s : Nat) (xi : List Int32) (im : Nat) (le nu rf : List Nat) (ln nn : Nat) (c : cC) (n m kk : kG) (hA : iA (he, ke, ki, fi, fa, or, mi, a, g, l, w, s)) (hC : iC nu nn) (xm xw : List Int32) (vp : Int32) (xn xc : List Int32) (vs : Int32) (hR : iR xm xw xn xc) : mm_E 184 0 [some (.ref 138), none, none, none, none] [] (mk_M c n m kk (rT (he, ke, ki, fi, fa, or, mi, a, g, l, w, s) xm xi xw im le nu rf ln nn vp xn xc vs)) (pM isI (he, ke, ki, fi, fa, or, mi, a, g, l, w, s) xi im le nu rf ln nn c n m kk) := by
  obtain ⟨hV, hst⟩ := id hA
  have hst2 : s ≤ 999 := hst
  obtain ⟨v1, v2, v3, v4, v5, v6, v7, v8, v9, v10, v11, v12, v13, v14, v15, v16⟩ := id hV
  have v6l := kO_len mi v7 or v6
  obtain ⟨c1, c2, c3⟩ := id hC
  obtain ⟨r1, r2, r3, r4⟩ := id hR
  refine me_seg 1 (pc1 := 1) (ls1 := [some (.ref 138), none, none, none, none]) (st1 := [.ref 138]) (M1 := (mk_M c n m kk (rT (he, ke, ki, fi, fa, or, mi, a, g, l, w, s) xm xi xw im le nu rf ln nn vp xn xc vs))) (fun f => rfl) ?_
  refine me_callE (y := 180) (y0 := 4) (L := [some (.ref 138)]) (rest := []) (fun f => rfl) (wm_now he ke ki fi fa or mi a g l w s xi im le nu rf ln nn c n m kk hA hC xm xw vp xn xc vs ⟨(by assumption), (by assumption), (by assumption), (by assumption)⟩) ?_
  rintro _ _ ⟨⟨w_1, rfl⟩, xm_1, xw_1, vp_1, xn_1, xc_1, vs_1, rfl, hR_1⟩
  obtain ⟨r1_1, r2_1, r3_1, r4_1⟩ := id hR_1
  refine me_seg 5 (pc1 := 10) (ls1 := [some (.ref 138), some (.int w_1), some (.int (-9)), some (.int 0), none]) (st1 := []) (M1 := (mk_M c n m kk (rT (he, ke, ki, fi, fa, or, mi, a, g, l, w, s) xm_1 xi xw_1 im le nu rf ln nn vp_1 xn_1 xc_1 vs_1))) (fun f => rfl) ?_
  exact wm_takeL he ke ki fi fa or mi a g l w s xi im le nu rf ln nn c n m kk hA hC 25 0 w_1 (-9) none xm_1 xw_1 vp_1 xn_1 xc_1 vs_1 (by omega) ⟨(by assumption), (by assumption), (by assumption), (by assumption)⟩
set_option maxRecDepth 100000 in
theorem wm_flatL (he ke ki fi fa or : List Nat) (mi a g l w s : Nat) (xi : List Int32) (im : Nat) (le nu rf : List Nat) (ln nn : Nat) (c : cC) (n m kk : kG) (hA : iA (he, ke, ki, fi, fa, or, mi, a, g, l, w, s)) (hC : iC nu nn) (k : Nat) : ∀ (j : Nat) (u : Int32) (v : Int32) (lo4 : Option Value) (xm xw : List Int32) (vp : Int32) (xn xc : List Int32) (vs : Int32), j + k = 25 → iR xm xw xn xc → mm_E 185 10 [some (.ref 138), some (.int u), some (.int v), some (.int (nI j)), lo4] [] (mk_M c n m kk (rT (he, ke, ki, fi, fa, or, mi, a, g, l, w, s) xm xi xw im le nu rf ln nn vp xn xc vs)) (pM isI (he, ke, ki, fi, fa, or, mi, a, g, l, w, s) xi im le nu rf ln nn c n m kk) := by
  obtain ⟨hV, hst⟩ := id hA
  have hst2 : s ≤ 999 := hst
  obtain ⟨v1, v2, v3, v4, v5, v6, v7, v8, v9, v10, v11, v12, v13, v14, v15, v16⟩ := id hV
  have v6l := kO_len mi v7 or v6
  obtain ⟨c1, c2, c3⟩ := id hC
  induction k with
  | zero =>
    intro j u v lo4 xm xw vp xn xc vs hj hR
    obtain ⟨r1, r2, r3, r4⟩ := id hR
    refine me_seg 2 (pc1 := 13) (ls1 := [some (.ref 138), some (.int u), some (.int v), some (.int (nI j)), lo4]) (st1 := [.int 25, .int (nI j)]) (M1 := (mk_M c n m kk (rT (he, ke, ki, fi, fa, or, mi, a, g, l, w, s) xm xi xw im le nu rf ln nn vp xn xc vs))) (fun f => rfl) ?_
    refine me_t (C := 25 ≤ (nI j)) (nI_let (a := 25) (b := j) (by omega)) (fun f => rfl) ?_
    refine me_ret 2 (r := some (.int v)) (M1 := (mk_M c n m kk (rT (he, ke, ki, fi, fa, or, mi, a, g, l, w, s) xm xi xw im le nu rf ln nn vp xn xc vs))) (fun f => rfl) ?_
    exact ⟨⟨_, rfl⟩, _, _, _, _, _, _, rfl, ⟨(by assumption), (by assumption), (by assumption), (by assumption)⟩⟩
  | succ k IH =>
    intro j u v lo4 xm xw vp xn xc vs hj hR
    obtain ⟨r1, r2, r3, r4⟩ := id hR
    refine me_seg 2 (pc1 := 13) (ls1 := [some (.ref 138), some (.int u), some (.int v), some (.int (nI j)), lo4]) (st1 := [.int 25, .int (nI j)]) (M1 := (mk_M c n m kk (rT (he, ke, ki, fi, fa, or, mi, a, g, l, w, s) xm xi xw im le nu rf ln nn vp xn xc vs))) (fun f => rfl) ?_
    refine me_f (C := 25 ≤ (nI j)) (nI_lef (a := 25) (b := j) (by omega)) (fun f => rfl) ?_
    refine me_seg 4 (pc1 := 24) (ls1 := [some (.ref 138), some (.int u), some (.int v), some (.int (nI j)), lo4]) (st1 := [.ref 140, .ref 139]) (M1 := (mk_M c n m kk (rT (he, ke, ki, fi, fa, or, mi, a, g, l, w, s) xm xi xw im le nu rf ln nn vp xn xc vs))) (fun f => rfl) ?_
    refine me_call (y := 138) (y0 := 27) (L := [some (.ref 139), some (.ref 140), none]) (rest := []) (rr := none) (M1 := (mk_M c n m kk (rT (he, ke, ki, fi, fa, or, mi, a, g, l, w, s) (er (he, ke, ki, fi, fa, or, mi, a, g, l, w, s)) xi xw im le nu rf ln nn vp xn xc vs))) (fun f => rfl) (rc_copies (a := 140) (b := 139) (by decide) rfl rfl (er_len hV) (by assumption)) ?_
    refine me_seg 5 (pc1 := 35) (ls1 := [some (.ref 138), some (.int u), some (.int v), some (.int (nI j)), lo4]) (st1 := [.int ((7 : Int32) + (nI j)), .ref 140]) (M1 := (mk_M c n m kk (rT (he, ke, ki, fi, fa, or, mi, a, g, l, w, s) (er (he, ke, ki, fi, fa, or, mi, a, g, l, w, s)) xi xw im le nu rf ln nn vp xn xc vs))) (fun f => rfl) ?_
    refine me_v (nI_add 7 j) ?_
    refine me_seg 1 (pc1 := 36) (ls1 := [some (.ref 138), some (.int u), some (.int v), some (.int (nI j)), lo4]) (st1 := [.int 0, .int (nI (7 + j)), .ref 140]) (M1 := (mk_M c n m kk (rT (he, ke, ki, fi, fa, or, mi, a, g, l, w, s) (er (he, ke, ki, fi, fa, or, mi, a, g, l, w, s)) xi xw im le nu rf ln nn vp xn xc vs))) (fun f => rfl) ?_
    refine me_stn (xs := (er (he, ke, ki, fi, fa, or, mi, a, g, l, w, s))) (ys := (er (he.set j 0, ke, ki, fi, fa, or, mi, a, g, l, w, s))) (M2 := (mk_MR c n m kk (er (he, ke, ki, fi, fa, or, mi, a, g, l, w, s)) (er (he.set j 0, ke, ki, fi, fa, or, mi, a, g, l, w, s)) xi xw (nI im) (le.map nI) (nu.map nI) (rf.map nI) (nI ln) (nI nn) vp xn xc vs)) rfl rfl (k := 7 + j) (by omega) (by rw [er_leq (K := (he, ke, ki, fi, fa, or, mi, a, g, l, w, s)) v1 v6l]; omega) (er_hs (K := (he, ke, ki, fi, fa, or, mi, a, g, l, w, s)) v1 (by omega)) rfl ?_
    refine me_M (mk_MRk c n m kk (he, ke, ki, fi, fa, or, mi, a, g, l, w, s) (er (he.set j 0, ke, ki, fi, fa, or, mi, a, g, l, w, s)) xi xw im le nu rf ln nn vp xn xc vs) ?_
    refine me_seg 1 (pc1 := 38) (ls1 := [some (.ref 138), some (.int u), some (.int v), some (.int (nI j)), lo4]) (st1 := [.ref 138]) (M1 := (mk_M c n m kk (rT (he, ke, ki, fi, fa, or, mi, a, g, l, w, s) (er (he.set j 0, ke, ki, fi, fa, or, mi, a, g, l, w, s)) xi xw im le nu rf ln nn vp xn xc vs))) (fun f => rfl) ?_
    refine me_callE (y := 181) (y0 := 41) (L := [some (.ref 138)]) (rest := []) (fun f => rfl) (wm_there he ke ki fi fa or mi a g l w s xi im le nu rf ln nn c n m kk hA hC (he.set j 0, ke, ki, fi, fa, or, mi, a, g, l, w, s) xw vp xn xc vs ⟨(er_len ⟨by rw [List.length_set]; exact v1, v2, v3, v4, v5, v6, v7, v8, v9, v10, v11, fun i => by rw [kg_setc]; split; omega; exact v12 i, v13, v14, v15, v16⟩), (by assumption), (by assumption), (by assumption)⟩ ⟨by rw [List.length_set]; exact v1, v2, v3, v4, v5, v6, v7, v8, v9, v10, v11, fun i => by rw [kg_setc]; split; omega; exact v12 i, v13, v14, v15, v16⟩ (show s + 100 < 2 ^ 20 by omega)) ?_
    rintro _ _ ⟨⟨w_1, rfl⟩, xm_1, xw_1, vp_1, xn_1, xc_1, vs_1, rfl, hR_1⟩
    obtain ⟨r1_1, r2_1, r3_1, r4_1⟩ := id hR_1
    refine me_seg 3 (pc1 := 46) (ls1 := [some (.ref 138), some (.int u), some (.int v), some (.int (nI j)), some (.int w_1)]) (st1 := [.int u, .int w_1]) (M1 := (mk_M c n m kk (rT (he, ke, ki, fi, fa, or, mi, a, g, l, w, s) xm_1 xi xw_1 im le nu rf ln nn vp_1 xn_1 xc_1 vs_1))) (fun f => rfl) ?_
    refine me_if (C := w_1 < u) (fun f => rfl) (fun h2 => ?_) (fun h2 => ?_)
    · refine me_seg 5 (pc1 := 60) (ls1 := [some (.ref 138), some (.int w_1), some (.int (nI j)), some (.int ((nI j) + 1)), some (.int w_1)]) (st1 := []) (M1 := (mk_M c n m kk (rT (he, ke, ki, fi, fa, or, mi, a, g, l, w, s) xm_1 xi xw_1 im le nu rf ln nn vp_1 xn_1 xc_1 vs_1))) (fun f => rfl) ?_
      refine me_l (fun q_ => [some (.ref 138), some (.int w_1), some (.int (nI j)), some (.int q_), some (.int w_1)]) (nI_add j 1) ?_
      refine me_seg 1 (pc1 := 10) (ls1 := [some (.ref 138), some (.int w_1), some (.int (nI j)), some (.int (nI (j + 1))), some (.int w_1)]) (st1 := []) (M1 := (mk_M c n m kk (rT (he, ke, ki, fi, fa, or, mi, a, g, l, w, s) xm_1 xi xw_1 im le nu rf ln nn vp_1 xn_1 xc_1 vs_1))) (fun f => rfl) ?_
      exact IH (j + 1) w_1 (nI j) (some (.int w_1)) xm_1 xw_1 vp_1 xn_1 xc_1 vs_1 (by omega) ⟨(by assumption), (by assumption), (by assumption), (by assumption)⟩
    · refine me_seg 2 (pc1 := 60) (ls1 := [some (.ref 138), some (.int u), some (.int v), some (.int ((nI j) + 1)), some (.int w_1)]) (st1 := []) (M1 := (mk_M c n m kk (rT (he, ke, ki, fi, fa, or, mi, a, g, l, w, s) xm_1 xi xw_1 im le nu rf ln nn vp_1 xn_1 xc_1 vs_1))) (fun f => rfl) ?_
      refine me_l (fun q_ => [some (.ref 138), some (.int u), some (.int v), some (.int q_), some (.int w_1)]) (nI_add j 1) ?_
      refine me_seg 1 (pc1 := 10) (ls1 := [some (.ref 138), some (.int u), some (.int v), some (.int (nI (j + 1))), some (.int w_1)]) (st1 := []) (M1 := (mk_M c n m kk (rT (he, ke, ki, fi, fa, or, mi, a, g, l, w, s) xm_1 xi xw_1 im le nu rf ln nn vp_1 xn_1 xc_1 vs_1))) (fun f => rfl) ?_
      exact IH (j + 1) u v (some (.int w_1)) xm_1 xw_1 vp_1 xn_1 xc_1 vs_1 (by omega) ⟨(by assumption), (by assumption), (by assumption), (by assumption)⟩
set_option maxRecDepth 100000 in
theorem wm_flat (he ke ki fi fa or : List Nat) (mi a g l w s : Nat) (xi : List Int32) (im : Nat) (le nu rf : List Nat) (ln nn : Nat) (c : cC) (n m kk : kG) (hA : iA (he, ke, ki, fi, fa, or, mi, a, g, l, w, s)) (hC : iC nu nn) (xm xw : List Int32) (vp : Int32) (xn xc : List Int32) (vs : Int32) (hR : iR xm xw xn xc) : mm_E 185 0 [some (.ref 138), none, none, none, none] [] (mk_M c n m kk (rT (he, ke, ki, fi, fa, or, mi, a, g, l, w, s) xm xi xw im le nu rf ln nn vp xn xc vs)) (pM isI (he, ke, ki, fi, fa, or, mi, a, g, l, w, s) xi im le nu rf ln nn c n m kk) := by
  obtain ⟨hV, hst⟩ := id hA
  have hst2 : s ≤ 999 := hst
  obtain ⟨v1, v2, v3, v4, v5, v6, v7, v8, v9, v10, v11, v12, v13, v14, v15, v16⟩ := id hV
  have v6l := kO_len mi v7 or v6
  obtain ⟨c1, c2, c3⟩ := id hC
  obtain ⟨r1, r2, r3, r4⟩ := id hR
  refine me_seg 1 (pc1 := 1) (ls1 := [some (.ref 138), none, none, none, none]) (st1 := [.ref 138]) (M1 := (mk_M c n m kk (rT (he, ke, ki, fi, fa, or, mi, a, g, l, w, s) xm xi xw im le nu rf ln nn vp xn xc vs))) (fun f => rfl) ?_
  refine me_callE (y := 180) (y0 := 4) (L := [some (.ref 138)]) (rest := []) (fun f => rfl) (wm_now he ke ki fi fa or mi a g l w s xi im le nu rf ln nn c n m kk hA hC xm xw vp xn xc vs ⟨(by assumption), (by assumption), (by assumption), (by assumption)⟩) ?_
  rintro _ _ ⟨⟨w_1, rfl⟩, xm_1, xw_1, vp_1, xn_1, xc_1, vs_1, rfl, hR_1⟩
  obtain ⟨r1_1, r2_1, r3_1, r4_1⟩ := id hR_1
  refine me_seg 5 (pc1 := 10) (ls1 := [some (.ref 138), some (.int w_1), some (.int (-9)), some (.int 0), none]) (st1 := []) (M1 := (mk_M c n m kk (rT (he, ke, ki, fi, fa, or, mi, a, g, l, w, s) xm_1 xi xw_1 im le nu rf ln nn vp_1 xn_1 xc_1 vs_1))) (fun f => rfl) ?_
  exact wm_flatL he ke ki fi fa or mi a g l w s xi im le nu rf ln nn c n m kk hA hC 25 0 w_1 (-9) none xm_1 xw_1 vp_1 xn_1 xc_1 vs_1 (by omega) ⟨(by assumption), (by assumption), (by assumption), (by assumption)⟩
set_option maxRecDepth 100000 in
theorem wm_startL (he ke ki fi fa or : List Nat) (mi a g l w s : Nat) (xi : List Int32) (im : Nat) (le nu rf : List Nat) (ln nn : Nat) (c : cC) (n m kk : kG) (hA : iA (he, ke, ki, fi, fa, or, mi, a, g, l, w, s)) (hC : iC nu nn) (x : Nat) (hx : x < 2) (k : Nat) : ∀ (j : Nat) (u : Int32) (v : Int32) (lo5 : Option Value) (xm xw : List Int32) (vp : Int32) (xn xc : List Int32) (vs : Int32), j + k = 25 → iR xm xw xn xc → mm_E 187 25 [some (.ref 138), some (.int (nI x)), some (.int u), some (.int v), some (.int (nI j)), lo5] [] (mk_M c n m kk (rT (he, ke, ki, fi, fa, or, mi, a, g, l, w, s) xm xi xw im le nu rf ln nn vp xn xc vs)) (pM isI (he, ke, ki, fi, fa, or, mi, a, g, l, w, s) xi im le nu rf ln nn c n m kk) := by
  obtain ⟨hV, hst⟩ := id hA
  have hst2 : s ≤ 999 := hst
  obtain ⟨v1, v2, v3, v4, v5, v6, v7, v8, v9, v10, v11, v12, v13, v14, v15, v16⟩ := id hV
  have v6l := kO_len mi v7 or v6
  obtain ⟨c1, c2, c3⟩ := id hC
  induction k with
  | zero =>
    intro j u v lo5 xm xw vp xn xc vs hj hR
    obtain ⟨r1, r2, r3, r4⟩ := id hR
    refine me_seg 2 (pc1 := 29) (ls1 := [some (.ref 138), some (.int (nI x)), some (.int u), some (.int v), some (.int (nI j)), lo5]) (st1 := [.int 25, .int (nI j)]) (M1 := (mk_M c n m kk (rT (he, ke, ki, fi, fa, or, mi, a, g, l, w, s) xm xi xw im le nu rf ln nn vp xn xc vs))) (fun f => rfl) ?_
    refine me_t (C := 25 ≤ (nI j)) (nI_let (a := 25) (b := j) (by omega)) (fun f => rfl) ?_
    refine me_seg 1 (pc1 := 93) (ls1 := [some (.ref 138), some (.int (nI x)), some (.int u), some (.int v), some (.int (nI j)), lo5]) (st1 := [.int u]) (M1 := (mk_M c n m kk (rT (he, ke, ki, fi, fa, or, mi, a, g, l, w, s) xm xi xw im le nu rf ln nn vp xn xc vs))) (fun f => rfl) ?_
    refine me_if (C := u < 0) (fun f => rfl) (fun h1 => ?_) (fun h1 => ?_)
    · refine me_ret 3 (r := some (.int u)) (M1 := (mk_M c n m kk (rT (he, ke, ki, fi, fa, or, mi, a, g, l, w, s) xm xi xw im le nu rf ln nn vp xn xc vs))) (fun f => rfl) ?_
      exact ⟨⟨_, rfl⟩, _, _, _, _, _, _, rfl, ⟨(by assumption), (by assumption), (by assumption), (by assumption)⟩⟩
    · refine me_seg 1 (pc1 := 97) (ls1 := [some (.ref 138), some (.int (nI x)), some (.int u), some (.int v), some (.int (nI j)), lo5]) (st1 := [.int (nI x)]) (M1 := (mk_M c n m kk (rT (he, ke, ki, fi, fa, or, mi, a, g, l, w, s) xm xi xw im le nu rf ln nn vp xn xc vs))) (fun f => rfl) ?_
      refine me_if (C := (nI x) = 0) (fun f => rfl) (fun h2 => ?_) (fun h2 => ?_)
      · refine me_ret 3 (r := some (.int u)) (M1 := (mk_M c n m kk (rT (he, ke, ki, fi, fa, or, mi, a, g, l, w, s) xm xi xw im le nu rf ln nn vp xn xc vs))) (fun f => rfl) ?_
        exact ⟨⟨_, rfl⟩, _, _, _, _, _, _, rfl, ⟨(by assumption), (by assumption), (by assumption), (by assumption)⟩⟩
      · refine me_ret 2 (r := some (.int v)) (M1 := (mk_M c n m kk (rT (he, ke, ki, fi, fa, or, mi, a, g, l, w, s) xm xi xw im le nu rf ln nn vp xn xc vs))) (fun f => rfl) ?_
        exact ⟨⟨_, rfl⟩, _, _, _, _, _, _, rfl, ⟨(by assumption), (by assumption), (by assumption), (by assumption)⟩⟩
  | succ k IH =>
    intro j u v lo5 xm xw vp xn xc vs hj hR
    obtain ⟨r1, r2, r3, r4⟩ := id hR
    refine me_seg 2 (pc1 := 29) (ls1 := [some (.ref 138), some (.int (nI x)), some (.int u), some (.int v), some (.int (nI j)), lo5]) (st1 := [.int 25, .int (nI j)]) (M1 := (mk_M c n m kk (rT (he, ke, ki, fi, fa, or, mi, a, g, l, w, s) xm xi xw im le nu rf ln nn vp xn xc vs))) (fun f => rfl) ?_
    refine me_f (C := 25 ≤ (nI j)) (nI_lef (a := 25) (b := j) (by omega)) (fun f => rfl) ?_
    refine me_seg 4 (pc1 := 39) (ls1 := [some (.ref 138), some (.int (nI x)), some (.int u), some (.int v), some (.int (nI j)), lo5]) (st1 := [.int 3, .ref 139, .int (nI j)]) (M1 := (mk_M c n m kk (rT (he, ke, ki, fi, fa, or, mi, a, g, l, w, s) xm xi xw im le nu rf ln nn vp xn xc vs))) (fun f => rfl) ?_
    refine me_ldn (xs := (er (he, ke, ki, fi, fa, or, mi, a, g, l, w, s))) rfl rfl (k := 3) (by decide) rfl ?_
    refine me_if (C := (nI j) = (nI g)) (fun f => rfl) (fun h1 => ?_) (fun h1 => ?_)
    · refine me_seg 2 (pc1 := 89) (ls1 := [some (.ref 138), some (.int (nI x)), some (.int u), some (.int v), some (.int ((nI j) + 1)), lo5]) (st1 := []) (M1 := (mk_M c n m kk (rT (he, ke, ki, fi, fa, or, mi, a, g, l, w, s) xm xi xw im le nu rf ln nn vp xn xc vs))) (fun f => rfl) ?_
      refine me_l (fun q_ => [some (.ref 138), some (.int (nI x)), some (.int u), some (.int v), some (.int q_), lo5]) (nI_add j 1) ?_
      refine me_seg 1 (pc1 := 25) (ls1 := [some (.ref 138), some (.int (nI x)), some (.int u), some (.int v), some (.int (nI (j + 1))), lo5]) (st1 := []) (M1 := (mk_M c n m kk (rT (he, ke, ki, fi, fa, or, mi, a, g, l, w, s) xm xi xw im le nu rf ln nn vp xn xc vs))) (fun f => rfl) ?_
      exact IH (j + 1) u v (lo5) xm xw vp xn xc vs (by omega) ⟨(by assumption), (by assumption), (by assumption), (by assumption)⟩
    · refine me_seg 4 (pc1 := 54) (ls1 := [some (.ref 138), some (.int (nI x)), some (.int u), some (.int v), some (.int (nI j)), lo5]) (st1 := [.ref 140, .ref 139]) (M1 := (mk_M c n m kk (rT (he, ke, ki, fi, fa, or, mi, a, g, l, w, s) xm xi xw im le nu rf ln nn vp xn xc vs))) (fun f => rfl) ?_
      refine me_call (y := 138) (y0 := 57) (L := [some (.ref 139), some (.ref 140), none]) (rest := []) (rr := none) (M1 := (mk_M c n m kk (rT (he, ke, ki, fi, fa, or, mi, a, g, l, w, s) (er (he, ke, ki, fi, fa, or, mi, a, g, l, w, s)) xi xw im le nu rf ln nn vp xn xc vs))) (fun f => rfl) (rc_copies (a := 140) (b := 139) (by decide) rfl rfl (er_len hV) (by assumption)) ?_
      refine me_seg 4 (pc1 := 64) (ls1 := [some (.ref 138), some (.int (nI x)), some (.int u), some (.int v), some (.int (nI j)), lo5]) (st1 := [.int (nI j), .int 2, .ref 140]) (M1 := (mk_M c n m kk (rT (he, ke, ki, fi, fa, or, mi, a, g, l, w, s) (er (he, ke, ki, fi, fa, or, mi, a, g, l, w, s)) xi xw im le nu rf ln nn vp xn xc vs))) (fun f => rfl) ?_
      refine me_stn (xs := (er (he, ke, ki, fi, fa, or, mi, a, g, l, w, s))) (ys := (er (he, ke, ki, fi, fa, or, mi, j, g, l, w, s))) (M2 := (mk_MR c n m kk (er (he, ke, ki, fi, fa, or, mi, a, g, l, w, s)) (er (he, ke, ki, fi, fa, or, mi, j, g, l, w, s)) xi xw (nI im) (le.map nI) (nu.map nI) (rf.map nI) (nI ln) (nI nn) vp xn xc vs)) rfl rfl (k := 2) (by decide) (by rw [er_leq (K := (he, ke, ki, fi, fa, or, mi, a, g, l, w, s)) v1 v6l]; decide) (er_s2 (v := j)) rfl ?_
      refine me_M (mk_MRk c n m kk (he, ke, ki, fi, fa, or, mi, a, g, l, w, s) (er (he, ke, ki, fi, fa, or, mi, j, g, l, w, s)) xi xw im le nu rf ln nn vp xn xc vs) ?_
      refine me_seg 1 (pc1 := 66) (ls1 := [some (.ref 138), some (.int (nI x)), some (.int u), some (.int v), some (.int (nI j)), lo5]) (st1 := [.ref 138]) (M1 := (mk_M c n m kk (rT (he, ke, ki, fi, fa, or, mi, a, g, l, w, s) (er (he, ke, ki, fi, fa, or, mi, j, g, l, w, s)) xi xw im le nu rf ln nn vp xn xc vs))) (fun f => rfl) ?_
      refine me_callE (y := 181) (y0 := 69) (L := [some (.ref 138)]) (rest := []) (fun f => rfl) (wm_there he ke ki fi fa or mi a g l w s xi im le nu rf ln nn c n m kk hA hC (he, ke, ki, fi, fa, or, mi, j, g, l, w, s) xw vp xn xc vs ⟨(er_len ⟨v1, v2, v3, v4, v5, v6, v7, by omega, v9, v10, v11, v12, v13, v14, v15, v16⟩), (by assumption), (by assumption), (by assumption)⟩ ⟨v1, v2, v3, v4, v5, v6, v7, by omega, v9, v10, v11, v12, v13, v14, v15, v16⟩ (show s + 100 < 2 ^ 20 by omega)) ?_
      rintro _ _ ⟨⟨w_2, rfl⟩, xm_2, xw_2, vp_2, xn_2, xc_2, vs_2, rfl, hR_2⟩
      obtain ⟨r1_2, r2_2, r3_2, r4_2⟩ := id hR_2
      refine me_seg 3 (pc1 := 74) (ls1 := [some (.ref 138), some (.int (nI x)), some (.int u), some (.int v), some (.int (nI j)), some (.int w_2)]) (st1 := [.int v, .int w_2]) (M1 := (mk_M c n m kk (rT (he, ke, ki, fi, fa, or, mi, a, g, l, w, s) xm_2 xi xw_2 im le nu rf ln nn vp_2 xn_2 xc_2 vs_2))) (fun f => rfl) ?_
      refine me_if (C := w_2 < v) (fun f => rfl) (fun h3 => ?_) (fun h3 => ?_)
      · refine me_seg 5 (pc1 := 89) (ls1 := [some (.ref 138), some (.int (nI x)), some (.int (nI j)), some (.int w_2), some (.int ((nI j) + 1)), some (.int w_2)]) (st1 := []) (M1 := (mk_M c n m kk (rT (he, ke, ki, fi, fa, or, mi, a, g, l, w, s) xm_2 xi xw_2 im le nu rf ln nn vp_2 xn_2 xc_2 vs_2))) (fun f => rfl) ?_
        refine me_l (fun q_ => [some (.ref 138), some (.int (nI x)), some (.int (nI j)), some (.int w_2), some (.int q_), some (.int w_2)]) (nI_add j 1) ?_
        refine me_seg 1 (pc1 := 25) (ls1 := [some (.ref 138), some (.int (nI x)), some (.int (nI j)), some (.int w_2), some (.int (nI (j + 1))), some (.int w_2)]) (st1 := []) (M1 := (mk_M c n m kk (rT (he, ke, ki, fi, fa, or, mi, a, g, l, w, s) xm_2 xi xw_2 im le nu rf ln nn vp_2 xn_2 xc_2 vs_2))) (fun f => rfl) ?_
        exact IH (j + 1) (nI j) w_2 (some (.int w_2)) xm_2 xw_2 vp_2 xn_2 xc_2 vs_2 (by omega) ⟨(by assumption), (by assumption), (by assumption), (by assumption)⟩
      · refine me_seg 2 (pc1 := 89) (ls1 := [some (.ref 138), some (.int (nI x)), some (.int u), some (.int v), some (.int ((nI j) + 1)), some (.int w_2)]) (st1 := []) (M1 := (mk_M c n m kk (rT (he, ke, ki, fi, fa, or, mi, a, g, l, w, s) xm_2 xi xw_2 im le nu rf ln nn vp_2 xn_2 xc_2 vs_2))) (fun f => rfl) ?_
        refine me_l (fun q_ => [some (.ref 138), some (.int (nI x)), some (.int u), some (.int v), some (.int q_), some (.int w_2)]) (nI_add j 1) ?_
        refine me_seg 1 (pc1 := 25) (ls1 := [some (.ref 138), some (.int (nI x)), some (.int u), some (.int v), some (.int (nI (j + 1))), some (.int w_2)]) (st1 := []) (M1 := (mk_M c n m kk (rT (he, ke, ki, fi, fa, or, mi, a, g, l, w, s) xm_2 xi xw_2 im le nu rf ln nn vp_2 xn_2 xc_2 vs_2))) (fun f => rfl) ?_
        exact IH (j + 1) u v (some (.int w_2)) xm_2 xw_2 vp_2 xn_2 xc_2 vs_2 (by omega) ⟨(by assumption), (by assumption), (by assumption), (by assumption)⟩
set_option maxRecDepth 100000 in
theorem wm_start (he ke ki fi fa or : List Nat) (mi a g l w s : Nat) (xi : List Int32) (im : Nat) (le nu rf : List Nat) (ln nn : Nat) (c : cC) (n m kk : kG) (hA : iA (he, ke, ki, fi, fa, or, mi, a, g, l, w, s)) (hC : iC nu nn) (xm xw : List Int32) (vp : Int32) (xn xc : List Int32) (vs : Int32) (hR : iR xm xw xn xc) (x : Nat) (hx : x < 2) : mm_E 187 0 [some (.ref 138), some (.int (nI x)), none, none, none, none] [] (mk_M c n m kk (rT (he, ke, ki, fi, fa, or, mi, a, g, l, w, s) xm xi xw im le nu rf ln nn vp xn xc vs)) (pM isI (he, ke, ki, fi, fa, or, mi, a, g, l, w, s) xi im le nu rf ln nn c n m kk) := by
  obtain ⟨hV, hst⟩ := id hA
  have hst2 : s ≤ 999 := hst
  obtain ⟨v1, v2, v3, v4, v5, v6, v7, v8, v9, v10, v11, v12, v13, v14, v15, v16⟩ := id hV
  have v6l := kO_len mi v7 or v6
  obtain ⟨c1, c2, c3⟩ := id hC
  obtain ⟨r1, r2, r3, r4⟩ := id hR
  refine me_seg 3 (pc1 := 3) (ls1 := [some (.ref 138), some (.int (nI x)), none, none, none, none]) (st1 := [.int 1, .int 0, .int (nI x)]) (M1 := (mk_M c n m kk (rT (he, ke, ki, fi, fa, or, mi, a, g, l, w, s) xm xi xw im le nu rf ln nn vp xn xc vs))) (fun f => rfl) ?_
  refine me_call (y := 135) (y0 := 6) (L := [some (.int (nI x)), some (.int 0), some (.int 1)]) (rest := []) (rr := some (.int 1)) (M1 := (mk_M c n m kk (rT (he, ke, ki, fi, fa, or, mi, a, g, l, w, s) xm xi xw im le nu rf ln nn vp xn xc vs))) (fun f => rfl) (ms_in_ok (x := (nI x)) (a := 0) (b := 1) (nI_ltf (a := x) (b := 0) (by omega)) (nI_ltf (a := 1) (b := x) (by omega))) ?_
  refine me_seg 7 (pc1 := 25) (ls1 := [some (.ref 138), some (.int (nI x)), some (.int (-9)), some (.int 61), some (.int 0), none]) (st1 := []) (M1 := (mk_M c n m kk (rT (he, ke, ki, fi, fa, or, mi, a, g, l, w, s) xm xi xw im le nu rf ln nn vp xn xc vs))) (fun f => rfl) ?_
  exact wm_startL he ke ki fi fa or mi a g l w s xi im le nu rf ln nn c n m kk hA hC x hx 25 0 (-9) 61 none xm xw vp xn xc vs (by omega) ⟨(by assumption), (by assumption), (by assumption), (by assumption)⟩
set_option maxRecDepth 100000 in
theorem wm_bestKindL (he ke ki fi fa or : List Nat) (mi a g l w s : Nat) (xi : List Int32) (im : Nat) (le nu rf : List Nat) (ln nn : Nat) (c : cC) (n m kk : kG) (hA : iA (he, ke, ki, fi, fa, or, mi, a, g, l, w, s)) (hC : iC nu nn) (p x : Nat) (hp : p < mi) (hx : x < 2) (k : Nat) : ∀ (j : Nat) (u : Int32) (v : Int32) (lo6 : Option Value) (xm xw : List Int32) (vp : Int32) (xn xc : List Int32) (vs : Int32), j + k = 6 → iR xm xw xn xc → mm_E 188 40 [some (.ref 138), some (.int (nI p)), some (.int (nI x)), some (.int u), some (.int v), some (.int (nI j)), lo6] [] (mk_M c n m kk (rT (he, ke, ki, fi, fa, or, mi, a, g, l, w, s) xm xi xw im le nu rf ln nn vp xn xc vs)) (pM isI (he, ke, ki, fi, fa, or, mi, a, g, l, w, s) xi im le nu rf ln nn c n m kk) := by
  obtain ⟨hV, hst⟩ := id hA
  have hst2 : s ≤ 999 := hst
  obtain ⟨v1, v2, v3, v4, v5, v6, v7, v8, v9, v10, v11, v12, v13, v14, v15, v16⟩ := id hV
  have v6l := kO_len mi v7 or v6
  obtain ⟨c1, c2, c3⟩ := id hC
  induction k with
  | zero =>
    intro j u v lo6 xm xw vp xn xc vs hj hR
    obtain ⟨r1, r2, r3, r4⟩ := id hR
    refine me_seg 2 (pc1 := 44) (ls1 := [some (.ref 138), some (.int (nI p)), some (.int (nI x)), some (.int u), some (.int v), some (.int (nI j)), lo6]) (st1 := [.int 6, .int (nI j)]) (M1 := (mk_M c n m kk (rT (he, ke, ki, fi, fa, or, mi, a, g, l, w, s) xm xi xw im le nu rf ln nn vp xn xc vs))) (fun f => rfl) ?_
    refine me_t (C := 6 ≤ (nI j)) (nI_let (a := 6) (b := j) (by omega)) (fun f => rfl) ?_
    refine me_seg 1 (pc1 := 100) (ls1 := [some (.ref 138), some (.int (nI p)), some (.int (nI x)), some (.int u), some (.int v), some (.int (nI j)), lo6]) (st1 := [.int u]) (M1 := (mk_M c n m kk (rT (he, ke, ki, fi, fa, or, mi, a, g, l, w, s) xm xi xw im le nu rf ln nn vp xn xc vs))) (fun f => rfl) ?_
    refine me_if (C := u < 0) (fun f => rfl) (fun h1 => ?_) (fun h1 => ?_)
    · refine me_ret 3 (r := some (.int u)) (M1 := (mk_M c n m kk (rT (he, ke, ki, fi, fa, or, mi, a, g, l, w, s) xm xi xw im le nu rf ln nn vp xn xc vs))) (fun f => rfl) ?_
      exact ⟨⟨_, rfl⟩, _, _, _, _, _, _, rfl, ⟨(by assumption), (by assumption), (by assumption), (by assumption)⟩⟩
    · refine me_seg 1 (pc1 := 104) (ls1 := [some (.ref 138), some (.int (nI p)), some (.int (nI x)), some (.int u), some (.int v), some (.int (nI j)), lo6]) (st1 := [.int (nI x)]) (M1 := (mk_M c n m kk (rT (he, ke, ki, fi, fa, or, mi, a, g, l, w, s) xm xi xw im le nu rf ln nn vp xn xc vs))) (fun f => rfl) ?_
      refine me_if (C := (nI x) = 0) (fun f => rfl) (fun h2 => ?_) (fun h2 => ?_)
      · refine me_ret 3 (r := some (.int u)) (M1 := (mk_M c n m kk (rT (he, ke, ki, fi, fa, or, mi, a, g, l, w, s) xm xi xw im le nu rf ln nn vp xn xc vs))) (fun f => rfl) ?_
        exact ⟨⟨_, rfl⟩, _, _, _, _, _, _, rfl, ⟨(by assumption), (by assumption), (by assumption), (by assumption)⟩⟩
      · refine me_ret 2 (r := some (.int v)) (M1 := (mk_M c n m kk (rT (he, ke, ki, fi, fa, or, mi, a, g, l, w, s) xm xi xw im le nu rf ln nn vp xn xc vs))) (fun f => rfl) ?_
        exact ⟨⟨_, rfl⟩, _, _, _, _, _, _, rfl, ⟨(by assumption), (by assumption), (by assumption), (by assumption)⟩⟩
  | succ k IH =>
    intro j u v lo6 xm xw vp xn xc vs hj hR
    obtain ⟨r1, r2, r3, r4⟩ := id hR
    refine me_seg 2 (pc1 := 44) (ls1 := [some (.ref 138), some (.int (nI p)), some (.int (nI x)), some (.int u), some (.int v), some (.int (nI j)), lo6]) (st1 := [.int 6, .int (nI j)]) (M1 := (mk_M c n m kk (rT (he, ke, ki, fi, fa, or, mi, a, g, l, w, s) xm xi xw im le nu rf ln nn vp xn xc vs))) (fun f => rfl) ?_
    refine me_f (C := 6 ≤ (nI j)) (nI_lef (a := 6) (b := j) (by omega)) (fun f => rfl) ?_
    refine me_seg 4 (pc1 := 55) (ls1 := [some (.ref 138), some (.int (nI p)), some (.int (nI x)), some (.int u), some (.int v), some (.int (nI j)), lo6]) (st1 := [.ref 140, .ref 139]) (M1 := (mk_M c n m kk (rT (he, ke, ki, fi, fa, or, mi, a, g, l, w, s) xm xi xw im le nu rf ln nn vp xn xc vs))) (fun f => rfl) ?_
    refine me_call (y := 138) (y0 := 58) (L := [some (.ref 139), some (.ref 140), none]) (rest := []) (rr := none) (M1 := (mk_M c n m kk (rT (he, ke, ki, fi, fa, or, mi, a, g, l, w, s) (er (he, ke, ki, fi, fa, or, mi, a, g, l, w, s)) xi xw im le nu rf ln nn vp xn xc vs))) (fun f => rfl) (rc_copies (a := 140) (b := 139) (by decide) rfl rfl (er_len hV) (by assumption)) ?_
    refine me_seg 4 (pc1 := 64) (ls1 := [some (.ref 138), some (.int (nI p)), some (.int (nI x)), some (.int u), some (.int v), some (.int (nI j)), lo6]) (st1 := [.int 0, .int (nI p), .ref 140]) (M1 := (mk_M c n m kk (rT (he, ke, ki, fi, fa, or, mi, a, g, l, w, s) (er (he, ke, ki, fi, fa, or, mi, a, g, l, w, s)) xi xw im le nu rf ln nn vp xn xc vs))) (fun f => rfl) ?_
    refine me_call (y := 141) (y0 := 67) (L := [some (.int (nI p)), some (.int 0)]) (rest := [.ref 140]) (rr := some (.int (nI (32 + 3 * p + 0)))) (M1 := (mk_M c n m kk (rT (he, ke, ki, fi, fa, or, mi, a, g, l, w, s) (er (he, ke, ki, fi, fa, or, mi, a, g, l, w, s)) xi xw im le nu rf ln nn vp xn xc vs))) (fun f => rfl) (rc_of p 0 (by omega) (by decide) _) ?_
    refine me_seg 1 (pc1 := 69) (ls1 := [some (.ref 138), some (.int (nI p)), some (.int (nI x)), some (.int u), some (.int v), some (.int (nI j)), lo6]) (st1 := [.int (nI j), .int (nI (32 + 3 * p + 0)), .ref 140]) (M1 := (mk_M c n m kk (rT (he, ke, ki, fi, fa, or, mi, a, g, l, w, s) (er (he, ke, ki, fi, fa, or, mi, a, g, l, w, s)) xi xw im le nu rf ln nn vp xn xc vs))) (fun f => rfl) ?_
    refine me_stn (xs := (er (he, ke, ki, fi, fa, or, mi, a, g, l, w, s))) (ys := (er (he, ke, ki.set p j, fi, fa, or, mi, a, g, l, w, s))) (M2 := (mk_MR c n m kk (er (he, ke, ki, fi, fa, or, mi, a, g, l, w, s)) (er (he, ke, ki.set p j, fi, fa, or, mi, a, g, l, w, s)) xi xw (nI im) (le.map nI) (nu.map nI) (rf.map nI) (nI ln) (nI nn) vp xn xc vs)) rfl rfl (k := 32 + 3 * p + 0) (by omega) (by rw [er_leq (K := (he, ke, ki, fi, fa, or, mi, a, g, l, w, s)) v1 v6l]; omega) (er_kis (K := (he, ke, ki, fi, fa, or, mi, a, g, l, w, s)) v1 v3 (by omega)) rfl ?_
    refine me_M (mk_MRk c n m kk (he, ke, ki, fi, fa, or, mi, a, g, l, w, s) (er (he, ke, ki.set p j, fi, fa, or, mi, a, g, l, w, s)) xi xw im le nu rf ln nn vp xn xc vs) ?_
    refine me_seg 1 (pc1 := 71) (ls1 := [some (.ref 138), some (.int (nI p)), some (.int (nI x)), some (.int u), some (.int v), some (.int (nI j)), lo6]) (st1 := [.ref 138]) (M1 := (mk_M c n m kk (rT (he, ke, ki, fi, fa, or, mi, a, g, l, w, s) (er (he, ke, ki.set p j, fi, fa, or, mi, a, g, l, w, s)) xi xw im le nu rf ln nn vp xn xc vs))) (fun f => rfl) ?_
    refine me_callE (y := 181) (y0 := 74) (L := [some (.ref 138)]) (rest := []) (fun f => rfl) (wm_there he ke ki fi fa or mi a g l w s xi im le nu rf ln nn c n m kk hA hC (he, ke, ki.set p j, fi, fa, or, mi, a, g, l, w, s) xw vp xn xc vs ⟨(er_len ⟨v1, v2, by rw [List.length_set]; exact v3, v4, v5, v6, v7, v8, v9, v10, v11, v12, v13, fun i => by rw [kg_setc]; split; omega; exact v14 i, v15, v16⟩), (by assumption), (by assumption), (by assumption)⟩ ⟨v1, v2, by rw [List.length_set]; exact v3, v4, v5, v6, v7, v8, v9, v10, v11, v12, v13, fun i => by rw [kg_setc]; split; omega; exact v14 i, v15, v16⟩ (show s + 100 < 2 ^ 20 by omega)) ?_
    rintro _ _ ⟨⟨w_1, rfl⟩, xm_1, xw_1, vp_1, xn_1, xc_1, vs_1, rfl, hR_1⟩
    obtain ⟨r1_1, r2_1, r3_1, r4_1⟩ := id hR_1
    refine me_seg 3 (pc1 := 80) (ls1 := [some (.ref 138), some (.int (nI p)), some (.int (nI x)), some (.int u), some (.int v), some (.int (nI j)), some (.int w_1)]) (st1 := [.int v, .int w_1]) (M1 := (mk_M c n m kk (rT (he, ke, ki, fi, fa, or, mi, a, g, l, w, s) xm_1 xi xw_1 im le nu rf ln nn vp_1 xn_1 xc_1 vs_1))) (fun f => rfl) ?_
    refine me_if (C := w_1 < v) (fun f => rfl) (fun h2 => ?_) (fun h2 => ?_)
    · refine me_seg 5 (pc1 := 96) (ls1 := [some (.ref 138), some (.int (nI p)), some (.int (nI x)), some (.int (nI j)), some (.int w_1), some (.int ((nI j) + 1)), some (.int w_1)]) (st1 := []) (M1 := (mk_M c n m kk (rT (he, ke, ki, fi, fa, or, mi, a, g, l, w, s) xm_1 xi xw_1 im le nu rf ln nn vp_1 xn_1 xc_1 vs_1))) (fun f => rfl) ?_
      refine me_l (fun q_ => [some (.ref 138), some (.int (nI p)), some (.int (nI x)), some (.int (nI j)), some (.int w_1), some (.int q_), some (.int w_1)]) (nI_add j 1) ?_
      refine me_seg 1 (pc1 := 40) (ls1 := [some (.ref 138), some (.int (nI p)), some (.int (nI x)), some (.int (nI j)), some (.int w_1), some (.int (nI (j + 1))), some (.int w_1)]) (st1 := []) (M1 := (mk_M c n m kk (rT (he, ke, ki, fi, fa, or, mi, a, g, l, w, s) xm_1 xi xw_1 im le nu rf ln nn vp_1 xn_1 xc_1 vs_1))) (fun f => rfl) ?_
      exact IH (j + 1) (nI j) w_1 (some (.int w_1)) xm_1 xw_1 vp_1 xn_1 xc_1 vs_1 (by omega) ⟨(by assumption), (by assumption), (by assumption), (by assumption)⟩
    · refine me_seg 2 (pc1 := 96) (ls1 := [some (.ref 138), some (.int (nI p)), some (.int (nI x)), some (.int u), some (.int v), some (.int ((nI j) + 1)), some (.int w_1)]) (st1 := []) (M1 := (mk_M c n m kk (rT (he, ke, ki, fi, fa, or, mi, a, g, l, w, s) xm_1 xi xw_1 im le nu rf ln nn vp_1 xn_1 xc_1 vs_1))) (fun f => rfl) ?_
      refine me_l (fun q_ => [some (.ref 138), some (.int (nI p)), some (.int (nI x)), some (.int u), some (.int v), some (.int q_), some (.int w_1)]) (nI_add j 1) ?_
      refine me_seg 1 (pc1 := 40) (ls1 := [some (.ref 138), some (.int (nI p)), some (.int (nI x)), some (.int u), some (.int v), some (.int (nI (j + 1))), some (.int w_1)]) (st1 := []) (M1 := (mk_M c n m kk (rT (he, ke, ki, fi, fa, or, mi, a, g, l, w, s) xm_1 xi xw_1 im le nu rf ln nn vp_1 xn_1 xc_1 vs_1))) (fun f => rfl) ?_
      exact IH (j + 1) u v (some (.int w_1)) xm_1 xw_1 vp_1 xn_1 xc_1 vs_1 (by omega) ⟨(by assumption), (by assumption), (by assumption), (by assumption)⟩
set_option maxRecDepth 100000 in
theorem wm_bestKind (he ke ki fi fa or : List Nat) (mi a g l w s : Nat) (xi : List Int32) (im : Nat) (le nu rf : List Nat) (ln nn : Nat) (c : cC) (n m kk : kG) (hA : iA (he, ke, ki, fi, fa, or, mi, a, g, l, w, s)) (hC : iC nu nn) (xm xw : List Int32) (vp : Int32) (xn xc : List Int32) (vs : Int32) (hR : iR xm xw xn xc) (p x : Nat) (hp : p < mi) (hx : x < 2) : mm_E 188 0 [some (.ref 138), some (.int (nI p)), some (.int (nI x)), none, none, none, none] [] (mk_M c n m kk (rT (he, ke, ki, fi, fa, or, mi, a, g, l, w, s) xm xi xw im le nu rf ln nn vp xn xc vs)) (pM isI (he, ke, ki, fi, fa, or, mi, a, g, l, w, s) xi im le nu rf ln nn c n m kk) := by
  obtain ⟨hV, hst⟩ := id hA
  have hst2 : s ≤ 999 := hst
  obtain ⟨v1, v2, v3, v4, v5, v6, v7, v8, v9, v10, v11, v12, v13, v14, v15, v16⟩ := id hV
  have v6l := kO_len mi v7 or v6
  obtain ⟨c1, c2, c3⟩ := id hC
  obtain ⟨r1, r2, r3, r4⟩ := id hR
  refine me_seg 2 (pc1 := 2) (ls1 := [some (.ref 138), some (.int (nI p)), some (.int (nI x)), none, none, none, none]) (st1 := [.int (nI p), .ref 138]) (M1 := (mk_M c n m kk (rT (he, ke, ki, fi, fa, or, mi, a, g, l, w, s) xm xi xw im le nu rf ln nn vp xn xc vs))) (fun f => rfl) ?_
  refine me_call (y := 142) (y0 := 5) (L := [some (.ref 138), some (.int (nI p))]) (rest := []) (rr := some (.int 1)) (M1 := (mk_M c n m kk (rT (he, ke, ki, fi, fa, or, mi, a, g, l, w, s) xm xi xw im le nu rf ln nn vp xn xc vs))) (fun f => rfl) (ms_m2_ok (x := (nI p)) (b := (nI (mi - 1))) (pk_sub (a := mi) (b := 1) (by omega)) (nI_ltf (a := p) (b := 0) (by omega)) (nI_ltf (a := mi - 1) (b := p) (by omega))) ?_
  refine me_seg 4 (pc1 := 17) (ls1 := [some (.ref 138), some (.int (nI p)), some (.int (nI x)), none, none, none, none]) (st1 := [.int 1, .int 0, .int (nI x)]) (M1 := (mk_M c n m kk (rT (he, ke, ki, fi, fa, or, mi, a, g, l, w, s) xm xi xw im le nu rf ln nn vp xn xc vs))) (fun f => rfl) ?_
  refine me_call (y := 135) (y0 := 20) (L := [some (.int (nI x)), some (.int 0), some (.int 1)]) (rest := []) (rr := some (.int 1)) (M1 := (mk_M c n m kk (rT (he, ke, ki, fi, fa, or, mi, a, g, l, w, s) xm xi xw im le nu rf ln nn vp xn xc vs))) (fun f => rfl) (ms_in_ok (x := (nI x)) (a := 0) (b := 1) (nI_ltf (a := x) (b := 0) (by omega)) (nI_ltf (a := 1) (b := x) (by omega))) ?_
  refine me_seg 7 (pc1 := 40) (ls1 := [some (.ref 138), some (.int (nI p)), some (.int (nI x)), some (.int (-9)), some (.int 61), some (.int 0), none]) (st1 := []) (M1 := (mk_M c n m kk (rT (he, ke, ki, fi, fa, or, mi, a, g, l, w, s) xm xi xw im le nu rf ln nn vp xn xc vs))) (fun f => rfl) ?_
  exact wm_bestKindL he ke ki fi fa or mi a g l w s xi im le nu rf ln nn c n m kk hA hC p x hp hx 6 0 (-9) 61 none xm xw vp xn xc vs (by omega) ⟨(by assumption), (by assumption), (by assumption), (by assumption)⟩
set_option maxRecDepth 100000 in
theorem wm_mostWeightL (he ke ki fi fa or : List Nat) (mi a g l w s : Nat) (xi : List Int32) (im : Nat) (le nu rf : List Nat) (ln nn : Nat) (c : cC) (n m kk : kG) (hA : iA (he, ke, ki, fi, fa, or, mi, a, g, l, w, s)) (hC : iC nu nn) (k : Nat) : ∀ (xm xw : List Int32) (vp : Int32) (xn xc : List Int32) (vs : Int32), iR xm xw xn xc → k ≤ 21 → mm_E 186 3 [some (.ref 138), some (.int (nI k - 1))] [] (mk_M c n m kk (rT (he, ke, ki, fi, fa, or, mi, a, g, l, w, s) xm xi xw im le nu rf ln nn vp xn xc vs)) (pM isI (he, ke, ki, fi, fa, or, mi, a, g, l, w, s) xi im le nu rf ln nn c n m kk) := by
  obtain ⟨hV, hst⟩ := id hA
  have hst2 : s ≤ 999 := hst
  obtain ⟨v1, v2, v3, v4, v5, v6, v7, v8, v9, v10, v11, v12, v13, v14, v15, v16⟩ := id hV
  have v6l := kO_len mi v7 or v6
  obtain ⟨c1, c2, c3⟩ := id hC
  induction k with
  | zero =>
    intro xm xw vp xn xc vs hR hk
    obtain ⟨r1, r2, r3, r4⟩ := id hR
    refine me_l (fun q_ => [some (.ref 138), some (.int q_)]) (show nI 0 - 1 = (-1 : Int32) by decide) ?_
    refine me_ret 4 (r := some (.int (-9))) (M1 := (mk_M c n m kk (rT (he, ke, ki, fi, fa, or, mi, a, g, l, w, s) xm xi xw im le nu rf ln nn vp xn xc vs))) (fun f => rfl) ?_
    exact ⟨⟨_, rfl⟩, _, _, _, _, _, _, rfl, ⟨(by assumption), (by assumption), (by assumption), (by assumption)⟩⟩
  | succ k IH =>
    intro xm xw vp xn xc vs hR hk
    obtain ⟨r1, r2, r3, r4⟩ := id hR
    refine me_l (fun q_ => [some (.ref 138), some (.int q_)]) (show nI (k + 1) - 1 = nI k from pk_sub (a := k + 1) (b := 1) (by omega)) ?_
    refine me_seg 1 (pc1 := 4) (ls1 := [some (.ref 138), some (.int (nI k))]) (st1 := [.int (nI k)]) (M1 := (mk_M c n m kk (rT (he, ke, ki, fi, fa, or, mi, a, g, l, w, s) xm xi xw im le nu rf ln nn vp xn xc vs))) (fun f => rfl) ?_
    refine me_f (C := (nI k) < 0) (nI_pos (by omega)) (fun f => rfl) ?_
    refine me_seg 4 (pc1 := 15) (ls1 := [some (.ref 138), some (.int (nI k))]) (st1 := [.ref 140, .ref 139]) (M1 := (mk_M c n m kk (rT (he, ke, ki, fi, fa, or, mi, a, g, l, w, s) xm xi xw im le nu rf ln nn vp xn xc vs))) (fun f => rfl) ?_
    refine me_call (y := 138) (y0 := 18) (L := [some (.ref 139), some (.ref 140), none]) (rest := []) (rr := none) (M1 := (mk_M c n m kk (rT (he, ke, ki, fi, fa, or, mi, a, g, l, w, s) (er (he, ke, ki, fi, fa, or, mi, a, g, l, w, s)) xi xw im le nu rf ln nn vp xn xc vs))) (fun f => rfl) (rc_copies (a := 140) (b := 139) (by decide) rfl rfl (er_len hV) (by assumption)) ?_
    refine me_seg 4 (pc1 := 24) (ls1 := [some (.ref 138), some (.int (nI k))]) (st1 := [.int (nI k), .int 5, .ref 140]) (M1 := (mk_M c n m kk (rT (he, ke, ki, fi, fa, or, mi, a, g, l, w, s) (er (he, ke, ki, fi, fa, or, mi, a, g, l, w, s)) xi xw im le nu rf ln nn vp xn xc vs))) (fun f => rfl) ?_
    refine me_stn (xs := (er (he, ke, ki, fi, fa, or, mi, a, g, l, w, s))) (ys := (er (he, ke, ki, fi, fa, or, mi, a, g, l, k, s))) (M2 := (mk_MR c n m kk (er (he, ke, ki, fi, fa, or, mi, a, g, l, w, s)) (er (he, ke, ki, fi, fa, or, mi, a, g, l, k, s)) xi xw (nI im) (le.map nI) (nu.map nI) (rf.map nI) (nI ln) (nI nn) vp xn xc vs)) rfl rfl (k := 5) (by decide) (by rw [er_leq (K := (he, ke, ki, fi, fa, or, mi, a, g, l, w, s)) v1 v6l]; decide) (er_s5 (v := k)) rfl ?_
    refine me_M (mk_MRk c n m kk (he, ke, ki, fi, fa, or, mi, a, g, l, w, s) (er (he, ke, ki, fi, fa, or, mi, a, g, l, k, s)) xi xw im le nu rf ln nn vp xn xc vs) ?_
    refine me_seg 1 (pc1 := 26) (ls1 := [some (.ref 138), some (.int (nI k))]) (st1 := [.ref 138]) (M1 := (mk_M c n m kk (rT (he, ke, ki, fi, fa, or, mi, a, g, l, w, s) (er (he, ke, ki, fi, fa, or, mi, a, g, l, k, s)) xi xw im le nu rf ln nn vp xn xc vs))) (fun f => rfl) ?_
    refine me_callE (y := 181) (y0 := 29) (L := [some (.ref 138)]) (rest := []) (fun f => rfl) (wm_there he ke ki fi fa or mi a g l w s xi im le nu rf ln nn c n m kk hA hC (he, ke, ki, fi, fa, or, mi, a, g, l, k, s) xw vp xn xc vs ⟨(er_len ⟨v1, v2, v3, v4, v5, v6, v7, v8, v9, v10, by omega, v12, v13, v14, v15, v16⟩), (by assumption), (by assumption), (by assumption)⟩ ⟨v1, v2, v3, v4, v5, v6, v7, v8, v9, v10, by omega, v12, v13, v14, v15, v16⟩ (show s + 100 < 2 ^ 20 by omega)) ?_
    rintro _ _ ⟨⟨w_1, rfl⟩, xm_1, xw_1, vp_1, xn_1, xc_1, vs_1, rfl, hR_1⟩
    obtain ⟨r1_1, r2_1, r3_1, r4_1⟩ := id hR_1
    refine me_seg 1 (pc1 := 31) (ls1 := [some (.ref 138), some (.int (nI k))]) (st1 := [.int 60, .int w_1]) (M1 := (mk_M c n m kk (rT (he, ke, ki, fi, fa, or, mi, a, g, l, w, s) xm_1 xi xw_1 im le nu rf ln nn vp_1 xn_1 xc_1 vs_1))) (fun f => rfl) ?_
    refine me_if (C := 60 < w_1) (fun f => rfl) (fun h2 => ?_) (fun h2 => ?_)
    · refine me_seg 2 (pc1 := 3) (ls1 := [some (.ref 138), some (.int ((nI k) + Int32.ofInt (-1)))]) (st1 := []) (M1 := (mk_M c n m kk (rT (he, ke, ki, fi, fa, or, mi, a, g, l, w, s) xm_1 xi xw_1 im le nu rf ln nn vp_1 xn_1 xc_1 vs_1))) (fun f => rfl) ?_
      refine me_l (fun q_ => [some (.ref 138), some (.int q_)]) (show ((nI k) + Int32.ofInt (-1)) = nI k - 1 from k_m1 _) ?_
      exact IH xm_1 xw_1 vp_1 xn_1 xc_1 vs_1 ⟨(by assumption), (by assumption), (by assumption), (by assumption)⟩ (by omega)
    · refine me_ret 2 (r := some (.int (nI k))) (M1 := (mk_M c n m kk (rT (he, ke, ki, fi, fa, or, mi, a, g, l, w, s) xm_1 xi xw_1 im le nu rf ln nn vp_1 xn_1 xc_1 vs_1))) (fun f => rfl) ?_
      exact ⟨⟨_, rfl⟩, _, _, _, _, _, _, rfl, ⟨(by assumption), (by assumption), (by assumption), (by assumption)⟩⟩
set_option maxRecDepth 100000 in
theorem wm_mostWeight (he ke ki fi fa or : List Nat) (mi a g l w s : Nat) (xi : List Int32) (im : Nat) (le nu rf : List Nat) (ln nn : Nat) (c : cC) (n m kk : kG) (hA : iA (he, ke, ki, fi, fa, or, mi, a, g, l, w, s)) (hC : iC nu nn) (xm xw : List Int32) (vp : Int32) (xn xc : List Int32) (vs : Int32) (hR : iR xm xw xn xc) : mm_E 186 0 [some (.ref 138), none] [] (mk_M c n m kk (rT (he, ke, ki, fi, fa, or, mi, a, g, l, w, s) xm xi xw im le nu rf ln nn vp xn xc vs)) (pM isI (he, ke, ki, fi, fa, or, mi, a, g, l, w, s) xi im le nu rf ln nn c n m kk) := by
  obtain ⟨hV, hst⟩ := id hA
  have hst2 : s ≤ 999 := hst
  obtain ⟨v1, v2, v3, v4, v5, v6, v7, v8, v9, v10, v11, v12, v13, v14, v15, v16⟩ := id hV
  have v6l := kO_len mi v7 or v6
  obtain ⟨c1, c2, c3⟩ := id hC
  obtain ⟨r1, r2, r3, r4⟩ := id hR
  refine me_seg 2 (pc1 := 3) (ls1 := [some (.ref 138), some (.int 20)]) (st1 := []) (M1 := (mk_M c n m kk (rT (he, ke, ki, fi, fa, or, mi, a, g, l, w, s) xm xi xw im le nu rf ln nn vp xn xc vs))) (fun f => rfl) ?_
  exact wm_mostWeightL he ke ki fi fa or mi a g l w s xi im le nu rf ln nn c n m kk hA hC 21 xm xw vp xn xc vs ⟨(by assumption), (by assumption), (by assumption), (by assumption)⟩ (by omega)
set_option maxRecDepth 100000 in
theorem wm_farL (he ke ki fi fa or : List Nat) (mi a g l w s : Nat) (xi : List Int32) (im : Nat) (le nu rf : List Nat) (ln nn : Nat) (c : cC) (n m kk : kG) (hA : iA (he, ke, ki, fi, fa, or, mi, a, g, l, w, s)) (hC : iC nu nn) (x : Nat) (hx : x < 4) (k : Nat) : ∀ (j : Nat) (b : Nat) (f : Int32) (xm xw : List Int32) (vp : Int32) (xn xc : List Int32) (vs : Int32), j + k = 25 → iR xm xw xn xc → b < 25 → mm_E 189 39 [some (.ref 138), some (.int (nI x)), some (.int (nI a)), some (.int (nI g)), some (.int (nI b)), some (.int f), some (.int (nI j))] [] (mk_M c n m kk (rT (he, ke, ki, fi, fa, or, mi, a, g, l, w, s) xm xi xw im le nu rf ln nn vp xn xc vs)) (pM isI (he, ke, ki, fi, fa, or, mi, a, g, l, w, s) xi im le nu rf ln nn c n m kk) := by
  obtain ⟨hV, hst⟩ := id hA
  have hst2 : s ≤ 999 := hst
  obtain ⟨v1, v2, v3, v4, v5, v6, v7, v8, v9, v10, v11, v12, v13, v14, v15, v16⟩ := id hV
  have v6l := kO_len mi v7 or v6
  obtain ⟨c1, c2, c3⟩ := id hC
  induction k with
  | zero =>
    intro j b f xm xw vp xn xc vs hj hR g0
    obtain ⟨r1, r2, r3, r4⟩ := id hR
    refine me_seg 2 (pc1 := 43) (ls1 := [some (.ref 138), some (.int (nI x)), some (.int (nI a)), some (.int (nI g)), some (.int (nI b)), some (.int f), some (.int (nI j))]) (st1 := [.int 25, .int (nI j)]) (M1 := (mk_M c n m kk (rT (he, ke, ki, fi, fa, or, mi, a, g, l, w, s) xm xi xw im le nu rf ln nn vp xn xc vs))) (fun f => rfl) ?_
    refine me_t (C := 25 ≤ (nI j)) (nI_let (a := 25) (b := j) (by omega)) (fun f => rfl) ?_
    refine me_seg 1 (pc1 := 130) (ls1 := [some (.ref 138), some (.int (nI x)), some (.int (nI a)), some (.int (nI g)), some (.int (nI b)), some (.int f), some (.int (nI j))]) (st1 := [.int (nI x)]) (M1 := (mk_M c n m kk (rT (he, ke, ki, fi, fa, or, mi, a, g, l, w, s) xm xi xw im le nu rf ln nn vp xn xc vs))) (fun f => rfl) ?_
    refine me_if (C := (nI x) = 0) (fun f => rfl) (fun h1 => ?_) (fun h1 => ?_)
    · refine me_seg 3 (pc1 := 136) (ls1 := [some (.ref 138), some (.int (nI x)), some (.int (nI a)), some (.int (nI g)), some (.int (nI b)), some (.int f), some (.int (nI j))]) (st1 := [.int ((nI a) / (5 : Int32))]) (M1 := (mk_M c n m kk (rT (he, ke, ki, fi, fa, or, mi, a, g, l, w, s) xm xi xw im le nu rf ln nn vp xn xc vs))) (fun f => rfl) ?_
      refine me_v (pk_div (a := a) (d := 5) (by omega) (by decide) (by decide)) ?_
      refine me_seg 3 (pc1 := 139) (ls1 := [some (.ref 138), some (.int (nI x)), some (.int (nI a)), some (.int (nI g)), some (.int (nI b)), some (.int f), some (.int (nI j))]) (st1 := [.int ((nI g) / (5 : Int32)), .int (nI (a / 5))]) (M1 := (mk_M c n m kk (rT (he, ke, ki, fi, fa, or, mi, a, g, l, w, s) xm xi xw im le nu rf ln nn vp xn xc vs))) (fun f => rfl) ?_
      refine me_v (pk_div (a := g) (d := 5) (by omega) (by decide) (by decide)) ?_
      refine me_callE (y := 191) (y0 := 142) (L := [some (.int (nI (a / 5))), some (.int (nI (g / 5)))]) (rest := []) (fun f => rfl) (wm_apart (nI (a / 5)) (nI (g / 5)) _) ?_
      rintro _ _ ⟨⟨w_2, rfl⟩, rfl⟩
      refine me_seg 3 (pc1 := 145) (ls1 := [some (.ref 138), some (.int (nI x)), some (.int (nI a)), some (.int (nI g)), some (.int (nI b)), some (.int f), some (.int (nI j))]) (st1 := [.int ((nI a) - (nI a) / (5 : Int32) * (5 : Int32)), .int w_2]) (M1 := (mk_M c n m kk (rT (he, ke, ki, fi, fa, or, mi, a, g, l, w, s) xm xi xw im le nu rf ln nn vp xn xc vs))) (fun f => rfl) ?_
      refine me_v (pk_rem (a := a) (d := 5) (by omega) (by decide) (by decide)) ?_
      refine me_seg 3 (pc1 := 148) (ls1 := [some (.ref 138), some (.int (nI x)), some (.int (nI a)), some (.int (nI g)), some (.int (nI b)), some (.int f), some (.int (nI j))]) (st1 := [.int ((nI g) - (nI g) / (5 : Int32) * (5 : Int32)), .int (nI (a % 5)), .int w_2]) (M1 := (mk_M c n m kk (rT (he, ke, ki, fi, fa, or, mi, a, g, l, w, s) xm xi xw im le nu rf ln nn vp xn xc vs))) (fun f => rfl) ?_
      refine me_v (pk_rem (a := g) (d := 5) (by omega) (by decide) (by decide)) ?_
      refine me_callE (y := 191) (y0 := 151) (L := [some (.int (nI (a % 5))), some (.int (nI (g % 5)))]) (rest := [.int w_2]) (fun f => rfl) (wm_apart (nI (a % 5)) (nI (g % 5)) _) ?_
      rintro _ _ ⟨⟨w_3, rfl⟩, rfl⟩
      refine me_ret 3 (r := some (.int (w_2 + w_3))) (M1 := (mk_M c n m kk (rT (he, ke, ki, fi, fa, or, mi, a, g, l, w, s) xm xi xw im le nu rf ln nn vp xn xc vs))) (fun f => rfl) ?_
      exact ⟨⟨_, rfl⟩, _, _, _, _, _, _, rfl, ⟨(by assumption), (by assumption), (by assumption), (by assumption)⟩⟩
    · refine me_seg 2 (pc1 := 157) (ls1 := [some (.ref 138), some (.int (nI x)), some (.int (nI a)), some (.int (nI g)), some (.int (nI b)), some (.int f), some (.int (nI j))]) (st1 := [.int 1, .int (nI x)]) (M1 := (mk_M c n m kk (rT (he, ke, ki, fi, fa, or, mi, a, g, l, w, s) xm xi xw im le nu rf ln nn vp xn xc vs))) (fun f => rfl) ?_
      refine me_if (C := (nI x) = 1) (fun f => rfl) (fun h4 => ?_) (fun h4 => ?_)
      · refine me_ret 3 (r := some (.int (nI b))) (M1 := (mk_M c n m kk (rT (he, ke, ki, fi, fa, or, mi, a, g, l, w, s) xm xi xw im le nu rf ln nn vp xn xc vs))) (fun f => rfl) ?_
        exact ⟨⟨_, rfl⟩, _, _, _, _, _, _, rfl, ⟨(by assumption), (by assumption), (by assumption), (by assumption)⟩⟩
      · refine me_seg 2 (pc1 := 167) (ls1 := [some (.ref 138), some (.int (nI x)), some (.int (nI a)), some (.int (nI g)), some (.int (nI b)), some (.int f), some (.int (nI j))]) (st1 := [.int 2, .int (nI x)]) (M1 := (mk_M c n m kk (rT (he, ke, ki, fi, fa, or, mi, a, g, l, w, s) xm xi xw im le nu rf ln nn vp xn xc vs))) (fun f => rfl) ?_
        refine me_if (C := (nI x) = 2) (fun f => rfl) (fun h5 => ?_) (fun h5 => ?_)
        · refine me_seg 3 (pc1 := 176) (ls1 := [some (.ref 138), some (.int (nI x)), some (.int (nI a)), some (.int (nI g)), some (.int (nI b)), some (.int f), some (.int (nI j))]) (st1 := [.int 6, .ref 139]) (M1 := (mk_M c n m kk (rT (he, ke, ki, fi, fa, or, mi, a, g, l, w, s) xm xi xw im le nu rf ln nn vp xn xc vs))) (fun f => rfl) ?_
          refine me_ldn (xs := (er (he, ke, ki, fi, fa, or, mi, a, g, l, w, s))) rfl rfl (k := 6) (by decide) rfl ?_
          refine me_callE (y := 192) (y0 := 180) (L := [some (.int (nI (kbits ke))), none, none]) (rest := []) (fun f => rfl) (wm_bits (nI (kbits ke)) _) ?_
          rintro _ _ ⟨⟨w_6, rfl⟩, rfl⟩
          refine me_ret 2 (r := some (.int w_6)) (M1 := (mk_M c n m kk (rT (he, ke, ki, fi, fa, or, mi, a, g, l, w, s) xm xi xw im le nu rf ln nn vp xn xc vs))) (fun f => rfl) ?_
          exact ⟨⟨_, rfl⟩, _, _, _, _, _, _, rfl, ⟨(by assumption), (by assumption), (by assumption), (by assumption)⟩⟩
        · refine me_ret 2 (r := some (.int f)) (M1 := (mk_M c n m kk (rT (he, ke, ki, fi, fa, or, mi, a, g, l, w, s) xm xi xw im le nu rf ln nn vp xn xc vs))) (fun f => rfl) ?_
          exact ⟨⟨_, rfl⟩, _, _, _, _, _, _, rfl, ⟨(by assumption), (by assumption), (by assumption), (by assumption)⟩⟩
  | succ k IH =>
    intro j b f xm xw vp xn xc vs hj hR g0
    obtain ⟨r1, r2, r3, r4⟩ := id hR
    refine me_seg 2 (pc1 := 43) (ls1 := [some (.ref 138), some (.int (nI x)), some (.int (nI a)), some (.int (nI g)), some (.int (nI b)), some (.int f), some (.int (nI j))]) (st1 := [.int 25, .int (nI j)]) (M1 := (mk_M c n m kk (rT (he, ke, ki, fi, fa, or, mi, a, g, l, w, s) xm xi xw im le nu rf ln nn vp xn xc vs))) (fun f => rfl) ?_
    refine me_f (C := 25 ≤ (nI j)) (nI_lef (a := 25) (b := j) (by omega)) (fun f => rfl) ?_
    refine me_seg 5 (pc1 := 55) (ls1 := [some (.ref 138), some (.int (nI x)), some (.int (nI a)), some (.int (nI g)), some (.int (nI b)), some (.int f), some (.int (nI j))]) (st1 := [.int ((7 : Int32) + (nI j)), .ref 139]) (M1 := (mk_M c n m kk (rT (he, ke, ki, fi, fa, or, mi, a, g, l, w, s) xm xi xw im le nu rf ln nn vp xn xc vs))) (fun f => rfl) ?_
    refine me_v (nI_add 7 j) ?_
    refine me_ldn (xs := (er (he, ke, ki, fi, fa, or, mi, a, g, l, w, s))) rfl rfl (k := 7 + j) (by omega) (er_h (K := (he, ke, ki, fi, fa, or, mi, a, g, l, w, s)) v1 (by omega)) ?_
    refine me_seg 5 (pc1 := 65) (ls1 := [some (.ref 138), some (.int (nI x)), some (.int (nI a)), some (.int (nI g)), some (.int (nI b)), some (.int f), some (.int (nI j))]) (st1 := [.int ((7 : Int32) + (nI b)), .ref 139, .int (nI (kg he j))]) (M1 := (mk_M c n m kk (rT (he, ke, ki, fi, fa, or, mi, a, g, l, w, s) xm xi xw im le nu rf ln nn vp xn xc vs))) (fun f => rfl) ?_
    refine me_v (nI_add 7 b) ?_
    refine me_ldn (xs := (er (he, ke, ki, fi, fa, or, mi, a, g, l, w, s))) rfl rfl (k := 7 + b) (by omega) (er_h (K := (he, ke, ki, fi, fa, or, mi, a, g, l, w, s)) v1 (by omega)) ?_
    refine me_if (C := (nI (kg he j)) ≤ (nI (kg he b))) (fun f => rfl) (fun h1 => ?_) (fun h1 => ?_)
    · refine me_seg 3 (pc1 := 79) (ls1 := [some (.ref 138), some (.int (nI x)), some (.int (nI a)), some (.int (nI g)), some (.int (nI b)), some (.int f), some (.int (nI j))]) (st1 := [.int 6, .ref 139]) (M1 := (mk_M c n m kk (rT (he, ke, ki, fi, fa, or, mi, a, g, l, w, s) xm xi xw im le nu rf ln nn vp xn xc vs))) (fun f => rfl) ?_
      refine me_ldn (xs := (er (he, ke, ki, fi, fa, or, mi, a, g, l, w, s))) rfl rfl (k := 6) (by decide) rfl ?_
      refine me_seg 1 (pc1 := 82) (ls1 := [some (.ref 138), some (.int (nI x)), some (.int (nI a)), some (.int (nI g)), some (.int (nI b)), some (.int f), some (.int (nI j))]) (st1 := [.int (nI j), .int (nI (kbits ke))]) (M1 := (mk_M c n m kk (rT (he, ke, ki, fi, fa, or, mi, a, g, l, w, s) xm xi xw im le nu rf ln nn vp xn xc vs))) (fun f => rfl) ?_
      refine me_callE (y := 151) (y0 := 85) (L := [some (.int (nI (kbits ke))), some (.int (nI j))]) (rest := []) (fun f => rfl) (wm_has (nI (kbits ke)) (nI j) _) ?_
      rintro _ _ ⟨⟨b_2, hb_2, rfl⟩, rfl⟩
      refine me_if (C := (nI b_2) = 0) (fun f => rfl) (fun h3 => ?_) (fun h3 => ?_)
      · refine me_seg 1 (pc1 := 126) (ls1 := [some (.ref 138), some (.int (nI x)), some (.int (nI a)), some (.int (nI g)), some (.int (nI b)), some (.int f), some (.int ((nI j) + 1))]) (st1 := []) (M1 := (mk_M c n m kk (rT (he, ke, ki, fi, fa, or, mi, a, g, l, w, s) xm xi xw im le nu rf ln nn vp xn xc vs))) (fun f => rfl) ?_
        refine me_l (fun q_ => [some (.ref 138), some (.int (nI x)), some (.int (nI a)), some (.int (nI g)), some (.int (nI b)), some (.int f), some (.int q_)]) (nI_add j 1) ?_
        refine me_seg 1 (pc1 := 39) (ls1 := [some (.ref 138), some (.int (nI x)), some (.int (nI a)), some (.int (nI g)), some (.int (nI b)), some (.int f), some (.int (nI (j + 1)))]) (st1 := []) (M1 := (mk_M c n m kk (rT (he, ke, ki, fi, fa, or, mi, a, g, l, w, s) xm xi xw im le nu rf ln nn vp xn xc vs))) (fun f => rfl) ?_
        exact IH (j + 1) b f xm xw vp xn xc vs (by omega) ⟨(by assumption), (by assumption), (by assumption), (by assumption)⟩ (by omega)
      · refine me_seg 3 (pc1 := 92) (ls1 := [some (.ref 138), some (.int (nI x)), some (.int (nI a)), some (.int (nI g)), some (.int (nI b)), some (.int f), some (.int (nI j))]) (st1 := [.int ((nI j) / (5 : Int32))]) (M1 := (mk_M c n m kk (rT (he, ke, ki, fi, fa, or, mi, a, g, l, w, s) xm xi xw im le nu rf ln nn vp xn xc vs))) (fun f => rfl) ?_
        refine me_v (pk_div (a := j) (d := 5) (by omega) (by decide) (by decide)) ?_
        refine me_seg 3 (pc1 := 95) (ls1 := [some (.ref 138), some (.int (nI x)), some (.int (nI a)), some (.int (nI g)), some (.int (nI b)), some (.int f), some (.int (nI j))]) (st1 := [.int ((nI a) / (5 : Int32)), .int (nI (j / 5))]) (M1 := (mk_M c n m kk (rT (he, ke, ki, fi, fa, or, mi, a, g, l, w, s) xm xi xw im le nu rf ln nn vp xn xc vs))) (fun f => rfl) ?_
        refine me_v (pk_div (a := a) (d := 5) (by omega) (by decide) (by decide)) ?_
        refine me_seg 3 (pc1 := 98) (ls1 := [some (.ref 138), some (.int (nI x)), some (.int (nI a)), some (.int (nI g)), some (.int (nI b)), some (.int f), some (.int (nI j))]) (st1 := [.int ((nI g) / (5 : Int32)), .int (nI (a / 5)), .int (nI (j / 5))]) (M1 := (mk_M c n m kk (rT (he, ke, ki, fi, fa, or, mi, a, g, l, w, s) xm xi xw im le nu rf ln nn vp xn xc vs))) (fun f => rfl) ?_
        refine me_v (pk_div (a := g) (d := 5) (by omega) (by decide) (by decide)) ?_
        refine me_callE (y := 190) (y0 := 101) (L := [some (.int (nI (j / 5))), some (.int (nI (a / 5))), some (.int (nI (g / 5)))]) (rest := []) (fun f => rfl) (wm_isb (nI (j / 5)) (nI (a / 5)) (nI (g / 5)) _) ?_
        rintro _ _ ⟨⟨b_4, hb_4, rfl⟩, rfl⟩
        refine me_if (C := (nI b_4) = 0) (fun f => rfl) (fun h5 => ?_) (fun h5 => ?_)
        · refine me_seg 1 (pc1 := 126) (ls1 := [some (.ref 138), some (.int (nI x)), some (.int (nI a)), some (.int (nI g)), some (.int (nI b)), some (.int f), some (.int ((nI j) + 1))]) (st1 := []) (M1 := (mk_M c n m kk (rT (he, ke, ki, fi, fa, or, mi, a, g, l, w, s) xm xi xw im le nu rf ln nn vp xn xc vs))) (fun f => rfl) ?_
          refine me_l (fun q_ => [some (.ref 138), some (.int (nI x)), some (.int (nI a)), some (.int (nI g)), some (.int (nI b)), some (.int f), some (.int q_)]) (nI_add j 1) ?_
          refine me_seg 1 (pc1 := 39) (ls1 := [some (.ref 138), some (.int (nI x)), some (.int (nI a)), some (.int (nI g)), some (.int (nI b)), some (.int f), some (.int (nI (j + 1)))]) (st1 := []) (M1 := (mk_M c n m kk (rT (he, ke, ki, fi, fa, or, mi, a, g, l, w, s) xm xi xw im le nu rf ln nn vp xn xc vs))) (fun f => rfl) ?_
          exact IH (j + 1) b f xm xw vp xn xc vs (by omega) ⟨(by assumption), (by assumption), (by assumption), (by assumption)⟩ (by omega)
        · refine me_seg 3 (pc1 := 108) (ls1 := [some (.ref 138), some (.int (nI x)), some (.int (nI a)), some (.int (nI g)), some (.int (nI b)), some (.int f), some (.int (nI j))]) (st1 := [.int ((nI j) - (nI j) / (5 : Int32) * (5 : Int32))]) (M1 := (mk_M c n m kk (rT (he, ke, ki, fi, fa, or, mi, a, g, l, w, s) xm xi xw im le nu rf ln nn vp xn xc vs))) (fun f => rfl) ?_
          refine me_v (pk_rem (a := j) (d := 5) (by omega) (by decide) (by decide)) ?_
          refine me_seg 3 (pc1 := 111) (ls1 := [some (.ref 138), some (.int (nI x)), some (.int (nI a)), some (.int (nI g)), some (.int (nI b)), some (.int f), some (.int (nI j))]) (st1 := [.int ((nI a) - (nI a) / (5 : Int32) * (5 : Int32)), .int (nI (j % 5))]) (M1 := (mk_M c n m kk (rT (he, ke, ki, fi, fa, or, mi, a, g, l, w, s) xm xi xw im le nu rf ln nn vp xn xc vs))) (fun f => rfl) ?_
          refine me_v (pk_rem (a := a) (d := 5) (by omega) (by decide) (by decide)) ?_
          refine me_seg 3 (pc1 := 114) (ls1 := [some (.ref 138), some (.int (nI x)), some (.int (nI a)), some (.int (nI g)), some (.int (nI b)), some (.int f), some (.int (nI j))]) (st1 := [.int ((nI g) - (nI g) / (5 : Int32) * (5 : Int32)), .int (nI (a % 5)), .int (nI (j % 5))]) (M1 := (mk_M c n m kk (rT (he, ke, ki, fi, fa, or, mi, a, g, l, w, s) xm xi xw im le nu rf ln nn vp xn xc vs))) (fun f => rfl) ?_
          refine me_v (pk_rem (a := g) (d := 5) (by omega) (by decide) (by decide)) ?_
          refine me_callE (y := 190) (y0 := 117) (L := [some (.int (nI (j % 5))), some (.int (nI (a % 5))), some (.int (nI (g % 5)))]) (rest := []) (fun f => rfl) (wm_isb (nI (j % 5)) (nI (a % 5)) (nI (g % 5)) _) ?_
          rintro _ _ ⟨⟨b_6, hb_6, rfl⟩, rfl⟩
          refine me_if (C := (nI b_6) = 0) (fun f => rfl) (fun h7 => ?_) (fun h7 => ?_)
          · refine me_seg 1 (pc1 := 126) (ls1 := [some (.ref 138), some (.int (nI x)), some (.int (nI a)), some (.int (nI g)), some (.int (nI b)), some (.int f), some (.int ((nI j) + 1))]) (st1 := []) (M1 := (mk_M c n m kk (rT (he, ke, ki, fi, fa, or, mi, a, g, l, w, s) xm xi xw im le nu rf ln nn vp xn xc vs))) (fun f => rfl) ?_
            refine me_l (fun q_ => [some (.ref 138), some (.int (nI x)), some (.int (nI a)), some (.int (nI g)), some (.int (nI b)), some (.int f), some (.int q_)]) (nI_add j 1) ?_
            refine me_seg 1 (pc1 := 39) (ls1 := [some (.ref 138), some (.int (nI x)), some (.int (nI a)), some (.int (nI g)), some (.int (nI b)), some (.int f), some (.int (nI (j + 1)))]) (st1 := []) (M1 := (mk_M c n m kk (rT (he, ke, ki, fi, fa, or, mi, a, g, l, w, s) xm xi xw im le nu rf ln nn vp xn xc vs))) (fun f => rfl) ?_
            exact IH (j + 1) b f xm xw vp xn xc vs (by omega) ⟨(by assumption), (by assumption), (by assumption), (by assumption)⟩ (by omega)
          · refine me_seg 2 (pc1 := 126) (ls1 := [some (.ref 138), some (.int (nI x)), some (.int (nI a)), some (.int (nI g)), some (.int (nI b)), some (.int (f + 1)), some (.int ((nI j) + 1))]) (st1 := []) (M1 := (mk_M c n m kk (rT (he, ke, ki, fi, fa, or, mi, a, g, l, w, s) xm xi xw im le nu rf ln nn vp xn xc vs))) (fun f => rfl) ?_
            refine me_l (fun q_ => [some (.ref 138), some (.int (nI x)), some (.int (nI a)), some (.int (nI g)), some (.int (nI b)), some (.int (f + 1)), some (.int q_)]) (nI_add j 1) ?_
            refine me_seg 1 (pc1 := 39) (ls1 := [some (.ref 138), some (.int (nI x)), some (.int (nI a)), some (.int (nI g)), some (.int (nI b)), some (.int (f + 1)), some (.int (nI (j + 1)))]) (st1 := []) (M1 := (mk_M c n m kk (rT (he, ke, ki, fi, fa, or, mi, a, g, l, w, s) xm xi xw im le nu rf ln nn vp xn xc vs))) (fun f => rfl) ?_
            exact IH (j + 1) b (f + 1) xm xw vp xn xc vs (by omega) ⟨(by assumption), (by assumption), (by assumption), (by assumption)⟩ (by omega)
    · refine me_seg 5 (pc1 := 79) (ls1 := [some (.ref 138), some (.int (nI x)), some (.int (nI a)), some (.int (nI g)), some (.int (nI j)), some (.int f), some (.int (nI j))]) (st1 := [.int 6, .ref 139]) (M1 := (mk_M c n m kk (rT (he, ke, ki, fi, fa, or, mi, a, g, l, w, s) xm xi xw im le nu rf ln nn vp xn xc vs))) (fun f => rfl) ?_
      refine me_ldn (xs := (er (he, ke, ki, fi, fa, or, mi, a, g, l, w, s))) rfl rfl (k := 6) (by decide) rfl ?_
      refine me_seg 1 (pc1 := 82) (ls1 := [some (.ref 138), some (.int (nI x)), some (.int (nI a)), some (.int (nI g)), some (.int (nI j)), some (.int f), some (.int (nI j))]) (st1 := [.int (nI j), .int (nI (kbits ke))]) (M1 := (mk_M c n m kk (rT (he, ke, ki, fi, fa, or, mi, a, g, l, w, s) xm xi xw im le nu rf ln nn vp xn xc vs))) (fun f => rfl) ?_
      refine me_callE (y := 151) (y0 := 85) (L := [some (.int (nI (kbits ke))), some (.int (nI j))]) (rest := []) (fun f => rfl) (wm_has (nI (kbits ke)) (nI j) _) ?_
      rintro _ _ ⟨⟨b_8, hb_8, rfl⟩, rfl⟩
      refine me_if (C := (nI b_8) = 0) (fun f => rfl) (fun h9 => ?_) (fun h9 => ?_)
      · refine me_seg 1 (pc1 := 126) (ls1 := [some (.ref 138), some (.int (nI x)), some (.int (nI a)), some (.int (nI g)), some (.int (nI j)), some (.int f), some (.int ((nI j) + 1))]) (st1 := []) (M1 := (mk_M c n m kk (rT (he, ke, ki, fi, fa, or, mi, a, g, l, w, s) xm xi xw im le nu rf ln nn vp xn xc vs))) (fun f => rfl) ?_
        refine me_l (fun q_ => [some (.ref 138), some (.int (nI x)), some (.int (nI a)), some (.int (nI g)), some (.int (nI j)), some (.int f), some (.int q_)]) (nI_add j 1) ?_
        refine me_seg 1 (pc1 := 39) (ls1 := [some (.ref 138), some (.int (nI x)), some (.int (nI a)), some (.int (nI g)), some (.int (nI j)), some (.int f), some (.int (nI (j + 1)))]) (st1 := []) (M1 := (mk_M c n m kk (rT (he, ke, ki, fi, fa, or, mi, a, g, l, w, s) xm xi xw im le nu rf ln nn vp xn xc vs))) (fun f => rfl) ?_
        exact IH (j + 1) j f xm xw vp xn xc vs (by omega) ⟨(by assumption), (by assumption), (by assumption), (by assumption)⟩ (by omega)
      · refine me_seg 3 (pc1 := 92) (ls1 := [some (.ref 138), some (.int (nI x)), some (.int (nI a)), some (.int (nI g)), some (.int (nI j)), some (.int f), some (.int (nI j))]) (st1 := [.int ((nI j) / (5 : Int32))]) (M1 := (mk_M c n m kk (rT (he, ke, ki, fi, fa, or, mi, a, g, l, w, s) xm xi xw im le nu rf ln nn vp xn xc vs))) (fun f => rfl) ?_
        refine me_v (pk_div (a := j) (d := 5) (by omega) (by decide) (by decide)) ?_
        refine me_seg 3 (pc1 := 95) (ls1 := [some (.ref 138), some (.int (nI x)), some (.int (nI a)), some (.int (nI g)), some (.int (nI j)), some (.int f), some (.int (nI j))]) (st1 := [.int ((nI a) / (5 : Int32)), .int (nI (j / 5))]) (M1 := (mk_M c n m kk (rT (he, ke, ki, fi, fa, or, mi, a, g, l, w, s) xm xi xw im le nu rf ln nn vp xn xc vs))) (fun f => rfl) ?_
        refine me_v (pk_div (a := a) (d := 5) (by omega) (by decide) (by decide)) ?_
        refine me_seg 3 (pc1 := 98) (ls1 := [some (.ref 138), some (.int (nI x)), some (.int (nI a)), some (.int (nI g)), some (.int (nI j)), some (.int f), some (.int (nI j))]) (st1 := [.int ((nI g) / (5 : Int32)), .int (nI (a / 5)), .int (nI (j / 5))]) (M1 := (mk_M c n m kk (rT (he, ke, ki, fi, fa, or, mi, a, g, l, w, s) xm xi xw im le nu rf ln nn vp xn xc vs))) (fun f => rfl) ?_
        refine me_v (pk_div (a := g) (d := 5) (by omega) (by decide) (by decide)) ?_
        refine me_callE (y := 190) (y0 := 101) (L := [some (.int (nI (j / 5))), some (.int (nI (a / 5))), some (.int (nI (g / 5)))]) (rest := []) (fun f => rfl) (wm_isb (nI (j / 5)) (nI (a / 5)) (nI (g / 5)) _) ?_
        rintro _ _ ⟨⟨b_10, hb_10, rfl⟩, rfl⟩
        refine me_if (C := (nI b_10) = 0) (fun f => rfl) (fun h11 => ?_) (fun h11 => ?_)
        · refine me_seg 1 (pc1 := 126) (ls1 := [some (.ref 138), some (.int (nI x)), some (.int (nI a)), some (.int (nI g)), some (.int (nI j)), some (.int f), some (.int ((nI j) + 1))]) (st1 := []) (M1 := (mk_M c n m kk (rT (he, ke, ki, fi, fa, or, mi, a, g, l, w, s) xm xi xw im le nu rf ln nn vp xn xc vs))) (fun f => rfl) ?_
          refine me_l (fun q_ => [some (.ref 138), some (.int (nI x)), some (.int (nI a)), some (.int (nI g)), some (.int (nI j)), some (.int f), some (.int q_)]) (nI_add j 1) ?_
          refine me_seg 1 (pc1 := 39) (ls1 := [some (.ref 138), some (.int (nI x)), some (.int (nI a)), some (.int (nI g)), some (.int (nI j)), some (.int f), some (.int (nI (j + 1)))]) (st1 := []) (M1 := (mk_M c n m kk (rT (he, ke, ki, fi, fa, or, mi, a, g, l, w, s) xm xi xw im le nu rf ln nn vp xn xc vs))) (fun f => rfl) ?_
          exact IH (j + 1) j f xm xw vp xn xc vs (by omega) ⟨(by assumption), (by assumption), (by assumption), (by assumption)⟩ (by omega)
        · refine me_seg 3 (pc1 := 108) (ls1 := [some (.ref 138), some (.int (nI x)), some (.int (nI a)), some (.int (nI g)), some (.int (nI j)), some (.int f), some (.int (nI j))]) (st1 := [.int ((nI j) - (nI j) / (5 : Int32) * (5 : Int32))]) (M1 := (mk_M c n m kk (rT (he, ke, ki, fi, fa, or, mi, a, g, l, w, s) xm xi xw im le nu rf ln nn vp xn xc vs))) (fun f => rfl) ?_
          refine me_v (pk_rem (a := j) (d := 5) (by omega) (by decide) (by decide)) ?_
          refine me_seg 3 (pc1 := 111) (ls1 := [some (.ref 138), some (.int (nI x)), some (.int (nI a)), some (.int (nI g)), some (.int (nI j)), some (.int f), some (.int (nI j))]) (st1 := [.int ((nI a) - (nI a) / (5 : Int32) * (5 : Int32)), .int (nI (j % 5))]) (M1 := (mk_M c n m kk (rT (he, ke, ki, fi, fa, or, mi, a, g, l, w, s) xm xi xw im le nu rf ln nn vp xn xc vs))) (fun f => rfl) ?_
          refine me_v (pk_rem (a := a) (d := 5) (by omega) (by decide) (by decide)) ?_
          refine me_seg 3 (pc1 := 114) (ls1 := [some (.ref 138), some (.int (nI x)), some (.int (nI a)), some (.int (nI g)), some (.int (nI j)), some (.int f), some (.int (nI j))]) (st1 := [.int ((nI g) - (nI g) / (5 : Int32) * (5 : Int32)), .int (nI (a % 5)), .int (nI (j % 5))]) (M1 := (mk_M c n m kk (rT (he, ke, ki, fi, fa, or, mi, a, g, l, w, s) xm xi xw im le nu rf ln nn vp xn xc vs))) (fun f => rfl) ?_
          refine me_v (pk_rem (a := g) (d := 5) (by omega) (by decide) (by decide)) ?_
          refine me_callE (y := 190) (y0 := 117) (L := [some (.int (nI (j % 5))), some (.int (nI (a % 5))), some (.int (nI (g % 5)))]) (rest := []) (fun f => rfl) (wm_isb (nI (j % 5)) (nI (a % 5)) (nI (g % 5)) _) ?_
          rintro _ _ ⟨⟨b_12, hb_12, rfl⟩, rfl⟩
          refine me_if (C := (nI b_12) = 0) (fun f => rfl) (fun h13 => ?_) (fun h13 => ?_)
          · refine me_seg 1 (pc1 := 126) (ls1 := [some (.ref 138), some (.int (nI x)), some (.int (nI a)), some (.int (nI g)), some (.int (nI j)), some (.int f), some (.int ((nI j) + 1))]) (st1 := []) (M1 := (mk_M c n m kk (rT (he, ke, ki, fi, fa, or, mi, a, g, l, w, s) xm xi xw im le nu rf ln nn vp xn xc vs))) (fun f => rfl) ?_
            refine me_l (fun q_ => [some (.ref 138), some (.int (nI x)), some (.int (nI a)), some (.int (nI g)), some (.int (nI j)), some (.int f), some (.int q_)]) (nI_add j 1) ?_
            refine me_seg 1 (pc1 := 39) (ls1 := [some (.ref 138), some (.int (nI x)), some (.int (nI a)), some (.int (nI g)), some (.int (nI j)), some (.int f), some (.int (nI (j + 1)))]) (st1 := []) (M1 := (mk_M c n m kk (rT (he, ke, ki, fi, fa, or, mi, a, g, l, w, s) xm xi xw im le nu rf ln nn vp xn xc vs))) (fun f => rfl) ?_
            exact IH (j + 1) j f xm xw vp xn xc vs (by omega) ⟨(by assumption), (by assumption), (by assumption), (by assumption)⟩ (by omega)
          · refine me_seg 2 (pc1 := 126) (ls1 := [some (.ref 138), some (.int (nI x)), some (.int (nI a)), some (.int (nI g)), some (.int (nI j)), some (.int (f + 1)), some (.int ((nI j) + 1))]) (st1 := []) (M1 := (mk_M c n m kk (rT (he, ke, ki, fi, fa, or, mi, a, g, l, w, s) xm xi xw im le nu rf ln nn vp xn xc vs))) (fun f => rfl) ?_
            refine me_l (fun q_ => [some (.ref 138), some (.int (nI x)), some (.int (nI a)), some (.int (nI g)), some (.int (nI j)), some (.int (f + 1)), some (.int q_)]) (nI_add j 1) ?_
            refine me_seg 1 (pc1 := 39) (ls1 := [some (.ref 138), some (.int (nI x)), some (.int (nI a)), some (.int (nI g)), some (.int (nI j)), some (.int (f + 1)), some (.int (nI (j + 1)))]) (st1 := []) (M1 := (mk_M c n m kk (rT (he, ke, ki, fi, fa, or, mi, a, g, l, w, s) xm xi xw im le nu rf ln nn vp xn xc vs))) (fun f => rfl) ?_
            exact IH (j + 1) j (f + 1) xm xw vp xn xc vs (by omega) ⟨(by assumption), (by assumption), (by assumption), (by assumption)⟩ (by omega)
set_option maxRecDepth 100000 in
theorem wm_far (he ke ki fi fa or : List Nat) (mi a g l w s : Nat) (xi : List Int32) (im : Nat) (le nu rf : List Nat) (ln nn : Nat) (c : cC) (n m kk : kG) (hA : iA (he, ke, ki, fi, fa, or, mi, a, g, l, w, s)) (hC : iC nu nn) (xm xw : List Int32) (vp : Int32) (xn xc : List Int32) (vs : Int32) (hR : iR xm xw xn xc) (x : Nat) (hx : x < 4) : mm_E 189 0 [some (.ref 138), some (.int (nI x)), none, none, none, none, none] [] (mk_M c n m kk (rT (he, ke, ki, fi, fa, or, mi, a, g, l, w, s) xm xi xw im le nu rf ln nn vp xn xc vs)) (pM isI (he, ke, ki, fi, fa, or, mi, a, g, l, w, s) xi im le nu rf ln nn c n m kk) := by
  obtain ⟨hV, hst⟩ := id hA
  have hst2 : s ≤ 999 := hst
  obtain ⟨v1, v2, v3, v4, v5, v6, v7, v8, v9, v10, v11, v12, v13, v14, v15, v16⟩ := id hV
  have v6l := kO_len mi v7 or v6
  obtain ⟨c1, c2, c3⟩ := id hC
  obtain ⟨r1, r2, r3, r4⟩ := id hR
  refine me_seg 3 (pc1 := 3) (ls1 := [some (.ref 138), some (.int (nI x)), none, none, none, none, none]) (st1 := [.int 3, .int 0, .int (nI x)]) (M1 := (mk_M c n m kk (rT (he, ke, ki, fi, fa, or, mi, a, g, l, w, s) xm xi xw im le nu rf ln nn vp xn xc vs))) (fun f => rfl) ?_
  refine me_call (y := 135) (y0 := 6) (L := [some (.int (nI x)), some (.int 0), some (.int 3)]) (rest := []) (rr := some (.int 1)) (M1 := (mk_M c n m kk (rT (he, ke, ki, fi, fa, or, mi, a, g, l, w, s) xm xi xw im le nu rf ln nn vp xn xc vs))) (fun f => rfl) (ms_in_ok (x := (nI x)) (a := 0) (b := 3) (nI_ltf (a := x) (b := 0) (by omega)) (nI_ltf (a := 3) (b := x) (by omega))) ?_
  refine me_seg 4 (pc1 := 21) (ls1 := [some (.ref 138), some (.int (nI x)), none, none, none, none, none]) (st1 := [.int 2, .ref 139]) (M1 := (mk_M c n m kk (rT (he, ke, ki, fi, fa, or, mi, a, g, l, w, s) xm xi xw im le nu rf ln nn vp xn xc vs))) (fun f => rfl) ?_
  refine me_ldn (xs := (er (he, ke, ki, fi, fa, or, mi, a, g, l, w, s))) rfl rfl (k := 2) (by decide) rfl ?_
  refine me_seg 4 (pc1 := 28) (ls1 := [some (.ref 138), some (.int (nI x)), some (.int (nI a)), none, none, none, none]) (st1 := [.int 3, .ref 139]) (M1 := (mk_M c n m kk (rT (he, ke, ki, fi, fa, or, mi, a, g, l, w, s) xm xi xw im le nu rf ln nn vp xn xc vs))) (fun f => rfl) ?_
  refine me_ldn (xs := (er (he, ke, ki, fi, fa, or, mi, a, g, l, w, s))) rfl rfl (k := 3) (by decide) rfl ?_
  refine me_seg 7 (pc1 := 39) (ls1 := [some (.ref 138), some (.int (nI x)), some (.int (nI a)), some (.int (nI g)), some (.int 0), some (.int 0), some (.int 0)]) (st1 := []) (M1 := (mk_M c n m kk (rT (he, ke, ki, fi, fa, or, mi, a, g, l, w, s) xm xi xw im le nu rf ln nn vp xn xc vs))) (fun f => rfl) ?_
  exact wm_farL he ke ki fi fa or mi a g l w s xi im le nu rf ln nn c n m kk hA hC x hx 25 0 0 0 xm xw vp xn xc vs (by omega) ⟨(by assumption), (by assumption), (by assumption), (by assumption)⟩ (by omega)
set_option maxRecDepth 100000 in
theorem wm_ecL (he ke ki fi fa or : List Nat) (mi a g l w s : Nat) (xi : List Int32) (im : Nat) (le nu rf : List Nat) (ln nn : Nat) (c : cC) (n m kk : kG) (hA : iA (he, ke, ki, fi, fa, or, mi, a, g, l, w, s)) (hC : iC nu nn) (k : Nat) : ∀ (j : Nat) (v : Int32) (lo3 : Option Value) (xm xw : List Int32) (vp : Int32) (xn xc : List Int32) (vs : Int32), j + k = 4 → iR xm xw xn xc → mm_E 194 4 [some (.ref 138), some (.int v), some (.int (nI j)), lo3] [] (mk_M c n m kk (rT (he, ke, ki, fi, fa, or, mi, a, g, l, w, s) xm xi xw im le nu rf ln nn vp xn xc vs)) (pM isI (he, ke, ki, fi, fa, or, mi, a, g, l, w, s) xi im le nu rf ln nn c n m kk) := by
  obtain ⟨hV, hst⟩ := id hA
  have hst2 : s ≤ 999 := hst
  obtain ⟨v1, v2, v3, v4, v5, v6, v7, v8, v9, v10, v11, v12, v13, v14, v15, v16⟩ := id hV
  have v6l := kO_len mi v7 or v6
  obtain ⟨c1, c2, c3⟩ := id hC
  induction k with
  | zero =>
    intro j v lo3 xm xw vp xn xc vs hj hR
    obtain ⟨r1, r2, r3, r4⟩ := id hR
    have v60 := kO_lt5 mi v7 or v6 0 (by omega)
    refine me_seg 2 (pc1 := 6) (ls1 := [some (.ref 138), some (.int v), some (.int (nI j)), lo3]) (st1 := [.int 4, .int (nI j)]) (M1 := (mk_M c n m kk (rT (he, ke, ki, fi, fa, or, mi, a, g, l, w, s) xm xi xw im le nu rf ln nn vp xn xc vs))) (fun f => rfl) ?_
    refine me_t (C := 4 ≤ (nI j)) (nI_let (a := 4) (b := j) (by omega)) (fun f => rfl) ?_
    refine me_ret 2 (r := some (.int v)) (M1 := (mk_M c n m kk (rT (he, ke, ki, fi, fa, or, mi, a, g, l, w, s) xm xi xw im le nu rf ln nn vp xn xc vs))) (fun f => rfl) ?_
    exact ⟨⟨_, rfl⟩, _, _, _, _, _, _, rfl, ⟨(by assumption), (by assumption), (by assumption), (by assumption)⟩⟩
  | succ k IH =>
    intro j v lo3 xm xw vp xn xc vs hj hR
    obtain ⟨r1, r2, r3, r4⟩ := id hR
    have v60 := kO_lt5 mi v7 or v6 0 (by omega)
    refine me_seg 2 (pc1 := 6) (ls1 := [some (.ref 138), some (.int v), some (.int (nI j)), lo3]) (st1 := [.int 4, .int (nI j)]) (M1 := (mk_M c n m kk (rT (he, ke, ki, fi, fa, or, mi, a, g, l, w, s) xm xi xw im le nu rf ln nn vp xn xc vs))) (fun f => rfl) ?_
    refine me_f (C := 4 ≤ (nI j)) (nI_lef (a := 4) (b := j) (by omega)) (fun f => rfl) ?_
    refine me_seg 3 (pc1 := 14) (ls1 := [some (.ref 138), some (.int v), some (.int (nI j)), lo3]) (st1 := [.int 0, .ref 139]) (M1 := (mk_M c n m kk (rT (he, ke, ki, fi, fa, or, mi, a, g, l, w, s) xm xi xw im le nu rf ln nn vp xn xc vs))) (fun f => rfl) ?_
    refine me_ldn (xs := (er (he, ke, ki, fi, fa, or, mi, a, g, l, w, s))) rfl rfl (k := 0) (by decide) rfl ?_
    refine me_if (C := (nI mi) ≤ 0) (fun f => rfl) (fun h1 => ?_) (fun h1 => ?_)
    · refine me_ret 2 (r := some (.int v)) (M1 := (mk_M c n m kk (rT (he, ke, ki, fi, fa, or, mi, a, g, l, w, s) xm xi xw im le nu rf ln nn vp xn xc vs))) (fun f => rfl) ?_
      exact ⟨⟨_, rfl⟩, _, _, _, _, _, _, rfl, ⟨(by assumption), (by assumption), (by assumption), (by assumption)⟩⟩
    · refine me_seg 3 (pc1 := 23) (ls1 := [some (.ref 138), some (.int v), some (.int (nI j)), lo3]) (st1 := [.int 2, .ref 139]) (M1 := (mk_M c n m kk (rT (he, ke, ki, fi, fa, or, mi, a, g, l, w, s) xm xi xw im le nu rf ln nn vp xn xc vs))) (fun f => rfl) ?_
      refine me_ldn (xs := (er (he, ke, ki, fi, fa, or, mi, a, g, l, w, s))) rfl rfl (k := 2) (by decide) rfl ?_
      refine me_seg 1 (pc1 := 25) (ls1 := [some (.ref 138), some (.int v), some (.int (nI j)), lo3]) (st1 := [.int (nI j), .int (nI a)]) (M1 := (mk_M c n m kk (rT (he, ke, ki, fi, fa, or, mi, a, g, l, w, s) xm xi xw im le nu rf ln nn vp xn xc vs))) (fun f => rfl) ?_
      refine me_call (y := 149) (y0 := 28) (L := [some (.int (nI a)), some (.int (nI j))]) (rest := []) (rr := some (.int (kI (kbey a j)))) (M1 := (mk_M c n m kk (rT (he, ke, ki, fi, fa, or, mi, a, g, l, w, s) xm xi xw im le nu rf ln nn vp xn xc vs))) (fun f => rfl) (rc_bey (c := a) (w := j) (by omega) (by omega) _) ?_
      rcases hb_2 : kbey a j with _ | t_2
      · refine me_v (show kI none = (-9 : Int32) from rfl) ?_
        refine me_seg 8 (pc1 := 71) (ls1 := [some (.ref 138), some (.int (v ||| (0 : Int32))), some (.int ((nI j) + 1)), some (.int (-9))]) (st1 := []) (M1 := (mk_M c n m kk (rT (he, ke, ki, fi, fa, or, mi, a, g, l, w, s) xm xi xw im le nu rf ln nn vp xn xc vs))) (fun f => rfl) ?_
        refine me_l (fun q_ => [some (.ref 138), some (.int (v ||| (0 : Int32))), some (.int q_), some (.int (-9))]) (nI_add j 1) ?_
        refine me_seg 1 (pc1 := 4) (ls1 := [some (.ref 138), some (.int (v ||| (0 : Int32))), some (.int (nI (j + 1))), some (.int (-9))]) (st1 := []) (M1 := (mk_M c n m kk (rT (he, ke, ki, fi, fa, or, mi, a, g, l, w, s) xm xi xw im le nu rf ln nn vp xn xc vs))) (fun f => rfl) ?_
        exact IH (j + 1) (v ||| (0 : Int32)) (some (.int (-9))) xm xw vp xn xc vs (by omega) ⟨(by assumption), (by assumption), (by assumption), (by assumption)⟩
      · have ht_2 := kbey_lt (by omega) hb_2
        refine me_v (show kI (some t_2) = nI t_2 from rfl) ?_
        refine me_seg 3 (pc1 := 31) (ls1 := [some (.ref 138), some (.int v), some (.int (nI j)), some (.int (nI t_2))]) (st1 := [.int (nI t_2), .int v]) (M1 := (mk_M c n m kk (rT (he, ke, ki, fi, fa, or, mi, a, g, l, w, s) xm xi xw im le nu rf ln nn vp xn xc vs))) (fun f => rfl) ?_
        refine me_f (C := (nI t_2) < 0) (nI_pos (by omega)) (fun f => rfl) ?_
        refine me_seg 3 (pc1 := 39) (ls1 := [some (.ref 138), some (.int v), some (.int (nI j)), some (.int (nI t_2))]) (st1 := [.int (nI t_2), .ref 139, .int v]) (M1 := (mk_M c n m kk (rT (he, ke, ki, fi, fa, or, mi, a, g, l, w, s) xm xi xw im le nu rf ln nn vp xn xc vs))) (fun f => rfl) ?_
        refine me_call (y := 150) (y0 := 42) (L := [some (.ref 139), some (.int (nI t_2)), none]) (rest := [.int v]) (rr := some (.int (nI (kload he ke a w t_2)))) (M1 := (mk_M c n m kk (rT (he, ke, ki, fi, fa, or, mi, a, g, l, w, s) xm xi xw im le nu rf ln nn vp xn xc vs))) (fun f => rfl) (rl_s c n m kk (rT (he, ke, ki, fi, fa, or, mi, a, g, l, w, s) xm xi xw im le nu rf ln nn vp xn xc vs) (rc_load_s he ke ki fi fa or mi a g l w s t_2 (by omega) hV) rfl) ?_
        refine me_seg 5 (pc1 := 52) (ls1 := [some (.ref 138), some (.int v), some (.int (nI j)), some (.int (nI t_2))]) (st1 := [.int 47, .ref 139, .ref 139, .int (nI (kload he ke a w t_2)), .int v]) (M1 := (mk_M c n m kk (rT (he, ke, ki, fi, fa, or, mi, a, g, l, w, s) xm xi xw im le nu rf ln nn vp xn xc vs))) (fun f => rfl) ?_
        refine me_ldn (xs := (er (he, ke, ki, fi, fa, or, mi, a, g, l, w, s))) rfl rfl (k := 47) (by decide) (er_or (K := (he, ke, ki, fi, fa, or, mi, a, g, l, w, s)) v1 v6l (j := 0) (by decide)) ?_
        refine me_call (y := 152) (y0 := 56) (L := [some (.ref 139), some (.int (nI (kg or 0)))]) (rest := [.int (nI (kload he ke a w t_2)), .int v]) (rr := some (.int (nI (khold (kg ki (kg or 0)) (kg fi (kg or 0)))))) (M1 := (mk_M c n m kk (rT (he, ke, ki, fi, fa, or, mi, a, g, l, w, s) xm xi xw im le nu rf ln nn vp xn xc vs))) (fun f => rfl) (rl_s c n m kk (rT (he, ke, ki, fi, fa, or, mi, a, g, l, w, s) xm xi xw im le nu rf ln nn vp xn xc vs) (rc_hold_s he ke ki fi fa or mi a g l w s (kg or 0) (by omega) hV) rfl) ?_
        refine me_if (C := (nI (khold (kg ki (kg or 0)) (kg fi (kg or 0)))) < (nI (kload he ke a w t_2))) (fun f => rfl) (fun h3 => ?_) (fun h3 => ?_)
        · refine me_seg 4 (pc1 := 71) (ls1 := [some (.ref 138), some (.int (v ||| (0 : Int32))), some (.int ((nI j) + 1)), some (.int (nI t_2))]) (st1 := []) (M1 := (mk_M c n m kk (rT (he, ke, ki, fi, fa, or, mi, a, g, l, w, s) xm xi xw im le nu rf ln nn vp xn xc vs))) (fun f => rfl) ?_
          refine me_l (fun q_ => [some (.ref 138), some (.int (v ||| (0 : Int32))), some (.int q_), some (.int (nI t_2))]) (nI_add j 1) ?_
          refine me_seg 1 (pc1 := 4) (ls1 := [some (.ref 138), some (.int (v ||| (0 : Int32))), some (.int (nI (j + 1))), some (.int (nI t_2))]) (st1 := []) (M1 := (mk_M c n m kk (rT (he, ke, ki, fi, fa, or, mi, a, g, l, w, s) xm xi xw im le nu rf ln nn vp xn xc vs))) (fun f => rfl) ?_
          exact IH (j + 1) (v ||| (0 : Int32)) (some (.int (nI t_2))) xm xw vp xn xc vs (by omega) ⟨(by assumption), (by assumption), (by assumption), (by assumption)⟩
        · refine me_seg 7 (pc1 := 71) (ls1 := [some (.ref 138), some (.int (v ||| ((1 : Int32) <<< ((nI t_2) &&& 31)))), some (.int ((nI j) + 1)), some (.int (nI t_2))]) (st1 := []) (M1 := (mk_M c n m kk (rT (he, ke, ki, fi, fa, or, mi, a, g, l, w, s) xm xi xw im le nu rf ln nn vp xn xc vs))) (fun f => rfl) ?_
          refine me_l (fun q_ => [some (.ref 138), some (.int (v ||| ((1 : Int32) <<< ((nI t_2) &&& 31)))), some (.int q_), some (.int (nI t_2))]) (nI_add j 1) ?_
          refine me_seg 1 (pc1 := 4) (ls1 := [some (.ref 138), some (.int (v ||| ((1 : Int32) <<< ((nI t_2) &&& 31)))), some (.int (nI (j + 1))), some (.int (nI t_2))]) (st1 := []) (M1 := (mk_M c n m kk (rT (he, ke, ki, fi, fa, or, mi, a, g, l, w, s) xm xi xw im le nu rf ln nn vp xn xc vs))) (fun f => rfl) ?_
          exact IH (j + 1) (v ||| ((1 : Int32) <<< ((nI t_2) &&& 31))) (some (.int (nI t_2))) xm xw vp xn xc vs (by omega) ⟨(by assumption), (by assumption), (by assumption), (by assumption)⟩
set_option maxRecDepth 100000 in
theorem wm_ec (he ke ki fi fa or : List Nat) (mi a g l w s : Nat) (xi : List Int32) (im : Nat) (le nu rf : List Nat) (ln nn : Nat) (c : cC) (n m kk : kG) (hA : iA (he, ke, ki, fi, fa, or, mi, a, g, l, w, s)) (hC : iC nu nn) (xm xw : List Int32) (vp : Int32) (xn xc : List Int32) (vs : Int32) (hR : iR xm xw xn xc) : mm_E 194 0 [some (.ref 138), none, none, none] [] (mk_M c n m kk (rT (he, ke, ki, fi, fa, or, mi, a, g, l, w, s) xm xi xw im le nu rf ln nn vp xn xc vs)) (pM isI (he, ke, ki, fi, fa, or, mi, a, g, l, w, s) xi im le nu rf ln nn c n m kk) := by
  obtain ⟨hV, hst⟩ := id hA
  have hst2 : s ≤ 999 := hst
  obtain ⟨v1, v2, v3, v4, v5, v6, v7, v8, v9, v10, v11, v12, v13, v14, v15, v16⟩ := id hV
  have v6l := kO_len mi v7 or v6
  obtain ⟨c1, c2, c3⟩ := id hC
  obtain ⟨r1, r2, r3, r4⟩ := id hR
  refine me_seg 4 (pc1 := 4) (ls1 := [some (.ref 138), some (.int 0), some (.int 0), none]) (st1 := []) (M1 := (mk_M c n m kk (rT (he, ke, ki, fi, fa, or, mi, a, g, l, w, s) xm xi xw im le nu rf ln nn vp xn xc vs))) (fun f => rfl) ?_
  exact wm_ecL he ke ki fi fa or mi a g l w s xi im le nu rf ln nn c n m kk hA hC 4 0 0 none xm xw vp xn xc vs (by omega) ⟨(by assumption), (by assumption), (by assumption), (by assumption)⟩
set_option maxRecDepth 100000 in
theorem wm_easyL (he ke ki fi fa or : List Nat) (mi a g l w s : Nat) (xi : List Int32) (im : Nat) (le nu rf : List Nat) (ln nn : Nat) (c : cC) (n m kk : kG) (hA : iA (he, ke, ki, fi, fa, or, mi, a, g, l, w, s)) (hC : iC nu nn) (x : Nat) (hx : x < 3) (k : Nat) : ∀ (j : Nat) (u : Int32) (b : Nat) (xm xw : List Int32) (vp : Int32) (xn xc : List Int32) (vs : Int32), j + k = mi → iR xm xw xn xc → b < 5 → mm_E 193 24 [some (.ref 138), some (.int (nI x)), some (.int u), some (.int (nI b)), some (.int (nI j))] [] (mk_M c n m kk (rT (he, ke, ki, fi, fa, or, mi, a, g, l, w, s) xm xi xw im le nu rf ln nn vp xn xc vs)) (pM isI (he, ke, ki, fi, fa, or, mi, a, g, l, w, s) xi im le nu rf ln nn c n m kk) := by
  obtain ⟨hV, hst⟩ := id hA
  have hst2 : s ≤ 999 := hst
  obtain ⟨v1, v2, v3, v4, v5, v6, v7, v8, v9, v10, v11, v12, v13, v14, v15, v16⟩ := id hV
  have v6l := kO_len mi v7 or v6
  obtain ⟨c1, c2, c3⟩ := id hC
  induction k with
  | zero =>
    intro j u b xm xw vp xn xc vs hj hR g0
    obtain ⟨r1, r2, r3, r4⟩ := id hR
    refine me_seg 4 (pc1 := 31) (ls1 := [some (.ref 138), some (.int (nI x)), some (.int u), some (.int (nI b)), some (.int (nI j))]) (st1 := [.int 0, .ref 139, .int (nI j)]) (M1 := (mk_M c n m kk (rT (he, ke, ki, fi, fa, or, mi, a, g, l, w, s) xm xi xw im le nu rf ln nn vp xn xc vs))) (fun f => rfl) ?_
    refine me_ldn (xs := (er (he, ke, ki, fi, fa, or, mi, a, g, l, w, s))) rfl rfl (k := 0) (by decide) rfl ?_
    refine me_t (C := (nI mi) ≤ (nI j)) (nI_let (a := mi) (b := j) (by omega)) (fun f => rfl) ?_
    refine me_seg 1 (pc1 := 105) (ls1 := [some (.ref 138), some (.int (nI x)), some (.int u), some (.int (nI b)), some (.int (nI j))]) (st1 := [.int (nI x)]) (M1 := (mk_M c n m kk (rT (he, ke, ki, fi, fa, or, mi, a, g, l, w, s) xm xi xw im le nu rf ln nn vp xn xc vs))) (fun f => rfl) ?_
    refine me_if (C := (nI x) = 0) (fun f => rfl) (fun h1 => ?_) (fun h1 => ?_)
    · refine me_seg 1 (pc1 := 109) (ls1 := [some (.ref 138), some (.int (nI x)), some (.int u), some (.int (nI b)), some (.int (nI j))]) (st1 := [.ref 138]) (M1 := (mk_M c n m kk (rT (he, ke, ki, fi, fa, or, mi, a, g, l, w, s) xm xi xw im le nu rf ln nn vp xn xc vs))) (fun f => rfl) ?_
      refine me_callE (y := 194) (y0 := 112) (L := [some (.ref 138), none, none, none]) (rest := []) (fun f => rfl) (wm_ec he ke ki fi fa or mi a g l w s xi im le nu rf ln nn c n m kk hA hC xm xw vp xn xc vs ⟨(by assumption), (by assumption), (by assumption), (by assumption)⟩) ?_
      rintro _ _ ⟨⟨w_2, rfl⟩, xm_2, xw_2, vp_2, xn_2, xc_2, vs_2, rfl, hR_2⟩
      obtain ⟨r1_2, r2_2, r3_2, r4_2⟩ := id hR_2
      refine me_ret 2 (r := some (.int w_2)) (M1 := (mk_M c n m kk (rT (he, ke, ki, fi, fa, or, mi, a, g, l, w, s) xm_2 xi xw_2 im le nu rf ln nn vp_2 xn_2 xc_2 vs_2))) (fun f => rfl) ?_
      exact ⟨⟨_, rfl⟩, _, _, _, _, _, _, rfl, ⟨(by assumption), (by assumption), (by assumption), (by assumption)⟩⟩
    · refine me_seg 2 (pc1 := 117) (ls1 := [some (.ref 138), some (.int (nI x)), some (.int u), some (.int (nI b)), some (.int (nI j))]) (st1 := [.int 1, .int (nI x)]) (M1 := (mk_M c n m kk (rT (he, ke, ki, fi, fa, or, mi, a, g, l, w, s) xm xi xw im le nu rf ln nn vp xn xc vs))) (fun f => rfl) ?_
      refine me_if (C := (nI x) = 1) (fun f => rfl) (fun h3 => ?_) (fun h3 => ?_)
      · refine me_ret 3 (r := some (.int u)) (M1 := (mk_M c n m kk (rT (he, ke, ki, fi, fa, or, mi, a, g, l, w, s) xm xi xw im le nu rf ln nn vp xn xc vs))) (fun f => rfl) ?_
        exact ⟨⟨_, rfl⟩, _, _, _, _, _, _, rfl, ⟨(by assumption), (by assumption), (by assumption), (by assumption)⟩⟩
      · refine me_ret 2 (r := some (.int (nI b))) (M1 := (mk_M c n m kk (rT (he, ke, ki, fi, fa, or, mi, a, g, l, w, s) xm xi xw im le nu rf ln nn vp xn xc vs))) (fun f => rfl) ?_
        exact ⟨⟨_, rfl⟩, _, _, _, _, _, _, rfl, ⟨(by assumption), (by assumption), (by assumption), (by assumption)⟩⟩
  | succ k IH =>
    intro j u b xm xw vp xn xc vs hj hR g0
    obtain ⟨r1, r2, r3, r4⟩ := id hR
    refine me_seg 4 (pc1 := 31) (ls1 := [some (.ref 138), some (.int (nI x)), some (.int u), some (.int (nI b)), some (.int (nI j))]) (st1 := [.int 0, .ref 139, .int (nI j)]) (M1 := (mk_M c n m kk (rT (he, ke, ki, fi, fa, or, mi, a, g, l, w, s) xm xi xw im le nu rf ln nn vp xn xc vs))) (fun f => rfl) ?_
    refine me_ldn (xs := (er (he, ke, ki, fi, fa, or, mi, a, g, l, w, s))) rfl rfl (k := 0) (by decide) rfl ?_
    refine me_f (C := (nI mi) ≤ (nI j)) (nI_lef (a := mi) (b := j) (by omega)) (fun f => rfl) ?_
    refine me_seg 4 (pc1 := 42) (ls1 := [some (.ref 138), some (.int (nI x)), some (.int u), some (.int (nI b)), some (.int (nI j))]) (st1 := [.int (nI j), .ref 139, .int u]) (M1 := (mk_M c n m kk (rT (he, ke, ki, fi, fa, or, mi, a, g, l, w, s) xm xi xw im le nu rf ln nn vp xn xc vs))) (fun f => rfl) ?_
    refine me_call (y := 152) (y0 := 45) (L := [some (.ref 139), some (.int (nI j))]) (rest := [.int u]) (rr := some (.int (nI (khold (kg ki j) (kg fi j))))) (M1 := (mk_M c n m kk (rT (he, ke, ki, fi, fa, or, mi, a, g, l, w, s) xm xi xw im le nu rf ln nn vp xn xc vs))) (fun f => rfl) (rl_s c n m kk (rT (he, ke, ki, fi, fa, or, mi, a, g, l, w, s) xm xi xw im le nu rf ln nn vp xn xc vs) (rc_hold_s he ke ki fi fa or mi a g l w s j (by omega) hV) rfl) ?_
    refine me_seg 3 (pc1 := 50) (ls1 := [some (.ref 138), some (.int (nI x)), some (.int u), some (.int (nI b)), some (.int (nI j))]) (st1 := [.int 5, .ref 139, .int (nI (khold (kg ki j) (kg fi j))), .int u]) (M1 := (mk_M c n m kk (rT (he, ke, ki, fi, fa, or, mi, a, g, l, w, s) xm xi xw im le nu rf ln nn vp xn xc vs))) (fun f => rfl) ?_
    refine me_ldn (xs := (er (he, ke, ki, fi, fa, or, mi, a, g, l, w, s))) rfl rfl (k := 5) (by decide) rfl ?_
    refine me_seg 2 (pc1 := 54) (ls1 := [some (.ref 138), some (.int (nI x)), some (.int u), some (.int (nI b)), some (.int (nI j))]) (st1 := [.int ((nI w) + (13 : Int32)), .int (nI (khold (kg ki j) (kg fi j))), .int u]) (M1 := (mk_M c n m kk (rT (he, ke, ki, fi, fa, or, mi, a, g, l, w, s) xm xi xw im le nu rf ln nn vp xn xc vs))) (fun f => rfl) ?_
    refine me_v (nI_add w 13) ?_
    refine me_if (C := (nI (khold (kg ki j) (kg fi j))) < (nI (w + 13))) (fun f => rfl) (fun h1 => ?_) (fun h1 => ?_)
    · refine me_seg 4 (pc1 := 68) (ls1 := [some (.ref 138), some (.int (nI x)), some (.int (u ||| (0 : Int32))), some (.int (nI b)), some (.int (nI j))]) (st1 := [.int (nI b)]) (M1 := (mk_M c n m kk (rT (he, ke, ki, fi, fa, or, mi, a, g, l, w, s) xm xi xw im le nu rf ln nn vp xn xc vs))) (fun f => rfl) ?_
      refine me_f (C := (nI b) < 0) (nI_pos (by omega)) (fun f => rfl) ?_
      refine me_seg 4 (pc1 := 78) (ls1 := [some (.ref 138), some (.int (nI x)), some (.int (u ||| (0 : Int32))), some (.int (nI b)), some (.int (nI j))]) (st1 := [.int 2, .int (nI j), .ref 139]) (M1 := (mk_M c n m kk (rT (he, ke, ki, fi, fa, or, mi, a, g, l, w, s) xm xi xw im le nu rf ln nn vp xn xc vs))) (fun f => rfl) ?_
      refine me_call (y := 141) (y0 := 81) (L := [some (.int (nI j)), some (.int 2)]) (rest := [.ref 139]) (rr := some (.int (nI (32 + 3 * j + 2)))) (M1 := (mk_M c n m kk (rT (he, ke, ki, fi, fa, or, mi, a, g, l, w, s) xm xi xw im le nu rf ln nn vp xn xc vs))) (fun f => rfl) (rc_of j 2 (by omega) (by decide) _) ?_
      refine me_ldn (xs := (er (he, ke, ki, fi, fa, or, mi, a, g, l, w, s))) rfl rfl (k := 32 + 3 * j + 2) (by omega) (er_fa (K := (he, ke, ki, fi, fa, or, mi, a, g, l, w, s)) v1 (by omega)) ?_
      refine me_seg 4 (pc1 := 88) (ls1 := [some (.ref 138), some (.int (nI x)), some (.int (u ||| (0 : Int32))), some (.int (nI b)), some (.int (nI j))]) (st1 := [.int 2, .int (nI b), .ref 139, .int (nI (kg fa j))]) (M1 := (mk_M c n m kk (rT (he, ke, ki, fi, fa, or, mi, a, g, l, w, s) xm xi xw im le nu rf ln nn vp xn xc vs))) (fun f => rfl) ?_
      refine me_call (y := 141) (y0 := 91) (L := [some (.int (nI b)), some (.int 2)]) (rest := [.ref 139, .int (nI (kg fa j))]) (rr := some (.int (nI (32 + 3 * b + 2)))) (M1 := (mk_M c n m kk (rT (he, ke, ki, fi, fa, or, mi, a, g, l, w, s) xm xi xw im le nu rf ln nn vp xn xc vs))) (fun f => rfl) (rc_of b 2 (by omega) (by decide) _) ?_
      refine me_ldn (xs := (er (he, ke, ki, fi, fa, or, mi, a, g, l, w, s))) rfl rfl (k := 32 + 3 * b + 2) (by omega) (er_fa (K := (he, ke, ki, fi, fa, or, mi, a, g, l, w, s)) v1 (by omega)) ?_
      refine me_if (C := (nI (kg fa j)) ≤ (nI (kg fa b))) (fun f => rfl) (fun h2 => ?_) (fun h2 => ?_)
      · refine me_seg 1 (pc1 := 101) (ls1 := [some (.ref 138), some (.int (nI x)), some (.int (u ||| (0 : Int32))), some (.int (nI b)), some (.int ((nI j) + 1))]) (st1 := []) (M1 := (mk_M c n m kk (rT (he, ke, ki, fi, fa, or, mi, a, g, l, w, s) xm xi xw im le nu rf ln nn vp xn xc vs))) (fun f => rfl) ?_
        refine me_l (fun q_ => [some (.ref 138), some (.int (nI x)), some (.int (u ||| (0 : Int32))), some (.int (nI b)), some (.int q_)]) (nI_add j 1) ?_
        refine me_seg 1 (pc1 := 24) (ls1 := [some (.ref 138), some (.int (nI x)), some (.int (u ||| (0 : Int32))), some (.int (nI b)), some (.int (nI (j + 1)))]) (st1 := []) (M1 := (mk_M c n m kk (rT (he, ke, ki, fi, fa, or, mi, a, g, l, w, s) xm xi xw im le nu rf ln nn vp xn xc vs))) (fun f => rfl) ?_
        exact IH (j + 1) (u ||| (0 : Int32)) b xm xw vp xn xc vs (by omega) ⟨(by assumption), (by assumption), (by assumption), (by assumption)⟩ (by omega)
      · refine me_seg 3 (pc1 := 101) (ls1 := [some (.ref 138), some (.int (nI x)), some (.int (u ||| (0 : Int32))), some (.int (nI j)), some (.int ((nI j) + 1))]) (st1 := []) (M1 := (mk_M c n m kk (rT (he, ke, ki, fi, fa, or, mi, a, g, l, w, s) xm xi xw im le nu rf ln nn vp xn xc vs))) (fun f => rfl) ?_
        refine me_l (fun q_ => [some (.ref 138), some (.int (nI x)), some (.int (u ||| (0 : Int32))), some (.int (nI j)), some (.int q_)]) (nI_add j 1) ?_
        refine me_seg 1 (pc1 := 24) (ls1 := [some (.ref 138), some (.int (nI x)), some (.int (u ||| (0 : Int32))), some (.int (nI j)), some (.int (nI (j + 1)))]) (st1 := []) (M1 := (mk_M c n m kk (rT (he, ke, ki, fi, fa, or, mi, a, g, l, w, s) xm xi xw im le nu rf ln nn vp xn xc vs))) (fun f => rfl) ?_
        exact IH (j + 1) (u ||| (0 : Int32)) j xm xw vp xn xc vs (by omega) ⟨(by assumption), (by assumption), (by assumption), (by assumption)⟩ (by omega)
    · refine me_seg 7 (pc1 := 68) (ls1 := [some (.ref 138), some (.int (nI x)), some (.int (u ||| ((1 : Int32) <<< ((nI j) &&& 31)))), some (.int (nI b)), some (.int (nI j))]) (st1 := [.int (nI b)]) (M1 := (mk_M c n m kk (rT (he, ke, ki, fi, fa, or, mi, a, g, l, w, s) xm xi xw im le nu rf ln nn vp xn xc vs))) (fun f => rfl) ?_
      refine me_f (C := (nI b) < 0) (nI_pos (by omega)) (fun f => rfl) ?_
      refine me_seg 4 (pc1 := 78) (ls1 := [some (.ref 138), some (.int (nI x)), some (.int (u ||| ((1 : Int32) <<< ((nI j) &&& 31)))), some (.int (nI b)), some (.int (nI j))]) (st1 := [.int 2, .int (nI j), .ref 139]) (M1 := (mk_M c n m kk (rT (he, ke, ki, fi, fa, or, mi, a, g, l, w, s) xm xi xw im le nu rf ln nn vp xn xc vs))) (fun f => rfl) ?_
      refine me_call (y := 141) (y0 := 81) (L := [some (.int (nI j)), some (.int 2)]) (rest := [.ref 139]) (rr := some (.int (nI (32 + 3 * j + 2)))) (M1 := (mk_M c n m kk (rT (he, ke, ki, fi, fa, or, mi, a, g, l, w, s) xm xi xw im le nu rf ln nn vp xn xc vs))) (fun f => rfl) (rc_of j 2 (by omega) (by decide) _) ?_
      refine me_ldn (xs := (er (he, ke, ki, fi, fa, or, mi, a, g, l, w, s))) rfl rfl (k := 32 + 3 * j + 2) (by omega) (er_fa (K := (he, ke, ki, fi, fa, or, mi, a, g, l, w, s)) v1 (by omega)) ?_
      refine me_seg 4 (pc1 := 88) (ls1 := [some (.ref 138), some (.int (nI x)), some (.int (u ||| ((1 : Int32) <<< ((nI j) &&& 31)))), some (.int (nI b)), some (.int (nI j))]) (st1 := [.int 2, .int (nI b), .ref 139, .int (nI (kg fa j))]) (M1 := (mk_M c n m kk (rT (he, ke, ki, fi, fa, or, mi, a, g, l, w, s) xm xi xw im le nu rf ln nn vp xn xc vs))) (fun f => rfl) ?_
      refine me_call (y := 141) (y0 := 91) (L := [some (.int (nI b)), some (.int 2)]) (rest := [.ref 139, .int (nI (kg fa j))]) (rr := some (.int (nI (32 + 3 * b + 2)))) (M1 := (mk_M c n m kk (rT (he, ke, ki, fi, fa, or, mi, a, g, l, w, s) xm xi xw im le nu rf ln nn vp xn xc vs))) (fun f => rfl) (rc_of b 2 (by omega) (by decide) _) ?_
      refine me_ldn (xs := (er (he, ke, ki, fi, fa, or, mi, a, g, l, w, s))) rfl rfl (k := 32 + 3 * b + 2) (by omega) (er_fa (K := (he, ke, ki, fi, fa, or, mi, a, g, l, w, s)) v1 (by omega)) ?_
      refine me_if (C := (nI (kg fa j)) ≤ (nI (kg fa b))) (fun f => rfl) (fun h3 => ?_) (fun h3 => ?_)
      · refine me_seg 1 (pc1 := 101) (ls1 := [some (.ref 138), some (.int (nI x)), some (.int (u ||| ((1 : Int32) <<< ((nI j) &&& 31)))), some (.int (nI b)), some (.int ((nI j) + 1))]) (st1 := []) (M1 := (mk_M c n m kk (rT (he, ke, ki, fi, fa, or, mi, a, g, l, w, s) xm xi xw im le nu rf ln nn vp xn xc vs))) (fun f => rfl) ?_
        refine me_l (fun q_ => [some (.ref 138), some (.int (nI x)), some (.int (u ||| ((1 : Int32) <<< ((nI j) &&& 31)))), some (.int (nI b)), some (.int q_)]) (nI_add j 1) ?_
        refine me_seg 1 (pc1 := 24) (ls1 := [some (.ref 138), some (.int (nI x)), some (.int (u ||| ((1 : Int32) <<< ((nI j) &&& 31)))), some (.int (nI b)), some (.int (nI (j + 1)))]) (st1 := []) (M1 := (mk_M c n m kk (rT (he, ke, ki, fi, fa, or, mi, a, g, l, w, s) xm xi xw im le nu rf ln nn vp xn xc vs))) (fun f => rfl) ?_
        exact IH (j + 1) (u ||| ((1 : Int32) <<< ((nI j) &&& 31))) b xm xw vp xn xc vs (by omega) ⟨(by assumption), (by assumption), (by assumption), (by assumption)⟩ (by omega)
      · refine me_seg 3 (pc1 := 101) (ls1 := [some (.ref 138), some (.int (nI x)), some (.int (u ||| ((1 : Int32) <<< ((nI j) &&& 31)))), some (.int (nI j)), some (.int ((nI j) + 1))]) (st1 := []) (M1 := (mk_M c n m kk (rT (he, ke, ki, fi, fa, or, mi, a, g, l, w, s) xm xi xw im le nu rf ln nn vp xn xc vs))) (fun f => rfl) ?_
        refine me_l (fun q_ => [some (.ref 138), some (.int (nI x)), some (.int (u ||| ((1 : Int32) <<< ((nI j) &&& 31)))), some (.int (nI j)), some (.int q_)]) (nI_add j 1) ?_
        refine me_seg 1 (pc1 := 24) (ls1 := [some (.ref 138), some (.int (nI x)), some (.int (u ||| ((1 : Int32) <<< ((nI j) &&& 31)))), some (.int (nI j)), some (.int (nI (j + 1)))]) (st1 := []) (M1 := (mk_M c n m kk (rT (he, ke, ki, fi, fa, or, mi, a, g, l, w, s) xm xi xw im le nu rf ln nn vp xn xc vs))) (fun f => rfl) ?_
        exact IH (j + 1) (u ||| ((1 : Int32) <<< ((nI j) &&& 31))) j xm xw vp xn xc vs (by omega) ⟨(by assumption), (by assumption), (by assumption), (by assumption)⟩ (by omega)
set_option maxRecDepth 100000 in
theorem wm_easy (he ke ki fi fa or : List Nat) (mi a g l w s : Nat) (xi : List Int32) (im : Nat) (le nu rf : List Nat) (ln nn : Nat) (c : cC) (n m kk : kG) (hA : iA (he, ke, ki, fi, fa, or, mi, a, g, l, w, s)) (hC : iC nu nn) (xm xw : List Int32) (vp : Int32) (xn xc : List Int32) (vs : Int32) (hR : iR xm xw xn xc) (x : Nat) (hx : x < 3) : mm_E 193 0 [some (.ref 138), some (.int (nI x)), none, none, none] [] (mk_M c n m kk (rT (he, ke, ki, fi, fa, or, mi, a, g, l, w, s) xm xi xw im le nu rf ln nn vp xn xc vs)) (pM isI (he, ke, ki, fi, fa, or, mi, a, g, l, w, s) xi im le nu rf ln nn c n m kk) := by
  obtain ⟨hV, hst⟩ := id hA
  have hst2 : s ≤ 999 := hst
  obtain ⟨v1, v2, v3, v4, v5, v6, v7, v8, v9, v10, v11, v12, v13, v14, v15, v16⟩ := id hV
  have v6l := kO_len mi v7 or v6
  obtain ⟨c1, c2, c3⟩ := id hC
  obtain ⟨r1, r2, r3, r4⟩ := id hR
  refine me_seg 3 (pc1 := 3) (ls1 := [some (.ref 138), some (.int (nI x)), none, none, none]) (st1 := [.int 2, .int 0, .int (nI x)]) (M1 := (mk_M c n m kk (rT (he, ke, ki, fi, fa, or, mi, a, g, l, w, s) xm xi xw im le nu rf ln nn vp xn xc vs))) (fun f => rfl) ?_
  refine me_call (y := 135) (y0 := 6) (L := [some (.int (nI x)), some (.int 0), some (.int 2)]) (rest := []) (rr := some (.int 1)) (M1 := (mk_M c n m kk (rT (he, ke, ki, fi, fa, or, mi, a, g, l, w, s) xm xi xw im le nu rf ln nn vp xn xc vs))) (fun f => rfl) (ms_in_ok (x := (nI x)) (a := 0) (b := 2) (nI_ltf (a := x) (b := 0) (by omega)) (nI_ltf (a := 2) (b := x) (by omega))) ?_
  refine me_seg 7 (pc1 := 24) (ls1 := [some (.ref 138), some (.int (nI x)), some (.int 0), some (.int (-9)), some (.int 0)]) (st1 := []) (M1 := (mk_M c n m kk (rT (he, ke, ki, fi, fa, or, mi, a, g, l, w, s) xm xi xw im le nu rf ln nn vp xn xc vs))) (fun f => rfl) ?_
  rcases Nat.eq_zero_or_pos mi with h0 | h0
  · refine me_seg 4 (pc1 := 31) (ls1 := [some (.ref 138), some (.int (nI x)), some (.int 0), some (.int (-9)), some (.int 0)]) (st1 := [.int 0, .ref 139, .int 0]) (M1 := (mk_M c n m kk (rT (he, ke, ki, fi, fa, or, mi, a, g, l, w, s) xm xi xw im le nu rf ln nn vp xn xc vs))) (fun f => rfl) ?_
    refine me_ldn (xs := (er (he, ke, ki, fi, fa, or, mi, a, g, l, w, s))) rfl rfl (k := 0) (by decide) rfl ?_
    refine me_t (C := (nI mi) ≤ 0) (nI_let (a := mi) (b := 0) (by omega)) (fun f => rfl) ?_
    refine me_seg 1 (pc1 := 105) (ls1 := [some (.ref 138), some (.int (nI x)), some (.int 0), some (.int (-9)), some (.int 0)]) (st1 := [.int (nI x)]) (M1 := (mk_M c n m kk (rT (he, ke, ki, fi, fa, or, mi, a, g, l, w, s) xm xi xw im le nu rf ln nn vp xn xc vs))) (fun f => rfl) ?_
    refine me_if (C := (nI x) = 0) (fun f => rfl) (fun h51 => ?_) (fun h51 => ?_)
    · refine me_seg 1 (pc1 := 109) (ls1 := [some (.ref 138), some (.int (nI x)), some (.int 0), some (.int (-9)), some (.int 0)]) (st1 := [.ref 138]) (M1 := (mk_M c n m kk (rT (he, ke, ki, fi, fa, or, mi, a, g, l, w, s) xm xi xw im le nu rf ln nn vp xn xc vs))) (fun f => rfl) ?_
      refine me_callE (y := 194) (y0 := 112) (L := [some (.ref 138), none, none, none]) (rest := []) (fun f => rfl) (wm_ec he ke ki fi fa or mi a g l w s xi im le nu rf ln nn c n m kk hA hC xm xw vp xn xc vs ⟨(by assumption), (by assumption), (by assumption), (by assumption)⟩) ?_
      rintro _ _ ⟨⟨w_52, rfl⟩, xm_52, xw_52, vp_52, xn_52, xc_52, vs_52, rfl, hR_52⟩
      obtain ⟨r1_52, r2_52, r3_52, r4_52⟩ := id hR_52
      refine me_ret 2 (r := some (.int w_52)) (M1 := (mk_M c n m kk (rT (he, ke, ki, fi, fa, or, mi, a, g, l, w, s) xm_52 xi xw_52 im le nu rf ln nn vp_52 xn_52 xc_52 vs_52))) (fun f => rfl) ?_
      exact ⟨⟨_, rfl⟩, _, _, _, _, _, _, rfl, ⟨(by assumption), (by assumption), (by assumption), (by assumption)⟩⟩
    · refine me_seg 2 (pc1 := 117) (ls1 := [some (.ref 138), some (.int (nI x)), some (.int 0), some (.int (-9)), some (.int 0)]) (st1 := [.int 1, .int (nI x)]) (M1 := (mk_M c n m kk (rT (he, ke, ki, fi, fa, or, mi, a, g, l, w, s) xm xi xw im le nu rf ln nn vp xn xc vs))) (fun f => rfl) ?_
      refine me_if (C := (nI x) = 1) (fun f => rfl) (fun h53 => ?_) (fun h53 => ?_)
      · refine me_ret 3 (r := some (.int 0)) (M1 := (mk_M c n m kk (rT (he, ke, ki, fi, fa, or, mi, a, g, l, w, s) xm xi xw im le nu rf ln nn vp xn xc vs))) (fun f => rfl) ?_
        exact ⟨⟨_, rfl⟩, _, _, _, _, _, _, rfl, ⟨(by assumption), (by assumption), (by assumption), (by assumption)⟩⟩
      · refine me_ret 2 (r := some (.int (-9))) (M1 := (mk_M c n m kk (rT (he, ke, ki, fi, fa, or, mi, a, g, l, w, s) xm xi xw im le nu rf ln nn vp xn xc vs))) (fun f => rfl) ?_
        exact ⟨⟨_, rfl⟩, _, _, _, _, _, _, rfl, ⟨(by assumption), (by assumption), (by assumption), (by assumption)⟩⟩
  · refine me_seg 4 (pc1 := 31) (ls1 := [some (.ref 138), some (.int (nI x)), some (.int 0), some (.int (-9)), some (.int 0)]) (st1 := [.int 0, .ref 139, .int 0]) (M1 := (mk_M c n m kk (rT (he, ke, ki, fi, fa, or, mi, a, g, l, w, s) xm xi xw im le nu rf ln nn vp xn xc vs))) (fun f => rfl) ?_
    refine me_ldn (xs := (er (he, ke, ki, fi, fa, or, mi, a, g, l, w, s))) rfl rfl (k := 0) (by decide) rfl ?_
    refine me_f (C := (nI mi) ≤ 0) (nI_lef (a := mi) (b := 0) (by omega)) (fun f => rfl) ?_
    refine me_seg 4 (pc1 := 42) (ls1 := [some (.ref 138), some (.int (nI x)), some (.int 0), some (.int (-9)), some (.int 0)]) (st1 := [.int 0, .ref 139, .int 0]) (M1 := (mk_M c n m kk (rT (he, ke, ki, fi, fa, or, mi, a, g, l, w, s) xm xi xw im le nu rf ln nn vp xn xc vs))) (fun f => rfl) ?_
    refine me_call (y := 152) (y0 := 45) (L := [some (.ref 139), some (.int 0)]) (rest := [.int 0]) (rr := some (.int (nI (khold (kg ki 0) (kg fi 0))))) (M1 := (mk_M c n m kk (rT (he, ke, ki, fi, fa, or, mi, a, g, l, w, s) xm xi xw im le nu rf ln nn vp xn xc vs))) (fun f => rfl) (rl_s c n m kk (rT (he, ke, ki, fi, fa, or, mi, a, g, l, w, s) xm xi xw im le nu rf ln nn vp xn xc vs) (rc_hold_s he ke ki fi fa or mi a g l w s 0 (by omega) hV) rfl) ?_
    refine me_seg 3 (pc1 := 50) (ls1 := [some (.ref 138), some (.int (nI x)), some (.int 0), some (.int (-9)), some (.int 0)]) (st1 := [.int 5, .ref 139, .int (nI (khold (kg ki 0) (kg fi 0))), .int 0]) (M1 := (mk_M c n m kk (rT (he, ke, ki, fi, fa, or, mi, a, g, l, w, s) xm xi xw im le nu rf ln nn vp xn xc vs))) (fun f => rfl) ?_
    refine me_ldn (xs := (er (he, ke, ki, fi, fa, or, mi, a, g, l, w, s))) rfl rfl (k := 5) (by decide) rfl ?_
    refine me_seg 2 (pc1 := 54) (ls1 := [some (.ref 138), some (.int (nI x)), some (.int 0), some (.int (-9)), some (.int 0)]) (st1 := [.int ((nI w) + (13 : Int32)), .int (nI (khold (kg ki 0) (kg fi 0))), .int 0]) (M1 := (mk_M c n m kk (rT (he, ke, ki, fi, fa, or, mi, a, g, l, w, s) xm xi xw im le nu rf ln nn vp xn xc vs))) (fun f => rfl) ?_
    refine me_v (nI_add w 13) ?_
    refine me_if (C := (nI (khold (kg ki 0) (kg fi 0))) < (nI (w + 13))) (fun f => rfl) (fun h51 => ?_) (fun h51 => ?_)
    · refine me_seg 9 (pc1 := 24) (ls1 := [some (.ref 138), some (.int (nI x)), some (.int 0), some (.int 0), some (.int 1)]) (st1 := []) (M1 := (mk_M c n m kk (rT (he, ke, ki, fi, fa, or, mi, a, g, l, w, s) xm xi xw im le nu rf ln nn vp xn xc vs))) (fun f => rfl) ?_
      exact wm_easyL he ke ki fi fa or mi a g l w s xi im le nu rf ln nn c n m kk hA hC x hx (mi - 1) 1 0 0 xm xw vp xn xc vs (by omega) ⟨(by assumption), (by assumption), (by assumption), (by assumption)⟩ (by omega)
    · refine me_seg 12 (pc1 := 24) (ls1 := [some (.ref 138), some (.int (nI x)), some (.int 1), some (.int 0), some (.int 1)]) (st1 := []) (M1 := (mk_M c n m kk (rT (he, ke, ki, fi, fa, or, mi, a, g, l, w, s) xm xi xw im le nu rf ln nn vp xn xc vs))) (fun f => rfl) ?_
      exact wm_easyL he ke ki fi fa or mi a g l w s xi im le nu rf ln nn c n m kk hA hC x hx (mi - 1) 1 1 0 xm xw vp xn xc vs (by omega) ⟨(by assumption), (by assumption), (by assumption), (by assumption)⟩ (by omega)
set_option maxRecDepth 100000 in
theorem wm_meanL (he ke ki fi fa or : List Nat) (mi a g l w s : Nat) (xi : List Int32) (im : Nat) (le nu rf : List Nat) (ln nn : Nat) (c : cC) (n m kk : kG) (hA : iA (he, ke, ki, fi, fa, or, mi, a, g, l, w, s)) (hC : iC nu nn) (x : Nat) (hx : x < 2) (k : Nat) : ∀ (j : Nat) (v : Int64) (xm xw : List Int32) (vp : Int32) (xn xc : List Int32) (vs : Int32), j + k = 25 → iR xm xw xn xc → mm_E 201 21 [some (.ref 138), some (.int (nI x)), some (.long v), none, some (.int (nI j))] [] (mk_M c n m kk (rT (he, ke, ki, fi, fa, or, mi, a, g, l, w, s) xm xi xw im le nu rf ln nn vp xn xc vs)) (pM isL (he, ke, ki, fi, fa, or, mi, a, g, l, w, s) xi im le nu rf ln nn c n m kk) := by
  obtain ⟨hV, hst⟩ := id hA
  have hst2 : s ≤ 999 := hst
  obtain ⟨v1, v2, v3, v4, v5, v6, v7, v8, v9, v10, v11, v12, v13, v14, v15, v16⟩ := id hV
  have v6l := kO_len mi v7 or v6
  obtain ⟨c1, c2, c3⟩ := id hC
  induction k with
  | zero =>
    intro j v xm xw vp xn xc vs hj hR
    obtain ⟨r1, r2, r3, r4⟩ := id hR
    refine me_seg 2 (pc1 := 25) (ls1 := [some (.ref 138), some (.int (nI x)), some (.long v), none, some (.int (nI j))]) (st1 := [.int 25, .int (nI j)]) (M1 := (mk_M c n m kk (rT (he, ke, ki, fi, fa, or, mi, a, g, l, w, s) xm xi xw im le nu rf ln nn vp xn xc vs))) (fun f => rfl) ?_
    refine me_t (C := 25 ≤ (nI j)) (nI_let (a := 25) (b := j) (by omega)) (fun f => rfl) ?_
    refine me_seg 3 (pc1 := 53) (ls1 := [some (.ref 138), some (.int (nI x)), some (.long v), none, some (.int (nI j))]) (st1 := [.int (nI x), .long 25, .long v]) (M1 := (mk_M c n m kk (rT (he, ke, ki, fi, fa, or, mi, a, g, l, w, s) xm xi xw im le nu rf ln nn vp xn xc vs))) (fun f => rfl) ?_
    refine me_callE (y := 199) (y0 := 56) (L := [some (.long v), none, some (.long 25), none, some (.int (nI x))]) (rest := []) (fun f => rfl) (wm_po v 25 (nI x) _) ?_
    rintro _ _ ⟨⟨w_1, rfl⟩, rfl⟩
    refine me_ret 1 (r := some (.long w_1)) (M1 := (mk_M c n m kk (rT (he, ke, ki, fi, fa, or, mi, a, g, l, w, s) xm xi xw im le nu rf ln nn vp xn xc vs))) (fun f => rfl) ?_
    exact ⟨⟨_, rfl⟩, _, _, _, _, _, _, rfl, ⟨(by assumption), (by assumption), (by assumption), (by assumption)⟩⟩
  | succ k IH =>
    intro j v xm xw vp xn xc vs hj hR
    obtain ⟨r1, r2, r3, r4⟩ := id hR
    refine me_seg 2 (pc1 := 25) (ls1 := [some (.ref 138), some (.int (nI x)), some (.long v), none, some (.int (nI j))]) (st1 := [.int 25, .int (nI j)]) (M1 := (mk_M c n m kk (rT (he, ke, ki, fi, fa, or, mi, a, g, l, w, s) xm xi xw im le nu rf ln nn vp xn xc vs))) (fun f => rfl) ?_
    refine me_f (C := 25 ≤ (nI j)) (nI_lef (a := 25) (b := j) (by omega)) (fun f => rfl) ?_
    refine me_seg 6 (pc1 := 38) (ls1 := [some (.ref 138), some (.int (nI x)), some (.long v), none, some (.int (nI j))]) (st1 := [.int ((7 : Int32) + (nI j)), .ref 139, .long v]) (M1 := (mk_M c n m kk (rT (he, ke, ki, fi, fa, or, mi, a, g, l, w, s) xm xi xw im le nu rf ln nn vp xn xc vs))) (fun f => rfl) ?_
    refine me_v (nI_add 7 j) ?_
    refine me_ldn (xs := (er (he, ke, ki, fi, fa, or, mi, a, g, l, w, s))) rfl rfl (k := 7 + j) (by omega) (er_h (K := (he, ke, ki, fi, fa, or, mi, a, g, l, w, s)) v1 (by omega)) ?_
    refine me_seg 4 (pc1 := 45) (ls1 := [some (.ref 138), some (.int (nI x)), some (.long (v + ((nI (kg he j)).toInt64))), none, some (.int ((nI j) + 1))]) (st1 := []) (M1 := (mk_M c n m kk (rT (he, ke, ki, fi, fa, or, mi, a, g, l, w, s) xm xi xw im le nu rf ln nn vp xn xc vs))) (fun f => rfl) ?_
    refine me_l (fun q_ => [some (.ref 138), some (.int (nI x)), some (.long (v + ((nI (kg he j)).toInt64))), none, some (.int q_)]) (nI_add j 1) ?_
    refine me_seg 1 (pc1 := 21) (ls1 := [some (.ref 138), some (.int (nI x)), some (.long (v + ((nI (kg he j)).toInt64))), none, some (.int (nI (j + 1)))]) (st1 := []) (M1 := (mk_M c n m kk (rT (he, ke, ki, fi, fa, or, mi, a, g, l, w, s) xm xi xw im le nu rf ln nn vp xn xc vs))) (fun f => rfl) ?_
    exact IH (j + 1) (v + ((nI (kg he j)).toInt64)) xm xw vp xn xc vs (by omega) ⟨(by assumption), (by assumption), (by assumption), (by assumption)⟩
set_option maxRecDepth 100000 in
theorem wm_mean (he ke ki fi fa or : List Nat) (mi a g l w s : Nat) (xi : List Int32) (im : Nat) (le nu rf : List Nat) (ln nn : Nat) (c : cC) (n m kk : kG) (hA : iA (he, ke, ki, fi, fa, or, mi, a, g, l, w, s)) (hC : iC nu nn) (xm xw : List Int32) (vp : Int32) (xn xc : List Int32) (vs : Int32) (hR : iR xm xw xn xc) (x : Nat) (hx : x < 2) : mm_E 201 0 [some (.ref 138), some (.int (nI x)), none, none, none] [] (mk_M c n m kk (rT (he, ke, ki, fi, fa, or, mi, a, g, l, w, s) xm xi xw im le nu rf ln nn vp xn xc vs)) (pM isL (he, ke, ki, fi, fa, or, mi, a, g, l, w, s) xi im le nu rf ln nn c n m kk) := by
  obtain ⟨hV, hst⟩ := id hA
  have hst2 : s ≤ 999 := hst
  obtain ⟨v1, v2, v3, v4, v5, v6, v7, v8, v9, v10, v11, v12, v13, v14, v15, v16⟩ := id hV
  have v6l := kO_len mi v7 or v6
  obtain ⟨c1, c2, c3⟩ := id hC
  obtain ⟨r1, r2, r3, r4⟩ := id hR
  refine me_seg 3 (pc1 := 3) (ls1 := [some (.ref 138), some (.int (nI x)), none, none, none]) (st1 := [.int 1, .int 0, .int (nI x)]) (M1 := (mk_M c n m kk (rT (he, ke, ki, fi, fa, or, mi, a, g, l, w, s) xm xi xw im le nu rf ln nn vp xn xc vs))) (fun f => rfl) ?_
  refine me_call (y := 135) (y0 := 6) (L := [some (.int (nI x)), some (.int 0), some (.int 1)]) (rest := []) (rr := some (.int 1)) (M1 := (mk_M c n m kk (rT (he, ke, ki, fi, fa, or, mi, a, g, l, w, s) xm xi xw im le nu rf ln nn vp xn xc vs))) (fun f => rfl) (ms_in_ok (x := (nI x)) (a := 0) (b := 1) (nI_ltf (a := x) (b := 0) (by omega)) (nI_ltf (a := 1) (b := x) (by omega))) ?_
  refine me_seg 5 (pc1 := 21) (ls1 := [some (.ref 138), some (.int (nI x)), some (.long 0), none, some (.int 0)]) (st1 := []) (M1 := (mk_M c n m kk (rT (he, ke, ki, fi, fa, or, mi, a, g, l, w, s) xm xi xw im le nu rf ln nn vp xn xc vs))) (fun f => rfl) ?_
  exact wm_meanL he ke ki fi fa or mi a g l w s xi im le nu rf ln nn c n m kk hA hC x hx 25 0 0 xm xw vp xn xc vs (by omega) ⟨(by assumption), (by assumption), (by assumption), (by assumption)⟩
set_option maxRecDepth 100000 in
theorem wm_psL (he ke ki fi fa or : List Nat) (mi a g l w s : Nat) (xi : List Int32) (im : Nat) (le nu rf : List Nat) (ln nn : Nat) (c : cC) (n m kk : kG) (hA : iA (he, ke, ki, fi, fa, or, mi, a, g, l, w, s)) (hC : iC nu nn) (k : Nat) : ∀ (j : Nat) (b : Nat) (Q : kK) (xw : List Int32) (vp : Int32) (xn xc : List Int32) (vs : Int32), j + k = nn → iR (er Q) xw xn xc → kV Q → k_st Q + k < 2 ^ 20 → b ≤ 1 → mm_E 203 4 [some (.ref 138), some (.int (nI b)), some (.int (nI j))] [] (mk_M c n m kk (rT (he, ke, ki, fi, fa, or, mi, a, g, l, w, s) (er Q) xi xw im le nu rf ln nn vp xn xc vs)) (pM isB (he, ke, ki, fi, fa, or, mi, a, g, l, w, s) xi im le nu rf ln nn c n m kk) := by
  obtain ⟨hV, hst⟩ := id hA
  have hst2 : s ≤ 999 := hst
  obtain ⟨v1, v2, v3, v4, v5, v6, v7, v8, v9, v10, v11, v12, v13, v14, v15, v16⟩ := id hV
  have v6l := kO_len mi v7 or v6
  obtain ⟨c1, c2, c3⟩ := id hC
  induction k with
  | zero =>
    intro j b Q xw vp xn xc vs hj hR hQ hQs g0
    obtain ⟨r1, r2, r3, r4⟩ := id hR
    refine me_seg 3 (pc1 := 9) (ls1 := [some (.ref 138), some (.int (nI b)), some (.int (nI j))]) (st1 := [.int (nI nn), .int (nI j)]) (M1 := (mk_M c n m kk (rT (he, ke, ki, fi, fa, or, mi, a, g, l, w, s) (er Q) xi xw im le nu rf ln nn vp xn xc vs))) (fun f => rfl) ?_
    refine me_t (C := (nI nn) ≤ (nI j)) (nI_let (a := nn) (b := j) (by omega)) (fun f => rfl) ?_
    refine me_seg 1 (pc1 := 50) (ls1 := [some (.ref 138), some (.int (nI b)), some (.int (nI j))]) (st1 := [.int (nI b)]) (M1 := (mk_M c n m kk (rT (he, ke, ki, fi, fa, or, mi, a, g, l, w, s) (er Q) xi xw im le nu rf ln nn vp xn xc vs))) (fun f => rfl) ?_
    refine me_b01 (b := b) (by omega) (fun f => rfl) (fun f => rfl) ?_
    exact ⟨⟨b, by omega, rfl⟩, _, _, _, _, _, _, rfl, ⟨(er_len hQ), (by assumption), (by assumption), (by assumption)⟩⟩
  | succ k IH =>
    intro j b Q xw vp xn xc vs hj hR hQ hQs g0
    obtain ⟨r1, r2, r3, r4⟩ := id hR
    refine me_seg 3 (pc1 := 9) (ls1 := [some (.ref 138), some (.int (nI b)), some (.int (nI j))]) (st1 := [.int (nI nn), .int (nI j)]) (M1 := (mk_M c n m kk (rT (he, ke, ki, fi, fa, or, mi, a, g, l, w, s) (er Q) xi xw im le nu rf ln nn vp xn xc vs))) (fun f => rfl) ?_
    refine me_f (C := (nI nn) ≤ (nI j)) (nI_lef (a := nn) (b := j) (by omega)) (fun f => rfl) ?_
    refine me_seg 4 (pc1 := 18) (ls1 := [some (.ref 138), some (.int (nI b)), some (.int (nI j))]) (st1 := [.int 2, .ref 140, .int (nI b)]) (M1 := (mk_M c n m kk (rT (he, ke, ki, fi, fa, or, mi, a, g, l, w, s) (er Q) xi xw im le nu rf ln nn vp xn xc vs))) (fun f => rfl) ?_
    refine me_ldn (xs := (er Q)) rfl rfl (k := 2) (by decide) rfl ?_
    refine me_seg 3 (pc1 := 24) (ls1 := [some (.ref 138), some (.int (nI b)), some (.int (nI j))]) (st1 := [.int (nI j), .ref 144, .int (nI (k_at Q)), .int (nI b)]) (M1 := (mk_M c n m kk (rT (he, ke, ki, fi, fa, or, mi, a, g, l, w, s) (er Q) xi xw im le nu rf ln nn vp xn xc vs))) (fun f => rfl) ?_
    refine me_ldn (xs := (nu.map nI)) rfl rfl (k := j) (by omega) (kg_ok (by omega)) ?_
    refine me_if (C := (nI (k_at Q)) = (nI (kg nu j))) (fun f => rfl) (fun h1 => ?_) (fun h1 => ?_)
    · refine me_seg 3 (pc1 := 34) (ls1 := [some (.ref 138), some (.int (nI b)), some (.int (nI j))]) (st1 := [.int ((nI b) &&& (1 : Int32))]) (M1 := (mk_M c n m kk (rT (he, ke, ki, fi, fa, or, mi, a, g, l, w, s) (er Q) xi xw im le nu rf ln nn vp xn xc vs))) (fun f => rfl) ?_
      refine me_v (nx_and b 1) ?_
      refine me_seg 4 (pc1 := 40) (ls1 := [some (.ref 138), some (.int (nI (b &&& 1))), some (.int (nI j))]) (st1 := [.int 0, .ref 140]) (M1 := (mk_M c n m kk (rT (he, ke, ki, fi, fa, or, mi, a, g, l, w, s) (er Q) xi xw im le nu rf ln nn vp xn xc vs))) (fun f => rfl) ?_
      refine me_call (y := 146) (y0 := 43) (L := [some (.ref 140), some (.int 0), none, none, none]) (rest := []) (rr := none) (M1 := (mk_M c n m kk (rT (he, ke, ki, fi, fa, or, mi, a, g, l, w, s) (er (kstep Q 0)) xi xw im le nu rf ln nn vp xn xc vs))) (fun f => rfl) (rl_m c n m kk (rT (he, ke, ki, fi, fa, or, mi, a, g, l, w, s) (er Q) xi xw im le nu rf ln nn vp xn xc vs) (rc_stepQ Q 0 (by decide) hQ (Nat.lt_trans (m := 2 ^ 20) (by omega) (by decide))) rfl) ?_
      refine me_seg 1 (pc1 := 46) (ls1 := [some (.ref 138), some (.int (nI (b &&& 1))), some (.int ((nI j) + 1))]) (st1 := []) (M1 := (mk_M c n m kk (rT (he, ke, ki, fi, fa, or, mi, a, g, l, w, s) (er (kstep Q 0)) xi xw im le nu rf ln nn vp xn xc vs))) (fun f => rfl) ?_
      refine me_l (fun q_ => [some (.ref 138), some (.int (nI (b &&& 1))), some (.int q_)]) (nI_add j 1) ?_
      refine me_seg 1 (pc1 := 4) (ls1 := [some (.ref 138), some (.int (nI (b &&& 1))), some (.int (nI (j + 1)))]) (st1 := []) (M1 := (mk_M c n m kk (rT (he, ke, ki, fi, fa, or, mi, a, g, l, w, s) (er (kstep Q 0)) xi xw im le nu rf ln nn vp xn xc vs))) (fun f => rfl) ?_
      exact IH (j + 1) (b &&& 1) (kstep Q 0) xw vp xn xc vs (by omega) ⟨(er_len (kV_step hQ 0)), (by assumption), (by assumption), (by assumption)⟩ (kV_step hQ 0) (by first | omega | (rw [kst_step]; omega)) (Nat.le_trans Nat.and_le_right (by decide))
    · refine me_seg 2 (pc1 := 34) (ls1 := [some (.ref 138), some (.int (nI b)), some (.int (nI j))]) (st1 := [.int ((nI b) &&& (0 : Int32))]) (M1 := (mk_M c n m kk (rT (he, ke, ki, fi, fa, or, mi, a, g, l, w, s) (er Q) xi xw im le nu rf ln nn vp xn xc vs))) (fun f => rfl) ?_
      refine me_v (nx_and b 0) ?_
      refine me_seg 4 (pc1 := 40) (ls1 := [some (.ref 138), some (.int (nI (b &&& 0))), some (.int (nI j))]) (st1 := [.int 0, .ref 140]) (M1 := (mk_M c n m kk (rT (he, ke, ki, fi, fa, or, mi, a, g, l, w, s) (er Q) xi xw im le nu rf ln nn vp xn xc vs))) (fun f => rfl) ?_
      refine me_call (y := 146) (y0 := 43) (L := [some (.ref 140), some (.int 0), none, none, none]) (rest := []) (rr := none) (M1 := (mk_M c n m kk (rT (he, ke, ki, fi, fa, or, mi, a, g, l, w, s) (er (kstep Q 0)) xi xw im le nu rf ln nn vp xn xc vs))) (fun f => rfl) (rl_m c n m kk (rT (he, ke, ki, fi, fa, or, mi, a, g, l, w, s) (er Q) xi xw im le nu rf ln nn vp xn xc vs) (rc_stepQ Q 0 (by decide) hQ (Nat.lt_trans (m := 2 ^ 20) (by omega) (by decide))) rfl) ?_
      refine me_seg 1 (pc1 := 46) (ls1 := [some (.ref 138), some (.int (nI (b &&& 0))), some (.int ((nI j) + 1))]) (st1 := []) (M1 := (mk_M c n m kk (rT (he, ke, ki, fi, fa, or, mi, a, g, l, w, s) (er (kstep Q 0)) xi xw im le nu rf ln nn vp xn xc vs))) (fun f => rfl) ?_
      refine me_l (fun q_ => [some (.ref 138), some (.int (nI (b &&& 0))), some (.int q_)]) (nI_add j 1) ?_
      refine me_seg 1 (pc1 := 4) (ls1 := [some (.ref 138), some (.int (nI (b &&& 0))), some (.int (nI (j + 1)))]) (st1 := []) (M1 := (mk_M c n m kk (rT (he, ke, ki, fi, fa, or, mi, a, g, l, w, s) (er (kstep Q 0)) xi xw im le nu rf ln nn vp xn xc vs))) (fun f => rfl) ?_
      exact IH (j + 1) (b &&& 0) (kstep Q 0) xw vp xn xc vs (by omega) ⟨(er_len (kV_step hQ 0)), (by assumption), (by assumption), (by assumption)⟩ (kV_step hQ 0) (by first | omega | (rw [kst_step]; omega)) (Nat.le_trans Nat.and_le_right (by decide))
set_option maxRecDepth 100000 in
theorem wm_ps (he ke ki fi fa or : List Nat) (mi a g l w s : Nat) (xi : List Int32) (im : Nat) (le nu rf : List Nat) (ln nn : Nat) (c : cC) (n m kk : kG) (hA : iA (he, ke, ki, fi, fa, or, mi, a, g, l, w, s)) (hC : iC nu nn) (Q : kK) (xw : List Int32) (vp : Int32) (xn xc : List Int32) (vs : Int32) (hR : iR (er Q) xw xn xc) (hQ : kV Q) (hQs : k_st Q + 100 < 2 ^ 20) : mm_E 203 0 [some (.ref 138), none, none] [] (mk_M c n m kk (rT (he, ke, ki, fi, fa, or, mi, a, g, l, w, s) (er Q) xi xw im le nu rf ln nn vp xn xc vs)) (pM isB (he, ke, ki, fi, fa, or, mi, a, g, l, w, s) xi im le nu rf ln nn c n m kk) := by
  obtain ⟨hV, hst⟩ := id hA
  have hst2 : s ≤ 999 := hst
  obtain ⟨v1, v2, v3, v4, v5, v6, v7, v8, v9, v10, v11, v12, v13, v14, v15, v16⟩ := id hV
  have v6l := kO_len mi v7 or v6
  obtain ⟨c1, c2, c3⟩ := id hC
  obtain ⟨r1, r2, r3, r4⟩ := id hR
  refine me_seg 4 (pc1 := 4) (ls1 := [some (.ref 138), some (.int 1), some (.int 0)]) (st1 := []) (M1 := (mk_M c n m kk (rT (he, ke, ki, fi, fa, or, mi, a, g, l, w, s) (er Q) xi xw im le nu rf ln nn vp xn xc vs))) (fun f => rfl) ?_
  exact wm_psL he ke ki fi fa or mi a g l w s xi im le nu rf ln nn c n m kk hA hC nn 0 1 Q xw vp xn xc vs (by omega) ⟨(er_len hQ), (by assumption), (by assumption), (by assumption)⟩ hQ (by omega) (by omega)
set_option maxRecDepth 100000 in
theorem wm_wp0L (he ke ki fi fa or : List Nat) (mi a g l w s : Nat) (xi : List Int32) (im : Nat) (le nu rf : List Nat) (ln nn : Nat) (c : cC) (n m kk : kG) (hA : iA (he, ke, ki, fi, fa, or, mi, a, g, l, w, s)) (hC : iC nu nn) (k : Nat) : ∀ (j : Nat) (v : Int32) (xm xw : List Int32) (vp : Int32) (xn xc : List Int32) (vs : Int32), j + k = mi → iR xm xw xn xc → mm_E 202 20 [some (.ref 138), some (.int 0), some (.int v), some (.int (nI j))] [] (mk_M c n m kk (rT (he, ke, ki, fi, fa, or, mi, a, g, l, w, s) xm xi xw im le nu rf ln nn vp xn xc vs)) (pM isI (he, ke, ki, fi, fa, or, mi, a, g, l, w, s) xi im le nu rf ln nn c n m kk) := by
  obtain ⟨hV, hst⟩ := id hA
  have hst2 : s ≤ 999 := hst
  obtain ⟨v1, v2, v3, v4, v5, v6, v7, v8, v9, v10, v11, v12, v13, v14, v15, v16⟩ := id hV
  have v6l := kO_len mi v7 or v6
  obtain ⟨c1, c2, c3⟩ := id hC
  induction k with
  | zero =>
    intro j v xm xw vp xn xc vs hj hR
    obtain ⟨r1, r2, r3, r4⟩ := id hR
    refine me_seg 6 (pc1 := 30) (ls1 := [some (.ref 138), some (.int 0), some (.int v), some (.int (nI j))]) (st1 := [.int 0, .ref 139, .int (nI j)]) (M1 := (mk_M c n m kk (rT (he, ke, ki, fi, fa, or, mi, a, g, l, w, s) xm xi xw im le nu rf ln nn vp xn xc vs))) (fun f => rfl) ?_
    refine me_ldn (xs := (er (he, ke, ki, fi, fa, or, mi, a, g, l, w, s))) rfl rfl (k := 0) (by decide) rfl ?_
    refine me_seg 1 (pc1 := 49) (ls1 := [some (.ref 138), some (.int 0), some (.int v), some (.int (nI j))]) (st1 := [.int (nI mi), .int (nI j)]) (M1 := (mk_M c n m kk (rT (he, ke, ki, fi, fa, or, mi, a, g, l, w, s) xm xi xw im le nu rf ln nn vp xn xc vs))) (fun f => rfl) ?_
    refine me_t (C := (nI mi) ≤ (nI j)) (nI_let (a := mi) (b := j) (by omega)) (fun f => rfl) ?_
    refine me_ret 2 (r := some (.int v)) (M1 := (mk_M c n m kk (rT (he, ke, ki, fi, fa, or, mi, a, g, l, w, s) xm xi xw im le nu rf ln nn vp xn xc vs))) (fun f => rfl) ?_
    exact ⟨⟨_, rfl⟩, _, _, _, _, _, _, rfl, ⟨(by assumption), (by assumption), (by assumption), (by assumption)⟩⟩
  | succ k IH =>
    intro j v xm xw vp xn xc vs hj hR
    obtain ⟨r1, r2, r3, r4⟩ := id hR
    refine me_seg 6 (pc1 := 30) (ls1 := [some (.ref 138), some (.int 0), some (.int v), some (.int (nI j))]) (st1 := [.int 0, .ref 139, .int (nI j)]) (M1 := (mk_M c n m kk (rT (he, ke, ki, fi, fa, or, mi, a, g, l, w, s) xm xi xw im le nu rf ln nn vp xn xc vs))) (fun f => rfl) ?_
    refine me_ldn (xs := (er (he, ke, ki, fi, fa, or, mi, a, g, l, w, s))) rfl rfl (k := 0) (by decide) rfl ?_
    refine me_seg 1 (pc1 := 49) (ls1 := [some (.ref 138), some (.int 0), some (.int v), some (.int (nI j))]) (st1 := [.int (nI mi), .int (nI j)]) (M1 := (mk_M c n m kk (rT (he, ke, ki, fi, fa, or, mi, a, g, l, w, s) xm xi xw im le nu rf ln nn vp xn xc vs))) (fun f => rfl) ?_
    refine me_f (C := (nI mi) ≤ (nI j)) (nI_lef (a := mi) (b := j) (by omega)) (fun f => rfl) ?_
    refine me_seg 4 (pc1 := 60) (ls1 := [some (.ref 138), some (.int 0), some (.int v), some (.int (nI j))]) (st1 := [.ref 140, .ref 139]) (M1 := (mk_M c n m kk (rT (he, ke, ki, fi, fa, or, mi, a, g, l, w, s) xm xi xw im le nu rf ln nn vp xn xc vs))) (fun f => rfl) ?_
    refine me_call (y := 138) (y0 := 63) (L := [some (.ref 139), some (.ref 140), none]) (rest := []) (rr := none) (M1 := (mk_M c n m kk (rT (he, ke, ki, fi, fa, or, mi, a, g, l, w, s) (er (he, ke, ki, fi, fa, or, mi, a, g, l, w, s)) xi xw im le nu rf ln nn vp xn xc vs))) (fun f => rfl) (rc_copies (a := 140) (b := 139) (by decide) rfl rfl (er_len hV) (by assumption)) ?_
    refine me_seg 5 (pc1 := 72) (ls1 := [some (.ref 138), some (.int 0), some (.int v), some (.int (nI j))]) (st1 := [.int (nI j), .ref 140]) (M1 := (mk_M c n m kk (rT (he, ke, ki, fi, fa, or, mi, a, g, l, w, s) (er (he, ke, ki, fi, fa, or, mi, a, g, l, w, s)) xi xw im le nu rf ln nn vp xn xc vs))) (fun f => rfl) ?_
    refine me_call (y := 183) (y0 := 75) (L := [some (.ref 140), some (.int (nI j)), none]) (rest := []) (rr := none) (M1 := (mk_M c n m kk (rT (he, ke, ki, fi, fa, or, mi, a, g, l, w, s) (er (kpf (he, ke, ki, fi, fa, or, mi, a, g, l, w, s) j)) xi xw im le nu rf ln nn vp xn xc vs))) (fun f => rfl) (rl_m c n m kk (rT (he, ke, ki, fi, fa, or, mi, a, g, l, w, s) (er (he, ke, ki, fi, fa, or, mi, a, g, l, w, s)) xi xw im le nu rf ln nn vp xn xc vs) (rc_pfQ (he, ke, ki, fi, fa, or, mi, a, g, l, w, s) j (show j < mi by omega) hV) rfl) ?_
    refine me_seg 3 (pc1 := 97) (ls1 := [some (.ref 138), some (.int 0), some (.int v), some (.int (nI j))]) (st1 := [.ref 138, .int v]) (M1 := (mk_M c n m kk (rT (he, ke, ki, fi, fa, or, mi, a, g, l, w, s) (er (kpf (he, ke, ki, fi, fa, or, mi, a, g, l, w, s) j)) xi xw im le nu rf ln nn vp xn xc vs))) (fun f => rfl) ?_
    refine me_callE (y := 203) (y0 := 100) (L := [some (.ref 138), none, none]) (rest := [.int v]) (fun f => rfl) (wm_ps he ke ki fi fa or mi a g l w s xi im le nu rf ln nn c n m kk hA hC (kpf (he, ke, ki, fi, fa, or, mi, a, g, l, w, s) j) xw vp xn xc vs ⟨(er_len (kV_pf hV (show j < mi by omega))), (by assumption), (by assumption), (by assumption)⟩ (kV_pf hV (show j < mi by omega)) (show s + 100 < 2 ^ 20 by omega)) ?_
    rintro _ _ ⟨⟨b_1, hb_1, rfl⟩, xm_1, xw_1, vp_1, xn_1, xc_1, vs_1, rfl, hR_1⟩
    obtain ⟨r1_1, r2_1, r3_1, r4_1⟩ := id hR_1
    refine me_if (C := (nI b_1) = 0) (fun f => rfl) (fun h2 => ?_) (fun h2 => ?_)
    · refine me_seg 4 (pc1 := 115) (ls1 := [some (.ref 138), some (.int 0), some (.int (v ||| (0 : Int32))), some (.int ((nI j) + 1))]) (st1 := []) (M1 := (mk_M c n m kk (rT (he, ke, ki, fi, fa, or, mi, a, g, l, w, s) xm_1 xi xw_1 im le nu rf ln nn vp_1 xn_1 xc_1 vs_1))) (fun f => rfl) ?_
      refine me_l (fun q_ => [some (.ref 138), some (.int 0), some (.int (v ||| (0 : Int32))), some (.int q_)]) (nI_add j 1) ?_
      refine me_seg 1 (pc1 := 20) (ls1 := [some (.ref 138), some (.int 0), some (.int (v ||| (0 : Int32))), some (.int (nI (j + 1)))]) (st1 := []) (M1 := (mk_M c n m kk (rT (he, ke, ki, fi, fa, or, mi, a, g, l, w, s) xm_1 xi xw_1 im le nu rf ln nn vp_1 xn_1 xc_1 vs_1))) (fun f => rfl) ?_
      exact IH (j + 1) (v ||| (0 : Int32)) xm_1 xw_1 vp_1 xn_1 xc_1 vs_1 (by omega) ⟨(by assumption), (by assumption), (by assumption), (by assumption)⟩
    · refine me_seg 7 (pc1 := 115) (ls1 := [some (.ref 138), some (.int 0), some (.int (v ||| ((1 : Int32) <<< ((nI j) &&& 31)))), some (.int ((nI j) + 1))]) (st1 := []) (M1 := (mk_M c n m kk (rT (he, ke, ki, fi, fa, or, mi, a, g, l, w, s) xm_1 xi xw_1 im le nu rf ln nn vp_1 xn_1 xc_1 vs_1))) (fun f => rfl) ?_
      refine me_l (fun q_ => [some (.ref 138), some (.int 0), some (.int (v ||| ((1 : Int32) <<< ((nI j) &&& 31)))), some (.int q_)]) (nI_add j 1) ?_
      refine me_seg 1 (pc1 := 20) (ls1 := [some (.ref 138), some (.int 0), some (.int (v ||| ((1 : Int32) <<< ((nI j) &&& 31)))), some (.int (nI (j + 1)))]) (st1 := []) (M1 := (mk_M c n m kk (rT (he, ke, ki, fi, fa, or, mi, a, g, l, w, s) xm_1 xi xw_1 im le nu rf ln nn vp_1 xn_1 xc_1 vs_1))) (fun f => rfl) ?_
      exact IH (j + 1) (v ||| ((1 : Int32) <<< ((nI j) &&& 31))) xm_1 xw_1 vp_1 xn_1 xc_1 vs_1 (by omega) ⟨(by assumption), (by assumption), (by assumption), (by assumption)⟩
set_option maxRecDepth 100000 in
theorem wm_whoPushed_0 (he ke ki fi fa or : List Nat) (mi a g l w s : Nat) (xi : List Int32) (im : Nat) (le nu rf : List Nat) (ln nn : Nat) (c : cC) (n m kk : kG) (hA : iA (he, ke, ki, fi, fa, or, mi, a, g, l, w, s)) (hC : iC nu nn) (xm xw : List Int32) (vp : Int32) (xn xc : List Int32) (vs : Int32) (hR : iR xm xw xn xc) : mm_E 202 0 [some (.ref 138), some (.int 0), none, none] [] (mk_M c n m kk (rT (he, ke, ki, fi, fa, or, mi, a, g, l, w, s) xm xi xw im le nu rf ln nn vp xn xc vs)) (pM isI (he, ke, ki, fi, fa, or, mi, a, g, l, w, s) xi im le nu rf ln nn c n m kk) := by
  obtain ⟨hV, hst⟩ := id hA
  have hst2 : s ≤ 999 := hst
  obtain ⟨v1, v2, v3, v4, v5, v6, v7, v8, v9, v10, v11, v12, v13, v14, v15, v16⟩ := id hV
  have v6l := kO_len mi v7 or v6
  obtain ⟨c1, c2, c3⟩ := id hC
  obtain ⟨r1, r2, r3, r4⟩ := id hR
  refine me_seg 3 (pc1 := 3) (ls1 := [some (.ref 138), some (.int 0), none, none]) (st1 := [.int 1, .int 0, .int 0]) (M1 := (mk_M c n m kk (rT (he, ke, ki, fi, fa, or, mi, a, g, l, w, s) xm xi xw im le nu rf ln nn vp xn xc vs))) (fun f => rfl) ?_
  refine me_call (y := 135) (y0 := 6) (L := [some (.int 0), some (.int 0), some (.int 1)]) (rest := []) (rr := some (.int 1)) (M1 := (mk_M c n m kk (rT (he, ke, ki, fi, fa, or, mi, a, g, l, w, s) xm xi xw im le nu rf ln nn vp xn xc vs))) (fun f => rfl) (by
      exact mr_ret 9 (fun f => rfl)) ?_
  refine me_seg 5 (pc1 := 20) (ls1 := [some (.ref 138), some (.int 0), some (.int 0), some (.int 0)]) (st1 := []) (M1 := (mk_M c n m kk (rT (he, ke, ki, fi, fa, or, mi, a, g, l, w, s) xm xi xw im le nu rf ln nn vp xn xc vs))) (fun f => rfl) ?_
  exact wm_wp0L he ke ki fi fa or mi a g l w s xi im le nu rf ln nn c n m kk hA hC mi 0 0 xm xw vp xn xc vs (by omega) ⟨(by assumption), (by assumption), (by assumption), (by assumption)⟩
set_option maxRecDepth 100000 in
theorem wm_wp1L (he ke ki fi fa or : List Nat) (mi a g l w s : Nat) (xi : List Int32) (im : Nat) (le nu rf : List Nat) (ln nn : Nat) (c : cC) (n m kk : kG) (hA : iA (he, ke, ki, fi, fa, or, mi, a, g, l, w, s)) (hC : iC nu nn) (hm : 0 < mi) (k : Nat) : ∀ (j : Nat) (v : Int32) (xm xw : List Int32) (vp : Int32) (xn xc : List Int32) (vs : Int32), j + k = 6 → iR xm xw xn xc → mm_E 202 20 [some (.ref 138), some (.int 1), some (.int v), some (.int (nI j))] [] (mk_M c n m kk (rT (he, ke, ki, fi, fa, or, mi, a, g, l, w, s) xm xi xw im le nu rf ln nn vp xn xc vs)) (pM isI (he, ke, ki, fi, fa, or, mi, a, g, l, w, s) xi im le nu rf ln nn c n m kk) := by
  obtain ⟨hV, hst⟩ := id hA
  have hst2 : s ≤ 999 := hst
  obtain ⟨v1, v2, v3, v4, v5, v6, v7, v8, v9, v10, v11, v12, v13, v14, v15, v16⟩ := id hV
  have v6l := kO_len mi v7 or v6
  obtain ⟨c1, c2, c3⟩ := id hC
  induction k with
  | zero =>
    intro j v xm xw vp xn xc vs hj hR
    obtain ⟨r1, r2, r3, r4⟩ := id hR
    have v60 := kO_lt5 mi v7 or v6 0 (by omega)
    refine me_seg 6 (pc1 := 39) (ls1 := [some (.ref 138), some (.int 1), some (.int v), some (.int (nI j))]) (st1 := [.int 0, .ref 139, .int (nI j)]) (M1 := (mk_M c n m kk (rT (he, ke, ki, fi, fa, or, mi, a, g, l, w, s) xm xi xw im le nu rf ln nn vp xn xc vs))) (fun f => rfl) ?_
    refine me_ldn (xs := (er (he, ke, ki, fi, fa, or, mi, a, g, l, w, s))) rfl rfl (k := 0) (by decide) rfl ?_
    refine me_f (C := (nI mi) = 0) (nI_eqf (a := mi) (b := 0) (by omega)) (fun f => rfl) ?_
    refine me_seg 1 (pc1 := 49) (ls1 := [some (.ref 138), some (.int 1), some (.int v), some (.int (nI j))]) (st1 := [.int 6, .int (nI j)]) (M1 := (mk_M c n m kk (rT (he, ke, ki, fi, fa, or, mi, a, g, l, w, s) xm xi xw im le nu rf ln nn vp xn xc vs))) (fun f => rfl) ?_
    refine me_t (C := 6 ≤ (nI j)) (nI_let (a := 6) (b := j) (by omega)) (fun f => rfl) ?_
    refine me_ret 2 (r := some (.int v)) (M1 := (mk_M c n m kk (rT (he, ke, ki, fi, fa, or, mi, a, g, l, w, s) xm xi xw im le nu rf ln nn vp xn xc vs))) (fun f => rfl) ?_
    exact ⟨⟨_, rfl⟩, _, _, _, _, _, _, rfl, ⟨(by assumption), (by assumption), (by assumption), (by assumption)⟩⟩
  | succ k IH =>
    intro j v xm xw vp xn xc vs hj hR
    obtain ⟨r1, r2, r3, r4⟩ := id hR
    have v60 := kO_lt5 mi v7 or v6 0 (by omega)
    refine me_seg 6 (pc1 := 39) (ls1 := [some (.ref 138), some (.int 1), some (.int v), some (.int (nI j))]) (st1 := [.int 0, .ref 139, .int (nI j)]) (M1 := (mk_M c n m kk (rT (he, ke, ki, fi, fa, or, mi, a, g, l, w, s) xm xi xw im le nu rf ln nn vp xn xc vs))) (fun f => rfl) ?_
    refine me_ldn (xs := (er (he, ke, ki, fi, fa, or, mi, a, g, l, w, s))) rfl rfl (k := 0) (by decide) rfl ?_
    refine me_f (C := (nI mi) = 0) (nI_eqf (a := mi) (b := 0) (by omega)) (fun f => rfl) ?_
    refine me_seg 1 (pc1 := 49) (ls1 := [some (.ref 138), some (.int 1), some (.int v), some (.int (nI j))]) (st1 := [.int 6, .int (nI j)]) (M1 := (mk_M c n m kk (rT (he, ke, ki, fi, fa, or, mi, a, g, l, w, s) xm xi xw im le nu rf ln nn vp xn xc vs))) (fun f => rfl) ?_
    refine me_f (C := 6 ≤ (nI j)) (nI_lef (a := 6) (b := j) (by omega)) (fun f => rfl) ?_
    refine me_seg 4 (pc1 := 60) (ls1 := [some (.ref 138), some (.int 1), some (.int v), some (.int (nI j))]) (st1 := [.ref 140, .ref 139]) (M1 := (mk_M c n m kk (rT (he, ke, ki, fi, fa, or, mi, a, g, l, w, s) xm xi xw im le nu rf ln nn vp xn xc vs))) (fun f => rfl) ?_
    refine me_call (y := 138) (y0 := 63) (L := [some (.ref 139), some (.ref 140), none]) (rest := []) (rr := none) (M1 := (mk_M c n m kk (rT (he, ke, ki, fi, fa, or, mi, a, g, l, w, s) (er (he, ke, ki, fi, fa, or, mi, a, g, l, w, s)) xi xw im le nu rf ln nn vp xn xc vs))) (fun f => rfl) (rc_copies (a := 140) (b := 139) (by decide) rfl rfl (er_len hV) (by assumption)) ?_
    refine me_seg 7 (pc1 := 88) (ls1 := [some (.ref 138), some (.int 1), some (.int v), some (.int (nI j))]) (st1 := [.int 47, .ref 139, .ref 140]) (M1 := (mk_M c n m kk (rT (he, ke, ki, fi, fa, or, mi, a, g, l, w, s) (er (he, ke, ki, fi, fa, or, mi, a, g, l, w, s)) xi xw im le nu rf ln nn vp xn xc vs))) (fun f => rfl) ?_
    refine me_ldn (xs := (er (he, ke, ki, fi, fa, or, mi, a, g, l, w, s))) rfl rfl (k := 47) (by decide) (er_or (K := (he, ke, ki, fi, fa, or, mi, a, g, l, w, s)) v1 v6l (j := 0) (by decide)) ?_
    refine me_seg 1 (pc1 := 90) (ls1 := [some (.ref 138), some (.int 1), some (.int v), some (.int (nI j))]) (st1 := [.int 0, .int (nI (kg or 0)), .ref 140]) (M1 := (mk_M c n m kk (rT (he, ke, ki, fi, fa, or, mi, a, g, l, w, s) (er (he, ke, ki, fi, fa, or, mi, a, g, l, w, s)) xi xw im le nu rf ln nn vp xn xc vs))) (fun f => rfl) ?_
    refine me_call (y := 141) (y0 := 93) (L := [some (.int (nI (kg or 0))), some (.int 0)]) (rest := [.ref 140]) (rr := some (.int (nI (32 + 3 * (kg or 0) + 0)))) (M1 := (mk_M c n m kk (rT (he, ke, ki, fi, fa, or, mi, a, g, l, w, s) (er (he, ke, ki, fi, fa, or, mi, a, g, l, w, s)) xi xw im le nu rf ln nn vp xn xc vs))) (fun f => rfl) (rc_of (kg or 0) 0 (by omega) (by decide) _) ?_
    refine me_seg 1 (pc1 := 94) (ls1 := [some (.ref 138), some (.int 1), some (.int v), some (.int (nI j))]) (st1 := [.int (nI j), .int (nI (32 + 3 * (kg or 0) + 0)), .ref 140]) (M1 := (mk_M c n m kk (rT (he, ke, ki, fi, fa, or, mi, a, g, l, w, s) (er (he, ke, ki, fi, fa, or, mi, a, g, l, w, s)) xi xw im le nu rf ln nn vp xn xc vs))) (fun f => rfl) ?_
    refine me_stn (xs := (er (he, ke, ki, fi, fa, or, mi, a, g, l, w, s))) (ys := (er (he, ke, ki.set (kg or 0) j, fi, fa, or, mi, a, g, l, w, s))) (M2 := (mk_MR c n m kk (er (he, ke, ki, fi, fa, or, mi, a, g, l, w, s)) (er (he, ke, ki.set (kg or 0) j, fi, fa, or, mi, a, g, l, w, s)) xi xw (nI im) (le.map nI) (nu.map nI) (rf.map nI) (nI ln) (nI nn) vp xn xc vs)) rfl rfl (k := 32 + 3 * (kg or 0) + 0) (by omega) (by rw [er_leq (K := (he, ke, ki, fi, fa, or, mi, a, g, l, w, s)) v1 v6l]; omega) (er_kis (K := (he, ke, ki, fi, fa, or, mi, a, g, l, w, s)) v1 v3 (by omega)) rfl ?_
    refine me_M (mk_MRk c n m kk (he, ke, ki, fi, fa, or, mi, a, g, l, w, s) (er (he, ke, ki.set (kg or 0) j, fi, fa, or, mi, a, g, l, w, s)) xi xw im le nu rf ln nn vp xn xc vs) ?_
    refine me_seg 2 (pc1 := 97) (ls1 := [some (.ref 138), some (.int 1), some (.int v), some (.int (nI j))]) (st1 := [.ref 138, .int v]) (M1 := (mk_M c n m kk (rT (he, ke, ki, fi, fa, or, mi, a, g, l, w, s) (er (he, ke, ki.set (kg or 0) j, fi, fa, or, mi, a, g, l, w, s)) xi xw im le nu rf ln nn vp xn xc vs))) (fun f => rfl) ?_
    refine me_callE (y := 203) (y0 := 100) (L := [some (.ref 138), none, none]) (rest := [.int v]) (fun f => rfl) (wm_ps he ke ki fi fa or mi a g l w s xi im le nu rf ln nn c n m kk hA hC (he, ke, ki.set (kg or 0) j, fi, fa, or, mi, a, g, l, w, s) xw vp xn xc vs ⟨(er_len ⟨v1, v2, by rw [List.length_set]; exact v3, v4, v5, v6, v7, v8, v9, v10, v11, v12, v13, fun i => by rw [kg_setc]; split; omega; exact v14 i, v15, v16⟩), (by assumption), (by assumption), (by assumption)⟩ ⟨v1, v2, by rw [List.length_set]; exact v3, v4, v5, v6, v7, v8, v9, v10, v11, v12, v13, fun i => by rw [kg_setc]; split; omega; exact v14 i, v15, v16⟩ (show s + 100 < 2 ^ 20 by omega)) ?_
    rintro _ _ ⟨⟨b_1, hb_1, rfl⟩, xm_1, xw_1, vp_1, xn_1, xc_1, vs_1, rfl, hR_1⟩
    obtain ⟨r1_1, r2_1, r3_1, r4_1⟩ := id hR_1
    refine me_if (C := (nI b_1) = 0) (fun f => rfl) (fun h2 => ?_) (fun h2 => ?_)
    · refine me_seg 4 (pc1 := 115) (ls1 := [some (.ref 138), some (.int 1), some (.int (v ||| (0 : Int32))), some (.int ((nI j) + 1))]) (st1 := []) (M1 := (mk_M c n m kk (rT (he, ke, ki, fi, fa, or, mi, a, g, l, w, s) xm_1 xi xw_1 im le nu rf ln nn vp_1 xn_1 xc_1 vs_1))) (fun f => rfl) ?_
      refine me_l (fun q_ => [some (.ref 138), some (.int 1), some (.int (v ||| (0 : Int32))), some (.int q_)]) (nI_add j 1) ?_
      refine me_seg 1 (pc1 := 20) (ls1 := [some (.ref 138), some (.int 1), some (.int (v ||| (0 : Int32))), some (.int (nI (j + 1)))]) (st1 := []) (M1 := (mk_M c n m kk (rT (he, ke, ki, fi, fa, or, mi, a, g, l, w, s) xm_1 xi xw_1 im le nu rf ln nn vp_1 xn_1 xc_1 vs_1))) (fun f => rfl) ?_
      exact IH (j + 1) (v ||| (0 : Int32)) xm_1 xw_1 vp_1 xn_1 xc_1 vs_1 (by omega) ⟨(by assumption), (by assumption), (by assumption), (by assumption)⟩
    · refine me_seg 7 (pc1 := 115) (ls1 := [some (.ref 138), some (.int 1), some (.int (v ||| ((1 : Int32) <<< ((nI j) &&& 31)))), some (.int ((nI j) + 1))]) (st1 := []) (M1 := (mk_M c n m kk (rT (he, ke, ki, fi, fa, or, mi, a, g, l, w, s) xm_1 xi xw_1 im le nu rf ln nn vp_1 xn_1 xc_1 vs_1))) (fun f => rfl) ?_
      refine me_l (fun q_ => [some (.ref 138), some (.int 1), some (.int (v ||| ((1 : Int32) <<< ((nI j) &&& 31)))), some (.int q_)]) (nI_add j 1) ?_
      refine me_seg 1 (pc1 := 20) (ls1 := [some (.ref 138), some (.int 1), some (.int (v ||| ((1 : Int32) <<< ((nI j) &&& 31)))), some (.int (nI (j + 1)))]) (st1 := []) (M1 := (mk_M c n m kk (rT (he, ke, ki, fi, fa, or, mi, a, g, l, w, s) xm_1 xi xw_1 im le nu rf ln nn vp_1 xn_1 xc_1 vs_1))) (fun f => rfl) ?_
      exact IH (j + 1) (v ||| ((1 : Int32) <<< ((nI j) &&& 31))) xm_1 xw_1 vp_1 xn_1 xc_1 vs_1 (by omega) ⟨(by assumption), (by assumption), (by assumption), (by assumption)⟩
set_option maxRecDepth 100000 in
theorem wm_whoPushed_1 (he ke ki fi fa or : List Nat) (mi a g l w s : Nat) (xi : List Int32) (im : Nat) (le nu rf : List Nat) (ln nn : Nat) (c : cC) (n m kk : kG) (hA : iA (he, ke, ki, fi, fa, or, mi, a, g, l, w, s)) (hC : iC nu nn) (xm xw : List Int32) (vp : Int32) (xn xc : List Int32) (vs : Int32) (hR : iR xm xw xn xc) : mm_E 202 0 [some (.ref 138), some (.int 1), none, none] [] (mk_M c n m kk (rT (he, ke, ki, fi, fa, or, mi, a, g, l, w, s) xm xi xw im le nu rf ln nn vp xn xc vs)) (pM isI (he, ke, ki, fi, fa, or, mi, a, g, l, w, s) xi im le nu rf ln nn c n m kk) := by
  obtain ⟨hV, hst⟩ := id hA
  have hst2 : s ≤ 999 := hst
  obtain ⟨v1, v2, v3, v4, v5, v6, v7, v8, v9, v10, v11, v12, v13, v14, v15, v16⟩ := id hV
  have v6l := kO_len mi v7 or v6
  obtain ⟨c1, c2, c3⟩ := id hC
  obtain ⟨r1, r2, r3, r4⟩ := id hR
  refine me_seg 3 (pc1 := 3) (ls1 := [some (.ref 138), some (.int 1), none, none]) (st1 := [.int 1, .int 0, .int 1]) (M1 := (mk_M c n m kk (rT (he, ke, ki, fi, fa, or, mi, a, g, l, w, s) xm xi xw im le nu rf ln nn vp xn xc vs))) (fun f => rfl) ?_
  refine me_call (y := 135) (y0 := 6) (L := [some (.int 1), some (.int 0), some (.int 1)]) (rest := []) (rr := some (.int 1)) (M1 := (mk_M c n m kk (rT (he, ke, ki, fi, fa, or, mi, a, g, l, w, s) xm xi xw im le nu rf ln nn vp xn xc vs))) (fun f => rfl) (by
      exact mr_ret 9 (fun f => rfl)) ?_
  refine me_seg 5 (pc1 := 20) (ls1 := [some (.ref 138), some (.int 1), some (.int 0), some (.int 0)]) (st1 := []) (M1 := (mk_M c n m kk (rT (he, ke, ki, fi, fa, or, mi, a, g, l, w, s) xm xi xw im le nu rf ln nn vp xn xc vs))) (fun f => rfl) ?_
  rcases Nat.eq_zero_or_pos mi with h0 | h0
  · refine me_seg 6 (pc1 := 39) (ls1 := [some (.ref 138), some (.int 1), some (.int 0), some (.int 0)]) (st1 := [.int 0, .ref 139, .int 0]) (M1 := (mk_M c n m kk (rT (he, ke, ki, fi, fa, or, mi, a, g, l, w, s) xm xi xw im le nu rf ln nn vp xn xc vs))) (fun f => rfl) ?_
    refine me_ldn (xs := (er (he, ke, ki, fi, fa, or, mi, a, g, l, w, s))) rfl rfl (k := 0) (by decide) rfl ?_
    refine me_t (C := (nI mi) = 0) (nI_eqt (a := mi) (b := 0) (by omega)) (fun f => rfl) ?_
    refine me_ret 5 (r := some (.int 0)) (M1 := (mk_M c n m kk (rT (he, ke, ki, fi, fa, or, mi, a, g, l, w, s) xm xi xw im le nu rf ln nn vp xn xc vs))) (fun f => rfl) ?_
    exact ⟨⟨_, rfl⟩, _, _, _, _, _, _, rfl, ⟨(by assumption), (by assumption), (by assumption), (by assumption)⟩⟩
  · exact wm_wp1L he ke ki fi fa or mi a g l w s xi im le nu rf ln nn c n m kk hA hC h0 6 0 0 xm xw vp xn xc vs (by omega) ⟨(by assumption), (by assumption), (by assumption), (by assumption)⟩
set_option maxRecDepth 100000 in
theorem wm_judgeL (he ke ki fi fa or : List Nat) (mi a g l w s : Nat) (xi : List Int32) (im : Nat) (le nu rf : List Nat) (ln nn : Nat) (c : cC) (n m kk : kG) (hA : iA (he, ke, ki, fi, fa, or, mi, a, g, l, w, s)) (hC : iC nu nn) (n0 : Nat) (hn : n0 ≤ 16) (k : Nat) : ∀ (j : Nat)  (xm xw : List Int32) (vp : Int32) (xn xc : List Int32) (vs : Int32), j + k = n0 → iR xm xw xn xc → mm_E 205 12 [some (.ref 138), some (.int (nI n0)), some (.int (nI j))] [] (mk_M c n m kk (rT (he, ke, ki, fi, fa, or, mi, a, g, l, w, s) xm xi xw im le nu rf ln nn vp xn xc vs)) (pM isI (he, ke, ki, fi, fa, or, mi, a, g, l, w, s) xi im le nu rf ln nn c n m kk) := by
  obtain ⟨hV, hst⟩ := id hA
  have hst2 : s ≤ 999 := hst
  obtain ⟨v1, v2, v3, v4, v5, v6, v7, v8, v9, v10, v11, v12, v13, v14, v15, v16⟩ := id hV
  have v6l := kO_len mi v7 or v6
  obtain ⟨c1, c2, c3⟩ := id hC
  induction k with
  | zero =>
    intro j xm xw vp xn xc vs hj hR
    obtain ⟨r1, r2, r3, r4⟩ := id hR
    refine me_seg 2 (pc1 := 14) (ls1 := [some (.ref 138), some (.int (nI n0)), some (.int (nI j))]) (st1 := [.int (nI n0), .int (nI j)]) (M1 := (mk_M c n m kk (rT (he, ke, ki, fi, fa, or, mi, a, g, l, w, s) xm xi xw im le nu rf ln nn vp xn xc vs))) (fun f => rfl) ?_
    refine me_t (C := (nI n0) ≤ (nI j)) (nI_let (a := n0) (b := j) (by omega)) (fun f => rfl) ?_
    refine me_ret 2 (r := some (.int (-9))) (M1 := (mk_M c n m kk (rT (he, ke, ki, fi, fa, or, mi, a, g, l, w, s) xm xi xw im le nu rf ln nn vp xn xc vs))) (fun f => rfl) ?_
    exact ⟨⟨_, rfl⟩, _, _, _, _, _, _, rfl, ⟨(by assumption), (by assumption), (by assumption), (by assumption)⟩⟩
  | succ k IH =>
    intro j xm xw vp xn xc vs hj hR
    obtain ⟨r1, r2, r3, r4⟩ := id hR
    refine me_seg 2 (pc1 := 14) (ls1 := [some (.ref 138), some (.int (nI n0)), some (.int (nI j))]) (st1 := [.int (nI n0), .int (nI j)]) (M1 := (mk_M c n m kk (rT (he, ke, ki, fi, fa, or, mi, a, g, l, w, s) xm xi xw im le nu rf ln nn vp xn xc vs))) (fun f => rfl) ?_
    refine me_f (C := (nI n0) ≤ (nI j)) (nI_lef (a := n0) (b := j) (by omega)) (fun f => rfl) ?_
    refine me_seg 5 (pc1 := 25) (ls1 := [some (.ref 138), some (.int (nI n0)), some (.int (nI j))]) (st1 := [.int ((7 : Int32) + (nI j)), .ref 139]) (M1 := (mk_M c n m kk (rT (he, ke, ki, fi, fa, or, mi, a, g, l, w, s) xm xi xw im le nu rf ln nn vp xn xc vs))) (fun f => rfl) ?_
    refine me_v (nI_add 7 j) ?_
    refine me_ldn (xs := (er (he, ke, ki, fi, fa, or, mi, a, g, l, w, s))) rfl rfl (k := 7 + j) (by omega) (er_h (K := (he, ke, ki, fi, fa, or, mi, a, g, l, w, s)) v1 (by omega)) ?_
    refine me_seg 3 (pc1 := 31) (ls1 := [some (.ref 138), some (.int (nI n0)), some (.int (nI j))]) (st1 := [.int (nI j), .ref 144, .int (nI (kg he j))]) (M1 := (mk_M c n m kk (rT (he, ke, ki, fi, fa, or, mi, a, g, l, w, s) xm xi xw im le nu rf ln nn vp xn xc vs))) (fun f => rfl) ?_
    refine me_ldn (xs := (nu.map nI)) rfl rfl (k := j) (by omega) (kg_ok (by omega)) ?_
    refine me_if (C := (nI (kg he j)) = (nI (kg nu j))) (fun f => rfl) (fun h1 => ?_) (fun h1 => ?_)
    · refine me_seg 1 (pc1 := 40) (ls1 := [some (.ref 138), some (.int (nI n0)), some (.int ((nI j) + 1))]) (st1 := []) (M1 := (mk_M c n m kk (rT (he, ke, ki, fi, fa, or, mi, a, g, l, w, s) xm xi xw im le nu rf ln nn vp xn xc vs))) (fun f => rfl) ?_
      refine me_l (fun q_ => [some (.ref 138), some (.int (nI n0)), some (.int q_)]) (nI_add j 1) ?_
      refine me_seg 1 (pc1 := 12) (ls1 := [some (.ref 138), some (.int (nI n0)), some (.int (nI (j + 1)))]) (st1 := []) (M1 := (mk_M c n m kk (rT (he, ke, ki, fi, fa, or, mi, a, g, l, w, s) xm xi xw im le nu rf ln nn vp xn xc vs))) (fun f => rfl) ?_
      exact IH (j + 1)  xm xw vp xn xc vs (by omega) ⟨(by assumption), (by assumption), (by assumption), (by assumption)⟩
    · refine me_ret 2 (r := some (.int (nI j))) (M1 := (mk_M c n m kk (rT (he, ke, ki, fi, fa, or, mi, a, g, l, w, s) xm xi xw im le nu rf ln nn vp xn xc vs))) (fun f => rfl) ?_
      exact ⟨⟨_, rfl⟩, _, _, _, _, _, _, rfl, ⟨(by assumption), (by assumption), (by assumption), (by assumption)⟩⟩
set_option maxRecDepth 100000 in
theorem wm_judge (he ke ki fi fa or : List Nat) (mi a g l w s : Nat) (xi : List Int32) (im : Nat) (le nu rf : List Nat) (ln nn : Nat) (c : cC) (n m kk : kG) (hA : iA (he, ke, ki, fi, fa, or, mi, a, g, l, w, s)) (hC : iC nu nn) (xm xw : List Int32) (vp : Int32) (xn xc : List Int32) (vs : Int32) (hR : iR xm xw xn xc) : mm_E 205 0 [some (.ref 138), none, none] [] (mk_M c n m kk (rT (he, ke, ki, fi, fa, or, mi, a, g, l, w, s) xm xi xw im le nu rf ln nn vp xn xc vs)) (pM isI (he, ke, ki, fi, fa, or, mi, a, g, l, w, s) xi im le nu rf ln 0 c n m kk) := by
  obtain ⟨hV, hst⟩ := id hA
  have hst2 : s ≤ 999 := hst
  obtain ⟨v1, v2, v3, v4, v5, v6, v7, v8, v9, v10, v11, v12, v13, v14, v15, v16⟩ := id hV
  have v6l := kO_len mi v7 or v6
  obtain ⟨c1, c2, c3⟩ := id hC
  obtain ⟨r1, r2, r3, r4⟩ := id hR
  refine me_seg 6 (pc1 := 10) (ls1 := [some (.ref 138), some (.int (nI nn)), none]) (st1 := []) (M1 := (mk_MR c n m kk (er (he, ke, ki, fi, fa, or, mi, a, g, l, w, s)) xm xi xw (nI im) (le.map nI) (nu.map nI) (rf.map nI) (nI ln) 0 vp xn xc vs)) (fun f => rfl) ?_
  refine me_M (mk_MRk c n m kk (he, ke, ki, fi, fa, or, mi, a, g, l, w, s) xm xi xw im le nu rf ln 0 vp xn xc vs) ?_
  refine me_seg 2 (pc1 := 12) (ls1 := [some (.ref 138), some (.int (nI nn)), some (.int 0)]) (st1 := []) (M1 := (mk_M c n m kk (rT (he, ke, ki, fi, fa, or, mi, a, g, l, w, s) xm xi xw im le nu rf ln 0 vp xn xc vs))) (fun f => rfl) ?_
  exact wm_judgeL he ke ki fi fa or mi a g l w s xi im le nu rf ln 0 c n m kk hA ⟨c1, c2, Nat.zero_le 16⟩ nn c3 nn 0 xm xw vp xn xc vs (by omega) ⟨(by assumption), (by assumption), (by assumption), (by assumption)⟩
set_option maxRecDepth 100000 in
theorem wm_lotsL (he ke ki fi fa or : List Nat) (mi a g l w s : Nat) (xi : List Int32) (im : Nat) (le nu rf : List Nat) (ln nn : Nat) (c : cC) (n m kk : kG) (hA : iA (he, ke, ki, fi, fa, or, mi, a, g, l, w, s)) (hC : iC nu nn) (x : Nat) (hx1 : 1 ≤ x) (hx : x ≤ 20) (z : Int32) (y : Nat) (hy : y < 2) (k : Nat) : ∀ (j : Nat) (v : Int32) (xm xw : List Int32) (vp : Int32) (xn xc : List Int32) (vs : Int32), j + k = x → iR xm xw xn xc → mm_E 207 52 [some (.ref 138), some (.int (nI x)), some (.int z), some (.int (nI y)), some (.int v), some (.int (nI j))] [] (mk_M c n m kk (rT (he, ke, ki, fi, fa, or, mi, a, g, l, w, s) xm xi xw im le nu rf ln nn vp xn xc vs)) (pM isI (he, ke, ki, fi, fa, or, mi, a, g, l, w, s) xi im le nu rf ln nn c n m kk) := by
  obtain ⟨hV, hst⟩ := id hA
  have hst2 : s ≤ 999 := hst
  obtain ⟨v1, v2, v3, v4, v5, v6, v7, v8, v9, v10, v11, v12, v13, v14, v15, v16⟩ := id hV
  have v6l := kO_len mi v7 or v6
  obtain ⟨c1, c2, c3⟩ := id hC
  induction k with
  | zero =>
    intro j v xm xw vp xn xc vs hj hR
    obtain ⟨r1, r2, r3, r4⟩ := id hR
    refine me_seg 2 (pc1 := 55) (ls1 := [some (.ref 138), some (.int (nI x)), some (.int z), some (.int (nI y)), some (.int v), some (.int (nI j))]) (st1 := [.int (nI x), .int (nI j)]) (M1 := (mk_M c n m kk (rT (he, ke, ki, fi, fa, or, mi, a, g, l, w, s) xm xi xw im le nu rf ln nn vp xn xc vs))) (fun f => rfl) ?_
    refine me_t (C := (nI x) ≤ (nI j)) (nI_let (a := x) (b := j) (by omega)) (fun f => rfl) ?_
    refine me_ret 2 (r := some (.int v)) (M1 := (mk_M c n m kk (rT (he, ke, ki, fi, fa, or, mi, a, g, l, w, s) xm xi xw im le nu rf ln nn vp xn xc vs))) (fun f => rfl) ?_
    exact ⟨⟨_, rfl⟩, _, _, _, _, _, _, rfl, ⟨(by assumption), (by assumption), (by assumption), (by assumption)⟩⟩
  | succ k IH =>
    intro j v xm xw vp xn xc vs hj hR
    obtain ⟨r1, r2, r3, r4⟩ := id hR
    refine me_seg 2 (pc1 := 55) (ls1 := [some (.ref 138), some (.int (nI x)), some (.int z), some (.int (nI y)), some (.int v), some (.int (nI j))]) (st1 := [.int (nI x), .int (nI j)]) (M1 := (mk_M c n m kk (rT (he, ke, ki, fi, fa, or, mi, a, g, l, w, s) xm xi xw im le nu rf ln nn vp xn xc vs))) (fun f => rfl) ?_
    refine me_f (C := (nI x) ≤ (nI j)) (nI_lef (a := x) (b := j) (by omega)) (fun f => rfl) ?_
    refine me_seg 4 (pc1 := 66) (ls1 := [some (.ref 138), some (.int (nI x)), some (.int z), some (.int (nI y)), some (.int v), some (.int (nI j))]) (st1 := [.ref 140, .ref 139]) (M1 := (mk_M c n m kk (rT (he, ke, ki, fi, fa, or, mi, a, g, l, w, s) xm xi xw im le nu rf ln nn vp xn xc vs))) (fun f => rfl) ?_
    refine me_call (y := 138) (y0 := 69) (L := [some (.ref 139), some (.ref 140), none]) (rest := []) (rr := none) (M1 := (mk_M c n m kk (rT (he, ke, ki, fi, fa, or, mi, a, g, l, w, s) (er (he, ke, ki, fi, fa, or, mi, a, g, l, w, s)) xi xw im le nu rf ln nn vp xn xc vs))) (fun f => rfl) (rc_copies (a := 140) (b := 139) (by decide) rfl rfl (er_len hV) (by assumption)) ?_
    refine me_seg 5 (pc1 := 77) (ls1 := [some (.ref 138), some (.int (nI x)), some (.int z), some (.int (nI y)), some (.int v), some (.int (nI j))]) (st1 := [.int 25, .ref 138, .int 2, .ref 140]) (M1 := (mk_M c n m kk (rT (he, ke, ki, fi, fa, or, mi, a, g, l, w, s) (er (he, ke, ki, fi, fa, or, mi, a, g, l, w, s)) xi xw im le nu rf ln nn vp xn xc vs))) (fun f => rfl) ?_
    refine me_callE (y := 208) (y0 := 80) (L := [some (.ref 138), some (.int 25)]) (rest := [.int 2, .ref 140]) (fun f => rfl) (wm_drawn25 (he, ke, ki, fi, fa, or, mi, a, g, l, w, s) (er (he, ke, ki, fi, fa, or, mi, a, g, l, w, s)) xi xw im le nu rf ln nn vp xn xc vs c n m kk) ?_
    rintro _ _ ⟨⟨d_1, hd_1, rfl⟩, vs_1, rfl⟩
    refine me_stn (xs := (er (he, ke, ki, fi, fa, or, mi, a, g, l, w, s))) (ys := (er (he, ke, ki, fi, fa, or, mi, d_1, g, l, w, s))) (M2 := (mk_MR c n m kk (er (he, ke, ki, fi, fa, or, mi, a, g, l, w, s)) (er (he, ke, ki, fi, fa, or, mi, d_1, g, l, w, s)) xi xw (nI im) (le.map nI) (nu.map nI) (rf.map nI) (nI ln) (nI nn) vp xn xc vs_1)) rfl rfl (k := 2) (by decide) (by rw [er_leq (K := (he, ke, ki, fi, fa, or, mi, a, g, l, w, s)) v1 v6l]; decide) (er_s2 (v := d_1)) rfl ?_
    refine me_M (mk_MRk c n m kk (he, ke, ki, fi, fa, or, mi, a, g, l, w, s) (er (he, ke, ki, fi, fa, or, mi, d_1, g, l, w, s)) xi xw im le nu rf ln nn vp xn xc vs_1) ?_
    refine me_seg 5 (pc1 := 89) (ls1 := [some (.ref 138), some (.int (nI x)), some (.int z), some (.int (nI y)), some (.int v), some (.int (nI j))]) (st1 := [.int 25, .ref 138, .int 3, .ref 140]) (M1 := (mk_M c n m kk (rT (he, ke, ki, fi, fa, or, mi, a, g, l, w, s) (er (he, ke, ki, fi, fa, or, mi, d_1, g, l, w, s)) xi xw im le nu rf ln nn vp xn xc vs_1))) (fun f => rfl) ?_
    refine me_callE (y := 208) (y0 := 92) (L := [some (.ref 138), some (.int 25)]) (rest := [.int 3, .ref 140]) (fun f => rfl) (wm_drawn25 (he, ke, ki, fi, fa, or, mi, a, g, l, w, s) (er (he, ke, ki, fi, fa, or, mi, d_1, g, l, w, s)) xi xw im le nu rf ln nn vp xn xc vs_1 c n m kk) ?_
    rintro _ _ ⟨⟨d_2, hd_2, rfl⟩, vs_2, rfl⟩
    refine me_stn (xs := (er (he, ke, ki, fi, fa, or, mi, d_1, g, l, w, s))) (ys := (er (he, ke, ki, fi, fa, or, mi, d_1, d_2, l, w, s))) (M2 := (mk_MR c n m kk (er (he, ke, ki, fi, fa, or, mi, a, g, l, w, s)) (er (he, ke, ki, fi, fa, or, mi, d_1, d_2, l, w, s)) xi xw (nI im) (le.map nI) (nu.map nI) (rf.map nI) (nI ln) (nI nn) vp xn xc vs_2)) rfl rfl (k := 3) (by decide) (by rw [er_leq (K := (he, ke, ki, fi, fa, or, mi, d_1, g, l, w, s)) v1 v6l]; decide) (er_s3 (v := d_2)) rfl ?_
    refine me_M (mk_MRk c n m kk (he, ke, ki, fi, fa, or, mi, a, g, l, w, s) (er (he, ke, ki, fi, fa, or, mi, d_1, d_2, l, w, s)) xi xw im le nu rf ln nn vp xn xc vs_2) ?_
    refine me_seg 5 (pc1 := 101) (ls1 := [some (.ref 138), some (.int (nI x)), some (.int z), some (.int (nI y)), some (.int v), some (.int (nI j))]) (st1 := [.int 11, .ref 138, .int 5, .ref 140]) (M1 := (mk_M c n m kk (rT (he, ke, ki, fi, fa, or, mi, a, g, l, w, s) (er (he, ke, ki, fi, fa, or, mi, d_1, d_2, l, w, s)) xi xw im le nu rf ln nn vp xn xc vs_2))) (fun f => rfl) ?_
    refine me_callE (y := 208) (y0 := 104) (L := [some (.ref 138), some (.int 11)]) (rest := [.int 5, .ref 140]) (fun f => rfl) (wm_drawn11 (he, ke, ki, fi, fa, or, mi, a, g, l, w, s) (er (he, ke, ki, fi, fa, or, mi, d_1, d_2, l, w, s)) xi xw im le nu rf ln nn vp xn xc vs_2 c n m kk) ?_
    rintro _ _ ⟨⟨d_3, hd_3, rfl⟩, vs_3, rfl⟩
    refine me_stn (xs := (er (he, ke, ki, fi, fa, or, mi, d_1, d_2, l, w, s))) (ys := (er (he, ke, ki, fi, fa, or, mi, d_1, d_2, l, d_3, s))) (M2 := (mk_MR c n m kk (er (he, ke, ki, fi, fa, or, mi, a, g, l, w, s)) (er (he, ke, ki, fi, fa, or, mi, d_1, d_2, l, d_3, s)) xi xw (nI im) (le.map nI) (nu.map nI) (rf.map nI) (nI ln) (nI nn) vp xn xc vs_3)) rfl rfl (k := 5) (by decide) (by rw [er_leq (K := (he, ke, ki, fi, fa, or, mi, d_1, d_2, l, w, s)) v1 v6l]; decide) (er_s5 (v := d_3)) rfl ?_
    refine me_M (mk_MRk c n m kk (he, ke, ki, fi, fa, or, mi, a, g, l, w, s) (er (he, ke, ki, fi, fa, or, mi, d_1, d_2, l, d_3, s)) xi xw im le nu rf ln nn vp xn xc vs_3) ?_
    refine me_seg 3 (pc1 := 111) (ls1 := [some (.ref 138), some (.int (nI x)), some (.int z), some (.int (nI y)), some (.int v), some (.int (nI j))]) (st1 := [.int 12, .ref 140]) (M1 := (mk_M c n m kk (rT (he, ke, ki, fi, fa, or, mi, a, g, l, w, s) (er (he, ke, ki, fi, fa, or, mi, d_1, d_2, l, d_3, s)) xi xw im le nu rf ln nn vp xn xc vs_3))) (fun f => rfl) ?_
    refine me_call (y := 145) (y0 := 114) (L := [some (.ref 140), some (.int 12), none]) (rest := []) (rr := none) (M1 := (mk_M c n m kk (rT (he, ke, ki, fi, fa, or, mi, a, g, l, w, s) (er (ksteps 12 (he, ke, ki, fi, fa, or, mi, d_1, d_2, l, d_3, s))) xi xw im le nu rf ln nn vp xn xc vs_3))) (fun f => rfl) (rl_m c n m kk (rT (he, ke, ki, fi, fa, or, mi, a, g, l, w, s) (er (he, ke, ki, fi, fa, or, mi, d_1, d_2, l, d_3, s)) xi xw im le nu rf ln nn vp xn xc vs_3) (rc_by_m 12 (by omega) (he, ke, ki, fi, fa, or, mi, d_1, d_2, l, d_3, s) ⟨v1, v2, v3, v4, v5, v6, v7, by omega, by omega, v10, by omega, v12, v13, v14, v15, v16⟩ (show s < 2 ^ 20 by omega)) rfl) ?_
    obtain ⟨Q_4, hEQ_4, hQ_4, hsQ_4⟩ := k_genS 12 (he, ke, ki, fi, fa, or, mi, d_1, d_2, l, d_3, s) ⟨v1, v2, v3, v4, v5, v6, v7, by omega, by omega, v10, by omega, v12, v13, v14, v15, v16⟩ (by have hq_ : k_st (he, ke, ki, fi, fa, or, mi, d_1, d_2, l, d_3, s) < 2 ^ 19 := (show s < 2 ^ 19 by omega); omega)
    rw [hEQ_4]
    clear hEQ_4
    refine me_seg 3 (pc1 := 118) (ls1 := [some (.ref 138), some (.int (nI x)), some (.int z), some (.int (nI y)), some (.int v), some (.int (nI j))]) (st1 := [.int 1, .int (nI y), .int v]) (M1 := (mk_M c n m kk (rT (he, ke, ki, fi, fa, or, mi, a, g, l, w, s) (er Q_4) xi xw im le nu rf ln nn vp xn xc vs_3))) (fun f => rfl) ?_
    refine me_if (C := (nI y) = 1) (fun f => rfl) (fun h5 => ?_) (fun h5 => ?_)
    · refine me_seg 2 (pc1 := 125) (ls1 := [some (.ref 138), some (.int (nI x)), some (.int z), some (.int (nI y)), some (.int v), some (.int (nI j))]) (st1 := [.ref 140, .int v]) (M1 := (mk_M c n m kk (rT (he, ke, ki, fi, fa, or, mi, a, g, l, w, s) (er Q_4) xi xw im le nu rf ln nn vp xn xc vs_3))) (fun f => rfl) ?_
      refine me_call (y := 170) (y0 := 128) (L := [some (.ref 140), none, none]) (rest := [.int v]) (rr := some (.int (nI (ksum (k_fa Q_4) (k_mi Q_4))))) (M1 := (mk_M c n m kk (rT (he, ke, ki, fi, fa, or, mi, a, g, l, w, s) (er Q_4) xi xw im le nu rf ln nn vp xn xc vs_3))) (fun f => rfl) (rl_m c n m kk (rT (he, ke, ki, fi, fa, or, mi, a, g, l, w, s) (er Q_4) xi xw im le nu rf ln nn vp xn xc vs_3) (rc_af_m Q_4 hQ_4) rfl) ?_
      refine me_seg 2 (pc1 := 132) (ls1 := [some (.ref 138), some (.int (nI x)), some (.int z), some (.int (nI y)), some (.int v), some (.int (nI j))]) (st1 := [.ref 139, .int (nI (ksum (k_fa Q_4) (k_mi Q_4))), .int v]) (M1 := (mk_M c n m kk (rT (he, ke, ki, fi, fa, or, mi, a, g, l, w, s) (er Q_4) xi xw im le nu rf ln nn vp xn xc vs_3))) (fun f => rfl) ?_
      refine me_call (y := 170) (y0 := 135) (L := [some (.ref 139), none, none]) (rest := [.int (nI (ksum (k_fa Q_4) (k_mi Q_4))), .int v]) (rr := some (.int (nI (ksum fa mi)))) (M1 := (mk_M c n m kk (rT (he, ke, ki, fi, fa, or, mi, a, g, l, w, s) (er Q_4) xi xw im le nu rf ln nn vp xn xc vs_3))) (fun f => rfl) (rl_s c n m kk (rT (he, ke, ki, fi, fa, or, mi, a, g, l, w, s) (er Q_4) xi xw im le nu rf ln nn vp xn xc vs_3) (rc_af_s (he, ke, ki, fi, fa, or, mi, a, g, l, w, s) hV) rfl) ?_
      refine me_seg 5 (pc1 := 165) (ls1 := [some (.ref 138), some (.int (nI x)), some (.int z), some (.int (nI y)), some (.int (v + ((nI (ksum (k_fa Q_4) (k_mi Q_4))) - (nI (ksum fa mi))))), some (.int ((nI j) + 1))]) (st1 := []) (M1 := (mk_M c n m kk (rT (he, ke, ki, fi, fa, or, mi, a, g, l, w, s) (er Q_4) xi xw im le nu rf ln nn vp xn xc vs_3))) (fun f => rfl) ?_
      refine me_l (fun q_ => [some (.ref 138), some (.int (nI x)), some (.int z), some (.int (nI y)), some (.int (v + ((nI (ksum (k_fa Q_4) (k_mi Q_4))) - (nI (ksum fa mi))))), some (.int q_)]) (nI_add j 1) ?_
      refine me_seg 1 (pc1 := 52) (ls1 := [some (.ref 138), some (.int (nI x)), some (.int z), some (.int (nI y)), some (.int (v + ((nI (ksum (k_fa Q_4) (k_mi Q_4))) - (nI (ksum fa mi))))), some (.int (nI (j + 1)))]) (st1 := []) (M1 := (mk_M c n m kk (rT (he, ke, ki, fi, fa, or, mi, a, g, l, w, s) (er Q_4) xi xw im le nu rf ln nn vp xn xc vs_3))) (fun f => rfl) ?_
      exact IH (j + 1) (v + ((nI (ksum (k_fa Q_4) (k_mi Q_4))) - (nI (ksum fa mi)))) (er Q_4) xw vp xn xc vs_3 (by omega) ⟨(er_len hQ_4), (by assumption), (by assumption), (by assumption)⟩
    · refine me_seg 3 (pc1 := 144) (ls1 := [some (.ref 138), some (.int (nI x)), some (.int z), some (.int (nI y)), some (.int v), some (.int (nI j))]) (st1 := [.int 2, .ref 140, .int v]) (M1 := (mk_M c n m kk (rT (he, ke, ki, fi, fa, or, mi, a, g, l, w, s) (er Q_4) xi xw im le nu rf ln nn vp xn xc vs_3))) (fun f => rfl) ?_
      refine me_ldn (xs := (er Q_4)) rfl rfl (k := 2) (by decide) rfl ?_
      refine me_seg 3 (pc1 := 150) (ls1 := [some (.ref 138), some (.int (nI x)), some (.int z), some (.int (nI y)), some (.int v), some (.int (nI j))]) (st1 := [.int 3, .ref 140, .int (nI (k_at Q_4)), .int v]) (M1 := (mk_M c n m kk (rT (he, ke, ki, fi, fa, or, mi, a, g, l, w, s) (er Q_4) xi xw im le nu rf ln nn vp xn xc vs_3))) (fun f => rfl) ?_
      refine me_ldn (xs := (er Q_4)) rfl rfl (k := 3) (by decide) rfl ?_
      refine me_if (C := (nI (k_at Q_4)) = (nI (k_go Q_4))) (fun f => rfl) (fun h6 => ?_) (fun h6 => ?_)
      · refine me_seg 5 (pc1 := 165) (ls1 := [some (.ref 138), some (.int (nI x)), some (.int z), some (.int (nI y)), some (.int (v + (1 : Int32))), some (.int ((nI j) + 1))]) (st1 := []) (M1 := (mk_M c n m kk (rT (he, ke, ki, fi, fa, or, mi, a, g, l, w, s) (er Q_4) xi xw im le nu rf ln nn vp xn xc vs_3))) (fun f => rfl) ?_
        refine me_l (fun q_ => [some (.ref 138), some (.int (nI x)), some (.int z), some (.int (nI y)), some (.int (v + (1 : Int32))), some (.int q_)]) (nI_add j 1) ?_
        refine me_seg 1 (pc1 := 52) (ls1 := [some (.ref 138), some (.int (nI x)), some (.int z), some (.int (nI y)), some (.int (v + (1 : Int32))), some (.int (nI (j + 1)))]) (st1 := []) (M1 := (mk_M c n m kk (rT (he, ke, ki, fi, fa, or, mi, a, g, l, w, s) (er Q_4) xi xw im le nu rf ln nn vp xn xc vs_3))) (fun f => rfl) ?_
        exact IH (j + 1) (v + (1 : Int32)) (er Q_4) xw vp xn xc vs_3 (by omega) ⟨(er_len hQ_4), (by assumption), (by assumption), (by assumption)⟩
      · refine me_seg 4 (pc1 := 165) (ls1 := [some (.ref 138), some (.int (nI x)), some (.int z), some (.int (nI y)), some (.int (v + (0 : Int32))), some (.int ((nI j) + 1))]) (st1 := []) (M1 := (mk_M c n m kk (rT (he, ke, ki, fi, fa, or, mi, a, g, l, w, s) (er Q_4) xi xw im le nu rf ln nn vp xn xc vs_3))) (fun f => rfl) ?_
        refine me_l (fun q_ => [some (.ref 138), some (.int (nI x)), some (.int z), some (.int (nI y)), some (.int (v + (0 : Int32))), some (.int q_)]) (nI_add j 1) ?_
        refine me_seg 1 (pc1 := 52) (ls1 := [some (.ref 138), some (.int (nI x)), some (.int z), some (.int (nI y)), some (.int (v + (0 : Int32))), some (.int (nI (j + 1)))]) (st1 := []) (M1 := (mk_M c n m kk (rT (he, ke, ki, fi, fa, or, mi, a, g, l, w, s) (er Q_4) xi xw im le nu rf ln nn vp xn xc vs_3))) (fun f => rfl) ?_
        exact IH (j + 1) (v + (0 : Int32)) (er Q_4) xw vp xn xc vs_3 (by omega) ⟨(er_len hQ_4), (by assumption), (by assumption), (by assumption)⟩
set_option maxRecDepth 100000 in
theorem wm_lots (he ke ki fi fa or : List Nat) (mi a g l w s : Nat) (xi : List Int32) (im : Nat) (le nu rf : List Nat) (ln nn : Nat) (c : cC) (n m kk : kG) (hA : iA (he, ke, ki, fi, fa, or, mi, a, g, l, w, s)) (hC : iC nu nn) (xm xw : List Int32) (vp : Int32) (xn xc : List Int32) (vs : Int32) (hR : iR xm xw xn xc) (x : Nat) (hx1 : 1 ≤ x) (hx : x ≤ 20) (z : Int32) (y : Nat) (hy : y < 2) : mm_E 207 0 [some (.ref 138), some (.int (nI x)), some (.int z), some (.int (nI y)), none, none] [] (mk_M c n m kk (rT (he, ke, ki, fi, fa, or, mi, a, g, l, w, s) xm xi xw im le nu rf ln nn vp xn xc vs)) (pM isI (he, ke, ki, fi, fa, or, mi, a, g, l, w, s) xi im le nu rf ln nn c n m kk) := by
  obtain ⟨hV, hst⟩ := id hA
  have hst2 : s ≤ 999 := hst
  obtain ⟨v1, v2, v3, v4, v5, v6, v7, v8, v9, v10, v11, v12, v13, v14, v15, v16⟩ := id hV
  have v6l := kO_len mi v7 or v6
  obtain ⟨c1, c2, c3⟩ := id hC
  obtain ⟨r1, r2, r3, r4⟩ := id hR
  refine me_seg 2 (pc1 := 2) (ls1 := [some (.ref 138), some (.int (nI x)), some (.int z), some (.int (nI y)), none, none]) (st1 := [.int 1, .int (nI x)]) (M1 := (mk_M c n m kk (rT (he, ke, ki, fi, fa, or, mi, a, g, l, w, s) xm xi xw im le nu rf ln nn vp xn xc vs))) (fun f => rfl) ?_
  refine me_t (C := 1 ≤ (nI x)) (nI_let (a := 1) (b := x) (by omega)) (fun f => rfl) ?_
  refine me_seg 2 (pc1 := 15) (ls1 := [some (.ref 138), some (.int (nI x)), some (.int z), some (.int (nI y)), none, none]) (st1 := [.int 20, .int (nI x)]) (M1 := (mk_M c n m kk (rT (he, ke, ki, fi, fa, or, mi, a, g, l, w, s) xm xi xw im le nu rf ln nn vp xn xc vs))) (fun f => rfl) ?_
  refine me_t (C := (nI x) ≤ 20) (nI_let (a := x) (b := 20) (by omega)) (fun f => rfl) ?_
  refine me_seg 3 (pc1 := 28) (ls1 := [some (.ref 138), some (.int (nI x)), some (.int z), some (.int (nI y)), none, none]) (st1 := [.int 1, .int 0, .int (nI y)]) (M1 := (mk_M c n m kk (rT (he, ke, ki, fi, fa, or, mi, a, g, l, w, s) xm xi xw im le nu rf ln nn vp xn xc vs))) (fun f => rfl) ?_
  refine me_call (y := 135) (y0 := 31) (L := [some (.int (nI y)), some (.int 0), some (.int 1)]) (rest := []) (rr := some (.int 1)) (M1 := (mk_M c n m kk (rT (he, ke, ki, fi, fa, or, mi, a, g, l, w, s) xm xi xw im le nu rf ln nn vp xn xc vs))) (fun f => rfl) (ms_in_ok (x := (nI y)) (a := 0) (b := 1) (nI_ltf (a := y) (b := 0) (by omega)) (nI_ltf (a := 1) (b := y) (by omega))) ?_
  refine me_seg 4 (pc1 := 46) (ls1 := [some (.ref 138), some (.int (nI x)), some (.int z), some (.int (nI y)), none, none]) (st1 := []) (M1 := (mk_MR c n m kk (er (he, ke, ki, fi, fa, or, mi, a, g, l, w, s)) xm xi xw (nI im) (le.map nI) (nu.map nI) (rf.map nI) (nI ln) (nI nn) vp xn xc z)) (fun f => rfl) ?_
  refine me_M (mk_MRk c n m kk (he, ke, ki, fi, fa, or, mi, a, g, l, w, s) xm xi xw im le nu rf ln nn vp xn xc z) ?_
  refine me_seg 4 (pc1 := 52) (ls1 := [some (.ref 138), some (.int (nI x)), some (.int z), some (.int (nI y)), some (.int 0), some (.int 0)]) (st1 := []) (M1 := (mk_M c n m kk (rT (he, ke, ki, fi, fa, or, mi, a, g, l, w, s) xm xi xw im le nu rf ln nn vp xn xc z))) (fun f => rfl) ?_
  exact wm_lotsL he ke ki fi fa or mi a g l w s xi im le nu rf ln nn c n m kk hA hC x hx1 hx z y hy x 0 0 xm xw vp xn xc z (by omega) ⟨(by assumption), (by assumption), (by assumption), (by assumption)⟩
set_option maxRecDepth 100000 in
theorem wm_cost (he ke ki fi fa or : List Nat) (mi a g l w s : Nat) (xi : List Int32) (im : Nat) (le nu rf : List Nat) (ln nn : Nat) (c : cC) (n m kk : kG) (hA : iA (he, ke, ki, fi, fa, or, mi, a, g, l, w, s)) (hC : iC nu nn) (xm xw : List Int32) (vp : Int32) (xn xc : List Int32) (vs : Int32) (hR : iR xm xw xn xc) (q p x r y n0 : Nat) (hq : q < mi) (hp : p < mi) (hx : x ≤ 1) (hr : r < mi) (hy : y ≤ 1) (hn : n0 ≤ 30) : mm_E 196 0 [some (.ref 138), some (.int (nI q)), some (.int (nI p)), some (.int (nI x)), some (.int (nI r)), some (.int (nI y)), some (.int (nI n0)), none, none] [] (mk_M c n m kk (rT (he, ke, ki, fi, fa, or, mi, a, g, l, w, s) xm xi xw im le nu rf ln nn vp xn xc vs)) (pM isI (he, ke, ki, fi, fa, or, mi, a, g, l, w, s) xi im le nu rf ln nn c n m kk) := by
  obtain ⟨hV, hst⟩ := id hA
  have hst2 : s ≤ 999 := hst
  obtain ⟨v1, v2, v3, v4, v5, v6, v7, v8, v9, v10, v11, v12, v13, v14, v15, v16⟩ := id hV
  have v6l := kO_len mi v7 or v6
  obtain ⟨c1, c2, c3⟩ := id hC
  obtain ⟨r1, r2, r3, r4⟩ := id hR
  refine me_seg 4 (pc1 := 8) (ls1 := [some (.ref 138), some (.int (nI q)), some (.int (nI p)), some (.int (nI x)), some (.int (nI r)), some (.int (nI y)), some (.int (nI n0)), none, none]) (st1 := [.ref 140, .ref 139]) (M1 := (mk_M c n m kk (rT (he, ke, ki, fi, fa, or, mi, a, g, l, w, s) xm xi xw im le nu rf ln nn vp xn xc vs))) (fun f => rfl) ?_
  refine me_call (y := 138) (y0 := 11) (L := [some (.ref 139), some (.ref 140), none]) (rest := []) (rr := none) (M1 := (mk_M c n m kk (rT (he, ke, ki, fi, fa, or, mi, a, g, l, w, s) (er (he, ke, ki, fi, fa, or, mi, a, g, l, w, s)) xi xw im le nu rf ln nn vp xn xc vs))) (fun f => rfl) (rc_copies (a := 140) (b := 139) (by decide) rfl rfl (er_len hV) (by assumption)) ?_
  refine me_seg 2 (pc1 := 14) (ls1 := [some (.ref 138), some (.int (nI q)), some (.int (nI p)), some (.int (nI x)), some (.int (nI r)), some (.int (nI y)), some (.int (nI n0)), none, none]) (st1 := [.int (nI r), .int (nI p)]) (M1 := (mk_M c n m kk (rT (he, ke, ki, fi, fa, or, mi, a, g, l, w, s) (er (he, ke, ki, fi, fa, or, mi, a, g, l, w, s)) xi xw im le nu rf ln nn vp xn xc vs))) (fun f => rfl) ?_
  refine me_call (y := 154) (y0 := 17) (L := [some (.int (nI p)), some (.int (nI r))]) (rest := []) (rr := some (.int (nI (min p r)))) (M1 := (mk_M c n m kk (rT (he, ke, ki, fi, fa, or, mi, a, g, l, w, s) (er (he, ke, ki, fi, fa, or, mi, a, g, l, w, s)) xi xw im le nu rf ln nn vp xn xc vs))) (fun f => rfl) (rc_least p r (by omega) (by omega) _) ?_
  refine me_seg 4 (pc1 := 23) (ls1 := [some (.ref 138), some (.int (nI q)), some (.int (nI p)), some (.int (nI x)), some (.int (nI r)), some (.int (nI y)), some (.int (nI n0)), some (.int (nI (min p r))), none]) (st1 := [.int ((nI p) + (nI r))]) (M1 := (mk_M c n m kk (rT (he, ke, ki, fi, fa, or, mi, a, g, l, w, s) (er (he, ke, ki, fi, fa, or, mi, a, g, l, w, s)) xi xw im le nu rf ln nn vp xn xc vs))) (fun f => rfl) ?_
  refine me_v (nI_add p r) ?_
  refine me_seg 2 (pc1 := 26) (ls1 := [some (.ref 138), some (.int (nI q)), some (.int (nI p)), some (.int (nI x)), some (.int (nI r)), some (.int (nI y)), some (.int (nI n0)), some (.int (nI (min p r))), none]) (st1 := [.int ((nI (p + r)) - (nI (min p r)))]) (M1 := (mk_M c n m kk (rT (he, ke, ki, fi, fa, or, mi, a, g, l, w, s) (er (he, ke, ki, fi, fa, or, mi, a, g, l, w, s)) xi xw im le nu rf ln nn vp xn xc vs))) (fun f => rfl) ?_
  refine me_v (pk_sub (a := p + r) (b := min p r) (by omega)) ?_
  refine me_seg 3 (pc1 := 31) (ls1 := [some (.ref 138), some (.int (nI q)), some (.int (nI p)), some (.int (nI x)), some (.int (nI r)), some (.int (nI y)), some (.int (nI n0)), some (.int (nI (min p r))), some (.int (nI ((p + r) - (min p r))))]) (st1 := [.int (nI p), .int (nI (min p r))]) (M1 := (mk_M c n m kk (rT (he, ke, ki, fi, fa, or, mi, a, g, l, w, s) (er (he, ke, ki, fi, fa, or, mi, a, g, l, w, s)) xi xw im le nu rf ln nn vp xn xc vs))) (fun f => rfl) ?_
  refine me_if (C := (nI (min p r)) = (nI p)) (fun f => rfl) (fun h1 => ?_) (fun h1 => ?_)
  · refine me_seg 3 (pc1 := 41) (ls1 := [some (.ref 138), some (.int (nI q)), some (.int (nI p)), some (.int (nI x)), some (.int (nI r)), some (.int (nI y)), some (.int (nI n0)), some (.int (nI (min p r))), some (.int (nI ((p + r) - (min p r))))]) (st1 := [.int 1, .int (nI x)]) (M1 := (mk_M c n m kk (rT (he, ke, ki, fi, fa, or, mi, a, g, l, w, s) (er (he, ke, ki, fi, fa, or, mi, a, g, l, w, s)) xi xw im le nu rf ln nn vp xn xc vs))) (fun f => rfl) ?_
    refine me_if (C := (nI x) = 1) (fun f => rfl) (fun h2 => ?_) (fun h2 => ?_)
    · refine me_seg 3 (pc1 := 50) (ls1 := [some (.ref 138), some (.int (nI q)), some (.int (nI p)), some (.int (nI x)), some (.int (nI r)), some (.int (nI y)), some (.int (nI n0)), some (.int (nI (min p r))), some (.int (nI ((p + r) - (min p r))))]) (st1 := [.int (nI (min p r)), .ref 140]) (M1 := (mk_M c n m kk (rT (he, ke, ki, fi, fa, or, mi, a, g, l, w, s) (er (he, ke, ki, fi, fa, or, mi, a, g, l, w, s)) xi xw im le nu rf ln nn vp xn xc vs))) (fun f => rfl) ?_
      refine me_call (y := 143) (y0 := 53) (L := [some (.ref 140), some (.int (nI (min p r))), none]) (rest := []) (rr := none) (M1 := (mk_M c n m kk (rT (he, ke, ki, fi, fa, or, mi, a, g, l, w, s) (er (kpl (he, ke, ki, fi, fa, or, mi, a, g, l, w, s) (min p r))) xi xw im le nu rf ln nn vp xn xc vs))) (fun f => rfl) (rl_m c n m kk (rT (he, ke, ki, fi, fa, or, mi, a, g, l, w, s) (er (he, ke, ki, fi, fa, or, mi, a, g, l, w, s)) xi xw im le nu rf ln nn vp xn xc vs) (rc_plQ (he, ke, ki, fi, fa, or, mi, a, g, l, w, s) (min p r) (show min p r < mi by omega) hV) rfl) ?_
      refine me_seg 2 (pc1 := 56) (ls1 := [some (.ref 138), some (.int (nI q)), some (.int (nI p)), some (.int (nI x)), some (.int (nI r)), some (.int (nI y)), some (.int (nI n0)), some (.int (nI (min p r))), some (.int (nI ((p + r) - (min p r))))]) (st1 := [.int (nI p), .int (nI ((p + r) - (min p r)))]) (M1 := (mk_M c n m kk (rT (he, ke, ki, fi, fa, or, mi, a, g, l, w, s) (er (kpl (he, ke, ki, fi, fa, or, mi, a, g, l, w, s) (min p r))) xi xw im le nu rf ln nn vp xn xc vs))) (fun f => rfl) ?_
      refine me_if (C := (nI ((p + r) - (min p r))) = (nI p)) (fun f => rfl) (fun h3 => ?_) (fun h3 => ?_)
      · refine me_seg 3 (pc1 := 66) (ls1 := [some (.ref 138), some (.int (nI q)), some (.int (nI p)), some (.int (nI x)), some (.int (nI r)), some (.int (nI y)), some (.int (nI n0)), some (.int (nI (min p r))), some (.int (nI ((p + r) - (min p r))))]) (st1 := [.int 1, .int (nI x)]) (M1 := (mk_M c n m kk (rT (he, ke, ki, fi, fa, or, mi, a, g, l, w, s) (er (kpl (he, ke, ki, fi, fa, or, mi, a, g, l, w, s) (min p r))) xi xw im le nu rf ln nn vp xn xc vs))) (fun f => rfl) ?_
        refine me_if (C := (nI x) = 1) (fun f => rfl) (fun h4 => ?_) (fun h4 => ?_)
        · refine me_seg 3 (pc1 := 75) (ls1 := [some (.ref 138), some (.int (nI q)), some (.int (nI p)), some (.int (nI x)), some (.int (nI r)), some (.int (nI y)), some (.int (nI n0)), some (.int (nI (min p r))), some (.int (nI ((p + r) - (min p r))))]) (st1 := [.int (nI ((p + r) - (min p r))), .ref 140]) (M1 := (mk_M c n m kk (rT (he, ke, ki, fi, fa, or, mi, a, g, l, w, s) (er (kpl (he, ke, ki, fi, fa, or, mi, a, g, l, w, s) (min p r))) xi xw im le nu rf ln nn vp xn xc vs))) (fun f => rfl) ?_
          refine me_call (y := 143) (y0 := 78) (L := [some (.ref 140), some (.int (nI ((p + r) - (min p r)))), none]) (rest := []) (rr := none) (M1 := (mk_M c n m kk (rT (he, ke, ki, fi, fa, or, mi, a, g, l, w, s) (er (kpl (kpl (he, ke, ki, fi, fa, or, mi, a, g, l, w, s) (min p r)) ((p + r) - (min p r)))) xi xw im le nu rf ln nn vp xn xc vs))) (fun f => rfl) (rl_m c n m kk (rT (he, ke, ki, fi, fa, or, mi, a, g, l, w, s) (er (kpl (he, ke, ki, fi, fa, or, mi, a, g, l, w, s) (min p r))) xi xw im le nu rf ln nn vp xn xc vs) (rc_plQ (kpl (he, ke, ki, fi, fa, or, mi, a, g, l, w, s) (min p r)) ((p + r) - (min p r)) (show (p + r) - (min p r) < mi by omega) (kV_pl hV (show (min p r) < mi by omega))) rfl) ?_
          refine me_seg 3 (pc1 := 84) (ls1 := [some (.ref 138), some (.int (nI q)), some (.int (nI p)), some (.int (nI x)), some (.int (nI r)), some (.int (nI y)), some (.int (nI n0)), some (.int (nI (min p r))), some (.int (nI ((p + r) - (min p r))))]) (st1 := [.int (nI n0), .ref 140]) (M1 := (mk_M c n m kk (rT (he, ke, ki, fi, fa, or, mi, a, g, l, w, s) (er (kpl (kpl (he, ke, ki, fi, fa, or, mi, a, g, l, w, s) (min p r)) ((p + r) - (min p r)))) xi xw im le nu rf ln nn vp xn xc vs))) (fun f => rfl) ?_
          refine me_call (y := 145) (y0 := 87) (L := [some (.ref 140), some (.int (nI n0)), none]) (rest := []) (rr := none) (M1 := (mk_M c n m kk (rT (he, ke, ki, fi, fa, or, mi, a, g, l, w, s) (er (ksteps n0 (kpl (kpl (he, ke, ki, fi, fa, or, mi, a, g, l, w, s) (min p r)) ((p + r) - (min p r))))) xi xw im le nu rf ln nn vp xn xc vs))) (fun f => rfl) (rl_m c n m kk (rT (he, ke, ki, fi, fa, or, mi, a, g, l, w, s) (er (kpl (kpl (he, ke, ki, fi, fa, or, mi, a, g, l, w, s) (min p r)) ((p + r) - (min p r)))) xi xw im le nu rf ln nn vp xn xc vs) (rc_by_m n0 (by omega) (kpl (kpl (he, ke, ki, fi, fa, or, mi, a, g, l, w, s) (min p r)) ((p + r) - (min p r))) (kV_pl (kV_pl hV (show (min p r) < mi by omega)) (show ((p + r) - (min p r)) < mi by omega)) (show s < 2 ^ 20 by omega)) rfl) ?_
          obtain ⟨Q_5, hEQ_5, hQ_5, hsQ_5⟩ := k_genS n0 (kpl (kpl (he, ke, ki, fi, fa, or, mi, a, g, l, w, s) (min p r)) ((p + r) - (min p r))) (kV_pl (kV_pl hV (show (min p r) < mi by omega)) (show ((p + r) - (min p r)) < mi by omega)) (by have hq_ : k_st (kpl (kpl (he, ke, ki, fi, fa, or, mi, a, g, l, w, s) (min p r)) ((p + r) - (min p r))) < 2 ^ 19 := (show s < 2 ^ 19 by omega); omega)
          rw [hEQ_5]
          clear hEQ_5
          refine me_seg 4 (pc1 := 93) (ls1 := [some (.ref 138), some (.int (nI q)), some (.int (nI p)), some (.int (nI x)), some (.int (nI r)), some (.int (nI y)), some (.int (nI n0)), some (.int (nI (min p r))), some (.int (nI ((p + r) - (min p r))))]) (st1 := [.int 2, .int (nI q), .ref 140]) (M1 := (mk_M c n m kk (rT (he, ke, ki, fi, fa, or, mi, a, g, l, w, s) (er Q_5) xi xw im le nu rf ln nn vp xn xc vs))) (fun f => rfl) ?_
          refine me_call (y := 141) (y0 := 96) (L := [some (.int (nI q)), some (.int 2)]) (rest := [.ref 140]) (rr := some (.int (nI (32 + 3 * q + 2)))) (M1 := (mk_M c n m kk (rT (he, ke, ki, fi, fa, or, mi, a, g, l, w, s) (er Q_5) xi xw im le nu rf ln nn vp xn xc vs))) (fun f => rfl) (rc_of q 2 (by omega) (by decide) _) ?_
          refine me_ldn (xs := (er Q_5)) rfl rfl (k := 32 + 3 * q + 2) (by omega) (er_fa (K := Q_5) (kV_he hQ_5) (by omega)) ?_
          refine me_seg 4 (pc1 := 103) (ls1 := [some (.ref 138), some (.int (nI q)), some (.int (nI p)), some (.int (nI x)), some (.int (nI r)), some (.int (nI y)), some (.int (nI n0)), some (.int (nI (min p r))), some (.int (nI ((p + r) - (min p r))))]) (st1 := [.int 2, .int (nI q), .ref 139, .int (nI (kg (k_fa Q_5) q))]) (M1 := (mk_M c n m kk (rT (he, ke, ki, fi, fa, or, mi, a, g, l, w, s) (er Q_5) xi xw im le nu rf ln nn vp xn xc vs))) (fun f => rfl) ?_
          refine me_call (y := 141) (y0 := 106) (L := [some (.int (nI q)), some (.int 2)]) (rest := [.ref 139, .int (nI (kg (k_fa Q_5) q))]) (rr := some (.int (nI (32 + 3 * q + 2)))) (M1 := (mk_M c n m kk (rT (he, ke, ki, fi, fa, or, mi, a, g, l, w, s) (er Q_5) xi xw im le nu rf ln nn vp xn xc vs))) (fun f => rfl) (rc_of q 2 (by omega) (by decide) _) ?_
          refine me_ldn (xs := (er (he, ke, ki, fi, fa, or, mi, a, g, l, w, s))) rfl rfl (k := 32 + 3 * q + 2) (by omega) (er_fa (K := (he, ke, ki, fi, fa, or, mi, a, g, l, w, s)) v1 (by omega)) ?_
          refine me_seg 3 (pc1 := 110) (ls1 := [some (.ref 138), some (.int (nI q)), some (.int (nI p)), some (.int (nI x)), some (.int (nI r)), some (.int (nI y)), some (.int (nI n0)), some (.int (nI (min p r))), some (.int (nI ((p + r) - (min p r))))]) (st1 := [.int (nI p), .int (nI q), .int ((nI (kg (k_fa Q_5) q)) - (nI (kg fa q)))]) (M1 := (mk_M c n m kk (rT (he, ke, ki, fi, fa, or, mi, a, g, l, w, s) (er Q_5) xi xw im le nu rf ln nn vp xn xc vs))) (fun f => rfl) ?_
          refine me_if (C := (nI q) = (nI p)) (fun f => rfl) (fun h6 => ?_) (fun h6 => ?_)
          · refine me_ret 4 (r := some (.int (((nI (kg (k_fa Q_5) q)) - (nI (kg fa q))) + (nI x)))) (M1 := (mk_M c n m kk (rT (he, ke, ki, fi, fa, or, mi, a, g, l, w, s) (er Q_5) xi xw im le nu rf ln nn vp xn xc vs))) (fun f => rfl) ?_
            exact ⟨⟨_, rfl⟩, _, _, _, _, _, _, rfl, ⟨(er_len hQ_5), (by assumption), (by assumption), (by assumption)⟩⟩
          · refine me_ret 3 (r := some (.int (((nI (kg (k_fa Q_5) q)) - (nI (kg fa q))) + (nI y)))) (M1 := (mk_M c n m kk (rT (he, ke, ki, fi, fa, or, mi, a, g, l, w, s) (er Q_5) xi xw im le nu rf ln nn vp xn xc vs))) (fun f => rfl) ?_
            exact ⟨⟨_, rfl⟩, _, _, _, _, _, _, rfl, ⟨(er_len hQ_5), (by assumption), (by assumption), (by assumption)⟩⟩
        · refine me_seg 3 (pc1 := 84) (ls1 := [some (.ref 138), some (.int (nI q)), some (.int (nI p)), some (.int (nI x)), some (.int (nI r)), some (.int (nI y)), some (.int (nI n0)), some (.int (nI (min p r))), some (.int (nI ((p + r) - (min p r))))]) (st1 := [.int (nI n0), .ref 140]) (M1 := (mk_M c n m kk (rT (he, ke, ki, fi, fa, or, mi, a, g, l, w, s) (er (kpl (he, ke, ki, fi, fa, or, mi, a, g, l, w, s) (min p r))) xi xw im le nu rf ln nn vp xn xc vs))) (fun f => rfl) ?_
          refine me_call (y := 145) (y0 := 87) (L := [some (.ref 140), some (.int (nI n0)), none]) (rest := []) (rr := none) (M1 := (mk_M c n m kk (rT (he, ke, ki, fi, fa, or, mi, a, g, l, w, s) (er (ksteps n0 (kpl (he, ke, ki, fi, fa, or, mi, a, g, l, w, s) (min p r)))) xi xw im le nu rf ln nn vp xn xc vs))) (fun f => rfl) (rl_m c n m kk (rT (he, ke, ki, fi, fa, or, mi, a, g, l, w, s) (er (kpl (he, ke, ki, fi, fa, or, mi, a, g, l, w, s) (min p r))) xi xw im le nu rf ln nn vp xn xc vs) (rc_by_m n0 (by omega) (kpl (he, ke, ki, fi, fa, or, mi, a, g, l, w, s) (min p r)) (kV_pl hV (show (min p r) < mi by omega)) (show s < 2 ^ 20 by omega)) rfl) ?_
          obtain ⟨Q_7, hEQ_7, hQ_7, hsQ_7⟩ := k_genS n0 (kpl (he, ke, ki, fi, fa, or, mi, a, g, l, w, s) (min p r)) (kV_pl hV (show (min p r) < mi by omega)) (by have hq_ : k_st (kpl (he, ke, ki, fi, fa, or, mi, a, g, l, w, s) (min p r)) < 2 ^ 19 := (show s < 2 ^ 19 by omega); omega)
          rw [hEQ_7]
          clear hEQ_7
          refine me_seg 4 (pc1 := 93) (ls1 := [some (.ref 138), some (.int (nI q)), some (.int (nI p)), some (.int (nI x)), some (.int (nI r)), some (.int (nI y)), some (.int (nI n0)), some (.int (nI (min p r))), some (.int (nI ((p + r) - (min p r))))]) (st1 := [.int 2, .int (nI q), .ref 140]) (M1 := (mk_M c n m kk (rT (he, ke, ki, fi, fa, or, mi, a, g, l, w, s) (er Q_7) xi xw im le nu rf ln nn vp xn xc vs))) (fun f => rfl) ?_
          refine me_call (y := 141) (y0 := 96) (L := [some (.int (nI q)), some (.int 2)]) (rest := [.ref 140]) (rr := some (.int (nI (32 + 3 * q + 2)))) (M1 := (mk_M c n m kk (rT (he, ke, ki, fi, fa, or, mi, a, g, l, w, s) (er Q_7) xi xw im le nu rf ln nn vp xn xc vs))) (fun f => rfl) (rc_of q 2 (by omega) (by decide) _) ?_
          refine me_ldn (xs := (er Q_7)) rfl rfl (k := 32 + 3 * q + 2) (by omega) (er_fa (K := Q_7) (kV_he hQ_7) (by omega)) ?_
          refine me_seg 4 (pc1 := 103) (ls1 := [some (.ref 138), some (.int (nI q)), some (.int (nI p)), some (.int (nI x)), some (.int (nI r)), some (.int (nI y)), some (.int (nI n0)), some (.int (nI (min p r))), some (.int (nI ((p + r) - (min p r))))]) (st1 := [.int 2, .int (nI q), .ref 139, .int (nI (kg (k_fa Q_7) q))]) (M1 := (mk_M c n m kk (rT (he, ke, ki, fi, fa, or, mi, a, g, l, w, s) (er Q_7) xi xw im le nu rf ln nn vp xn xc vs))) (fun f => rfl) ?_
          refine me_call (y := 141) (y0 := 106) (L := [some (.int (nI q)), some (.int 2)]) (rest := [.ref 139, .int (nI (kg (k_fa Q_7) q))]) (rr := some (.int (nI (32 + 3 * q + 2)))) (M1 := (mk_M c n m kk (rT (he, ke, ki, fi, fa, or, mi, a, g, l, w, s) (er Q_7) xi xw im le nu rf ln nn vp xn xc vs))) (fun f => rfl) (rc_of q 2 (by omega) (by decide) _) ?_
          refine me_ldn (xs := (er (he, ke, ki, fi, fa, or, mi, a, g, l, w, s))) rfl rfl (k := 32 + 3 * q + 2) (by omega) (er_fa (K := (he, ke, ki, fi, fa, or, mi, a, g, l, w, s)) v1 (by omega)) ?_
          refine me_seg 3 (pc1 := 110) (ls1 := [some (.ref 138), some (.int (nI q)), some (.int (nI p)), some (.int (nI x)), some (.int (nI r)), some (.int (nI y)), some (.int (nI n0)), some (.int (nI (min p r))), some (.int (nI ((p + r) - (min p r))))]) (st1 := [.int (nI p), .int (nI q), .int ((nI (kg (k_fa Q_7) q)) - (nI (kg fa q)))]) (M1 := (mk_M c n m kk (rT (he, ke, ki, fi, fa, or, mi, a, g, l, w, s) (er Q_7) xi xw im le nu rf ln nn vp xn xc vs))) (fun f => rfl) ?_
          refine me_if (C := (nI q) = (nI p)) (fun f => rfl) (fun h8 => ?_) (fun h8 => ?_)
          · refine me_ret 4 (r := some (.int (((nI (kg (k_fa Q_7) q)) - (nI (kg fa q))) + (nI x)))) (M1 := (mk_M c n m kk (rT (he, ke, ki, fi, fa, or, mi, a, g, l, w, s) (er Q_7) xi xw im le nu rf ln nn vp xn xc vs))) (fun f => rfl) ?_
            exact ⟨⟨_, rfl⟩, _, _, _, _, _, _, rfl, ⟨(er_len hQ_7), (by assumption), (by assumption), (by assumption)⟩⟩
          · refine me_ret 3 (r := some (.int (((nI (kg (k_fa Q_7) q)) - (nI (kg fa q))) + (nI y)))) (M1 := (mk_M c n m kk (rT (he, ke, ki, fi, fa, or, mi, a, g, l, w, s) (er Q_7) xi xw im le nu rf ln nn vp xn xc vs))) (fun f => rfl) ?_
            exact ⟨⟨_, rfl⟩, _, _, _, _, _, _, rfl, ⟨(er_len hQ_7), (by assumption), (by assumption), (by assumption)⟩⟩
      · refine me_seg 2 (pc1 := 66) (ls1 := [some (.ref 138), some (.int (nI q)), some (.int (nI p)), some (.int (nI x)), some (.int (nI r)), some (.int (nI y)), some (.int (nI n0)), some (.int (nI (min p r))), some (.int (nI ((p + r) - (min p r))))]) (st1 := [.int 1, .int (nI y)]) (M1 := (mk_M c n m kk (rT (he, ke, ki, fi, fa, or, mi, a, g, l, w, s) (er (kpl (he, ke, ki, fi, fa, or, mi, a, g, l, w, s) (min p r))) xi xw im le nu rf ln nn vp xn xc vs))) (fun f => rfl) ?_
        refine me_if (C := (nI y) = 1) (fun f => rfl) (fun h9 => ?_) (fun h9 => ?_)
        · refine me_seg 3 (pc1 := 75) (ls1 := [some (.ref 138), some (.int (nI q)), some (.int (nI p)), some (.int (nI x)), some (.int (nI r)), some (.int (nI y)), some (.int (nI n0)), some (.int (nI (min p r))), some (.int (nI ((p + r) - (min p r))))]) (st1 := [.int (nI ((p + r) - (min p r))), .ref 140]) (M1 := (mk_M c n m kk (rT (he, ke, ki, fi, fa, or, mi, a, g, l, w, s) (er (kpl (he, ke, ki, fi, fa, or, mi, a, g, l, w, s) (min p r))) xi xw im le nu rf ln nn vp xn xc vs))) (fun f => rfl) ?_
          refine me_call (y := 143) (y0 := 78) (L := [some (.ref 140), some (.int (nI ((p + r) - (min p r)))), none]) (rest := []) (rr := none) (M1 := (mk_M c n m kk (rT (he, ke, ki, fi, fa, or, mi, a, g, l, w, s) (er (kpl (kpl (he, ke, ki, fi, fa, or, mi, a, g, l, w, s) (min p r)) ((p + r) - (min p r)))) xi xw im le nu rf ln nn vp xn xc vs))) (fun f => rfl) (rl_m c n m kk (rT (he, ke, ki, fi, fa, or, mi, a, g, l, w, s) (er (kpl (he, ke, ki, fi, fa, or, mi, a, g, l, w, s) (min p r))) xi xw im le nu rf ln nn vp xn xc vs) (rc_plQ (kpl (he, ke, ki, fi, fa, or, mi, a, g, l, w, s) (min p r)) ((p + r) - (min p r)) (show (p + r) - (min p r) < mi by omega) (kV_pl hV (show (min p r) < mi by omega))) rfl) ?_
          refine me_seg 3 (pc1 := 84) (ls1 := [some (.ref 138), some (.int (nI q)), some (.int (nI p)), some (.int (nI x)), some (.int (nI r)), some (.int (nI y)), some (.int (nI n0)), some (.int (nI (min p r))), some (.int (nI ((p + r) - (min p r))))]) (st1 := [.int (nI n0), .ref 140]) (M1 := (mk_M c n m kk (rT (he, ke, ki, fi, fa, or, mi, a, g, l, w, s) (er (kpl (kpl (he, ke, ki, fi, fa, or, mi, a, g, l, w, s) (min p r)) ((p + r) - (min p r)))) xi xw im le nu rf ln nn vp xn xc vs))) (fun f => rfl) ?_
          refine me_call (y := 145) (y0 := 87) (L := [some (.ref 140), some (.int (nI n0)), none]) (rest := []) (rr := none) (M1 := (mk_M c n m kk (rT (he, ke, ki, fi, fa, or, mi, a, g, l, w, s) (er (ksteps n0 (kpl (kpl (he, ke, ki, fi, fa, or, mi, a, g, l, w, s) (min p r)) ((p + r) - (min p r))))) xi xw im le nu rf ln nn vp xn xc vs))) (fun f => rfl) (rl_m c n m kk (rT (he, ke, ki, fi, fa, or, mi, a, g, l, w, s) (er (kpl (kpl (he, ke, ki, fi, fa, or, mi, a, g, l, w, s) (min p r)) ((p + r) - (min p r)))) xi xw im le nu rf ln nn vp xn xc vs) (rc_by_m n0 (by omega) (kpl (kpl (he, ke, ki, fi, fa, or, mi, a, g, l, w, s) (min p r)) ((p + r) - (min p r))) (kV_pl (kV_pl hV (show (min p r) < mi by omega)) (show ((p + r) - (min p r)) < mi by omega)) (show s < 2 ^ 20 by omega)) rfl) ?_
          obtain ⟨Q_10, hEQ_10, hQ_10, hsQ_10⟩ := k_genS n0 (kpl (kpl (he, ke, ki, fi, fa, or, mi, a, g, l, w, s) (min p r)) ((p + r) - (min p r))) (kV_pl (kV_pl hV (show (min p r) < mi by omega)) (show ((p + r) - (min p r)) < mi by omega)) (by have hq_ : k_st (kpl (kpl (he, ke, ki, fi, fa, or, mi, a, g, l, w, s) (min p r)) ((p + r) - (min p r))) < 2 ^ 19 := (show s < 2 ^ 19 by omega); omega)
          rw [hEQ_10]
          clear hEQ_10
          refine me_seg 4 (pc1 := 93) (ls1 := [some (.ref 138), some (.int (nI q)), some (.int (nI p)), some (.int (nI x)), some (.int (nI r)), some (.int (nI y)), some (.int (nI n0)), some (.int (nI (min p r))), some (.int (nI ((p + r) - (min p r))))]) (st1 := [.int 2, .int (nI q), .ref 140]) (M1 := (mk_M c n m kk (rT (he, ke, ki, fi, fa, or, mi, a, g, l, w, s) (er Q_10) xi xw im le nu rf ln nn vp xn xc vs))) (fun f => rfl) ?_
          refine me_call (y := 141) (y0 := 96) (L := [some (.int (nI q)), some (.int 2)]) (rest := [.ref 140]) (rr := some (.int (nI (32 + 3 * q + 2)))) (M1 := (mk_M c n m kk (rT (he, ke, ki, fi, fa, or, mi, a, g, l, w, s) (er Q_10) xi xw im le nu rf ln nn vp xn xc vs))) (fun f => rfl) (rc_of q 2 (by omega) (by decide) _) ?_
          refine me_ldn (xs := (er Q_10)) rfl rfl (k := 32 + 3 * q + 2) (by omega) (er_fa (K := Q_10) (kV_he hQ_10) (by omega)) ?_
          refine me_seg 4 (pc1 := 103) (ls1 := [some (.ref 138), some (.int (nI q)), some (.int (nI p)), some (.int (nI x)), some (.int (nI r)), some (.int (nI y)), some (.int (nI n0)), some (.int (nI (min p r))), some (.int (nI ((p + r) - (min p r))))]) (st1 := [.int 2, .int (nI q), .ref 139, .int (nI (kg (k_fa Q_10) q))]) (M1 := (mk_M c n m kk (rT (he, ke, ki, fi, fa, or, mi, a, g, l, w, s) (er Q_10) xi xw im le nu rf ln nn vp xn xc vs))) (fun f => rfl) ?_
          refine me_call (y := 141) (y0 := 106) (L := [some (.int (nI q)), some (.int 2)]) (rest := [.ref 139, .int (nI (kg (k_fa Q_10) q))]) (rr := some (.int (nI (32 + 3 * q + 2)))) (M1 := (mk_M c n m kk (rT (he, ke, ki, fi, fa, or, mi, a, g, l, w, s) (er Q_10) xi xw im le nu rf ln nn vp xn xc vs))) (fun f => rfl) (rc_of q 2 (by omega) (by decide) _) ?_
          refine me_ldn (xs := (er (he, ke, ki, fi, fa, or, mi, a, g, l, w, s))) rfl rfl (k := 32 + 3 * q + 2) (by omega) (er_fa (K := (he, ke, ki, fi, fa, or, mi, a, g, l, w, s)) v1 (by omega)) ?_
          refine me_seg 3 (pc1 := 110) (ls1 := [some (.ref 138), some (.int (nI q)), some (.int (nI p)), some (.int (nI x)), some (.int (nI r)), some (.int (nI y)), some (.int (nI n0)), some (.int (nI (min p r))), some (.int (nI ((p + r) - (min p r))))]) (st1 := [.int (nI p), .int (nI q), .int ((nI (kg (k_fa Q_10) q)) - (nI (kg fa q)))]) (M1 := (mk_M c n m kk (rT (he, ke, ki, fi, fa, or, mi, a, g, l, w, s) (er Q_10) xi xw im le nu rf ln nn vp xn xc vs))) (fun f => rfl) ?_
          refine me_if (C := (nI q) = (nI p)) (fun f => rfl) (fun h11 => ?_) (fun h11 => ?_)
          · refine me_ret 4 (r := some (.int (((nI (kg (k_fa Q_10) q)) - (nI (kg fa q))) + (nI x)))) (M1 := (mk_M c n m kk (rT (he, ke, ki, fi, fa, or, mi, a, g, l, w, s) (er Q_10) xi xw im le nu rf ln nn vp xn xc vs))) (fun f => rfl) ?_
            exact ⟨⟨_, rfl⟩, _, _, _, _, _, _, rfl, ⟨(er_len hQ_10), (by assumption), (by assumption), (by assumption)⟩⟩
          · refine me_ret 3 (r := some (.int (((nI (kg (k_fa Q_10) q)) - (nI (kg fa q))) + (nI y)))) (M1 := (mk_M c n m kk (rT (he, ke, ki, fi, fa, or, mi, a, g, l, w, s) (er Q_10) xi xw im le nu rf ln nn vp xn xc vs))) (fun f => rfl) ?_
            exact ⟨⟨_, rfl⟩, _, _, _, _, _, _, rfl, ⟨(er_len hQ_10), (by assumption), (by assumption), (by assumption)⟩⟩
        · refine me_seg 3 (pc1 := 84) (ls1 := [some (.ref 138), some (.int (nI q)), some (.int (nI p)), some (.int (nI x)), some (.int (nI r)), some (.int (nI y)), some (.int (nI n0)), some (.int (nI (min p r))), some (.int (nI ((p + r) - (min p r))))]) (st1 := [.int (nI n0), .ref 140]) (M1 := (mk_M c n m kk (rT (he, ke, ki, fi, fa, or, mi, a, g, l, w, s) (er (kpl (he, ke, ki, fi, fa, or, mi, a, g, l, w, s) (min p r))) xi xw im le nu rf ln nn vp xn xc vs))) (fun f => rfl) ?_
          refine me_call (y := 145) (y0 := 87) (L := [some (.ref 140), some (.int (nI n0)), none]) (rest := []) (rr := none) (M1 := (mk_M c n m kk (rT (he, ke, ki, fi, fa, or, mi, a, g, l, w, s) (er (ksteps n0 (kpl (he, ke, ki, fi, fa, or, mi, a, g, l, w, s) (min p r)))) xi xw im le nu rf ln nn vp xn xc vs))) (fun f => rfl) (rl_m c n m kk (rT (he, ke, ki, fi, fa, or, mi, a, g, l, w, s) (er (kpl (he, ke, ki, fi, fa, or, mi, a, g, l, w, s) (min p r))) xi xw im le nu rf ln nn vp xn xc vs) (rc_by_m n0 (by omega) (kpl (he, ke, ki, fi, fa, or, mi, a, g, l, w, s) (min p r)) (kV_pl hV (show (min p r) < mi by omega)) (show s < 2 ^ 20 by omega)) rfl) ?_
          obtain ⟨Q_12, hEQ_12, hQ_12, hsQ_12⟩ := k_genS n0 (kpl (he, ke, ki, fi, fa, or, mi, a, g, l, w, s) (min p r)) (kV_pl hV (show (min p r) < mi by omega)) (by have hq_ : k_st (kpl (he, ke, ki, fi, fa, or, mi, a, g, l, w, s) (min p r)) < 2 ^ 19 := (show s < 2 ^ 19 by omega); omega)
          rw [hEQ_12]
          clear hEQ_12
          refine me_seg 4 (pc1 := 93) (ls1 := [some (.ref 138), some (.int (nI q)), some (.int (nI p)), some (.int (nI x)), some (.int (nI r)), some (.int (nI y)), some (.int (nI n0)), some (.int (nI (min p r))), some (.int (nI ((p + r) - (min p r))))]) (st1 := [.int 2, .int (nI q), .ref 140]) (M1 := (mk_M c n m kk (rT (he, ke, ki, fi, fa, or, mi, a, g, l, w, s) (er Q_12) xi xw im le nu rf ln nn vp xn xc vs))) (fun f => rfl) ?_
          refine me_call (y := 141) (y0 := 96) (L := [some (.int (nI q)), some (.int 2)]) (rest := [.ref 140]) (rr := some (.int (nI (32 + 3 * q + 2)))) (M1 := (mk_M c n m kk (rT (he, ke, ki, fi, fa, or, mi, a, g, l, w, s) (er Q_12) xi xw im le nu rf ln nn vp xn xc vs))) (fun f => rfl) (rc_of q 2 (by omega) (by decide) _) ?_
          refine me_ldn (xs := (er Q_12)) rfl rfl (k := 32 + 3 * q + 2) (by omega) (er_fa (K := Q_12) (kV_he hQ_12) (by omega)) ?_
          refine me_seg 4 (pc1 := 103) (ls1 := [some (.ref 138), some (.int (nI q)), some (.int (nI p)), some (.int (nI x)), some (.int (nI r)), some (.int (nI y)), some (.int (nI n0)), some (.int (nI (min p r))), some (.int (nI ((p + r) - (min p r))))]) (st1 := [.int 2, .int (nI q), .ref 139, .int (nI (kg (k_fa Q_12) q))]) (M1 := (mk_M c n m kk (rT (he, ke, ki, fi, fa, or, mi, a, g, l, w, s) (er Q_12) xi xw im le nu rf ln nn vp xn xc vs))) (fun f => rfl) ?_
          refine me_call (y := 141) (y0 := 106) (L := [some (.int (nI q)), some (.int 2)]) (rest := [.ref 139, .int (nI (kg (k_fa Q_12) q))]) (rr := some (.int (nI (32 + 3 * q + 2)))) (M1 := (mk_M c n m kk (rT (he, ke, ki, fi, fa, or, mi, a, g, l, w, s) (er Q_12) xi xw im le nu rf ln nn vp xn xc vs))) (fun f => rfl) (rc_of q 2 (by omega) (by decide) _) ?_
          refine me_ldn (xs := (er (he, ke, ki, fi, fa, or, mi, a, g, l, w, s))) rfl rfl (k := 32 + 3 * q + 2) (by omega) (er_fa (K := (he, ke, ki, fi, fa, or, mi, a, g, l, w, s)) v1 (by omega)) ?_
          refine me_seg 3 (pc1 := 110) (ls1 := [some (.ref 138), some (.int (nI q)), some (.int (nI p)), some (.int (nI x)), some (.int (nI r)), some (.int (nI y)), some (.int (nI n0)), some (.int (nI (min p r))), some (.int (nI ((p + r) - (min p r))))]) (st1 := [.int (nI p), .int (nI q), .int ((nI (kg (k_fa Q_12) q)) - (nI (kg fa q)))]) (M1 := (mk_M c n m kk (rT (he, ke, ki, fi, fa, or, mi, a, g, l, w, s) (er Q_12) xi xw im le nu rf ln nn vp xn xc vs))) (fun f => rfl) ?_
          refine me_if (C := (nI q) = (nI p)) (fun f => rfl) (fun h13 => ?_) (fun h13 => ?_)
          · refine me_ret 4 (r := some (.int (((nI (kg (k_fa Q_12) q)) - (nI (kg fa q))) + (nI x)))) (M1 := (mk_M c n m kk (rT (he, ke, ki, fi, fa, or, mi, a, g, l, w, s) (er Q_12) xi xw im le nu rf ln nn vp xn xc vs))) (fun f => rfl) ?_
            exact ⟨⟨_, rfl⟩, _, _, _, _, _, _, rfl, ⟨(er_len hQ_12), (by assumption), (by assumption), (by assumption)⟩⟩
          · refine me_ret 3 (r := some (.int (((nI (kg (k_fa Q_12) q)) - (nI (kg fa q))) + (nI y)))) (M1 := (mk_M c n m kk (rT (he, ke, ki, fi, fa, or, mi, a, g, l, w, s) (er Q_12) xi xw im le nu rf ln nn vp xn xc vs))) (fun f => rfl) ?_
            exact ⟨⟨_, rfl⟩, _, _, _, _, _, _, rfl, ⟨(er_len hQ_12), (by assumption), (by assumption), (by assumption)⟩⟩
    · refine me_seg 2 (pc1 := 56) (ls1 := [some (.ref 138), some (.int (nI q)), some (.int (nI p)), some (.int (nI x)), some (.int (nI r)), some (.int (nI y)), some (.int (nI n0)), some (.int (nI (min p r))), some (.int (nI ((p + r) - (min p r))))]) (st1 := [.int (nI p), .int (nI ((p + r) - (min p r)))]) (M1 := (mk_M c n m kk (rT (he, ke, ki, fi, fa, or, mi, a, g, l, w, s) (er (he, ke, ki, fi, fa, or, mi, a, g, l, w, s)) xi xw im le nu rf ln nn vp xn xc vs))) (fun f => rfl) ?_
      refine me_if (C := (nI ((p + r) - (min p r))) = (nI p)) (fun f => rfl) (fun h14 => ?_) (fun h14 => ?_)
      · refine me_seg 3 (pc1 := 66) (ls1 := [some (.ref 138), some (.int (nI q)), some (.int (nI p)), some (.int (nI x)), some (.int (nI r)), some (.int (nI y)), some (.int (nI n0)), some (.int (nI (min p r))), some (.int (nI ((p + r) - (min p r))))]) (st1 := [.int 1, .int (nI x)]) (M1 := (mk_M c n m kk (rT (he, ke, ki, fi, fa, or, mi, a, g, l, w, s) (er (he, ke, ki, fi, fa, or, mi, a, g, l, w, s)) xi xw im le nu rf ln nn vp xn xc vs))) (fun f => rfl) ?_
        refine me_if (C := (nI x) = 1) (fun f => rfl) (fun h15 => ?_) (fun h15 => ?_)
        · refine me_seg 3 (pc1 := 75) (ls1 := [some (.ref 138), some (.int (nI q)), some (.int (nI p)), some (.int (nI x)), some (.int (nI r)), some (.int (nI y)), some (.int (nI n0)), some (.int (nI (min p r))), some (.int (nI ((p + r) - (min p r))))]) (st1 := [.int (nI ((p + r) - (min p r))), .ref 140]) (M1 := (mk_M c n m kk (rT (he, ke, ki, fi, fa, or, mi, a, g, l, w, s) (er (he, ke, ki, fi, fa, or, mi, a, g, l, w, s)) xi xw im le nu rf ln nn vp xn xc vs))) (fun f => rfl) ?_
          refine me_call (y := 143) (y0 := 78) (L := [some (.ref 140), some (.int (nI ((p + r) - (min p r)))), none]) (rest := []) (rr := none) (M1 := (mk_M c n m kk (rT (he, ke, ki, fi, fa, or, mi, a, g, l, w, s) (er (kpl (he, ke, ki, fi, fa, or, mi, a, g, l, w, s) ((p + r) - (min p r)))) xi xw im le nu rf ln nn vp xn xc vs))) (fun f => rfl) (rl_m c n m kk (rT (he, ke, ki, fi, fa, or, mi, a, g, l, w, s) (er (he, ke, ki, fi, fa, or, mi, a, g, l, w, s)) xi xw im le nu rf ln nn vp xn xc vs) (rc_plQ (he, ke, ki, fi, fa, or, mi, a, g, l, w, s) ((p + r) - (min p r)) (show (p + r) - (min p r) < mi by omega) hV) rfl) ?_
          refine me_seg 3 (pc1 := 84) (ls1 := [some (.ref 138), some (.int (nI q)), some (.int (nI p)), some (.int (nI x)), some (.int (nI r)), some (.int (nI y)), some (.int (nI n0)), some (.int (nI (min p r))), some (.int (nI ((p + r) - (min p r))))]) (st1 := [.int (nI n0), .ref 140]) (M1 := (mk_M c n m kk (rT (he, ke, ki, fi, fa, or, mi, a, g, l, w, s) (er (kpl (he, ke, ki, fi, fa, or, mi, a, g, l, w, s) ((p + r) - (min p r)))) xi xw im le nu rf ln nn vp xn xc vs))) (fun f => rfl) ?_
          refine me_call (y := 145) (y0 := 87) (L := [some (.ref 140), some (.int (nI n0)), none]) (rest := []) (rr := none) (M1 := (mk_M c n m kk (rT (he, ke, ki, fi, fa, or, mi, a, g, l, w, s) (er (ksteps n0 (kpl (he, ke, ki, fi, fa, or, mi, a, g, l, w, s) ((p + r) - (min p r))))) xi xw im le nu rf ln nn vp xn xc vs))) (fun f => rfl) (rl_m c n m kk (rT (he, ke, ki, fi, fa, or, mi, a, g, l, w, s) (er (kpl (he, ke, ki, fi, fa, or, mi, a, g, l, w, s) ((p + r) - (min p r)))) xi xw im le nu rf ln nn vp xn xc vs) (rc_by_m n0 (by omega) (kpl (he, ke, ki, fi, fa, or, mi, a, g, l, w, s) ((p + r) - (min p r))) (kV_pl hV (show ((p + r) - (min p r)) < mi by omega)) (show s < 2 ^ 20 by omega)) rfl) ?_
          obtain ⟨Q_16, hEQ_16, hQ_16, hsQ_16⟩ := k_genS n0 (kpl (he, ke, ki, fi, fa, or, mi, a, g, l, w, s) ((p + r) - (min p r))) (kV_pl hV (show ((p + r) - (min p r)) < mi by omega)) (by have hq_ : k_st (kpl (he, ke, ki, fi, fa, or, mi, a, g, l, w, s) ((p + r) - (min p r))) < 2 ^ 19 := (show s < 2 ^ 19 by omega); omega)
          rw [hEQ_16]
          clear hEQ_16
          refine me_seg 4 (pc1 := 93) (ls1 := [some (.ref 138), some (.int (nI q)), some (.int (nI p)), some (.int (nI x)), some (.int (nI r)), some (.int (nI y)), some (.int (nI n0)), some (.int (nI (min p r))), some (.int (nI ((p + r) - (min p r))))]) (st1 := [.int 2, .int (nI q), .ref 140]) (M1 := (mk_M c n m kk (rT (he, ke, ki, fi, fa, or, mi, a, g, l, w, s) (er Q_16) xi xw im le nu rf ln nn vp xn xc vs))) (fun f => rfl) ?_
          refine me_call (y := 141) (y0 := 96) (L := [some (.int (nI q)), some (.int 2)]) (rest := [.ref 140]) (rr := some (.int (nI (32 + 3 * q + 2)))) (M1 := (mk_M c n m kk (rT (he, ke, ki, fi, fa, or, mi, a, g, l, w, s) (er Q_16) xi xw im le nu rf ln nn vp xn xc vs))) (fun f => rfl) (rc_of q 2 (by omega) (by decide) _) ?_
          refine me_ldn (xs := (er Q_16)) rfl rfl (k := 32 + 3 * q + 2) (by omega) (er_fa (K := Q_16) (kV_he hQ_16) (by omega)) ?_
          refine me_seg 4 (pc1 := 103) (ls1 := [some (.ref 138), some (.int (nI q)), some (.int (nI p)), some (.int (nI x)), some (.int (nI r)), some (.int (nI y)), some (.int (nI n0)), some (.int (nI (min p r))), some (.int (nI ((p + r) - (min p r))))]) (st1 := [.int 2, .int (nI q), .ref 139, .int (nI (kg (k_fa Q_16) q))]) (M1 := (mk_M c n m kk (rT (he, ke, ki, fi, fa, or, mi, a, g, l, w, s) (er Q_16) xi xw im le nu rf ln nn vp xn xc vs))) (fun f => rfl) ?_
          refine me_call (y := 141) (y0 := 106) (L := [some (.int (nI q)), some (.int 2)]) (rest := [.ref 139, .int (nI (kg (k_fa Q_16) q))]) (rr := some (.int (nI (32 + 3 * q + 2)))) (M1 := (mk_M c n m kk (rT (he, ke, ki, fi, fa, or, mi, a, g, l, w, s) (er Q_16) xi xw im le nu rf ln nn vp xn xc vs))) (fun f => rfl) (rc_of q 2 (by omega) (by decide) _) ?_
          refine me_ldn (xs := (er (he, ke, ki, fi, fa, or, mi, a, g, l, w, s))) rfl rfl (k := 32 + 3 * q + 2) (by omega) (er_fa (K := (he, ke, ki, fi, fa, or, mi, a, g, l, w, s)) v1 (by omega)) ?_
          refine me_seg 3 (pc1 := 110) (ls1 := [some (.ref 138), some (.int (nI q)), some (.int (nI p)), some (.int (nI x)), some (.int (nI r)), some (.int (nI y)), some (.int (nI n0)), some (.int (nI (min p r))), some (.int (nI ((p + r) - (min p r))))]) (st1 := [.int (nI p), .int (nI q), .int ((nI (kg (k_fa Q_16) q)) - (nI (kg fa q)))]) (M1 := (mk_M c n m kk (rT (he, ke, ki, fi, fa, or, mi, a, g, l, w, s) (er Q_16) xi xw im le nu rf ln nn vp xn xc vs))) (fun f => rfl) ?_
          refine me_if (C := (nI q) = (nI p)) (fun f => rfl) (fun h17 => ?_) (fun h17 => ?_)
          · refine me_ret 4 (r := some (.int (((nI (kg (k_fa Q_16) q)) - (nI (kg fa q))) + (nI x)))) (M1 := (mk_M c n m kk (rT (he, ke, ki, fi, fa, or, mi, a, g, l, w, s) (er Q_16) xi xw im le nu rf ln nn vp xn xc vs))) (fun f => rfl) ?_
            exact ⟨⟨_, rfl⟩, _, _, _, _, _, _, rfl, ⟨(er_len hQ_16), (by assumption), (by assumption), (by assumption)⟩⟩
          · refine me_ret 3 (r := some (.int (((nI (kg (k_fa Q_16) q)) - (nI (kg fa q))) + (nI y)))) (M1 := (mk_M c n m kk (rT (he, ke, ki, fi, fa, or, mi, a, g, l, w, s) (er Q_16) xi xw im le nu rf ln nn vp xn xc vs))) (fun f => rfl) ?_
            exact ⟨⟨_, rfl⟩, _, _, _, _, _, _, rfl, ⟨(er_len hQ_16), (by assumption), (by assumption), (by assumption)⟩⟩
        · refine me_seg 3 (pc1 := 84) (ls1 := [some (.ref 138), some (.int (nI q)), some (.int (nI p)), some (.int (nI x)), some (.int (nI r)), some (.int (nI y)), some (.int (nI n0)), some (.int (nI (min p r))), some (.int (nI ((p + r) - (min p r))))]) (st1 := [.int (nI n0), .ref 140]) (M1 := (mk_M c n m kk (rT (he, ke, ki, fi, fa, or, mi, a, g, l, w, s) (er (he, ke, ki, fi, fa, or, mi, a, g, l, w, s)) xi xw im le nu rf ln nn vp xn xc vs))) (fun f => rfl) ?_
          refine me_call (y := 145) (y0 := 87) (L := [some (.ref 140), some (.int (nI n0)), none]) (rest := []) (rr := none) (M1 := (mk_M c n m kk (rT (he, ke, ki, fi, fa, or, mi, a, g, l, w, s) (er (ksteps n0 (he, ke, ki, fi, fa, or, mi, a, g, l, w, s))) xi xw im le nu rf ln nn vp xn xc vs))) (fun f => rfl) (rl_m c n m kk (rT (he, ke, ki, fi, fa, or, mi, a, g, l, w, s) (er (he, ke, ki, fi, fa, or, mi, a, g, l, w, s)) xi xw im le nu rf ln nn vp xn xc vs) (rc_by_m n0 (by omega) (he, ke, ki, fi, fa, or, mi, a, g, l, w, s) hV (show s < 2 ^ 20 by omega)) rfl) ?_
          obtain ⟨Q_18, hEQ_18, hQ_18, hsQ_18⟩ := k_genS n0 (he, ke, ki, fi, fa, or, mi, a, g, l, w, s) hV (by have hq_ : k_st (he, ke, ki, fi, fa, or, mi, a, g, l, w, s) < 2 ^ 19 := (show s < 2 ^ 19 by omega); omega)
          rw [hEQ_18]
          clear hEQ_18
          refine me_seg 4 (pc1 := 93) (ls1 := [some (.ref 138), some (.int (nI q)), some (.int (nI p)), some (.int (nI x)), some (.int (nI r)), some (.int (nI y)), some (.int (nI n0)), some (.int (nI (min p r))), some (.int (nI ((p + r) - (min p r))))]) (st1 := [.int 2, .int (nI q), .ref 140]) (M1 := (mk_M c n m kk (rT (he, ke, ki, fi, fa, or, mi, a, g, l, w, s) (er Q_18) xi xw im le nu rf ln nn vp xn xc vs))) (fun f => rfl) ?_
          refine me_call (y := 141) (y0 := 96) (L := [some (.int (nI q)), some (.int 2)]) (rest := [.ref 140]) (rr := some (.int (nI (32 + 3 * q + 2)))) (M1 := (mk_M c n m kk (rT (he, ke, ki, fi, fa, or, mi, a, g, l, w, s) (er Q_18) xi xw im le nu rf ln nn vp xn xc vs))) (fun f => rfl) (rc_of q 2 (by omega) (by decide) _) ?_
          refine me_ldn (xs := (er Q_18)) rfl rfl (k := 32 + 3 * q + 2) (by omega) (er_fa (K := Q_18) (kV_he hQ_18) (by omega)) ?_
          refine me_seg 4 (pc1 := 103) (ls1 := [some (.ref 138), some (.int (nI q)), some (.int (nI p)), some (.int (nI x)), some (.int (nI r)), some (.int (nI y)), some (.int (nI n0)), some (.int (nI (min p r))), some (.int (nI ((p + r) - (min p r))))]) (st1 := [.int 2, .int (nI q), .ref 139, .int (nI (kg (k_fa Q_18) q))]) (M1 := (mk_M c n m kk (rT (he, ke, ki, fi, fa, or, mi, a, g, l, w, s) (er Q_18) xi xw im le nu rf ln nn vp xn xc vs))) (fun f => rfl) ?_
          refine me_call (y := 141) (y0 := 106) (L := [some (.int (nI q)), some (.int 2)]) (rest := [.ref 139, .int (nI (kg (k_fa Q_18) q))]) (rr := some (.int (nI (32 + 3 * q + 2)))) (M1 := (mk_M c n m kk (rT (he, ke, ki, fi, fa, or, mi, a, g, l, w, s) (er Q_18) xi xw im le nu rf ln nn vp xn xc vs))) (fun f => rfl) (rc_of q 2 (by omega) (by decide) _) ?_
          refine me_ldn (xs := (er (he, ke, ki, fi, fa, or, mi, a, g, l, w, s))) rfl rfl (k := 32 + 3 * q + 2) (by omega) (er_fa (K := (he, ke, ki, fi, fa, or, mi, a, g, l, w, s)) v1 (by omega)) ?_
          refine me_seg 3 (pc1 := 110) (ls1 := [some (.ref 138), some (.int (nI q)), some (.int (nI p)), some (.int (nI x)), some (.int (nI r)), some (.int (nI y)), some (.int (nI n0)), some (.int (nI (min p r))), some (.int (nI ((p + r) - (min p r))))]) (st1 := [.int (nI p), .int (nI q), .int ((nI (kg (k_fa Q_18) q)) - (nI (kg fa q)))]) (M1 := (mk_M c n m kk (rT (he, ke, ki, fi, fa, or, mi, a, g, l, w, s) (er Q_18) xi xw im le nu rf ln nn vp xn xc vs))) (fun f => rfl) ?_
          refine me_if (C := (nI q) = (nI p)) (fun f => rfl) (fun h19 => ?_) (fun h19 => ?_)
          · refine me_ret 4 (r := some (.int (((nI (kg (k_fa Q_18) q)) - (nI (kg fa q))) + (nI x)))) (M1 := (mk_M c n m kk (rT (he, ke, ki, fi, fa, or, mi, a, g, l, w, s) (er Q_18) xi xw im le nu rf ln nn vp xn xc vs))) (fun f => rfl) ?_
            exact ⟨⟨_, rfl⟩, _, _, _, _, _, _, rfl, ⟨(er_len hQ_18), (by assumption), (by assumption), (by assumption)⟩⟩
          · refine me_ret 3 (r := some (.int (((nI (kg (k_fa Q_18) q)) - (nI (kg fa q))) + (nI y)))) (M1 := (mk_M c n m kk (rT (he, ke, ki, fi, fa, or, mi, a, g, l, w, s) (er Q_18) xi xw im le nu rf ln nn vp xn xc vs))) (fun f => rfl) ?_
            exact ⟨⟨_, rfl⟩, _, _, _, _, _, _, rfl, ⟨(er_len hQ_18), (by assumption), (by assumption), (by assumption)⟩⟩
      · refine me_seg 2 (pc1 := 66) (ls1 := [some (.ref 138), some (.int (nI q)), some (.int (nI p)), some (.int (nI x)), some (.int (nI r)), some (.int (nI y)), some (.int (nI n0)), some (.int (nI (min p r))), some (.int (nI ((p + r) - (min p r))))]) (st1 := [.int 1, .int (nI y)]) (M1 := (mk_M c n m kk (rT (he, ke, ki, fi, fa, or, mi, a, g, l, w, s) (er (he, ke, ki, fi, fa, or, mi, a, g, l, w, s)) xi xw im le nu rf ln nn vp xn xc vs))) (fun f => rfl) ?_
        refine me_if (C := (nI y) = 1) (fun f => rfl) (fun h20 => ?_) (fun h20 => ?_)
        · refine me_seg 3 (pc1 := 75) (ls1 := [some (.ref 138), some (.int (nI q)), some (.int (nI p)), some (.int (nI x)), some (.int (nI r)), some (.int (nI y)), some (.int (nI n0)), some (.int (nI (min p r))), some (.int (nI ((p + r) - (min p r))))]) (st1 := [.int (nI ((p + r) - (min p r))), .ref 140]) (M1 := (mk_M c n m kk (rT (he, ke, ki, fi, fa, or, mi, a, g, l, w, s) (er (he, ke, ki, fi, fa, or, mi, a, g, l, w, s)) xi xw im le nu rf ln nn vp xn xc vs))) (fun f => rfl) ?_
          refine me_call (y := 143) (y0 := 78) (L := [some (.ref 140), some (.int (nI ((p + r) - (min p r)))), none]) (rest := []) (rr := none) (M1 := (mk_M c n m kk (rT (he, ke, ki, fi, fa, or, mi, a, g, l, w, s) (er (kpl (he, ke, ki, fi, fa, or, mi, a, g, l, w, s) ((p + r) - (min p r)))) xi xw im le nu rf ln nn vp xn xc vs))) (fun f => rfl) (rl_m c n m kk (rT (he, ke, ki, fi, fa, or, mi, a, g, l, w, s) (er (he, ke, ki, fi, fa, or, mi, a, g, l, w, s)) xi xw im le nu rf ln nn vp xn xc vs) (rc_plQ (he, ke, ki, fi, fa, or, mi, a, g, l, w, s) ((p + r) - (min p r)) (show (p + r) - (min p r) < mi by omega) hV) rfl) ?_
          refine me_seg 3 (pc1 := 84) (ls1 := [some (.ref 138), some (.int (nI q)), some (.int (nI p)), some (.int (nI x)), some (.int (nI r)), some (.int (nI y)), some (.int (nI n0)), some (.int (nI (min p r))), some (.int (nI ((p + r) - (min p r))))]) (st1 := [.int (nI n0), .ref 140]) (M1 := (mk_M c n m kk (rT (he, ke, ki, fi, fa, or, mi, a, g, l, w, s) (er (kpl (he, ke, ki, fi, fa, or, mi, a, g, l, w, s) ((p + r) - (min p r)))) xi xw im le nu rf ln nn vp xn xc vs))) (fun f => rfl) ?_
          refine me_call (y := 145) (y0 := 87) (L := [some (.ref 140), some (.int (nI n0)), none]) (rest := []) (rr := none) (M1 := (mk_M c n m kk (rT (he, ke, ki, fi, fa, or, mi, a, g, l, w, s) (er (ksteps n0 (kpl (he, ke, ki, fi, fa, or, mi, a, g, l, w, s) ((p + r) - (min p r))))) xi xw im le nu rf ln nn vp xn xc vs))) (fun f => rfl) (rl_m c n m kk (rT (he, ke, ki, fi, fa, or, mi, a, g, l, w, s) (er (kpl (he, ke, ki, fi, fa, or, mi, a, g, l, w, s) ((p + r) - (min p r)))) xi xw im le nu rf ln nn vp xn xc vs) (rc_by_m n0 (by omega) (kpl (he, ke, ki, fi, fa, or, mi, a, g, l, w, s) ((p + r) - (min p r))) (kV_pl hV (show ((p + r) - (min p r)) < mi by omega)) (show s < 2 ^ 20 by omega)) rfl) ?_
          obtain ⟨Q_21, hEQ_21, hQ_21, hsQ_21⟩ := k_genS n0 (kpl (he, ke, ki, fi, fa, or, mi, a, g, l, w, s) ((p + r) - (min p r))) (kV_pl hV (show ((p + r) - (min p r)) < mi by omega)) (by have hq_ : k_st (kpl (he, ke, ki, fi, fa, or, mi, a, g, l, w, s) ((p + r) - (min p r))) < 2 ^ 19 := (show s < 2 ^ 19 by omega); omega)
          rw [hEQ_21]
          clear hEQ_21
          refine me_seg 4 (pc1 := 93) (ls1 := [some (.ref 138), some (.int (nI q)), some (.int (nI p)), some (.int (nI x)), some (.int (nI r)), some (.int (nI y)), some (.int (nI n0)), some (.int (nI (min p r))), some (.int (nI ((p + r) - (min p r))))]) (st1 := [.int 2, .int (nI q), .ref 140]) (M1 := (mk_M c n m kk (rT (he, ke, ki, fi, fa, or, mi, a, g, l, w, s) (er Q_21) xi xw im le nu rf ln nn vp xn xc vs))) (fun f => rfl) ?_
          refine me_call (y := 141) (y0 := 96) (L := [some (.int (nI q)), some (.int 2)]) (rest := [.ref 140]) (rr := some (.int (nI (32 + 3 * q + 2)))) (M1 := (mk_M c n m kk (rT (he, ke, ki, fi, fa, or, mi, a, g, l, w, s) (er Q_21) xi xw im le nu rf ln nn vp xn xc vs))) (fun f => rfl) (rc_of q 2 (by omega) (by decide) _) ?_
          refine me_ldn (xs := (er Q_21)) rfl rfl (k := 32 + 3 * q + 2) (by omega) (er_fa (K := Q_21) (kV_he hQ_21) (by omega)) ?_
          refine me_seg 4 (pc1 := 103) (ls1 := [some (.ref 138), some (.int (nI q)), some (.int (nI p)), some (.int (nI x)), some (.int (nI r)), some (.int (nI y)), some (.int (nI n0)), some (.int (nI (min p r))), some (.int (nI ((p + r) - (min p r))))]) (st1 := [.int 2, .int (nI q), .ref 139, .int (nI (kg (k_fa Q_21) q))]) (M1 := (mk_M c n m kk (rT (he, ke, ki, fi, fa, or, mi, a, g, l, w, s) (er Q_21) xi xw im le nu rf ln nn vp xn xc vs))) (fun f => rfl) ?_
          refine me_call (y := 141) (y0 := 106) (L := [some (.int (nI q)), some (.int 2)]) (rest := [.ref 139, .int (nI (kg (k_fa Q_21) q))]) (rr := some (.int (nI (32 + 3 * q + 2)))) (M1 := (mk_M c n m kk (rT (he, ke, ki, fi, fa, or, mi, a, g, l, w, s) (er Q_21) xi xw im le nu rf ln nn vp xn xc vs))) (fun f => rfl) (rc_of q 2 (by omega) (by decide) _) ?_
          refine me_ldn (xs := (er (he, ke, ki, fi, fa, or, mi, a, g, l, w, s))) rfl rfl (k := 32 + 3 * q + 2) (by omega) (er_fa (K := (he, ke, ki, fi, fa, or, mi, a, g, l, w, s)) v1 (by omega)) ?_
          refine me_seg 3 (pc1 := 110) (ls1 := [some (.ref 138), some (.int (nI q)), some (.int (nI p)), some (.int (nI x)), some (.int (nI r)), some (.int (nI y)), some (.int (nI n0)), some (.int (nI (min p r))), some (.int (nI ((p + r) - (min p r))))]) (st1 := [.int (nI p), .int (nI q), .int ((nI (kg (k_fa Q_21) q)) - (nI (kg fa q)))]) (M1 := (mk_M c n m kk (rT (he, ke, ki, fi, fa, or, mi, a, g, l, w, s) (er Q_21) xi xw im le nu rf ln nn vp xn xc vs))) (fun f => rfl) ?_
          refine me_if (C := (nI q) = (nI p)) (fun f => rfl) (fun h22 => ?_) (fun h22 => ?_)
          · refine me_ret 4 (r := some (.int (((nI (kg (k_fa Q_21) q)) - (nI (kg fa q))) + (nI x)))) (M1 := (mk_M c n m kk (rT (he, ke, ki, fi, fa, or, mi, a, g, l, w, s) (er Q_21) xi xw im le nu rf ln nn vp xn xc vs))) (fun f => rfl) ?_
            exact ⟨⟨_, rfl⟩, _, _, _, _, _, _, rfl, ⟨(er_len hQ_21), (by assumption), (by assumption), (by assumption)⟩⟩
          · refine me_ret 3 (r := some (.int (((nI (kg (k_fa Q_21) q)) - (nI (kg fa q))) + (nI y)))) (M1 := (mk_M c n m kk (rT (he, ke, ki, fi, fa, or, mi, a, g, l, w, s) (er Q_21) xi xw im le nu rf ln nn vp xn xc vs))) (fun f => rfl) ?_
            exact ⟨⟨_, rfl⟩, _, _, _, _, _, _, rfl, ⟨(er_len hQ_21), (by assumption), (by assumption), (by assumption)⟩⟩
        · refine me_seg 3 (pc1 := 84) (ls1 := [some (.ref 138), some (.int (nI q)), some (.int (nI p)), some (.int (nI x)), some (.int (nI r)), some (.int (nI y)), some (.int (nI n0)), some (.int (nI (min p r))), some (.int (nI ((p + r) - (min p r))))]) (st1 := [.int (nI n0), .ref 140]) (M1 := (mk_M c n m kk (rT (he, ke, ki, fi, fa, or, mi, a, g, l, w, s) (er (he, ke, ki, fi, fa, or, mi, a, g, l, w, s)) xi xw im le nu rf ln nn vp xn xc vs))) (fun f => rfl) ?_
          refine me_call (y := 145) (y0 := 87) (L := [some (.ref 140), some (.int (nI n0)), none]) (rest := []) (rr := none) (M1 := (mk_M c n m kk (rT (he, ke, ki, fi, fa, or, mi, a, g, l, w, s) (er (ksteps n0 (he, ke, ki, fi, fa, or, mi, a, g, l, w, s))) xi xw im le nu rf ln nn vp xn xc vs))) (fun f => rfl) (rl_m c n m kk (rT (he, ke, ki, fi, fa, or, mi, a, g, l, w, s) (er (he, ke, ki, fi, fa, or, mi, a, g, l, w, s)) xi xw im le nu rf ln nn vp xn xc vs) (rc_by_m n0 (by omega) (he, ke, ki, fi, fa, or, mi, a, g, l, w, s) hV (show s < 2 ^ 20 by omega)) rfl) ?_
          obtain ⟨Q_23, hEQ_23, hQ_23, hsQ_23⟩ := k_genS n0 (he, ke, ki, fi, fa, or, mi, a, g, l, w, s) hV (by have hq_ : k_st (he, ke, ki, fi, fa, or, mi, a, g, l, w, s) < 2 ^ 19 := (show s < 2 ^ 19 by omega); omega)
          rw [hEQ_23]
          clear hEQ_23
          refine me_seg 4 (pc1 := 93) (ls1 := [some (.ref 138), some (.int (nI q)), some (.int (nI p)), some (.int (nI x)), some (.int (nI r)), some (.int (nI y)), some (.int (nI n0)), some (.int (nI (min p r))), some (.int (nI ((p + r) - (min p r))))]) (st1 := [.int 2, .int (nI q), .ref 140]) (M1 := (mk_M c n m kk (rT (he, ke, ki, fi, fa, or, mi, a, g, l, w, s) (er Q_23) xi xw im le nu rf ln nn vp xn xc vs))) (fun f => rfl) ?_
          refine me_call (y := 141) (y0 := 96) (L := [some (.int (nI q)), some (.int 2)]) (rest := [.ref 140]) (rr := some (.int (nI (32 + 3 * q + 2)))) (M1 := (mk_M c n m kk (rT (he, ke, ki, fi, fa, or, mi, a, g, l, w, s) (er Q_23) xi xw im le nu rf ln nn vp xn xc vs))) (fun f => rfl) (rc_of q 2 (by omega) (by decide) _) ?_
          refine me_ldn (xs := (er Q_23)) rfl rfl (k := 32 + 3 * q + 2) (by omega) (er_fa (K := Q_23) (kV_he hQ_23) (by omega)) ?_
          refine me_seg 4 (pc1 := 103) (ls1 := [some (.ref 138), some (.int (nI q)), some (.int (nI p)), some (.int (nI x)), some (.int (nI r)), some (.int (nI y)), some (.int (nI n0)), some (.int (nI (min p r))), some (.int (nI ((p + r) - (min p r))))]) (st1 := [.int 2, .int (nI q), .ref 139, .int (nI (kg (k_fa Q_23) q))]) (M1 := (mk_M c n m kk (rT (he, ke, ki, fi, fa, or, mi, a, g, l, w, s) (er Q_23) xi xw im le nu rf ln nn vp xn xc vs))) (fun f => rfl) ?_
          refine me_call (y := 141) (y0 := 106) (L := [some (.int (nI q)), some (.int 2)]) (rest := [.ref 139, .int (nI (kg (k_fa Q_23) q))]) (rr := some (.int (nI (32 + 3 * q + 2)))) (M1 := (mk_M c n m kk (rT (he, ke, ki, fi, fa, or, mi, a, g, l, w, s) (er Q_23) xi xw im le nu rf ln nn vp xn xc vs))) (fun f => rfl) (rc_of q 2 (by omega) (by decide) _) ?_
          refine me_ldn (xs := (er (he, ke, ki, fi, fa, or, mi, a, g, l, w, s))) rfl rfl (k := 32 + 3 * q + 2) (by omega) (er_fa (K := (he, ke, ki, fi, fa, or, mi, a, g, l, w, s)) v1 (by omega)) ?_
          refine me_seg 3 (pc1 := 110) (ls1 := [some (.ref 138), some (.int (nI q)), some (.int (nI p)), some (.int (nI x)), some (.int (nI r)), some (.int (nI y)), some (.int (nI n0)), some (.int (nI (min p r))), some (.int (nI ((p + r) - (min p r))))]) (st1 := [.int (nI p), .int (nI q), .int ((nI (kg (k_fa Q_23) q)) - (nI (kg fa q)))]) (M1 := (mk_M c n m kk (rT (he, ke, ki, fi, fa, or, mi, a, g, l, w, s) (er Q_23) xi xw im le nu rf ln nn vp xn xc vs))) (fun f => rfl) ?_
          refine me_if (C := (nI q) = (nI p)) (fun f => rfl) (fun h24 => ?_) (fun h24 => ?_)
          · refine me_ret 4 (r := some (.int (((nI (kg (k_fa Q_23) q)) - (nI (kg fa q))) + (nI x)))) (M1 := (mk_M c n m kk (rT (he, ke, ki, fi, fa, or, mi, a, g, l, w, s) (er Q_23) xi xw im le nu rf ln nn vp xn xc vs))) (fun f => rfl) ?_
            exact ⟨⟨_, rfl⟩, _, _, _, _, _, _, rfl, ⟨(er_len hQ_23), (by assumption), (by assumption), (by assumption)⟩⟩
          · refine me_ret 3 (r := some (.int (((nI (kg (k_fa Q_23) q)) - (nI (kg fa q))) + (nI y)))) (M1 := (mk_M c n m kk (rT (he, ke, ki, fi, fa, or, mi, a, g, l, w, s) (er Q_23) xi xw im le nu rf ln nn vp xn xc vs))) (fun f => rfl) ?_
            exact ⟨⟨_, rfl⟩, _, _, _, _, _, _, rfl, ⟨(er_len hQ_23), (by assumption), (by assumption), (by assumption)⟩⟩
  · refine me_seg 2 (pc1 := 41) (ls1 := [some (.ref 138), some (.int (nI q)), some (.int (nI p)), some (.int (nI x)), some (.int (nI r)), some (.int (nI y)), some (.int (nI n0)), some (.int (nI (min p r))), some (.int (nI ((p + r) - (min p r))))]) (st1 := [.int 1, .int (nI y)]) (M1 := (mk_M c n m kk (rT (he, ke, ki, fi, fa, or, mi, a, g, l, w, s) (er (he, ke, ki, fi, fa, or, mi, a, g, l, w, s)) xi xw im le nu rf ln nn vp xn xc vs))) (fun f => rfl) ?_
    refine me_if (C := (nI y) = 1) (fun f => rfl) (fun h25 => ?_) (fun h25 => ?_)
    · refine me_seg 3 (pc1 := 50) (ls1 := [some (.ref 138), some (.int (nI q)), some (.int (nI p)), some (.int (nI x)), some (.int (nI r)), some (.int (nI y)), some (.int (nI n0)), some (.int (nI (min p r))), some (.int (nI ((p + r) - (min p r))))]) (st1 := [.int (nI (min p r)), .ref 140]) (M1 := (mk_M c n m kk (rT (he, ke, ki, fi, fa, or, mi, a, g, l, w, s) (er (he, ke, ki, fi, fa, or, mi, a, g, l, w, s)) xi xw im le nu rf ln nn vp xn xc vs))) (fun f => rfl) ?_
      refine me_call (y := 143) (y0 := 53) (L := [some (.ref 140), some (.int (nI (min p r))), none]) (rest := []) (rr := none) (M1 := (mk_M c n m kk (rT (he, ke, ki, fi, fa, or, mi, a, g, l, w, s) (er (kpl (he, ke, ki, fi, fa, or, mi, a, g, l, w, s) (min p r))) xi xw im le nu rf ln nn vp xn xc vs))) (fun f => rfl) (rl_m c n m kk (rT (he, ke, ki, fi, fa, or, mi, a, g, l, w, s) (er (he, ke, ki, fi, fa, or, mi, a, g, l, w, s)) xi xw im le nu rf ln nn vp xn xc vs) (rc_plQ (he, ke, ki, fi, fa, or, mi, a, g, l, w, s) (min p r) (show min p r < mi by omega) hV) rfl) ?_
      refine me_seg 2 (pc1 := 56) (ls1 := [some (.ref 138), some (.int (nI q)), some (.int (nI p)), some (.int (nI x)), some (.int (nI r)), some (.int (nI y)), some (.int (nI n0)), some (.int (nI (min p r))), some (.int (nI ((p + r) - (min p r))))]) (st1 := [.int (nI p), .int (nI ((p + r) - (min p r)))]) (M1 := (mk_M c n m kk (rT (he, ke, ki, fi, fa, or, mi, a, g, l, w, s) (er (kpl (he, ke, ki, fi, fa, or, mi, a, g, l, w, s) (min p r))) xi xw im le nu rf ln nn vp xn xc vs))) (fun f => rfl) ?_
      refine me_if (C := (nI ((p + r) - (min p r))) = (nI p)) (fun f => rfl) (fun h26 => ?_) (fun h26 => ?_)
      · refine me_seg 3 (pc1 := 66) (ls1 := [some (.ref 138), some (.int (nI q)), some (.int (nI p)), some (.int (nI x)), some (.int (nI r)), some (.int (nI y)), some (.int (nI n0)), some (.int (nI (min p r))), some (.int (nI ((p + r) - (min p r))))]) (st1 := [.int 1, .int (nI x)]) (M1 := (mk_M c n m kk (rT (he, ke, ki, fi, fa, or, mi, a, g, l, w, s) (er (kpl (he, ke, ki, fi, fa, or, mi, a, g, l, w, s) (min p r))) xi xw im le nu rf ln nn vp xn xc vs))) (fun f => rfl) ?_
        refine me_if (C := (nI x) = 1) (fun f => rfl) (fun h27 => ?_) (fun h27 => ?_)
        · refine me_seg 3 (pc1 := 75) (ls1 := [some (.ref 138), some (.int (nI q)), some (.int (nI p)), some (.int (nI x)), some (.int (nI r)), some (.int (nI y)), some (.int (nI n0)), some (.int (nI (min p r))), some (.int (nI ((p + r) - (min p r))))]) (st1 := [.int (nI ((p + r) - (min p r))), .ref 140]) (M1 := (mk_M c n m kk (rT (he, ke, ki, fi, fa, or, mi, a, g, l, w, s) (er (kpl (he, ke, ki, fi, fa, or, mi, a, g, l, w, s) (min p r))) xi xw im le nu rf ln nn vp xn xc vs))) (fun f => rfl) ?_
          refine me_call (y := 143) (y0 := 78) (L := [some (.ref 140), some (.int (nI ((p + r) - (min p r)))), none]) (rest := []) (rr := none) (M1 := (mk_M c n m kk (rT (he, ke, ki, fi, fa, or, mi, a, g, l, w, s) (er (kpl (kpl (he, ke, ki, fi, fa, or, mi, a, g, l, w, s) (min p r)) ((p + r) - (min p r)))) xi xw im le nu rf ln nn vp xn xc vs))) (fun f => rfl) (rl_m c n m kk (rT (he, ke, ki, fi, fa, or, mi, a, g, l, w, s) (er (kpl (he, ke, ki, fi, fa, or, mi, a, g, l, w, s) (min p r))) xi xw im le nu rf ln nn vp xn xc vs) (rc_plQ (kpl (he, ke, ki, fi, fa, or, mi, a, g, l, w, s) (min p r)) ((p + r) - (min p r)) (show (p + r) - (min p r) < mi by omega) (kV_pl hV (show (min p r) < mi by omega))) rfl) ?_
          refine me_seg 3 (pc1 := 84) (ls1 := [some (.ref 138), some (.int (nI q)), some (.int (nI p)), some (.int (nI x)), some (.int (nI r)), some (.int (nI y)), some (.int (nI n0)), some (.int (nI (min p r))), some (.int (nI ((p + r) - (min p r))))]) (st1 := [.int (nI n0), .ref 140]) (M1 := (mk_M c n m kk (rT (he, ke, ki, fi, fa, or, mi, a, g, l, w, s) (er (kpl (kpl (he, ke, ki, fi, fa, or, mi, a, g, l, w, s) (min p r)) ((p + r) - (min p r)))) xi xw im le nu rf ln nn vp xn xc vs))) (fun f => rfl) ?_
          refine me_call (y := 145) (y0 := 87) (L := [some (.ref 140), some (.int (nI n0)), none]) (rest := []) (rr := none) (M1 := (mk_M c n m kk (rT (he, ke, ki, fi, fa, or, mi, a, g, l, w, s) (er (ksteps n0 (kpl (kpl (he, ke, ki, fi, fa, or, mi, a, g, l, w, s) (min p r)) ((p + r) - (min p r))))) xi xw im le nu rf ln nn vp xn xc vs))) (fun f => rfl) (rl_m c n m kk (rT (he, ke, ki, fi, fa, or, mi, a, g, l, w, s) (er (kpl (kpl (he, ke, ki, fi, fa, or, mi, a, g, l, w, s) (min p r)) ((p + r) - (min p r)))) xi xw im le nu rf ln nn vp xn xc vs) (rc_by_m n0 (by omega) (kpl (kpl (he, ke, ki, fi, fa, or, mi, a, g, l, w, s) (min p r)) ((p + r) - (min p r))) (kV_pl (kV_pl hV (show (min p r) < mi by omega)) (show ((p + r) - (min p r)) < mi by omega)) (show s < 2 ^ 20 by omega)) rfl) ?_
          obtain ⟨Q_28, hEQ_28, hQ_28, hsQ_28⟩ := k_genS n0 (kpl (kpl (he, ke, ki, fi, fa, or, mi, a, g, l, w, s) (min p r)) ((p + r) - (min p r))) (kV_pl (kV_pl hV (show (min p r) < mi by omega)) (show ((p + r) - (min p r)) < mi by omega)) (by have hq_ : k_st (kpl (kpl (he, ke, ki, fi, fa, or, mi, a, g, l, w, s) (min p r)) ((p + r) - (min p r))) < 2 ^ 19 := (show s < 2 ^ 19 by omega); omega)
          rw [hEQ_28]
          clear hEQ_28
          refine me_seg 4 (pc1 := 93) (ls1 := [some (.ref 138), some (.int (nI q)), some (.int (nI p)), some (.int (nI x)), some (.int (nI r)), some (.int (nI y)), some (.int (nI n0)), some (.int (nI (min p r))), some (.int (nI ((p + r) - (min p r))))]) (st1 := [.int 2, .int (nI q), .ref 140]) (M1 := (mk_M c n m kk (rT (he, ke, ki, fi, fa, or, mi, a, g, l, w, s) (er Q_28) xi xw im le nu rf ln nn vp xn xc vs))) (fun f => rfl) ?_
          refine me_call (y := 141) (y0 := 96) (L := [some (.int (nI q)), some (.int 2)]) (rest := [.ref 140]) (rr := some (.int (nI (32 + 3 * q + 2)))) (M1 := (mk_M c n m kk (rT (he, ke, ki, fi, fa, or, mi, a, g, l, w, s) (er Q_28) xi xw im le nu rf ln nn vp xn xc vs))) (fun f => rfl) (rc_of q 2 (by omega) (by decide) _) ?_
          refine me_ldn (xs := (er Q_28)) rfl rfl (k := 32 + 3 * q + 2) (by omega) (er_fa (K := Q_28) (kV_he hQ_28) (by omega)) ?_
          refine me_seg 4 (pc1 := 103) (ls1 := [some (.ref 138), some (.int (nI q)), some (.int (nI p)), some (.int (nI x)), some (.int (nI r)), some (.int (nI y)), some (.int (nI n0)), some (.int (nI (min p r))), some (.int (nI ((p + r) - (min p r))))]) (st1 := [.int 2, .int (nI q), .ref 139, .int (nI (kg (k_fa Q_28) q))]) (M1 := (mk_M c n m kk (rT (he, ke, ki, fi, fa, or, mi, a, g, l, w, s) (er Q_28) xi xw im le nu rf ln nn vp xn xc vs))) (fun f => rfl) ?_
          refine me_call (y := 141) (y0 := 106) (L := [some (.int (nI q)), some (.int 2)]) (rest := [.ref 139, .int (nI (kg (k_fa Q_28) q))]) (rr := some (.int (nI (32 + 3 * q + 2)))) (M1 := (mk_M c n m kk (rT (he, ke, ki, fi, fa, or, mi, a, g, l, w, s) (er Q_28) xi xw im le nu rf ln nn vp xn xc vs))) (fun f => rfl) (rc_of q 2 (by omega) (by decide) _) ?_
          refine me_ldn (xs := (er (he, ke, ki, fi, fa, or, mi, a, g, l, w, s))) rfl rfl (k := 32 + 3 * q + 2) (by omega) (er_fa (K := (he, ke, ki, fi, fa, or, mi, a, g, l, w, s)) v1 (by omega)) ?_
          refine me_seg 3 (pc1 := 110) (ls1 := [some (.ref 138), some (.int (nI q)), some (.int (nI p)), some (.int (nI x)), some (.int (nI r)), some (.int (nI y)), some (.int (nI n0)), some (.int (nI (min p r))), some (.int (nI ((p + r) - (min p r))))]) (st1 := [.int (nI p), .int (nI q), .int ((nI (kg (k_fa Q_28) q)) - (nI (kg fa q)))]) (M1 := (mk_M c n m kk (rT (he, ke, ki, fi, fa, or, mi, a, g, l, w, s) (er Q_28) xi xw im le nu rf ln nn vp xn xc vs))) (fun f => rfl) ?_
          refine me_if (C := (nI q) = (nI p)) (fun f => rfl) (fun h29 => ?_) (fun h29 => ?_)
          · refine me_ret 4 (r := some (.int (((nI (kg (k_fa Q_28) q)) - (nI (kg fa q))) + (nI x)))) (M1 := (mk_M c n m kk (rT (he, ke, ki, fi, fa, or, mi, a, g, l, w, s) (er Q_28) xi xw im le nu rf ln nn vp xn xc vs))) (fun f => rfl) ?_
            exact ⟨⟨_, rfl⟩, _, _, _, _, _, _, rfl, ⟨(er_len hQ_28), (by assumption), (by assumption), (by assumption)⟩⟩
          · refine me_ret 3 (r := some (.int (((nI (kg (k_fa Q_28) q)) - (nI (kg fa q))) + (nI y)))) (M1 := (mk_M c n m kk (rT (he, ke, ki, fi, fa, or, mi, a, g, l, w, s) (er Q_28) xi xw im le nu rf ln nn vp xn xc vs))) (fun f => rfl) ?_
            exact ⟨⟨_, rfl⟩, _, _, _, _, _, _, rfl, ⟨(er_len hQ_28), (by assumption), (by assumption), (by assumption)⟩⟩
        · refine me_seg 3 (pc1 := 84) (ls1 := [some (.ref 138), some (.int (nI q)), some (.int (nI p)), some (.int (nI x)), some (.int (nI r)), some (.int (nI y)), some (.int (nI n0)), some (.int (nI (min p r))), some (.int (nI ((p + r) - (min p r))))]) (st1 := [.int (nI n0), .ref 140]) (M1 := (mk_M c n m kk (rT (he, ke, ki, fi, fa, or, mi, a, g, l, w, s) (er (kpl (he, ke, ki, fi, fa, or, mi, a, g, l, w, s) (min p r))) xi xw im le nu rf ln nn vp xn xc vs))) (fun f => rfl) ?_
          refine me_call (y := 145) (y0 := 87) (L := [some (.ref 140), some (.int (nI n0)), none]) (rest := []) (rr := none) (M1 := (mk_M c n m kk (rT (he, ke, ki, fi, fa, or, mi, a, g, l, w, s) (er (ksteps n0 (kpl (he, ke, ki, fi, fa, or, mi, a, g, l, w, s) (min p r)))) xi xw im le nu rf ln nn vp xn xc vs))) (fun f => rfl) (rl_m c n m kk (rT (he, ke, ki, fi, fa, or, mi, a, g, l, w, s) (er (kpl (he, ke, ki, fi, fa, or, mi, a, g, l, w, s) (min p r))) xi xw im le nu rf ln nn vp xn xc vs) (rc_by_m n0 (by omega) (kpl (he, ke, ki, fi, fa, or, mi, a, g, l, w, s) (min p r)) (kV_pl hV (show (min p r) < mi by omega)) (show s < 2 ^ 20 by omega)) rfl) ?_
          obtain ⟨Q_30, hEQ_30, hQ_30, hsQ_30⟩ := k_genS n0 (kpl (he, ke, ki, fi, fa, or, mi, a, g, l, w, s) (min p r)) (kV_pl hV (show (min p r) < mi by omega)) (by have hq_ : k_st (kpl (he, ke, ki, fi, fa, or, mi, a, g, l, w, s) (min p r)) < 2 ^ 19 := (show s < 2 ^ 19 by omega); omega)
          rw [hEQ_30]
          clear hEQ_30
          refine me_seg 4 (pc1 := 93) (ls1 := [some (.ref 138), some (.int (nI q)), some (.int (nI p)), some (.int (nI x)), some (.int (nI r)), some (.int (nI y)), some (.int (nI n0)), some (.int (nI (min p r))), some (.int (nI ((p + r) - (min p r))))]) (st1 := [.int 2, .int (nI q), .ref 140]) (M1 := (mk_M c n m kk (rT (he, ke, ki, fi, fa, or, mi, a, g, l, w, s) (er Q_30) xi xw im le nu rf ln nn vp xn xc vs))) (fun f => rfl) ?_
          refine me_call (y := 141) (y0 := 96) (L := [some (.int (nI q)), some (.int 2)]) (rest := [.ref 140]) (rr := some (.int (nI (32 + 3 * q + 2)))) (M1 := (mk_M c n m kk (rT (he, ke, ki, fi, fa, or, mi, a, g, l, w, s) (er Q_30) xi xw im le nu rf ln nn vp xn xc vs))) (fun f => rfl) (rc_of q 2 (by omega) (by decide) _) ?_
          refine me_ldn (xs := (er Q_30)) rfl rfl (k := 32 + 3 * q + 2) (by omega) (er_fa (K := Q_30) (kV_he hQ_30) (by omega)) ?_
          refine me_seg 4 (pc1 := 103) (ls1 := [some (.ref 138), some (.int (nI q)), some (.int (nI p)), some (.int (nI x)), some (.int (nI r)), some (.int (nI y)), some (.int (nI n0)), some (.int (nI (min p r))), some (.int (nI ((p + r) - (min p r))))]) (st1 := [.int 2, .int (nI q), .ref 139, .int (nI (kg (k_fa Q_30) q))]) (M1 := (mk_M c n m kk (rT (he, ke, ki, fi, fa, or, mi, a, g, l, w, s) (er Q_30) xi xw im le nu rf ln nn vp xn xc vs))) (fun f => rfl) ?_
          refine me_call (y := 141) (y0 := 106) (L := [some (.int (nI q)), some (.int 2)]) (rest := [.ref 139, .int (nI (kg (k_fa Q_30) q))]) (rr := some (.int (nI (32 + 3 * q + 2)))) (M1 := (mk_M c n m kk (rT (he, ke, ki, fi, fa, or, mi, a, g, l, w, s) (er Q_30) xi xw im le nu rf ln nn vp xn xc vs))) (fun f => rfl) (rc_of q 2 (by omega) (by decide) _) ?_
          refine me_ldn (xs := (er (he, ke, ki, fi, fa, or, mi, a, g, l, w, s))) rfl rfl (k := 32 + 3 * q + 2) (by omega) (er_fa (K := (he, ke, ki, fi, fa, or, mi, a, g, l, w, s)) v1 (by omega)) ?_
          refine me_seg 3 (pc1 := 110) (ls1 := [some (.ref 138), some (.int (nI q)), some (.int (nI p)), some (.int (nI x)), some (.int (nI r)), some (.int (nI y)), some (.int (nI n0)), some (.int (nI (min p r))), some (.int (nI ((p + r) - (min p r))))]) (st1 := [.int (nI p), .int (nI q), .int ((nI (kg (k_fa Q_30) q)) - (nI (kg fa q)))]) (M1 := (mk_M c n m kk (rT (he, ke, ki, fi, fa, or, mi, a, g, l, w, s) (er Q_30) xi xw im le nu rf ln nn vp xn xc vs))) (fun f => rfl) ?_
          refine me_if (C := (nI q) = (nI p)) (fun f => rfl) (fun h31 => ?_) (fun h31 => ?_)
          · refine me_ret 4 (r := some (.int (((nI (kg (k_fa Q_30) q)) - (nI (kg fa q))) + (nI x)))) (M1 := (mk_M c n m kk (rT (he, ke, ki, fi, fa, or, mi, a, g, l, w, s) (er Q_30) xi xw im le nu rf ln nn vp xn xc vs))) (fun f => rfl) ?_
            exact ⟨⟨_, rfl⟩, _, _, _, _, _, _, rfl, ⟨(er_len hQ_30), (by assumption), (by assumption), (by assumption)⟩⟩
          · refine me_ret 3 (r := some (.int (((nI (kg (k_fa Q_30) q)) - (nI (kg fa q))) + (nI y)))) (M1 := (mk_M c n m kk (rT (he, ke, ki, fi, fa, or, mi, a, g, l, w, s) (er Q_30) xi xw im le nu rf ln nn vp xn xc vs))) (fun f => rfl) ?_
            exact ⟨⟨_, rfl⟩, _, _, _, _, _, _, rfl, ⟨(er_len hQ_30), (by assumption), (by assumption), (by assumption)⟩⟩
      · refine me_seg 2 (pc1 := 66) (ls1 := [some (.ref 138), some (.int (nI q)), some (.int (nI p)), some (.int (nI x)), some (.int (nI r)), some (.int (nI y)), some (.int (nI n0)), some (.int (nI (min p r))), some (.int (nI ((p + r) - (min p r))))]) (st1 := [.int 1, .int (nI y)]) (M1 := (mk_M c n m kk (rT (he, ke, ki, fi, fa, or, mi, a, g, l, w, s) (er (kpl (he, ke, ki, fi, fa, or, mi, a, g, l, w, s) (min p r))) xi xw im le nu rf ln nn vp xn xc vs))) (fun f => rfl) ?_
        refine me_if (C := (nI y) = 1) (fun f => rfl) (fun h32 => ?_) (fun h32 => ?_)
        · refine me_seg 3 (pc1 := 75) (ls1 := [some (.ref 138), some (.int (nI q)), some (.int (nI p)), some (.int (nI x)), some (.int (nI r)), some (.int (nI y)), some (.int (nI n0)), some (.int (nI (min p r))), some (.int (nI ((p + r) - (min p r))))]) (st1 := [.int (nI ((p + r) - (min p r))), .ref 140]) (M1 := (mk_M c n m kk (rT (he, ke, ki, fi, fa, or, mi, a, g, l, w, s) (er (kpl (he, ke, ki, fi, fa, or, mi, a, g, l, w, s) (min p r))) xi xw im le nu rf ln nn vp xn xc vs))) (fun f => rfl) ?_
          refine me_call (y := 143) (y0 := 78) (L := [some (.ref 140), some (.int (nI ((p + r) - (min p r)))), none]) (rest := []) (rr := none) (M1 := (mk_M c n m kk (rT (he, ke, ki, fi, fa, or, mi, a, g, l, w, s) (er (kpl (kpl (he, ke, ki, fi, fa, or, mi, a, g, l, w, s) (min p r)) ((p + r) - (min p r)))) xi xw im le nu rf ln nn vp xn xc vs))) (fun f => rfl) (rl_m c n m kk (rT (he, ke, ki, fi, fa, or, mi, a, g, l, w, s) (er (kpl (he, ke, ki, fi, fa, or, mi, a, g, l, w, s) (min p r))) xi xw im le nu rf ln nn vp xn xc vs) (rc_plQ (kpl (he, ke, ki, fi, fa, or, mi, a, g, l, w, s) (min p r)) ((p + r) - (min p r)) (show (p + r) - (min p r) < mi by omega) (kV_pl hV (show (min p r) < mi by omega))) rfl) ?_
          refine me_seg 3 (pc1 := 84) (ls1 := [some (.ref 138), some (.int (nI q)), some (.int (nI p)), some (.int (nI x)), some (.int (nI r)), some (.int (nI y)), some (.int (nI n0)), some (.int (nI (min p r))), some (.int (nI ((p + r) - (min p r))))]) (st1 := [.int (nI n0), .ref 140]) (M1 := (mk_M c n m kk (rT (he, ke, ki, fi, fa, or, mi, a, g, l, w, s) (er (kpl (kpl (he, ke, ki, fi, fa, or, mi, a, g, l, w, s) (min p r)) ((p + r) - (min p r)))) xi xw im le nu rf ln nn vp xn xc vs))) (fun f => rfl) ?_
          refine me_call (y := 145) (y0 := 87) (L := [some (.ref 140), some (.int (nI n0)), none]) (rest := []) (rr := none) (M1 := (mk_M c n m kk (rT (he, ke, ki, fi, fa, or, mi, a, g, l, w, s) (er (ksteps n0 (kpl (kpl (he, ke, ki, fi, fa, or, mi, a, g, l, w, s) (min p r)) ((p + r) - (min p r))))) xi xw im le nu rf ln nn vp xn xc vs))) (fun f => rfl) (rl_m c n m kk (rT (he, ke, ki, fi, fa, or, mi, a, g, l, w, s) (er (kpl (kpl (he, ke, ki, fi, fa, or, mi, a, g, l, w, s) (min p r)) ((p + r) - (min p r)))) xi xw im le nu rf ln nn vp xn xc vs) (rc_by_m n0 (by omega) (kpl (kpl (he, ke, ki, fi, fa, or, mi, a, g, l, w, s) (min p r)) ((p + r) - (min p r))) (kV_pl (kV_pl hV (show (min p r) < mi by omega)) (show ((p + r) - (min p r)) < mi by omega)) (show s < 2 ^ 20 by omega)) rfl) ?_
          obtain ⟨Q_33, hEQ_33, hQ_33, hsQ_33⟩ := k_genS n0 (kpl (kpl (he, ke, ki, fi, fa, or, mi, a, g, l, w, s) (min p r)) ((p + r) - (min p r))) (kV_pl (kV_pl hV (show (min p r) < mi by omega)) (show ((p + r) - (min p r)) < mi by omega)) (by have hq_ : k_st (kpl (kpl (he, ke, ki, fi, fa, or, mi, a, g, l, w, s) (min p r)) ((p + r) - (min p r))) < 2 ^ 19 := (show s < 2 ^ 19 by omega); omega)
          rw [hEQ_33]
          clear hEQ_33
          refine me_seg 4 (pc1 := 93) (ls1 := [some (.ref 138), some (.int (nI q)), some (.int (nI p)), some (.int (nI x)), some (.int (nI r)), some (.int (nI y)), some (.int (nI n0)), some (.int (nI (min p r))), some (.int (nI ((p + r) - (min p r))))]) (st1 := [.int 2, .int (nI q), .ref 140]) (M1 := (mk_M c n m kk (rT (he, ke, ki, fi, fa, or, mi, a, g, l, w, s) (er Q_33) xi xw im le nu rf ln nn vp xn xc vs))) (fun f => rfl) ?_
          refine me_call (y := 141) (y0 := 96) (L := [some (.int (nI q)), some (.int 2)]) (rest := [.ref 140]) (rr := some (.int (nI (32 + 3 * q + 2)))) (M1 := (mk_M c n m kk (rT (he, ke, ki, fi, fa, or, mi, a, g, l, w, s) (er Q_33) xi xw im le nu rf ln nn vp xn xc vs))) (fun f => rfl) (rc_of q 2 (by omega) (by decide) _) ?_
          refine me_ldn (xs := (er Q_33)) rfl rfl (k := 32 + 3 * q + 2) (by omega) (er_fa (K := Q_33) (kV_he hQ_33) (by omega)) ?_
          refine me_seg 4 (pc1 := 103) (ls1 := [some (.ref 138), some (.int (nI q)), some (.int (nI p)), some (.int (nI x)), some (.int (nI r)), some (.int (nI y)), some (.int (nI n0)), some (.int (nI (min p r))), some (.int (nI ((p + r) - (min p r))))]) (st1 := [.int 2, .int (nI q), .ref 139, .int (nI (kg (k_fa Q_33) q))]) (M1 := (mk_M c n m kk (rT (he, ke, ki, fi, fa, or, mi, a, g, l, w, s) (er Q_33) xi xw im le nu rf ln nn vp xn xc vs))) (fun f => rfl) ?_
          refine me_call (y := 141) (y0 := 106) (L := [some (.int (nI q)), some (.int 2)]) (rest := [.ref 139, .int (nI (kg (k_fa Q_33) q))]) (rr := some (.int (nI (32 + 3 * q + 2)))) (M1 := (mk_M c n m kk (rT (he, ke, ki, fi, fa, or, mi, a, g, l, w, s) (er Q_33) xi xw im le nu rf ln nn vp xn xc vs))) (fun f => rfl) (rc_of q 2 (by omega) (by decide) _) ?_
          refine me_ldn (xs := (er (he, ke, ki, fi, fa, or, mi, a, g, l, w, s))) rfl rfl (k := 32 + 3 * q + 2) (by omega) (er_fa (K := (he, ke, ki, fi, fa, or, mi, a, g, l, w, s)) v1 (by omega)) ?_
          refine me_seg 3 (pc1 := 110) (ls1 := [some (.ref 138), some (.int (nI q)), some (.int (nI p)), some (.int (nI x)), some (.int (nI r)), some (.int (nI y)), some (.int (nI n0)), some (.int (nI (min p r))), some (.int (nI ((p + r) - (min p r))))]) (st1 := [.int (nI p), .int (nI q), .int ((nI (kg (k_fa Q_33) q)) - (nI (kg fa q)))]) (M1 := (mk_M c n m kk (rT (he, ke, ki, fi, fa, or, mi, a, g, l, w, s) (er Q_33) xi xw im le nu rf ln nn vp xn xc vs))) (fun f => rfl) ?_
          refine me_if (C := (nI q) = (nI p)) (fun f => rfl) (fun h34 => ?_) (fun h34 => ?_)
          · refine me_ret 4 (r := some (.int (((nI (kg (k_fa Q_33) q)) - (nI (kg fa q))) + (nI x)))) (M1 := (mk_M c n m kk (rT (he, ke, ki, fi, fa, or, mi, a, g, l, w, s) (er Q_33) xi xw im le nu rf ln nn vp xn xc vs))) (fun f => rfl) ?_
            exact ⟨⟨_, rfl⟩, _, _, _, _, _, _, rfl, ⟨(er_len hQ_33), (by assumption), (by assumption), (by assumption)⟩⟩
          · refine me_ret 3 (r := some (.int (((nI (kg (k_fa Q_33) q)) - (nI (kg fa q))) + (nI y)))) (M1 := (mk_M c n m kk (rT (he, ke, ki, fi, fa, or, mi, a, g, l, w, s) (er Q_33) xi xw im le nu rf ln nn vp xn xc vs))) (fun f => rfl) ?_
            exact ⟨⟨_, rfl⟩, _, _, _, _, _, _, rfl, ⟨(er_len hQ_33), (by assumption), (by assumption), (by assumption)⟩⟩
        · refine me_seg 3 (pc1 := 84) (ls1 := [some (.ref 138), some (.int (nI q)), some (.int (nI p)), some (.int (nI x)), some (.int (nI r)), some (.int (nI y)), some (.int (nI n0)), some (.int (nI (min p r))), some (.int (nI ((p + r) - (min p r))))]) (st1 := [.int (nI n0), .ref 140]) (M1 := (mk_M c n m kk (rT (he, ke, ki, fi, fa, or, mi, a, g, l, w, s) (er (kpl (he, ke, ki, fi, fa, or, mi, a, g, l, w, s) (min p r))) xi xw im le nu rf ln nn vp xn xc vs))) (fun f => rfl) ?_
          refine me_call (y := 145) (y0 := 87) (L := [some (.ref 140), some (.int (nI n0)), none]) (rest := []) (rr := none) (M1 := (mk_M c n m kk (rT (he, ke, ki, fi, fa, or, mi, a, g, l, w, s) (er (ksteps n0 (kpl (he, ke, ki, fi, fa, or, mi, a, g, l, w, s) (min p r)))) xi xw im le nu rf ln nn vp xn xc vs))) (fun f => rfl) (rl_m c n m kk (rT (he, ke, ki, fi, fa, or, mi, a, g, l, w, s) (er (kpl (he, ke, ki, fi, fa, or, mi, a, g, l, w, s) (min p r))) xi xw im le nu rf ln nn vp xn xc vs) (rc_by_m n0 (by omega) (kpl (he, ke, ki, fi, fa, or, mi, a, g, l, w, s) (min p r)) (kV_pl hV (show (min p r) < mi by omega)) (show s < 2 ^ 20 by omega)) rfl) ?_
          obtain ⟨Q_35, hEQ_35, hQ_35, hsQ_35⟩ := k_genS n0 (kpl (he, ke, ki, fi, fa, or, mi, a, g, l, w, s) (min p r)) (kV_pl hV (show (min p r) < mi by omega)) (by have hq_ : k_st (kpl (he, ke, ki, fi, fa, or, mi, a, g, l, w, s) (min p r)) < 2 ^ 19 := (show s < 2 ^ 19 by omega); omega)
          rw [hEQ_35]
          clear hEQ_35
          refine me_seg 4 (pc1 := 93) (ls1 := [some (.ref 138), some (.int (nI q)), some (.int (nI p)), some (.int (nI x)), some (.int (nI r)), some (.int (nI y)), some (.int (nI n0)), some (.int (nI (min p r))), some (.int (nI ((p + r) - (min p r))))]) (st1 := [.int 2, .int (nI q), .ref 140]) (M1 := (mk_M c n m kk (rT (he, ke, ki, fi, fa, or, mi, a, g, l, w, s) (er Q_35) xi xw im le nu rf ln nn vp xn xc vs))) (fun f => rfl) ?_
          refine me_call (y := 141) (y0 := 96) (L := [some (.int (nI q)), some (.int 2)]) (rest := [.ref 140]) (rr := some (.int (nI (32 + 3 * q + 2)))) (M1 := (mk_M c n m kk (rT (he, ke, ki, fi, fa, or, mi, a, g, l, w, s) (er Q_35) xi xw im le nu rf ln nn vp xn xc vs))) (fun f => rfl) (rc_of q 2 (by omega) (by decide) _) ?_
          refine me_ldn (xs := (er Q_35)) rfl rfl (k := 32 + 3 * q + 2) (by omega) (er_fa (K := Q_35) (kV_he hQ_35) (by omega)) ?_
          refine me_seg 4 (pc1 := 103) (ls1 := [some (.ref 138), some (.int (nI q)), some (.int (nI p)), some (.int (nI x)), some (.int (nI r)), some (.int (nI y)), some (.int (nI n0)), some (.int (nI (min p r))), some (.int (nI ((p + r) - (min p r))))]) (st1 := [.int 2, .int (nI q), .ref 139, .int (nI (kg (k_fa Q_35) q))]) (M1 := (mk_M c n m kk (rT (he, ke, ki, fi, fa, or, mi, a, g, l, w, s) (er Q_35) xi xw im le nu rf ln nn vp xn xc vs))) (fun f => rfl) ?_
          refine me_call (y := 141) (y0 := 106) (L := [some (.int (nI q)), some (.int 2)]) (rest := [.ref 139, .int (nI (kg (k_fa Q_35) q))]) (rr := some (.int (nI (32 + 3 * q + 2)))) (M1 := (mk_M c n m kk (rT (he, ke, ki, fi, fa, or, mi, a, g, l, w, s) (er Q_35) xi xw im le nu rf ln nn vp xn xc vs))) (fun f => rfl) (rc_of q 2 (by omega) (by decide) _) ?_
          refine me_ldn (xs := (er (he, ke, ki, fi, fa, or, mi, a, g, l, w, s))) rfl rfl (k := 32 + 3 * q + 2) (by omega) (er_fa (K := (he, ke, ki, fi, fa, or, mi, a, g, l, w, s)) v1 (by omega)) ?_
          refine me_seg 3 (pc1 := 110) (ls1 := [some (.ref 138), some (.int (nI q)), some (.int (nI p)), some (.int (nI x)), some (.int (nI r)), some (.int (nI y)), some (.int (nI n0)), some (.int (nI (min p r))), some (.int (nI ((p + r) - (min p r))))]) (st1 := [.int (nI p), .int (nI q), .int ((nI (kg (k_fa Q_35) q)) - (nI (kg fa q)))]) (M1 := (mk_M c n m kk (rT (he, ke, ki, fi, fa, or, mi, a, g, l, w, s) (er Q_35) xi xw im le nu rf ln nn vp xn xc vs))) (fun f => rfl) ?_
          refine me_if (C := (nI q) = (nI p)) (fun f => rfl) (fun h36 => ?_) (fun h36 => ?_)
          · refine me_ret 4 (r := some (.int (((nI (kg (k_fa Q_35) q)) - (nI (kg fa q))) + (nI x)))) (M1 := (mk_M c n m kk (rT (he, ke, ki, fi, fa, or, mi, a, g, l, w, s) (er Q_35) xi xw im le nu rf ln nn vp xn xc vs))) (fun f => rfl) ?_
            exact ⟨⟨_, rfl⟩, _, _, _, _, _, _, rfl, ⟨(er_len hQ_35), (by assumption), (by assumption), (by assumption)⟩⟩
          · refine me_ret 3 (r := some (.int (((nI (kg (k_fa Q_35) q)) - (nI (kg fa q))) + (nI y)))) (M1 := (mk_M c n m kk (rT (he, ke, ki, fi, fa, or, mi, a, g, l, w, s) (er Q_35) xi xw im le nu rf ln nn vp xn xc vs))) (fun f => rfl) ?_
            exact ⟨⟨_, rfl⟩, _, _, _, _, _, _, rfl, ⟨(er_len hQ_35), (by assumption), (by assumption), (by assumption)⟩⟩
    · refine me_seg 2 (pc1 := 56) (ls1 := [some (.ref 138), some (.int (nI q)), some (.int (nI p)), some (.int (nI x)), some (.int (nI r)), some (.int (nI y)), some (.int (nI n0)), some (.int (nI (min p r))), some (.int (nI ((p + r) - (min p r))))]) (st1 := [.int (nI p), .int (nI ((p + r) - (min p r)))]) (M1 := (mk_M c n m kk (rT (he, ke, ki, fi, fa, or, mi, a, g, l, w, s) (er (he, ke, ki, fi, fa, or, mi, a, g, l, w, s)) xi xw im le nu rf ln nn vp xn xc vs))) (fun f => rfl) ?_
      refine me_if (C := (nI ((p + r) - (min p r))) = (nI p)) (fun f => rfl) (fun h37 => ?_) (fun h37 => ?_)
      · refine me_seg 3 (pc1 := 66) (ls1 := [some (.ref 138), some (.int (nI q)), some (.int (nI p)), some (.int (nI x)), some (.int (nI r)), some (.int (nI y)), some (.int (nI n0)), some (.int (nI (min p r))), some (.int (nI ((p + r) - (min p r))))]) (st1 := [.int 1, .int (nI x)]) (M1 := (mk_M c n m kk (rT (he, ke, ki, fi, fa, or, mi, a, g, l, w, s) (er (he, ke, ki, fi, fa, or, mi, a, g, l, w, s)) xi xw im le nu rf ln nn vp xn xc vs))) (fun f => rfl) ?_
        refine me_if (C := (nI x) = 1) (fun f => rfl) (fun h38 => ?_) (fun h38 => ?_)
        · refine me_seg 3 (pc1 := 75) (ls1 := [some (.ref 138), some (.int (nI q)), some (.int (nI p)), some (.int (nI x)), some (.int (nI r)), some (.int (nI y)), some (.int (nI n0)), some (.int (nI (min p r))), some (.int (nI ((p + r) - (min p r))))]) (st1 := [.int (nI ((p + r) - (min p r))), .ref 140]) (M1 := (mk_M c n m kk (rT (he, ke, ki, fi, fa, or, mi, a, g, l, w, s) (er (he, ke, ki, fi, fa, or, mi, a, g, l, w, s)) xi xw im le nu rf ln nn vp xn xc vs))) (fun f => rfl) ?_
          refine me_call (y := 143) (y0 := 78) (L := [some (.ref 140), some (.int (nI ((p + r) - (min p r)))), none]) (rest := []) (rr := none) (M1 := (mk_M c n m kk (rT (he, ke, ki, fi, fa, or, mi, a, g, l, w, s) (er (kpl (he, ke, ki, fi, fa, or, mi, a, g, l, w, s) ((p + r) - (min p r)))) xi xw im le nu rf ln nn vp xn xc vs))) (fun f => rfl) (rl_m c n m kk (rT (he, ke, ki, fi, fa, or, mi, a, g, l, w, s) (er (he, ke, ki, fi, fa, or, mi, a, g, l, w, s)) xi xw im le nu rf ln nn vp xn xc vs) (rc_plQ (he, ke, ki, fi, fa, or, mi, a, g, l, w, s) ((p + r) - (min p r)) (show (p + r) - (min p r) < mi by omega) hV) rfl) ?_
          refine me_seg 3 (pc1 := 84) (ls1 := [some (.ref 138), some (.int (nI q)), some (.int (nI p)), some (.int (nI x)), some (.int (nI r)), some (.int (nI y)), some (.int (nI n0)), some (.int (nI (min p r))), some (.int (nI ((p + r) - (min p r))))]) (st1 := [.int (nI n0), .ref 140]) (M1 := (mk_M c n m kk (rT (he, ke, ki, fi, fa, or, mi, a, g, l, w, s) (er (kpl (he, ke, ki, fi, fa, or, mi, a, g, l, w, s) ((p + r) - (min p r)))) xi xw im le nu rf ln nn vp xn xc vs))) (fun f => rfl) ?_
          refine me_call (y := 145) (y0 := 87) (L := [some (.ref 140), some (.int (nI n0)), none]) (rest := []) (rr := none) (M1 := (mk_M c n m kk (rT (he, ke, ki, fi, fa, or, mi, a, g, l, w, s) (er (ksteps n0 (kpl (he, ke, ki, fi, fa, or, mi, a, g, l, w, s) ((p + r) - (min p r))))) xi xw im le nu rf ln nn vp xn xc vs))) (fun f => rfl) (rl_m c n m kk (rT (he, ke, ki, fi, fa, or, mi, a, g, l, w, s) (er (kpl (he, ke, ki, fi, fa, or, mi, a, g, l, w, s) ((p + r) - (min p r)))) xi xw im le nu rf ln nn vp xn xc vs) (rc_by_m n0 (by omega) (kpl (he, ke, ki, fi, fa, or, mi, a, g, l, w, s) ((p + r) - (min p r))) (kV_pl hV (show ((p + r) - (min p r)) < mi by omega)) (show s < 2 ^ 20 by omega)) rfl) ?_
          obtain ⟨Q_39, hEQ_39, hQ_39, hsQ_39⟩ := k_genS n0 (kpl (he, ke, ki, fi, fa, or, mi, a, g, l, w, s) ((p + r) - (min p r))) (kV_pl hV (show ((p + r) - (min p r)) < mi by omega)) (by have hq_ : k_st (kpl (he, ke, ki, fi, fa, or, mi, a, g, l, w, s) ((p + r) - (min p r))) < 2 ^ 19 := (show s < 2 ^ 19 by omega); omega)
          rw [hEQ_39]
          clear hEQ_39
          refine me_seg 4 (pc1 := 93) (ls1 := [some (.ref 138), some (.int (nI q)), some (.int (nI p)), some (.int (nI x)), some (.int (nI r)), some (.int (nI y)), some (.int (nI n0)), some (.int (nI (min p r))), some (.int (nI ((p + r) - (min p r))))]) (st1 := [.int 2, .int (nI q), .ref 140]) (M1 := (mk_M c n m kk (rT (he, ke, ki, fi, fa, or, mi, a, g, l, w, s) (er Q_39) xi xw im le nu rf ln nn vp xn xc vs))) (fun f => rfl) ?_
          refine me_call (y := 141) (y0 := 96) (L := [some (.int (nI q)), some (.int 2)]) (rest := [.ref 140]) (rr := some (.int (nI (32 + 3 * q + 2)))) (M1 := (mk_M c n m kk (rT (he, ke, ki, fi, fa, or, mi, a, g, l, w, s) (er Q_39) xi xw im le nu rf ln nn vp xn xc vs))) (fun f => rfl) (rc_of q 2 (by omega) (by decide) _) ?_
          refine me_ldn (xs := (er Q_39)) rfl rfl (k := 32 + 3 * q + 2) (by omega) (er_fa (K := Q_39) (kV_he hQ_39) (by omega)) ?_
          refine me_seg 4 (pc1 := 103) (ls1 := [some (.ref 138), some (.int (nI q)), some (.int (nI p)), some (.int (nI x)), some (.int (nI r)), some (.int (nI y)), some (.int (nI n0)), some (.int (nI (min p r))), some (.int (nI ((p + r) - (min p r))))]) (st1 := [.int 2, .int (nI q), .ref 139, .int (nI (kg (k_fa Q_39) q))]) (M1 := (mk_M c n m kk (rT (he, ke, ki, fi, fa, or, mi, a, g, l, w, s) (er Q_39) xi xw im le nu rf ln nn vp xn xc vs))) (fun f => rfl) ?_
          refine me_call (y := 141) (y0 := 106) (L := [some (.int (nI q)), some (.int 2)]) (rest := [.ref 139, .int (nI (kg (k_fa Q_39) q))]) (rr := some (.int (nI (32 + 3 * q + 2)))) (M1 := (mk_M c n m kk (rT (he, ke, ki, fi, fa, or, mi, a, g, l, w, s) (er Q_39) xi xw im le nu rf ln nn vp xn xc vs))) (fun f => rfl) (rc_of q 2 (by omega) (by decide) _) ?_
          refine me_ldn (xs := (er (he, ke, ki, fi, fa, or, mi, a, g, l, w, s))) rfl rfl (k := 32 + 3 * q + 2) (by omega) (er_fa (K := (he, ke, ki, fi, fa, or, mi, a, g, l, w, s)) v1 (by omega)) ?_
          refine me_seg 3 (pc1 := 110) (ls1 := [some (.ref 138), some (.int (nI q)), some (.int (nI p)), some (.int (nI x)), some (.int (nI r)), some (.int (nI y)), some (.int (nI n0)), some (.int (nI (min p r))), some (.int (nI ((p + r) - (min p r))))]) (st1 := [.int (nI p), .int (nI q), .int ((nI (kg (k_fa Q_39) q)) - (nI (kg fa q)))]) (M1 := (mk_M c n m kk (rT (he, ke, ki, fi, fa, or, mi, a, g, l, w, s) (er Q_39) xi xw im le nu rf ln nn vp xn xc vs))) (fun f => rfl) ?_
          refine me_if (C := (nI q) = (nI p)) (fun f => rfl) (fun h40 => ?_) (fun h40 => ?_)
          · refine me_ret 4 (r := some (.int (((nI (kg (k_fa Q_39) q)) - (nI (kg fa q))) + (nI x)))) (M1 := (mk_M c n m kk (rT (he, ke, ki, fi, fa, or, mi, a, g, l, w, s) (er Q_39) xi xw im le nu rf ln nn vp xn xc vs))) (fun f => rfl) ?_
            exact ⟨⟨_, rfl⟩, _, _, _, _, _, _, rfl, ⟨(er_len hQ_39), (by assumption), (by assumption), (by assumption)⟩⟩
          · refine me_ret 3 (r := some (.int (((nI (kg (k_fa Q_39) q)) - (nI (kg fa q))) + (nI y)))) (M1 := (mk_M c n m kk (rT (he, ke, ki, fi, fa, or, mi, a, g, l, w, s) (er Q_39) xi xw im le nu rf ln nn vp xn xc vs))) (fun f => rfl) ?_
            exact ⟨⟨_, rfl⟩, _, _, _, _, _, _, rfl, ⟨(er_len hQ_39), (by assumption), (by assumption), (by assumption)⟩⟩
        · refine me_seg 3 (pc1 := 84) (ls1 := [some (.ref 138), some (.int (nI q)), some (.int (nI p)), some (.int (nI x)), some (.int (nI r)), some (.int (nI y)), some (.int (nI n0)), some (.int (nI (min p r))), some (.int (nI ((p + r) - (min p r))))]) (st1 := [.int (nI n0), .ref 140]) (M1 := (mk_M c n m kk (rT (he, ke, ki, fi, fa, or, mi, a, g, l, w, s) (er (he, ke, ki, fi, fa, or, mi, a, g, l, w, s)) xi xw im le nu rf ln nn vp xn xc vs))) (fun f => rfl) ?_
          refine me_call (y := 145) (y0 := 87) (L := [some (.ref 140), some (.int (nI n0)), none]) (rest := []) (rr := none) (M1 := (mk_M c n m kk (rT (he, ke, ki, fi, fa, or, mi, a, g, l, w, s) (er (ksteps n0 (he, ke, ki, fi, fa, or, mi, a, g, l, w, s))) xi xw im le nu rf ln nn vp xn xc vs))) (fun f => rfl) (rl_m c n m kk (rT (he, ke, ki, fi, fa, or, mi, a, g, l, w, s) (er (he, ke, ki, fi, fa, or, mi, a, g, l, w, s)) xi xw im le nu rf ln nn vp xn xc vs) (rc_by_m n0 (by omega) (he, ke, ki, fi, fa, or, mi, a, g, l, w, s) hV (show s < 2 ^ 20 by omega)) rfl) ?_
          obtain ⟨Q_41, hEQ_41, hQ_41, hsQ_41⟩ := k_genS n0 (he, ke, ki, fi, fa, or, mi, a, g, l, w, s) hV (by have hq_ : k_st (he, ke, ki, fi, fa, or, mi, a, g, l, w, s) < 2 ^ 19 := (show s < 2 ^ 19 by omega); omega)
          rw [hEQ_41]
          clear hEQ_41
          refine me_seg 4 (pc1 := 93) (ls1 := [some (.ref 138), some (.int (nI q)), some (.int (nI p)), some (.int (nI x)), some (.int (nI r)), some (.int (nI y)), some (.int (nI n0)), some (.int (nI (min p r))), some (.int (nI ((p + r) - (min p r))))]) (st1 := [.int 2, .int (nI q), .ref 140]) (M1 := (mk_M c n m kk (rT (he, ke, ki, fi, fa, or, mi, a, g, l, w, s) (er Q_41) xi xw im le nu rf ln nn vp xn xc vs))) (fun f => rfl) ?_
          refine me_call (y := 141) (y0 := 96) (L := [some (.int (nI q)), some (.int 2)]) (rest := [.ref 140]) (rr := some (.int (nI (32 + 3 * q + 2)))) (M1 := (mk_M c n m kk (rT (he, ke, ki, fi, fa, or, mi, a, g, l, w, s) (er Q_41) xi xw im le nu rf ln nn vp xn xc vs))) (fun f => rfl) (rc_of q 2 (by omega) (by decide) _) ?_
          refine me_ldn (xs := (er Q_41)) rfl rfl (k := 32 + 3 * q + 2) (by omega) (er_fa (K := Q_41) (kV_he hQ_41) (by omega)) ?_
          refine me_seg 4 (pc1 := 103) (ls1 := [some (.ref 138), some (.int (nI q)), some (.int (nI p)), some (.int (nI x)), some (.int (nI r)), some (.int (nI y)), some (.int (nI n0)), some (.int (nI (min p r))), some (.int (nI ((p + r) - (min p r))))]) (st1 := [.int 2, .int (nI q), .ref 139, .int (nI (kg (k_fa Q_41) q))]) (M1 := (mk_M c n m kk (rT (he, ke, ki, fi, fa, or, mi, a, g, l, w, s) (er Q_41) xi xw im le nu rf ln nn vp xn xc vs))) (fun f => rfl) ?_
          refine me_call (y := 141) (y0 := 106) (L := [some (.int (nI q)), some (.int 2)]) (rest := [.ref 139, .int (nI (kg (k_fa Q_41) q))]) (rr := some (.int (nI (32 + 3 * q + 2)))) (M1 := (mk_M c n m kk (rT (he, ke, ki, fi, fa, or, mi, a, g, l, w, s) (er Q_41) xi xw im le nu rf ln nn vp xn xc vs))) (fun f => rfl) (rc_of q 2 (by omega) (by decide) _) ?_
          refine me_ldn (xs := (er (he, ke, ki, fi, fa, or, mi, a, g, l, w, s))) rfl rfl (k := 32 + 3 * q + 2) (by omega) (er_fa (K := (he, ke, ki, fi, fa, or, mi, a, g, l, w, s)) v1 (by omega)) ?_
          refine me_seg 3 (pc1 := 110) (ls1 := [some (.ref 138), some (.int (nI q)), some (.int (nI p)), some (.int (nI x)), some (.int (nI r)), some (.int (nI y)), some (.int (nI n0)), some (.int (nI (min p r))), some (.int (nI ((p + r) - (min p r))))]) (st1 := [.int (nI p), .int (nI q), .int ((nI (kg (k_fa Q_41) q)) - (nI (kg fa q)))]) (M1 := (mk_M c n m kk (rT (he, ke, ki, fi, fa, or, mi, a, g, l, w, s) (er Q_41) xi xw im le nu rf ln nn vp xn xc vs))) (fun f => rfl) ?_
          refine me_if (C := (nI q) = (nI p)) (fun f => rfl) (fun h42 => ?_) (fun h42 => ?_)
          · refine me_ret 4 (r := some (.int (((nI (kg (k_fa Q_41) q)) - (nI (kg fa q))) + (nI x)))) (M1 := (mk_M c n m kk (rT (he, ke, ki, fi, fa, or, mi, a, g, l, w, s) (er Q_41) xi xw im le nu rf ln nn vp xn xc vs))) (fun f => rfl) ?_
            exact ⟨⟨_, rfl⟩, _, _, _, _, _, _, rfl, ⟨(er_len hQ_41), (by assumption), (by assumption), (by assumption)⟩⟩
          · refine me_ret 3 (r := some (.int (((nI (kg (k_fa Q_41) q)) - (nI (kg fa q))) + (nI y)))) (M1 := (mk_M c n m kk (rT (he, ke, ki, fi, fa, or, mi, a, g, l, w, s) (er Q_41) xi xw im le nu rf ln nn vp xn xc vs))) (fun f => rfl) ?_
            exact ⟨⟨_, rfl⟩, _, _, _, _, _, _, rfl, ⟨(er_len hQ_41), (by assumption), (by assumption), (by assumption)⟩⟩
      · refine me_seg 2 (pc1 := 66) (ls1 := [some (.ref 138), some (.int (nI q)), some (.int (nI p)), some (.int (nI x)), some (.int (nI r)), some (.int (nI y)), some (.int (nI n0)), some (.int (nI (min p r))), some (.int (nI ((p + r) - (min p r))))]) (st1 := [.int 1, .int (nI y)]) (M1 := (mk_M c n m kk (rT (he, ke, ki, fi, fa, or, mi, a, g, l, w, s) (er (he, ke, ki, fi, fa, or, mi, a, g, l, w, s)) xi xw im le nu rf ln nn vp xn xc vs))) (fun f => rfl) ?_
        refine me_if (C := (nI y) = 1) (fun f => rfl) (fun h43 => ?_) (fun h43 => ?_)
        · refine me_seg 3 (pc1 := 75) (ls1 := [some (.ref 138), some (.int (nI q)), some (.int (nI p)), some (.int (nI x)), some (.int (nI r)), some (.int (nI y)), some (.int (nI n0)), some (.int (nI (min p r))), some (.int (nI ((p + r) - (min p r))))]) (st1 := [.int (nI ((p + r) - (min p r))), .ref 140]) (M1 := (mk_M c n m kk (rT (he, ke, ki, fi, fa, or, mi, a, g, l, w, s) (er (he, ke, ki, fi, fa, or, mi, a, g, l, w, s)) xi xw im le nu rf ln nn vp xn xc vs))) (fun f => rfl) ?_
          refine me_call (y := 143) (y0 := 78) (L := [some (.ref 140), some (.int (nI ((p + r) - (min p r)))), none]) (rest := []) (rr := none) (M1 := (mk_M c n m kk (rT (he, ke, ki, fi, fa, or, mi, a, g, l, w, s) (er (kpl (he, ke, ki, fi, fa, or, mi, a, g, l, w, s) ((p + r) - (min p r)))) xi xw im le nu rf ln nn vp xn xc vs))) (fun f => rfl) (rl_m c n m kk (rT (he, ke, ki, fi, fa, or, mi, a, g, l, w, s) (er (he, ke, ki, fi, fa, or, mi, a, g, l, w, s)) xi xw im le nu rf ln nn vp xn xc vs) (rc_plQ (he, ke, ki, fi, fa, or, mi, a, g, l, w, s) ((p + r) - (min p r)) (show (p + r) - (min p r) < mi by omega) hV) rfl) ?_
          refine me_seg 3 (pc1 := 84) (ls1 := [some (.ref 138), some (.int (nI q)), some (.int (nI p)), some (.int (nI x)), some (.int (nI r)), some (.int (nI y)), some (.int (nI n0)), some (.int (nI (min p r))), some (.int (nI ((p + r) - (min p r))))]) (st1 := [.int (nI n0), .ref 140]) (M1 := (mk_M c n m kk (rT (he, ke, ki, fi, fa, or, mi, a, g, l, w, s) (er (kpl (he, ke, ki, fi, fa, or, mi, a, g, l, w, s) ((p + r) - (min p r)))) xi xw im le nu rf ln nn vp xn xc vs))) (fun f => rfl) ?_
          refine me_call (y := 145) (y0 := 87) (L := [some (.ref 140), some (.int (nI n0)), none]) (rest := []) (rr := none) (M1 := (mk_M c n m kk (rT (he, ke, ki, fi, fa, or, mi, a, g, l, w, s) (er (ksteps n0 (kpl (he, ke, ki, fi, fa, or, mi, a, g, l, w, s) ((p + r) - (min p r))))) xi xw im le nu rf ln nn vp xn xc vs))) (fun f => rfl) (rl_m c n m kk (rT (he, ke, ki, fi, fa, or, mi, a, g, l, w, s) (er (kpl (he, ke, ki, fi, fa, or, mi, a, g, l, w, s) ((p + r) - (min p r)))) xi xw im le nu rf ln nn vp xn xc vs) (rc_by_m n0 (by omega) (kpl (he, ke, ki, fi, fa, or, mi, a, g, l, w, s) ((p + r) - (min p r))) (kV_pl hV (show ((p + r) - (min p r)) < mi by omega)) (show s < 2 ^ 20 by omega)) rfl) ?_
          obtain ⟨Q_44, hEQ_44, hQ_44, hsQ_44⟩ := k_genS n0 (kpl (he, ke, ki, fi, fa, or, mi, a, g, l, w, s) ((p + r) - (min p r))) (kV_pl hV (show ((p + r) - (min p r)) < mi by omega)) (by have hq_ : k_st (kpl (he, ke, ki, fi, fa, or, mi, a, g, l, w, s) ((p + r) - (min p r))) < 2 ^ 19 := (show s < 2 ^ 19 by omega); omega)
          rw [hEQ_44]
          clear hEQ_44
          refine me_seg 4 (pc1 := 93) (ls1 := [some (.ref 138), some (.int (nI q)), some (.int (nI p)), some (.int (nI x)), some (.int (nI r)), some (.int (nI y)), some (.int (nI n0)), some (.int (nI (min p r))), some (.int (nI ((p + r) - (min p r))))]) (st1 := [.int 2, .int (nI q), .ref 140]) (M1 := (mk_M c n m kk (rT (he, ke, ki, fi, fa, or, mi, a, g, l, w, s) (er Q_44) xi xw im le nu rf ln nn vp xn xc vs))) (fun f => rfl) ?_
          refine me_call (y := 141) (y0 := 96) (L := [some (.int (nI q)), some (.int 2)]) (rest := [.ref 140]) (rr := some (.int (nI (32 + 3 * q + 2)))) (M1 := (mk_M c n m kk (rT (he, ke, ki, fi, fa, or, mi, a, g, l, w, s) (er Q_44) xi xw im le nu rf ln nn vp xn xc vs))) (fun f => rfl) (rc_of q 2 (by omega) (by decide) _) ?_
          refine me_ldn (xs := (er Q_44)) rfl rfl (k := 32 + 3 * q + 2) (by omega) (er_fa (K := Q_44) (kV_he hQ_44) (by omega)) ?_
          refine me_seg 4 (pc1 := 103) (ls1 := [some (.ref 138), some (.int (nI q)), some (.int (nI p)), some (.int (nI x)), some (.int (nI r)), some (.int (nI y)), some (.int (nI n0)), some (.int (nI (min p r))), some (.int (nI ((p + r) - (min p r))))]) (st1 := [.int 2, .int (nI q), .ref 139, .int (nI (kg (k_fa Q_44) q))]) (M1 := (mk_M c n m kk (rT (he, ke, ki, fi, fa, or, mi, a, g, l, w, s) (er Q_44) xi xw im le nu rf ln nn vp xn xc vs))) (fun f => rfl) ?_
          refine me_call (y := 141) (y0 := 106) (L := [some (.int (nI q)), some (.int 2)]) (rest := [.ref 139, .int (nI (kg (k_fa Q_44) q))]) (rr := some (.int (nI (32 + 3 * q + 2)))) (M1 := (mk_M c n m kk (rT (he, ke, ki, fi, fa, or, mi, a, g, l, w, s) (er Q_44) xi xw im le nu rf ln nn vp xn xc vs))) (fun f => rfl) (rc_of q 2 (by omega) (by decide) _) ?_
          refine me_ldn (xs := (er (he, ke, ki, fi, fa, or, mi, a, g, l, w, s))) rfl rfl (k := 32 + 3 * q + 2) (by omega) (er_fa (K := (he, ke, ki, fi, fa, or, mi, a, g, l, w, s)) v1 (by omega)) ?_
          refine me_seg 3 (pc1 := 110) (ls1 := [some (.ref 138), some (.int (nI q)), some (.int (nI p)), some (.int (nI x)), some (.int (nI r)), some (.int (nI y)), some (.int (nI n0)), some (.int (nI (min p r))), some (.int (nI ((p + r) - (min p r))))]) (st1 := [.int (nI p), .int (nI q), .int ((nI (kg (k_fa Q_44) q)) - (nI (kg fa q)))]) (M1 := (mk_M c n m kk (rT (he, ke, ki, fi, fa, or, mi, a, g, l, w, s) (er Q_44) xi xw im le nu rf ln nn vp xn xc vs))) (fun f => rfl) ?_
          refine me_if (C := (nI q) = (nI p)) (fun f => rfl) (fun h45 => ?_) (fun h45 => ?_)
          · refine me_ret 4 (r := some (.int (((nI (kg (k_fa Q_44) q)) - (nI (kg fa q))) + (nI x)))) (M1 := (mk_M c n m kk (rT (he, ke, ki, fi, fa, or, mi, a, g, l, w, s) (er Q_44) xi xw im le nu rf ln nn vp xn xc vs))) (fun f => rfl) ?_
            exact ⟨⟨_, rfl⟩, _, _, _, _, _, _, rfl, ⟨(er_len hQ_44), (by assumption), (by assumption), (by assumption)⟩⟩
          · refine me_ret 3 (r := some (.int (((nI (kg (k_fa Q_44) q)) - (nI (kg fa q))) + (nI y)))) (M1 := (mk_M c n m kk (rT (he, ke, ki, fi, fa, or, mi, a, g, l, w, s) (er Q_44) xi xw im le nu rf ln nn vp xn xc vs))) (fun f => rfl) ?_
            exact ⟨⟨_, rfl⟩, _, _, _, _, _, _, rfl, ⟨(er_len hQ_44), (by assumption), (by assumption), (by assumption)⟩⟩
        · refine me_seg 3 (pc1 := 84) (ls1 := [some (.ref 138), some (.int (nI q)), some (.int (nI p)), some (.int (nI x)), some (.int (nI r)), some (.int (nI y)), some (.int (nI n0)), some (.int (nI (min p r))), some (.int (nI ((p + r) - (min p r))))]) (st1 := [.int (nI n0), .ref 140]) (M1 := (mk_M c n m kk (rT (he, ke, ki, fi, fa, or, mi, a, g, l, w, s) (er (he, ke, ki, fi, fa, or, mi, a, g, l, w, s)) xi xw im le nu rf ln nn vp xn xc vs))) (fun f => rfl) ?_
          refine me_call (y := 145) (y0 := 87) (L := [some (.ref 140), some (.int (nI n0)), none]) (rest := []) (rr := none) (M1 := (mk_M c n m kk (rT (he, ke, ki, fi, fa, or, mi, a, g, l, w, s) (er (ksteps n0 (he, ke, ki, fi, fa, or, mi, a, g, l, w, s))) xi xw im le nu rf ln nn vp xn xc vs))) (fun f => rfl) (rl_m c n m kk (rT (he, ke, ki, fi, fa, or, mi, a, g, l, w, s) (er (he, ke, ki, fi, fa, or, mi, a, g, l, w, s)) xi xw im le nu rf ln nn vp xn xc vs) (rc_by_m n0 (by omega) (he, ke, ki, fi, fa, or, mi, a, g, l, w, s) hV (show s < 2 ^ 20 by omega)) rfl) ?_
          obtain ⟨Q_46, hEQ_46, hQ_46, hsQ_46⟩ := k_genS n0 (he, ke, ki, fi, fa, or, mi, a, g, l, w, s) hV (by have hq_ : k_st (he, ke, ki, fi, fa, or, mi, a, g, l, w, s) < 2 ^ 19 := (show s < 2 ^ 19 by omega); omega)
          rw [hEQ_46]
          clear hEQ_46
          refine me_seg 4 (pc1 := 93) (ls1 := [some (.ref 138), some (.int (nI q)), some (.int (nI p)), some (.int (nI x)), some (.int (nI r)), some (.int (nI y)), some (.int (nI n0)), some (.int (nI (min p r))), some (.int (nI ((p + r) - (min p r))))]) (st1 := [.int 2, .int (nI q), .ref 140]) (M1 := (mk_M c n m kk (rT (he, ke, ki, fi, fa, or, mi, a, g, l, w, s) (er Q_46) xi xw im le nu rf ln nn vp xn xc vs))) (fun f => rfl) ?_
          refine me_call (y := 141) (y0 := 96) (L := [some (.int (nI q)), some (.int 2)]) (rest := [.ref 140]) (rr := some (.int (nI (32 + 3 * q + 2)))) (M1 := (mk_M c n m kk (rT (he, ke, ki, fi, fa, or, mi, a, g, l, w, s) (er Q_46) xi xw im le nu rf ln nn vp xn xc vs))) (fun f => rfl) (rc_of q 2 (by omega) (by decide) _) ?_
          refine me_ldn (xs := (er Q_46)) rfl rfl (k := 32 + 3 * q + 2) (by omega) (er_fa (K := Q_46) (kV_he hQ_46) (by omega)) ?_
          refine me_seg 4 (pc1 := 103) (ls1 := [some (.ref 138), some (.int (nI q)), some (.int (nI p)), some (.int (nI x)), some (.int (nI r)), some (.int (nI y)), some (.int (nI n0)), some (.int (nI (min p r))), some (.int (nI ((p + r) - (min p r))))]) (st1 := [.int 2, .int (nI q), .ref 139, .int (nI (kg (k_fa Q_46) q))]) (M1 := (mk_M c n m kk (rT (he, ke, ki, fi, fa, or, mi, a, g, l, w, s) (er Q_46) xi xw im le nu rf ln nn vp xn xc vs))) (fun f => rfl) ?_
          refine me_call (y := 141) (y0 := 106) (L := [some (.int (nI q)), some (.int 2)]) (rest := [.ref 139, .int (nI (kg (k_fa Q_46) q))]) (rr := some (.int (nI (32 + 3 * q + 2)))) (M1 := (mk_M c n m kk (rT (he, ke, ki, fi, fa, or, mi, a, g, l, w, s) (er Q_46) xi xw im le nu rf ln nn vp xn xc vs))) (fun f => rfl) (rc_of q 2 (by omega) (by decide) _) ?_
          refine me_ldn (xs := (er (he, ke, ki, fi, fa, or, mi, a, g, l, w, s))) rfl rfl (k := 32 + 3 * q + 2) (by omega) (er_fa (K := (he, ke, ki, fi, fa, or, mi, a, g, l, w, s)) v1 (by omega)) ?_
          refine me_seg 3 (pc1 := 110) (ls1 := [some (.ref 138), some (.int (nI q)), some (.int (nI p)), some (.int (nI x)), some (.int (nI r)), some (.int (nI y)), some (.int (nI n0)), some (.int (nI (min p r))), some (.int (nI ((p + r) - (min p r))))]) (st1 := [.int (nI p), .int (nI q), .int ((nI (kg (k_fa Q_46) q)) - (nI (kg fa q)))]) (M1 := (mk_M c n m kk (rT (he, ke, ki, fi, fa, or, mi, a, g, l, w, s) (er Q_46) xi xw im le nu rf ln nn vp xn xc vs))) (fun f => rfl) ?_
          refine me_if (C := (nI q) = (nI p)) (fun f => rfl) (fun h47 => ?_) (fun h47 => ?_)
          · refine me_ret 4 (r := some (.int (((nI (kg (k_fa Q_46) q)) - (nI (kg fa q))) + (nI x)))) (M1 := (mk_M c n m kk (rT (he, ke, ki, fi, fa, or, mi, a, g, l, w, s) (er Q_46) xi xw im le nu rf ln nn vp xn xc vs))) (fun f => rfl) ?_
            exact ⟨⟨_, rfl⟩, _, _, _, _, _, _, rfl, ⟨(er_len hQ_46), (by assumption), (by assumption), (by assumption)⟩⟩
          · refine me_ret 3 (r := some (.int (((nI (kg (k_fa Q_46) q)) - (nI (kg fa q))) + (nI y)))) (M1 := (mk_M c n m kk (rT (he, ke, ki, fi, fa, or, mi, a, g, l, w, s) (er Q_46) xi xw im le nu rf ln nn vp xn xc vs))) (fun f => rfl) ?_
            exact ⟨⟨_, rfl⟩, _, _, _, _, _, _, rfl, ⟨(er_len hQ_46), (by assumption), (by assumption), (by assumption)⟩⟩
set_option maxRecDepth 100000 in
theorem wm_twoL (he ke ki fi fa or : List Nat) (mi a g l w s : Nat) (xi : List Int32) (im : Nat) (le nu rf : List Nat) (ln nn : Nat) (c : cC) (n m kk : kG) (hA : iA (he, ke, ki, fi, fa, or, mi, a, g, l, w, s)) (hC : iC nu nn) (p r n0 : Nat) (hp : p < mi) (hr : r < mi) (hne : ¬ p = r) (hn : n0 ≤ 30) (k : Nat) : ∀ (j : Nat) (lo6 : Option Value) (lo7 : Option Value) (xm xw : List Int32) (vp : Int32) (xn xc : List Int32) (vs : Int32), j + k = 4 → iR xm xw xn xc → mm_E 195 49 [some (.ref 138), some (.int (nI p)), some (.int (nI r)), some (.int (nI n0)), some (.int 0), some (.int (nI j)), lo6, lo7] [] (mk_M c n m kk (rT (he, ke, ki, fi, fa, or, mi, a, g, l, w, s) xm xi xw im le nu rf ln nn vp xn xc vs)) (pM isI (he, ke, ki, fi, fa, or, mi, a, g, l, w, s) xi im le nu rf ln nn c n m kk) := by
  obtain ⟨hV, hst⟩ := id hA
  have hst2 : s ≤ 999 := hst
  obtain ⟨v1, v2, v3, v4, v5, v6, v7, v8, v9, v10, v11, v12, v13, v14, v15, v16⟩ := id hV
  have v6l := kO_len mi v7 or v6
  obtain ⟨c1, c2, c3⟩ := id hC
  induction k with
  | zero =>
    intro j lo6 lo7 xm xw vp xn xc vs hj hR
    obtain ⟨r1, r2, r3, r4⟩ := id hR
    refine me_seg 2 (pc1 := 52) (ls1 := [some (.ref 138), some (.int (nI p)), some (.int (nI r)), some (.int (nI n0)), some (.int 0), some (.int (nI j)), lo6, lo7]) (st1 := [.int 4, .int (nI j)]) (M1 := (mk_M c n m kk (rT (he, ke, ki, fi, fa, or, mi, a, g, l, w, s) xm xi xw im le nu rf ln nn vp xn xc vs))) (fun f => rfl) ?_
    refine me_t (C := 4 ≤ (nI j)) (nI_let (a := 4) (b := j) (by omega)) (fun f => rfl) ?_
    refine me_ret 2 (r := some (.int (-9))) (M1 := (mk_M c n m kk (rT (he, ke, ki, fi, fa, or, mi, a, g, l, w, s) xm xi xw im le nu rf ln nn vp xn xc vs))) (fun f => rfl) ?_
    exact ⟨⟨_, rfl⟩, _, _, _, _, _, _, rfl, ⟨(by assumption), (by assumption), (by assumption), (by assumption)⟩⟩
  | succ k IH =>
    intro j lo6 lo7 xm xw vp xn xc vs hj hR
    obtain ⟨r1, r2, r3, r4⟩ := id hR
    refine me_seg 2 (pc1 := 52) (ls1 := [some (.ref 138), some (.int (nI p)), some (.int (nI r)), some (.int (nI n0)), some (.int 0), some (.int (nI j)), lo6, lo7]) (st1 := [.int 4, .int (nI j)]) (M1 := (mk_M c n m kk (rT (he, ke, ki, fi, fa, or, mi, a, g, l, w, s) xm xi xw im le nu rf ln nn vp xn xc vs))) (fun f => rfl) ?_
    refine me_f (C := 4 ≤ (nI j)) (nI_lef (a := 4) (b := j) (by omega)) (fun f => rfl) ?_
    refine me_seg 3 (pc1 := 59) (ls1 := [some (.ref 138), some (.int (nI p)), some (.int (nI r)), some (.int (nI n0)), some (.int 0), some (.int (nI j)), lo6, lo7]) (st1 := [.int ((nI j) / (2 : Int32))]) (M1 := (mk_M c n m kk (rT (he, ke, ki, fi, fa, or, mi, a, g, l, w, s) xm xi xw im le nu rf ln nn vp xn xc vs))) (fun f => rfl) ?_
    refine me_v (pk_div (a := j) (d := 2) (by omega) (by decide) (by decide)) ?_
    refine me_seg 4 (pc1 := 65) (ls1 := [some (.ref 138), some (.int (nI p)), some (.int (nI r)), some (.int (nI n0)), some (.int 0), some (.int (nI j)), some (.int (nI (j / 2))), lo7]) (st1 := [.int ((nI j) - (nI j) / (2 : Int32) * (2 : Int32))]) (M1 := (mk_M c n m kk (rT (he, ke, ki, fi, fa, or, mi, a, g, l, w, s) xm xi xw im le nu rf ln nn vp xn xc vs))) (fun f => rfl) ?_
    refine me_v (pk_rem (a := j) (d := 2) (by omega) (by decide) (by decide)) ?_
    refine me_seg 7 (pc1 := 74) (ls1 := [some (.ref 138), some (.int (nI p)), some (.int (nI r)), some (.int (nI n0)), some (.int 0), some (.int (nI j)), some (.int (nI (j / 2))), some (.int (nI (j % 2)))]) (st1 := [.int ((1 : Int32) - (nI (j / 2))), .int (nI p), .int (nI p), .ref 138]) (M1 := (mk_M c n m kk (rT (he, ke, ki, fi, fa, or, mi, a, g, l, w, s) xm xi xw im le nu rf ln nn vp xn xc vs))) (fun f => rfl) ?_
    refine me_v (pk_sub (a := 1) (b := j / 2) (by omega)) ?_
    refine me_seg 3 (pc1 := 78) (ls1 := [some (.ref 138), some (.int (nI p)), some (.int (nI r)), some (.int (nI n0)), some (.int 0), some (.int (nI j)), some (.int (nI (j / 2))), some (.int (nI (j % 2)))]) (st1 := [.int (nI n0), .int (nI (j % 2)), .int (nI r), .int (nI (1 - (j / 2))), .int (nI p), .int (nI p), .ref 138]) (M1 := (mk_M c n m kk (rT (he, ke, ki, fi, fa, or, mi, a, g, l, w, s) xm xi xw im le nu rf ln nn vp xn xc vs))) (fun f => rfl) ?_
    refine me_callE (y := 196) (y0 := 81) (L := [some (.ref 138), some (.int (nI p)), some (.int (nI p)), some (.int (nI (1 - (j / 2)))), some (.int (nI r)), some (.int (nI (j % 2))), some (.int (nI n0)), none, none]) (rest := []) (fun f => rfl) (wm_cost he ke ki fi fa or mi a g l w s xi im le nu rf ln nn c n m kk hA hC xm xw vp xn xc vs ⟨(by assumption), (by assumption), (by assumption), (by assumption)⟩ p p (1 - (j / 2)) r (j % 2) n0 (by omega) (by omega) (by omega) (by omega) (by omega) (by omega)) ?_
    rintro _ _ ⟨⟨w_1, rfl⟩, xm_1, xw_1, vp_1, xn_1, xc_1, vs_1, rfl, hR_1⟩
    obtain ⟨r1_1, r2_1, r3_1, r4_1⟩ := id hR_1
    refine me_seg 7 (pc1 := 90) (ls1 := [some (.ref 138), some (.int (nI p)), some (.int (nI r)), some (.int (nI n0)), some (.int 0), some (.int (nI j)), some (.int (nI (j / 2))), some (.int (nI (j % 2)))]) (st1 := [.int (nI n0), .int (nI (j % 2)), .int (nI r), .int (nI (j / 2)), .int (nI p), .int (nI p), .ref 138, .int w_1]) (M1 := (mk_M c n m kk (rT (he, ke, ki, fi, fa, or, mi, a, g, l, w, s) xm_1 xi xw_1 im le nu rf ln nn vp_1 xn_1 xc_1 vs_1))) (fun f => rfl) ?_
    refine me_callE (y := 196) (y0 := 93) (L := [some (.ref 138), some (.int (nI p)), some (.int (nI p)), some (.int (nI (j / 2))), some (.int (nI r)), some (.int (nI (j % 2))), some (.int (nI n0)), none, none]) (rest := [.int w_1]) (fun f => rfl) (wm_cost he ke ki fi fa or mi a g l w s xi im le nu rf ln nn c n m kk hA hC xm_1 xw_1 vp_1 xn_1 xc_1 vs_1 ⟨(by assumption), (by assumption), (by assumption), (by assumption)⟩ p p (j / 2) r (j % 2) n0 (by omega) (by omega) (by omega) (by omega) (by omega) (by omega)) ?_
    rintro _ _ ⟨⟨w_2, rfl⟩, xm_2, xw_2, vp_2, xn_2, xc_2, vs_2, rfl, hR_2⟩
    obtain ⟨r1_2, r2_2, r3_2, r4_2⟩ := id hR_2
    refine me_if (C := w_1 < w_2) (fun f => rfl) (fun h3 => ?_) (fun h3 => ?_)
    · refine me_seg 1 (pc1 := 137) (ls1 := [some (.ref 138), some (.int (nI p)), some (.int (nI r)), some (.int (nI n0)), some (.int 0), some (.int ((nI j) + 1)), some (.int (nI (j / 2))), some (.int (nI (j % 2)))]) (st1 := []) (M1 := (mk_M c n m kk (rT (he, ke, ki, fi, fa, or, mi, a, g, l, w, s) xm_2 xi xw_2 im le nu rf ln nn vp_2 xn_2 xc_2 vs_2))) (fun f => rfl) ?_
      refine me_l (fun q_ => [some (.ref 138), some (.int (nI p)), some (.int (nI r)), some (.int (nI n0)), some (.int 0), some (.int q_), some (.int (nI (j / 2))), some (.int (nI (j % 2)))]) (nI_add j 1) ?_
      refine me_seg 1 (pc1 := 49) (ls1 := [some (.ref 138), some (.int (nI p)), some (.int (nI r)), some (.int (nI n0)), some (.int 0), some (.int (nI (j + 1))), some (.int (nI (j / 2))), some (.int (nI (j % 2)))]) (st1 := []) (M1 := (mk_M c n m kk (rT (he, ke, ki, fi, fa, or, mi, a, g, l, w, s) xm_2 xi xw_2 im le nu rf ln nn vp_2 xn_2 xc_2 vs_2))) (fun f => rfl) ?_
      exact IH (j + 1) (some (.int (nI (j / 2)))) (some (.int (nI (j % 2)))) xm_2 xw_2 vp_2 xn_2 xc_2 vs_2 (by omega) ⟨(by assumption), (by assumption), (by assumption), (by assumption)⟩
    · refine me_seg 8 (pc1 := 106) (ls1 := [some (.ref 138), some (.int (nI p)), some (.int (nI r)), some (.int (nI n0)), some (.int 0), some (.int (nI j)), some (.int (nI (j / 2))), some (.int (nI (j % 2)))]) (st1 := [.int ((1 : Int32) - (nI (j % 2))), .int (nI r), .int (nI (j / 2)), .int (nI p), .int (nI r), .ref 138]) (M1 := (mk_M c n m kk (rT (he, ke, ki, fi, fa, or, mi, a, g, l, w, s) xm_2 xi xw_2 im le nu rf ln nn vp_2 xn_2 xc_2 vs_2))) (fun f => rfl) ?_
      refine me_v (pk_sub (a := 1) (b := j % 2) (by omega)) ?_
      refine me_seg 1 (pc1 := 107) (ls1 := [some (.ref 138), some (.int (nI p)), some (.int (nI r)), some (.int (nI n0)), some (.int 0), some (.int (nI j)), some (.int (nI (j / 2))), some (.int (nI (j % 2)))]) (st1 := [.int (nI n0), .int (nI (1 - (j % 2))), .int (nI r), .int (nI (j / 2)), .int (nI p), .int (nI r), .ref 138]) (M1 := (mk_M c n m kk (rT (he, ke, ki, fi, fa, or, mi, a, g, l, w, s) xm_2 xi xw_2 im le nu rf ln nn vp_2 xn_2 xc_2 vs_2))) (fun f => rfl) ?_
      refine me_callE (y := 196) (y0 := 110) (L := [some (.ref 138), some (.int (nI r)), some (.int (nI p)), some (.int (nI (j / 2))), some (.int (nI r)), some (.int (nI (1 - (j % 2)))), some (.int (nI n0)), none, none]) (rest := []) (fun f => rfl) (wm_cost he ke ki fi fa or mi a g l w s xi im le nu rf ln nn c n m kk hA hC xm_2 xw_2 vp_2 xn_2 xc_2 vs_2 ⟨(by assumption), (by assumption), (by assumption), (by assumption)⟩ r p (j / 2) r (1 - (j % 2)) n0 (by omega) (by omega) (by omega) (by omega) (by omega) (by omega)) ?_
      rintro _ _ ⟨⟨w_4, rfl⟩, xm_4, xw_4, vp_4, xn_4, xc_4, vs_4, rfl, hR_4⟩
      obtain ⟨r1_4, r2_4, r3_4, r4_4⟩ := id hR_4
      refine me_seg 7 (pc1 := 119) (ls1 := [some (.ref 138), some (.int (nI p)), some (.int (nI r)), some (.int (nI n0)), some (.int 0), some (.int (nI j)), some (.int (nI (j / 2))), some (.int (nI (j % 2)))]) (st1 := [.int (nI n0), .int (nI (j % 2)), .int (nI r), .int (nI (j / 2)), .int (nI p), .int (nI r), .ref 138, .int w_4]) (M1 := (mk_M c n m kk (rT (he, ke, ki, fi, fa, or, mi, a, g, l, w, s) xm_4 xi xw_4 im le nu rf ln nn vp_4 xn_4 xc_4 vs_4))) (fun f => rfl) ?_
      refine me_callE (y := 196) (y0 := 122) (L := [some (.ref 138), some (.int (nI r)), some (.int (nI p)), some (.int (nI (j / 2))), some (.int (nI r)), some (.int (nI (j % 2))), some (.int (nI n0)), none, none]) (rest := [.int w_4]) (fun f => rfl) (wm_cost he ke ki fi fa or mi a g l w s xi im le nu rf ln nn c n m kk hA hC xm_4 xw_4 vp_4 xn_4 xc_4 vs_4 ⟨(by assumption), (by assumption), (by assumption), (by assumption)⟩ r p (j / 2) r (j % 2) n0 (by omega) (by omega) (by omega) (by omega) (by omega) (by omega)) ?_
      rintro _ _ ⟨⟨w_5, rfl⟩, xm_5, xw_5, vp_5, xn_5, xc_5, vs_5, rfl, hR_5⟩
      obtain ⟨r1_5, r2_5, r3_5, r4_5⟩ := id hR_5
      refine me_if (C := w_4 < w_5) (fun f => rfl) (fun h6 => ?_) (fun h6 => ?_)
      · refine me_seg 1 (pc1 := 137) (ls1 := [some (.ref 138), some (.int (nI p)), some (.int (nI r)), some (.int (nI n0)), some (.int 0), some (.int ((nI j) + 1)), some (.int (nI (j / 2))), some (.int (nI (j % 2)))]) (st1 := []) (M1 := (mk_M c n m kk (rT (he, ke, ki, fi, fa, or, mi, a, g, l, w, s) xm_5 xi xw_5 im le nu rf ln nn vp_5 xn_5 xc_5 vs_5))) (fun f => rfl) ?_
        refine me_l (fun q_ => [some (.ref 138), some (.int (nI p)), some (.int (nI r)), some (.int (nI n0)), some (.int 0), some (.int q_), some (.int (nI (j / 2))), some (.int (nI (j % 2)))]) (nI_add j 1) ?_
        refine me_seg 1 (pc1 := 49) (ls1 := [some (.ref 138), some (.int (nI p)), some (.int (nI r)), some (.int (nI n0)), some (.int 0), some (.int (nI (j + 1))), some (.int (nI (j / 2))), some (.int (nI (j % 2)))]) (st1 := []) (M1 := (mk_M c n m kk (rT (he, ke, ki, fi, fa, or, mi, a, g, l, w, s) xm_5 xi xw_5 im le nu rf ln nn vp_5 xn_5 xc_5 vs_5))) (fun f => rfl) ?_
        exact IH (j + 1) (some (.int (nI (j / 2)))) (some (.int (nI (j % 2)))) xm_5 xw_5 vp_5 xn_5 xc_5 vs_5 (by omega) ⟨(by assumption), (by assumption), (by assumption), (by assumption)⟩
      · refine me_seg 3 (pc1 := 130) (ls1 := [some (.ref 138), some (.int (nI p)), some (.int (nI r)), some (.int (nI n0)), some (.int 0), some (.int (nI j)), some (.int (nI (j / 2))), some (.int (nI (j % 2)))]) (st1 := [.int ((10 : Int32) * (nI (j / 2)))]) (M1 := (mk_M c n m kk (rT (he, ke, ki, fi, fa, or, mi, a, g, l, w, s) xm_5 xi xw_5 im le nu rf ln nn vp_5 xn_5 xc_5 vs_5))) (fun f => rfl) ?_
        refine me_v (pk_mul 10 (j / 2)) ?_
        refine me_seg 2 (pc1 := 133) (ls1 := [some (.ref 138), some (.int (nI p)), some (.int (nI r)), some (.int (nI n0)), some (.int 0), some (.int (nI j)), some (.int (nI (j / 2))), some (.int (nI (j % 2)))]) (st1 := [.int ((nI (10 * (j / 2))) + (nI (j % 2)))]) (M1 := (mk_M c n m kk (rT (he, ke, ki, fi, fa, or, mi, a, g, l, w, s) xm_5 xi xw_5 im le nu rf ln nn vp_5 xn_5 xc_5 vs_5))) (fun f => rfl) ?_
        refine me_v (nI_add (10 * (j / 2)) (j % 2)) ?_
        refine me_ret 1 (r := some (.int (nI (10 * (j / 2) + j % 2)))) (M1 := (mk_M c n m kk (rT (he, ke, ki, fi, fa, or, mi, a, g, l, w, s) xm_5 xi xw_5 im le nu rf ln nn vp_5 xn_5 xc_5 vs_5))) (fun f => rfl) ?_
        exact ⟨⟨_, rfl⟩, _, _, _, _, _, _, rfl, ⟨(by assumption), (by assumption), (by assumption), (by assumption)⟩⟩
set_option maxRecDepth 100000 in
theorem wm_two (he ke ki fi fa or : List Nat) (mi a g l w s : Nat) (xi : List Int32) (im : Nat) (le nu rf : List Nat) (ln nn : Nat) (c : cC) (n m kk : kG) (hA : iA (he, ke, ki, fi, fa, or, mi, a, g, l, w, s)) (hC : iC nu nn) (xm xw : List Int32) (vp : Int32) (xn xc : List Int32) (vs : Int32) (hR : iR xm xw xn xc) (p r n0 : Nat) (hp : p < mi) (hr : r < mi) (hne : ¬ p = r) (hn : n0 ≤ 30) : mm_E 195 0 [some (.ref 138), some (.int (nI p)), some (.int (nI r)), some (.int (nI n0)), none, none, none, none] [] (mk_M c n m kk (rT (he, ke, ki, fi, fa, or, mi, a, g, l, w, s) xm xi xw im le nu rf ln nn vp xn xc vs)) (pM isI (he, ke, ki, fi, fa, or, mi, a, g, l, w, s) xi im le nu rf ln nn c n m kk) := by
  obtain ⟨hV, hst⟩ := id hA
  have hst2 : s ≤ 999 := hst
  obtain ⟨v1, v2, v3, v4, v5, v6, v7, v8, v9, v10, v11, v12, v13, v14, v15, v16⟩ := id hV
  have v6l := kO_len mi v7 or v6
  obtain ⟨c1, c2, c3⟩ := id hC
  obtain ⟨r1, r2, r3, r4⟩ := id hR
  refine me_seg 2 (pc1 := 2) (ls1 := [some (.ref 138), some (.int (nI p)), some (.int (nI r)), some (.int (nI n0)), none, none, none, none]) (st1 := [.int (nI p), .ref 138]) (M1 := (mk_M c n m kk (rT (he, ke, ki, fi, fa, or, mi, a, g, l, w, s) xm xi xw im le nu rf ln nn vp xn xc vs))) (fun f => rfl) ?_
  refine me_call (y := 142) (y0 := 5) (L := [some (.ref 138), some (.int (nI p))]) (rest := []) (rr := some (.int 1)) (M1 := (mk_M c n m kk (rT (he, ke, ki, fi, fa, or, mi, a, g, l, w, s) xm xi xw im le nu rf ln nn vp xn xc vs))) (fun f => rfl) (ms_m2_ok (x := (nI p)) (b := (nI (mi - 1))) (pk_sub (a := mi) (b := 1) (by omega)) (nI_ltf (a := p) (b := 0) (by omega)) (nI_ltf (a := mi - 1) (b := p) (by omega))) ?_
  refine me_seg 3 (pc1 := 10) (ls1 := [some (.ref 138), some (.int (nI p)), some (.int (nI r)), some (.int (nI n0)), none, none, none, none]) (st1 := [.int (nI r), .ref 138]) (M1 := (mk_M c n m kk (rT (he, ke, ki, fi, fa, or, mi, a, g, l, w, s) xm xi xw im le nu rf ln nn vp xn xc vs))) (fun f => rfl) ?_
  refine me_call (y := 142) (y0 := 13) (L := [some (.ref 138), some (.int (nI r))]) (rest := []) (rr := some (.int 1)) (M1 := (mk_M c n m kk (rT (he, ke, ki, fi, fa, or, mi, a, g, l, w, s) xm xi xw im le nu rf ln nn vp xn xc vs))) (fun f => rfl) (ms_m2_ok (x := (nI r)) (b := (nI (mi - 1))) (pk_sub (a := mi) (b := 1) (by omega)) (nI_ltf (a := r) (b := 0) (by omega)) (nI_ltf (a := mi - 1) (b := r) (by omega))) ?_
  refine me_seg 3 (pc1 := 18) (ls1 := [some (.ref 138), some (.int (nI p)), some (.int (nI r)), some (.int (nI n0)), none, none, none, none]) (st1 := [.int (nI r), .int (nI p)]) (M1 := (mk_M c n m kk (rT (he, ke, ki, fi, fa, or, mi, a, g, l, w, s) xm xi xw im le nu rf ln nn vp xn xc vs))) (fun f => rfl) ?_
  refine me_f (C := (nI p) = (nI r)) (nI_eqf (a := p) (b := r) (by omega)) (fun f => rfl) ?_
  refine me_seg 3 (pc1 := 25) (ls1 := [some (.ref 138), some (.int (nI p)), some (.int (nI r)), some (.int (nI n0)), none, none, none, none]) (st1 := [.int 30, .int 0, .int (nI n0)]) (M1 := (mk_M c n m kk (rT (he, ke, ki, fi, fa, or, mi, a, g, l, w, s) xm xi xw im le nu rf ln nn vp xn xc vs))) (fun f => rfl) ?_
  refine me_call (y := 159) (y0 := 28) (L := [some (.int (nI n0)), some (.int 0), some (.int 30)]) (rest := []) (rr := some (.int 0)) (M1 := (mk_M c n m kk (rT (he, ke, ki, fi, fa, or, mi, a, g, l, w, s) xm xi xw im le nu rf ln nn vp xn xc vs))) (fun f => rfl) (ms_wb_ok (x := (nI n0)) (a := 0) (b := 30) (nI_let (a := 0) (b := n0) (by omega)) (nI_let (a := n0) (b := 30) (by omega))) ?_
  refine me_seg 6 (pc1 := 49) (ls1 := [some (.ref 138), some (.int (nI p)), some (.int (nI r)), some (.int (nI n0)), some (.int 0), some (.int 0), none, none]) (st1 := []) (M1 := (mk_M c n m kk (rT (he, ke, ki, fi, fa, or, mi, a, g, l, w, s) xm xi xw im le nu rf ln nn vp xn xc vs))) (fun f => rfl) ?_
  exact wm_twoL he ke ki fi fa or mi a g l w s xi im le nu rf ln nn c n m kk hA hC p r n0 hp hr hne hn 4 0 none none xm xw vp xn xc vs (by omega) ⟨(by assumption), (by assumption), (by assumption), (by assumption)⟩
set_option maxRecDepth 100000 in
theorem wm_pl121 (he ke ki fi fa or : List Nat) (mi a g l w s : Nat) (xi : List Int32) (im : Nat) (le nu rf : List Nat) (ln nn : Nat) (c : cC) (n m kk : kG) (hA : iA (he, ke, ki, fi, fa, or, mi, a, g, l, w, s)) (hC : iC nu nn) (p n0 t x : Nat) (hp : p < 25) (hn : n0 ≤ 7) (ht1 : 2 ≤ t) (ht : t ≤ 20) (hx : x < 2) (u v : Int64) (e : Nat) (he2 : e < 2 ^ 31) (HO : ∀ (u : Int64) (lo10 : Option Value) (lo12 : Option Value) (xm xw : List Int32) (vp : Int32) (xn xc : List Int32) (vs : Int32), iR xm xw xn xc → mm_E 197 96 [some (.ref 138), some (.int (nI p)), some (.int (nI n0)), some (.int (nI t)), some (.int (nI x)), some (.long u), none, some (.long v), none, some (.int (nI (e + 1))), lo10, none, lo12] [] (mk_M c n m kk (rT (he, ke, ki, fi, fa, or, mi, a, g, l, w, s) xm xi xw im le nu rf ln nn vp xn xc vs)) (pM isL (he, ke, ki, fi, fa, or, mi, a, g, l, w, s) xi im le nu rf ln nn c n m kk)) (k : Nat) : ∀ (j : Nat) (w0 : Int64) (Q : kK) (xw : List Int32) (vp : Int32) (xn xc : List Int32) (vs : Int32), j + k = n0 → iR (er Q) xw xn xc → kV Q → k_st Q + k < 2 ^ 20 → mm_E 197 121 [some (.ref 138), some (.int (nI p)), some (.int (nI n0)), some (.int (nI t)), some (.int (nI x)), some (.long u), none, some (.long v), none, some (.int (nI e)), some (.long w0), none, some (.int (nI j))] [] (mk_M c n m kk (rT (he, ke, ki, fi, fa, or, mi, a, g, l, w, s) (er Q) xi xw im le nu rf ln nn vp xn xc vs)) (pM isL (he, ke, ki, fi, fa, or, mi, a, g, l, w, s) xi im le nu rf ln nn c n m kk) := by
  obtain ⟨hV, hst⟩ := id hA
  have hst2 : s ≤ 999 := hst
  obtain ⟨v1, v2, v3, v4, v5, v6, v7, v8, v9, v10, v11, v12, v13, v14, v15, v16⟩ := id hV
  have v6l := kO_len mi v7 or v6
  obtain ⟨c1, c2, c3⟩ := id hC
  induction k with
  | zero =>
    intro j w0 Q xw vp xn xc vs hj hR hQ hQs
    obtain ⟨r1, r2, r3, r4⟩ := id hR
    refine me_seg 2 (pc1 := 124) (ls1 := [some (.ref 138), some (.int (nI p)), some (.int (nI n0)), some (.int (nI t)), some (.int (nI x)), some (.long u), none, some (.long v), none, some (.int (nI e)), some (.long w0), none, some (.int (nI j))]) (st1 := [.int (nI n0), .int (nI j)]) (M1 := (mk_M c n m kk (rT (he, ke, ki, fi, fa, or, mi, a, g, l, w, s) (er Q) xi xw im le nu rf ln nn vp xn xc vs))) (fun f => rfl) ?_
    refine me_t (C := (nI n0) ≤ (nI j)) (nI_let (a := n0) (b := j) (by omega)) (fun f => rfl) ?_
    refine me_seg 4 (pc1 := 185) (ls1 := [some (.ref 138), some (.int (nI p)), some (.int (nI n0)), some (.int (nI t)), some (.int (nI x)), some (.long u), none, some (.long v), none, some (.int (nI e)), some (.long w0), none, some (.int (nI j))]) (st1 := [.int 2, .ref 140, .long u]) (M1 := (mk_M c n m kk (rT (he, ke, ki, fi, fa, or, mi, a, g, l, w, s) (er Q) xi xw im le nu rf ln nn vp xn xc vs))) (fun f => rfl) ?_
    refine me_ldn (xs := (er Q)) rfl rfl (k := 2) (by decide) rfl ?_
    refine me_seg 1 (pc1 := 187) (ls1 := [some (.ref 138), some (.int (nI p)), some (.int (nI n0)), some (.int (nI t)), some (.int (nI x)), some (.long u), none, some (.long v), none, some (.int (nI e)), some (.long w0), none, some (.int (nI j))]) (st1 := [.int (nI p), .int (nI (k_at Q)), .long u]) (M1 := (mk_M c n m kk (rT (he, ke, ki, fi, fa, or, mi, a, g, l, w, s) (er Q) xi xw im le nu rf ln nn vp xn xc vs))) (fun f => rfl) ?_
    refine me_if (C := (nI (k_at Q)) = (nI p)) (fun f => rfl) (fun h1 => ?_) (fun h1 => ?_)
    · refine me_seg 5 (pc1 := 202) (ls1 := [some (.ref 138), some (.int (nI p)), some (.int (nI n0)), some (.int (nI t)), some (.int (nI x)), some (.long (u + w0)), none, some (.long v), none, some (.int ((nI e) + 1)), some (.long w0), none, some (.int (nI j))]) (st1 := []) (M1 := (mk_M c n m kk (rT (he, ke, ki, fi, fa, or, mi, a, g, l, w, s) (er Q) xi xw im le nu rf ln nn vp xn xc vs))) (fun f => rfl) ?_
      refine me_l (fun q_ => [some (.ref 138), some (.int (nI p)), some (.int (nI n0)), some (.int (nI t)), some (.int (nI x)), some (.long (u + w0)), none, some (.long v), none, some (.int q_), some (.long w0), none, some (.int (nI j))]) (nI_add e 1) ?_
      refine me_seg 1 (pc1 := 96) (ls1 := [some (.ref 138), some (.int (nI p)), some (.int (nI n0)), some (.int (nI t)), some (.int (nI x)), some (.long (u + w0)), none, some (.long v), none, some (.int (nI (e + 1))), some (.long w0), none, some (.int (nI j))]) (st1 := []) (M1 := (mk_M c n m kk (rT (he, ke, ki, fi, fa, or, mi, a, g, l, w, s) (er Q) xi xw im le nu rf ln nn vp xn xc vs))) (fun f => rfl) ?_
      exact HO (u + w0) (some (.long w0)) (some (.int (nI j))) (er Q) xw vp xn xc vs ⟨(er_len hQ), (by assumption), (by assumption), (by assumption)⟩
    · refine me_seg 4 (pc1 := 202) (ls1 := [some (.ref 138), some (.int (nI p)), some (.int (nI n0)), some (.int (nI t)), some (.int (nI x)), some (.long (u + 0)), none, some (.long v), none, some (.int ((nI e) + 1)), some (.long w0), none, some (.int (nI j))]) (st1 := []) (M1 := (mk_M c n m kk (rT (he, ke, ki, fi, fa, or, mi, a, g, l, w, s) (er Q) xi xw im le nu rf ln nn vp xn xc vs))) (fun f => rfl) ?_
      refine me_l (fun q_ => [some (.ref 138), some (.int (nI p)), some (.int (nI n0)), some (.int (nI t)), some (.int (nI x)), some (.long (u + 0)), none, some (.long v), none, some (.int q_), some (.long w0), none, some (.int (nI j))]) (nI_add e 1) ?_
      refine me_seg 1 (pc1 := 96) (ls1 := [some (.ref 138), some (.int (nI p)), some (.int (nI n0)), some (.int (nI t)), some (.int (nI x)), some (.long (u + 0)), none, some (.long v), none, some (.int (nI (e + 1))), some (.long w0), none, some (.int (nI j))]) (st1 := []) (M1 := (mk_M c n m kk (rT (he, ke, ki, fi, fa, or, mi, a, g, l, w, s) (er Q) xi xw im le nu rf ln nn vp xn xc vs))) (fun f => rfl) ?_
      exact HO (u + 0) (some (.long w0)) (some (.int (nI j))) (er Q) xw vp xn xc vs ⟨(er_len hQ), (by assumption), (by assumption), (by assumption)⟩
  | succ k IH =>
    intro j w0 Q xw vp xn xc vs hj hR hQ hQs
    obtain ⟨r1, r2, r3, r4⟩ := id hR
    refine me_seg 2 (pc1 := 124) (ls1 := [some (.ref 138), some (.int (nI p)), some (.int (nI n0)), some (.int (nI t)), some (.int (nI x)), some (.long u), none, some (.long v), none, some (.int (nI e)), some (.long w0), none, some (.int (nI j))]) (st1 := [.int (nI n0), .int (nI j)]) (M1 := (mk_M c n m kk (rT (he, ke, ki, fi, fa, or, mi, a, g, l, w, s) (er Q) xi xw im le nu rf ln nn vp xn xc vs))) (fun f => rfl) ?_
    refine me_f (C := (nI n0) ≤ (nI j)) (nI_lef (a := n0) (b := j) (by omega)) (fun f => rfl) ?_
    refine me_seg 3 (pc1 := 133) (ls1 := [some (.ref 138), some (.int (nI p)), some (.int (nI n0)), some (.int (nI t)), some (.int (nI x)), some (.long u), none, some (.long v), none, some (.int (nI e)), some (.long w0), none, some (.int (nI j))]) (st1 := [.int (nI j), .int (nI e), .long w0]) (M1 := (mk_M c n m kk (rT (he, ke, ki, fi, fa, or, mi, a, g, l, w, s) (er Q) xi xw im le nu rf ln nn vp xn xc vs))) (fun f => rfl) ?_
    refine me_callE (y := 151) (y0 := 136) (L := [some (.int (nI e)), some (.int (nI j))]) (rest := [.long w0]) (fun f => rfl) (wm_has (nI e) (nI j) _) ?_
    rintro _ _ ⟨⟨b_1, hb_1, rfl⟩, rfl⟩
    refine me_if (C := (nI b_1) = 0) (fun f => rfl) (fun h2 => ?_) (fun h2 => ?_)
    · refine me_seg 10 (pc1 := 158) (ls1 := [some (.ref 138), some (.int (nI p)), some (.int (nI n0)), some (.int (nI t)), some (.int (nI x)), some (.long u), none, some (.long v), none, some (.int (nI e)), some (.long (w0 * (((nI t) - (1 : Int32)).toInt64))), none, some (.int (nI j))]) (st1 := [.int (nI j), .int (nI e), .ref 140]) (M1 := (mk_M c n m kk (rT (he, ke, ki, fi, fa, or, mi, a, g, l, w, s) (er Q) xi xw im le nu rf ln nn vp xn xc vs))) (fun f => rfl) ?_
      refine me_callE (y := 151) (y0 := 161) (L := [some (.int (nI e)), some (.int (nI j))]) (rest := [.ref 140]) (fun f => rfl) (wm_has (nI e) (nI j) _) ?_
      rintro _ _ ⟨⟨b_3, hb_3, rfl⟩, rfl⟩
      refine me_if (C := (nI b_3) = 0) (fun f => rfl) (fun h4 => ?_) (fun h4 => ?_)
      · refine me_seg 1 (pc1 := 169) (ls1 := [some (.ref 138), some (.int (nI p)), some (.int (nI n0)), some (.int (nI t)), some (.int (nI x)), some (.long u), none, some (.long v), none, some (.int (nI e)), some (.long (w0 * (((nI t) - (1 : Int32)).toInt64))), none, some (.int (nI j))]) (st1 := [.int 0, .ref 140]) (M1 := (mk_M c n m kk (rT (he, ke, ki, fi, fa, or, mi, a, g, l, w, s) (er Q) xi xw im le nu rf ln nn vp xn xc vs))) (fun f => rfl) ?_
        refine me_call (y := 146) (y0 := 172) (L := [some (.ref 140), some (.int 0), none, none, none]) (rest := []) (rr := none) (M1 := (mk_M c n m kk (rT (he, ke, ki, fi, fa, or, mi, a, g, l, w, s) (er (kstep Q 0)) xi xw im le nu rf ln nn vp xn xc vs))) (fun f => rfl) (rl_m c n m kk (rT (he, ke, ki, fi, fa, or, mi, a, g, l, w, s) (er Q) xi xw im le nu rf ln nn vp xn xc vs) (rc_stepQ Q 0 (by decide) hQ (Nat.lt_trans (m := 2 ^ 20) (by omega) (by decide))) rfl) ?_
        refine me_seg 1 (pc1 := 175) (ls1 := [some (.ref 138), some (.int (nI p)), some (.int (nI n0)), some (.int (nI t)), some (.int (nI x)), some (.long u), none, some (.long v), none, some (.int (nI e)), some (.long (w0 * (((nI t) - (1 : Int32)).toInt64))), none, some (.int ((nI j) + 1))]) (st1 := []) (M1 := (mk_M c n m kk (rT (he, ke, ki, fi, fa, or, mi, a, g, l, w, s) (er (kstep Q 0)) xi xw im le nu rf ln nn vp xn xc vs))) (fun f => rfl) ?_
        refine me_l (fun q_ => [some (.ref 138), some (.int (nI p)), some (.int (nI n0)), some (.int (nI t)), some (.int (nI x)), some (.long u), none, some (.long v), none, some (.int (nI e)), some (.long (w0 * (((nI t) - (1 : Int32)).toInt64))), none, some (.int q_)]) (nI_add j 1) ?_
        refine me_seg 1 (pc1 := 121) (ls1 := [some (.ref 138), some (.int (nI p)), some (.int (nI n0)), some (.int (nI t)), some (.int (nI x)), some (.long u), none, some (.long v), none, some (.int (nI e)), some (.long (w0 * (((nI t) - (1 : Int32)).toInt64))), none, some (.int (nI (j + 1)))]) (st1 := []) (M1 := (mk_M c n m kk (rT (he, ke, ki, fi, fa, or, mi, a, g, l, w, s) (er (kstep Q 0)) xi xw im le nu rf ln nn vp xn xc vs))) (fun f => rfl) ?_
        exact IH (j + 1) (w0 * (((nI t) - (1 : Int32)).toInt64)) (kstep Q 0) xw vp xn xc vs (by omega) ⟨(er_len (kV_step hQ 0)), (by assumption), (by assumption), (by assumption)⟩ (kV_step hQ 0) (by first | omega | (rw [kst_step]; omega))
      · refine me_seg 2 (pc1 := 169) (ls1 := [some (.ref 138), some (.int (nI p)), some (.int (nI n0)), some (.int (nI t)), some (.int (nI x)), some (.long u), none, some (.long v), none, some (.int (nI e)), some (.long (w0 * (((nI t) - (1 : Int32)).toInt64))), none, some (.int (nI j))]) (st1 := [.int 5, .ref 140]) (M1 := (mk_M c n m kk (rT (he, ke, ki, fi, fa, or, mi, a, g, l, w, s) (er Q) xi xw im le nu rf ln nn vp xn xc vs))) (fun f => rfl) ?_
        refine me_call (y := 146) (y0 := 172) (L := [some (.ref 140), some (.int 5), none, none, none]) (rest := []) (rr := none) (M1 := (mk_M c n m kk (rT (he, ke, ki, fi, fa, or, mi, a, g, l, w, s) (er (kstep Q 5)) xi xw im le nu rf ln nn vp xn xc vs))) (fun f => rfl) (rl_m c n m kk (rT (he, ke, ki, fi, fa, or, mi, a, g, l, w, s) (er Q) xi xw im le nu rf ln nn vp xn xc vs) (rc_stepQ Q 5 (by decide) hQ (Nat.lt_trans (m := 2 ^ 20) (by omega) (by decide))) rfl) ?_
        refine me_seg 1 (pc1 := 175) (ls1 := [some (.ref 138), some (.int (nI p)), some (.int (nI n0)), some (.int (nI t)), some (.int (nI x)), some (.long u), none, some (.long v), none, some (.int (nI e)), some (.long (w0 * (((nI t) - (1 : Int32)).toInt64))), none, some (.int ((nI j) + 1))]) (st1 := []) (M1 := (mk_M c n m kk (rT (he, ke, ki, fi, fa, or, mi, a, g, l, w, s) (er (kstep Q 5)) xi xw im le nu rf ln nn vp xn xc vs))) (fun f => rfl) ?_
        refine me_l (fun q_ => [some (.ref 138), some (.int (nI p)), some (.int (nI n0)), some (.int (nI t)), some (.int (nI x)), some (.long u), none, some (.long v), none, some (.int (nI e)), some (.long (w0 * (((nI t) - (1 : Int32)).toInt64))), none, some (.int q_)]) (nI_add j 1) ?_
        refine me_seg 1 (pc1 := 121) (ls1 := [some (.ref 138), some (.int (nI p)), some (.int (nI n0)), some (.int (nI t)), some (.int (nI x)), some (.long u), none, some (.long v), none, some (.int (nI e)), some (.long (w0 * (((nI t) - (1 : Int32)).toInt64))), none, some (.int (nI (j + 1)))]) (st1 := []) (M1 := (mk_M c n m kk (rT (he, ke, ki, fi, fa, or, mi, a, g, l, w, s) (er (kstep Q 5)) xi xw im le nu rf ln nn vp xn xc vs))) (fun f => rfl) ?_
        exact IH (j + 1) (w0 * (((nI t) - (1 : Int32)).toInt64)) (kstep Q 5) xw vp xn xc vs (by omega) ⟨(er_len (kV_step hQ 5)), (by assumption), (by assumption), (by assumption)⟩ (kV_step hQ 5) (by first | omega | (rw [kst_step]; omega))
    · refine me_seg 8 (pc1 := 158) (ls1 := [some (.ref 138), some (.int (nI p)), some (.int (nI n0)), some (.int (nI t)), some (.int (nI x)), some (.long u), none, some (.long v), none, some (.int (nI e)), some (.long (w0 * 1)), none, some (.int (nI j))]) (st1 := [.int (nI j), .int (nI e), .ref 140]) (M1 := (mk_M c n m kk (rT (he, ke, ki, fi, fa, or, mi, a, g, l, w, s) (er Q) xi xw im le nu rf ln nn vp xn xc vs))) (fun f => rfl) ?_
      refine me_callE (y := 151) (y0 := 161) (L := [some (.int (nI e)), some (.int (nI j))]) (rest := [.ref 140]) (fun f => rfl) (wm_has (nI e) (nI j) _) ?_
      rintro _ _ ⟨⟨b_5, hb_5, rfl⟩, rfl⟩
      refine me_if (C := (nI b_5) = 0) (fun f => rfl) (fun h6 => ?_) (fun h6 => ?_)
      · refine me_seg 1 (pc1 := 169) (ls1 := [some (.ref 138), some (.int (nI p)), some (.int (nI n0)), some (.int (nI t)), some (.int (nI x)), some (.long u), none, some (.long v), none, some (.int (nI e)), some (.long (w0 * 1)), none, some (.int (nI j))]) (st1 := [.int 0, .ref 140]) (M1 := (mk_M c n m kk (rT (he, ke, ki, fi, fa, or, mi, a, g, l, w, s) (er Q) xi xw im le nu rf ln nn vp xn xc vs))) (fun f => rfl) ?_
        refine me_call (y := 146) (y0 := 172) (L := [some (.ref 140), some (.int 0), none, none, none]) (rest := []) (rr := none) (M1 := (mk_M c n m kk (rT (he, ke, ki, fi, fa, or, mi, a, g, l, w, s) (er (kstep Q 0)) xi xw im le nu rf ln nn vp xn xc vs))) (fun f => rfl) (rl_m c n m kk (rT (he, ke, ki, fi, fa, or, mi, a, g, l, w, s) (er Q) xi xw im le nu rf ln nn vp xn xc vs) (rc_stepQ Q 0 (by decide) hQ (Nat.lt_trans (m := 2 ^ 20) (by omega) (by decide))) rfl) ?_
        refine me_seg 1 (pc1 := 175) (ls1 := [some (.ref 138), some (.int (nI p)), some (.int (nI n0)), some (.int (nI t)), some (.int (nI x)), some (.long u), none, some (.long v), none, some (.int (nI e)), some (.long (w0 * 1)), none, some (.int ((nI j) + 1))]) (st1 := []) (M1 := (mk_M c n m kk (rT (he, ke, ki, fi, fa, or, mi, a, g, l, w, s) (er (kstep Q 0)) xi xw im le nu rf ln nn vp xn xc vs))) (fun f => rfl) ?_
        refine me_l (fun q_ => [some (.ref 138), some (.int (nI p)), some (.int (nI n0)), some (.int (nI t)), some (.int (nI x)), some (.long u), none, some (.long v), none, some (.int (nI e)), some (.long (w0 * 1)), none, some (.int q_)]) (nI_add j 1) ?_
        refine me_seg 1 (pc1 := 121) (ls1 := [some (.ref 138), some (.int (nI p)), some (.int (nI n0)), some (.int (nI t)), some (.int (nI x)), some (.long u), none, some (.long v), none, some (.int (nI e)), some (.long (w0 * 1)), none, some (.int (nI (j + 1)))]) (st1 := []) (M1 := (mk_M c n m kk (rT (he, ke, ki, fi, fa, or, mi, a, g, l, w, s) (er (kstep Q 0)) xi xw im le nu rf ln nn vp xn xc vs))) (fun f => rfl) ?_
        exact IH (j + 1) (w0 * 1) (kstep Q 0) xw vp xn xc vs (by omega) ⟨(er_len (kV_step hQ 0)), (by assumption), (by assumption), (by assumption)⟩ (kV_step hQ 0) (by first | omega | (rw [kst_step]; omega))
      · refine me_seg 2 (pc1 := 169) (ls1 := [some (.ref 138), some (.int (nI p)), some (.int (nI n0)), some (.int (nI t)), some (.int (nI x)), some (.long u), none, some (.long v), none, some (.int (nI e)), some (.long (w0 * 1)), none, some (.int (nI j))]) (st1 := [.int 5, .ref 140]) (M1 := (mk_M c n m kk (rT (he, ke, ki, fi, fa, or, mi, a, g, l, w, s) (er Q) xi xw im le nu rf ln nn vp xn xc vs))) (fun f => rfl) ?_
        refine me_call (y := 146) (y0 := 172) (L := [some (.ref 140), some (.int 5), none, none, none]) (rest := []) (rr := none) (M1 := (mk_M c n m kk (rT (he, ke, ki, fi, fa, or, mi, a, g, l, w, s) (er (kstep Q 5)) xi xw im le nu rf ln nn vp xn xc vs))) (fun f => rfl) (rl_m c n m kk (rT (he, ke, ki, fi, fa, or, mi, a, g, l, w, s) (er Q) xi xw im le nu rf ln nn vp xn xc vs) (rc_stepQ Q 5 (by decide) hQ (Nat.lt_trans (m := 2 ^ 20) (by omega) (by decide))) rfl) ?_
        refine me_seg 1 (pc1 := 175) (ls1 := [some (.ref 138), some (.int (nI p)), some (.int (nI n0)), some (.int (nI t)), some (.int (nI x)), some (.long u), none, some (.long v), none, some (.int (nI e)), some (.long (w0 * 1)), none, some (.int ((nI j) + 1))]) (st1 := []) (M1 := (mk_M c n m kk (rT (he, ke, ki, fi, fa, or, mi, a, g, l, w, s) (er (kstep Q 5)) xi xw im le nu rf ln nn vp xn xc vs))) (fun f => rfl) ?_
        refine me_l (fun q_ => [some (.ref 138), some (.int (nI p)), some (.int (nI n0)), some (.int (nI t)), some (.int (nI x)), some (.long u), none, some (.long v), none, some (.int (nI e)), some (.long (w0 * 1)), none, some (.int q_)]) (nI_add j 1) ?_
        refine me_seg 1 (pc1 := 121) (ls1 := [some (.ref 138), some (.int (nI p)), some (.int (nI n0)), some (.int (nI t)), some (.int (nI x)), some (.long u), none, some (.long v), none, some (.int (nI e)), some (.long (w0 * 1)), none, some (.int (nI (j + 1)))]) (st1 := []) (M1 := (mk_M c n m kk (rT (he, ke, ki, fi, fa, or, mi, a, g, l, w, s) (er (kstep Q 5)) xi xw im le nu rf ln nn vp xn xc vs))) (fun f => rfl) ?_
        exact IH (j + 1) (w0 * 1) (kstep Q 5) xw vp xn xc vs (by omega) ⟨(er_len (kV_step hQ 5)), (by assumption), (by assumption), (by assumption)⟩ (kV_step hQ 5) (by first | omega | (rw [kst_step]; omega))
set_option maxRecDepth 100000 in
theorem wm_pl96 (he ke ki fi fa or : List Nat) (mi a g l w s : Nat) (xi : List Int32) (im : Nat) (le nu rf : List Nat) (ln nn : Nat) (c : cC) (n m kk : kG) (hA : iA (he, ke, ki, fi, fa, or, mi, a, g, l, w, s)) (hC : iC nu nn) (p n0 t x : Nat) (hp : p < 25) (hn : n0 ≤ 7) (ht1 : 2 ≤ t) (ht : t ≤ 20) (hx : x < 2) (v : Int64) (k : Nat) : ∀ (j : Nat) (u : Int64) (lo10 : Option Value) (lo12 : Option Value) (xm xw : List Int32) (vp : Int32) (xn xc : List Int32) (vs : Int32), ((1 : Int32) <<< ((nI n0) &&& 31)).toInt ≤ (j : Int) + (k : Int) → j < 2 ^ 31 → iR xm xw xn xc → mm_E 197 96 [some (.ref 138), some (.int (nI p)), some (.int (nI n0)), some (.int (nI t)), some (.int (nI x)), some (.long u), none, some (.long v), none, some (.int (nI j)), lo10, none, lo12] [] (mk_M c n m kk (rT (he, ke, ki, fi, fa, or, mi, a, g, l, w, s) xm xi xw im le nu rf ln nn vp xn xc vs)) (pM isL (he, ke, ki, fi, fa, or, mi, a, g, l, w, s) xi im le nu rf ln nn c n m kk) := by
  obtain ⟨hV, hst⟩ := id hA
  have hst2 : s ≤ 999 := hst
  obtain ⟨v1, v2, v3, v4, v5, v6, v7, v8, v9, v10, v11, v12, v13, v14, v15, v16⟩ := id hV
  have v6l := kO_len mi v7 or v6
  obtain ⟨c1, c2, c3⟩ := id hC
  induction k with
  | zero =>
    intro j u lo10 lo12 xm xw vp xn xc vs hj hj2 hR
    obtain ⟨r1, r2, r3, r4⟩ := id hR
    refine me_seg 4 (pc1 := 101) (ls1 := [some (.ref 138), some (.int (nI p)), some (.int (nI n0)), some (.int (nI t)), some (.int (nI x)), some (.long u), none, some (.long v), none, some (.int (nI j)), lo10, none, lo12]) (st1 := [.int ((1 : Int32) <<< ((nI n0) &&& 31)), .int (nI j)]) (M1 := (mk_M c n m kk (rT (he, ke, ki, fi, fa, or, mi, a, g, l, w, s) xm xi xw im le nu rf ln nn vp xn xc vs))) (fun f => rfl) ?_
    refine me_t (C := ((1 : Int32) <<< ((nI n0) &&& 31)) ≤ (nI j)) (k_rawle (by omega) (by omega)) (fun f => rfl) ?_
    refine me_seg 3 (pc1 := 211) (ls1 := [some (.ref 138), some (.int (nI p)), some (.int (nI n0)), some (.int (nI t)), some (.int (nI x)), some (.long u), none, some (.long v), none, some (.int (nI j)), lo10, none, lo12]) (st1 := [.int (nI x), .long v, .long u]) (M1 := (mk_M c n m kk (rT (he, ke, ki, fi, fa, or, mi, a, g, l, w, s) xm xi xw im le nu rf ln nn vp xn xc vs))) (fun f => rfl) ?_
    refine me_callE (y := 199) (y0 := 214) (L := [some (.long u), none, some (.long v), none, some (.int (nI x))]) (rest := []) (fun f => rfl) (wm_po u v (nI x) _) ?_
    rintro _ _ ⟨⟨w_1, rfl⟩, rfl⟩
    refine me_ret 1 (r := some (.long w_1)) (M1 := (mk_M c n m kk (rT (he, ke, ki, fi, fa, or, mi, a, g, l, w, s) xm xi xw im le nu rf ln nn vp xn xc vs))) (fun f => rfl) ?_
    exact ⟨⟨_, rfl⟩, _, _, _, _, _, _, rfl, ⟨(by assumption), (by assumption), (by assumption), (by assumption)⟩⟩
  | succ k IH =>
    intro j u lo10 lo12 xm xw vp xn xc vs hj hj2 hR
    obtain ⟨r1, r2, r3, r4⟩ := id hR
    refine me_seg 4 (pc1 := 101) (ls1 := [some (.ref 138), some (.int (nI p)), some (.int (nI n0)), some (.int (nI t)), some (.int (nI x)), some (.long u), none, some (.long v), none, some (.int (nI j)), lo10, none, lo12]) (st1 := [.int ((1 : Int32) <<< ((nI n0) &&& 31)), .int (nI j)]) (M1 := (mk_M c n m kk (rT (he, ke, ki, fi, fa, or, mi, a, g, l, w, s) xm xi xw im le nu rf ln nn vp xn xc vs))) (fun f => rfl) ?_
    refine me_if (C := ((1 : Int32) <<< ((nI n0) &&& 31)) ≤ (nI j)) (fun f => rfl) (fun h1 => ?_) (fun h1 => ?_)
    · refine me_seg 3 (pc1 := 211) (ls1 := [some (.ref 138), some (.int (nI p)), some (.int (nI n0)), some (.int (nI t)), some (.int (nI x)), some (.long u), none, some (.long v), none, some (.int (nI j)), lo10, none, lo12]) (st1 := [.int (nI x), .long v, .long u]) (M1 := (mk_M c n m kk (rT (he, ke, ki, fi, fa, or, mi, a, g, l, w, s) xm xi xw im le nu rf ln nn vp xn xc vs))) (fun f => rfl) ?_
      refine me_callE (y := 199) (y0 := 214) (L := [some (.long u), none, some (.long v), none, some (.int (nI x))]) (rest := []) (fun f => rfl) (wm_po u v (nI x) _) ?_
      rintro _ _ ⟨⟨w_2, rfl⟩, rfl⟩
      refine me_ret 1 (r := some (.long w_2)) (M1 := (mk_M c n m kk (rT (he, ke, ki, fi, fa, or, mi, a, g, l, w, s) xm xi xw im le nu rf ln nn vp xn xc vs))) (fun f => rfl) ?_
      exact ⟨⟨_, rfl⟩, _, _, _, _, _, _, rfl, ⟨(by assumption), (by assumption), (by assumption), (by assumption)⟩⟩
    · refine me_seg 6 (pc1 := 115) (ls1 := [some (.ref 138), some (.int (nI p)), some (.int (nI n0)), some (.int (nI t)), some (.int (nI x)), some (.long u), none, some (.long v), none, some (.int (nI j)), some (.long 1), none, lo12]) (st1 := [.ref 140, .ref 139]) (M1 := (mk_M c n m kk (rT (he, ke, ki, fi, fa, or, mi, a, g, l, w, s) xm xi xw im le nu rf ln nn vp xn xc vs))) (fun f => rfl) ?_
      refine me_call (y := 138) (y0 := 118) (L := [some (.ref 139), some (.ref 140), none]) (rest := []) (rr := none) (M1 := (mk_M c n m kk (rT (he, ke, ki, fi, fa, or, mi, a, g, l, w, s) (er (he, ke, ki, fi, fa, or, mi, a, g, l, w, s)) xi xw im le nu rf ln nn vp xn xc vs))) (fun f => rfl) (rc_copies (a := 140) (b := 139) (by decide) rfl rfl (er_len hV) (by assumption)) ?_
      refine me_seg 2 (pc1 := 121) (ls1 := [some (.ref 138), some (.int (nI p)), some (.int (nI n0)), some (.int (nI t)), some (.int (nI x)), some (.long u), none, some (.long v), none, some (.int (nI j)), some (.long 1), none, some (.int 0)]) (st1 := []) (M1 := (mk_M c n m kk (rT (he, ke, ki, fi, fa, or, mi, a, g, l, w, s) (er (he, ke, ki, fi, fa, or, mi, a, g, l, w, s)) xi xw im le nu rf ln nn vp xn xc vs))) (fun f => rfl) ?_
      have hlt := k_rawlt (by omega) h1
      have hlx := Int32.toInt_lt ((1 : Int32) <<< ((nI n0) &&& 31))
      exact wm_pl121 he ke ki fi fa or mi a g l w s xi im le nu rf ln nn c n m kk hA hC p n0 t x hp hn ht1 ht hx u v j (by omega) (fun u lo10 lo12 xm xw vp xn xc vs hR => IH (j + 1) u lo10 lo12 xm xw vp xn xc vs (by omega) (by omega) hR) n0 0 1 (he, ke, ki, fi, fa, or, mi, a, g, l, w, s) xw vp xn xc vs (by omega) ⟨(er_len hV), (by assumption), (by assumption), (by assumption)⟩ hV (show s + n0 < 2 ^ 20 by omega)
set_option maxRecDepth 100000 in
theorem wm_pl74 (he ke ki fi fa or : List Nat) (mi a g l w s : Nat) (xi : List Int32) (im : Nat) (le nu rf : List Nat) (ln nn : Nat) (c : cC) (n m kk : kG) (hA : iA (he, ke, ki, fi, fa, or, mi, a, g, l, w, s)) (hC : iC nu nn) (p n0 t x : Nat) (hp : p < 25) (hn : n0 ≤ 7) (ht1 : 2 ≤ t) (ht : t ≤ 20) (hx : x < 2) (k : Nat) : ∀ (j : Nat) (v : Int64) (xm xw : List Int32) (vp : Int32) (xn xc : List Int32) (vs : Int32), j + k = n0 → iR xm xw xn xc → mm_E 197 74 [some (.ref 138), some (.int (nI p)), some (.int (nI n0)), some (.int (nI t)), some (.int (nI x)), some (.long 0), none, some (.long v), none, some (.int (nI j)), none, none, none] [] (mk_M c n m kk (rT (he, ke, ki, fi, fa, or, mi, a, g, l, w, s) xm xi xw im le nu rf ln nn vp xn xc vs)) (pM isL (he, ke, ki, fi, fa, or, mi, a, g, l, w, s) xi im le nu rf ln nn c n m kk) := by
  obtain ⟨hV, hst⟩ := id hA
  have hst2 : s ≤ 999 := hst
  obtain ⟨v1, v2, v3, v4, v5, v6, v7, v8, v9, v10, v11, v12, v13, v14, v15, v16⟩ := id hV
  have v6l := kO_len mi v7 or v6
  obtain ⟨c1, c2, c3⟩ := id hC
  induction k with
  | zero =>
    intro j v xm xw vp xn xc vs hj hR
    obtain ⟨r1, r2, r3, r4⟩ := id hR
    refine me_seg 2 (pc1 := 77) (ls1 := [some (.ref 138), some (.int (nI p)), some (.int (nI n0)), some (.int (nI t)), some (.int (nI x)), some (.long 0), none, some (.long v), none, some (.int (nI j)), none, none, none]) (st1 := [.int (nI n0), .int (nI j)]) (M1 := (mk_M c n m kk (rT (he, ke, ki, fi, fa, or, mi, a, g, l, w, s) xm xi xw im le nu rf ln nn vp xn xc vs))) (fun f => rfl) ?_
    refine me_t (C := (nI n0) ≤ (nI j)) (nI_let (a := n0) (b := j) (by omega)) (fun f => rfl) ?_
    refine me_seg 2 (pc1 := 96) (ls1 := [some (.ref 138), some (.int (nI p)), some (.int (nI n0)), some (.int (nI t)), some (.int (nI x)), some (.long 0), none, some (.long v), none, some (.int 0), none, none, none]) (st1 := []) (M1 := (mk_M c n m kk (rT (he, ke, ki, fi, fa, or, mi, a, g, l, w, s) xm xi xw im le nu rf ln nn vp xn xc vs))) (fun f => rfl) ?_
    exact wm_pl96 he ke ki fi fa or mi a g l w s xi im le nu rf ln nn c n m kk hA hC p n0 t x hp hn ht1 ht hx v ((1 : Int32) <<< ((nI n0) &&& 31)).toInt.toNat 0 0 none none xm xw vp xn xc vs (by omega) (by omega) ⟨(by assumption), (by assumption), (by assumption), (by assumption)⟩
  | succ k IH =>
    intro j v xm xw vp xn xc vs hj hR
    obtain ⟨r1, r2, r3, r4⟩ := id hR
    refine me_seg 2 (pc1 := 77) (ls1 := [some (.ref 138), some (.int (nI p)), some (.int (nI n0)), some (.int (nI t)), some (.int (nI x)), some (.long 0), none, some (.long v), none, some (.int (nI j)), none, none, none]) (st1 := [.int (nI n0), .int (nI j)]) (M1 := (mk_M c n m kk (rT (he, ke, ki, fi, fa, or, mi, a, g, l, w, s) xm xi xw im le nu rf ln nn vp xn xc vs))) (fun f => rfl) ?_
    refine me_f (C := (nI n0) ≤ (nI j)) (nI_lef (a := n0) (b := j) (by omega)) (fun f => rfl) ?_
    refine me_seg 6 (pc1 := 90) (ls1 := [some (.ref 138), some (.int (nI p)), some (.int (nI n0)), some (.int (nI t)), some (.int (nI x)), some (.long 0), none, some (.long (v * ((nI t).toInt64))), none, some (.int ((nI j) + 1)), none, none, none]) (st1 := []) (M1 := (mk_M c n m kk (rT (he, ke, ki, fi, fa, or, mi, a, g, l, w, s) xm xi xw im le nu rf ln nn vp xn xc vs))) (fun f => rfl) ?_
    refine me_l (fun q_ => [some (.ref 138), some (.int (nI p)), some (.int (nI n0)), some (.int (nI t)), some (.int (nI x)), some (.long 0), none, some (.long (v * ((nI t).toInt64))), none, some (.int q_), none, none, none]) (nI_add j 1) ?_
    refine me_seg 1 (pc1 := 74) (ls1 := [some (.ref 138), some (.int (nI p)), some (.int (nI n0)), some (.int (nI t)), some (.int (nI x)), some (.long 0), none, some (.long (v * ((nI t).toInt64))), none, some (.int (nI (j + 1))), none, none, none]) (st1 := []) (M1 := (mk_M c n m kk (rT (he, ke, ki, fi, fa, or, mi, a, g, l, w, s) xm xi xw im le nu rf ln nn vp xn xc vs))) (fun f => rfl) ?_
    exact IH (j + 1) (v * ((nI t).toInt64)) xm xw vp xn xc vs (by omega) ⟨(by assumption), (by assumption), (by assumption), (by assumption)⟩
set_option maxRecDepth 100000 in
theorem wm_plank (he ke ki fi fa or : List Nat) (mi a g l w s : Nat) (xi : List Int32) (im : Nat) (le nu rf : List Nat) (ln nn : Nat) (c : cC) (n m kk : kG) (hA : iA (he, ke, ki, fi, fa, or, mi, a, g, l, w, s)) (hC : iC nu nn) (xm xw : List Int32) (vp : Int32) (xn xc : List Int32) (vs : Int32) (hR : iR xm xw xn xc) (p n0 t x : Nat) (hp : p < 25) (hn : n0 ≤ 7) (ht1 : 2 ≤ t) (ht : t ≤ 20) (hx : x < 2) : mm_E 197 0 [some (.ref 138), some (.int (nI p)), some (.int (nI n0)), some (.int (nI t)), some (.int (nI x)), none, none, none, none, none, none, none, none] [] (mk_M c n m kk (rT (he, ke, ki, fi, fa, or, mi, a, g, l, w, s) xm xi xw im le nu rf ln nn vp xn xc vs)) (pM isL (he, ke, ki, fi, fa, or, mi, a, g, l, w, s) xi im le nu rf ln nn c n m kk) := by
  obtain ⟨hV, hst⟩ := id hA
  have hst2 : s ≤ 999 := hst
  obtain ⟨v1, v2, v3, v4, v5, v6, v7, v8, v9, v10, v11, v12, v13, v14, v15, v16⟩ := id hV
  have v6l := kO_len mi v7 or v6
  obtain ⟨c1, c2, c3⟩ := id hC
  obtain ⟨r1, r2, r3, r4⟩ := id hR
  refine me_seg 1 (pc1 := 1) (ls1 := [some (.ref 138), some (.int (nI p)), some (.int (nI n0)), some (.int (nI t)), some (.int (nI x)), none, none, none, none, none, none, none, none]) (st1 := [.int (nI p)]) (M1 := (mk_M c n m kk (rT (he, ke, ki, fi, fa, or, mi, a, g, l, w, s) xm xi xw im le nu rf ln nn vp xn xc vs))) (fun f => rfl) ?_
  refine me_call (y := 140) (y0 := 4) (L := [some (.int (nI p))]) (rest := []) (rr := some (.int 1)) (M1 := (mk_M c n m kk (rT (he, ke, ki, fi, fa, or, mi, a, g, l, w, s) xm xi xw im le nu rf ln nn vp xn xc vs))) (fun f => rfl) (ms_c2_ok (x := (nI p)) (nI_ltf (a := p) (b := 0) (by omega)) (nI_ltf (a := 24) (b := p) (by omega))) ?_
  refine me_seg 2 (pc1 := 14) (ls1 := [some (.ref 138), some (.int (nI p)), some (.int (nI n0)), some (.int (nI t)), some (.int (nI x)), none, none, none, none, none, none, none, none]) (st1 := [.int (nI n0)]) (M1 := (mk_M c n m kk (rT (he, ke, ki, fi, fa, or, mi, a, g, l, w, s) xm xi xw im le nu rf ln nn vp xn xc vs))) (fun f => rfl) ?_
  refine me_f (C := (nI n0) < 0) (nI_ltf (a := n0) (b := 0) (by omega)) (fun f => rfl) ?_
  refine me_seg 2 (pc1 := 19) (ls1 := [some (.ref 138), some (.int (nI p)), some (.int (nI n0)), some (.int (nI t)), some (.int (nI x)), none, none, none, none, none, none, none, none]) (st1 := [.int 2, .int (nI t)]) (M1 := (mk_M c n m kk (rT (he, ke, ki, fi, fa, or, mi, a, g, l, w, s) xm xi xw im le nu rf ln nn vp xn xc vs))) (fun f => rfl) ?_
  refine me_t (C := 2 ≤ (nI t)) (nI_let (a := 2) (b := t) (by omega)) (fun f => rfl) ?_
  refine me_seg 2 (pc1 := 32) (ls1 := [some (.ref 138), some (.int (nI p)), some (.int (nI n0)), some (.int (nI t)), some (.int (nI x)), none, none, none, none, none, none, none, none]) (st1 := [.int 7, .int (nI n0)]) (M1 := (mk_M c n m kk (rT (he, ke, ki, fi, fa, or, mi, a, g, l, w, s) xm xi xw im le nu rf ln nn vp xn xc vs))) (fun f => rfl) ?_
  refine me_f (C := 7 < (nI n0)) (nI_ltf (a := 7) (b := n0) (by omega)) (fun f => rfl) ?_
  refine me_seg 2 (pc1 := 38) (ls1 := [some (.ref 138), some (.int (nI p)), some (.int (nI n0)), some (.int (nI t)), some (.int (nI x)), none, none, none, none, none, none, none, none]) (st1 := [.int 20, .int (nI t)]) (M1 := (mk_M c n m kk (rT (he, ke, ki, fi, fa, or, mi, a, g, l, w, s) xm xi xw im le nu rf ln nn vp xn xc vs))) (fun f => rfl) ?_
  refine me_t (C := (nI t) ≤ 20) (nI_let (a := t) (b := 20) (by omega)) (fun f => rfl) ?_
  refine me_seg 3 (pc1 := 52) (ls1 := [some (.ref 138), some (.int (nI p)), some (.int (nI n0)), some (.int (nI t)), some (.int (nI x)), none, none, none, none, none, none, none, none]) (st1 := [.int 1, .int 0, .int (nI x)]) (M1 := (mk_M c n m kk (rT (he, ke, ki, fi, fa, or, mi, a, g, l, w, s) xm xi xw im le nu rf ln nn vp xn xc vs))) (fun f => rfl) ?_
  refine me_call (y := 135) (y0 := 55) (L := [some (.int (nI x)), some (.int 0), some (.int 1)]) (rest := []) (rr := some (.int 1)) (M1 := (mk_M c n m kk (rT (he, ke, ki, fi, fa, or, mi, a, g, l, w, s) xm xi xw im le nu rf ln nn vp xn xc vs))) (fun f => rfl) (ms_in_ok (x := (nI x)) (a := 0) (b := 1) (nI_ltf (a := x) (b := 0) (by omega)) (nI_ltf (a := 1) (b := x) (by omega))) ?_
  refine me_seg 7 (pc1 := 74) (ls1 := [some (.ref 138), some (.int (nI p)), some (.int (nI n0)), some (.int (nI t)), some (.int (nI x)), some (.long 0), none, some (.long 1), none, some (.int 0), none, none, none]) (st1 := []) (M1 := (mk_M c n m kk (rT (he, ke, ki, fi, fa, or, mi, a, g, l, w, s) xm xi xw im le nu rf ln nn vp xn xc vs))) (fun f => rfl) ?_
  exact wm_pl74 he ke ki fi fa or mi a g l w s xi im le nu rf ln nn c n m kk hA hC p n0 t x hp hn ht1 ht hx n0 0 1 xm xw vp xn xc vs (by omega) ⟨(by assumption), (by assumption), (by assumption), (by assumption)⟩
