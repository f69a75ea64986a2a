/-! ===== every call, for every argument ===== -/
def oW (zc zm : Nat) (lc lm : mm_L) (M : mm_H) : Prop := ∃ (w1 w2 : Int32) (M1 M2 : mm_H), mm_R zc 0 lc [] M (some (.int w1), M1) ∧ mm_R zm 0 lm [] M1 (some (.int w2), M2) ∧ kInv M2
def oX (zc zm : Nat) (lc lm : mm_L) (M : mm_H) : Prop := ∃ (w1 w2 : Int64) (M1 M2 : mm_H), mm_R zc 0 lc [] M (some (.long w1), M1) ∧ mm_R zm 0 lm [] M1 (some (.long w2), M2) ∧ kInv M2
theorem oI.w {zc zm : Nat} {lc lm : mm_L} {M : mm_H} (h : oI zc zm lc lm M) : oW zc zm lc lm M := by
  obtain ⟨w, M1, M2, a, b, c⟩ := h
  exact ⟨w, w, M1, M2, a, b, c⟩
theorem oL.w {zc zm : Nat} {lc lm : mm_L} {M : mm_H} (h : oL zc zm lc lm M) : oX zc zm lc lm M := by
  obtain ⟨w, M1, M2, a, b, c⟩ := h
  exact ⟨w, w, M1, M2, a, b, c⟩
theorem k_in {x : Int32} (n : Nat) (h0 : 0 ≤ x.toInt) (h1 : x.toInt < (n : Int)) : ∃ k, k < n ∧ x = nI k := by
  refine ⟨x.toInt.toNat, by omega, ?_⟩
  apply Int32.toInt_inj.mp
  have h2 := Int32.toInt_lt x
  rw [nI_toInt (by omega)]
  omega
theorem k_cs (x : Int32) (n : Nat) (lo hi : Int) (hlo : lo = 0) (hn : (n : Int) = hi + 1) : x.toInt ≤ -1 ∨ hi + 1 ≤ x.toInt ∨ ∃ k, k < n ∧ x = nI k := by
  by_cases h : x.toInt < 0
  · exact Or.inl (by omega)
  · by_cases h2 : hi < x.toInt
    · exact Or.inr (Or.inl (by omega))
    · exact Or.inr (Or.inr (k_in n (by omega) (by omega)))
theorem k_ms (x : Int32) {mi : Nat} (hm : mi ≤ 5) : x.toInt ≤ -1 ∨ nI mi ≤ x ∨ ∃ p, p < mi ∧ x = nI p := by
  by_cases h : x.toInt < 0
  · exact Or.inl (by omega)
  · by_cases h2 : (mi : Int) ≤ x.toInt
    · exact Or.inr (Or.inl (by rw [Int32.le_iff_toInt_le, nI_toInt (by omega)]; exact h2))
    · exact Or.inr (Or.inr (k_in mi (by omega) (by omega)))
theorem oW_of {K : kK} {m kk : kG} {im : Nat} {le : List Nat} {ln : Nat} {ys : List Int32} {vt : Int32} {nu : List Nat} {nn : Nat} {rf : List Nat} {vw vq : Int32} {yc yh yg xm xi xw : List Int32} {vp : Int32} {xn xc : List Int32} {vs : Int32} {nn2 : Nat} (hA : iA K) (hB : iB le ln) (hC2 : iC nu nn2) (hD : iD rf) (hK : iK im kk xi) {zc zm : Nat} {lc lm : mm_L}
    (h1 : mm_E zc 0 lc [] (mk_M (cT im le ln ys vt nu nn rf vw vq yc yh yg) (kr K) m kk (rT K xm xi xw im le nu rf ln nn vp xn xc vs)) (pC isI K im le ln ys vt nu nn2 rf kk (rT K xm xi xw im le nu rf ln nn vp xn xc vs)))
    (h2 : ∀ (c : cC) (n m kk : kG), mm_E zm 0 lm [] (mk_M c n m kk (rT K xm xi xw im le nu rf ln nn vp xn xc vs)) (pM isI K xi im le nu rf ln nn2 c n m kk)) : oW zc zm lc lm (mk_M (cT im le ln ys vt nu nn rf vw vq yc yh yg) (kr K) m kk (rT K xm xi xw im le nu rf ln nn vp xn xc vs)) := by
  obtain ⟨_, _, r1, ⟨w1, rfl⟩, vw2, vq2, yc2, yh2, yg2, m2, rfl, hJ2⟩ := h1
  obtain ⟨_, _, r2, ⟨w2, rfl⟩, xm2, xw2, vp2, xn2, xc2, vs2, rfl, hR2⟩ := h2 (cT im le ln ys vt nu nn2 rf vw2 vq2 yc2 yh2 yg2) (kr K) m2 kk
  exact ⟨w1, w2, _, _, r1, r2, K, m2, kk, im, le, ln, ys, vt, nu, nn2, rf, vw2, vq2, yc2, yh2, yg2, xm2, xi, xw2, vp2, xn2, xc2, vs2, rfl, hA, hB, hC2, hD, hJ2, hR2, hK⟩
theorem oX_of {K : kK} {m kk : kG} {im : Nat} {le : List Nat} {ln : Nat} {ys : List Int32} {vt : Int32} {nu : List Nat} {nn : Nat} {rf : List Nat} {vw vq : Int32} {yc yh yg xm xi xw : List Int32} {vp : Int32} {xn xc : List Int32} {vs : Int32} (hA : iA K) (hB : iB le ln) (hC : iC nu nn) (hD : iD rf) (hK : iK im kk xi) {zc zm : Nat} {lc lm : mm_L}
    (h1 : mm_E zc 0 lc [] (mk_M (cT im le ln ys vt nu nn rf vw vq yc yh yg) (kr K) m kk (rT K xm xi xw im le nu rf ln nn vp xn xc vs)) (pC isL K im le ln ys vt nu nn rf kk (rT K xm xi xw im le nu rf ln nn vp xn xc vs)))
    (h2 : ∀ (c : cC) (n m kk : kG), mm_E zm 0 lm [] (mk_M c n m kk (rT K xm xi xw im le nu rf ln nn vp xn xc vs)) (pM isL K xi im le nu rf ln nn c n m kk)) : oX zc zm lc lm (mk_M (cT im le ln ys vt nu nn rf vw vq yc yh yg) (kr K) m kk (rT K xm xi xw im le nu rf ln nn vp xn xc vs)) := by
  obtain ⟨_, _, r1, ⟨w1, rfl⟩, vw2, vq2, yc2, yh2, yg2, m2, rfl, hJ2⟩ := h1
  obtain ⟨_, _, r2, ⟨w2, rfl⟩, xm2, xw2, vp2, xn2, xc2, vs2, rfl, hR2⟩ := h2 (cT im le ln ys vt nu nn rf vw2 vq2 yc2 yh2 yg2) (kr K) m2 kk
  exact ⟨w1, w2, _, _, r1, r2, K, m2, kk, im, le, ln, ys, vt, nu, nn, rf, vw2, vq2, yc2, yh2, yg2, xm2, xi, xw2, vp2, xn2, xc2, vs2, rfl, hA, hB, hC, hD, hJ2, hR2, hK⟩
theorem k_gem2 {mi : Nat} {x : Int32} (hm : mi ≤ 5) (h : nI mi ≤ x) (h0 : 0 < mi) : nI (mi - 1) < x := by
  have h1 := k_gem hm h
  rw [show (nI mi - 1 : Int32) = nI (mi - 1) from pk_sub (a := mi) (b := 1) (by omega)] at h1
  exact h1
set_option maxRecDepth 100000 in
theorem oc_down_0 (he ke ki fi fa or : List Nat) (mi a g l w s : Nat) (im : Nat) (le : List Nat) (ln : Nat) (ys : List Int32) (vt : Int32) (nu : List Nat) (nn : Nat) (rf : List Nat) (vw vq : Int32) (yc yh yg : List Int32) (m kk : kG) (q : cR) (hA : iA (he, ke, ki, fi, fa, or, mi, a, g, l, w, s)) (hB : iB le ln) (hC : iC nu nn) (hD : iD rf) (hJ : iJ m ys yc yh yg) (k0 : kSh kk) (x : Int32) (hxu : x.toInt ≤ -2) : mm_R 81 0 [some (.ref 100), some (.int x), none] [] (mk_M (cT im le ln ys vt nu nn rf vw vq yc yh yg) (kr (he, ke, ki, fi, fa, or, mi, a, g, l, w, s)) m kk q) (some (.int (-1)), (mk_M (cT im le ln ys vt nu nn (rf.set 1 (kg rf 1 + 1)) vw vq yc yh yg) (kr (he, ke, ki, fi, fa, or, mi, a, g, l, w, s)) m kk q)) := by
  obtain ⟨hV, hst⟩ := id hA
  have hst2 : s ≤ 999 := hst
  obtain ⟨v1, v2, v3, v4, v5, v6, v7, v8, v9, v10, v11, v12, v13, v14, v15, v16⟩ := id hV
  have v6l := kO_len mi v7 or v6
  obtain ⟨b1, b2, b3⟩ := id hB
  obtain ⟨c1, c2, c3⟩ := id hC
  have d1 : rf.length = 7 := hD
  obtain ⟨j0, j1, j2, j3, j4⟩ := id hJ
  refine mr_seg 2 (pc1 := 2) (ls1 := [some (.ref 100), some (.int x), none]) (st1 := [.int (-1), .int x]) (M1 := (mk_M (cT im le ln ys vt nu nn rf vw vq yc yh yg) (kr (he, ke, ki, fi, fa, or, mi, a, g, l, w, s)) m kk q)) (fun f => rfl) ?_
  refine mr_f (C := x = (-1)) (mz_eq_f (-1) (by decide) (by omega)) (fun f => rfl) ?_
  refine mr_seg 2 (pc1 := 59) (ls1 := [some (.ref 100), some (.int x), none]) (st1 := [.int x, .ref 100]) (M1 := (mk_M (cT im le ln ys vt nu nn rf vw vq yc yh yg) (kr (he, ke, ki, fi, fa, or, mi, a, g, l, w, s)) m kk q)) (fun f => rfl) ?_
  refine mr_call (y := 61) (y0 := 62) (L := [some (.ref 100), some (.int x)]) (rest := []) (rr := some (.int 0)) (M1 := (mk_M (cT im le ln ys vt nu nn rf vw vq yc yh yg) (kr (he, ke, ki, fi, fa, or, mi, a, g, l, w, s)) m kk q)) (fun f => rfl) (by
      refine mr_seg 1 (pc1 := 1) (ls1 := [some (.ref 100), some (.int x)]) (st1 := [.int x]) (M1 := (mk_M (cT im le ln ys vt nu nn rf vw vq yc yh yg) (kr (he, ke, ki, fi, fa, or, mi, a, g, l, w, s)) m kk q)) (fun f => rfl) ?_
      refine mr_t (C := x < 0) (mz_lt_t 0 (by decide) (by omega)) (fun f => rfl) ?_
      exact mr_ret 2 (fun f => rfl)) ?_
  refine mr_seg 3 (pc1 := 67) (ls1 := [some (.ref 100), some (.int x), none]) (st1 := [.int (-1), .ref 100]) (M1 := (mk_M (cT im le ln ys vt nu nn rf vw vq yc yh yg) (kr (he, ke, ki, fi, fa, or, mi, a, g, l, w, s)) m kk q)) (fun f => rfl) ?_
  refine mr_call (y := 12) (y0 := 70) (L := [some (.ref 100), some (.int (-1))]) (rest := []) (rr := some (.int (-1))) (M1 := (mk_M (cT im le ln ys vt nu nn (rf.set 1 (kg rf 1 + 1)) vw vq yc yh yg) (kr (he, ke, ki, fi, fa, or, mi, a, g, l, w, s)) m kk q)) (fun f => rfl) (by
      refine mr_seg 5 (pc1 := 7) (ls1 := [some (.ref 100), some (.int (-1))]) (st1 := [.int 1, .ref 105, .int 1, .ref 105]) (M1 := (mk_M (cT im le ln ys vt nu nn rf vw vq yc yh yg) (kr (he, ke, ki, fi, fa, or, mi, a, g, l, w, s)) m kk q)) (fun f => rfl) ?_
      refine mr_ldn (xs := (rf.map nI)) rfl rfl (k := 1) (by omega) (kg_ok (by omega)) ?_
      refine mr_seg 2 (pc1 := 10) (ls1 := [some (.ref 100), some (.int (-1))]) (st1 := [.int ((nI (kg rf 1)) + 1), .int 1, .ref 105]) (M1 := (mk_M (cT im le ln ys vt nu nn rf vw vq yc yh yg) (kr (he, ke, ki, fi, fa, or, mi, a, g, l, w, s)) m kk q)) (fun f => rfl) ?_
      refine mr_v (nI_add (kg rf 1) 1) ?_
      refine mr_stn (xs := (rf.map nI)) (ys := ((rf.set 1 (kg rf 1 + 1)).map nI)) (M2 := (mk_M (cT im le ln ys vt nu nn (rf.set 1 (kg rf 1 + 1)) vw vq yc yh yg) (kr (he, ke, ki, fi, fa, or, mi, a, g, l, w, s)) m kk q)) rfl rfl (k := 1) (by omega) (by simp only [List.length_map, List.length_set]; omega) ks_ok rfl ?_
      exact mr_ret 2 (fun f => rfl)) ?_
  exact mr_ret 1 (fun f => rfl)
set_option maxRecDepth 100000 in
theorem om_down_0 (he ke ki fi fa or : List Nat) (mi a g l w s : Nat) (xm xi xw : List Int32) (im : Nat) (le nu rf : List Nat) (ln nn : Nat) (vp : Int32) (xn xc : List Int32) (vs : Int32) (c : cC) (n m kk : kG) (hA : iA (he, ke, ki, fi, fa, or, mi, a, g, l, w, s)) (hB : iB le ln) (hC : iC nu nn) (hD : iD rf) (hR : iR xm xw xn xc) (k1 : xi.length = 52) (x : Int32) (hxu : x.toInt ≤ -2) : mm_R 174 0 [some (.ref 138), some (.int x)] [] (mk_M c n m kk (rT (he, ke, ki, fi, fa, or, mi, a, g, l, w, s) xm xi xw im le nu rf ln nn vp xn xc vs)) (some (.int (-1)), (mk_M c n m kk (rT (he, ke, ki, fi, fa, or, mi, a, g, l, w, s) xm xi xw im le nu (rf.set 1 (kg rf 1 + 1)) ln nn vp xn xc vs))) := by
  obtain ⟨hV, hst⟩ := id hA
  have hst2 : s ≤ 999 := hst
  obtain ⟨v1, v2, v3, v4, v5, v6, v7, v8, v9, v10, v11, v12, v13, v14, v15, v16⟩ := id hV
  have v6l := kO_len mi v7 or v6
  obtain ⟨b1, b2, b3⟩ := id hB
  obtain ⟨c1, c2, c3⟩ := id hC
  have d1 : rf.length = 7 := hD
  obtain ⟨r1, r2, r3, r4⟩ := id hR
  refine mr_seg 2 (pc1 := 2) (ls1 := [some (.ref 138), some (.int x)]) (st1 := [.int (-1), .int x]) (M1 := (mk_M c n m kk (rT (he, ke, ki, fi, fa, or, mi, a, g, l, w, s) xm xi xw im le nu rf ln nn vp xn xc vs))) (fun f => rfl) ?_
  refine mr_f (C := x = (-1)) (mz_eq_f (-1) (by decide) (by omega)) (fun f => rfl) ?_
  refine mr_seg 2 (pc1 := 14) (ls1 := [some (.ref 138), some (.int x)]) (st1 := [.int x, .ref 138]) (M1 := (mk_M c n m kk (rT (he, ke, ki, fi, fa, or, mi, a, g, l, w, s) xm xi xw im le nu rf ln nn vp xn xc vs))) (fun f => rfl) ?_
  refine mr_call (y := 142) (y0 := 17) (L := [some (.ref 138), some (.int x)]) (rest := []) (rr := some (.int 0)) (M1 := (mk_M c n m kk (rT (he, ke, ki, fi, fa, or, mi, a, g, l, w, s) xm xi xw im le nu rf ln nn vp xn xc vs))) (fun f => rfl) (by
      refine mr_seg 5 (pc1 := 7) (ls1 := [some (.ref 138), some (.int x)]) (st1 := [.int 0, .ref 139, .int 0, .int x]) (M1 := (mk_M c n m kk (rT (he, ke, ki, fi, fa, or, mi, a, g, l, w, s) xm xi xw im le nu rf ln nn vp xn xc vs))) (fun f => rfl) ?_
      refine mr_ldn (xs := (er (he, ke, ki, fi, fa, or, mi, a, g, l, w, s))) rfl rfl (k := 0) (by decide) rfl ?_
      refine mr_seg 2 (pc1 := 10) (ls1 := [some (.ref 138), some (.int x)]) (st1 := [.int ((nI mi) - 1), .int 0, .int x]) (M1 := (mk_M c n m kk (rT (he, ke, ki, fi, fa, or, mi, a, g, l, w, s) xm xi xw im le nu rf ln nn vp xn xc vs))) (fun f => rfl) ?_
      refine mr_call (y := 135) (y0 := 13) (L := [some (.int x), some (.int 0), some (.int ((nI mi) - 1))]) (rest := []) (rr := some (.int 0)) (M1 := (mk_M c n m kk (rT (he, ke, ki, fi, fa, or, mi, a, g, l, w, s) xm xi xw im le nu rf ln nn vp xn xc vs))) (fun f => rfl) (by
          refine mr_seg 2 (pc1 := 2) (ls1 := [some (.int x), some (.int 0), some (.int ((nI mi) - 1))]) (st1 := [.int 0, .int x]) (M1 := (mk_M c n m kk (rT (he, ke, ki, fi, fa, or, mi, a, g, l, w, s) xm xi xw im le nu rf ln nn vp xn xc vs))) (fun f => rfl) ?_
          refine mr_t (C := x < 0) (mz_lt_t 0 (by decide) (by omega)) (fun f => rfl) ?_
          exact mr_ret 2 (fun f => rfl)) ?_
      exact mr_ret 1 (fun f => rfl)) ?_
  refine mr_seg 3 (pc1 := 30) (ls1 := [some (.ref 138), some (.int x)]) (st1 := [.int (-1), .ref 138]) (M1 := (mk_M c n m kk (rT (he, ke, ki, fi, fa, or, mi, a, g, l, w, s) xm xi xw im le nu rf ln nn vp xn xc vs))) (fun f => rfl) ?_
  refine mr_call (y := 130) (y0 := 33) (L := [some (.ref 138), some (.int (-1))]) (rest := []) (rr := some (.int (-1))) (M1 := (mk_M c n m kk (rT (he, ke, ki, fi, fa, or, mi, a, g, l, w, s) xm xi xw im le nu (rf.set 1 (kg rf 1 + 1)) ln nn vp xn xc vs))) (fun f => rfl) (by
      refine mr_seg 5 (pc1 := 7) (ls1 := [some (.ref 138), some (.int (-1))]) (st1 := [.int 1, .ref 145, .int 1, .ref 145]) (M1 := (mk_M c n m kk (rT (he, ke, ki, fi, fa, or, mi, a, g, l, w, s) xm xi xw im le nu rf ln nn vp xn xc vs))) (fun f => rfl) ?_
      refine mr_ldn (xs := (rf.map nI)) rfl rfl (k := 1) (by omega) (kg_ok (by omega)) ?_
      refine mr_seg 2 (pc1 := 10) (ls1 := [some (.ref 138), some (.int (-1))]) (st1 := [.int ((nI (kg rf 1)) + 1), .int 1, .ref 145]) (M1 := (mk_M c n m kk (rT (he, ke, ki, fi, fa, or, mi, a, g, l, w, s) xm xi xw im le nu rf ln nn vp xn xc vs))) (fun f => rfl) ?_
      refine mr_v (nI_add (kg rf 1) 1) ?_
      refine mr_stn (xs := (rf.map nI)) (ys := ((rf.set 1 (kg rf 1 + 1)).map nI)) (M2 := (mk_M c n m kk (rT (he, ke, ki, fi, fa, or, mi, a, g, l, w, s) xm xi xw im le nu (rf.set 1 (kg rf 1 + 1)) ln nn vp xn xc vs))) rfl rfl (k := 1) (by omega) (by simp only [List.length_map, List.length_set]; omega) ks_ok rfl ?_
      exact mr_ret 2 (fun f => rfl)) ?_
  exact mr_ret 1 (fun f => rfl)
theorem oe_down_0 (he ke ki fi fa or : List Nat) (mi a g l w s : Nat) (m : kG) (kk : kG) (im : Nat) (le : List Nat) (ln : Nat) (ys : List Int32) (vt : Int32) (nu : List Nat) (nn : Nat) (rf : List Nat) (vw : Int32) (vq : Int32) (yc : List Int32) (yh : List Int32) (yg : List Int32) (xm : List Int32) (xi : List Int32) (xw : List Int32) (vp : Int32) (xn : List Int32) (xc : List Int32) (vs : Int32) (hA : iA (he, ke, ki, fi, fa, or, mi, a, g, l, w, s)) (hB : iB le ln) (hC : iC nu nn) (hD : iD rf) (hJ : iJ m ys yc yh yg) (hR : iR xm xw xn xc) (hK : iK im kk xi) (x : Int32) (hxu : x.toInt ≤ -2) : oI 81 174 [some (.ref 100), some (.int x), none] [some (.ref 138), some (.int x)] (mk_M (cT im le ln ys vt nu nn rf vw vq yc yh yg) (kr (he, ke, ki, fi, fa, or, mi, a, g, l, w, s)) m kk (rT (he, ke, ki, fi, fa, or, mi, a, g, l, w, s) xm xi xw im le nu rf ln nn vp xn xc vs)) := by
  exact ⟨(-1), _, _, oc_down_0 he ke ki fi fa or mi a g l w s im le ln ys vt nu nn rf vw vq yc yh yg m kk _ hA hB hC hD hJ hK.1 x hxu, om_down_0 he ke ki fi fa or mi a g l w s xm xi xw im le nu rf ln nn vp xn xc vs _ _ _ _ hA hB hC hD hR hK.2.1 x hxu, (he, ke, ki, fi, fa, or, mi, a, g, l, w, s), m, kk, im, le, ln, ys, vt, nu, nn, (rf.set 1 (kg rf 1 + 1)), vw, vq, yc, yh, yg, xm, xi, xw, vp, xn, xc, vs, rfl, hA, hB, hC, iD_s hD, hJ, hR, hK⟩
set_option maxRecDepth 100000 in
theorem oc_down_1 (he ke ki fi fa or : List Nat) (mi a g l w s : Nat) (im : Nat) (le : List Nat) (ln : Nat) (ys : List Int32) (vt : Int32) (nu : List Nat) (nn : Nat) (rf : List Nat) (vw vq : Int32) (yc yh yg : List Int32) (m kk : kG) (q : cR) (hA : iA (he, ke, ki, fi, fa, or, mi, a, g, l, w, s)) (hB : iB le ln) (hC : iC nu nn) (hD : iD rf) (hJ : iJ m ys yc yh yg) (k0 : kSh kk) (x : Int32) (hx : nI mi ≤ x) : mm_R 81 0 [some (.ref 100), some (.int x), none] [] (mk_M (cT im le ln ys vt nu nn rf vw vq yc yh yg) (kr (he, ke, ki, fi, fa, or, mi, a, g, l, w, s)) m kk q) (some (.int (-1)), (mk_M (cT im le ln ys vt nu nn (rf.set 1 (kg rf 1 + 1)) vw vq yc yh yg) (kr (he, ke, ki, fi, fa, or, mi, a, g, l, w, s)) m kk q)) := by
  obtain ⟨hV, hst⟩ := id hA
  have hst2 : s ≤ 999 := hst
  obtain ⟨v1, v2, v3, v4, v5, v6, v7, v8, v9, v10, v11, v12, v13, v14, v15, v16⟩ := id hV
  have v6l := kO_len mi v7 or v6
  obtain ⟨b1, b2, b3⟩ := id hB
  obtain ⟨c1, c2, c3⟩ := id hC
  have d1 : rf.length = 7 := hD
  obtain ⟨j0, j1, j2, j3, j4⟩ := id hJ
  refine mr_seg 2 (pc1 := 2) (ls1 := [some (.ref 100), some (.int x), none]) (st1 := [.int (-1), .int x]) (M1 := (mk_M (cT im le ln ys vt nu nn rf vw vq yc yh yg) (kr (he, ke, ki, fi, fa, or, mi, a, g, l, w, s)) m kk q)) (fun f => rfl) ?_
  refine mr_f (C := x = (-1)) (fun e_ => k_nneg v7 hx (by rw [e_]; decide)) (fun f => rfl) ?_
  refine mr_seg 2 (pc1 := 59) (ls1 := [some (.ref 100), some (.int x), none]) (st1 := [.int x, .ref 100]) (M1 := (mk_M (cT im le ln ys vt nu nn rf vw vq yc yh yg) (kr (he, ke, ki, fi, fa, or, mi, a, g, l, w, s)) m kk q)) (fun f => rfl) ?_
  refine mr_call (y := 61) (y0 := 62) (L := [some (.ref 100), some (.int x)]) (rest := []) (rr := some (.int 0)) (M1 := (mk_M (cT im le ln ys vt nu nn rf vw vq yc yh yg) (kr (he, ke, ki, fi, fa, or, mi, a, g, l, w, s)) m kk q)) (fun f => rfl) (by
      refine mr_seg 1 (pc1 := 1) (ls1 := [some (.ref 100), some (.int x)]) (st1 := [.int x]) (M1 := (mk_M (cT im le ln ys vt nu nn rf vw vq yc yh yg) (kr (he, ke, ki, fi, fa, or, mi, a, g, l, w, s)) m kk q)) (fun f => rfl) ?_
      refine mr_f (C := x < 0) (k_nneg v7 hx) (fun f => rfl) ?_
      refine mr_seg 4 (pc1 := 12) (ls1 := [some (.ref 100), some (.int x)]) (st1 := [.int (nI mi), .int x]) (M1 := (mk_M (cT im le ln ys vt nu nn rf vw vq yc yh yg) (kr (he, ke, ki, fi, fa, or, mi, a, g, l, w, s)) m kk q)) (fun f => rfl) ?_
      refine mr_t (C := (nI mi) ≤ x) (hx) (fun f => rfl) ?_
      exact mr_ret 2 (fun f => rfl)) ?_
  refine mr_seg 3 (pc1 := 67) (ls1 := [some (.ref 100), some (.int x), none]) (st1 := [.int (-1), .ref 100]) (M1 := (mk_M (cT im le ln ys vt nu nn rf vw vq yc yh yg) (kr (he, ke, ki, fi, fa, or, mi, a, g, l, w, s)) m kk q)) (fun f => rfl) ?_
  refine mr_call (y := 12) (y0 := 70) (L := [some (.ref 100), some (.int (-1))]) (rest := []) (rr := some (.int (-1))) (M1 := (mk_M (cT im le ln ys vt nu nn (rf.set 1 (kg rf 1 + 1)) vw vq yc yh yg) (kr (he, ke, ki, fi, fa, or, mi, a, g, l, w, s)) m kk q)) (fun f => rfl) (by
      refine mr_seg 5 (pc1 := 7) (ls1 := [some (.ref 100), some (.int (-1))]) (st1 := [.int 1, .ref 105, .int 1, .ref 105]) (M1 := (mk_M (cT im le ln ys vt nu nn rf vw vq yc yh yg) (kr (he, ke, ki, fi, fa, or, mi, a, g, l, w, s)) m kk q)) (fun f => rfl) ?_
      refine mr_ldn (xs := (rf.map nI)) rfl rfl (k := 1) (by omega) (kg_ok (by omega)) ?_
      refine mr_seg 2 (pc1 := 10) (ls1 := [some (.ref 100), some (.int (-1))]) (st1 := [.int ((nI (kg rf 1)) + 1), .int 1, .ref 105]) (M1 := (mk_M (cT im le ln ys vt nu nn rf vw vq yc yh yg) (kr (he, ke, ki, fi, fa, or, mi, a, g, l, w, s)) m kk q)) (fun f => rfl) ?_
      refine mr_v (nI_add (kg rf 1) 1) ?_
      refine mr_stn (xs := (rf.map nI)) (ys := ((rf.set 1 (kg rf 1 + 1)).map nI)) (M2 := (mk_M (cT im le ln ys vt nu nn (rf.set 1 (kg rf 1 + 1)) vw vq yc yh yg) (kr (he, ke, ki, fi, fa, or, mi, a, g, l, w, s)) m kk q)) rfl rfl (k := 1) (by omega) (by simp only [List.length_map, List.length_set]; omega) ks_ok rfl ?_
      exact mr_ret 2 (fun f => rfl)) ?_
  exact mr_ret 1 (fun f => rfl)
set_option maxRecDepth 100000 in
theorem om_down_1 (he ke ki fi fa or : List Nat) (mi a g l w s : Nat) (xm xi xw : List Int32) (im : Nat) (le nu rf : List Nat) (ln nn : Nat) (vp : Int32) (xn xc : List Int32) (vs : Int32) (c : cC) (n m kk : kG) (hA : iA (he, ke, ki, fi, fa, or, mi, a, g, l, w, s)) (hB : iB le ln) (hC : iC nu nn) (hD : iD rf) (hR : iR xm xw xn xc) (k1 : xi.length = 52) (x : Int32) (hx : nI mi ≤ x) : mm_R 174 0 [some (.ref 138), some (.int x)] [] (mk_M c n m kk (rT (he, ke, ki, fi, fa, or, mi, a, g, l, w, s) xm xi xw im le nu rf ln nn vp xn xc vs)) (some (.int (-1)), (mk_M c n m kk (rT (he, ke, ki, fi, fa, or, mi, a, g, l, w, s) xm xi xw im le nu (rf.set 1 (kg rf 1 + 1)) ln nn vp xn xc vs))) := by
  obtain ⟨hV, hst⟩ := id hA
  have hst2 : s ≤ 999 := hst
  obtain ⟨v1, v2, v3, v4, v5, v6, v7, v8, v9, v10, v11, v12, v13, v14, v15, v16⟩ := id hV
  have v6l := kO_len mi v7 or v6
  obtain ⟨b1, b2, b3⟩ := id hB
  obtain ⟨c1, c2, c3⟩ := id hC
  have d1 : rf.length = 7 := hD
  obtain ⟨r1, r2, r3, r4⟩ := id hR
  refine mr_seg 2 (pc1 := 2) (ls1 := [some (.ref 138), some (.int x)]) (st1 := [.int (-1), .int x]) (M1 := (mk_M c n m kk (rT (he, ke, ki, fi, fa, or, mi, a, g, l, w, s) xm xi xw im le nu rf ln nn vp xn xc vs))) (fun f => rfl) ?_
  refine mr_f (C := x = (-1)) (fun e_ => k_nneg v7 hx (by rw [e_]; decide)) (fun f => rfl) ?_
  refine mr_seg 2 (pc1 := 14) (ls1 := [some (.ref 138), some (.int x)]) (st1 := [.int x, .ref 138]) (M1 := (mk_M c n m kk (rT (he, ke, ki, fi, fa, or, mi, a, g, l, w, s) xm xi xw im le nu rf ln nn vp xn xc vs))) (fun f => rfl) ?_
  refine mr_call (y := 142) (y0 := 17) (L := [some (.ref 138), some (.int x)]) (rest := []) (rr := some (.int 0)) (M1 := (mk_M c n m kk (rT (he, ke, ki, fi, fa, or, mi, a, g, l, w, s) xm xi xw im le nu rf ln nn vp xn xc vs))) (fun f => rfl) (by
      refine mr_seg 5 (pc1 := 7) (ls1 := [some (.ref 138), some (.int x)]) (st1 := [.int 0, .ref 139, .int 0, .int x]) (M1 := (mk_M c n m kk (rT (he, ke, ki, fi, fa, or, mi, a, g, l, w, s) xm xi xw im le nu rf ln nn vp xn xc vs))) (fun f => rfl) ?_
      refine mr_ldn (xs := (er (he, ke, ki, fi, fa, or, mi, a, g, l, w, s))) rfl rfl (k := 0) (by decide) rfl ?_
      refine mr_seg 2 (pc1 := 10) (ls1 := [some (.ref 138), some (.int x)]) (st1 := [.int ((nI mi) - 1), .int 0, .int x]) (M1 := (mk_M c n m kk (rT (he, ke, ki, fi, fa, or, mi, a, g, l, w, s) xm xi xw im le nu rf ln nn vp xn xc vs))) (fun f => rfl) ?_
      refine mr_call (y := 135) (y0 := 13) (L := [some (.int x), some (.int 0), some (.int ((nI mi) - 1))]) (rest := []) (rr := some (.int 0)) (M1 := (mk_M c n m kk (rT (he, ke, ki, fi, fa, or, mi, a, g, l, w, s) xm xi xw im le nu rf ln nn vp xn xc vs))) (fun f => rfl) (by
          refine mr_seg 2 (pc1 := 2) (ls1 := [some (.int x), some (.int 0), some (.int ((nI mi) - 1))]) (st1 := [.int 0, .int x]) (M1 := (mk_M c n m kk (rT (he, ke, ki, fi, fa, or, mi, a, g, l, w, s) xm xi xw im le nu rf ln nn vp xn xc vs))) (fun f => rfl) ?_
          refine mr_f (C := x < 0) (k_nneg v7 hx) (fun f => rfl) ?_
          refine mr_seg 2 (pc1 := 7) (ls1 := [some (.int x), some (.int 0), some (.int ((nI mi) - 1))]) (st1 := [.int ((nI mi) - 1), .int x]) (M1 := (mk_M c n m kk (rT (he, ke, ki, fi, fa, or, mi, a, g, l, w, s) xm xi xw im le nu rf ln nn vp xn xc vs))) (fun f => rfl) ?_
          refine mr_t (C := ((nI mi) - 1) < x) (k_gem v7 hx) (fun f => rfl) ?_
          exact mr_ret 2 (fun f => rfl)) ?_
      exact mr_ret 1 (fun f => rfl)) ?_
  refine mr_seg 3 (pc1 := 30) (ls1 := [some (.ref 138), some (.int x)]) (st1 := [.int (-1), .ref 138]) (M1 := (mk_M c n m kk (rT (he, ke, ki, fi, fa, or, mi, a, g, l, w, s) xm xi xw im le nu rf ln nn vp xn xc vs))) (fun f => rfl) ?_
  refine mr_call (y := 130) (y0 := 33) (L := [some (.ref 138), some (.int (-1))]) (rest := []) (rr := some (.int (-1))) (M1 := (mk_M c n m kk (rT (he, ke, ki, fi, fa, or, mi, a, g, l, w, s) xm xi xw im le nu (rf.set 1 (kg rf 1 + 1)) ln nn vp xn xc vs))) (fun f => rfl) (by
      refine mr_seg 5 (pc1 := 7) (ls1 := [some (.ref 138), some (.int (-1))]) (st1 := [.int 1, .ref 145, .int 1, .ref 145]) (M1 := (mk_M c n m kk (rT (he, ke, ki, fi, fa, or, mi, a, g, l, w, s) xm xi xw im le nu rf ln nn vp xn xc vs))) (fun f => rfl) ?_
      refine mr_ldn (xs := (rf.map nI)) rfl rfl (k := 1) (by omega) (kg_ok (by omega)) ?_
      refine mr_seg 2 (pc1 := 10) (ls1 := [some (.ref 138), some (.int (-1))]) (st1 := [.int ((nI (kg rf 1)) + 1), .int 1, .ref 145]) (M1 := (mk_M c n m kk (rT (he, ke, ki, fi, fa, or, mi, a, g, l, w, s) xm xi xw im le nu rf ln nn vp xn xc vs))) (fun f => rfl) ?_
      refine mr_v (nI_add (kg rf 1) 1) ?_
      refine mr_stn (xs := (rf.map nI)) (ys := ((rf.set 1 (kg rf 1 + 1)).map nI)) (M2 := (mk_M c n m kk (rT (he, ke, ki, fi, fa, or, mi, a, g, l, w, s) xm xi xw im le nu (rf.set 1 (kg rf 1 + 1)) ln nn vp xn xc vs))) rfl rfl (k := 1) (by omega) (by simp only [List.length_map, List.length_set]; omega) ks_ok rfl ?_
      exact mr_ret 2 (fun f => rfl)) ?_
  exact mr_ret 1 (fun f => rfl)
theorem oe_down_1 (he ke ki fi fa or : List Nat) (mi a g l w s : Nat) (m : kG) (kk : kG) (im : Nat) (le : List Nat) (ln : Nat) (ys : List Int32) (vt : Int32) (nu : List Nat) (nn : Nat) (rf : List Nat) (vw : Int32) (vq : Int32) (yc : List Int32) (yh : List Int32) (yg : List Int32) (xm : List Int32) (xi : List Int32) (xw : List Int32) (vp : Int32) (xn : List Int32) (xc : List Int32) (vs : Int32) (hA : iA (he, ke, ki, fi, fa, or, mi, a, g, l, w, s)) (hB : iB le ln) (hC : iC nu nn) (hD : iD rf) (hJ : iJ m ys yc yh yg) (hR : iR xm xw xn xc) (hK : iK im kk xi) (x : Int32) (hx : nI mi ≤ x) : oI 81 174 [some (.ref 100), some (.int x), none] [some (.ref 138), some (.int x)] (mk_M (cT im le ln ys vt nu nn rf vw vq yc yh yg) (kr (he, ke, ki, fi, fa, or, mi, a, g, l, w, s)) m kk (rT (he, ke, ki, fi, fa, or, mi, a, g, l, w, s) xm xi xw im le nu rf ln nn vp xn xc vs)) := by
  exact ⟨(-1), _, _, oc_down_1 he ke ki fi fa or mi a g l w s im le ln ys vt nu nn rf vw vq yc yh yg m kk _ hA hB hC hD hJ hK.1 x hx, om_down_1 he ke ki fi fa or mi a g l w s xm xi xw im le nu rf ln nn vp xn xc vs _ _ _ _ hA hB hC hD hR hK.2.1 x hx, (he, ke, ki, fi, fa, or, mi, a, g, l, w, s), m, kk, im, le, ln, ys, vt, nu, nn, (rf.set 1 (kg rf 1 + 1)), vw, vq, yc, yh, yg, xm, xi, xw, vp, xn, xc, vs, rfl, hA, hB, hC, iD_s hD, hJ, hR, hK⟩
set_option maxRecDepth 100000 in
theorem oc_climb_0 (he ke ki fi fa or : List Nat) (mi a g l w s : Nat) (im : Nat) (le : List Nat) (ln : Nat) (ys : List Int32) (vt : Int32) (nu : List Nat) (nn : Nat) (rf : List Nat) (vw vq : Int32) (yc yh yg : List Int32) (m kk : kG) (q : cR) (hA : iA (he, ke, ki, fi, fa, or, mi, a, g, l, w, s)) (hB : iB le ln) (hC : iC nu nn) (hD : iD rf) (hJ : iJ m ys yc yh yg) (k0 : kSh kk) (x : Int32) (hxu : x.toInt ≤ -1) (y : Int32) : mm_R 86 0 [some (.ref 100), some (.int x), some (.int y), none, none] [] (mk_M (cT im le ln ys vt nu nn rf vw vq yc yh yg) (kr (he, ke, ki, fi, fa, or, mi, a, g, l, w, s)) m kk q) (some (.int (-1)), (mk_M (cT im le ln ys vt nu nn (rf.set 1 (kg rf 1 + 1)) vw vq yc yh yg) (kr (he, ke, ki, fi, fa, or, mi, a, g, l, w, s)) m kk q)) := by
  obtain ⟨hV, hst⟩ := id hA
  have hst2 : s ≤ 999 := hst
  obtain ⟨v1, v2, v3, v4, v5, v6, v7, v8, v9, v10, v11, v12, v13, v14, v15, v16⟩ := id hV
  have v6l := kO_len mi v7 or v6
  obtain ⟨b1, b2, b3⟩ := id hB
  obtain ⟨c1, c2, c3⟩ := id hC
  have d1 : rf.length = 7 := hD
  obtain ⟨j0, j1, j2, j3, j4⟩ := id hJ
  refine mr_seg 1 (pc1 := 1) (ls1 := [some (.ref 100), some (.int x), some (.int y), none, none]) (st1 := [.int x]) (M1 := (mk_M (cT im le ln ys vt nu nn rf vw vq yc yh yg) (kr (he, ke, ki, fi, fa, or, mi, a, g, l, w, s)) m kk q)) (fun f => rfl) ?_
  refine mr_call (y := 37) (y0 := 4) (L := [some (.int x)]) (rest := []) (rr := some (.int 0)) (M1 := (mk_M (cT im le ln ys vt nu nn rf vw vq yc yh yg) (kr (he, ke, ki, fi, fa, or, mi, a, g, l, w, s)) m kk q)) (fun f => rfl) (by
      refine mr_seg 1 (pc1 := 1) (ls1 := [some (.int x)]) (st1 := [.int x]) (M1 := (mk_M (cT im le ln ys vt nu nn rf vw vq yc yh yg) (kr (he, ke, ki, fi, fa, or, mi, a, g, l, w, s)) m kk q)) (fun f => rfl) ?_
      refine mr_t (C := x < 0) (mz_lt_t 0 (by decide) (by omega)) (fun f => rfl) ?_
      exact mr_ret 2 (fun f => rfl)) ?_
  refine mr_seg 3 (pc1 := 9) (ls1 := [some (.ref 100), some (.int x), some (.int y), none, none]) (st1 := [.int (-1), .ref 100]) (M1 := (mk_M (cT im le ln ys vt nu nn rf vw vq yc yh yg) (kr (he, ke, ki, fi, fa, or, mi, a, g, l, w, s)) m kk q)) (fun f => rfl) ?_
  refine mr_call (y := 12) (y0 := 12) (L := [some (.ref 100), some (.int (-1))]) (rest := []) (rr := some (.int (-1))) (M1 := (mk_M (cT im le ln ys vt nu nn (rf.set 1 (kg rf 1 + 1)) vw vq yc yh yg) (kr (he, ke, ki, fi, fa, or, mi, a, g, l, w, s)) m kk q)) (fun f => rfl) (by
      refine mr_seg 5 (pc1 := 7) (ls1 := [some (.ref 100), some (.int (-1))]) (st1 := [.int 1, .ref 105, .int 1, .ref 105]) (M1 := (mk_M (cT im le ln ys vt nu nn rf vw vq yc yh yg) (kr (he, ke, ki, fi, fa, or, mi, a, g, l, w, s)) m kk q)) (fun f => rfl) ?_
      refine mr_ldn (xs := (rf.map nI)) rfl rfl (k := 1) (by omega) (kg_ok (by omega)) ?_
      refine mr_seg 2 (pc1 := 10) (ls1 := [some (.ref 100), some (.int (-1))]) (st1 := [.int ((nI (kg rf 1)) + 1), .int 1, .ref 105]) (M1 := (mk_M (cT im le ln ys vt nu nn rf vw vq yc yh yg) (kr (he, ke, ki, fi, fa, or, mi, a, g, l, w, s)) m kk q)) (fun f => rfl) ?_
      refine mr_v (nI_add (kg rf 1) 1) ?_
      refine mr_stn (xs := (rf.map nI)) (ys := ((rf.set 1 (kg rf 1 + 1)).map nI)) (M2 := (mk_M (cT im le ln ys vt nu nn (rf.set 1 (kg rf 1 + 1)) vw vq yc yh yg) (kr (he, ke, ki, fi, fa, or, mi, a, g, l, w, s)) m kk q)) rfl rfl (k := 1) (by omega) (by simp only [List.length_map, List.length_set]; omega) ks_ok rfl ?_
      exact mr_ret 2 (fun f => rfl)) ?_
  exact mr_ret 1 (fun f => rfl)
set_option maxRecDepth 100000 in
theorem om_climb_0 (he ke ki fi fa or : List Nat) (mi a g l w s : Nat) (xm xi xw : List Int32) (im : Nat) (le nu rf : List Nat) (ln nn : Nat) (vp : Int32) (xn xc : List Int32) (vs : Int32) (c : cC) (n m kk : kG) (hA : iA (he, ke, ki, fi, fa, or, mi, a, g, l, w, s)) (hB : iB le ln) (hC : iC nu nn) (hD : iD rf) (hR : iR xm xw xn xc) (k1 : xi.length = 52) (x : Int32) (hxu : x.toInt ≤ -1) (y : Int32) : mm_R 178 0 [some (.ref 138), some (.int x), some (.int y), none, none, none, none, none] [] (mk_M c n m kk (rT (he, ke, ki, fi, fa, or, mi, a, g, l, w, s) xm xi xw im le nu rf ln nn vp xn xc vs)) (some (.int (-1)), (mk_M c n m kk (rT (he, ke, ki, fi, fa, or, mi, a, g, l, w, s) xm xi xw im le nu (rf.set 1 (kg rf 1 + 1)) ln nn vp xn xc vs))) := by
  obtain ⟨hV, hst⟩ := id hA
  have hst2 : s ≤ 999 := hst
  obtain ⟨v1, v2, v3, v4, v5, v6, v7, v8, v9, v10, v11, v12, v13, v14, v15, v16⟩ := id hV
  have v6l := kO_len mi v7 or v6
  obtain ⟨b1, b2, b3⟩ := id hB
  obtain ⟨c1, c2, c3⟩ := id hC
  have d1 : rf.length = 7 := hD
  obtain ⟨r1, r2, r3, r4⟩ := id hR
  refine mr_seg 1 (pc1 := 1) (ls1 := [some (.ref 138), some (.int x), some (.int y), none, none, none, none, none]) (st1 := [.int x]) (M1 := (mk_M c n m kk (rT (he, ke, ki, fi, fa, or, mi, a, g, l, w, s) xm xi xw im le nu rf ln nn vp xn xc vs))) (fun f => rfl) ?_
  refine mr_call (y := 140) (y0 := 4) (L := [some (.int x)]) (rest := []) (rr := some (.int 0)) (M1 := (mk_M c n m kk (rT (he, ke, ki, fi, fa, or, mi, a, g, l, w, s) xm xi xw im le nu rf ln nn vp xn xc vs))) (fun f => rfl) (by
      refine mr_seg 3 (pc1 := 4) (ls1 := [some (.int x)]) (st1 := [.int 24, .int 0, .int x]) (M1 := (mk_M c n m kk (rT (he, ke, ki, fi, fa, or, mi, a, g, l, w, s) xm xi xw im le nu rf ln nn vp xn xc vs))) (fun f => rfl) ?_
      refine mr_call (y := 135) (y0 := 7) (L := [some (.int x), some (.int 0), some (.int 24)]) (rest := []) (rr := some (.int 0)) (M1 := (mk_M c n m kk (rT (he, ke, ki, fi, fa, or, mi, a, g, l, w, s) xm xi xw im le nu rf ln nn vp xn xc vs))) (fun f => rfl) (by
          refine mr_seg 2 (pc1 := 2) (ls1 := [some (.int x), some (.int 0), some (.int 24)]) (st1 := [.int 0, .int x]) (M1 := (mk_M c n m kk (rT (he, ke, ki, fi, fa, or, mi, a, g, l, w, s) xm xi xw im le nu rf ln nn vp xn xc vs))) (fun f => rfl) ?_
          refine mr_t (C := x < 0) (mz_lt_t 0 (by decide) (by omega)) (fun f => rfl) ?_
          exact mr_ret 2 (fun f => rfl)) ?_
      exact mr_ret 1 (fun f => rfl)) ?_
  refine mr_seg 3 (pc1 := 9) (ls1 := [some (.ref 138), some (.int x), some (.int y), none, none, none, none, none]) (st1 := [.int (-1), .ref 138]) (M1 := (mk_M c n m kk (rT (he, ke, ki, fi, fa, or, mi, a, g, l, w, s) xm xi xw im le nu rf ln nn vp xn xc vs))) (fun f => rfl) ?_
  refine mr_call (y := 130) (y0 := 12) (L := [some (.ref 138), some (.int (-1))]) (rest := []) (rr := some (.int (-1))) (M1 := (mk_M c n m kk (rT (he, ke, ki, fi, fa, or, mi, a, g, l, w, s) xm xi xw im le nu (rf.set 1 (kg rf 1 + 1)) ln nn vp xn xc vs))) (fun f => rfl) (by
      refine mr_seg 5 (pc1 := 7) (ls1 := [some (.ref 138), some (.int (-1))]) (st1 := [.int 1, .ref 145, .int 1, .ref 145]) (M1 := (mk_M c n m kk (rT (he, ke, ki, fi, fa, or, mi, a, g, l, w, s) xm xi xw im le nu rf ln nn vp xn xc vs))) (fun f => rfl) ?_
      refine mr_ldn (xs := (rf.map nI)) rfl rfl (k := 1) (by omega) (kg_ok (by omega)) ?_
      refine mr_seg 2 (pc1 := 10) (ls1 := [some (.ref 138), some (.int (-1))]) (st1 := [.int ((nI (kg rf 1)) + 1), .int 1, .ref 145]) (M1 := (mk_M c n m kk (rT (he, ke, ki, fi, fa, or, mi, a, g, l, w, s) xm xi xw im le nu rf ln nn vp xn xc vs))) (fun f => rfl) ?_
      refine mr_v (nI_add (kg rf 1) 1) ?_
      refine mr_stn (xs := (rf.map nI)) (ys := ((rf.set 1 (kg rf 1 + 1)).map nI)) (M2 := (mk_M c n m kk (rT (he, ke, ki, fi, fa, or, mi, a, g, l, w, s) xm xi xw im le nu (rf.set 1 (kg rf 1 + 1)) ln nn vp xn xc vs))) rfl rfl (k := 1) (by omega) (by simp only [List.length_map, List.length_set]; omega) ks_ok rfl ?_
      exact mr_ret 2 (fun f => rfl)) ?_
  exact mr_ret 1 (fun f => rfl)
theorem oe_climb_0 (he ke ki fi fa or : List Nat) (mi a g l w s : Nat) (m : kG) (kk : kG) (im : Nat) (le : List Nat) (ln : Nat) (ys : List Int32) (vt : Int32) (nu : List Nat) (nn : Nat) (rf : List Nat) (vw : Int32) (vq : Int32) (yc : List Int32) (yh : List Int32) (yg : List Int32) (xm : List Int32) (xi : List Int32) (xw : List Int32) (vp : Int32) (xn : List Int32) (xc : List Int32) (vs : Int32) (hA : iA (he, ke, ki, fi, fa, or, mi, a, g, l, w, s)) (hB : iB le ln) (hC : iC nu nn) (hD : iD rf) (hJ : iJ m ys yc yh yg) (hR : iR xm xw xn xc) (hK : iK im kk xi) (x : Int32) (hxu : x.toInt ≤ -1) (y : Int32) : oI 86 178 [some (.ref 100), some (.int x), some (.int y), none, none] [some (.ref 138), some (.int x), some (.int y), none, none, none, none, none] (mk_M (cT im le ln ys vt nu nn rf vw vq yc yh yg) (kr (he, ke, ki, fi, fa, or, mi, a, g, l, w, s)) m kk (rT (he, ke, ki, fi, fa, or, mi, a, g, l, w, s) xm xi xw im le nu rf ln nn vp xn xc vs)) := by
  exact ⟨(-1), _, _, oc_climb_0 he ke ki fi fa or mi a g l w s im le ln ys vt nu nn rf vw vq yc yh yg m kk _ hA hB hC hD hJ hK.1 x hxu y, om_climb_0 he ke ki fi fa or mi a g l w s xm xi xw im le nu rf ln nn vp xn xc vs _ _ _ _ hA hB hC hD hR hK.2.1 x hxu y, (he, ke, ki, fi, fa, or, mi, a, g, l, w, s), m, kk, im, le, ln, ys, vt, nu, nn, (rf.set 1 (kg rf 1 + 1)), vw, vq, yc, yh, yg, xm, xi, xw, vp, xn, xc, vs, rfl, hA, hB, hC, iD_s hD, hJ, hR, hK⟩
set_option maxRecDepth 100000 in
theorem oc_climb_1 (he ke ki fi fa or : List Nat) (mi a g l w s : Nat) (im : Nat) (le : List Nat) (ln : Nat) (ys : List Int32) (vt : Int32) (nu : List Nat) (nn : Nat) (rf : List Nat) (vw vq : Int32) (yc yh yg : List Int32) (m kk : kG) (q : cR) (hA : iA (he, ke, ki, fi, fa, or, mi, a, g, l, w, s)) (hB : iB le ln) (hC : iC nu nn) (hD : iD rf) (hJ : iJ m ys yc yh yg) (k0 : kSh kk) (x : Int32) (hxl : 25 ≤ x.toInt) (y : Int32) : mm_R 86 0 [some (.ref 100), some (.int x), some (.int y), none, none] [] (mk_M (cT im le ln ys vt nu nn rf vw vq yc yh yg) (kr (he, ke, ki, fi, fa, or, mi, a, g, l, w, s)) m kk q) (some (.int (-1)), (mk_M (cT im le ln ys vt nu nn (rf.set 1 (kg rf 1 + 1)) vw vq yc yh yg) (kr (he, ke, ki, fi, fa, or, mi, a, g, l, w, s)) m kk q)) := by
  obtain ⟨hV, hst⟩ := id hA
  have hst2 : s ≤ 999 := hst
  obtain ⟨v1, v2, v3, v4, v5, v6, v7, v8, v9, v10, v11, v12, v13, v14, v15, v16⟩ := id hV
  have v6l := kO_len mi v7 or v6
  obtain ⟨b1, b2, b3⟩ := id hB
  obtain ⟨c1, c2, c3⟩ := id hC
  have d1 : rf.length = 7 := hD
  obtain ⟨j0, j1, j2, j3, j4⟩ := id hJ
  refine mr_seg 1 (pc1 := 1) (ls1 := [some (.ref 100), some (.int x), some (.int y), none, none]) (st1 := [.int x]) (M1 := (mk_M (cT im le ln ys vt nu nn rf vw vq yc yh yg) (kr (he, ke, ki, fi, fa, or, mi, a, g, l, w, s)) m kk q)) (fun f => rfl) ?_
  refine mr_call (y := 37) (y0 := 4) (L := [some (.int x)]) (rest := []) (rr := some (.int 0)) (M1 := (mk_M (cT im le ln ys vt nu nn rf vw vq yc yh yg) (kr (he, ke, ki, fi, fa, or, mi, a, g, l, w, s)) m kk q)) (fun f => rfl) (by
      refine mr_seg 1 (pc1 := 1) (ls1 := [some (.int x)]) (st1 := [.int x]) (M1 := (mk_M (cT im le ln ys vt nu nn rf vw vq yc yh yg) (kr (he, ke, ki, fi, fa, or, mi, a, g, l, w, s)) m kk q)) (fun f => rfl) ?_
      refine mr_f (C := x < 0) (mz_lt_f 0 (by decide) (by omega)) (fun f => rfl) ?_
      refine mr_seg 2 (pc1 := 7) (ls1 := [some (.int x)]) (st1 := [.int 25, .int x]) (M1 := (mk_M (cT im le ln ys vt nu nn rf vw vq yc yh yg) (kr (he, ke, ki, fi, fa, or, mi, a, g, l, w, s)) m kk q)) (fun f => rfl) ?_
      refine mr_t (C := 25 ≤ x) (mz_ge_t 25 (by decide) (by omega)) (fun f => rfl) ?_
      exact mr_ret 2 (fun f => rfl)) ?_
  refine mr_seg 3 (pc1 := 9) (ls1 := [some (.ref 100), some (.int x), some (.int y), none, none]) (st1 := [.int (-1), .ref 100]) (M1 := (mk_M (cT im le ln ys vt nu nn rf vw vq yc yh yg) (kr (he, ke, ki, fi, fa, or, mi, a, g, l, w, s)) m kk q)) (fun f => rfl) ?_
  refine mr_call (y := 12) (y0 := 12) (L := [some (.ref 100), some (.int (-1))]) (rest := []) (rr := some (.int (-1))) (M1 := (mk_M (cT im le ln ys vt nu nn (rf.set 1 (kg rf 1 + 1)) vw vq yc yh yg) (kr (he, ke, ki, fi, fa, or, mi, a, g, l, w, s)) m kk q)) (fun f => rfl) (by
      refine mr_seg 5 (pc1 := 7) (ls1 := [some (.ref 100), some (.int (-1))]) (st1 := [.int 1, .ref 105, .int 1, .ref 105]) (M1 := (mk_M (cT im le ln ys vt nu nn rf vw vq yc yh yg) (kr (he, ke, ki, fi, fa, or, mi, a, g, l, w, s)) m kk q)) (fun f => rfl) ?_
      refine mr_ldn (xs := (rf.map nI)) rfl rfl (k := 1) (by omega) (kg_ok (by omega)) ?_
      refine mr_seg 2 (pc1 := 10) (ls1 := [some (.ref 100), some (.int (-1))]) (st1 := [.int ((nI (kg rf 1)) + 1), .int 1, .ref 105]) (M1 := (mk_M (cT im le ln ys vt nu nn rf vw vq yc yh yg) (kr (he, ke, ki, fi, fa, or, mi, a, g, l, w, s)) m kk q)) (fun f => rfl) ?_
      refine mr_v (nI_add (kg rf 1) 1) ?_
      refine mr_stn (xs := (rf.map nI)) (ys := ((rf.set 1 (kg rf 1 + 1)).map nI)) (M2 := (mk_M (cT im le ln ys vt nu nn (rf.set 1 (kg rf 1 + 1)) vw vq yc yh yg) (kr (he, ke, ki, fi, fa, or, mi, a, g, l, w, s)) m kk q)) rfl rfl (k := 1) (by omega) (by simp only [List.length_map, List.length_set]; omega) ks_ok rfl ?_
      exact mr_ret 2 (fun f => rfl)) ?_
  exact mr_ret 1 (fun f => rfl)
set_option maxRecDepth 100000 in
theorem om_climb_1 (he ke ki fi fa or : List Nat) (mi a g l w s : Nat) (xm xi xw : List Int32) (im : Nat) (le nu rf : List Nat) (ln nn : Nat) (vp : Int32) (xn xc : List Int32) (vs : Int32) (c : cC) (n m kk : kG) (hA : iA (he, ke, ki, fi, fa, or, mi, a, g, l, w, s)) (hB : iB le ln) (hC : iC nu nn) (hD : iD rf) (hR : iR xm xw xn xc) (k1 : xi.length = 52) (x : Int32) (hxl : 25 ≤ x.toInt) (y : Int32) : mm_R 178 0 [some (.ref 138), some (.int x), some (.int y), none, none, none, none, none] [] (mk_M c n m kk (rT (he, ke, ki, fi, fa, or, mi, a, g, l, w, s) xm xi xw im le nu rf ln nn vp xn xc vs)) (some (.int (-1)), (mk_M c n m kk (rT (he, ke, ki, fi, fa, or, mi, a, g, l, w, s) xm xi xw im le nu (rf.set 1 (kg rf 1 + 1)) ln nn vp xn xc vs))) := by
  obtain ⟨hV, hst⟩ := id hA
  have hst2 : s ≤ 999 := hst
  obtain ⟨v1, v2, v3, v4, v5, v6, v7, v8, v9, v10, v11, v12, v13, v14, v15, v16⟩ := id hV
  have v6l := kO_len mi v7 or v6
  obtain ⟨b1, b2, b3⟩ := id hB
  obtain ⟨c1, c2, c3⟩ := id hC
  have d1 : rf.length = 7 := hD
  obtain ⟨r1, r2, r3, r4⟩ := id hR
  refine mr_seg 1 (pc1 := 1) (ls1 := [some (.ref 138), some (.int x), some (.int y), none, none, none, none, none]) (st1 := [.int x]) (M1 := (mk_M c n m kk (rT (he, ke, ki, fi, fa, or, mi, a, g, l, w, s) xm xi xw im le nu rf ln nn vp xn xc vs))) (fun f => rfl) ?_
  refine mr_call (y := 140) (y0 := 4) (L := [some (.int x)]) (rest := []) (rr := some (.int 0)) (M1 := (mk_M c n m kk (rT (he, ke, ki, fi, fa, or, mi, a, g, l, w, s) xm xi xw im le nu rf ln nn vp xn xc vs))) (fun f => rfl) (by
      refine mr_seg 3 (pc1 := 4) (ls1 := [some (.int x)]) (st1 := [.int 24, .int 0, .int x]) (M1 := (mk_M c n m kk (rT (he, ke, ki, fi, fa, or, mi, a, g, l, w, s) xm xi xw im le nu rf ln nn vp xn xc vs))) (fun f => rfl) ?_
      refine mr_call (y := 135) (y0 := 7) (L := [some (.int x), some (.int 0), some (.int 24)]) (rest := []) (rr := some (.int 0)) (M1 := (mk_M c n m kk (rT (he, ke, ki, fi, fa, or, mi, a, g, l, w, s) xm xi xw im le nu rf ln nn vp xn xc vs))) (fun f => rfl) (by
          refine mr_seg 2 (pc1 := 2) (ls1 := [some (.int x), some (.int 0), some (.int 24)]) (st1 := [.int 0, .int x]) (M1 := (mk_M c n m kk (rT (he, ke, ki, fi, fa, or, mi, a, g, l, w, s) xm xi xw im le nu rf ln nn vp xn xc vs))) (fun f => rfl) ?_
          refine mr_f (C := x < 0) (mz_lt_f 0 (by decide) (by omega)) (fun f => rfl) ?_
          refine mr_seg 2 (pc1 := 7) (ls1 := [some (.int x), some (.int 0), some (.int 24)]) (st1 := [.int 24, .int x]) (M1 := (mk_M c n m kk (rT (he, ke, ki, fi, fa, or, mi, a, g, l, w, s) xm xi xw im le nu rf ln nn vp xn xc vs))) (fun f => rfl) ?_
          refine mr_t (C := 24 < x) (mz_gt_t 24 (by decide) (by omega)) (fun f => rfl) ?_
          exact mr_ret 2 (fun f => rfl)) ?_
      exact mr_ret 1 (fun f => rfl)) ?_
  refine mr_seg 3 (pc1 := 9) (ls1 := [some (.ref 138), some (.int x), some (.int y), none, none, none, none, none]) (st1 := [.int (-1), .ref 138]) (M1 := (mk_M c n m kk (rT (he, ke, ki, fi, fa, or, mi, a, g, l, w, s) xm xi xw im le nu rf ln nn vp xn xc vs))) (fun f => rfl) ?_
  refine mr_call (y := 130) (y0 := 12) (L := [some (.ref 138), some (.int (-1))]) (rest := []) (rr := some (.int (-1))) (M1 := (mk_M c n m kk (rT (he, ke, ki, fi, fa, or, mi, a, g, l, w, s) xm xi xw im le nu (rf.set 1 (kg rf 1 + 1)) ln nn vp xn xc vs))) (fun f => rfl) (by
      refine mr_seg 5 (pc1 := 7) (ls1 := [some (.ref 138), some (.int (-1))]) (st1 := [.int 1, .ref 145, .int 1, .ref 145]) (M1 := (mk_M c n m kk (rT (he, ke, ki, fi, fa, or, mi, a, g, l, w, s) xm xi xw im le nu rf ln nn vp xn xc vs))) (fun f => rfl) ?_
      refine mr_ldn (xs := (rf.map nI)) rfl rfl (k := 1) (by omega) (kg_ok (by omega)) ?_
      refine mr_seg 2 (pc1 := 10) (ls1 := [some (.ref 138), some (.int (-1))]) (st1 := [.int ((nI (kg rf 1)) + 1), .int 1, .ref 145]) (M1 := (mk_M c n m kk (rT (he, ke, ki, fi, fa, or, mi, a, g, l, w, s) xm xi xw im le nu rf ln nn vp xn xc vs))) (fun f => rfl) ?_
      refine mr_v (nI_add (kg rf 1) 1) ?_
      refine mr_stn (xs := (rf.map nI)) (ys := ((rf.set 1 (kg rf 1 + 1)).map nI)) (M2 := (mk_M c n m kk (rT (he, ke, ki, fi, fa, or, mi, a, g, l, w, s) xm xi xw im le nu (rf.set 1 (kg rf 1 + 1)) ln nn vp xn xc vs))) rfl rfl (k := 1) (by omega) (by simp only [List.length_map, List.length_set]; omega) ks_ok rfl ?_
      exact mr_ret 2 (fun f => rfl)) ?_
  exact mr_ret 1 (fun f => rfl)
theorem oe_climb_1 (he ke ki fi fa or : List Nat) (mi a g l w s : Nat) (m : kG) (kk : kG) (im : Nat) (le : List Nat) (ln : Nat) (ys : List Int32) (vt : Int32) (nu : List Nat) (nn : Nat) (rf : List Nat) (vw : Int32) (vq : Int32) (yc : List Int32) (yh : List Int32) (yg : List Int32) (xm : List Int32) (xi : List Int32) (xw : List Int32) (vp : Int32) (xn : List Int32) (xc : List Int32) (vs : Int32) (hA : iA (he, ke, ki, fi, fa, or, mi, a, g, l, w, s)) (hB : iB le ln) (hC : iC nu nn) (hD : iD rf) (hJ : iJ m ys yc yh yg) (hR : iR xm xw xn xc) (hK : iK im kk xi) (x : Int32) (hxl : 25 ≤ x.toInt) (y : Int32) : oI 86 178 [some (.ref 100), some (.int x), some (.int y), none, none] [some (.ref 138), some (.int x), some (.int y), none, none, none, none, none] (mk_M (cT im le ln ys vt nu nn rf vw vq yc yh yg) (kr (he, ke, ki, fi, fa, or, mi, a, g, l, w, s)) m kk (rT (he, ke, ki, fi, fa, or, mi, a, g, l, w, s) xm xi xw im le nu rf ln nn vp xn xc vs)) := by
  exact ⟨(-1), _, _, oc_climb_1 he ke ki fi fa or mi a g l w s im le ln ys vt nu nn rf vw vq yc yh yg m kk _ hA hB hC hD hJ hK.1 x hxl y, om_climb_1 he ke ki fi fa or mi a g l w s xm xi xw im le nu rf ln nn vp xn xc vs _ _ _ _ hA hB hC hD hR hK.2.1 x hxl y, (he, ke, ki, fi, fa, or, mi, a, g, l, w, s), m, kk, im, le, ln, ys, vt, nu, nn, (rf.set 1 (kg rf 1 + 1)), vw, vq, yc, yh, yg, xm, xi, xw, vp, xn, xc, vs, rfl, hA, hB, hC, iD_s hD, hJ, hR, hK⟩
set_option maxRecDepth 100000 in
theorem oc_climb_2 (he ke ki fi fa or : List Nat) (mi a g l w s : Nat) (im : Nat) (le : List Nat) (ln : Nat) (ys : List Int32) (vt : Int32) (nu : List Nat) (nn : Nat) (rf : List Nat) (vw vq : Int32) (yc yh yg : List Int32) (m kk : kG) (q : cR) (hA : iA (he, ke, ki, fi, fa, or, mi, a, g, l, w, s)) (hB : iB le ln) (hC : iC nu nn) (hD : iD rf) (hJ : iJ m ys yc yh yg) (k0 : kSh kk) (x : Nat) (hx : x < 25) (y : Int32) (hyu : y.toInt ≤ -1) : mm_R 86 0 [some (.ref 100), some (.int (nI x)), some (.int y), none, none] [] (mk_M (cT im le ln ys vt nu nn rf vw vq yc yh yg) (kr (he, ke, ki, fi, fa, or, mi, a, g, l, w, s)) m kk q) (some (.int (-2)), (mk_M (cT im le ln ys vt nu nn (rf.set 2 (kg rf 2 + 1)) vw vq yc yh yg) (kr (he, ke, ki, fi, fa, or, mi, a, g, l, w, s)) m kk q)) := by
  obtain ⟨hV, hst⟩ := id hA
  have hst2 : s ≤ 999 := hst
  obtain ⟨v1, v2, v3, v4, v5, v6, v7, v8, v9, v10, v11, v12, v13, v14, v15, v16⟩ := id hV
  have v6l := kO_len mi v7 or v6
  obtain ⟨b1, b2, b3⟩ := id hB
  obtain ⟨c1, c2, c3⟩ := id hC
  have d1 : rf.length = 7 := hD
  obtain ⟨j0, j1, j2, j3, j4⟩ := id hJ
  refine mr_seg 1 (pc1 := 1) (ls1 := [some (.ref 100), some (.int (nI x)), some (.int y), none, none]) (st1 := [.int (nI x)]) (M1 := (mk_M (cT im le ln ys vt nu nn rf vw vq yc yh yg) (kr (he, ke, ki, fi, fa, or, mi, a, g, l, w, s)) m kk q)) (fun f => rfl) ?_
  refine mr_call (y := 37) (y0 := 4) (L := [some (.int (nI x))]) (rest := []) (rr := some (.int 1)) (M1 := (mk_M (cT im le ln ys vt nu nn rf vw vq yc yh yg) (kr (he, ke, ki, fi, fa, or, mi, a, g, l, w, s)) m kk q)) (fun f => rfl) (by
      refine mr_seg 1 (pc1 := 1) (ls1 := [some (.int (nI x))]) (st1 := [.int (nI x)]) (M1 := (mk_M (cT im le ln ys vt nu nn rf vw vq yc yh yg) (kr (he, ke, ki, fi, fa, or, mi, a, g, l, w, s)) m kk q)) (fun f => rfl) ?_
      refine mr_f (C := (nI x) < 0) (fun e_ => absurd ((nI_ltI (a := x) (b := 0) (by omega) (by omega)).mp e_) (by omega)) (fun f => rfl) ?_
      refine mr_seg 2 (pc1 := 7) (ls1 := [some (.int (nI x))]) (st1 := [.int 25, .int (nI x)]) (M1 := (mk_M (cT im le ln ys vt nu nn rf vw vq yc yh yg) (kr (he, ke, ki, fi, fa, or, mi, a, g, l, w, s)) m kk q)) (fun f => rfl) ?_
      refine mr_f (C := 25 ≤ (nI x)) (fun e_ => absurd ((nI_leI (a := 25) (b := x) (by omega) (by omega)).mp e_) (by omega)) (fun f => rfl) ?_
      exact mr_ret 3 (fun f => rfl)) ?_
  refine mr_seg 2 (pc1 := 14) (ls1 := [some (.ref 100), some (.int (nI x)), some (.int y), none, none]) (st1 := [.int y]) (M1 := (mk_M (cT im le ln ys vt nu nn rf vw vq yc yh yg) (kr (he, ke, ki, fi, fa, or, mi, a, g, l, w, s)) m kk q)) (fun f => rfl) ?_
  refine mr_t (C := y < 0) (mz_lt_t 0 (by decide) (by omega)) (fun f => rfl) ?_
  refine mr_seg 2 (pc1 := 25) (ls1 := [some (.ref 100), some (.int (nI x)), some (.int y), none, none]) (st1 := [.int (-2), .ref 100]) (M1 := (mk_M (cT im le ln ys vt nu nn rf vw vq yc yh yg) (kr (he, ke, ki, fi, fa, or, mi, a, g, l, w, s)) m kk q)) (fun f => rfl) ?_
  refine mr_call (y := 12) (y0 := 28) (L := [some (.ref 100), some (.int (-2))]) (rest := []) (rr := some (.int (-2))) (M1 := (mk_M (cT im le ln ys vt nu nn (rf.set 2 (kg rf 2 + 1)) vw vq yc yh yg) (kr (he, ke, ki, fi, fa, or, mi, a, g, l, w, s)) m kk q)) (fun f => rfl) (by
      refine mr_seg 5 (pc1 := 7) (ls1 := [some (.ref 100), some (.int (-2))]) (st1 := [.int 2, .ref 105, .int 2, .ref 105]) (M1 := (mk_M (cT im le ln ys vt nu nn rf vw vq yc yh yg) (kr (he, ke, ki, fi, fa, or, mi, a, g, l, w, s)) m kk q)) (fun f => rfl) ?_
      refine mr_ldn (xs := (rf.map nI)) rfl rfl (k := 2) (by omega) (kg_ok (by omega)) ?_
      refine mr_seg 2 (pc1 := 10) (ls1 := [some (.ref 100), some (.int (-2))]) (st1 := [.int ((nI (kg rf 2)) + 1), .int 2, .ref 105]) (M1 := (mk_M (cT im le ln ys vt nu nn rf vw vq yc yh yg) (kr (he, ke, ki, fi, fa, or, mi, a, g, l, w, s)) m kk q)) (fun f => rfl) ?_
      refine mr_v (nI_add (kg rf 2) 1) ?_
      refine mr_stn (xs := (rf.map nI)) (ys := ((rf.set 2 (kg rf 2 + 1)).map nI)) (M2 := (mk_M (cT im le ln ys vt nu nn (rf.set 2 (kg rf 2 + 1)) vw vq yc yh yg) (kr (he, ke, ki, fi, fa, or, mi, a, g, l, w, s)) m kk q)) rfl rfl (k := 2) (by omega) (by simp only [List.length_map, List.length_set]; omega) ks_ok rfl ?_
      exact mr_ret 2 (fun f => rfl)) ?_
  exact mr_ret 1 (fun f => rfl)
set_option maxRecDepth 100000 in
theorem om_climb_2 (he ke ki fi fa or : List Nat) (mi a g l w s : Nat) (xm xi xw : List Int32) (im : Nat) (le nu rf : List Nat) (ln nn : Nat) (vp : Int32) (xn xc : List Int32) (vs : Int32) (c : cC) (n m kk : kG) (hA : iA (he, ke, ki, fi, fa, or, mi, a, g, l, w, s)) (hB : iB le ln) (hC : iC nu nn) (hD : iD rf) (hR : iR xm xw xn xc) (k1 : xi.length = 52) (x : Nat) (hx : x < 25) (y : Int32) (hyu : y.toInt ≤ -1) : mm_R 178 0 [some (.ref 138), some (.int (nI x)), some (.int y), none, none, none, none, none] [] (mk_M c n m kk (rT (he, ke, ki, fi, fa, or, mi, a, g, l, w, s) xm xi xw im le nu rf ln nn vp xn xc vs)) (some (.int (-2)), (mk_M c n m kk (rT (he, ke, ki, fi, fa, or, mi, a, g, l, w, s) xm xi xw im le nu (rf.set 2 (kg rf 2 + 1)) ln nn vp xn xc vs))) := by
  obtain ⟨hV, hst⟩ := id hA
  have hst2 : s ≤ 999 := hst
  obtain ⟨v1, v2, v3, v4, v5, v6, v7, v8, v9, v10, v11, v12, v13, v14, v15, v16⟩ := id hV
  have v6l := kO_len mi v7 or v6
  obtain ⟨b1, b2, b3⟩ := id hB
  obtain ⟨c1, c2, c3⟩ := id hC
  have d1 : rf.length = 7 := hD
  obtain ⟨r1, r2, r3, r4⟩ := id hR
  refine mr_seg 1 (pc1 := 1) (ls1 := [some (.ref 138), some (.int (nI x)), some (.int y), none, none, none, none, none]) (st1 := [.int (nI x)]) (M1 := (mk_M c n m kk (rT (he, ke, ki, fi, fa, or, mi, a, g, l, w, s) xm xi xw im le nu rf ln nn vp xn xc vs))) (fun f => rfl) ?_
  refine mr_call (y := 140) (y0 := 4) (L := [some (.int (nI x))]) (rest := []) (rr := some (.int 1)) (M1 := (mk_M c n m kk (rT (he, ke, ki, fi, fa, or, mi, a, g, l, w, s) xm xi xw im le nu rf ln nn vp xn xc vs))) (fun f => rfl) (by
      refine mr_seg 3 (pc1 := 4) (ls1 := [some (.int (nI x))]) (st1 := [.int 24, .int 0, .int (nI x)]) (M1 := (mk_M c n m kk (rT (he, ke, ki, fi, fa, or, mi, a, g, l, w, s) xm xi xw im le nu rf ln nn vp xn xc vs))) (fun f => rfl) ?_
      refine mr_call (y := 135) (y0 := 7) (L := [some (.int (nI x)), some (.int 0), some (.int 24)]) (rest := []) (rr := some (.int 1)) (M1 := (mk_M c n m kk (rT (he, ke, ki, fi, fa, or, mi, a, g, l, w, s) xm xi xw im le nu rf ln nn vp xn xc vs))) (fun f => rfl) (by
          refine mr_seg 2 (pc1 := 2) (ls1 := [some (.int (nI x)), some (.int 0), some (.int 24)]) (st1 := [.int 0, .int (nI x)]) (M1 := (mk_M c n m kk (rT (he, ke, ki, fi, fa, or, mi, a, g, l, w, s) xm xi xw im le nu rf ln nn vp xn xc vs))) (fun f => rfl) ?_
          refine mr_f (C := (nI x) < 0) (fun e_ => absurd ((nI_ltI (a := x) (b := 0) (by omega) (by omega)).mp e_) (by omega)) (fun f => rfl) ?_
          refine mr_seg 2 (pc1 := 7) (ls1 := [some (.int (nI x)), some (.int 0), some (.int 24)]) (st1 := [.int 24, .int (nI x)]) (M1 := (mk_M c n m kk (rT (he, ke, ki, fi, fa, or, mi, a, g, l, w, s) xm xi xw im le nu rf ln nn vp xn xc vs))) (fun f => rfl) ?_
          refine mr_f (C := 24 < (nI x)) (fun e_ => absurd ((nI_ltI (a := 24) (b := x) (by omega) (by omega)).mp e_) (by omega)) (fun f => rfl) ?_
          exact mr_ret 3 (fun f => rfl)) ?_
      exact mr_ret 1 (fun f => rfl)) ?_
  refine mr_seg 4 (pc1 := 16) (ls1 := [some (.ref 138), some (.int (nI x)), some (.int y), none, none, none, none, none]) (st1 := [.int 1, .int 0, .int y]) (M1 := (mk_M c n m kk (rT (he, ke, ki, fi, fa, or, mi, a, g, l, w, s) xm xi xw im le nu rf ln nn vp xn xc vs))) (fun f => rfl) ?_
  refine mr_call (y := 135) (y0 := 19) (L := [some (.int y), some (.int 0), some (.int 1)]) (rest := []) (rr := some (.int 0)) (M1 := (mk_M c n m kk (rT (he, ke, ki, fi, fa, or, mi, a, g, l, w, s) xm xi xw im le nu rf ln nn vp xn xc vs))) (fun f => rfl) (by
      refine mr_seg 2 (pc1 := 2) (ls1 := [some (.int y), some (.int 0), some (.int 1)]) (st1 := [.int 0, .int y]) (M1 := (mk_M c n m kk (rT (he, ke, ki, fi, fa, or, mi, a, g, l, w, s) xm xi xw im le nu rf ln nn vp xn xc vs))) (fun f => rfl) ?_
      refine mr_t (C := y < 0) (mz_lt_t 0 (by decide) (by omega)) (fun f => rfl) ?_
      exact mr_ret 2 (fun f => rfl)) ?_
  refine mr_seg 3 (pc1 := 25) (ls1 := [some (.ref 138), some (.int (nI x)), some (.int y), none, none, none, none, none]) (st1 := [.int (-2), .ref 138]) (M1 := (mk_M c n m kk (rT (he, ke, ki, fi, fa, or, mi, a, g, l, w, s) xm xi xw im le nu rf ln nn vp xn xc vs))) (fun f => rfl) ?_
  refine mr_call (y := 130) (y0 := 28) (L := [some (.ref 138), some (.int (-2))]) (rest := []) (rr := some (.int (-2))) (M1 := (mk_M c n m kk (rT (he, ke, ki, fi, fa, or, mi, a, g, l, w, s) xm xi xw im le nu (rf.set 2 (kg rf 2 + 1)) ln nn vp xn xc vs))) (fun f => rfl) (by
      refine mr_seg 5 (pc1 := 7) (ls1 := [some (.ref 138), some (.int (-2))]) (st1 := [.int 2, .ref 145, .int 2, .ref 145]) (M1 := (mk_M c n m kk (rT (he, ke, ki, fi, fa, or, mi, a, g, l, w, s) xm xi xw im le nu rf ln nn vp xn xc vs))) (fun f => rfl) ?_
      refine mr_ldn (xs := (rf.map nI)) rfl rfl (k := 2) (by omega) (kg_ok (by omega)) ?_
      refine mr_seg 2 (pc1 := 10) (ls1 := [some (.ref 138), some (.int (-2))]) (st1 := [.int ((nI (kg rf 2)) + 1), .int 2, .ref 145]) (M1 := (mk_M c n m kk (rT (he, ke, ki, fi, fa, or, mi, a, g, l, w, s) xm xi xw im le nu rf ln nn vp xn xc vs))) (fun f => rfl) ?_
      refine mr_v (nI_add (kg rf 2) 1) ?_
      refine mr_stn (xs := (rf.map nI)) (ys := ((rf.set 2 (kg rf 2 + 1)).map nI)) (M2 := (mk_M c n m kk (rT (he, ke, ki, fi, fa, or, mi, a, g, l, w, s) xm xi xw im le nu (rf.set 2 (kg rf 2 + 1)) ln nn vp xn xc vs))) rfl rfl (k := 2) (by omega) (by simp only [List.length_map, List.length_set]; omega) ks_ok rfl ?_
      exact mr_ret 2 (fun f => rfl)) ?_
  exact mr_ret 1 (fun f => rfl)
theorem oe_climb_2 (he ke ki fi fa or : List Nat) (mi a g l w s : Nat) (m : kG) (kk : kG) (im : Nat) (le : List Nat) (ln : Nat) (ys : List Int32) (vt : Int32) (nu : List Nat) (nn : Nat) (rf : List Nat) (vw : Int32) (vq : Int32) (yc : List Int32) (yh : List Int32) (yg : List Int32) (xm : List Int32) (xi : List Int32) (xw : List Int32) (vp : Int32) (xn : List Int32) (xc : List Int32) (vs : Int32) (hA : iA (he, ke, ki, fi, fa, or, mi, a, g, l, w, s)) (hB : iB le ln) (hC : iC nu nn) (hD : iD rf) (hJ : iJ m ys yc yh yg) (hR : iR xm xw xn xc) (hK : iK im kk xi) (x : Nat) (hx : x < 25) (y : Int32) (hyu : y.toInt ≤ -1) : oI 86 178 [some (.ref 100), some (.int (nI x)), some (.int y), none, none] [some (.ref 138), some (.int (nI x)), some (.int y), none, none, none, none, none] (mk_M (cT im le ln ys vt nu nn rf vw vq yc yh yg) (kr (he, ke, ki, fi, fa, or, mi, a, g, l, w, s)) m kk (rT (he, ke, ki, fi, fa, or, mi, a, g, l, w, s) xm xi xw im le nu rf ln nn vp xn xc vs)) := by
  exact ⟨(-2), _, _, oc_climb_2 he ke ki fi fa or mi a g l w s im le ln ys vt nu nn rf vw vq yc yh yg m kk _ hA hB hC hD hJ hK.1 x hx y hyu, om_climb_2 he ke ki fi fa or mi a g l w s xm xi xw im le nu rf ln nn vp xn xc vs _ _ _ _ hA hB hC hD hR hK.2.1 x hx y hyu, (he, ke, ki, fi, fa, or, mi, a, g, l, w, s), m, kk, im, le, ln, ys, vt, nu, nn, (rf.set 2 (kg rf 2 + 1)), vw, vq, yc, yh, yg, xm, xi, xw, vp, xn, xc, vs, rfl, hA, hB, hC, iD_s hD, hJ, hR, hK⟩
set_option maxRecDepth 100000 in
theorem oc_climb_3 (he ke ki fi fa or : List Nat) (mi a g l w s : Nat) (im : Nat) (le : List Nat) (ln : Nat) (ys : List Int32) (vt : Int32) (nu : List Nat) (nn : Nat) (rf : List Nat) (vw vq : Int32) (yc yh yg : List Int32) (m kk : kG) (q : cR) (hA : iA (he, ke, ki, fi, fa, or, mi, a, g, l, w, s)) (hB : iB le ln) (hC : iC nu nn) (hD : iD rf) (hJ : iJ m ys yc yh yg) (k0 : kSh kk) (x : Nat) (hx : x < 25) (y : Int32) (hyl : 2 ≤ y.toInt) : mm_R 86 0 [some (.ref 100), some (.int (nI x)), some (.int y), none, none] [] (mk_M (cT im le ln ys vt nu nn rf vw vq yc yh yg) (kr (he, ke, ki, fi, fa, or, mi, a, g, l, w, s)) m kk q) (some (.int (-2)), (mk_M (cT im le ln ys vt nu nn (rf.set 2 (kg rf 2 + 1)) vw vq yc yh yg) (kr (he, ke, ki, fi, fa, or, mi, a, g, l, w, s)) m kk q)) := by
  obtain ⟨hV, hst⟩ := id hA
  have hst2 : s ≤ 999 := hst
  obtain ⟨v1, v2, v3, v4, v5, v6, v7, v8, v9, v10, v11, v12, v13, v14, v15, v16⟩ := id hV
  have v6l := kO_len mi v7 or v6
  obtain ⟨b1, b2, b3⟩ := id hB
  obtain ⟨c1, c2, c3⟩ := id hC
  have d1 : rf.length = 7 := hD
  obtain ⟨j0, j1, j2, j3, j4⟩ := id hJ
  refine mr_seg 1 (pc1 := 1) (ls1 := [some (.ref 100), some (.int (nI x)), some (.int y), none, none]) (st1 := [.int (nI x)]) (M1 := (mk_M (cT im le ln ys vt nu nn rf vw vq yc yh yg) (kr (he, ke, ki, fi, fa, or, mi, a, g, l, w, s)) m kk q)) (fun f => rfl) ?_
  refine mr_call (y := 37) (y0 := 4) (L := [some (.int (nI x))]) (rest := []) (rr := some (.int 1)) (M1 := (mk_M (cT im le ln ys vt nu nn rf vw vq yc yh yg) (kr (he, ke, ki, fi, fa, or, mi, a, g, l, w, s)) m kk q)) (fun f => rfl) (by
      refine mr_seg 1 (pc1 := 1) (ls1 := [some (.int (nI x))]) (st1 := [.int (nI x)]) (M1 := (mk_M (cT im le ln ys vt nu nn rf vw vq yc yh yg) (kr (he, ke, ki, fi, fa, or, mi, a, g, l, w, s)) m kk q)) (fun f => rfl) ?_
      refine mr_f (C := (nI x) < 0) (fun e_ => absurd ((nI_ltI (a := x) (b := 0) (by omega) (by omega)).mp e_) (by omega)) (fun f => rfl) ?_
      refine mr_seg 2 (pc1 := 7) (ls1 := [some (.int (nI x))]) (st1 := [.int 25, .int (nI x)]) (M1 := (mk_M (cT im le ln ys vt nu nn rf vw vq yc yh yg) (kr (he, ke, ki, fi, fa, or, mi, a, g, l, w, s)) m kk q)) (fun f => rfl) ?_
      refine mr_f (C := 25 ≤ (nI x)) (fun e_ => absurd ((nI_leI (a := 25) (b := x) (by omega) (by omega)).mp e_) (by omega)) (fun f => rfl) ?_
      exact mr_ret 3 (fun f => rfl)) ?_
  refine mr_seg 2 (pc1 := 14) (ls1 := [some (.ref 100), some (.int (nI x)), some (.int y), none, none]) (st1 := [.int y]) (M1 := (mk_M (cT im le ln ys vt nu nn rf vw vq yc yh yg) (kr (he, ke, ki, fi, fa, or, mi, a, g, l, w, s)) m kk q)) (fun f => rfl) ?_
  refine mr_f (C := y < 0) (mz_lt_f 0 (by decide) (by omega)) (fun f => rfl) ?_
  refine mr_seg 2 (pc1 := 19) (ls1 := [some (.ref 100), some (.int (nI x)), some (.int y), none, none]) (st1 := [.int 1, .int y]) (M1 := (mk_M (cT im le ln ys vt nu nn rf vw vq yc yh yg) (kr (he, ke, ki, fi, fa, or, mi, a, g, l, w, s)) m kk q)) (fun f => rfl) ?_
  refine mr_f (C := y ≤ 1) (mz_le_f 1 (by decide) (by omega)) (fun f => rfl) ?_
  refine mr_seg 2 (pc1 := 25) (ls1 := [some (.ref 100), some (.int (nI x)), some (.int y), none, none]) (st1 := [.int (-2), .ref 100]) (M1 := (mk_M (cT im le ln ys vt nu nn rf vw vq yc yh yg) (kr (he, ke, ki, fi, fa, or, mi, a, g, l, w, s)) m kk q)) (fun f => rfl) ?_
  refine mr_call (y := 12) (y0 := 28) (L := [some (.ref 100), some (.int (-2))]) (rest := []) (rr := some (.int (-2))) (M1 := (mk_M (cT im le ln ys vt nu nn (rf.set 2 (kg rf 2 + 1)) vw vq yc yh yg) (kr (he, ke, ki, fi, fa, or, mi, a, g, l, w, s)) m kk q)) (fun f => rfl) (by
      refine mr_seg 5 (pc1 := 7) (ls1 := [some (.ref 100), some (.int (-2))]) (st1 := [.int 2, .ref 105, .int 2, .ref 105]) (M1 := (mk_M (cT im le ln ys vt nu nn rf vw vq yc yh yg) (kr (he, ke, ki, fi, fa, or, mi, a, g, l, w, s)) m kk q)) (fun f => rfl) ?_
      refine mr_ldn (xs := (rf.map nI)) rfl rfl (k := 2) (by omega) (kg_ok (by omega)) ?_
      refine mr_seg 2 (pc1 := 10) (ls1 := [some (.ref 100), some (.int (-2))]) (st1 := [.int ((nI (kg rf 2)) + 1), .int 2, .ref 105]) (M1 := (mk_M (cT im le ln ys vt nu nn rf vw vq yc yh yg) (kr (he, ke, ki, fi, fa, or, mi, a, g, l, w, s)) m kk q)) (fun f => rfl) ?_
      refine mr_v (nI_add (kg rf 2) 1) ?_
      refine mr_stn (xs := (rf.map nI)) (ys := ((rf.set 2 (kg rf 2 + 1)).map nI)) (M2 := (mk_M (cT im le ln ys vt nu nn (rf.set 2 (kg rf 2 + 1)) vw vq yc yh yg) (kr (he, ke, ki, fi, fa, or, mi, a, g, l, w, s)) m kk q)) rfl rfl (k := 2) (by omega) (by simp only [List.length_map, List.length_set]; omega) ks_ok rfl ?_
      exact mr_ret 2 (fun f => rfl)) ?_
  exact mr_ret 1 (fun f => rfl)
set_option maxRecDepth 100000 in
theorem om_climb_3 (he ke ki fi fa or : List Nat) (mi a g l w s : Nat) (xm xi xw : List Int32) (im : Nat) (le nu rf : List Nat) (ln nn : Nat) (vp : Int32) (xn xc : List Int32) (vs : Int32) (c : cC) (n m kk : kG) (hA : iA (he, ke, ki, fi, fa, or, mi, a, g, l, w, s)) (hB : iB le ln) (hC : iC nu nn) (hD : iD rf) (hR : iR xm xw xn xc) (k1 : xi.length = 52) (x : Nat) (hx : x < 25) (y : Int32) (hyl : 2 ≤ y.toInt) : mm_R 178 0 [some (.ref 138), some (.int (nI x)), some (.int y), none, none, none, none, none] [] (mk_M c n m kk (rT (he, ke, ki, fi, fa, or, mi, a, g, l, w, s) xm xi xw im le nu rf ln nn vp xn xc vs)) (some (.int (-2)), (mk_M c n m kk (rT (he, ke, ki, fi, fa, or, mi, a, g, l, w, s) xm xi xw im le nu (rf.set 2 (kg rf 2 + 1)) ln nn vp xn xc vs))) := by
  obtain ⟨hV, hst⟩ := id hA
  have hst2 : s ≤ 999 := hst
  obtain ⟨v1, v2, v3, v4, v5, v6, v7, v8, v9, v10, v11, v12, v13, v14, v15, v16⟩ := id hV
  have v6l := kO_len mi v7 or v6
  obtain ⟨b1, b2, b3⟩ := id hB
  obtain ⟨c1, c2, c3⟩ := id hC
  have d1 : rf.length = 7 := hD
  obtain ⟨r1, r2, r3, r4⟩ := id hR
  refine mr_seg 1 (pc1 := 1) (ls1 := [some (.ref 138), some (.int (nI x)), some (.int y), none, none, none, none, none]) (st1 := [.int (nI x)]) (M1 := (mk_M c n m kk (rT (he, ke, ki, fi, fa, or, mi, a, g, l, w, s) xm xi xw im le nu rf ln nn vp xn xc vs))) (fun f => rfl) ?_
  refine mr_call (y := 140) (y0 := 4) (L := [some (.int (nI x))]) (rest := []) (rr := some (.int 1)) (M1 := (mk_M c n m kk (rT (he, ke, ki, fi, fa, or, mi, a, g, l, w, s) xm xi xw im le nu rf ln nn vp xn xc vs))) (fun f => rfl) (by
      refine mr_seg 3 (pc1 := 4) (ls1 := [some (.int (nI x))]) (st1 := [.int 24, .int 0, .int (nI x)]) (M1 := (mk_M c n m kk (rT (he, ke, ki, fi, fa, or, mi, a, g, l, w, s) xm xi xw im le nu rf ln nn vp xn xc vs))) (fun f => rfl) ?_
      refine mr_call (y := 135) (y0 := 7) (L := [some (.int (nI x)), some (.int 0), some (.int 24)]) (rest := []) (rr := some (.int 1)) (M1 := (mk_M c n m kk (rT (he, ke, ki, fi, fa, or, mi, a, g, l, w, s) xm xi xw im le nu rf ln nn vp xn xc vs))) (fun f => rfl) (by
          refine mr_seg 2 (pc1 := 2) (ls1 := [some (.int (nI x)), some (.int 0), some (.int 24)]) (st1 := [.int 0, .int (nI x)]) (M1 := (mk_M c n m kk (rT (he, ke, ki, fi, fa, or, mi, a, g, l, w, s) xm xi xw im le nu rf ln nn vp xn xc vs))) (fun f => rfl) ?_
          refine mr_f (C := (nI x) < 0) (fun e_ => absurd ((nI_ltI (a := x) (b := 0) (by omega) (by omega)).mp e_) (by omega)) (fun f => rfl) ?_
          refine mr_seg 2 (pc1 := 7) (ls1 := [some (.int (nI x)), some (.int 0), some (.int 24)]) (st1 := [.int 24, .int (nI x)]) (M1 := (mk_M c n m kk (rT (he, ke, ki, fi, fa, or, mi, a, g, l, w, s) xm xi xw im le nu rf ln nn vp xn xc vs))) (fun f => rfl) ?_
          refine mr_f (C := 24 < (nI x)) (fun e_ => absurd ((nI_ltI (a := 24) (b := x) (by omega) (by omega)).mp e_) (by omega)) (fun f => rfl) ?_
          exact mr_ret 3 (fun f => rfl)) ?_
      exact mr_ret 1 (fun f => rfl)) ?_
  refine mr_seg 4 (pc1 := 16) (ls1 := [some (.ref 138), some (.int (nI x)), some (.int y), none, none, none, none, none]) (st1 := [.int 1, .int 0, .int y]) (M1 := (mk_M c n m kk (rT (he, ke, ki, fi, fa, or, mi, a, g, l, w, s) xm xi xw im le nu rf ln nn vp xn xc vs))) (fun f => rfl) ?_
  refine mr_call (y := 135) (y0 := 19) (L := [some (.int y), some (.int 0), some (.int 1)]) (rest := []) (rr := some (.int 0)) (M1 := (mk_M c n m kk (rT (he, ke, ki, fi, fa, or, mi, a, g, l, w, s) xm xi xw im le nu rf ln nn vp xn xc vs))) (fun f => rfl) (by
      refine mr_seg 2 (pc1 := 2) (ls1 := [some (.int y), some (.int 0), some (.int 1)]) (st1 := [.int 0, .int y]) (M1 := (mk_M c n m kk (rT (he, ke, ki, fi, fa, or, mi, a, g, l, w, s) xm xi xw im le nu rf ln nn vp xn xc vs))) (fun f => rfl) ?_
      refine mr_f (C := y < 0) (mz_lt_f 0 (by decide) (by omega)) (fun f => rfl) ?_
      refine mr_seg 2 (pc1 := 7) (ls1 := [some (.int y), some (.int 0), some (.int 1)]) (st1 := [.int 1, .int y]) (M1 := (mk_M c n m kk (rT (he, ke, ki, fi, fa, or, mi, a, g, l, w, s) xm xi xw im le nu rf ln nn vp xn xc vs))) (fun f => rfl) ?_
      refine mr_t (C := 1 < y) (mz_gt_t 1 (by decide) (by omega)) (fun f => rfl) ?_
      exact mr_ret 2 (fun f => rfl)) ?_
  refine mr_seg 3 (pc1 := 25) (ls1 := [some (.ref 138), some (.int (nI x)), some (.int y), none, none, none, none, none]) (st1 := [.int (-2), .ref 138]) (M1 := (mk_M c n m kk (rT (he, ke, ki, fi, fa, or, mi, a, g, l, w, s) xm xi xw im le nu rf ln nn vp xn xc vs))) (fun f => rfl) ?_
  refine mr_call (y := 130) (y0 := 28) (L := [some (.ref 138), some (.int (-2))]) (rest := []) (rr := some (.int (-2))) (M1 := (mk_M c n m kk (rT (he, ke, ki, fi, fa, or, mi, a, g, l, w, s) xm xi xw im le nu (rf.set 2 (kg rf 2 + 1)) ln nn vp xn xc vs))) (fun f => rfl) (by
      refine mr_seg 5 (pc1 := 7) (ls1 := [some (.ref 138), some (.int (-2))]) (st1 := [.int 2, .ref 145, .int 2, .ref 145]) (M1 := (mk_M c n m kk (rT (he, ke, ki, fi, fa, or, mi, a, g, l, w, s) xm xi xw im le nu rf ln nn vp xn xc vs))) (fun f => rfl) ?_
      refine mr_ldn (xs := (rf.map nI)) rfl rfl (k := 2) (by omega) (kg_ok (by omega)) ?_
      refine mr_seg 2 (pc1 := 10) (ls1 := [some (.ref 138), some (.int (-2))]) (st1 := [.int ((nI (kg rf 2)) + 1), .int 2, .ref 145]) (M1 := (mk_M c n m kk (rT (he, ke, ki, fi, fa, or, mi, a, g, l, w, s) xm xi xw im le nu rf ln nn vp xn xc vs))) (fun f => rfl) ?_
      refine mr_v (nI_add (kg rf 2) 1) ?_
      refine mr_stn (xs := (rf.map nI)) (ys := ((rf.set 2 (kg rf 2 + 1)).map nI)) (M2 := (mk_M c n m kk (rT (he, ke, ki, fi, fa, or, mi, a, g, l, w, s) xm xi xw im le nu (rf.set 2 (kg rf 2 + 1)) ln nn vp xn xc vs))) rfl rfl (k := 2) (by omega) (by simp only [List.length_map, List.length_set]; omega) ks_ok rfl ?_
      exact mr_ret 2 (fun f => rfl)) ?_
  exact mr_ret 1 (fun f => rfl)
theorem oe_climb_3 (he ke ki fi fa or : List Nat) (mi a g l w s : Nat) (m : kG) (kk : kG) (im : Nat) (le : List Nat) (ln : Nat) (ys : List Int32) (vt : Int32) (nu : List Nat) (nn : Nat) (rf : List Nat) (vw : Int32) (vq : Int32) (yc : List Int32) (yh : List Int32) (yg : List Int32) (xm : List Int32) (xi : List Int32) (xw : List Int32) (vp : Int32) (xn : List Int32) (xc : List Int32) (vs : Int32) (hA : iA (he, ke, ki, fi, fa, or, mi, a, g, l, w, s)) (hB : iB le ln) (hC : iC nu nn) (hD : iD rf) (hJ : iJ m ys yc yh yg) (hR : iR xm xw xn xc) (hK : iK im kk xi) (x : Nat) (hx : x < 25) (y : Int32) (hyl : 2 ≤ y.toInt) : oI 86 178 [some (.ref 100), some (.int (nI x)), some (.int y), none, none] [some (.ref 138), some (.int (nI x)), some (.int y), none, none, none, none, none] (mk_M (cT im le ln ys vt nu nn rf vw vq yc yh yg) (kr (he, ke, ki, fi, fa, or, mi, a, g, l, w, s)) m kk (rT (he, ke, ki, fi, fa, or, mi, a, g, l, w, s) xm xi xw im le nu rf ln nn vp xn xc vs)) := by
  exact ⟨(-2), _, _, oc_climb_3 he ke ki fi fa or mi a g l w s im le ln ys vt nu nn rf vw vq yc yh yg m kk _ hA hB hC hD hJ hK.1 x hx y hyl, om_climb_3 he ke ki fi fa or mi a g l w s xm xi xw im le nu rf ln nn vp xn xc vs _ _ _ _ hA hB hC hD hR hK.2.1 x hx y hyl, (he, ke, ki, fi, fa, or, mi, a, g, l, w, s), m, kk, im, le, ln, ys, vt, nu, nn, (rf.set 2 (kg rf 2 + 1)), vw, vq, yc, yh, yg, xm, xi, xw, vp, xn, xc, vs, rfl, hA, hB, hC, iD_s hD, hJ, hR, hK⟩
set_option maxRecDepth 100000 in
theorem oc_start_0 (he ke ki fi fa or : List Nat) (mi a g l w s : Nat) (im : Nat) (le : List Nat) (ln : Nat) (ys : List Int32) (vt : Int32) (nu : List Nat) (nn : Nat) (rf : List Nat) (vw vq : Int32) (yc yh yg : List Int32) (m kk : kG) (q : cR) (hA : iA (he, ke, ki, fi, fa, or, mi, a, g, l, w, s)) (hB : iB le ln) (hC : iC nu nn) (hD : iD rf) (hJ : iJ m ys yc yh yg) (k0 : kSh kk) (x : Int32) (hxu : x.toInt ≤ -1) : mm_R 94 0 [some (.ref 100), some (.int x), none, none] [] (mk_M (cT im le ln ys vt nu nn rf vw vq yc yh yg) (kr (he, ke, ki, fi, fa, or, mi, a, g, l, w, s)) m kk q) (some (.int (-2)), (mk_M (cT im le ln ys vt nu nn (rf.set 2 (kg rf 2 + 1)) vw vq yc yh yg) (kr (he, ke, ki, fi, fa, or, mi, a, g, l, w, s)) m kk q)) := by
  obtain ⟨hV, hst⟩ := id hA
  have hst2 : s ≤ 999 := hst
  obtain ⟨v1, v2, v3, v4, v5, v6, v7, v8, v9, v10, v11, v12, v13, v14, v15, v16⟩ := id hV
  have v6l := kO_len mi v7 or v6
  obtain ⟨b1, b2, b3⟩ := id hB
  obtain ⟨c1, c2, c3⟩ := id hC
  have d1 : rf.length = 7 := hD
  obtain ⟨j0, j1, j2, j3, j4⟩ := id hJ
  refine mr_seg 1 (pc1 := 1) (ls1 := [some (.ref 100), some (.int x), none, none]) (st1 := [.int x]) (M1 := (mk_M (cT im le ln ys vt nu nn rf vw vq yc yh yg) (kr (he, ke, ki, fi, fa, or, mi, a, g, l, w, s)) m kk q)) (fun f => rfl) ?_
  refine mr_t (C := x < 0) (mz_lt_t 0 (by decide) (by omega)) (fun f => rfl) ?_
  refine mr_seg 2 (pc1 := 12) (ls1 := [some (.ref 100), some (.int x), none, none]) (st1 := [.int (-2), .ref 100]) (M1 := (mk_M (cT im le ln ys vt nu nn rf vw vq yc yh yg) (kr (he, ke, ki, fi, fa, or, mi, a, g, l, w, s)) m kk q)) (fun f => rfl) ?_
  refine mr_call (y := 12) (y0 := 15) (L := [some (.ref 100), some (.int (-2))]) (rest := []) (rr := some (.int (-2))) (M1 := (mk_M (cT im le ln ys vt nu nn (rf.set 2 (kg rf 2 + 1)) vw vq yc yh yg) (kr (he, ke, ki, fi, fa, or, mi, a, g, l, w, s)) m kk q)) (fun f => rfl) (by
      refine mr_seg 5 (pc1 := 7) (ls1 := [some (.ref 100), some (.int (-2))]) (st1 := [.int 2, .ref 105, .int 2, .ref 105]) (M1 := (mk_M (cT im le ln ys vt nu nn rf vw vq yc yh yg) (kr (he, ke, ki, fi, fa, or, mi, a, g, l, w, s)) m kk q)) (fun f => rfl) ?_
      refine mr_ldn (xs := (rf.map nI)) rfl rfl (k := 2) (by omega) (kg_ok (by omega)) ?_
      refine mr_seg 2 (pc1 := 10) (ls1 := [some (.ref 100), some (.int (-2))]) (st1 := [.int ((nI (kg rf 2)) + 1), .int 2, .ref 105]) (M1 := (mk_M (cT im le ln ys vt nu nn rf vw vq yc yh yg) (kr (he, ke, ki, fi, fa, or, mi, a, g, l, w, s)) m kk q)) (fun f => rfl) ?_
      refine mr_v (nI_add (kg rf 2) 1) ?_
      refine mr_stn (xs := (rf.map nI)) (ys := ((rf.set 2 (kg rf 2 + 1)).map nI)) (M2 := (mk_M (cT im le ln ys vt nu nn (rf.set 2 (kg rf 2 + 1)) vw vq yc yh yg) (kr (he, ke, ki, fi, fa, or, mi, a, g, l, w, s)) m kk q)) rfl rfl (k := 2) (by omega) (by simp only [List.length_map, List.length_set]; omega) ks_ok rfl ?_
      exact mr_ret 2 (fun f => rfl)) ?_
  exact mr_ret 1 (fun f => rfl)
set_option maxRecDepth 100000 in
theorem om_start_0 (he ke ki fi fa or : List Nat) (mi a g l w s : Nat) (xm xi xw : List Int32) (im : Nat) (le nu rf : List Nat) (ln nn : Nat) (vp : Int32) (xn xc : List Int32) (vs : Int32) (c : cC) (n m kk : kG) (hA : iA (he, ke, ki, fi, fa, or, mi, a, g, l, w, s)) (hB : iB le ln) (hC : iC nu nn) (hD : iD rf) (hR : iR xm xw xn xc) (k1 : xi.length = 52) (x : Int32) (hxu : x.toInt ≤ -1) : mm_R 187 0 [some (.ref 138), some (.int x), none, none, none, none] [] (mk_M c n m kk (rT (he, ke, ki, fi, fa, or, mi, a, g, l, w, s) xm xi xw im le nu rf ln nn vp xn xc vs)) (some (.int (-2)), (mk_M c n m kk (rT (he, ke, ki, fi, fa, or, mi, a, g, l, w, s) xm xi xw im le nu (rf.set 2 (kg rf 2 + 1)) ln nn vp xn xc vs))) := by
  obtain ⟨hV, hst⟩ := id hA
  have hst2 : s ≤ 999 := hst
  obtain ⟨v1, v2, v3, v4, v5, v6, v7, v8, v9, v10, v11, v12, v13, v14, v15, v16⟩ := id hV
  have v6l := kO_len mi v7 or v6
  obtain ⟨b1, b2, b3⟩ := id hB
  obtain ⟨c1, c2, c3⟩ := id hC
  have d1 : rf.length = 7 := hD
  obtain ⟨r1, r2, r3, r4⟩ := id hR
  refine mr_seg 3 (pc1 := 3) (ls1 := [some (.ref 138), some (.int x), none, none, none, none]) (st1 := [.int 1, .int 0, .int x]) (M1 := (mk_M c n m kk (rT (he, ke, ki, fi, fa, or, mi, a, g, l, w, s) xm xi xw im le nu rf ln nn vp xn xc vs))) (fun f => rfl) ?_
  refine mr_call (y := 135) (y0 := 6) (L := [some (.int x), some (.int 0), some (.int 1)]) (rest := []) (rr := some (.int 0)) (M1 := (mk_M c n m kk (rT (he, ke, ki, fi, fa, or, mi, a, g, l, w, s) xm xi xw im le nu rf ln nn vp xn xc vs))) (fun f => rfl) (by
      refine mr_seg 2 (pc1 := 2) (ls1 := [some (.int x), some (.int 0), some (.int 1)]) (st1 := [.int 0, .int x]) (M1 := (mk_M c n m kk (rT (he, ke, ki, fi, fa, or, mi, a, g, l, w, s) xm xi xw im le nu rf ln nn vp xn xc vs))) (fun f => rfl) ?_
      refine mr_t (C := x < 0) (mz_lt_t 0 (by decide) (by omega)) (fun f => rfl) ?_
      exact mr_ret 2 (fun f => rfl)) ?_
  refine mr_seg 3 (pc1 := 12) (ls1 := [some (.ref 138), some (.int x), none, none, none, none]) (st1 := [.int (-2), .ref 138]) (M1 := (mk_M c n m kk (rT (he, ke, ki, fi, fa, or, mi, a, g, l, w, s) xm xi xw im le nu rf ln nn vp xn xc vs))) (fun f => rfl) ?_
  refine mr_call (y := 130) (y0 := 15) (L := [some (.ref 138), some (.int (-2))]) (rest := []) (rr := some (.int (-2))) (M1 := (mk_M c n m kk (rT (he, ke, ki, fi, fa, or, mi, a, g, l, w, s) xm xi xw im le nu (rf.set 2 (kg rf 2 + 1)) ln nn vp xn xc vs))) (fun f => rfl) (by
      refine mr_seg 5 (pc1 := 7) (ls1 := [some (.ref 138), some (.int (-2))]) (st1 := [.int 2, .ref 145, .int 2, .ref 145]) (M1 := (mk_M c n m kk (rT (he, ke, ki, fi, fa, or, mi, a, g, l, w, s) xm xi xw im le nu rf ln nn vp xn xc vs))) (fun f => rfl) ?_
      refine mr_ldn (xs := (rf.map nI)) rfl rfl (k := 2) (by omega) (kg_ok (by omega)) ?_
      refine mr_seg 2 (pc1 := 10) (ls1 := [some (.ref 138), some (.int (-2))]) (st1 := [.int ((nI (kg rf 2)) + 1), .int 2, .ref 145]) (M1 := (mk_M c n m kk (rT (he, ke, ki, fi, fa, or, mi, a, g, l, w, s) xm xi xw im le nu rf ln nn vp xn xc vs))) (fun f => rfl) ?_
      refine mr_v (nI_add (kg rf 2) 1) ?_
      refine mr_stn (xs := (rf.map nI)) (ys := ((rf.set 2 (kg rf 2 + 1)).map nI)) (M2 := (mk_M c n m kk (rT (he, ke, ki, fi, fa, or, mi, a, g, l, w, s) xm xi xw im le nu (rf.set 2 (kg rf 2 + 1)) ln nn vp xn xc vs))) rfl rfl (k := 2) (by omega) (by simp only [List.length_map, List.length_set]; omega) ks_ok rfl ?_
      exact mr_ret 2 (fun f => rfl)) ?_
  exact mr_ret 1 (fun f => rfl)
theorem oe_start_0 (he ke ki fi fa or : List Nat) (mi a g l w s : Nat) (m : kG) (kk : kG) (im : Nat) (le : List Nat) (ln : Nat) (ys : List Int32) (vt : Int32) (nu : List Nat) (nn : Nat) (rf : List Nat) (vw : Int32) (vq : Int32) (yc : List Int32) (yh : List Int32) (yg : List Int32) (xm : List Int32) (xi : List Int32) (xw : List Int32) (vp : Int32) (xn : List Int32) (xc : List Int32) (vs : Int32) (hA : iA (he, ke, ki, fi, fa, or, mi, a, g, l, w, s)) (hB : iB le ln) (hC : iC nu nn) (hD : iD rf) (hJ : iJ m ys yc yh yg) (hR : iR xm xw xn xc) (hK : iK im kk xi) (x : Int32) (hxu : x.toInt ≤ -1) : oI 94 187 [some (.ref 100), some (.int x), none, none] [some (.ref 138), some (.int x), none, none, none, none] (mk_M (cT im le ln ys vt nu nn rf vw vq yc yh yg) (kr (he, ke, ki, fi, fa, or, mi, a, g, l, w, s)) m kk (rT (he, ke, ki, fi, fa, or, mi, a, g, l, w, s) xm xi xw im le nu rf ln nn vp xn xc vs)) := by
  exact ⟨(-2), _, _, oc_start_0 he ke ki fi fa or mi a g l w s im le ln ys vt nu nn rf vw vq yc yh yg m kk _ hA hB hC hD hJ hK.1 x hxu, om_start_0 he ke ki fi fa or mi a g l w s xm xi xw im le nu rf ln nn vp xn xc vs _ _ _ _ hA hB hC hD hR hK.2.1 x hxu, (he, ke, ki, fi, fa, or, mi, a, g, l, w, s), m, kk, im, le, ln, ys, vt, nu, nn, (rf.set 2 (kg rf 2 + 1)), vw, vq, yc, yh, yg, xm, xi, xw, vp, xn, xc, vs, rfl, hA, hB, hC, iD_s hD, hJ, hR, hK⟩
set_option maxRecDepth 100000 in
theorem oc_start_1 (he ke ki fi fa or : List Nat) (mi a g l w s : Nat) (im : Nat) (le : List Nat) (ln : Nat) (ys : List Int32) (vt : Int32) (nu : List Nat) (nn : Nat) (rf : List Nat) (vw vq : Int32) (yc yh yg : List Int32) (m kk : kG) (q : cR) (hA : iA (he, ke, ki, fi, fa, or, mi, a, g, l, w, s)) (hB : iB le ln) (hC : iC nu nn) (hD : iD rf) (hJ : iJ m ys yc yh yg) (k0 : kSh kk) (x : Int32) (hxl : 2 ≤ x.toInt) : mm_R 94 0 [some (.ref 100), some (.int x), none, none] [] (mk_M (cT im le ln ys vt nu nn rf vw vq yc yh yg) (kr (he, ke, ki, fi, fa, or, mi, a, g, l, w, s)) m kk q) (some (.int (-2)), (mk_M (cT im le ln ys vt nu nn (rf.set 2 (kg rf 2 + 1)) vw vq yc yh yg) (kr (he, ke, ki, fi, fa, or, mi, a, g, l, w, s)) m kk q)) := by
  obtain ⟨hV, hst⟩ := id hA
  have hst2 : s ≤ 999 := hst
  obtain ⟨v1, v2, v3, v4, v5, v6, v7, v8, v9, v10, v11, v12, v13, v14, v15, v16⟩ := id hV
  have v6l := kO_len mi v7 or v6
  obtain ⟨b1, b2, b3⟩ := id hB
  obtain ⟨c1, c2, c3⟩ := id hC
  have d1 : rf.length = 7 := hD
  obtain ⟨j0, j1, j2, j3, j4⟩ := id hJ
  refine mr_seg 1 (pc1 := 1) (ls1 := [some (.ref 100), some (.int x), none, none]) (st1 := [.int x]) (M1 := (mk_M (cT im le ln ys vt nu nn rf vw vq yc yh yg) (kr (he, ke, ki, fi, fa, or, mi, a, g, l, w, s)) m kk q)) (fun f => rfl) ?_
  refine mr_f (C := x < 0) (mz_lt_f 0 (by decide) (by omega)) (fun f => rfl) ?_
  refine mr_seg 2 (pc1 := 6) (ls1 := [some (.ref 100), some (.int x), none, none]) (st1 := [.int 1, .int x]) (M1 := (mk_M (cT im le ln ys vt nu nn rf vw vq yc yh yg) (kr (he, ke, ki, fi, fa, or, mi, a, g, l, w, s)) m kk q)) (fun f => rfl) ?_
  refine mr_f (C := x ≤ 1) (mz_le_f 1 (by decide) (by omega)) (fun f => rfl) ?_
  refine mr_seg 2 (pc1 := 12) (ls1 := [some (.ref 100), some (.int x), none, none]) (st1 := [.int (-2), .ref 100]) (M1 := (mk_M (cT im le ln ys vt nu nn rf vw vq yc yh yg) (kr (he, ke, ki, fi, fa, or, mi, a, g, l, w, s)) m kk q)) (fun f => rfl) ?_
  refine mr_call (y := 12) (y0 := 15) (L := [some (.ref 100), some (.int (-2))]) (rest := []) (rr := some (.int (-2))) (M1 := (mk_M (cT im le ln ys vt nu nn (rf.set 2 (kg rf 2 + 1)) vw vq yc yh yg) (kr (he, ke, ki, fi, fa, or, mi, a, g, l, w, s)) m kk q)) (fun f => rfl) (by
      refine mr_seg 5 (pc1 := 7) (ls1 := [some (.ref 100), some (.int (-2))]) (st1 := [.int 2, .ref 105, .int 2, .ref 105]) (M1 := (mk_M (cT im le ln ys vt nu nn rf vw vq yc yh yg) (kr (he, ke, ki, fi, fa, or, mi, a, g, l, w, s)) m kk q)) (fun f => rfl) ?_
      refine mr_ldn (xs := (rf.map nI)) rfl rfl (k := 2) (by omega) (kg_ok (by omega)) ?_
      refine mr_seg 2 (pc1 := 10) (ls1 := [some (.ref 100), some (.int (-2))]) (st1 := [.int ((nI (kg rf 2)) + 1), .int 2, .ref 105]) (M1 := (mk_M (cT im le ln ys vt nu nn rf vw vq yc yh yg) (kr (he, ke, ki, fi, fa, or, mi, a, g, l, w, s)) m kk q)) (fun f => rfl) ?_
      refine mr_v (nI_add (kg rf 2) 1) ?_
      refine mr_stn (xs := (rf.map nI)) (ys := ((rf.set 2 (kg rf 2 + 1)).map nI)) (M2 := (mk_M (cT im le ln ys vt nu nn (rf.set 2 (kg rf 2 + 1)) vw vq yc yh yg) (kr (he, ke, ki, fi, fa, or, mi, a, g, l, w, s)) m kk q)) rfl rfl (k := 2) (by omega) (by simp only [List.length_map, List.length_set]; omega) ks_ok rfl ?_
      exact mr_ret 2 (fun f => rfl)) ?_
  exact mr_ret 1 (fun f => rfl)
set_option maxRecDepth 100000 in
theorem om_start_1 (he ke ki fi fa or : List Nat) (mi a g l w s : Nat) (xm xi xw : List Int32) (im : Nat) (le nu rf : List Nat) (ln nn : Nat) (vp : Int32) (xn xc : List Int32) (vs : Int32) (c : cC) (n m kk : kG) (hA : iA (he, ke, ki, fi, fa, or, mi, a, g, l, w, s)) (hB : iB le ln) (hC : iC nu nn) (hD : iD rf) (hR : iR xm xw xn xc) (k1 : xi.length = 52) (x : Int32) (hxl : 2 ≤ x.toInt) : mm_R 187 0 [some (.ref 138), some (.int x), none, none, none, none] [] (mk_M c n m kk (rT (he, ke, ki, fi, fa, or, mi, a, g, l, w, s) xm xi xw im le nu rf ln nn vp xn xc vs)) (some (.int (-2)), (mk_M c n m kk (rT (he, ke, ki, fi, fa, or, mi, a, g, l, w, s) xm xi xw im le nu (rf.set 2 (kg rf 2 + 1)) ln nn vp xn xc vs))) := by
  obtain ⟨hV, hst⟩ := id hA
  have hst2 : s ≤ 999 := hst
  obtain ⟨v1, v2, v3, v4, v5, v6, v7, v8, v9, v10, v11, v12, v13, v14, v15, v16⟩ := id hV
  have v6l := kO_len mi v7 or v6
  obtain ⟨b1, b2, b3⟩ := id hB
  obtain ⟨c1, c2, c3⟩ := id hC
  have d1 : rf.length = 7 := hD
  obtain ⟨r1, r2, r3, r4⟩ := id hR
  refine mr_seg 3 (pc1 := 3) (ls1 := [some (.ref 138), some (.int x), none, none, none, none]) (st1 := [.int 1, .int 0, .int x]) (M1 := (mk_M c n m kk (rT (he, ke, ki, fi, fa, or, mi, a, g, l, w, s) xm xi xw im le nu rf ln nn vp xn xc vs))) (fun f => rfl) ?_
  refine mr_call (y := 135) (y0 := 6) (L := [some (.int x), some (.int 0), some (.int 1)]) (rest := []) (rr := some (.int 0)) (M1 := (mk_M c n m kk (rT (he, ke, ki, fi, fa, or, mi, a, g, l, w, s) xm xi xw im le nu rf ln nn vp xn xc vs))) (fun f => rfl) (by
      refine mr_seg 2 (pc1 := 2) (ls1 := [some (.int x), some (.int 0), some (.int 1)]) (st1 := [.int 0, .int x]) (M1 := (mk_M c n m kk (rT (he, ke, ki, fi, fa, or, mi, a, g, l, w, s) xm xi xw im le nu rf ln nn vp xn xc vs))) (fun f => rfl) ?_
      refine mr_f (C := x < 0) (mz_lt_f 0 (by decide) (by omega)) (fun f => rfl) ?_
      refine mr_seg 2 (pc1 := 7) (ls1 := [some (.int x), some (.int 0), some (.int 1)]) (st1 := [.int 1, .int x]) (M1 := (mk_M c n m kk (rT (he, ke, ki, fi, fa, or, mi, a, g, l, w, s) xm xi xw im le nu rf ln nn vp xn xc vs))) (fun f => rfl) ?_
      refine mr_t (C := 1 < x) (mz_gt_t 1 (by decide) (by omega)) (fun f => rfl) ?_
      exact mr_ret 2 (fun f => rfl)) ?_
  refine mr_seg 3 (pc1 := 12) (ls1 := [some (.ref 138), some (.int x), none, none, none, none]) (st1 := [.int (-2), .ref 138]) (M1 := (mk_M c n m kk (rT (he, ke, ki, fi, fa, or, mi, a, g, l, w, s) xm xi xw im le nu rf ln nn vp xn xc vs))) (fun f => rfl) ?_
  refine mr_call (y := 130) (y0 := 15) (L := [some (.ref 138), some (.int (-2))]) (rest := []) (rr := some (.int (-2))) (M1 := (mk_M c n m kk (rT (he, ke, ki, fi, fa, or, mi, a, g, l, w, s) xm xi xw im le nu (rf.set 2 (kg rf 2 + 1)) ln nn vp xn xc vs))) (fun f => rfl) (by
      refine mr_seg 5 (pc1 := 7) (ls1 := [some (.ref 138), some (.int (-2))]) (st1 := [.int 2, .ref 145, .int 2, .ref 145]) (M1 := (mk_M c n m kk (rT (he, ke, ki, fi, fa, or, mi, a, g, l, w, s) xm xi xw im le nu rf ln nn vp xn xc vs))) (fun f => rfl) ?_
      refine mr_ldn (xs := (rf.map nI)) rfl rfl (k := 2) (by omega) (kg_ok (by omega)) ?_
      refine mr_seg 2 (pc1 := 10) (ls1 := [some (.ref 138), some (.int (-2))]) (st1 := [.int ((nI (kg rf 2)) + 1), .int 2, .ref 145]) (M1 := (mk_M c n m kk (rT (he, ke, ki, fi, fa, or, mi, a, g, l, w, s) xm xi xw im le nu rf ln nn vp xn xc vs))) (fun f => rfl) ?_
      refine mr_v (nI_add (kg rf 2) 1) ?_
      refine mr_stn (xs := (rf.map nI)) (ys := ((rf.set 2 (kg rf 2 + 1)).map nI)) (M2 := (mk_M c n m kk (rT (he, ke, ki, fi, fa, or, mi, a, g, l, w, s) xm xi xw im le nu (rf.set 2 (kg rf 2 + 1)) ln nn vp xn xc vs))) rfl rfl (k := 2) (by omega) (by simp only [List.length_map, List.length_set]; omega) ks_ok rfl ?_
      exact mr_ret 2 (fun f => rfl)) ?_
  exact mr_ret 1 (fun f => rfl)
theorem oe_start_1 (he ke ki fi fa or : List Nat) (mi a g l w s : Nat) (m : kG) (kk : kG) (im : Nat) (le : List Nat) (ln : Nat) (ys : List Int32) (vt : Int32) (nu : List Nat) (nn : Nat) (rf : List Nat) (vw : Int32) (vq : Int32) (yc : List Int32) (yh : List Int32) (yg : List Int32) (xm : List Int32) (xi : List Int32) (xw : List Int32) (vp : Int32) (xn : List Int32) (xc : List Int32) (vs : Int32) (hA : iA (he, ke, ki, fi, fa, or, mi, a, g, l, w, s)) (hB : iB le ln) (hC : iC nu nn) (hD : iD rf) (hJ : iJ m ys yc yh yg) (hR : iR xm xw xn xc) (hK : iK im kk xi) (x : Int32) (hxl : 2 ≤ x.toInt) : oI 94 187 [some (.ref 100), some (.int x), none, none] [some (.ref 138), some (.int x), none, none, none, none] (mk_M (cT im le ln ys vt nu nn rf vw vq yc yh yg) (kr (he, ke, ki, fi, fa, or, mi, a, g, l, w, s)) m kk (rT (he, ke, ki, fi, fa, or, mi, a, g, l, w, s) xm xi xw im le nu rf ln nn vp xn xc vs)) := by
  exact ⟨(-2), _, _, oc_start_1 he ke ki fi fa or mi a g l w s im le ln ys vt nu nn rf vw vq yc yh yg m kk _ hA hB hC hD hJ hK.1 x hxl, om_start_1 he ke ki fi fa or mi a g l w s xm xi xw im le nu rf ln nn vp xn xc vs _ _ _ _ hA hB hC hD hR hK.2.1 x hxl, (he, ke, ki, fi, fa, or, mi, a, g, l, w, s), m, kk, im, le, ln, ys, vt, nu, nn, (rf.set 2 (kg rf 2 + 1)), vw, vq, yc, yh, yg, xm, xi, xw, vp, xn, xc, vs, rfl, hA, hB, hC, iD_s hD, hJ, hR, hK⟩
set_option maxRecDepth 100000 in
theorem oc_bestKind_0 (he ke ki fi fa or : List Nat) (mi a g l w s : Nat) (im : Nat) (le : List Nat) (ln : Nat) (ys : List Int32) (vt : Int32) (nu : List Nat) (nn : Nat) (rf : List Nat) (vw vq : Int32) (yc yh yg : List Int32) (m kk : kG) (q : cR) (hA : iA (he, ke, ki, fi, fa, or, mi, a, g, l, w, s)) (hB : iB le ln) (hC : iC nu nn) (hD : iD rf) (hJ : iJ m ys yc yh yg) (k0 : kSh kk) (x : Int32) (hxu : x.toInt ≤ -1) (y : Int32) : mm_R 96 0 [some (.ref 100), some (.int x), some (.int y), none, none] [] (mk_M (cT im le ln ys vt nu nn rf vw vq yc yh yg) (kr (he, ke, ki, fi, fa, or, mi, a, g, l, w, s)) m kk q) (some (.int (-1)), (mk_M (cT im le ln ys vt nu nn (rf.set 1 (kg rf 1 + 1)) vw vq yc yh yg) (kr (he, ke, ki, fi, fa, or, mi, a, g, l, w, s)) m kk q)) := by
  obtain ⟨hV, hst⟩ := id hA
  have hst2 : s ≤ 999 := hst
  obtain ⟨v1, v2, v3, v4, v5, v6, v7, v8, v9, v10, v11, v12, v13, v14, v15, v16⟩ := id hV
  have v6l := kO_len mi v7 or v6
  obtain ⟨b1, b2, b3⟩ := id hB
  obtain ⟨c1, c2, c3⟩ := id hC
  have d1 : rf.length = 7 := hD
  obtain ⟨j0, j1, j2, j3, j4⟩ := id hJ
  refine mr_seg 2 (pc1 := 2) (ls1 := [some (.ref 100), some (.int x), some (.int y), none, none]) (st1 := [.int x, .ref 100]) (M1 := (mk_M (cT im le ln ys vt nu nn rf vw vq yc yh yg) (kr (he, ke, ki, fi, fa, or, mi, a, g, l, w, s)) m kk q)) (fun f => rfl) ?_
  refine mr_call (y := 61) (y0 := 5) (L := [some (.ref 100), some (.int x)]) (rest := []) (rr := some (.int 0)) (M1 := (mk_M (cT im le ln ys vt nu nn rf vw vq yc yh yg) (kr (he, ke, ki, fi, fa, or, mi, a, g, l, w, s)) m kk q)) (fun f => rfl) (by
      refine mr_seg 1 (pc1 := 1) (ls1 := [some (.ref 100), some (.int x)]) (st1 := [.int x]) (M1 := (mk_M (cT im le ln ys vt nu nn rf vw vq yc yh yg) (kr (he, ke, ki, fi, fa, or, mi, a, g, l, w, s)) m kk q)) (fun f => rfl) ?_
      refine mr_t (C := x < 0) (mz_lt_t 0 (by decide) (by omega)) (fun f => rfl) ?_
      exact mr_ret 2 (fun f => rfl)) ?_
  refine mr_seg 3 (pc1 := 10) (ls1 := [some (.ref 100), some (.int x), some (.int y), none, none]) (st1 := [.int (-1), .ref 100]) (M1 := (mk_M (cT im le ln ys vt nu nn rf vw vq yc yh yg) (kr (he, ke, ki, fi, fa, or, mi, a, g, l, w, s)) m kk q)) (fun f => rfl) ?_
  refine mr_call (y := 12) (y0 := 13) (L := [some (.ref 100), some (.int (-1))]) (rest := []) (rr := some (.int (-1))) (M1 := (mk_M (cT im le ln ys vt nu nn (rf.set 1 (kg rf 1 + 1)) vw vq yc yh yg) (kr (he, ke, ki, fi, fa, or, mi, a, g, l, w, s)) m kk q)) (fun f => rfl) (by
      refine mr_seg 5 (pc1 := 7) (ls1 := [some (.ref 100), some (.int (-1))]) (st1 := [.int 1, .ref 105, .int 1, .ref 105]) (M1 := (mk_M (cT im le ln ys vt nu nn rf vw vq yc yh yg) (kr (he, ke, ki, fi, fa, or, mi, a, g, l, w, s)) m kk q)) (fun f => rfl) ?_
      refine mr_ldn (xs := (rf.map nI)) rfl rfl (k := 1) (by omega) (kg_ok (by omega)) ?_
      refine mr_seg 2 (pc1 := 10) (ls1 := [some (.ref 100), some (.int (-1))]) (st1 := [.int ((nI (kg rf 1)) + 1), .int 1, .ref 105]) (M1 := (mk_M (cT im le ln ys vt nu nn rf vw vq yc yh yg) (kr (he, ke, ki, fi, fa, or, mi, a, g, l, w, s)) m kk q)) (fun f => rfl) ?_
      refine mr_v (nI_add (kg rf 1) 1) ?_
      refine mr_stn (xs := (rf.map nI)) (ys := ((rf.set 1 (kg rf 1 + 1)).map nI)) (M2 := (mk_M (cT im le ln ys vt nu nn (rf.set 1 (kg rf 1 + 1)) vw vq yc yh yg) (kr (he, ke, ki, fi, fa, or, mi, a, g, l, w, s)) m kk q)) rfl rfl (k := 1) (by omega) (by simp only [List.length_map, List.length_set]; omega) ks_ok rfl ?_
      exact mr_ret 2 (fun f => rfl)) ?_
  exact mr_ret 1 (fun f => rfl)
set_option maxRecDepth 100000 in
theorem om_bestKind_0 (he ke ki fi fa or : List Nat) (mi a g l w s : Nat) (xm xi xw : List Int32) (im : Nat) (le nu rf : List Nat) (ln nn : Nat) (vp : Int32) (xn xc : List Int32) (vs : Int32) (c : cC) (n m kk : kG) (hA : iA (he, ke, ki, fi, fa, or, mi, a, g, l, w, s)) (hB : iB le ln) (hC : iC nu nn) (hD : iD rf) (hR : iR xm xw xn xc) (k1 : xi.length = 52) (x : Int32) (hxu : x.toInt ≤ -1) (y : Int32) : mm_R 188 0 [some (.ref 138), some (.int x), some (.int y), none, none, none, none] [] (mk_M c n m kk (rT (he, ke, ki, fi, fa, or, mi, a, g, l, w, s) xm xi xw im le nu rf ln nn vp xn xc vs)) (some (.int (-1)), (mk_M c n m kk (rT (he, ke, ki, fi, fa, or, mi, a, g, l, w, s) xm xi xw im le nu (rf.set 1 (kg rf 1 + 1)) ln nn vp xn xc vs))) := by
  obtain ⟨hV, hst⟩ := id hA
  have hst2 : s ≤ 999 := hst
  obtain ⟨v1, v2, v3, v4, v5, v6, v7, v8, v9, v10, v11, v12, v13, v14, v15, v16⟩ := id hV
  have v6l := kO_len mi v7 or v6
  obtain ⟨b1, b2, b3⟩ := id hB
  obtain ⟨c1, c2, c3⟩ := id hC
  have d1 : rf.length = 7 := hD
  obtain ⟨r1, r2, r3, r4⟩ := id hR
  refine mr_seg 2 (pc1 := 2) (ls1 := [some (.ref 138), some (.int x), some (.int y), none, none, none, none]) (st1 := [.int x, .ref 138]) (M1 := (mk_M c n m kk (rT (he, ke, ki, fi, fa, or, mi, a, g, l, w, s) xm xi xw im le nu rf ln nn vp xn xc vs))) (fun f => rfl) ?_
  refine mr_call (y := 142) (y0 := 5) (L := [some (.ref 138), some (.int x)]) (rest := []) (rr := some (.int 0)) (M1 := (mk_M c n m kk (rT (he, ke, ki, fi, fa, or, mi, a, g, l, w, s) xm xi xw im le nu rf ln nn vp xn xc vs))) (fun f => rfl) (by
      refine mr_seg 5 (pc1 := 7) (ls1 := [some (.ref 138), some (.int x)]) (st1 := [.int 0, .ref 139, .int 0, .int x]) (M1 := (mk_M c n m kk (rT (he, ke, ki, fi, fa, or, mi, a, g, l, w, s) xm xi xw im le nu rf ln nn vp xn xc vs))) (fun f => rfl) ?_
      refine mr_ldn (xs := (er (he, ke, ki, fi, fa, or, mi, a, g, l, w, s))) rfl rfl (k := 0) (by decide) rfl ?_
      refine mr_seg 2 (pc1 := 10) (ls1 := [some (.ref 138), some (.int x)]) (st1 := [.int ((nI mi) - 1), .int 0, .int x]) (M1 := (mk_M c n m kk (rT (he, ke, ki, fi, fa, or, mi, a, g, l, w, s) xm xi xw im le nu rf ln nn vp xn xc vs))) (fun f => rfl) ?_
      refine mr_call (y := 135) (y0 := 13) (L := [some (.int x), some (.int 0), some (.int ((nI mi) - 1))]) (rest := []) (rr := some (.int 0)) (M1 := (mk_M c n m kk (rT (he, ke, ki, fi, fa, or, mi, a, g, l, w, s) xm xi xw im le nu rf ln nn vp xn xc vs))) (fun f => rfl) (by
          refine mr_seg 2 (pc1 := 2) (ls1 := [some (.int x), some (.int 0), some (.int ((nI mi) - 1))]) (st1 := [.int 0, .int x]) (M1 := (mk_M c n m kk (rT (he, ke, ki, fi, fa, or, mi, a, g, l, w, s) xm xi xw im le nu rf ln nn vp xn xc vs))) (fun f => rfl) ?_
          refine mr_t (C := x < 0) (mz_lt_t 0 (by decide) (by omega)) (fun f => rfl) ?_
          exact mr_ret 2 (fun f => rfl)) ?_
      exact mr_ret 1 (fun f => rfl)) ?_
  refine mr_seg 3 (pc1 := 10) (ls1 := [some (.ref 138), some (.int x), some (.int y), none, none, none, none]) (st1 := [.int (-1), .ref 138]) (M1 := (mk_M c n m kk (rT (he, ke, ki, fi, fa, or, mi, a, g, l, w, s) xm xi xw im le nu rf ln nn vp xn xc vs))) (fun f => rfl) ?_
  refine mr_call (y := 130) (y0 := 13) (L := [some (.ref 138), some (.int (-1))]) (rest := []) (rr := some (.int (-1))) (M1 := (mk_M c n m kk (rT (he, ke, ki, fi, fa, or, mi, a, g, l, w, s) xm xi xw im le nu (rf.set 1 (kg rf 1 + 1)) ln nn vp xn xc vs))) (fun f => rfl) (by
      refine mr_seg 5 (pc1 := 7) (ls1 := [some (.ref 138), some (.int (-1))]) (st1 := [.int 1, .ref 145, .int 1, .ref 145]) (M1 := (mk_M c n m kk (rT (he, ke, ki, fi, fa, or, mi, a, g, l, w, s) xm xi xw im le nu rf ln nn vp xn xc vs))) (fun f => rfl) ?_
      refine mr_ldn (xs := (rf.map nI)) rfl rfl (k := 1) (by omega) (kg_ok (by omega)) ?_
      refine mr_seg 2 (pc1 := 10) (ls1 := [some (.ref 138), some (.int (-1))]) (st1 := [.int ((nI (kg rf 1)) + 1), .int 1, .ref 145]) (M1 := (mk_M c n m kk (rT (he, ke, ki, fi, fa, or, mi, a, g, l, w, s) xm xi xw im le nu rf ln nn vp xn xc vs))) (fun f => rfl) ?_
      refine mr_v (nI_add (kg rf 1) 1) ?_
      refine mr_stn (xs := (rf.map nI)) (ys := ((rf.set 1 (kg rf 1 + 1)).map nI)) (M2 := (mk_M c n m kk (rT (he, ke, ki, fi, fa, or, mi, a, g, l, w, s) xm xi xw im le nu (rf.set 1 (kg rf 1 + 1)) ln nn vp xn xc vs))) rfl rfl (k := 1) (by omega) (by simp only [List.length_map, List.length_set]; omega) ks_ok rfl ?_
      exact mr_ret 2 (fun f => rfl)) ?_
  exact mr_ret 1 (fun f => rfl)
theorem oe_bestKind_0 (he ke ki fi fa or : List Nat) (mi a g l w s : Nat) (m : kG) (kk : kG) (im : Nat) (le : List Nat) (ln : Nat) (ys : List Int32) (vt : Int32) (nu : List Nat) (nn : Nat) (rf : List Nat) (vw : Int32) (vq : Int32) (yc : List Int32) (yh : List Int32) (yg : List Int32) (xm : List Int32) (xi : List Int32) (xw : List Int32) (vp : Int32) (xn : List Int32) (xc : List Int32) (vs : Int32) (hA : iA (he, ke, ki, fi, fa, or, mi, a, g, l, w, s)) (hB : iB le ln) (hC : iC nu nn) (hD : iD rf) (hJ : iJ m ys yc yh yg) (hR : iR xm xw xn xc) (hK : iK im kk xi) (x : Int32) (hxu : x.toInt ≤ -1) (y : Int32) : oI 96 188 [some (.ref 100), some (.int x), some (.int y), none, none] [some (.ref 138), some (.int x), some (.int y), none, none, none, none] (mk_M (cT im le ln ys vt nu nn rf vw vq yc yh yg) (kr (he, ke, ki, fi, fa, or, mi, a, g, l, w, s)) m kk (rT (he, ke, ki, fi, fa, or, mi, a, g, l, w, s) xm xi xw im le nu rf ln nn vp xn xc vs)) := by
  exact ⟨(-1), _, _, oc_bestKind_0 he ke ki fi fa or mi a g l w s im le ln ys vt nu nn rf vw vq yc yh yg m kk _ hA hB hC hD hJ hK.1 x hxu y, om_bestKind_0 he ke ki fi fa or mi a g l w s xm xi xw im le nu rf ln nn vp xn xc vs _ _ _ _ hA hB hC hD hR hK.2.1 x hxu y, (he, ke, ki, fi, fa, or, mi, a, g, l, w, s), m, kk, im, le, ln, ys, vt, nu, nn, (rf.set 1 (kg rf 1 + 1)), vw, vq, yc, yh, yg, xm, xi, xw, vp, xn, xc, vs, rfl, hA, hB, hC, iD_s hD, hJ, hR, hK⟩
set_option maxRecDepth 100000 in
theorem oc_bestKind_1 (he ke ki fi fa or : List Nat) (mi a g l w s : Nat) (im : Nat) (le : List Nat) (ln : Nat) (ys : List Int32) (vt : Int32) (nu : List Nat) (nn : Nat) (rf : List Nat) (vw vq : Int32) (yc yh yg : List Int32) (m kk : kG) (q : cR) (hA : iA (he, ke, ki, fi, fa, or, mi, a, g, l, w, s)) (hB : iB le ln) (hC : iC nu nn) (hD : iD rf) (hJ : iJ m ys yc yh yg) (k0 : kSh kk) (x : Int32) (hx : nI mi ≤ x) (y : Int32) : mm_R 96 0 [some (.ref 100), some (.int x), some (.int y), none, none] [] (mk_M (cT im le ln ys vt nu nn rf vw vq yc yh yg) (kr (he, ke, ki, fi, fa, or, mi, a, g, l, w, s)) m kk q) (some (.int (-1)), (mk_M (cT im le ln ys vt nu nn (rf.set 1 (kg rf 1 + 1)) vw vq yc yh yg) (kr (he, ke, ki, fi, fa, or, mi, a, g, l, w, s)) m kk q)) := by
  obtain ⟨hV, hst⟩ := id hA
  have hst2 : s ≤ 999 := hst
  obtain ⟨v1, v2, v3, v4, v5, v6, v7, v8, v9, v10, v11, v12, v13, v14, v15, v16⟩ := id hV
  have v6l := kO_len mi v7 or v6
  obtain ⟨b1, b2, b3⟩ := id hB
  obtain ⟨c1, c2, c3⟩ := id hC
  have d1 : rf.length = 7 := hD
  obtain ⟨j0, j1, j2, j3, j4⟩ := id hJ
  refine mr_seg 2 (pc1 := 2) (ls1 := [some (.ref 100), some (.int x), some (.int y), none, none]) (st1 := [.int x, .ref 100]) (M1 := (mk_M (cT im le ln ys vt nu nn rf vw vq yc yh yg) (kr (he, ke, ki, fi, fa, or, mi, a, g, l, w, s)) m kk q)) (fun f => rfl) ?_
  refine mr_call (y := 61) (y0 := 5) (L := [some (.ref 100), some (.int x)]) (rest := []) (rr := some (.int 0)) (M1 := (mk_M (cT im le ln ys vt nu nn rf vw vq yc yh yg) (kr (he, ke, ki, fi, fa, or, mi, a, g, l, w, s)) m kk q)) (fun f => rfl) (by
      refine mr_seg 1 (pc1 := 1) (ls1 := [some (.ref 100), some (.int x)]) (st1 := [.int x]) (M1 := (mk_M (cT im le ln ys vt nu nn rf vw vq yc yh yg) (kr (he, ke, ki, fi, fa, or, mi, a, g, l, w, s)) m kk q)) (fun f => rfl) ?_
      refine mr_f (C := x < 0) (k_nneg v7 hx) (fun f => rfl) ?_
      refine mr_seg 4 (pc1 := 12) (ls1 := [some (.ref 100), some (.int x)]) (st1 := [.int (nI mi), .int x]) (M1 := (mk_M (cT im le ln ys vt nu nn rf vw vq yc yh yg) (kr (he, ke, ki, fi, fa, or, mi, a, g, l, w, s)) m kk q)) (fun f => rfl) ?_
      refine mr_t (C := (nI mi) ≤ x) (hx) (fun f => rfl) ?_
      exact mr_ret 2 (fun f => rfl)) ?_
  refine mr_seg 3 (pc1 := 10) (ls1 := [some (.ref 100), some (.int x), some (.int y), none, none]) (st1 := [.int (-1), .ref 100]) (M1 := (mk_M (cT im le ln ys vt nu nn rf vw vq yc yh yg) (kr (he, ke, ki, fi, fa, or, mi, a, g, l, w, s)) m kk q)) (fun f => rfl) ?_
  refine mr_call (y := 12) (y0 := 13) (L := [some (.ref 100), some (.int (-1))]) (rest := []) (rr := some (.int (-1))) (M1 := (mk_M (cT im le ln ys vt nu nn (rf.set 1 (kg rf 1 + 1)) vw vq yc yh yg) (kr (he, ke, ki, fi, fa, or, mi, a, g, l, w, s)) m kk q)) (fun f => rfl) (by
      refine mr_seg 5 (pc1 := 7) (ls1 := [some (.ref 100), some (.int (-1))]) (st1 := [.int 1, .ref 105, .int 1, .ref 105]) (M1 := (mk_M (cT im le ln ys vt nu nn rf vw vq yc yh yg) (kr (he, ke, ki, fi, fa, or, mi, a, g, l, w, s)) m kk q)) (fun f => rfl) ?_
      refine mr_ldn (xs := (rf.map nI)) rfl rfl (k := 1) (by omega) (kg_ok (by omega)) ?_
      refine mr_seg 2 (pc1 := 10) (ls1 := [some (.ref 100), some (.int (-1))]) (st1 := [.int ((nI (kg rf 1)) + 1), .int 1, .ref 105]) (M1 := (mk_M (cT im le ln ys vt nu nn rf vw vq yc yh yg) (kr (he, ke, ki, fi, fa, or, mi, a, g, l, w, s)) m kk q)) (fun f => rfl) ?_
      refine mr_v (nI_add (kg rf 1) 1) ?_
      refine mr_stn (xs := (rf.map nI)) (ys := ((rf.set 1 (kg rf 1 + 1)).map nI)) (M2 := (mk_M (cT im le ln ys vt nu nn (rf.set 1 (kg rf 1 + 1)) vw vq yc yh yg) (kr (he, ke, ki, fi, fa, or, mi, a, g, l, w, s)) m kk q)) rfl rfl (k := 1) (by omega) (by simp only [List.length_map, List.length_set]; omega) ks_ok rfl ?_
      exact mr_ret 2 (fun f => rfl)) ?_
  exact mr_ret 1 (fun f => rfl)
set_option maxRecDepth 100000 in
theorem om_bestKind_1 (he ke ki fi fa or : List Nat) (mi a g l w s : Nat) (xm xi xw : List Int32) (im : Nat) (le nu rf : List Nat) (ln nn : Nat) (vp : Int32) (xn xc : List Int32) (vs : Int32) (c : cC) (n m kk : kG) (hA : iA (he, ke, ki, fi, fa, or, mi, a, g, l, w, s)) (hB : iB le ln) (hC : iC nu nn) (hD : iD rf) (hR : iR xm xw xn xc) (k1 : xi.length = 52) (x : Int32) (hx : nI mi ≤ x) (y : Int32) : mm_R 188 0 [some (.ref 138), some (.int x), some (.int y), none, none, none, none] [] (mk_M c n m kk (rT (he, ke, ki, fi, fa, or, mi, a, g, l, w, s) xm xi xw im le nu rf ln nn vp xn xc vs)) (some (.int (-1)), (mk_M c n m kk (rT (he, ke, ki, fi, fa, or, mi, a, g, l, w, s) xm xi xw im le nu (rf.set 1 (kg rf 1 + 1)) ln nn vp xn xc vs))) := by
  obtain ⟨hV, hst⟩ := id hA
  have hst2 : s ≤ 999 := hst
  obtain ⟨v1, v2, v3, v4, v5, v6, v7, v8, v9, v10, v11, v12, v13, v14, v15, v16⟩ := id hV
  have v6l := kO_len mi v7 or v6
  obtain ⟨b1, b2, b3⟩ := id hB
  obtain ⟨c1, c2, c3⟩ := id hC
  have d1 : rf.length = 7 := hD
  obtain ⟨r1, r2, r3, r4⟩ := id hR
  refine mr_seg 2 (pc1 := 2) (ls1 := [some (.ref 138), some (.int x), some (.int y), none, none, none, none]) (st1 := [.int x, .ref 138]) (M1 := (mk_M c n m kk (rT (he, ke, ki, fi, fa, or, mi, a, g, l, w, s) xm xi xw im le nu rf ln nn vp xn xc vs))) (fun f => rfl) ?_
  refine mr_call (y := 142) (y0 := 5) (L := [some (.ref 138), some (.int x)]) (rest := []) (rr := some (.int 0)) (M1 := (mk_M c n m kk (rT (he, ke, ki, fi, fa, or, mi, a, g, l, w, s) xm xi xw im le nu rf ln nn vp xn xc vs))) (fun f => rfl) (by
      refine mr_seg 5 (pc1 := 7) (ls1 := [some (.ref 138), some (.int x)]) (st1 := [.int 0, .ref 139, .int 0, .int x]) (M1 := (mk_M c n m kk (rT (he, ke, ki, fi, fa, or, mi, a, g, l, w, s) xm xi xw im le nu rf ln nn vp xn xc vs))) (fun f => rfl) ?_
      refine mr_ldn (xs := (er (he, ke, ki, fi, fa, or, mi, a, g, l, w, s))) rfl rfl (k := 0) (by decide) rfl ?_
      refine mr_seg 2 (pc1 := 10) (ls1 := [some (.ref 138), some (.int x)]) (st1 := [.int ((nI mi) - 1), .int 0, .int x]) (M1 := (mk_M c n m kk (rT (he, ke, ki, fi, fa, or, mi, a, g, l, w, s) xm xi xw im le nu rf ln nn vp xn xc vs))) (fun f => rfl) ?_
      refine mr_call (y := 135) (y0 := 13) (L := [some (.int x), some (.int 0), some (.int ((nI mi) - 1))]) (rest := []) (rr := some (.int 0)) (M1 := (mk_M c n m kk (rT (he, ke, ki, fi, fa, or, mi, a, g, l, w, s) xm xi xw im le nu rf ln nn vp xn xc vs))) (fun f => rfl) (by
          refine mr_seg 2 (pc1 := 2) (ls1 := [some (.int x), some (.int 0), some (.int ((nI mi) - 1))]) (st1 := [.int 0, .int x]) (M1 := (mk_M c n m kk (rT (he, ke, ki, fi, fa, or, mi, a, g, l, w, s) xm xi xw im le nu rf ln nn vp xn xc vs))) (fun f => rfl) ?_
          refine mr_f (C := x < 0) (k_nneg v7 hx) (fun f => rfl) ?_
          refine mr_seg 2 (pc1 := 7) (ls1 := [some (.int x), some (.int 0), some (.int ((nI mi) - 1))]) (st1 := [.int ((nI mi) - 1), .int x]) (M1 := (mk_M c n m kk (rT (he, ke, ki, fi, fa, or, mi, a, g, l, w, s) xm xi xw im le nu rf ln nn vp xn xc vs))) (fun f => rfl) ?_
          refine mr_t (C := ((nI mi) - 1) < x) (k_gem v7 hx) (fun f => rfl) ?_
          exact mr_ret 2 (fun f => rfl)) ?_
      exact mr_ret 1 (fun f => rfl)) ?_
  refine mr_seg 3 (pc1 := 10) (ls1 := [some (.ref 138), some (.int x), some (.int y), none, none, none, none]) (st1 := [.int (-1), .ref 138]) (M1 := (mk_M c n m kk (rT (he, ke, ki, fi, fa, or, mi, a, g, l, w, s) xm xi xw im le nu rf ln nn vp xn xc vs))) (fun f => rfl) ?_
  refine mr_call (y := 130) (y0 := 13) (L := [some (.ref 138), some (.int (-1))]) (rest := []) (rr := some (.int (-1))) (M1 := (mk_M c n m kk (rT (he, ke, ki, fi, fa, or, mi, a, g, l, w, s) xm xi xw im le nu (rf.set 1 (kg rf 1 + 1)) ln nn vp xn xc vs))) (fun f => rfl) (by
      refine mr_seg 5 (pc1 := 7) (ls1 := [some (.ref 138), some (.int (-1))]) (st1 := [.int 1, .ref 145, .int 1, .ref 145]) (M1 := (mk_M c n m kk (rT (he, ke, ki, fi, fa, or, mi, a, g, l, w, s) xm xi xw im le nu rf ln nn vp xn xc vs))) (fun f => rfl) ?_
      refine mr_ldn (xs := (rf.map nI)) rfl rfl (k := 1) (by omega) (kg_ok (by omega)) ?_
      refine mr_seg 2 (pc1 := 10) (ls1 := [some (.ref 138), some (.int (-1))]) (st1 := [.int ((nI (kg rf 1)) + 1), .int 1, .ref 145]) (M1 := (mk_M c n m kk (rT (he, ke, ki, fi, fa, or, mi, a, g, l, w, s) xm xi xw im le nu rf ln nn vp xn xc vs))) (fun f => rfl) ?_
      refine mr_v (nI_add (kg rf 1) 1) ?_
      refine mr_stn (xs := (rf.map nI)) (ys := ((rf.set 1 (kg rf 1 + 1)).map nI)) (M2 := (mk_M c n m kk (rT (he, ke, ki, fi, fa, or, mi, a, g, l, w, s) xm xi xw im le nu (rf.set 1 (kg rf 1 + 1)) ln nn vp xn xc vs))) rfl rfl (k := 1) (by omega) (by simp only [List.length_map, List.length_set]; omega) ks_ok rfl ?_
      exact mr_ret 2 (fun f => rfl)) ?_
  exact mr_ret 1 (fun f => rfl)
theorem oe_bestKind_1 (he ke ki fi fa or : List Nat) (mi a g l w s : Nat) (m : kG) (kk : kG) (im : Nat) (le : List Nat) (ln : Nat) (ys : List Int32) (vt : Int32) (nu : List Nat) (nn : Nat) (rf : List Nat) (vw : Int32) (vq : Int32) (yc : List Int32) (yh : List Int32) (yg : List Int32) (xm : List Int32) (xi : List Int32) (xw : List Int32) (vp : Int32) (xn : List Int32) (xc : List Int32) (vs : Int32) (hA : iA (he, ke, ki, fi, fa, or, mi, a, g, l, w, s)) (hB : iB le ln) (hC : iC nu nn) (hD : iD rf) (hJ : iJ m ys yc yh yg) (hR : iR xm xw xn xc) (hK : iK im kk xi) (x : Int32) (hx : nI mi ≤ x) (y : Int32) : oI 96 188 [some (.ref 100), some (.int x), some (.int y), none, none] [some (.ref 138), some (.int x), some (.int y), none, none, none, none] (mk_M (cT im le ln ys vt nu nn rf vw vq yc yh yg) (kr (he, ke, ki, fi, fa, or, mi, a, g, l, w, s)) m kk (rT (he, ke, ki, fi, fa, or, mi, a, g, l, w, s) xm xi xw im le nu rf ln nn vp xn xc vs)) := by
  exact ⟨(-1), _, _, oc_bestKind_1 he ke ki fi fa or mi a g l w s im le ln ys vt nu nn rf vw vq yc yh yg m kk _ hA hB hC hD hJ hK.1 x hx y, om_bestKind_1 he ke ki fi fa or mi a g l w s xm xi xw im le nu rf ln nn vp xn xc vs _ _ _ _ hA hB hC hD hR hK.2.1 x hx y, (he, ke, ki, fi, fa, or, mi, a, g, l, w, s), m, kk, im, le, ln, ys, vt, nu, nn, (rf.set 1 (kg rf 1 + 1)), vw, vq, yc, yh, yg, xm, xi, xw, vp, xn, xc, vs, rfl, hA, hB, hC, iD_s hD, hJ, hR, hK⟩
set_option maxRecDepth 100000 in
theorem oc_bestKind_2 (he ke ki fi fa or : List Nat) (mi a g l w s : Nat) (im : Nat) (le : List Nat) (ln : Nat) (ys : List Int32) (vt : Int32) (nu : List Nat) (nn : Nat) (rf : List Nat) (vw vq : Int32) (yc yh yg : List Int32) (m kk : kG) (q : cR) (hA : iA (he, ke, ki, fi, fa, or, mi, a, g, l, w, s)) (hB : iB le ln) (hC : iC nu nn) (hD : iD rf) (hJ : iJ m ys yc yh yg) (k0 : kSh kk) (p : Nat) (hp : p < mi) (y : Int32) (hyu : y.toInt ≤ -1) : mm_R 96 0 [some (.ref 100), some (.int (nI p)), some (.int y), none, none] [] (mk_M (cT im le ln ys vt nu nn rf vw vq yc yh yg) (kr (he, ke, ki, fi, fa, or, mi, a, g, l, w, s)) m kk q) (some (.int (-2)), (mk_M (cT im le ln ys vt nu nn (rf.set 2 (kg rf 2 + 1)) vw vq yc yh yg) (kr (he, ke, ki, fi, fa, or, mi, a, g, l, w, s)) m kk q)) := by
  obtain ⟨hV, hst⟩ := id hA
  have hst2 : s ≤ 999 := hst
  obtain ⟨v1, v2, v3, v4, v5, v6, v7, v8, v9, v10, v11, v12, v13, v14, v15, v16⟩ := id hV
  have v6l := kO_len mi v7 or v6
  obtain ⟨b1, b2, b3⟩ := id hB
  obtain ⟨c1, c2, c3⟩ := id hC
  have d1 : rf.length = 7 := hD
  obtain ⟨j0, j1, j2, j3, j4⟩ := id hJ
  refine mr_seg 2 (pc1 := 2) (ls1 := [some (.ref 100), some (.int (nI p)), some (.int y), none, none]) (st1 := [.int (nI p), .ref 100]) (M1 := (mk_M (cT im le ln ys vt nu nn rf vw vq yc yh yg) (kr (he, ke, ki, fi, fa, or, mi, a, g, l, w, s)) m kk q)) (fun f => rfl) ?_
  refine mr_call (y := 61) (y0 := 5) (L := [some (.ref 100), some (.int (nI p))]) (rest := []) (rr := some (.int 1)) (M1 := (mk_M (cT im le ln ys vt nu nn rf vw vq yc yh yg) (kr (he, ke, ki, fi, fa, or, mi, a, g, l, w, s)) m kk q)) (fun f => rfl) (by
      refine mr_seg 1 (pc1 := 1) (ls1 := [some (.ref 100), some (.int (nI p))]) (st1 := [.int (nI p)]) (M1 := (mk_M (cT im le ln ys vt nu nn rf vw vq yc yh yg) (kr (he, ke, ki, fi, fa, or, mi, a, g, l, w, s)) m kk q)) (fun f => rfl) ?_
      refine mr_f (C := (nI p) < 0) (fun e_ => absurd ((nI_ltI (a := p) (b := 0) (by omega) (by omega)).mp e_) (by omega)) (fun f => rfl) ?_
      refine mr_seg 4 (pc1 := 12) (ls1 := [some (.ref 100), some (.int (nI p))]) (st1 := [.int (nI mi), .int (nI p)]) (M1 := (mk_M (cT im le ln ys vt nu nn rf vw vq yc yh yg) (kr (he, ke, ki, fi, fa, or, mi, a, g, l, w, s)) m kk q)) (fun f => rfl) ?_
      refine mr_f (C := (nI mi) ≤ (nI p)) (fun e_ => absurd ((nI_leI (a := mi) (b := p) (by omega) (by omega)).mp e_) (by omega)) (fun f => rfl) ?_
      exact mr_ret 3 (fun f => rfl)) ?_
  refine mr_seg 2 (pc1 := 15) (ls1 := [some (.ref 100), some (.int (nI p)), some (.int y), none, none]) (st1 := [.int y]) (M1 := (mk_M (cT im le ln ys vt nu nn rf vw vq yc yh yg) (kr (he, ke, ki, fi, fa, or, mi, a, g, l, w, s)) m kk q)) (fun f => rfl) ?_
  refine mr_t (C := y < 0) (mz_lt_t 0 (by decide) (by omega)) (fun f => rfl) ?_
  refine mr_seg 2 (pc1 := 26) (ls1 := [some (.ref 100), some (.int (nI p)), some (.int y), none, none]) (st1 := [.int (-2), .ref 100]) (M1 := (mk_M (cT im le ln ys vt nu nn rf vw vq yc yh yg) (kr (he, ke, ki, fi, fa, or, mi, a, g, l, w, s)) m kk q)) (fun f => rfl) ?_
  refine mr_call (y := 12) (y0 := 29) (L := [some (.ref 100), some (.int (-2))]) (rest := []) (rr := some (.int (-2))) (M1 := (mk_M (cT im le ln ys vt nu nn (rf.set 2 (kg rf 2 + 1)) vw vq yc yh yg) (kr (he, ke, ki, fi, fa, or, mi, a, g, l, w, s)) m kk q)) (fun f => rfl) (by
      refine mr_seg 5 (pc1 := 7) (ls1 := [some (.ref 100), some (.int (-2))]) (st1 := [.int 2, .ref 105, .int 2, .ref 105]) (M1 := (mk_M (cT im le ln ys vt nu nn rf vw vq yc yh yg) (kr (he, ke, ki, fi, fa, or, mi, a, g, l, w, s)) m kk q)) (fun f => rfl) ?_
      refine mr_ldn (xs := (rf.map nI)) rfl rfl (k := 2) (by omega) (kg_ok (by omega)) ?_
      refine mr_seg 2 (pc1 := 10) (ls1 := [some (.ref 100), some (.int (-2))]) (st1 := [.int ((nI (kg rf 2)) + 1), .int 2, .ref 105]) (M1 := (mk_M (cT im le ln ys vt nu nn rf vw vq yc yh yg) (kr (he, ke, ki, fi, fa, or, mi, a, g, l, w, s)) m kk q)) (fun f => rfl) ?_
      refine mr_v (nI_add (kg rf 2) 1) ?_
      refine mr_stn (xs := (rf.map nI)) (ys := ((rf.set 2 (kg rf 2 + 1)).map nI)) (M2 := (mk_M (cT im le ln ys vt nu nn (rf.set 2 (kg rf 2 + 1)) vw vq yc yh yg) (kr (he, ke, ki, fi, fa, or, mi, a, g, l, w, s)) m kk q)) rfl rfl (k := 2) (by omega) (by simp only [List.length_map, List.length_set]; omega) ks_ok rfl ?_
      exact mr_ret 2 (fun f => rfl)) ?_
  exact mr_ret 1 (fun f => rfl)
set_option maxRecDepth 100000 in
theorem om_bestKind_2 (he ke ki fi fa or : List Nat) (mi a g l w s : Nat) (xm xi xw : List Int32) (im : Nat) (le nu rf : List Nat) (ln nn : Nat) (vp : Int32) (xn xc : List Int32) (vs : Int32) (c : cC) (n m kk : kG) (hA : iA (he, ke, ki, fi, fa, or, mi, a, g, l, w, s)) (hB : iB le ln) (hC : iC nu nn) (hD : iD rf) (hR : iR xm xw xn xc) (k1 : xi.length = 52) (p : Nat) (hp : p < mi) (y : Int32) (hyu : y.toInt ≤ -1) : mm_R 188 0 [some (.ref 138), some (.int (nI p)), some (.int y), none, none, none, none] [] (mk_M c n m kk (rT (he, ke, ki, fi, fa, or, mi, a, g, l, w, s) xm xi xw im le nu rf ln nn vp xn xc vs)) (some (.int (-2)), (mk_M c n m kk (rT (he, ke, ki, fi, fa, or, mi, a, g, l, w, s) xm xi xw im le nu (rf.set 2 (kg rf 2 + 1)) ln nn vp xn xc vs))) := by
  obtain ⟨hV, hst⟩ := id hA
  have hst2 : s ≤ 999 := hst
  obtain ⟨v1, v2, v3, v4, v5, v6, v7, v8, v9, v10, v11, v12, v13, v14, v15, v16⟩ := id hV
  have v6l := kO_len mi v7 or v6
  obtain ⟨b1, b2, b3⟩ := id hB
  obtain ⟨c1, c2, c3⟩ := id hC
  have d1 : rf.length = 7 := hD
  obtain ⟨r1, r2, r3, r4⟩ := id hR
  refine mr_seg 2 (pc1 := 2) (ls1 := [some (.ref 138), some (.int (nI p)), some (.int y), none, none, none, none]) (st1 := [.int (nI p), .ref 138]) (M1 := (mk_M c n m kk (rT (he, ke, ki, fi, fa, or, mi, a, g, l, w, s) xm xi xw im le nu rf ln nn vp xn xc vs))) (fun f => rfl) ?_
  refine mr_call (y := 142) (y0 := 5) (L := [some (.ref 138), some (.int (nI p))]) (rest := []) (rr := some (.int 1)) (M1 := (mk_M c n m kk (rT (he, ke, ki, fi, fa, or, mi, a, g, l, w, s) xm xi xw im le nu rf ln nn vp xn xc vs))) (fun f => rfl) (by
      refine mr_seg 5 (pc1 := 7) (ls1 := [some (.ref 138), some (.int (nI p))]) (st1 := [.int 0, .ref 139, .int 0, .int (nI p)]) (M1 := (mk_M c n m kk (rT (he, ke, ki, fi, fa, or, mi, a, g, l, w, s) xm xi xw im le nu rf ln nn vp xn xc vs))) (fun f => rfl) ?_
      refine mr_ldn (xs := (er (he, ke, ki, fi, fa, or, mi, a, g, l, w, s))) rfl rfl (k := 0) (by decide) rfl ?_
      refine mr_seg 2 (pc1 := 10) (ls1 := [some (.ref 138), some (.int (nI p))]) (st1 := [.int ((nI mi) - 1), .int 0, .int (nI p)]) (M1 := (mk_M c n m kk (rT (he, ke, ki, fi, fa, or, mi, a, g, l, w, s) xm xi xw im le nu rf ln nn vp xn xc vs))) (fun f => rfl) ?_
      refine mr_v (pk_sub (a := mi) (b := 1) (by omega)) ?_
      refine mr_call (y := 135) (y0 := 13) (L := [some (.int (nI p)), some (.int 0), some (.int (nI (mi - 1)))]) (rest := []) (rr := some (.int 1)) (M1 := (mk_M c n m kk (rT (he, ke, ki, fi, fa, or, mi, a, g, l, w, s) xm xi xw im le nu rf ln nn vp xn xc vs))) (fun f => rfl) (by
          refine mr_seg 2 (pc1 := 2) (ls1 := [some (.int (nI p)), some (.int 0), some (.int (nI (mi - 1)))]) (st1 := [.int 0, .int (nI p)]) (M1 := (mk_M c n m kk (rT (he, ke, ki, fi, fa, or, mi, a, g, l, w, s) xm xi xw im le nu rf ln nn vp xn xc vs))) (fun f => rfl) ?_
          refine mr_f (C := (nI p) < 0) (fun e_ => absurd ((nI_ltI (a := p) (b := 0) (by omega) (by omega)).mp e_) (by omega)) (fun f => rfl) ?_
          refine mr_seg 2 (pc1 := 7) (ls1 := [some (.int (nI p)), some (.int 0), some (.int (nI (mi - 1)))]) (st1 := [.int (nI (mi - 1)), .int (nI p)]) (M1 := (mk_M c n m kk (rT (he, ke, ki, fi, fa, or, mi, a, g, l, w, s) xm xi xw im le nu rf ln nn vp xn xc vs))) (fun f => rfl) ?_
          refine mr_f (C := (nI (mi - 1)) < (nI p)) (fun e_ => absurd ((nI_ltI (a := mi - 1) (b := p) (by omega) (by omega)).mp e_) (by omega)) (fun f => rfl) ?_
          exact mr_ret 3 (fun f => rfl)) ?_
      exact mr_ret 1 (fun f => rfl)) ?_
  refine mr_seg 4 (pc1 := 17) (ls1 := [some (.ref 138), some (.int (nI p)), some (.int y), none, none, none, none]) (st1 := [.int 1, .int 0, .int y]) (M1 := (mk_M c n m kk (rT (he, ke, ki, fi, fa, or, mi, a, g, l, w, s) xm xi xw im le nu rf ln nn vp xn xc vs))) (fun f => rfl) ?_
  refine mr_call (y := 135) (y0 := 20) (L := [some (.int y), some (.int 0), some (.int 1)]) (rest := []) (rr := some (.int 0)) (M1 := (mk_M c n m kk (rT (he, ke, ki, fi, fa, or, mi, a, g, l, w, s) xm xi xw im le nu rf ln nn vp xn xc vs))) (fun f => rfl) (by
      refine mr_seg 2 (pc1 := 2) (ls1 := [some (.int y), some (.int 0), some (.int 1)]) (st1 := [.int 0, .int y]) (M1 := (mk_M c n m kk (rT (he, ke, ki, fi, fa, or, mi, a, g, l, w, s) xm xi xw im le nu rf ln nn vp xn xc vs))) (fun f => rfl) ?_
      refine mr_t (C := y < 0) (mz_lt_t 0 (by decide) (by omega)) (fun f => rfl) ?_
      exact mr_ret 2 (fun f => rfl)) ?_
  refine mr_seg 3 (pc1 := 26) (ls1 := [some (.ref 138), some (.int (nI p)), some (.int y), none, none, none, none]) (st1 := [.int (-2), .ref 138]) (M1 := (mk_M c n m kk (rT (he, ke, ki, fi, fa, or, mi, a, g, l, w, s) xm xi xw im le nu rf ln nn vp xn xc vs))) (fun f => rfl) ?_
  refine mr_call (y := 130) (y0 := 29) (L := [some (.ref 138), some (.int (-2))]) (rest := []) (rr := some (.int (-2))) (M1 := (mk_M c n m kk (rT (he, ke, ki, fi, fa, or, mi, a, g, l, w, s) xm xi xw im le nu (rf.set 2 (kg rf 2 + 1)) ln nn vp xn xc vs))) (fun f => rfl) (by
      refine mr_seg 5 (pc1 := 7) (ls1 := [some (.ref 138), some (.int (-2))]) (st1 := [.int 2, .ref 145, .int 2, .ref 145]) (M1 := (mk_M c n m kk (rT (he, ke, ki, fi, fa, or, mi, a, g, l, w, s) xm xi xw im le nu rf ln nn vp xn xc vs))) (fun f => rfl) ?_
      refine mr_ldn (xs := (rf.map nI)) rfl rfl (k := 2) (by omega) (kg_ok (by omega)) ?_
      refine mr_seg 2 (pc1 := 10) (ls1 := [some (.ref 138), some (.int (-2))]) (st1 := [.int ((nI (kg rf 2)) + 1), .int 2, .ref 145]) (M1 := (mk_M c n m kk (rT (he, ke, ki, fi, fa, or, mi, a, g, l, w, s) xm xi xw im le nu rf ln nn vp xn xc vs))) (fun f => rfl) ?_
      refine mr_v (nI_add (kg rf 2) 1) ?_
      refine mr_stn (xs := (rf.map nI)) (ys := ((rf.set 2 (kg rf 2 + 1)).map nI)) (M2 := (mk_M c n m kk (rT (he, ke, ki, fi, fa, or, mi, a, g, l, w, s) xm xi xw im le nu (rf.set 2 (kg rf 2 + 1)) ln nn vp xn xc vs))) rfl rfl (k := 2) (by omega) (by simp only [List.length_map, List.length_set]; omega) ks_ok rfl ?_
      exact mr_ret 2 (fun f => rfl)) ?_
  exact mr_ret 1 (fun f => rfl)
theorem oe_bestKind_2 (he ke ki fi fa or : List Nat) (mi a g l w s : Nat) (m : kG) (kk : kG) (im : Nat) (le : List Nat) (ln : Nat) (ys : List Int32) (vt : Int32) (nu : List Nat) (nn : Nat) (rf : List Nat) (vw : Int32) (vq : Int32) (yc : List Int32) (yh : List Int32) (yg : List Int32) (xm : List Int32) (xi : List Int32) (xw : List Int32) (vp : Int32) (xn : List Int32) (xc : List Int32) (vs : Int32) (hA : iA (he, ke, ki, fi, fa, or, mi, a, g, l, w, s)) (hB : iB le ln) (hC : iC nu nn) (hD : iD rf) (hJ : iJ m ys yc yh yg) (hR : iR xm xw xn xc) (hK : iK im kk xi) (p : Nat) (hp : p < mi) (y : Int32) (hyu : y.toInt ≤ -1) : oI 96 188 [some (.ref 100), some (.int (nI p)), some (.int y), none, none] [some (.ref 138), some (.int (nI p)), some (.int y), none, none, none, none] (mk_M (cT im le ln ys vt nu nn rf vw vq yc yh yg) (kr (he, ke, ki, fi, fa, or, mi, a, g, l, w, s)) m kk (rT (he, ke, ki, fi, fa, or, mi, a, g, l, w, s) xm xi xw im le nu rf ln nn vp xn xc vs)) := by
  exact ⟨(-2), _, _, oc_bestKind_2 he ke ki fi fa or mi a g l w s im le ln ys vt nu nn rf vw vq yc yh yg m kk _ hA hB hC hD hJ hK.1 p hp y hyu, om_bestKind_2 he ke ki fi fa or mi a g l w s xm xi xw im le nu rf ln nn vp xn xc vs _ _ _ _ hA hB hC hD hR hK.2.1 p hp y hyu, (he, ke, ki, fi, fa, or, mi, a, g, l, w, s), m, kk, im, le, ln, ys, vt, nu, nn, (rf.set 2 (kg rf 2 + 1)), vw, vq, yc, yh, yg, xm, xi, xw, vp, xn, xc, vs, rfl, hA, hB, hC, iD_s hD, hJ, hR, hK⟩
set_option maxRecDepth 100000 in
theorem oc_bestKind_3 (he ke ki fi fa or : List Nat) (mi a g l w s : Nat) (im : Nat) (le : List Nat) (ln : Nat) (ys : List Int32) (vt : Int32) (nu : List Nat) (nn : Nat) (rf : List Nat) (vw vq : Int32) (yc yh yg : List Int32) (m kk : kG) (q : cR) (hA : iA (he, ke, ki, fi, fa, or, mi, a, g, l, w, s)) (hB : iB le ln) (hC : iC nu nn) (hD : iD rf) (hJ : iJ m ys yc yh yg) (k0 : kSh kk) (p : Nat) (hp : p < mi) (y : Int32) (hyl : 2 ≤ y.toInt) : mm_R 96 0 [some (.ref 100), some (.int (nI p)), some (.int y), none, none] [] (mk_M (cT im le ln ys vt nu nn rf vw vq yc yh yg) (kr (he, ke, ki, fi, fa, or, mi, a, g, l, w, s)) m kk q) (some (.int (-2)), (mk_M (cT im le ln ys vt nu nn (rf.set 2 (kg rf 2 + 1)) vw vq yc yh yg) (kr (he, ke, ki, fi, fa, or, mi, a, g, l, w, s)) m kk q)) := by
  obtain ⟨hV, hst⟩ := id hA
  have hst2 : s ≤ 999 := hst
  obtain ⟨v1, v2, v3, v4, v5, v6, v7, v8, v9, v10, v11, v12, v13, v14, v15, v16⟩ := id hV
  have v6l := kO_len mi v7 or v6
  obtain ⟨b1, b2, b3⟩ := id hB
  obtain ⟨c1, c2, c3⟩ := id hC
  have d1 : rf.length = 7 := hD
  obtain ⟨j0, j1, j2, j3, j4⟩ := id hJ
  refine mr_seg 2 (pc1 := 2) (ls1 := [some (.ref 100), some (.int (nI p)), some (.int y), none, none]) (st1 := [.int (nI p), .ref 100]) (M1 := (mk_M (cT im le ln ys vt nu nn rf vw vq yc yh yg) (kr (he, ke, ki, fi, fa, or, mi, a, g, l, w, s)) m kk q)) (fun f => rfl) ?_
  refine mr_call (y := 61) (y0 := 5) (L := [some (.ref 100), some (.int (nI p))]) (rest := []) (rr := some (.int 1)) (M1 := (mk_M (cT im le ln ys vt nu nn rf vw vq yc yh yg) (kr (he, ke, ki, fi, fa, or, mi, a, g, l, w, s)) m kk q)) (fun f => rfl) (by
      refine mr_seg 1 (pc1 := 1) (ls1 := [some (.ref 100), some (.int (nI p))]) (st1 := [.int (nI p)]) (M1 := (mk_M (cT im le ln ys vt nu nn rf vw vq yc yh yg) (kr (he, ke, ki, fi, fa, or, mi, a, g, l, w, s)) m kk q)) (fun f => rfl) ?_
      refine mr_f (C := (nI p) < 0) (fun e_ => absurd ((nI_ltI (a := p) (b := 0) (by omega) (by omega)).mp e_) (by omega)) (fun f => rfl) ?_
      refine mr_seg 4 (pc1 := 12) (ls1 := [some (.ref 100), some (.int (nI p))]) (st1 := [.int (nI mi), .int (nI p)]) (M1 := (mk_M (cT im le ln ys vt nu nn rf vw vq yc yh yg) (kr (he, ke, ki, fi, fa, or, mi, a, g, l, w, s)) m kk q)) (fun f => rfl) ?_
      refine mr_f (C := (nI mi) ≤ (nI p)) (fun e_ => absurd ((nI_leI (a := mi) (b := p) (by omega) (by omega)).mp e_) (by omega)) (fun f => rfl) ?_
      exact mr_ret 3 (fun f => rfl)) ?_
  refine mr_seg 2 (pc1 := 15) (ls1 := [some (.ref 100), some (.int (nI p)), some (.int y), none, none]) (st1 := [.int y]) (M1 := (mk_M (cT im le ln ys vt nu nn rf vw vq yc yh yg) (kr (he, ke, ki, fi, fa, or, mi, a, g, l, w, s)) m kk q)) (fun f => rfl) ?_
  refine mr_f (C := y < 0) (mz_lt_f 0 (by decide) (by omega)) (fun f => rfl) ?_
  refine mr_seg 2 (pc1 := 20) (ls1 := [some (.ref 100), some (.int (nI p)), some (.int y), none, none]) (st1 := [.int 1, .int y]) (M1 := (mk_M (cT im le ln ys vt nu nn rf vw vq yc yh yg) (kr (he, ke, ki, fi, fa, or, mi, a, g, l, w, s)) m kk q)) (fun f => rfl) ?_
  refine mr_f (C := y ≤ 1) (mz_le_f 1 (by decide) (by omega)) (fun f => rfl) ?_
  refine mr_seg 2 (pc1 := 26) (ls1 := [some (.ref 100), some (.int (nI p)), some (.int y), none, none]) (st1 := [.int (-2), .ref 100]) (M1 := (mk_M (cT im le ln ys vt nu nn rf vw vq yc yh yg) (kr (he, ke, ki, fi, fa, or, mi, a, g, l, w, s)) m kk q)) (fun f => rfl) ?_
  refine mr_call (y := 12) (y0 := 29) (L := [some (.ref 100), some (.int (-2))]) (rest := []) (rr := some (.int (-2))) (M1 := (mk_M (cT im le ln ys vt nu nn (rf.set 2 (kg rf 2 + 1)) vw vq yc yh yg) (kr (he, ke, ki, fi, fa, or, mi, a, g, l, w, s)) m kk q)) (fun f => rfl) (by
      refine mr_seg 5 (pc1 := 7) (ls1 := [some (.ref 100), some (.int (-2))]) (st1 := [.int 2, .ref 105, .int 2, .ref 105]) (M1 := (mk_M (cT im le ln ys vt nu nn rf vw vq yc yh yg) (kr (he, ke, ki, fi, fa, or, mi, a, g, l, w, s)) m kk q)) (fun f => rfl) ?_
      refine mr_ldn (xs := (rf.map nI)) rfl rfl (k := 2) (by omega) (kg_ok (by omega)) ?_
      refine mr_seg 2 (pc1 := 10) (ls1 := [some (.ref 100), some (.int (-2))]) (st1 := [.int ((nI (kg rf 2)) + 1), .int 2, .ref 105]) (M1 := (mk_M (cT im le ln ys vt nu nn rf vw vq yc yh yg) (kr (he, ke, ki, fi, fa, or, mi, a, g, l, w, s)) m kk q)) (fun f => rfl) ?_
      refine mr_v (nI_add (kg rf 2) 1) ?_
      refine mr_stn (xs := (rf.map nI)) (ys := ((rf.set 2 (kg rf 2 + 1)).map nI)) (M2 := (mk_M (cT im le ln ys vt nu nn (rf.set 2 (kg rf 2 + 1)) vw vq yc yh yg) (kr (he, ke, ki, fi, fa, or, mi, a, g, l, w, s)) m kk q)) rfl rfl (k := 2) (by omega) (by simp only [List.length_map, List.length_set]; omega) ks_ok rfl ?_
      exact mr_ret 2 (fun f => rfl)) ?_
  exact mr_ret 1 (fun f => rfl)
set_option maxRecDepth 100000 in
theorem om_bestKind_3 (he ke ki fi fa or : List Nat) (mi a g l w s : Nat) (xm xi xw : List Int32) (im : Nat) (le nu rf : List Nat) (ln nn : Nat) (vp : Int32) (xn xc : List Int32) (vs : Int32) (c : cC) (n m kk : kG) (hA : iA (he, ke, ki, fi, fa, or, mi, a, g, l, w, s)) (hB : iB le ln) (hC : iC nu nn) (hD : iD rf) (hR : iR xm xw xn xc) (k1 : xi.length = 52) (p : Nat) (hp : p < mi) (y : Int32) (hyl : 2 ≤ y.toInt) : mm_R 188 0 [some (.ref 138), some (.int (nI p)), some (.int y), none, none, none, none] [] (mk_M c n m kk (rT (he, ke, ki, fi, fa, or, mi, a, g, l, w, s) xm xi xw im le nu rf ln nn vp xn xc vs)) (some (.int (-2)), (mk_M c n m kk (rT (he, ke, ki, fi, fa, or, mi, a, g, l, w, s) xm xi xw im le nu (rf.set 2 (kg rf 2 + 1)) ln nn vp xn xc vs))) := by
  obtain ⟨hV, hst⟩ := id hA
  have hst2 : s ≤ 999 := hst
  obtain ⟨v1, v2, v3, v4, v5, v6, v7, v8, v9, v10, v11, v12, v13, v14, v15, v16⟩ := id hV
  have v6l := kO_len mi v7 or v6
  obtain ⟨b1, b2, b3⟩ := id hB
  obtain ⟨c1, c2, c3⟩ := id hC
  have d1 : rf.length = 7 := hD
  obtain ⟨r1, r2, r3, r4⟩ := id hR
  refine mr_seg 2 (pc1 := 2) (ls1 := [some (.ref 138), some (.int (nI p)), some (.int y), none, none, none, none]) (st1 := [.int (nI p), .ref 138]) (M1 := (mk_M c n m kk (rT (he, ke, ki, fi, fa, or, mi, a, g, l, w, s) xm xi xw im le nu rf ln nn vp xn xc vs))) (fun f => rfl) ?_
  refine mr_call (y := 142) (y0 := 5) (L := [some (.ref 138), some (.int (nI p))]) (rest := []) (rr := some (.int 1)) (M1 := (mk_M c n m kk (rT (he, ke, ki, fi, fa, or, mi, a, g, l, w, s) xm xi xw im le nu rf ln nn vp xn xc vs))) (fun f => rfl) (by
      refine mr_seg 5 (pc1 := 7) (ls1 := [some (.ref 138), some (.int (nI p))]) (st1 := [.int 0, .ref 139, .int 0, .int (nI p)]) (M1 := (mk_M c n m kk (rT (he, ke, ki, fi, fa, or, mi, a, g, l, w, s) xm xi xw im le nu rf ln nn vp xn xc vs))) (fun f => rfl) ?_
      refine mr_ldn (xs := (er (he, ke, ki, fi, fa, or, mi, a, g, l, w, s))) rfl rfl (k := 0) (by decide) rfl ?_
      refine mr_seg 2 (pc1 := 10) (ls1 := [some (.ref 138), some (.int (nI p))]) (st1 := [.int ((nI mi) - 1), .int 0, .int (nI p)]) (M1 := (mk_M c n m kk (rT (he, ke, ki, fi, fa, or, mi, a, g, l, w, s) xm xi xw im le nu rf ln nn vp xn xc vs))) (fun f => rfl) ?_
      refine mr_v (pk_sub (a := mi) (b := 1) (by omega)) ?_
      refine mr_call (y := 135) (y0 := 13) (L := [some (.int (nI p)), some (.int 0), some (.int (nI (mi - 1)))]) (rest := []) (rr := some (.int 1)) (M1 := (mk_M c n m kk (rT (he, ke, ki, fi, fa, or, mi, a, g, l, w, s) xm xi xw im le nu rf ln nn vp xn xc vs))) (fun f => rfl) (by
          refine mr_seg 2 (pc1 := 2) (ls1 := [some (.int (nI p)), some (.int 0), some (.int (nI (mi - 1)))]) (st1 := [.int 0, .int (nI p)]) (M1 := (mk_M c n m kk (rT (he, ke, ki, fi, fa, or, mi, a, g, l, w, s) xm xi xw im le nu rf ln nn vp xn xc vs))) (fun f => rfl) ?_
          refine mr_f (C := (nI p) < 0) (fun e_ => absurd ((nI_ltI (a := p) (b := 0) (by omega) (by omega)).mp e_) (by omega)) (fun f => rfl) ?_
          refine mr_seg 2 (pc1 := 7) (ls1 := [some (.int (nI p)), some (.int 0), some (.int (nI (mi - 1)))]) (st1 := [.int (nI (mi - 1)), .int (nI p)]) (M1 := (mk_M c n m kk (rT (he, ke, ki, fi, fa, or, mi, a, g, l, w, s) xm xi xw im le nu rf ln nn vp xn xc vs))) (fun f => rfl) ?_
          refine mr_f (C := (nI (mi - 1)) < (nI p)) (fun e_ => absurd ((nI_ltI (a := mi - 1) (b := p) (by omega) (by omega)).mp e_) (by omega)) (fun f => rfl) ?_
          exact mr_ret 3 (fun f => rfl)) ?_
      exact mr_ret 1 (fun f => rfl)) ?_
  refine mr_seg 4 (pc1 := 17) (ls1 := [some (.ref 138), some (.int (nI p)), some (.int y), none, none, none, none]) (st1 := [.int 1, .int 0, .int y]) (M1 := (mk_M c n m kk (rT (he, ke, ki, fi, fa, or, mi, a, g, l, w, s) xm xi xw im le nu rf ln nn vp xn xc vs))) (fun f => rfl) ?_
  refine mr_call (y := 135) (y0 := 20) (L := [some (.int y), some (.int 0), some (.int 1)]) (rest := []) (rr := some (.int 0)) (M1 := (mk_M c n m kk (rT (he, ke, ki, fi, fa, or, mi, a, g, l, w, s) xm xi xw im le nu rf ln nn vp xn xc vs))) (fun f => rfl) (by
      refine mr_seg 2 (pc1 := 2) (ls1 := [some (.int y), some (.int 0), some (.int 1)]) (st1 := [.int 0, .int y]) (M1 := (mk_M c n m kk (rT (he, ke, ki, fi, fa, or, mi, a, g, l, w, s) xm xi xw im le nu rf ln nn vp xn xc vs))) (fun f => rfl) ?_
      refine mr_f (C := y < 0) (mz_lt_f 0 (by decide) (by omega)) (fun f => rfl) ?_
      refine mr_seg 2 (pc1 := 7) (ls1 := [some (.int y), some (.int 0), some (.int 1)]) (st1 := [.int 1, .int y]) (M1 := (mk_M c n m kk (rT (he, ke, ki, fi, fa, or, mi, a, g, l, w, s) xm xi xw im le nu rf ln nn vp xn xc vs))) (fun f => rfl) ?_
      refine mr_t (C := 1 < y) (mz_gt_t 1 (by decide) (by omega)) (fun f => rfl) ?_
      exact mr_ret 2 (fun f => rfl)) ?_
  refine mr_seg 3 (pc1 := 26) (ls1 := [some (.ref 138), some (.int (nI p)), some (.int y), none, none, none, none]) (st1 := [.int (-2), .ref 138]) (M1 := (mk_M c n m kk (rT (he, ke, ki, fi, fa, or, mi, a, g, l, w, s) xm xi xw im le nu rf ln nn vp xn xc vs))) (fun f => rfl) ?_
  refine mr_call (y := 130) (y0 := 29) (L := [some (.ref 138), some (.int (-2))]) (rest := []) (rr := some (.int (-2))) (M1 := (mk_M c n m kk (rT (he, ke, ki, fi, fa, or, mi, a, g, l, w, s) xm xi xw im le nu (rf.set 2 (kg rf 2 + 1)) ln nn vp xn xc vs))) (fun f => rfl) (by
      refine mr_seg 5 (pc1 := 7) (ls1 := [some (.ref 138), some (.int (-2))]) (st1 := [.int 2, .ref 145, .int 2, .ref 145]) (M1 := (mk_M c n m kk (rT (he, ke, ki, fi, fa, or, mi, a, g, l, w, s) xm xi xw im le nu rf ln nn vp xn xc vs))) (fun f => rfl) ?_
      refine mr_ldn (xs := (rf.map nI)) rfl rfl (k := 2) (by omega) (kg_ok (by omega)) ?_
      refine mr_seg 2 (pc1 := 10) (ls1 := [some (.ref 138), some (.int (-2))]) (st1 := [.int ((nI (kg rf 2)) + 1), .int 2, .ref 145]) (M1 := (mk_M c n m kk (rT (he, ke, ki, fi, fa, or, mi, a, g, l, w, s) xm xi xw im le nu rf ln nn vp xn xc vs))) (fun f => rfl) ?_
      refine mr_v (nI_add (kg rf 2) 1) ?_
      refine mr_stn (xs := (rf.map nI)) (ys := ((rf.set 2 (kg rf 2 + 1)).map nI)) (M2 := (mk_M c n m kk (rT (he, ke, ki, fi, fa, or, mi, a, g, l, w, s) xm xi xw im le nu (rf.set 2 (kg rf 2 + 1)) ln nn vp xn xc vs))) rfl rfl (k := 2) (by omega) (by simp only [List.length_map, List.length_set]; omega) ks_ok rfl ?_
      exact mr_ret 2 (fun f => rfl)) ?_
  exact mr_ret 1 (fun f => rfl)
theorem oe_bestKind_3 (he ke ki fi fa or : List Nat) (mi a g l w s : Nat) (m : kG) (kk : kG) (im : Nat) (le : List Nat) (ln : Nat) (ys : List Int32) (vt : Int32) (nu : List Nat) (nn : Nat) (rf : List Nat) (vw : Int32) (vq : Int32) (yc : List Int32) (yh : List Int32) (yg : List Int32) (xm : List Int32) (xi : List Int32) (xw : List Int32) (vp : Int32) (xn : List Int32) (xc : List Int32) (vs : Int32) (hA : iA (he, ke, ki, fi, fa, or, mi, a, g, l, w, s)) (hB : iB le ln) (hC : iC nu nn) (hD : iD rf) (hJ : iJ m ys yc yh yg) (hR : iR xm xw xn xc) (hK : iK im kk xi) (p : Nat) (hp : p < mi) (y : Int32) (hyl : 2 ≤ y.toInt) : oI 96 188 [some (.ref 100), some (.int (nI p)), some (.int y), none, none] [some (.ref 138), some (.int (nI p)), some (.int y), none, none, none, none] (mk_M (cT im le ln ys vt nu nn rf vw vq yc yh yg) (kr (he, ke, ki, fi, fa, or, mi, a, g, l, w, s)) m kk (rT (he, ke, ki, fi, fa, or, mi, a, g, l, w, s) xm xi xw im le nu rf ln nn vp xn xc vs)) := by
  exact ⟨(-2), _, _, oc_bestKind_3 he ke ki fi fa or mi a g l w s im le ln ys vt nu nn rf vw vq yc yh yg m kk _ hA hB hC hD hJ hK.1 p hp y hyl, om_bestKind_3 he ke ki fi fa or mi a g l w s xm xi xw im le nu rf ln nn vp xn xc vs _ _ _ _ hA hB hC hD hR hK.2.1 p hp y hyl, (he, ke, ki, fi, fa, or, mi, a, g, l, w, s), m, kk, im, le, ln, ys, vt, nu, nn, (rf.set 2 (kg rf 2 + 1)), vw, vq, yc, yh, yg, xm, xi, xw, vp, xn, xc, vs, rfl, hA, hB, hC, iD_s hD, hJ, hR, hK⟩
set_option maxRecDepth 100000 in
theorem oc_far_0 (he ke ki fi fa or : List Nat) (mi a g l w s : Nat) (im : Nat) (le : List Nat) (ln : Nat) (ys : List Int32) (vt : Int32) (nu : List Nat) (nn : Nat) (rf : List Nat) (vw vq : Int32) (yc yh yg : List Int32) (m kk : kG) (q : cR) (hA : iA (he, ke, ki, fi, fa, or, mi, a, g, l, w, s)) (hB : iB le ln) (hC : iC nu nn) (hD : iD rf) (hJ : iJ m ys yc yh yg) (k0 : kSh kk) (x : Int32) (hxu : x.toInt ≤ -1) : mm_R 97 0 [some (.ref 100), some (.int x)] [] (mk_M (cT im le ln ys vt nu nn rf vw vq yc yh yg) (kr (he, ke, ki, fi, fa, or, mi, a, g, l, w, s)) m kk q) (some (.int (-2)), (mk_M (cT im le ln ys vt nu nn (rf.set 2 (kg rf 2 + 1)) vw vq yc yh yg) (kr (he, ke, ki, fi, fa, or, mi, a, g, l, w, s)) m kk q)) := by
  obtain ⟨hV, hst⟩ := id hA
  have hst2 : s ≤ 999 := hst
  obtain ⟨v1, v2, v3, v4, v5, v6, v7, v8, v9, v10, v11, v12, v13, v14, v15, v16⟩ := id hV
  have v6l := kO_len mi v7 or v6
  obtain ⟨b1, b2, b3⟩ := id hB
  obtain ⟨c1, c2, c3⟩ := id hC
  have d1 : rf.length = 7 := hD
  obtain ⟨j0, j1, j2, j3, j4⟩ := id hJ
  refine mr_seg 1 (pc1 := 1) (ls1 := [some (.ref 100), some (.int x)]) (st1 := [.int x]) (M1 := (mk_M (cT im le ln ys vt nu nn rf vw vq yc yh yg) (kr (he, ke, ki, fi, fa, or, mi, a, g, l, w, s)) m kk q)) (fun f => rfl) ?_
  refine mr_tsw (t1 := 81) rfl (by omega) (by decide) ?_
  refine mr_seg 2 (pc1 := 84) (ls1 := [some (.ref 100), some (.int x)]) (st1 := [.int (-2), .ref 100]) (M1 := (mk_M (cT im le ln ys vt nu nn rf vw vq yc yh yg) (kr (he, ke, ki, fi, fa, or, mi, a, g, l, w, s)) m kk q)) (fun f => rfl) ?_
  refine mr_call (y := 12) (y0 := 87) (L := [some (.ref 100), some (.int (-2))]) (rest := []) (rr := some (.int (-2))) (M1 := (mk_M (cT im le ln ys vt nu nn (rf.set 2 (kg rf 2 + 1)) vw vq yc yh yg) (kr (he, ke, ki, fi, fa, or, mi, a, g, l, w, s)) m kk q)) (fun f => rfl) (by
      refine mr_seg 5 (pc1 := 7) (ls1 := [some (.ref 100), some (.int (-2))]) (st1 := [.int 2, .ref 105, .int 2, .ref 105]) (M1 := (mk_M (cT im le ln ys vt nu nn rf vw vq yc yh yg) (kr (he, ke, ki, fi, fa, or, mi, a, g, l, w, s)) m kk q)) (fun f => rfl) ?_
      refine mr_ldn (xs := (rf.map nI)) rfl rfl (k := 2) (by omega) (kg_ok (by omega)) ?_
      refine mr_seg 2 (pc1 := 10) (ls1 := [some (.ref 100), some (.int (-2))]) (st1 := [.int ((nI (kg rf 2)) + 1), .int 2, .ref 105]) (M1 := (mk_M (cT im le ln ys vt nu nn rf vw vq yc yh yg) (kr (he, ke, ki, fi, fa, or, mi, a, g, l, w, s)) m kk q)) (fun f => rfl) ?_
      refine mr_v (nI_add (kg rf 2) 1) ?_
      refine mr_stn (xs := (rf.map nI)) (ys := ((rf.set 2 (kg rf 2 + 1)).map nI)) (M2 := (mk_M (cT im le ln ys vt nu nn (rf.set 2 (kg rf 2 + 1)) vw vq yc yh yg) (kr (he, ke, ki, fi, fa, or, mi, a, g, l, w, s)) m kk q)) rfl rfl (k := 2) (by omega) (by simp only [List.length_map, List.length_set]; omega) ks_ok rfl ?_
      exact mr_ret 2 (fun f => rfl)) ?_
  exact mr_ret 1 (fun f => rfl)
set_option maxRecDepth 100000 in
theorem om_far_0 (he ke ki fi fa or : List Nat) (mi a g l w s : Nat) (xm xi xw : List Int32) (im : Nat) (le nu rf : List Nat) (ln nn : Nat) (vp : Int32) (xn xc : List Int32) (vs : Int32) (c : cC) (n m kk : kG) (hA : iA (he, ke, ki, fi, fa, or, mi, a, g, l, w, s)) (hB : iB le ln) (hC : iC nu nn) (hD : iD rf) (hR : iR xm xw xn xc) (k1 : xi.length = 52) (x : Int32) (hxu : x.toInt ≤ -1) : mm_R 189 0 [some (.ref 138), some (.int x), none, none, none, none, none] [] (mk_M c n m kk (rT (he, ke, ki, fi, fa, or, mi, a, g, l, w, s) xm xi xw im le nu rf ln nn vp xn xc vs)) (some (.int (-2)), (mk_M c n m kk (rT (he, ke, ki, fi, fa, or, mi, a, g, l, w, s) xm xi xw im le nu (rf.set 2 (kg rf 2 + 1)) ln nn vp xn xc vs))) := by
  obtain ⟨hV, hst⟩ := id hA
  have hst2 : s ≤ 999 := hst
  obtain ⟨v1, v2, v3, v4, v5, v6, v7, v8, v9, v10, v11, v12, v13, v14, v15, v16⟩ := id hV
  have v6l := kO_len mi v7 or v6
  obtain ⟨b1, b2, b3⟩ := id hB
  obtain ⟨c1, c2, c3⟩ := id hC
  have d1 : rf.length = 7 := hD
  obtain ⟨r1, r2, r3, r4⟩ := id hR
  refine mr_seg 3 (pc1 := 3) (ls1 := [some (.ref 138), some (.int x), none, none, none, none, none]) (st1 := [.int 3, .int 0, .int x]) (M1 := (mk_M c n m kk (rT (he, ke, ki, fi, fa, or, mi, a, g, l, w, s) xm xi xw im le nu rf ln nn vp xn xc vs))) (fun f => rfl) ?_
  refine mr_call (y := 135) (y0 := 6) (L := [some (.int x), some (.int 0), some (.int 3)]) (rest := []) (rr := some (.int 0)) (M1 := (mk_M c n m kk (rT (he, ke, ki, fi, fa, or, mi, a, g, l, w, s) xm xi xw im le nu rf ln nn vp xn xc vs))) (fun f => rfl) (by
      refine mr_seg 2 (pc1 := 2) (ls1 := [some (.int x), some (.int 0), some (.int 3)]) (st1 := [.int 0, .int x]) (M1 := (mk_M c n m kk (rT (he, ke, ki, fi, fa, or, mi, a, g, l, w, s) xm xi xw im le nu rf ln nn vp xn xc vs))) (fun f => rfl) ?_
      refine mr_t (C := x < 0) (mz_lt_t 0 (by decide) (by omega)) (fun f => rfl) ?_
      exact mr_ret 2 (fun f => rfl)) ?_
  refine mr_seg 3 (pc1 := 12) (ls1 := [some (.ref 138), some (.int x), none, none, none, none, none]) (st1 := [.int (-2), .ref 138]) (M1 := (mk_M c n m kk (rT (he, ke, ki, fi, fa, or, mi, a, g, l, w, s) xm xi xw im le nu rf ln nn vp xn xc vs))) (fun f => rfl) ?_
  refine mr_call (y := 130) (y0 := 15) (L := [some (.ref 138), some (.int (-2))]) (rest := []) (rr := some (.int (-2))) (M1 := (mk_M c n m kk (rT (he, ke, ki, fi, fa, or, mi, a, g, l, w, s) xm xi xw im le nu (rf.set 2 (kg rf 2 + 1)) ln nn vp xn xc vs))) (fun f => rfl) (by
      refine mr_seg 5 (pc1 := 7) (ls1 := [some (.ref 138), some (.int (-2))]) (st1 := [.int 2, .ref 145, .int 2, .ref 145]) (M1 := (mk_M c n m kk (rT (he, ke, ki, fi, fa, or, mi, a, g, l, w, s) xm xi xw im le nu rf ln nn vp xn xc vs))) (fun f => rfl) ?_
      refine mr_ldn (xs := (rf.map nI)) rfl rfl (k := 2) (by omega) (kg_ok (by omega)) ?_
      refine mr_seg 2 (pc1 := 10) (ls1 := [some (.ref 138), some (.int (-2))]) (st1 := [.int ((nI (kg rf 2)) + 1), .int 2, .ref 145]) (M1 := (mk_M c n m kk (rT (he, ke, ki, fi, fa, or, mi, a, g, l, w, s) xm xi xw im le nu rf ln nn vp xn xc vs))) (fun f => rfl) ?_
      refine mr_v (nI_add (kg rf 2) 1) ?_
      refine mr_stn (xs := (rf.map nI)) (ys := ((rf.set 2 (kg rf 2 + 1)).map nI)) (M2 := (mk_M c n m kk (rT (he, ke, ki, fi, fa, or, mi, a, g, l, w, s) xm xi xw im le nu (rf.set 2 (kg rf 2 + 1)) ln nn vp xn xc vs))) rfl rfl (k := 2) (by omega) (by simp only [List.length_map, List.length_set]; omega) ks_ok rfl ?_
      exact mr_ret 2 (fun f => rfl)) ?_
  exact mr_ret 1 (fun f => rfl)
theorem oe_far_0 (he ke ki fi fa or : List Nat) (mi a g l w s : Nat) (m : kG) (kk : kG) (im : Nat) (le : List Nat) (ln : Nat) (ys : List Int32) (vt : Int32) (nu : List Nat) (nn : Nat) (rf : List Nat) (vw : Int32) (vq : Int32) (yc : List Int32) (yh : List Int32) (yg : List Int32) (xm : List Int32) (xi : List Int32) (xw : List Int32) (vp : Int32) (xn : List Int32) (xc : List Int32) (vs : Int32) (hA : iA (he, ke, ki, fi, fa, or, mi, a, g, l, w, s)) (hB : iB le ln) (hC : iC nu nn) (hD : iD rf) (hJ : iJ m ys yc yh yg) (hR : iR xm xw xn xc) (hK : iK im kk xi) (x : Int32) (hxu : x.toInt ≤ -1) : oI 97 189 [some (.ref 100), some (.int x)] [some (.ref 138), some (.int x), none, none, none, none, none] (mk_M (cT im le ln ys vt nu nn rf vw vq yc yh yg) (kr (he, ke, ki, fi, fa, or, mi, a, g, l, w, s)) m kk (rT (he, ke, ki, fi, fa, or, mi, a, g, l, w, s) xm xi xw im le nu rf ln nn vp xn xc vs)) := by
  exact ⟨(-2), _, _, oc_far_0 he ke ki fi fa or mi a g l w s im le ln ys vt nu nn rf vw vq yc yh yg m kk _ hA hB hC hD hJ hK.1 x hxu, om_far_0 he ke ki fi fa or mi a g l w s xm xi xw im le nu rf ln nn vp xn xc vs _ _ _ _ hA hB hC hD hR hK.2.1 x hxu, (he, ke, ki, fi, fa, or, mi, a, g, l, w, s), m, kk, im, le, ln, ys, vt, nu, nn, (rf.set 2 (kg rf 2 + 1)), vw, vq, yc, yh, yg, xm, xi, xw, vp, xn, xc, vs, rfl, hA, hB, hC, iD_s hD, hJ, hR, hK⟩
set_option maxRecDepth 100000 in
theorem oc_far_1 (he ke ki fi fa or : List Nat) (mi a g l w s : Nat) (im : Nat) (le : List Nat) (ln : Nat) (ys : List Int32) (vt : Int32) (nu : List Nat) (nn : Nat) (rf : List Nat) (vw vq : Int32) (yc yh yg : List Int32) (m kk : kG) (q : cR) (hA : iA (he, ke, ki, fi, fa, or, mi, a, g, l, w, s)) (hB : iB le ln) (hC : iC nu nn) (hD : iD rf) (hJ : iJ m ys yc yh yg) (k0 : kSh kk) (x : Int32) (hxl : 4 ≤ x.toInt) : mm_R 97 0 [some (.ref 100), some (.int x)] [] (mk_M (cT im le ln ys vt nu nn rf vw vq yc yh yg) (kr (he, ke, ki, fi, fa, or, mi, a, g, l, w, s)) m kk q) (some (.int (-2)), (mk_M (cT im le ln ys vt nu nn (rf.set 2 (kg rf 2 + 1)) vw vq yc yh yg) (kr (he, ke, ki, fi, fa, or, mi, a, g, l, w, s)) m kk q)) := by
  obtain ⟨hV, hst⟩ := id hA
  have hst2 : s ≤ 999 := hst
  obtain ⟨v1, v2, v3, v4, v5, v6, v7, v8, v9, v10, v11, v12, v13, v14, v15, v16⟩ := id hV
  have v6l := kO_len mi v7 or v6
  obtain ⟨b1, b2, b3⟩ := id hB
  obtain ⟨c1, c2, c3⟩ := id hC
  have d1 : rf.length = 7 := hD
  obtain ⟨j0, j1, j2, j3, j4⟩ := id hJ
  refine mr_seg 1 (pc1 := 1) (ls1 := [some (.ref 100), some (.int x)]) (st1 := [.int x]) (M1 := (mk_M (cT im le ln ys vt nu nn rf vw vq yc yh yg) (kr (he, ke, ki, fi, fa, or, mi, a, g, l, w, s)) m kk q)) (fun f => rfl) ?_
  refine mr_tsw (t1 := 81) rfl (by omega) (by decide) ?_
  refine mr_seg 2 (pc1 := 84) (ls1 := [some (.ref 100), some (.int x)]) (st1 := [.int (-2), .ref 100]) (M1 := (mk_M (cT im le ln ys vt nu nn rf vw vq yc yh yg) (kr (he, ke, ki, fi, fa, or, mi, a, g, l, w, s)) m kk q)) (fun f => rfl) ?_
  refine mr_call (y := 12) (y0 := 87) (L := [some (.ref 100), some (.int (-2))]) (rest := []) (rr := some (.int (-2))) (M1 := (mk_M (cT im le ln ys vt nu nn (rf.set 2 (kg rf 2 + 1)) vw vq yc yh yg) (kr (he, ke, ki, fi, fa, or, mi, a, g, l, w, s)) m kk q)) (fun f => rfl) (by
      refine mr_seg 5 (pc1 := 7) (ls1 := [some (.ref 100), some (.int (-2))]) (st1 := [.int 2, .ref 105, .int 2, .ref 105]) (M1 := (mk_M (cT im le ln ys vt nu nn rf vw vq yc yh yg) (kr (he, ke, ki, fi, fa, or, mi, a, g, l, w, s)) m kk q)) (fun f => rfl) ?_
      refine mr_ldn (xs := (rf.map nI)) rfl rfl (k := 2) (by omega) (kg_ok (by omega)) ?_
      refine mr_seg 2 (pc1 := 10) (ls1 := [some (.ref 100), some (.int (-2))]) (st1 := [.int ((nI (kg rf 2)) + 1), .int 2, .ref 105]) (M1 := (mk_M (cT im le ln ys vt nu nn rf vw vq yc yh yg) (kr (he, ke, ki, fi, fa, or, mi, a, g, l, w, s)) m kk q)) (fun f => rfl) ?_
      refine mr_v (nI_add (kg rf 2) 1) ?_
      refine mr_stn (xs := (rf.map nI)) (ys := ((rf.set 2 (kg rf 2 + 1)).map nI)) (M2 := (mk_M (cT im le ln ys vt nu nn (rf.set 2 (kg rf 2 + 1)) vw vq yc yh yg) (kr (he, ke, ki, fi, fa, or, mi, a, g, l, w, s)) m kk q)) rfl rfl (k := 2) (by omega) (by simp only [List.length_map, List.length_set]; omega) ks_ok rfl ?_
      exact mr_ret 2 (fun f => rfl)) ?_
  exact mr_ret 1 (fun f => rfl)
set_option maxRecDepth 100000 in
theorem om_far_1 (he ke ki fi fa or : List Nat) (mi a g l w s : Nat) (xm xi xw : List Int32) (im : Nat) (le nu rf : List Nat) (ln nn : Nat) (vp : Int32) (xn xc : List Int32) (vs : Int32) (c : cC) (n m kk : kG) (hA : iA (he, ke, ki, fi, fa, or, mi, a, g, l, w, s)) (hB : iB le ln) (hC : iC nu nn) (hD : iD rf) (hR : iR xm xw xn xc) (k1 : xi.length = 52) (x : Int32) (hxl : 4 ≤ x.toInt) : mm_R 189 0 [some (.ref 138), some (.int x), none, none, none, none, none] [] (mk_M c n m kk (rT (he, ke, ki, fi, fa, or, mi, a, g, l, w, s) xm xi xw im le nu rf ln nn vp xn xc vs)) (some (.int (-2)), (mk_M c n m kk (rT (he, ke, ki, fi, fa, or, mi, a, g, l, w, s) xm xi xw im le nu (rf.set 2 (kg rf 2 + 1)) ln nn vp xn xc vs))) := by
  obtain ⟨hV, hst⟩ := id hA
  have hst2 : s ≤ 999 := hst
  obtain ⟨v1, v2, v3, v4, v5, v6, v7, v8, v9, v10, v11, v12, v13, v14, v15, v16⟩ := id hV
  have v6l := kO_len mi v7 or v6
  obtain ⟨b1, b2, b3⟩ := id hB
  obtain ⟨c1, c2, c3⟩ := id hC
  have d1 : rf.length = 7 := hD
  obtain ⟨r1, r2, r3, r4⟩ := id hR
  refine mr_seg 3 (pc1 := 3) (ls1 := [some (.ref 138), some (.int x), none, none, none, none, none]) (st1 := [.int 3, .int 0, .int x]) (M1 := (mk_M c n m kk (rT (he, ke, ki, fi, fa, or, mi, a, g, l, w, s) xm xi xw im le nu rf ln nn vp xn xc vs))) (fun f => rfl) ?_
  refine mr_call (y := 135) (y0 := 6) (L := [some (.int x), some (.int 0), some (.int 3)]) (rest := []) (rr := some (.int 0)) (M1 := (mk_M c n m kk (rT (he, ke, ki, fi, fa, or, mi, a, g, l, w, s) xm xi xw im le nu rf ln nn vp xn xc vs))) (fun f => rfl) (by
      refine mr_seg 2 (pc1 := 2) (ls1 := [some (.int x), some (.int 0), some (.int 3)]) (st1 := [.int 0, .int x]) (M1 := (mk_M c n m kk (rT (he, ke, ki, fi, fa, or, mi, a, g, l, w, s) xm xi xw im le nu rf ln nn vp xn xc vs))) (fun f => rfl) ?_
      refine mr_f (C := x < 0) (mz_lt_f 0 (by decide) (by omega)) (fun f => rfl) ?_
      refine mr_seg 2 (pc1 := 7) (ls1 := [some (.int x), some (.int 0), some (.int 3)]) (st1 := [.int 3, .int x]) (M1 := (mk_M c n m kk (rT (he, ke, ki, fi, fa, or, mi, a, g, l, w, s) xm xi xw im le nu rf ln nn vp xn xc vs))) (fun f => rfl) ?_
      refine mr_t (C := 3 < x) (mz_gt_t 3 (by decide) (by omega)) (fun f => rfl) ?_
      exact mr_ret 2 (fun f => rfl)) ?_
  refine mr_seg 3 (pc1 := 12) (ls1 := [some (.ref 138), some (.int x), none, none, none, none, none]) (st1 := [.int (-2), .ref 138]) (M1 := (mk_M c n m kk (rT (he, ke, ki, fi, fa, or, mi, a, g, l, w, s) xm xi xw im le nu rf ln nn vp xn xc vs))) (fun f => rfl) ?_
  refine mr_call (y := 130) (y0 := 15) (L := [some (.ref 138), some (.int (-2))]) (rest := []) (rr := some (.int (-2))) (M1 := (mk_M c n m kk (rT (he, ke, ki, fi, fa, or, mi, a, g, l, w, s) xm xi xw im le nu (rf.set 2 (kg rf 2 + 1)) ln nn vp xn xc vs))) (fun f => rfl) (by
      refine mr_seg 5 (pc1 := 7) (ls1 := [some (.ref 138), some (.int (-2))]) (st1 := [.int 2, .ref 145, .int 2, .ref 145]) (M1 := (mk_M c n m kk (rT (he, ke, ki, fi, fa, or, mi, a, g, l, w, s) xm xi xw im le nu rf ln nn vp xn xc vs))) (fun f => rfl) ?_
      refine mr_ldn (xs := (rf.map nI)) rfl rfl (k := 2) (by omega) (kg_ok (by omega)) ?_
      refine mr_seg 2 (pc1 := 10) (ls1 := [some (.ref 138), some (.int (-2))]) (st1 := [.int ((nI (kg rf 2)) + 1), .int 2, .ref 145]) (M1 := (mk_M c n m kk (rT (he, ke, ki, fi, fa, or, mi, a, g, l, w, s) xm xi xw im le nu rf ln nn vp xn xc vs))) (fun f => rfl) ?_
      refine mr_v (nI_add (kg rf 2) 1) ?_
      refine mr_stn (xs := (rf.map nI)) (ys := ((rf.set 2 (kg rf 2 + 1)).map nI)) (M2 := (mk_M c n m kk (rT (he, ke, ki, fi, fa, or, mi, a, g, l, w, s) xm xi xw im le nu (rf.set 2 (kg rf 2 + 1)) ln nn vp xn xc vs))) rfl rfl (k := 2) (by omega) (by simp only [List.length_map, List.length_set]; omega) ks_ok rfl ?_
      exact mr_ret 2 (fun f => rfl)) ?_
  exact mr_ret 1 (fun f => rfl)
theorem oe_far_1 (he ke ki fi fa or : List Nat) (mi a g l w s : Nat) (m : kG) (kk : kG) (im : Nat) (le : List Nat) (ln : Nat) (ys : List Int32) (vt : Int32) (nu : List Nat) (nn : Nat) (rf : List Nat) (vw : Int32) (vq : Int32) (yc : List Int32) (yh : List Int32) (yg : List Int32) (xm : List Int32) (xi : List Int32) (xw : List Int32) (vp : Int32) (xn : List Int32) (xc : List Int32) (vs : Int32) (hA : iA (he, ke, ki, fi, fa, or, mi, a, g, l, w, s)) (hB : iB le ln) (hC : iC nu nn) (hD : iD rf) (hJ : iJ m ys yc yh yg) (hR : iR xm xw xn xc) (hK : iK im kk xi) (x : Int32) (hxl : 4 ≤ x.toInt) : oI 97 189 [some (.ref 100), some (.int x)] [some (.ref 138), some (.int x), none, none, none, none, none] (mk_M (cT im le ln ys vt nu nn rf vw vq yc yh yg) (kr (he, ke, ki, fi, fa, or, mi, a, g, l, w, s)) m kk (rT (he, ke, ki, fi, fa, or, mi, a, g, l, w, s) xm xi xw im le nu rf ln nn vp xn xc vs)) := by
  exact ⟨(-2), _, _, oc_far_1 he ke ki fi fa or mi a g l w s im le ln ys vt nu nn rf vw vq yc yh yg m kk _ hA hB hC hD hJ hK.1 x hxl, om_far_1 he ke ki fi fa or mi a g l w s xm xi xw im le nu rf ln nn vp xn xc vs _ _ _ _ hA hB hC hD hR hK.2.1 x hxl, (he, ke, ki, fi, fa, or, mi, a, g, l, w, s), m, kk, im, le, ln, ys, vt, nu, nn, (rf.set 2 (kg rf 2 + 1)), vw, vq, yc, yh, yg, xm, xi, xw, vp, xn, xc, vs, rfl, hA, hB, hC, iD_s hD, hJ, hR, hK⟩
set_option maxRecDepth 100000 in
theorem oc_easy_0 (he ke ki fi fa or : List Nat) (mi a g l w s : Nat) (im : Nat) (le : List Nat) (ln : Nat) (ys : List Int32) (vt : Int32) (nu : List Nat) (nn : Nat) (rf : List Nat) (vw vq : Int32) (yc yh yg : List Int32) (m kk : kG) (q : cR) (hA : iA (he, ke, ki, fi, fa, or, mi, a, g, l, w, s)) (hB : iB le ln) (hC : iC nu nn) (hD : iD rf) (hJ : iJ m ys yc yh yg) (k0 : kSh kk) (x : Int32) (hxu : x.toInt ≤ -1) : mm_R 101 0 [some (.ref 100), some (.int x)] [] (mk_M (cT im le ln ys vt nu nn rf vw vq yc yh yg) (kr (he, ke, ki, fi, fa, or, mi, a, g, l, w, s)) m kk q) (some (.int (-2)), (mk_M (cT im le ln ys vt nu nn (rf.set 2 (kg rf 2 + 1)) vw vq yc yh yg) (kr (he, ke, ki, fi, fa, or, mi, a, g, l, w, s)) m kk q)) := by
  obtain ⟨hV, hst⟩ := id hA
  have hst2 : s ≤ 999 := hst
  obtain ⟨v1, v2, v3, v4, v5, v6, v7, v8, v9, v10, v11, v12, v13, v14, v15, v16⟩ := id hV
  have v6l := kO_len mi v7 or v6
  obtain ⟨b1, b2, b3⟩ := id hB
  obtain ⟨c1, c2, c3⟩ := id hC
  have d1 : rf.length = 7 := hD
  obtain ⟨j0, j1, j2, j3, j4⟩ := id hJ
  refine mr_seg 1 (pc1 := 1) (ls1 := [some (.ref 100), some (.int x)]) (st1 := [.int x]) (M1 := (mk_M (cT im le ln ys vt nu nn rf vw vq yc yh yg) (kr (he, ke, ki, fi, fa, or, mi, a, g, l, w, s)) m kk q)) (fun f => rfl) ?_
  refine mr_tsw (t1 := 52) rfl (by omega) (by decide) ?_
  refine mr_seg 2 (pc1 := 55) (ls1 := [some (.ref 100), some (.int x)]) (st1 := [.int (-2), .ref 100]) (M1 := (mk_M (cT im le ln ys vt nu nn rf vw vq yc yh yg) (kr (he, ke, ki, fi, fa, or, mi, a, g, l, w, s)) m kk q)) (fun f => rfl) ?_
  refine mr_call (y := 12) (y0 := 58) (L := [some (.ref 100), some (.int (-2))]) (rest := []) (rr := some (.int (-2))) (M1 := (mk_M (cT im le ln ys vt nu nn (rf.set 2 (kg rf 2 + 1)) vw vq yc yh yg) (kr (he, ke, ki, fi, fa, or, mi, a, g, l, w, s)) m kk q)) (fun f => rfl) (by
      refine mr_seg 5 (pc1 := 7) (ls1 := [some (.ref 100), some (.int (-2))]) (st1 := [.int 2, .ref 105, .int 2, .ref 105]) (M1 := (mk_M (cT im le ln ys vt nu nn rf vw vq yc yh yg) (kr (he, ke, ki, fi, fa, or, mi, a, g, l, w, s)) m kk q)) (fun f => rfl) ?_
      refine mr_ldn (xs := (rf.map nI)) rfl rfl (k := 2) (by omega) (kg_ok (by omega)) ?_
      refine mr_seg 2 (pc1 := 10) (ls1 := [some (.ref 100), some (.int (-2))]) (st1 := [.int ((nI (kg rf 2)) + 1), .int 2, .ref 105]) (M1 := (mk_M (cT im le ln ys vt nu nn rf vw vq yc yh yg) (kr (he, ke, ki, fi, fa, or, mi, a, g, l, w, s)) m kk q)) (fun f => rfl) ?_
      refine mr_v (nI_add (kg rf 2) 1) ?_
      refine mr_stn (xs := (rf.map nI)) (ys := ((rf.set 2 (kg rf 2 + 1)).map nI)) (M2 := (mk_M (cT im le ln ys vt nu nn (rf.set 2 (kg rf 2 + 1)) vw vq yc yh yg) (kr (he, ke, ki, fi, fa, or, mi, a, g, l, w, s)) m kk q)) rfl rfl (k := 2) (by omega) (by simp only [List.length_map, List.length_set]; omega) ks_ok rfl ?_
      exact mr_ret 2 (fun f => rfl)) ?_
  exact mr_ret 1 (fun f => rfl)
set_option maxRecDepth 100000 in
theorem om_easy_0 (he ke ki fi fa or : List Nat) (mi a g l w s : Nat) (xm xi xw : List Int32) (im : Nat) (le nu rf : List Nat) (ln nn : Nat) (vp : Int32) (xn xc : List Int32) (vs : Int32) (c : cC) (n m kk : kG) (hA : iA (he, ke, ki, fi, fa, or, mi, a, g, l, w, s)) (hB : iB le ln) (hC : iC nu nn) (hD : iD rf) (hR : iR xm xw xn xc) (k1 : xi.length = 52) (x : Int32) (hxu : x.toInt ≤ -1) : mm_R 193 0 [some (.ref 138), some (.int x), none, none, none] [] (mk_M c n m kk (rT (he, ke, ki, fi, fa, or, mi, a, g, l, w, s) xm xi xw im le nu rf ln nn vp xn xc vs)) (some (.int (-2)), (mk_M c n m kk (rT (he, ke, ki, fi, fa, or, mi, a, g, l, w, s) xm xi xw im le nu (rf.set 2 (kg rf 2 + 1)) ln nn vp xn xc vs))) := by
  obtain ⟨hV, hst⟩ := id hA
  have hst2 : s ≤ 999 := hst
  obtain ⟨v1, v2, v3, v4, v5, v6, v7, v8, v9, v10, v11, v12, v13, v14, v15, v16⟩ := id hV
  have v6l := kO_len mi v7 or v6
  obtain ⟨b1, b2, b3⟩ := id hB
  obtain ⟨c1, c2, c3⟩ := id hC
  have d1 : rf.length = 7 := hD
  obtain ⟨r1, r2, r3, r4⟩ := id hR
  refine mr_seg 3 (pc1 := 3) (ls1 := [some (.ref 138), some (.int x), none, none, none]) (st1 := [.int 2, .int 0, .int x]) (M1 := (mk_M c n m kk (rT (he, ke, ki, fi, fa, or, mi, a, g, l, w, s) xm xi xw im le nu rf ln nn vp xn xc vs))) (fun f => rfl) ?_
  refine mr_call (y := 135) (y0 := 6) (L := [some (.int x), some (.int 0), some (.int 2)]) (rest := []) (rr := some (.int 0)) (M1 := (mk_M c n m kk (rT (he, ke, ki, fi, fa, or, mi, a, g, l, w, s) xm xi xw im le nu rf ln nn vp xn xc vs))) (fun f => rfl) (by
      refine mr_seg 2 (pc1 := 2) (ls1 := [some (.int x), some (.int 0), some (.int 2)]) (st1 := [.int 0, .int x]) (M1 := (mk_M c n m kk (rT (he, ke, ki, fi, fa, or, mi, a, g, l, w, s) xm xi xw im le nu rf ln nn vp xn xc vs))) (fun f => rfl) ?_
      refine mr_t (C := x < 0) (mz_lt_t 0 (by decide) (by omega)) (fun f => rfl) ?_
      exact mr_ret 2 (fun f => rfl)) ?_
  refine mr_seg 3 (pc1 := 12) (ls1 := [some (.ref 138), some (.int x), none, none, none]) (st1 := [.int (-2), .ref 138]) (M1 := (mk_M c n m kk (rT (he, ke, ki, fi, fa, or, mi, a, g, l, w, s) xm xi xw im le nu rf ln nn vp xn xc vs))) (fun f => rfl) ?_
  refine mr_call (y := 130) (y0 := 15) (L := [some (.ref 138), some (.int (-2))]) (rest := []) (rr := some (.int (-2))) (M1 := (mk_M c n m kk (rT (he, ke, ki, fi, fa, or, mi, a, g, l, w, s) xm xi xw im le nu (rf.set 2 (kg rf 2 + 1)) ln nn vp xn xc vs))) (fun f => rfl) (by
      refine mr_seg 5 (pc1 := 7) (ls1 := [some (.ref 138), some (.int (-2))]) (st1 := [.int 2, .ref 145, .int 2, .ref 145]) (M1 := (mk_M c n m kk (rT (he, ke, ki, fi, fa, or, mi, a, g, l, w, s) xm xi xw im le nu rf ln nn vp xn xc vs))) (fun f => rfl) ?_
      refine mr_ldn (xs := (rf.map nI)) rfl rfl (k := 2) (by omega) (kg_ok (by omega)) ?_
      refine mr_seg 2 (pc1 := 10) (ls1 := [some (.ref 138), some (.int (-2))]) (st1 := [.int ((nI (kg rf 2)) + 1), .int 2, .ref 145]) (M1 := (mk_M c n m kk (rT (he, ke, ki, fi, fa, or, mi, a, g, l, w, s) xm xi xw im le nu rf ln nn vp xn xc vs))) (fun f => rfl) ?_
      refine mr_v (nI_add (kg rf 2) 1) ?_
      refine mr_stn (xs := (rf.map nI)) (ys := ((rf.set 2 (kg rf 2 + 1)).map nI)) (M2 := (mk_M c n m kk (rT (he, ke, ki, fi, fa, or, mi, a, g, l, w, s) xm xi xw im le nu (rf.set 2 (kg rf 2 + 1)) ln nn vp xn xc vs))) rfl rfl (k := 2) (by omega) (by simp only [List.length_map, List.length_set]; omega) ks_ok rfl ?_
      exact mr_ret 2 (fun f => rfl)) ?_
  exact mr_ret 1 (fun f => rfl)
theorem oe_easy_0 (he ke ki fi fa or : List Nat) (mi a g l w s : Nat) (m : kG) (kk : kG) (im : Nat) (le : List Nat) (ln : Nat) (ys : List Int32) (vt : Int32) (nu : List Nat) (nn : Nat) (rf : List Nat) (vw : Int32) (vq : Int32) (yc : List Int32) (yh : List Int32) (yg : List Int32) (xm : List Int32) (xi : List Int32) (xw : List Int32) (vp : Int32) (xn : List Int32) (xc : List Int32) (vs : Int32) (hA : iA (he, ke, ki, fi, fa, or, mi, a, g, l, w, s)) (hB : iB le ln) (hC : iC nu nn) (hD : iD rf) (hJ : iJ m ys yc yh yg) (hR : iR xm xw xn xc) (hK : iK im kk xi) (x : Int32) (hxu : x.toInt ≤ -1) : oI 101 193 [some (.ref 100), some (.int x)] [some (.ref 138), some (.int x), none, none, none] (mk_M (cT im le ln ys vt nu nn rf vw vq yc yh yg) (kr (he, ke, ki, fi, fa, or, mi, a, g, l, w, s)) m kk (rT (he, ke, ki, fi, fa, or, mi, a, g, l, w, s) xm xi xw im le nu rf ln nn vp xn xc vs)) := by
  exact ⟨(-2), _, _, oc_easy_0 he ke ki fi fa or mi a g l w s im le ln ys vt nu nn rf vw vq yc yh yg m kk _ hA hB hC hD hJ hK.1 x hxu, om_easy_0 he ke ki fi fa or mi a g l w s xm xi xw im le nu rf ln nn vp xn xc vs _ _ _ _ hA hB hC hD hR hK.2.1 x hxu, (he, ke, ki, fi, fa, or, mi, a, g, l, w, s), m, kk, im, le, ln, ys, vt, nu, nn, (rf.set 2 (kg rf 2 + 1)), vw, vq, yc, yh, yg, xm, xi, xw, vp, xn, xc, vs, rfl, hA, hB, hC, iD_s hD, hJ, hR, hK⟩
set_option maxRecDepth 100000 in
theorem oc_easy_1 (he ke ki fi fa or : List Nat) (mi a g l w s : Nat) (im : Nat) (le : List Nat) (ln : Nat) (ys : List Int32) (vt : Int32) (nu : List Nat) (nn : Nat) (rf : List Nat) (vw vq : Int32) (yc yh yg : List Int32) (m kk : kG) (q : cR) (hA : iA (he, ke, ki, fi, fa, or, mi, a, g, l, w, s)) (hB : iB le ln) (hC : iC nu nn) (hD : iD rf) (hJ : iJ m ys yc yh yg) (k0 : kSh kk) (x : Int32) (hxl : 3 ≤ x.toInt) : mm_R 101 0 [some (.ref 100), some (.int x)] [] (mk_M (cT im le ln ys vt nu nn rf vw vq yc yh yg) (kr (he, ke, ki, fi, fa, or, mi, a, g, l, w, s)) m kk q) (some (.int (-2)), (mk_M (cT im le ln ys vt nu nn (rf.set 2 (kg rf 2 + 1)) vw vq yc yh yg) (kr (he, ke, ki, fi, fa, or, mi, a, g, l, w, s)) m kk q)) := by
  obtain ⟨hV, hst⟩ := id hA
  have hst2 : s ≤ 999 := hst
  obtain ⟨v1, v2, v3, v4, v5, v6, v7, v8, v9, v10, v11, v12, v13, v14, v15, v16⟩ := id hV
  have v6l := kO_len mi v7 or v6
  obtain ⟨b1, b2, b3⟩ := id hB
  obtain ⟨c1, c2, c3⟩ := id hC
  have d1 : rf.length = 7 := hD
  obtain ⟨j0, j1, j2, j3, j4⟩ := id hJ
  refine mr_seg 1 (pc1 := 1) (ls1 := [some (.ref 100), some (.int x)]) (st1 := [.int x]) (M1 := (mk_M (cT im le ln ys vt nu nn rf vw vq yc yh yg) (kr (he, ke, ki, fi, fa, or, mi, a, g, l, w, s)) m kk q)) (fun f => rfl) ?_
  refine mr_tsw (t1 := 52) rfl (by omega) (by decide) ?_
  refine mr_seg 2 (pc1 := 55) (ls1 := [some (.ref 100), some (.int x)]) (st1 := [.int (-2), .ref 100]) (M1 := (mk_M (cT im le ln ys vt nu nn rf vw vq yc yh yg) (kr (he, ke, ki, fi, fa, or, mi, a, g, l, w, s)) m kk q)) (fun f => rfl) ?_
  refine mr_call (y := 12) (y0 := 58) (L := [some (.ref 100), some (.int (-2))]) (rest := []) (rr := some (.int (-2))) (M1 := (mk_M (cT im le ln ys vt nu nn (rf.set 2 (kg rf 2 + 1)) vw vq yc yh yg) (kr (he, ke, ki, fi, fa, or, mi, a, g, l, w, s)) m kk q)) (fun f => rfl) (by
      refine mr_seg 5 (pc1 := 7) (ls1 := [some (.ref 100), some (.int (-2))]) (st1 := [.int 2, .ref 105, .int 2, .ref 105]) (M1 := (mk_M (cT im le ln ys vt nu nn rf vw vq yc yh yg) (kr (he, ke, ki, fi, fa, or, mi, a, g, l, w, s)) m kk q)) (fun f => rfl) ?_
      refine mr_ldn (xs := (rf.map nI)) rfl rfl (k := 2) (by omega) (kg_ok (by omega)) ?_
      refine mr_seg 2 (pc1 := 10) (ls1 := [some (.ref 100), some (.int (-2))]) (st1 := [.int ((nI (kg rf 2)) + 1), .int 2, .ref 105]) (M1 := (mk_M (cT im le ln ys vt nu nn rf vw vq yc yh yg) (kr (he, ke, ki, fi, fa, or, mi, a, g, l, w, s)) m kk q)) (fun f => rfl) ?_
      refine mr_v (nI_add (kg rf 2) 1) ?_
      refine mr_stn (xs := (rf.map nI)) (ys := ((rf.set 2 (kg rf 2 + 1)).map nI)) (M2 := (mk_M (cT im le ln ys vt nu nn (rf.set 2 (kg rf 2 + 1)) vw vq yc yh yg) (kr (he, ke, ki, fi, fa, or, mi, a, g, l, w, s)) m kk q)) rfl rfl (k := 2) (by omega) (by simp only [List.length_map, List.length_set]; omega) ks_ok rfl ?_
      exact mr_ret 2 (fun f => rfl)) ?_
  exact mr_ret 1 (fun f => rfl)
set_option maxRecDepth 100000 in
theorem om_easy_1 (he ke ki fi fa or : List Nat) (mi a g l w s : Nat) (xm xi xw : List Int32) (im : Nat) (le nu rf : List Nat) (ln nn : Nat) (vp : Int32) (xn xc : List Int32) (vs : Int32) (c : cC) (n m kk : kG) (hA : iA (he, ke, ki, fi, fa, or, mi, a, g, l, w, s)) (hB : iB le ln) (hC : iC nu nn) (hD : iD rf) (hR : iR xm xw xn xc) (k1 : xi.length = 52) (x : Int32) (hxl : 3 ≤ x.toInt) : mm_R 193 0 [some (.ref 138), some (.int x), none, none, none] [] (mk_M c n m kk (rT (he, ke, ki, fi, fa, or, mi, a, g, l, w, s) xm xi xw im le nu rf ln nn vp xn xc vs)) (some (.int (-2)), (mk_M c n m kk (rT (he, ke, ki, fi, fa, or, mi, a, g, l, w, s) xm xi xw im le nu (rf.set 2 (kg rf 2 + 1)) ln nn vp xn xc vs))) := by
  obtain ⟨hV, hst⟩ := id hA
  have hst2 : s ≤ 999 := hst
  obtain ⟨v1, v2, v3, v4, v5, v6, v7, v8, v9, v10, v11, v12, v13, v14, v15, v16⟩ := id hV
  have v6l := kO_len mi v7 or v6
  obtain ⟨b1, b2, b3⟩ := id hB
  obtain ⟨c1, c2, c3⟩ := id hC
  have d1 : rf.length = 7 := hD
  obtain ⟨r1, r2, r3, r4⟩ := id hR
  refine mr_seg 3 (pc1 := 3) (ls1 := [some (.ref 138), some (.int x), none, none, none]) (st1 := [.int 2, .int 0, .int x]) (M1 := (mk_M c n m kk (rT (he, ke, ki, fi, fa, or, mi, a, g, l, w, s) xm xi xw im le nu rf ln nn vp xn xc vs))) (fun f => rfl) ?_
  refine mr_call (y := 135) (y0 := 6) (L := [some (.int x), some (.int 0), some (.int 2)]) (rest := []) (rr := some (.int 0)) (M1 := (mk_M c n m kk (rT (he, ke, ki, fi, fa, or, mi, a, g, l, w, s) xm xi xw im le nu rf ln nn vp xn xc vs))) (fun f => rfl) (by
      refine mr_seg 2 (pc1 := 2) (ls1 := [some (.int x), some (.int 0), some (.int 2)]) (st1 := [.int 0, .int x]) (M1 := (mk_M c n m kk (rT (he, ke, ki, fi, fa, or, mi, a, g, l, w, s) xm xi xw im le nu rf ln nn vp xn xc vs))) (fun f => rfl) ?_
      refine mr_f (C := x < 0) (mz_lt_f 0 (by decide) (by omega)) (fun f => rfl) ?_
      refine mr_seg 2 (pc1 := 7) (ls1 := [some (.int x), some (.int 0), some (.int 2)]) (st1 := [.int 2, .int x]) (M1 := (mk_M c n m kk (rT (he, ke, ki, fi, fa, or, mi, a, g, l, w, s) xm xi xw im le nu rf ln nn vp xn xc vs))) (fun f => rfl) ?_
      refine mr_t (C := 2 < x) (mz_gt_t 2 (by decide) (by omega)) (fun f => rfl) ?_
      exact mr_ret 2 (fun f => rfl)) ?_
  refine mr_seg 3 (pc1 := 12) (ls1 := [some (.ref 138), some (.int x), none, none, none]) (st1 := [.int (-2), .ref 138]) (M1 := (mk_M c n m kk (rT (he, ke, ki, fi, fa, or, mi, a, g, l, w, s) xm xi xw im le nu rf ln nn vp xn xc vs))) (fun f => rfl) ?_
  refine mr_call (y := 130) (y0 := 15) (L := [some (.ref 138), some (.int (-2))]) (rest := []) (rr := some (.int (-2))) (M1 := (mk_M c n m kk (rT (he, ke, ki, fi, fa, or, mi, a, g, l, w, s) xm xi xw im le nu (rf.set 2 (kg rf 2 + 1)) ln nn vp xn xc vs))) (fun f => rfl) (by
      refine mr_seg 5 (pc1 := 7) (ls1 := [some (.ref 138), some (.int (-2))]) (st1 := [.int 2, .ref 145, .int 2, .ref 145]) (M1 := (mk_M c n m kk (rT (he, ke, ki, fi, fa, or, mi, a, g, l, w, s) xm xi xw im le nu rf ln nn vp xn xc vs))) (fun f => rfl) ?_
      refine mr_ldn (xs := (rf.map nI)) rfl rfl (k := 2) (by omega) (kg_ok (by omega)) ?_
      refine mr_seg 2 (pc1 := 10) (ls1 := [some (.ref 138), some (.int (-2))]) (st1 := [.int ((nI (kg rf 2)) + 1), .int 2, .ref 145]) (M1 := (mk_M c n m kk (rT (he, ke, ki, fi, fa, or, mi, a, g, l, w, s) xm xi xw im le nu rf ln nn vp xn xc vs))) (fun f => rfl) ?_
      refine mr_v (nI_add (kg rf 2) 1) ?_
      refine mr_stn (xs := (rf.map nI)) (ys := ((rf.set 2 (kg rf 2 + 1)).map nI)) (M2 := (mk_M c n m kk (rT (he, ke, ki, fi, fa, or, mi, a, g, l, w, s) xm xi xw im le nu (rf.set 2 (kg rf 2 + 1)) ln nn vp xn xc vs))) rfl rfl (k := 2) (by omega) (by simp only [List.length_map, List.length_set]; omega) ks_ok rfl ?_
      exact mr_ret 2 (fun f => rfl)) ?_
  exact mr_ret 1 (fun f => rfl)
theorem oe_easy_1 (he ke ki fi fa or : List Nat) (mi a g l w s : Nat) (m : kG) (kk : kG) (im : Nat) (le : List Nat) (ln : Nat) (ys : List Int32) (vt : Int32) (nu : List Nat) (nn : Nat) (rf : List Nat) (vw : Int32) (vq : Int32) (yc : List Int32) (yh : List Int32) (yg : List Int32) (xm : List Int32) (xi : List Int32) (xw : List Int32) (vp : Int32) (xn : List Int32) (xc : List Int32) (vs : Int32) (hA : iA (he, ke, ki, fi, fa, or, mi, a, g, l, w, s)) (hB : iB le ln) (hC : iC nu nn) (hD : iD rf) (hJ : iJ m ys yc yh yg) (hR : iR xm xw xn xc) (hK : iK im kk xi) (x : Int32) (hxl : 3 ≤ x.toInt) : oI 101 193 [some (.ref 100), some (.int x)] [some (.ref 138), some (.int x), none, none, none] (mk_M (cT im le ln ys vt nu nn rf vw vq yc yh yg) (kr (he, ke, ki, fi, fa, or, mi, a, g, l, w, s)) m kk (rT (he, ke, ki, fi, fa, or, mi, a, g, l, w, s) xm xi xw im le nu rf ln nn vp xn xc vs)) := by
  exact ⟨(-2), _, _, oc_easy_1 he ke ki fi fa or mi a g l w s im le ln ys vt nu nn rf vw vq yc yh yg m kk _ hA hB hC hD hJ hK.1 x hxl, om_easy_1 he ke ki fi fa or mi a g l w s xm xi xw im le nu rf ln nn vp xn xc vs _ _ _ _ hA hB hC hD hR hK.2.1 x hxl, (he, ke, ki, fi, fa, or, mi, a, g, l, w, s), m, kk, im, le, ln, ys, vt, nu, nn, (rf.set 2 (kg rf 2 + 1)), vw, vq, yc, yh, yg, xm, xi, xw, vp, xn, xc, vs, rfl, hA, hB, hC, iD_s hD, hJ, hR, hK⟩
set_option maxRecDepth 100000 in
theorem oc_two_0 (he ke ki fi fa or : List Nat) (mi a g l w s : Nat) (im : Nat) (le : List Nat) (ln : Nat) (ys : List Int32) (vt : Int32) (nu : List Nat) (nn : Nat) (rf : List Nat) (vw vq : Int32) (yc yh yg : List Int32) (m kk : kG) (q : cR) (hA : iA (he, ke, ki, fi, fa, or, mi, a, g, l, w, s)) (hB : iB le ln) (hC : iC nu nn) (hD : iD rf) (hJ : iJ m ys yc yh yg) (k0 : kSh kk) (x : Int32) (hxu : x.toInt ≤ -1) (y : Int32) (z : Int32) : mm_R 105 0 [some (.ref 100), some (.int x), some (.int y), some (.int z), none, none, none] [] (mk_M (cT im le ln ys vt nu nn rf vw vq yc yh yg) (kr (he, ke, ki, fi, fa, or, mi, a, g, l, w, s)) m kk q) (some (.int (-1)), (mk_M (cT im le ln ys vt nu nn (rf.set 1 (kg rf 1 + 1)) vw vq yc yh yg) (kr (he, ke, ki, fi, fa, or, mi, a, g, l, w, s)) m kk q)) := by
  obtain ⟨hV, hst⟩ := id hA
  have hst2 : s ≤ 999 := hst
  obtain ⟨v1, v2, v3, v4, v5, v6, v7, v8, v9, v10, v11, v12, v13, v14, v15, v16⟩ := id hV
  have v6l := kO_len mi v7 or v6
  obtain ⟨b1, b2, b3⟩ := id hB
  obtain ⟨c1, c2, c3⟩ := id hC
  have d1 : rf.length = 7 := hD
  obtain ⟨j0, j1, j2, j3, j4⟩ := id hJ
  refine mr_seg 2 (pc1 := 2) (ls1 := [some (.ref 100), some (.int x), some (.int y), some (.int z), none, none, none]) (st1 := [.int x, .ref 100]) (M1 := (mk_M (cT im le ln ys vt nu nn rf vw vq yc yh yg) (kr (he, ke, ki, fi, fa, or, mi, a, g, l, w, s)) m kk q)) (fun f => rfl) ?_
  refine mr_call (y := 61) (y0 := 5) (L := [some (.ref 100), some (.int x)]) (rest := []) (rr := some (.int 0)) (M1 := (mk_M (cT im le ln ys vt nu nn rf vw vq yc yh yg) (kr (he, ke, ki, fi, fa, or, mi, a, g, l, w, s)) m kk q)) (fun f => rfl) (by
      refine mr_seg 1 (pc1 := 1) (ls1 := [some (.ref 100), some (.int x)]) (st1 := [.int x]) (M1 := (mk_M (cT im le ln ys vt nu nn rf vw vq yc yh yg) (kr (he, ke, ki, fi, fa, or, mi, a, g, l, w, s)) m kk q)) (fun f => rfl) ?_
      refine mr_t (C := x < 0) (mz_lt_t 0 (by decide) (by omega)) (fun f => rfl) ?_
      exact mr_ret 2 (fun f => rfl)) ?_
  refine mr_seg 3 (pc1 := 23) (ls1 := [some (.ref 100), some (.int x), some (.int y), some (.int z), none, none, none]) (st1 := [.int (-1), .ref 100]) (M1 := (mk_M (cT im le ln ys vt nu nn rf vw vq yc yh yg) (kr (he, ke, ki, fi, fa, or, mi, a, g, l, w, s)) m kk q)) (fun f => rfl) ?_
  refine mr_call (y := 12) (y0 := 26) (L := [some (.ref 100), some (.int (-1))]) (rest := []) (rr := some (.int (-1))) (M1 := (mk_M (cT im le ln ys vt nu nn (rf.set 1 (kg rf 1 + 1)) vw vq yc yh yg) (kr (he, ke, ki, fi, fa, or, mi, a, g, l, w, s)) m kk q)) (fun f => rfl) (by
      refine mr_seg 5 (pc1 := 7) (ls1 := [some (.ref 100), some (.int (-1))]) (st1 := [.int 1, .ref 105, .int 1, .ref 105]) (M1 := (mk_M (cT im le ln ys vt nu nn rf vw vq yc yh yg) (kr (he, ke, ki, fi, fa, or, mi, a, g, l, w, s)) m kk q)) (fun f => rfl) ?_
      refine mr_ldn (xs := (rf.map nI)) rfl rfl (k := 1) (by omega) (kg_ok (by omega)) ?_
      refine mr_seg 2 (pc1 := 10) (ls1 := [some (.ref 100), some (.int (-1))]) (st1 := [.int ((nI (kg rf 1)) + 1), .int 1, .ref 105]) (M1 := (mk_M (cT im le ln ys vt nu nn rf vw vq yc yh yg) (kr (he, ke, ki, fi, fa, or, mi, a, g, l, w, s)) m kk q)) (fun f => rfl) ?_
      refine mr_v (nI_add (kg rf 1) 1) ?_
      refine mr_stn (xs := (rf.map nI)) (ys := ((rf.set 1 (kg rf 1 + 1)).map nI)) (M2 := (mk_M (cT im le ln ys vt nu nn (rf.set 1 (kg rf 1 + 1)) vw vq yc yh yg) (kr (he, ke, ki, fi, fa, or, mi, a, g, l, w, s)) m kk q)) rfl rfl (k := 1) (by omega) (by simp only [List.length_map, List.length_set]; omega) ks_ok rfl ?_
      exact mr_ret 2 (fun f => rfl)) ?_
  exact mr_ret 1 (fun f => rfl)
set_option maxRecDepth 100000 in
theorem om_two_0 (he ke ki fi fa or : List Nat) (mi a g l w s : Nat) (xm xi xw : List Int32) (im : Nat) (le nu rf : List Nat) (ln nn : Nat) (vp : Int32) (xn xc : List Int32) (vs : Int32) (c : cC) (n m kk : kG) (hA : iA (he, ke, ki, fi, fa, or, mi, a, g, l, w, s)) (hB : iB le ln) (hC : iC nu nn) (hD : iD rf) (hR : iR xm xw xn xc) (k1 : xi.length = 52) (x : Int32) (hxu : x.toInt ≤ -1) (y : Int32) (z : Int32) : mm_R 195 0 [some (.ref 138), some (.int x), some (.int y), some (.int z), none, none, none, none] [] (mk_M c n m kk (rT (he, ke, ki, fi, fa, or, mi, a, g, l, w, s) xm xi xw im le nu rf ln nn vp xn xc vs)) (some (.int (-1)), (mk_M c n m kk (rT (he, ke, ki, fi, fa, or, mi, a, g, l, w, s) xm xi xw im le nu (rf.set 1 (kg rf 1 + 1)) ln nn vp xn xc vs))) := by
  obtain ⟨hV, hst⟩ := id hA
  have hst2 : s ≤ 999 := hst
  obtain ⟨v1, v2, v3, v4, v5, v6, v7, v8, v9, v10, v11, v12, v13, v14, v15, v16⟩ := id hV
  have v6l := kO_len mi v7 or v6
  obtain ⟨b1, b2, b3⟩ := id hB
  obtain ⟨c1, c2, c3⟩ := id hC
  have d1 : rf.length = 7 := hD
  obtain ⟨r1, r2, r3, r4⟩ := id hR
  refine mr_seg 2 (pc1 := 2) (ls1 := [some (.ref 138), some (.int x), some (.int y), some (.int z), none, none, none, none]) (st1 := [.int x, .ref 138]) (M1 := (mk_M c n m kk (rT (he, ke, ki, fi, fa, or, mi, a, g, l, w, s) xm xi xw im le nu rf ln nn vp xn xc vs))) (fun f => rfl) ?_
  refine mr_call (y := 142) (y0 := 5) (L := [some (.ref 138), some (.int x)]) (rest := []) (rr := some (.int 0)) (M1 := (mk_M c n m kk (rT (he, ke, ki, fi, fa, or, mi, a, g, l, w, s) xm xi xw im le nu rf ln nn vp xn xc vs))) (fun f => rfl) (by
      refine mr_seg 5 (pc1 := 7) (ls1 := [some (.ref 138), some (.int x)]) (st1 := [.int 0, .ref 139, .int 0, .int x]) (M1 := (mk_M c n m kk (rT (he, ke, ki, fi, fa, or, mi, a, g, l, w, s) xm xi xw im le nu rf ln nn vp xn xc vs))) (fun f => rfl) ?_
      refine mr_ldn (xs := (er (he, ke, ki, fi, fa, or, mi, a, g, l, w, s))) rfl rfl (k := 0) (by decide) rfl ?_
      refine mr_seg 2 (pc1 := 10) (ls1 := [some (.ref 138), some (.int x)]) (st1 := [.int ((nI mi) - 1), .int 0, .int x]) (M1 := (mk_M c n m kk (rT (he, ke, ki, fi, fa, or, mi, a, g, l, w, s) xm xi xw im le nu rf ln nn vp xn xc vs))) (fun f => rfl) ?_
      refine mr_call (y := 135) (y0 := 13) (L := [some (.int x), some (.int 0), some (.int ((nI mi) - 1))]) (rest := []) (rr := some (.int 0)) (M1 := (mk_M c n m kk (rT (he, ke, ki, fi, fa, or, mi, a, g, l, w, s) xm xi xw im le nu rf ln nn vp xn xc vs))) (fun f => rfl) (by
          refine mr_seg 2 (pc1 := 2) (ls1 := [some (.int x), some (.int 0), some (.int ((nI mi) - 1))]) (st1 := [.int 0, .int x]) (M1 := (mk_M c n m kk (rT (he, ke, ki, fi, fa, or, mi, a, g, l, w, s) xm xi xw im le nu rf ln nn vp xn xc vs))) (fun f => rfl) ?_
          refine mr_t (C := x < 0) (mz_lt_t 0 (by decide) (by omega)) (fun f => rfl) ?_
          exact mr_ret 2 (fun f => rfl)) ?_
      exact mr_ret 1 (fun f => rfl)) ?_
  refine mr_seg 7 (pc1 := 42) (ls1 := [some (.ref 138), some (.int x), some (.int y), some (.int z), some (.int (-1)), none, none, none]) (st1 := [.int (-1), .ref 138]) (M1 := (mk_M c n m kk (rT (he, ke, ki, fi, fa, or, mi, a, g, l, w, s) xm xi xw im le nu rf ln nn vp xn xc vs))) (fun f => rfl) ?_
  refine mr_call (y := 130) (y0 := 45) (L := [some (.ref 138), some (.int (-1))]) (rest := []) (rr := some (.int (-1))) (M1 := (mk_M c n m kk (rT (he, ke, ki, fi, fa, or, mi, a, g, l, w, s) xm xi xw im le nu (rf.set 1 (kg rf 1 + 1)) ln nn vp xn xc vs))) (fun f => rfl) (by
      refine mr_seg 5 (pc1 := 7) (ls1 := [some (.ref 138), some (.int (-1))]) (st1 := [.int 1, .ref 145, .int 1, .ref 145]) (M1 := (mk_M c n m kk (rT (he, ke, ki, fi, fa, or, mi, a, g, l, w, s) xm xi xw im le nu rf ln nn vp xn xc vs))) (fun f => rfl) ?_
      refine mr_ldn (xs := (rf.map nI)) rfl rfl (k := 1) (by omega) (kg_ok (by omega)) ?_
      refine mr_seg 2 (pc1 := 10) (ls1 := [some (.ref 138), some (.int (-1))]) (st1 := [.int ((nI (kg rf 1)) + 1), .int 1, .ref 145]) (M1 := (mk_M c n m kk (rT (he, ke, ki, fi, fa, or, mi, a, g, l, w, s) xm xi xw im le nu rf ln nn vp xn xc vs))) (fun f => rfl) ?_
      refine mr_v (nI_add (kg rf 1) 1) ?_
      refine mr_stn (xs := (rf.map nI)) (ys := ((rf.set 1 (kg rf 1 + 1)).map nI)) (M2 := (mk_M c n m kk (rT (he, ke, ki, fi, fa, or, mi, a, g, l, w, s) xm xi xw im le nu (rf.set 1 (kg rf 1 + 1)) ln nn vp xn xc vs))) rfl rfl (k := 1) (by omega) (by simp only [List.length_map, List.length_set]; omega) ks_ok rfl ?_
      exact mr_ret 2 (fun f => rfl)) ?_
  exact mr_ret 1 (fun f => rfl)
theorem oe_two_0 (he ke ki fi fa or : List Nat) (mi a g l w s : Nat) (m : kG) (kk : kG) (im : Nat) (le : List Nat) (ln : Nat) (ys : List Int32) (vt : Int32) (nu : List Nat) (nn : Nat) (rf : List Nat) (vw : Int32) (vq : Int32) (yc : List Int32) (yh : List Int32) (yg : List Int32) (xm : List Int32) (xi : List Int32) (xw : List Int32) (vp : Int32) (xn : List Int32) (xc : List Int32) (vs : Int32) (hA : iA (he, ke, ki, fi, fa, or, mi, a, g, l, w, s)) (hB : iB le ln) (hC : iC nu nn) (hD : iD rf) (hJ : iJ m ys yc yh yg) (hR : iR xm xw xn xc) (hK : iK im kk xi) (x : Int32) (hxu : x.toInt ≤ -1) (y : Int32) (z : Int32) : oI 105 195 [some (.ref 100), some (.int x), some (.int y), some (.int z), none, none, none] [some (.ref 138), some (.int x), some (.int y), some (.int z), none, none, none, none] (mk_M (cT im le ln ys vt nu nn rf vw vq yc yh yg) (kr (he, ke, ki, fi, fa, or, mi, a, g, l, w, s)) m kk (rT (he, ke, ki, fi, fa, or, mi, a, g, l, w, s) xm xi xw im le nu rf ln nn vp xn xc vs)) := by
  exact ⟨(-1), _, _, oc_two_0 he ke ki fi fa or mi a g l w s im le ln ys vt nu nn rf vw vq yc yh yg m kk _ hA hB hC hD hJ hK.1 x hxu y z, om_two_0 he ke ki fi fa or mi a g l w s xm xi xw im le nu rf ln nn vp xn xc vs _ _ _ _ hA hB hC hD hR hK.2.1 x hxu y z, (he, ke, ki, fi, fa, or, mi, a, g, l, w, s), m, kk, im, le, ln, ys, vt, nu, nn, (rf.set 1 (kg rf 1 + 1)), vw, vq, yc, yh, yg, xm, xi, xw, vp, xn, xc, vs, rfl, hA, hB, hC, iD_s hD, hJ, hR, hK⟩
set_option maxRecDepth 100000 in
theorem oc_two_1 (he ke ki fi fa or : List Nat) (mi a g l w s : Nat) (im : Nat) (le : List Nat) (ln : Nat) (ys : List Int32) (vt : Int32) (nu : List Nat) (nn : Nat) (rf : List Nat) (vw vq : Int32) (yc yh yg : List Int32) (m kk : kG) (q : cR) (hA : iA (he, ke, ki, fi, fa, or, mi, a, g, l, w, s)) (hB : iB le ln) (hC : iC nu nn) (hD : iD rf) (hJ : iJ m ys yc yh yg) (k0 : kSh kk) (x : Int32) (hx : nI mi ≤ x) (y : Int32) (z : Int32) : mm_R 105 0 [some (.ref 100), some (.int x), some (.int y), some (.int z), none, none, none] [] (mk_M (cT im le ln ys vt nu nn rf vw vq yc yh yg) (kr (he, ke, ki, fi, fa, or, mi, a, g, l, w, s)) m kk q) (some (.int (-1)), (mk_M (cT im le ln ys vt nu nn (rf.set 1 (kg rf 1 + 1)) vw vq yc yh yg) (kr (he, ke, ki, fi, fa, or, mi, a, g, l, w, s)) m kk q)) := by
  obtain ⟨hV, hst⟩ := id hA
  have hst2 : s ≤ 999 := hst
  obtain ⟨v1, v2, v3, v4, v5, v6, v7, v8, v9, v10, v11, v12, v13, v14, v15, v16⟩ := id hV
  have v6l := kO_len mi v7 or v6
  obtain ⟨b1, b2, b3⟩ := id hB
  obtain ⟨c1, c2, c3⟩ := id hC
  have d1 : rf.length = 7 := hD
  obtain ⟨j0, j1, j2, j3, j4⟩ := id hJ
  refine mr_seg 2 (pc1 := 2) (ls1 := [some (.ref 100), some (.int x), some (.int y), some (.int z), none, none, none]) (st1 := [.int x, .ref 100]) (M1 := (mk_M (cT im le ln ys vt nu nn rf vw vq yc yh yg) (kr (he, ke, ki, fi, fa, or, mi, a, g, l, w, s)) m kk q)) (fun f => rfl) ?_
  refine mr_call (y := 61) (y0 := 5) (L := [some (.ref 100), some (.int x)]) (rest := []) (rr := some (.int 0)) (M1 := (mk_M (cT im le ln ys vt nu nn rf vw vq yc yh yg) (kr (he, ke, ki, fi, fa, or, mi, a, g, l, w, s)) m kk q)) (fun f => rfl) (by
      refine mr_seg 1 (pc1 := 1) (ls1 := [some (.ref 100), some (.int x)]) (st1 := [.int x]) (M1 := (mk_M (cT im le ln ys vt nu nn rf vw vq yc yh yg) (kr (he, ke, ki, fi, fa, or, mi, a, g, l, w, s)) m kk q)) (fun f => rfl) ?_
      refine mr_f (C := x < 0) (k_nneg v7 hx) (fun f => rfl) ?_
      refine mr_seg 4 (pc1 := 12) (ls1 := [some (.ref 100), some (.int x)]) (st1 := [.int (nI mi), .int x]) (M1 := (mk_M (cT im le ln ys vt nu nn rf vw vq yc yh yg) (kr (he, ke, ki, fi, fa, or, mi, a, g, l, w, s)) m kk q)) (fun f => rfl) ?_
      refine mr_t (C := (nI mi) ≤ x) (hx) (fun f => rfl) ?_
      exact mr_ret 2 (fun f => rfl)) ?_
  refine mr_seg 3 (pc1 := 23) (ls1 := [some (.ref 100), some (.int x), some (.int y), some (.int z), none, none, none]) (st1 := [.int (-1), .ref 100]) (M1 := (mk_M (cT im le ln ys vt nu nn rf vw vq yc yh yg) (kr (he, ke, ki, fi, fa, or, mi, a, g, l, w, s)) m kk q)) (fun f => rfl) ?_
  refine mr_call (y := 12) (y0 := 26) (L := [some (.ref 100), some (.int (-1))]) (rest := []) (rr := some (.int (-1))) (M1 := (mk_M (cT im le ln ys vt nu nn (rf.set 1 (kg rf 1 + 1)) vw vq yc yh yg) (kr (he, ke, ki, fi, fa, or, mi, a, g, l, w, s)) m kk q)) (fun f => rfl) (by
      refine mr_seg 5 (pc1 := 7) (ls1 := [some (.ref 100), some (.int (-1))]) (st1 := [.int 1, .ref 105, .int 1, .ref 105]) (M1 := (mk_M (cT im le ln ys vt nu nn rf vw vq yc yh yg) (kr (he, ke, ki, fi, fa, or, mi, a, g, l, w, s)) m kk q)) (fun f => rfl) ?_
      refine mr_ldn (xs := (rf.map nI)) rfl rfl (k := 1) (by omega) (kg_ok (by omega)) ?_
      refine mr_seg 2 (pc1 := 10) (ls1 := [some (.ref 100), some (.int (-1))]) (st1 := [.int ((nI (kg rf 1)) + 1), .int 1, .ref 105]) (M1 := (mk_M (cT im le ln ys vt nu nn rf vw vq yc yh yg) (kr (he, ke, ki, fi, fa, or, mi, a, g, l, w, s)) m kk q)) (fun f => rfl) ?_
      refine mr_v (nI_add (kg rf 1) 1) ?_
      refine mr_stn (xs := (rf.map nI)) (ys := ((rf.set 1 (kg rf 1 + 1)).map nI)) (M2 := (mk_M (cT im le ln ys vt nu nn (rf.set 1 (kg rf 1 + 1)) vw vq yc yh yg) (kr (he, ke, ki, fi, fa, or, mi, a, g, l, w, s)) m kk q)) rfl rfl (k := 1) (by omega) (by simp only [List.length_map, List.length_set]; omega) ks_ok rfl ?_
      exact mr_ret 2 (fun f => rfl)) ?_
  exact mr_ret 1 (fun f => rfl)
set_option maxRecDepth 100000 in
theorem om_two_1 (he ke ki fi fa or : List Nat) (mi a g l w s : Nat) (xm xi xw : List Int32) (im : Nat) (le nu rf : List Nat) (ln nn : Nat) (vp : Int32) (xn xc : List Int32) (vs : Int32) (c : cC) (n m kk : kG) (hA : iA (he, ke, ki, fi, fa, or, mi, a, g, l, w, s)) (hB : iB le ln) (hC : iC nu nn) (hD : iD rf) (hR : iR xm xw xn xc) (k1 : xi.length = 52) (x : Int32) (hx : nI mi ≤ x) (y : Int32) (z : Int32) : mm_R 195 0 [some (.ref 138), some (.int x), some (.int y), some (.int z), none, none, none, none] [] (mk_M c n m kk (rT (he, ke, ki, fi, fa, or, mi, a, g, l, w, s) xm xi xw im le nu rf ln nn vp xn xc vs)) (some (.int (-1)), (mk_M c n m kk (rT (he, ke, ki, fi, fa, or, mi, a, g, l, w, s) xm xi xw im le nu (rf.set 1 (kg rf 1 + 1)) ln nn vp xn xc vs))) := by
  obtain ⟨hV, hst⟩ := id hA
  have hst2 : s ≤ 999 := hst
  obtain ⟨v1, v2, v3, v4, v5, v6, v7, v8, v9, v10, v11, v12, v13, v14, v15, v16⟩ := id hV
  have v6l := kO_len mi v7 or v6
  obtain ⟨b1, b2, b3⟩ := id hB
  obtain ⟨c1, c2, c3⟩ := id hC
  have d1 : rf.length = 7 := hD
  obtain ⟨r1, r2, r3, r4⟩ := id hR
  refine mr_seg 2 (pc1 := 2) (ls1 := [some (.ref 138), some (.int x), some (.int y), some (.int z), none, none, none, none]) (st1 := [.int x, .ref 138]) (M1 := (mk_M c n m kk (rT (he, ke, ki, fi, fa, or, mi, a, g, l, w, s) xm xi xw im le nu rf ln nn vp xn xc vs))) (fun f => rfl) ?_
  refine mr_call (y := 142) (y0 := 5) (L := [some (.ref 138), some (.int x)]) (rest := []) (rr := some (.int 0)) (M1 := (mk_M c n m kk (rT (he, ke, ki, fi, fa, or, mi, a, g, l, w, s) xm xi xw im le nu rf ln nn vp xn xc vs))) (fun f => rfl) (by
      refine mr_seg 5 (pc1 := 7) (ls1 := [some (.ref 138), some (.int x)]) (st1 := [.int 0, .ref 139, .int 0, .int x]) (M1 := (mk_M c n m kk (rT (he, ke, ki, fi, fa, or, mi, a, g, l, w, s) xm xi xw im le nu rf ln nn vp xn xc vs))) (fun f => rfl) ?_
      refine mr_ldn (xs := (er (he, ke, ki, fi, fa, or, mi, a, g, l, w, s))) rfl rfl (k := 0) (by decide) rfl ?_
      refine mr_seg 2 (pc1 := 10) (ls1 := [some (.ref 138), some (.int x)]) (st1 := [.int ((nI mi) - 1), .int 0, .int x]) (M1 := (mk_M c n m kk (rT (he, ke, ki, fi, fa, or, mi, a, g, l, w, s) xm xi xw im le nu rf ln nn vp xn xc vs))) (fun f => rfl) ?_
      refine mr_call (y := 135) (y0 := 13) (L := [some (.int x), some (.int 0), some (.int ((nI mi) - 1))]) (rest := []) (rr := some (.int 0)) (M1 := (mk_M c n m kk (rT (he, ke, ki, fi, fa, or, mi, a, g, l, w, s) xm xi xw im le nu rf ln nn vp xn xc vs))) (fun f => rfl) (by
          refine mr_seg 2 (pc1 := 2) (ls1 := [some (.int x), some (.int 0), some (.int ((nI mi) - 1))]) (st1 := [.int 0, .int x]) (M1 := (mk_M c n m kk (rT (he, ke, ki, fi, fa, or, mi, a, g, l, w, s) xm xi xw im le nu rf ln nn vp xn xc vs))) (fun f => rfl) ?_
          refine mr_f (C := x < 0) (k_nneg v7 hx) (fun f => rfl) ?_
          refine mr_seg 2 (pc1 := 7) (ls1 := [some (.int x), some (.int 0), some (.int ((nI mi) - 1))]) (st1 := [.int ((nI mi) - 1), .int x]) (M1 := (mk_M c n m kk (rT (he, ke, ki, fi, fa, or, mi, a, g, l, w, s) xm xi xw im le nu rf ln nn vp xn xc vs))) (fun f => rfl) ?_
          refine mr_t (C := ((nI mi) - 1) < x) (k_gem v7 hx) (fun f => rfl) ?_
          exact mr_ret 2 (fun f => rfl)) ?_
      exact mr_ret 1 (fun f => rfl)) ?_
  refine mr_seg 7 (pc1 := 42) (ls1 := [some (.ref 138), some (.int x), some (.int y), some (.int z), some (.int (-1)), none, none, none]) (st1 := [.int (-1), .ref 138]) (M1 := (mk_M c n m kk (rT (he, ke, ki, fi, fa, or, mi, a, g, l, w, s) xm xi xw im le nu rf ln nn vp xn xc vs))) (fun f => rfl) ?_
  refine mr_call (y := 130) (y0 := 45) (L := [some (.ref 138), some (.int (-1))]) (rest := []) (rr := some (.int (-1))) (M1 := (mk_M c n m kk (rT (he, ke, ki, fi, fa, or, mi, a, g, l, w, s) xm xi xw im le nu (rf.set 1 (kg rf 1 + 1)) ln nn vp xn xc vs))) (fun f => rfl) (by
      refine mr_seg 5 (pc1 := 7) (ls1 := [some (.ref 138), some (.int (-1))]) (st1 := [.int 1, .ref 145, .int 1, .ref 145]) (M1 := (mk_M c n m kk (rT (he, ke, ki, fi, fa, or, mi, a, g, l, w, s) xm xi xw im le nu rf ln nn vp xn xc vs))) (fun f => rfl) ?_
      refine mr_ldn (xs := (rf.map nI)) rfl rfl (k := 1) (by omega) (kg_ok (by omega)) ?_
      refine mr_seg 2 (pc1 := 10) (ls1 := [some (.ref 138), some (.int (-1))]) (st1 := [.int ((nI (kg rf 1)) + 1), .int 1, .ref 145]) (M1 := (mk_M c n m kk (rT (he, ke, ki, fi, fa, or, mi, a, g, l, w, s) xm xi xw im le nu rf ln nn vp xn xc vs))) (fun f => rfl) ?_
      refine mr_v (nI_add (kg rf 1) 1) ?_
      refine mr_stn (xs := (rf.map nI)) (ys := ((rf.set 1 (kg rf 1 + 1)).map nI)) (M2 := (mk_M c n m kk (rT (he, ke, ki, fi, fa, or, mi, a, g, l, w, s) xm xi xw im le nu (rf.set 1 (kg rf 1 + 1)) ln nn vp xn xc vs))) rfl rfl (k := 1) (by omega) (by simp only [List.length_map, List.length_set]; omega) ks_ok rfl ?_
      exact mr_ret 2 (fun f => rfl)) ?_
  exact mr_ret 1 (fun f => rfl)
theorem oe_two_1 (he ke ki fi fa or : List Nat) (mi a g l w s : Nat) (m : kG) (kk : kG) (im : Nat) (le : List Nat) (ln : Nat) (ys : List Int32) (vt : Int32) (nu : List Nat) (nn : Nat) (rf : List Nat) (vw : Int32) (vq : Int32) (yc : List Int32) (yh : List Int32) (yg : List Int32) (xm : List Int32) (xi : List Int32) (xw : List Int32) (vp : Int32) (xn : List Int32) (xc : List Int32) (vs : Int32) (hA : iA (he, ke, ki, fi, fa, or, mi, a, g, l, w, s)) (hB : iB le ln) (hC : iC nu nn) (hD : iD rf) (hJ : iJ m ys yc yh yg) (hR : iR xm xw xn xc) (hK : iK im kk xi) (x : Int32) (hx : nI mi ≤ x) (y : Int32) (z : Int32) : oI 105 195 [some (.ref 100), some (.int x), some (.int y), some (.int z), none, none, none] [some (.ref 138), some (.int x), some (.int y), some (.int z), none, none, none, none] (mk_M (cT im le ln ys vt nu nn rf vw vq yc yh yg) (kr (he, ke, ki, fi, fa, or, mi, a, g, l, w, s)) m kk (rT (he, ke, ki, fi, fa, or, mi, a, g, l, w, s) xm xi xw im le nu rf ln nn vp xn xc vs)) := by
  exact ⟨(-1), _, _, oc_two_1 he ke ki fi fa or mi a g l w s im le ln ys vt nu nn rf vw vq yc yh yg m kk _ hA hB hC hD hJ hK.1 x hx y z, om_two_1 he ke ki fi fa or mi a g l w s xm xi xw im le nu rf ln nn vp xn xc vs _ _ _ _ hA hB hC hD hR hK.2.1 x hx y z, (he, ke, ki, fi, fa, or, mi, a, g, l, w, s), m, kk, im, le, ln, ys, vt, nu, nn, (rf.set 1 (kg rf 1 + 1)), vw, vq, yc, yh, yg, xm, xi, xw, vp, xn, xc, vs, rfl, hA, hB, hC, iD_s hD, hJ, hR, hK⟩
set_option maxRecDepth 100000 in
theorem oc_two_2 (he ke ki fi fa or : List Nat) (mi a g l w s : Nat) (im : Nat) (le : List Nat) (ln : Nat) (ys : List Int32) (vt : Int32) (nu : List Nat) (nn : Nat) (rf : List Nat) (vw vq : Int32) (yc yh yg : List Int32) (m kk : kG) (q : cR) (hA : iA (he, ke, ki, fi, fa, or, mi, a, g, l, w, s)) (hB : iB le ln) (hC : iC nu nn) (hD : iD rf) (hJ : iJ m ys yc yh yg) (k0 : kSh kk) (p : Nat) (hp : p < mi) (y : Int32) (hyu : y.toInt ≤ -1) (z : Int32) : mm_R 105 0 [some (.ref 100), some (.int (nI p)), some (.int y), some (.int z), none, none, none] [] (mk_M (cT im le ln ys vt nu nn rf vw vq yc yh yg) (kr (he, ke, ki, fi, fa, or, mi, a, g, l, w, s)) m kk q) (some (.int (-1)), (mk_M (cT im le ln ys vt nu nn (rf.set 1 (kg rf 1 + 1)) vw vq yc yh yg) (kr (he, ke, ki, fi, fa, or, mi, a, g, l, w, s)) m kk q)) := by
  obtain ⟨hV, hst⟩ := id hA
  have hst2 : s ≤ 999 := hst
  obtain ⟨v1, v2, v3, v4, v5, v6, v7, v8, v9, v10, v11, v12, v13, v14, v15, v16⟩ := id hV
  have v6l := kO_len mi v7 or v6
  obtain ⟨b1, b2, b3⟩ := id hB
  obtain ⟨c1, c2, c3⟩ := id hC
  have d1 : rf.length = 7 := hD
  obtain ⟨j0, j1, j2, j3, j4⟩ := id hJ
  refine mr_seg 2 (pc1 := 2) (ls1 := [some (.ref 100), some (.int (nI p)), some (.int y), some (.int z), none, none, none]) (st1 := [.int (nI p), .ref 100]) (M1 := (mk_M (cT im le ln ys vt nu nn rf vw vq yc yh yg) (kr (he, ke, ki, fi, fa, or, mi, a, g, l, w, s)) m kk q)) (fun f => rfl) ?_
  refine mr_call (y := 61) (y0 := 5) (L := [some (.ref 100), some (.int (nI p))]) (rest := []) (rr := some (.int 1)) (M1 := (mk_M (cT im le ln ys vt nu nn rf vw vq yc yh yg) (kr (he, ke, ki, fi, fa, or, mi, a, g, l, w, s)) m kk q)) (fun f => rfl) (by
      refine mr_seg 1 (pc1 := 1) (ls1 := [some (.ref 100), some (.int (nI p))]) (st1 := [.int (nI p)]) (M1 := (mk_M (cT im le ln ys vt nu nn rf vw vq yc yh yg) (kr (he, ke, ki, fi, fa, or, mi, a, g, l, w, s)) m kk q)) (fun f => rfl) ?_
      refine mr_f (C := (nI p) < 0) (fun e_ => absurd ((nI_ltI (a := p) (b := 0) (by omega) (by omega)).mp e_) (by omega)) (fun f => rfl) ?_
      refine mr_seg 4 (pc1 := 12) (ls1 := [some (.ref 100), some (.int (nI p))]) (st1 := [.int (nI mi), .int (nI p)]) (M1 := (mk_M (cT im le ln ys vt nu nn rf vw vq yc yh yg) (kr (he, ke, ki, fi, fa, or, mi, a, g, l, w, s)) m kk q)) (fun f => rfl) ?_
      refine mr_f (C := (nI mi) ≤ (nI p)) (fun e_ => absurd ((nI_leI (a := mi) (b := p) (by omega) (by omega)).mp e_) (by omega)) (fun f => rfl) ?_
      exact mr_ret 3 (fun f => rfl)) ?_
  refine mr_seg 3 (pc1 := 10) (ls1 := [some (.ref 100), some (.int (nI p)), some (.int y), some (.int z), none, none, none]) (st1 := [.int y, .ref 100]) (M1 := (mk_M (cT im le ln ys vt nu nn rf vw vq yc yh yg) (kr (he, ke, ki, fi, fa, or, mi, a, g, l, w, s)) m kk q)) (fun f => rfl) ?_
  refine mr_call (y := 61) (y0 := 13) (L := [some (.ref 100), some (.int y)]) (rest := []) (rr := some (.int 0)) (M1 := (mk_M (cT im le ln ys vt nu nn rf vw vq yc yh yg) (kr (he, ke, ki, fi, fa, or, mi, a, g, l, w, s)) m kk q)) (fun f => rfl) (by
      refine mr_seg 1 (pc1 := 1) (ls1 := [some (.ref 100), some (.int y)]) (st1 := [.int y]) (M1 := (mk_M (cT im le ln ys vt nu nn rf vw vq yc yh yg) (kr (he, ke, ki, fi, fa, or, mi, a, g, l, w, s)) m kk q)) (fun f => rfl) ?_
      refine mr_t (C := y < 0) (mz_lt_t 0 (by decide) (by omega)) (fun f => rfl) ?_
      exact mr_ret 2 (fun f => rfl)) ?_
  refine mr_seg 3 (pc1 := 23) (ls1 := [some (.ref 100), some (.int (nI p)), some (.int y), some (.int z), none, none, none]) (st1 := [.int (-1), .ref 100]) (M1 := (mk_M (cT im le ln ys vt nu nn rf vw vq yc yh yg) (kr (he, ke, ki, fi, fa, or, mi, a, g, l, w, s)) m kk q)) (fun f => rfl) ?_
  refine mr_call (y := 12) (y0 := 26) (L := [some (.ref 100), some (.int (-1))]) (rest := []) (rr := some (.int (-1))) (M1 := (mk_M (cT im le ln ys vt nu nn (rf.set 1 (kg rf 1 + 1)) vw vq yc yh yg) (kr (he, ke, ki, fi, fa, or, mi, a, g, l, w, s)) m kk q)) (fun f => rfl) (by
      refine mr_seg 5 (pc1 := 7) (ls1 := [some (.ref 100), some (.int (-1))]) (st1 := [.int 1, .ref 105, .int 1, .ref 105]) (M1 := (mk_M (cT im le ln ys vt nu nn rf vw vq yc yh yg) (kr (he, ke, ki, fi, fa, or, mi, a, g, l, w, s)) m kk q)) (fun f => rfl) ?_
      refine mr_ldn (xs := (rf.map nI)) rfl rfl (k := 1) (by omega) (kg_ok (by omega)) ?_
      refine mr_seg 2 (pc1 := 10) (ls1 := [some (.ref 100), some (.int (-1))]) (st1 := [.int ((nI (kg rf 1)) + 1), .int 1, .ref 105]) (M1 := (mk_M (cT im le ln ys vt nu nn rf vw vq yc yh yg) (kr (he, ke, ki, fi, fa, or, mi, a, g, l, w, s)) m kk q)) (fun f => rfl) ?_
      refine mr_v (nI_add (kg rf 1) 1) ?_
      refine mr_stn (xs := (rf.map nI)) (ys := ((rf.set 1 (kg rf 1 + 1)).map nI)) (M2 := (mk_M (cT im le ln ys vt nu nn (rf.set 1 (kg rf 1 + 1)) vw vq yc yh yg) (kr (he, ke, ki, fi, fa, or, mi, a, g, l, w, s)) m kk q)) rfl rfl (k := 1) (by omega) (by simp only [List.length_map, List.length_set]; omega) ks_ok rfl ?_
      exact mr_ret 2 (fun f => rfl)) ?_
  exact mr_ret 1 (fun f => rfl)
set_option maxRecDepth 100000 in
theorem om_two_2 (he ke ki fi fa or : List Nat) (mi a g l w s : Nat) (xm xi xw : List Int32) (im : Nat) (le nu rf : List Nat) (ln nn : Nat) (vp : Int32) (xn xc : List Int32) (vs : Int32) (c : cC) (n m kk : kG) (hA : iA (he, ke, ki, fi, fa, or, mi, a, g, l, w, s)) (hB : iB le ln) (hC : iC nu nn) (hD : iD rf) (hR : iR xm xw xn xc) (k1 : xi.length = 52) (p : Nat) (hp : p < mi) (y : Int32) (hyu : y.toInt ≤ -1) (z : Int32) : mm_R 195 0 [some (.ref 138), some (.int (nI p)), some (.int y), some (.int z), none, none, none, none] [] (mk_M c n m kk (rT (he, ke, ki, fi, fa, or, mi, a, g, l, w, s) xm xi xw im le nu rf ln nn vp xn xc vs)) (some (.int (-1)), (mk_M c n m kk (rT (he, ke, ki, fi, fa, or, mi, a, g, l, w, s) xm xi xw im le nu (rf.set 1 (kg rf 1 + 1)) ln nn vp xn xc vs))) := by
  obtain ⟨hV, hst⟩ := id hA
  have hst2 : s ≤ 999 := hst
  obtain ⟨v1, v2, v3, v4, v5, v6, v7, v8, v9, v10, v11, v12, v13, v14, v15, v16⟩ := id hV
  have v6l := kO_len mi v7 or v6
  obtain ⟨b1, b2, b3⟩ := id hB
  obtain ⟨c1, c2, c3⟩ := id hC
  have d1 : rf.length = 7 := hD
  obtain ⟨r1, r2, r3, r4⟩ := id hR
  refine mr_seg 2 (pc1 := 2) (ls1 := [some (.ref 138), some (.int (nI p)), some (.int y), some (.int z), none, none, none, none]) (st1 := [.int (nI p), .ref 138]) (M1 := (mk_M c n m kk (rT (he, ke, ki, fi, fa, or, mi, a, g, l, w, s) xm xi xw im le nu rf ln nn vp xn xc vs))) (fun f => rfl) ?_
  refine mr_call (y := 142) (y0 := 5) (L := [some (.ref 138), some (.int (nI p))]) (rest := []) (rr := some (.int 1)) (M1 := (mk_M c n m kk (rT (he, ke, ki, fi, fa, or, mi, a, g, l, w, s) xm xi xw im le nu rf ln nn vp xn xc vs))) (fun f => rfl) (by
      refine mr_seg 5 (pc1 := 7) (ls1 := [some (.ref 138), some (.int (nI p))]) (st1 := [.int 0, .ref 139, .int 0, .int (nI p)]) (M1 := (mk_M c n m kk (rT (he, ke, ki, fi, fa, or, mi, a, g, l, w, s) xm xi xw im le nu rf ln nn vp xn xc vs))) (fun f => rfl) ?_
      refine mr_ldn (xs := (er (he, ke, ki, fi, fa, or, mi, a, g, l, w, s))) rfl rfl (k := 0) (by decide) rfl ?_
      refine mr_seg 2 (pc1 := 10) (ls1 := [some (.ref 138), some (.int (nI p))]) (st1 := [.int ((nI mi) - 1), .int 0, .int (nI p)]) (M1 := (mk_M c n m kk (rT (he, ke, ki, fi, fa, or, mi, a, g, l, w, s) xm xi xw im le nu rf ln nn vp xn xc vs))) (fun f => rfl) ?_
      refine mr_v (pk_sub (a := mi) (b := 1) (by omega)) ?_
      refine mr_call (y := 135) (y0 := 13) (L := [some (.int (nI p)), some (.int 0), some (.int (nI (mi - 1)))]) (rest := []) (rr := some (.int 1)) (M1 := (mk_M c n m kk (rT (he, ke, ki, fi, fa, or, mi, a, g, l, w, s) xm xi xw im le nu rf ln nn vp xn xc vs))) (fun f => rfl) (by
          refine mr_seg 2 (pc1 := 2) (ls1 := [some (.int (nI p)), some (.int 0), some (.int (nI (mi - 1)))]) (st1 := [.int 0, .int (nI p)]) (M1 := (mk_M c n m kk (rT (he, ke, ki, fi, fa, or, mi, a, g, l, w, s) xm xi xw im le nu rf ln nn vp xn xc vs))) (fun f => rfl) ?_
          refine mr_f (C := (nI p) < 0) (fun e_ => absurd ((nI_ltI (a := p) (b := 0) (by omega) (by omega)).mp e_) (by omega)) (fun f => rfl) ?_
          refine mr_seg 2 (pc1 := 7) (ls1 := [some (.int (nI p)), some (.int 0), some (.int (nI (mi - 1)))]) (st1 := [.int (nI (mi - 1)), .int (nI p)]) (M1 := (mk_M c n m kk (rT (he, ke, ki, fi, fa, or, mi, a, g, l, w, s) xm xi xw im le nu rf ln nn vp xn xc vs))) (fun f => rfl) ?_
          refine mr_f (C := (nI (mi - 1)) < (nI p)) (fun e_ => absurd ((nI_ltI (a := mi - 1) (b := p) (by omega) (by omega)).mp e_) (by omega)) (fun f => rfl) ?_
          exact mr_ret 3 (fun f => rfl)) ?_
      exact mr_ret 1 (fun f => rfl)) ?_
  refine mr_seg 3 (pc1 := 10) (ls1 := [some (.ref 138), some (.int (nI p)), some (.int y), some (.int z), none, none, none, none]) (st1 := [.int y, .ref 138]) (M1 := (mk_M c n m kk (rT (he, ke, ki, fi, fa, or, mi, a, g, l, w, s) xm xi xw im le nu rf ln nn vp xn xc vs))) (fun f => rfl) ?_
  refine mr_call (y := 142) (y0 := 13) (L := [some (.ref 138), some (.int y)]) (rest := []) (rr := some (.int 0)) (M1 := (mk_M c n m kk (rT (he, ke, ki, fi, fa, or, mi, a, g, l, w, s) xm xi xw im le nu rf ln nn vp xn xc vs))) (fun f => rfl) (by
      refine mr_seg 5 (pc1 := 7) (ls1 := [some (.ref 138), some (.int y)]) (st1 := [.int 0, .ref 139, .int 0, .int y]) (M1 := (mk_M c n m kk (rT (he, ke, ki, fi, fa, or, mi, a, g, l, w, s) xm xi xw im le nu rf ln nn vp xn xc vs))) (fun f => rfl) ?_
      refine mr_ldn (xs := (er (he, ke, ki, fi, fa, or, mi, a, g, l, w, s))) rfl rfl (k := 0) (by decide) rfl ?_
      refine mr_seg 2 (pc1 := 10) (ls1 := [some (.ref 138), some (.int y)]) (st1 := [.int ((nI mi) - 1), .int 0, .int y]) (M1 := (mk_M c n m kk (rT (he, ke, ki, fi, fa, or, mi, a, g, l, w, s) xm xi xw im le nu rf ln nn vp xn xc vs))) (fun f => rfl) ?_
      refine mr_v (pk_sub (a := mi) (b := 1) (by omega)) ?_
      refine mr_call (y := 135) (y0 := 13) (L := [some (.int y), some (.int 0), some (.int (nI (mi - 1)))]) (rest := []) (rr := some (.int 0)) (M1 := (mk_M c n m kk (rT (he, ke, ki, fi, fa, or, mi, a, g, l, w, s) xm xi xw im le nu rf ln nn vp xn xc vs))) (fun f => rfl) (by
          refine mr_seg 2 (pc1 := 2) (ls1 := [some (.int y), some (.int 0), some (.int (nI (mi - 1)))]) (st1 := [.int 0, .int y]) (M1 := (mk_M c n m kk (rT (he, ke, ki, fi, fa, or, mi, a, g, l, w, s) xm xi xw im le nu rf ln nn vp xn xc vs))) (fun f => rfl) ?_
          refine mr_t (C := y < 0) (mz_lt_t 0 (by decide) (by omega)) (fun f => rfl) ?_
          exact mr_ret 2 (fun f => rfl)) ?_
      exact mr_ret 1 (fun f => rfl)) ?_
  refine mr_seg 7 (pc1 := 42) (ls1 := [some (.ref 138), some (.int (nI p)), some (.int y), some (.int z), some (.int (-1)), none, none, none]) (st1 := [.int (-1), .ref 138]) (M1 := (mk_M c n m kk (rT (he, ke, ki, fi, fa, or, mi, a, g, l, w, s) xm xi xw im le nu rf ln nn vp xn xc vs))) (fun f => rfl) ?_
  refine mr_call (y := 130) (y0 := 45) (L := [some (.ref 138), some (.int (-1))]) (rest := []) (rr := some (.int (-1))) (M1 := (mk_M c n m kk (rT (he, ke, ki, fi, fa, or, mi, a, g, l, w, s) xm xi xw im le nu (rf.set 1 (kg rf 1 + 1)) ln nn vp xn xc vs))) (fun f => rfl) (by
      refine mr_seg 5 (pc1 := 7) (ls1 := [some (.ref 138), some (.int (-1))]) (st1 := [.int 1, .ref 145, .int 1, .ref 145]) (M1 := (mk_M c n m kk (rT (he, ke, ki, fi, fa, or, mi, a, g, l, w, s) xm xi xw im le nu rf ln nn vp xn xc vs))) (fun f => rfl) ?_
      refine mr_ldn (xs := (rf.map nI)) rfl rfl (k := 1) (by omega) (kg_ok (by omega)) ?_
      refine mr_seg 2 (pc1 := 10) (ls1 := [some (.ref 138), some (.int (-1))]) (st1 := [.int ((nI (kg rf 1)) + 1), .int 1, .ref 145]) (M1 := (mk_M c n m kk (rT (he, ke, ki, fi, fa, or, mi, a, g, l, w, s) xm xi xw im le nu rf ln nn vp xn xc vs))) (fun f => rfl) ?_
      refine mr_v (nI_add (kg rf 1) 1) ?_
      refine mr_stn (xs := (rf.map nI)) (ys := ((rf.set 1 (kg rf 1 + 1)).map nI)) (M2 := (mk_M c n m kk (rT (he, ke, ki, fi, fa, or, mi, a, g, l, w, s) xm xi xw im le nu (rf.set 1 (kg rf 1 + 1)) ln nn vp xn xc vs))) rfl rfl (k := 1) (by omega) (by simp only [List.length_map, List.length_set]; omega) ks_ok rfl ?_
      exact mr_ret 2 (fun f => rfl)) ?_
  exact mr_ret 1 (fun f => rfl)
theorem oe_two_2 (he ke ki fi fa or : List Nat) (mi a g l w s : Nat) (m : kG) (kk : kG) (im : Nat) (le : List Nat) (ln : Nat) (ys : List Int32) (vt : Int32) (nu : List Nat) (nn : Nat) (rf : List Nat) (vw : Int32) (vq : Int32) (yc : List Int32) (yh : List Int32) (yg : List Int32) (xm : List Int32) (xi : List Int32) (xw : List Int32) (vp : Int32) (xn : List Int32) (xc : List Int32) (vs : Int32) (hA : iA (he, ke, ki, fi, fa, or, mi, a, g, l, w, s)) (hB : iB le ln) (hC : iC nu nn) (hD : iD rf) (hJ : iJ m ys yc yh yg) (hR : iR xm xw xn xc) (hK : iK im kk xi) (p : Nat) (hp : p < mi) (y : Int32) (hyu : y.toInt ≤ -1) (z : Int32) : oI 105 195 [some (.ref 100), some (.int (nI p)), some (.int y), some (.int z), none, none, none] [some (.ref 138), some (.int (nI p)), some (.int y), some (.int z), none, none, none, none] (mk_M (cT im le ln ys vt nu nn rf vw vq yc yh yg) (kr (he, ke, ki, fi, fa, or, mi, a, g, l, w, s)) m kk (rT (he, ke, ki, fi, fa, or, mi, a, g, l, w, s) xm xi xw im le nu rf ln nn vp xn xc vs)) := by
  exact ⟨(-1), _, _, oc_two_2 he ke ki fi fa or mi a g l w s im le ln ys vt nu nn rf vw vq yc yh yg m kk _ hA hB hC hD hJ hK.1 p hp y hyu z, om_two_2 he ke ki fi fa or mi a g l w s xm xi xw im le nu rf ln nn vp xn xc vs _ _ _ _ hA hB hC hD hR hK.2.1 p hp y hyu z, (he, ke, ki, fi, fa, or, mi, a, g, l, w, s), m, kk, im, le, ln, ys, vt, nu, nn, (rf.set 1 (kg rf 1 + 1)), vw, vq, yc, yh, yg, xm, xi, xw, vp, xn, xc, vs, rfl, hA, hB, hC, iD_s hD, hJ, hR, hK⟩
set_option maxRecDepth 100000 in
theorem oc_two_3 (he ke ki fi fa or : List Nat) (mi a g l w s : Nat) (im : Nat) (le : List Nat) (ln : Nat) (ys : List Int32) (vt : Int32) (nu : List Nat) (nn : Nat) (rf : List Nat) (vw vq : Int32) (yc yh yg : List Int32) (m kk : kG) (q : cR) (hA : iA (he, ke, ki, fi, fa, or, mi, a, g, l, w, s)) (hB : iB le ln) (hC : iC nu nn) (hD : iD rf) (hJ : iJ m ys yc yh yg) (k0 : kSh kk) (p : Nat) (hp : p < mi) (y : Int32) (hy : nI mi ≤ y) (z : Int32) : mm_R 105 0 [some (.ref 100), some (.int (nI p)), some (.int y), some (.int z), none, none, none] [] (mk_M (cT im le ln ys vt nu nn rf vw vq yc yh yg) (kr (he, ke, ki, fi, fa, or, mi, a, g, l, w, s)) m kk q) (some (.int (-1)), (mk_M (cT im le ln ys vt nu nn (rf.set 1 (kg rf 1 + 1)) vw vq yc yh yg) (kr (he, ke, ki, fi, fa, or, mi, a, g, l, w, s)) m kk q)) := by
  obtain ⟨hV, hst⟩ := id hA
  have hst2 : s ≤ 999 := hst
  obtain ⟨v1, v2, v3, v4, v5, v6, v7, v8, v9, v10, v11, v12, v13, v14, v15, v16⟩ := id hV
  have v6l := kO_len mi v7 or v6
  obtain ⟨b1, b2, b3⟩ := id hB
  obtain ⟨c1, c2, c3⟩ := id hC
  have d1 : rf.length = 7 := hD
  obtain ⟨j0, j1, j2, j3, j4⟩ := id hJ
  refine mr_seg 2 (pc1 := 2) (ls1 := [some (.ref 100), some (.int (nI p)), some (.int y), some (.int z), none, none, none]) (st1 := [.int (nI p), .ref 100]) (M1 := (mk_M (cT im le ln ys vt nu nn rf vw vq yc yh yg) (kr (he, ke, ki, fi, fa, or, mi, a, g, l, w, s)) m kk q)) (fun f => rfl) ?_
  refine mr_call (y := 61) (y0 := 5) (L := [some (.ref 100), some (.int (nI p))]) (rest := []) (rr := some (.int 1)) (M1 := (mk_M (cT im le ln ys vt nu nn rf vw vq yc yh yg) (kr (he, ke, ki, fi, fa, or, mi, a, g, l, w, s)) m kk q)) (fun f => rfl) (by
      refine mr_seg 1 (pc1 := 1) (ls1 := [some (.ref 100), some (.int (nI p))]) (st1 := [.int (nI p)]) (M1 := (mk_M (cT im le ln ys vt nu nn rf vw vq yc yh yg) (kr (he, ke, ki, fi, fa, or, mi, a, g, l, w, s)) m kk q)) (fun f => rfl) ?_
      refine mr_f (C := (nI p) < 0) (fun e_ => absurd ((nI_ltI (a := p) (b := 0) (by omega) (by omega)).mp e_) (by omega)) (fun f => rfl) ?_
      refine mr_seg 4 (pc1 := 12) (ls1 := [some (.ref 100), some (.int (nI p))]) (st1 := [.int (nI mi), .int (nI p)]) (M1 := (mk_M (cT im le ln ys vt nu nn rf vw vq yc yh yg) (kr (he, ke, ki, fi, fa, or, mi, a, g, l, w, s)) m kk q)) (fun f => rfl) ?_
      refine mr_f (C := (nI mi) ≤ (nI p)) (fun e_ => absurd ((nI_leI (a := mi) (b := p) (by omega) (by omega)).mp e_) (by omega)) (fun f => rfl) ?_
      exact mr_ret 3 (fun f => rfl)) ?_
  refine mr_seg 3 (pc1 := 10) (ls1 := [some (.ref 100), some (.int (nI p)), some (.int y), some (.int z), none, none, none]) (st1 := [.int y, .ref 100]) (M1 := (mk_M (cT im le ln ys vt nu nn rf vw vq yc yh yg) (kr (he, ke, ki, fi, fa, or, mi, a, g, l, w, s)) m kk q)) (fun f => rfl) ?_
  refine mr_call (y := 61) (y0 := 13) (L := [some (.ref 100), some (.int y)]) (rest := []) (rr := some (.int 0)) (M1 := (mk_M (cT im le ln ys vt nu nn rf vw vq yc yh yg) (kr (he, ke, ki, fi, fa, or, mi, a, g, l, w, s)) m kk q)) (fun f => rfl) (by
      refine mr_seg 1 (pc1 := 1) (ls1 := [some (.ref 100), some (.int y)]) (st1 := [.int y]) (M1 := (mk_M (cT im le ln ys vt nu nn rf vw vq yc yh yg) (kr (he, ke, ki, fi, fa, or, mi, a, g, l, w, s)) m kk q)) (fun f => rfl) ?_
      refine mr_f (C := y < 0) (k_nneg v7 hy) (fun f => rfl) ?_
      refine mr_seg 4 (pc1 := 12) (ls1 := [some (.ref 100), some (.int y)]) (st1 := [.int (nI mi), .int y]) (M1 := (mk_M (cT im le ln ys vt nu nn rf vw vq yc yh yg) (kr (he, ke, ki, fi, fa, or, mi, a, g, l, w, s)) m kk q)) (fun f => rfl) ?_
      refine mr_t (C := (nI mi) ≤ y) (hy) (fun f => rfl) ?_
      exact mr_ret 2 (fun f => rfl)) ?_
  refine mr_seg 3 (pc1 := 23) (ls1 := [some (.ref 100), some (.int (nI p)), some (.int y), some (.int z), none, none, none]) (st1 := [.int (-1), .ref 100]) (M1 := (mk_M (cT im le ln ys vt nu nn rf vw vq yc yh yg) (kr (he, ke, ki, fi, fa, or, mi, a, g, l, w, s)) m kk q)) (fun f => rfl) ?_
  refine mr_call (y := 12) (y0 := 26) (L := [some (.ref 100), some (.int (-1))]) (rest := []) (rr := some (.int (-1))) (M1 := (mk_M (cT im le ln ys vt nu nn (rf.set 1 (kg rf 1 + 1)) vw vq yc yh yg) (kr (he, ke, ki, fi, fa, or, mi, a, g, l, w, s)) m kk q)) (fun f => rfl) (by
      refine mr_seg 5 (pc1 := 7) (ls1 := [some (.ref 100), some (.int (-1))]) (st1 := [.int 1, .ref 105, .int 1, .ref 105]) (M1 := (mk_M (cT im le ln ys vt nu nn rf vw vq yc yh yg) (kr (he, ke, ki, fi, fa, or, mi, a, g, l, w, s)) m kk q)) (fun f => rfl) ?_
      refine mr_ldn (xs := (rf.map nI)) rfl rfl (k := 1) (by omega) (kg_ok (by omega)) ?_
      refine mr_seg 2 (pc1 := 10) (ls1 := [some (.ref 100), some (.int (-1))]) (st1 := [.int ((nI (kg rf 1)) + 1), .int 1, .ref 105]) (M1 := (mk_M (cT im le ln ys vt nu nn rf vw vq yc yh yg) (kr (he, ke, ki, fi, fa, or, mi, a, g, l, w, s)) m kk q)) (fun f => rfl) ?_
      refine mr_v (nI_add (kg rf 1) 1) ?_
      refine mr_stn (xs := (rf.map nI)) (ys := ((rf.set 1 (kg rf 1 + 1)).map nI)) (M2 := (mk_M (cT im le ln ys vt nu nn (rf.set 1 (kg rf 1 + 1)) vw vq yc yh yg) (kr (he, ke, ki, fi, fa, or, mi, a, g, l, w, s)) m kk q)) rfl rfl (k := 1) (by omega) (by simp only [List.length_map, List.length_set]; omega) ks_ok rfl ?_
      exact mr_ret 2 (fun f => rfl)) ?_
  exact mr_ret 1 (fun f => rfl)
set_option maxRecDepth 100000 in
theorem om_two_3 (he ke ki fi fa or : List Nat) (mi a g l w s : Nat) (xm xi xw : List Int32) (im : Nat) (le nu rf : List Nat) (ln nn : Nat) (vp : Int32) (xn xc : List Int32) (vs : Int32) (c : cC) (n m kk : kG) (hA : iA (he, ke, ki, fi, fa, or, mi, a, g, l, w, s)) (hB : iB le ln) (hC : iC nu nn) (hD : iD rf) (hR : iR xm xw xn xc) (k1 : xi.length = 52) (p : Nat) (hp : p < mi) (y : Int32) (hy : nI mi ≤ y) (z : Int32) : mm_R 195 0 [some (.ref 138), some (.int (nI p)), some (.int y), some (.int z), none, none, none, none] [] (mk_M c n m kk (rT (he, ke, ki, fi, fa, or, mi, a, g, l, w, s) xm xi xw im le nu rf ln nn vp xn xc vs)) (some (.int (-1)), (mk_M c n m kk (rT (he, ke, ki, fi, fa, or, mi, a, g, l, w, s) xm xi xw im le nu (rf.set 1 (kg rf 1 + 1)) ln nn vp xn xc vs))) := by
  obtain ⟨hV, hst⟩ := id hA
  have hst2 : s ≤ 999 := hst
  obtain ⟨v1, v2, v3, v4, v5, v6, v7, v8, v9, v10, v11, v12, v13, v14, v15, v16⟩ := id hV
  have v6l := kO_len mi v7 or v6
  obtain ⟨b1, b2, b3⟩ := id hB
  obtain ⟨c1, c2, c3⟩ := id hC
  have d1 : rf.length = 7 := hD
  obtain ⟨r1, r2, r3, r4⟩ := id hR
  refine mr_seg 2 (pc1 := 2) (ls1 := [some (.ref 138), some (.int (nI p)), some (.int y), some (.int z), none, none, none, none]) (st1 := [.int (nI p), .ref 138]) (M1 := (mk_M c n m kk (rT (he, ke, ki, fi, fa, or, mi, a, g, l, w, s) xm xi xw im le nu rf ln nn vp xn xc vs))) (fun f => rfl) ?_
  refine mr_call (y := 142) (y0 := 5) (L := [some (.ref 138), some (.int (nI p))]) (rest := []) (rr := some (.int 1)) (M1 := (mk_M c n m kk (rT (he, ke, ki, fi, fa, or, mi, a, g, l, w, s) xm xi xw im le nu rf ln nn vp xn xc vs))) (fun f => rfl) (by
      refine mr_seg 5 (pc1 := 7) (ls1 := [some (.ref 138), some (.int (nI p))]) (st1 := [.int 0, .ref 139, .int 0, .int (nI p)]) (M1 := (mk_M c n m kk (rT (he, ke, ki, fi, fa, or, mi, a, g, l, w, s) xm xi xw im le nu rf ln nn vp xn xc vs))) (fun f => rfl) ?_
      refine mr_ldn (xs := (er (he, ke, ki, fi, fa, or, mi, a, g, l, w, s))) rfl rfl (k := 0) (by decide) rfl ?_
      refine mr_seg 2 (pc1 := 10) (ls1 := [some (.ref 138), some (.int (nI p))]) (st1 := [.int ((nI mi) - 1), .int 0, .int (nI p)]) (M1 := (mk_M c n m kk (rT (he, ke, ki, fi, fa, or, mi, a, g, l, w, s) xm xi xw im le nu rf ln nn vp xn xc vs))) (fun f => rfl) ?_
      refine mr_v (pk_sub (a := mi) (b := 1) (by omega)) ?_
      refine mr_call (y := 135) (y0 := 13) (L := [some (.int (nI p)), some (.int 0), some (.int (nI (mi - 1)))]) (rest := []) (rr := some (.int 1)) (M1 := (mk_M c n m kk (rT (he, ke, ki, fi, fa, or, mi, a, g, l, w, s) xm xi xw im le nu rf ln nn vp xn xc vs))) (fun f => rfl) (by
          refine mr_seg 2 (pc1 := 2) (ls1 := [some (.int (nI p)), some (.int 0), some (.int (nI (mi - 1)))]) (st1 := [.int 0, .int (nI p)]) (M1 := (mk_M c n m kk (rT (he, ke, ki, fi, fa, or, mi, a, g, l, w, s) xm xi xw im le nu rf ln nn vp xn xc vs))) (fun f => rfl) ?_
          refine mr_f (C := (nI p) < 0) (fun e_ => absurd ((nI_ltI (a := p) (b := 0) (by omega) (by omega)).mp e_) (by omega)) (fun f => rfl) ?_
          refine mr_seg 2 (pc1 := 7) (ls1 := [some (.int (nI p)), some (.int 0), some (.int (nI (mi - 1)))]) (st1 := [.int (nI (mi - 1)), .int (nI p)]) (M1 := (mk_M c n m kk (rT (he, ke, ki, fi, fa, or, mi, a, g, l, w, s) xm xi xw im le nu rf ln nn vp xn xc vs))) (fun f => rfl) ?_
          refine mr_f (C := (nI (mi - 1)) < (nI p)) (fun e_ => absurd ((nI_ltI (a := mi - 1) (b := p) (by omega) (by omega)).mp e_) (by omega)) (fun f => rfl) ?_
          exact mr_ret 3 (fun f => rfl)) ?_
      exact mr_ret 1 (fun f => rfl)) ?_
  refine mr_seg 3 (pc1 := 10) (ls1 := [some (.ref 138), some (.int (nI p)), some (.int y), some (.int z), none, none, none, none]) (st1 := [.int y, .ref 138]) (M1 := (mk_M c n m kk (rT (he, ke, ki, fi, fa, or, mi, a, g, l, w, s) xm xi xw im le nu rf ln nn vp xn xc vs))) (fun f => rfl) ?_
  refine mr_call (y := 142) (y0 := 13) (L := [some (.ref 138), some (.int y)]) (rest := []) (rr := some (.int 0)) (M1 := (mk_M c n m kk (rT (he, ke, ki, fi, fa, or, mi, a, g, l, w, s) xm xi xw im le nu rf ln nn vp xn xc vs))) (fun f => rfl) (by
      refine mr_seg 5 (pc1 := 7) (ls1 := [some (.ref 138), some (.int y)]) (st1 := [.int 0, .ref 139, .int 0, .int y]) (M1 := (mk_M c n m kk (rT (he, ke, ki, fi, fa, or, mi, a, g, l, w, s) xm xi xw im le nu rf ln nn vp xn xc vs))) (fun f => rfl) ?_
      refine mr_ldn (xs := (er (he, ke, ki, fi, fa, or, mi, a, g, l, w, s))) rfl rfl (k := 0) (by decide) rfl ?_
      refine mr_seg 2 (pc1 := 10) (ls1 := [some (.ref 138), some (.int y)]) (st1 := [.int ((nI mi) - 1), .int 0, .int y]) (M1 := (mk_M c n m kk (rT (he, ke, ki, fi, fa, or, mi, a, g, l, w, s) xm xi xw im le nu rf ln nn vp xn xc vs))) (fun f => rfl) ?_
      refine mr_v (pk_sub (a := mi) (b := 1) (by omega)) ?_
      refine mr_call (y := 135) (y0 := 13) (L := [some (.int y), some (.int 0), some (.int (nI (mi - 1)))]) (rest := []) (rr := some (.int 0)) (M1 := (mk_M c n m kk (rT (he, ke, ki, fi, fa, or, mi, a, g, l, w, s) xm xi xw im le nu rf ln nn vp xn xc vs))) (fun f => rfl) (by
          refine mr_seg 2 (pc1 := 2) (ls1 := [some (.int y), some (.int 0), some (.int (nI (mi - 1)))]) (st1 := [.int 0, .int y]) (M1 := (mk_M c n m kk (rT (he, ke, ki, fi, fa, or, mi, a, g, l, w, s) xm xi xw im le nu rf ln nn vp xn xc vs))) (fun f => rfl) ?_
          refine mr_f (C := y < 0) (k_nneg v7 hy) (fun f => rfl) ?_
          refine mr_seg 2 (pc1 := 7) (ls1 := [some (.int y), some (.int 0), some (.int (nI (mi - 1)))]) (st1 := [.int (nI (mi - 1)), .int y]) (M1 := (mk_M c n m kk (rT (he, ke, ki, fi, fa, or, mi, a, g, l, w, s) xm xi xw im le nu rf ln nn vp xn xc vs))) (fun f => rfl) ?_
          refine mr_t (C := (nI (mi - 1)) < y) (k_gem2 v7 hy (by omega)) (fun f => rfl) ?_
          exact mr_ret 2 (fun f => rfl)) ?_
      exact mr_ret 1 (fun f => rfl)) ?_
  refine mr_seg 7 (pc1 := 42) (ls1 := [some (.ref 138), some (.int (nI p)), some (.int y), some (.int z), some (.int (-1)), none, none, none]) (st1 := [.int (-1), .ref 138]) (M1 := (mk_M c n m kk (rT (he, ke, ki, fi, fa, or, mi, a, g, l, w, s) xm xi xw im le nu rf ln nn vp xn xc vs))) (fun f => rfl) ?_
  refine mr_call (y := 130) (y0 := 45) (L := [some (.ref 138), some (.int (-1))]) (rest := []) (rr := some (.int (-1))) (M1 := (mk_M c n m kk (rT (he, ke, ki, fi, fa, or, mi, a, g, l, w, s) xm xi xw im le nu (rf.set 1 (kg rf 1 + 1)) ln nn vp xn xc vs))) (fun f => rfl) (by
      refine mr_seg 5 (pc1 := 7) (ls1 := [some (.ref 138), some (.int (-1))]) (st1 := [.int 1, .ref 145, .int 1, .ref 145]) (M1 := (mk_M c n m kk (rT (he, ke, ki, fi, fa, or, mi, a, g, l, w, s) xm xi xw im le nu rf ln nn vp xn xc vs))) (fun f => rfl) ?_
      refine mr_ldn (xs := (rf.map nI)) rfl rfl (k := 1) (by omega) (kg_ok (by omega)) ?_
      refine mr_seg 2 (pc1 := 10) (ls1 := [some (.ref 138), some (.int (-1))]) (st1 := [.int ((nI (kg rf 1)) + 1), .int 1, .ref 145]) (M1 := (mk_M c n m kk (rT (he, ke, ki, fi, fa, or, mi, a, g, l, w, s) xm xi xw im le nu rf ln nn vp xn xc vs))) (fun f => rfl) ?_
      refine mr_v (nI_add (kg rf 1) 1) ?_
      refine mr_stn (xs := (rf.map nI)) (ys := ((rf.set 1 (kg rf 1 + 1)).map nI)) (M2 := (mk_M c n m kk (rT (he, ke, ki, fi, fa, or, mi, a, g, l, w, s) xm xi xw im le nu (rf.set 1 (kg rf 1 + 1)) ln nn vp xn xc vs))) rfl rfl (k := 1) (by omega) (by simp only [List.length_map, List.length_set]; omega) ks_ok rfl ?_
      exact mr_ret 2 (fun f => rfl)) ?_
  exact mr_ret 1 (fun f => rfl)
theorem oe_two_3 (he ke ki fi fa or : List Nat) (mi a g l w s : Nat) (m : kG) (kk : kG) (im : Nat) (le : List Nat) (ln : Nat) (ys : List Int32) (vt : Int32) (nu : List Nat) (nn : Nat) (rf : List Nat) (vw : Int32) (vq : Int32) (yc : List Int32) (yh : List Int32) (yg : List Int32) (xm : List Int32) (xi : List Int32) (xw : List Int32) (vp : Int32) (xn : List Int32) (xc : List Int32) (vs : Int32) (hA : iA (he, ke, ki, fi, fa, or, mi, a, g, l, w, s)) (hB : iB le ln) (hC : iC nu nn) (hD : iD rf) (hJ : iJ m ys yc yh yg) (hR : iR xm xw xn xc) (hK : iK im kk xi) (p : Nat) (hp : p < mi) (y : Int32) (hy : nI mi ≤ y) (z : Int32) : oI 105 195 [some (.ref 100), some (.int (nI p)), some (.int y), some (.int z), none, none, none] [some (.ref 138), some (.int (nI p)), some (.int y), some (.int z), none, none, none, none] (mk_M (cT im le ln ys vt nu nn rf vw vq yc yh yg) (kr (he, ke, ki, fi, fa, or, mi, a, g, l, w, s)) m kk (rT (he, ke, ki, fi, fa, or, mi, a, g, l, w, s) xm xi xw im le nu rf ln nn vp xn xc vs)) := by
  exact ⟨(-1), _, _, oc_two_3 he ke ki fi fa or mi a g l w s im le ln ys vt nu nn rf vw vq yc yh yg m kk _ hA hB hC hD hJ hK.1 p hp y hy z, om_two_3 he ke ki fi fa or mi a g l w s xm xi xw im le nu rf ln nn vp xn xc vs _ _ _ _ hA hB hC hD hR hK.2.1 p hp y hy z, (he, ke, ki, fi, fa, or, mi, a, g, l, w, s), m, kk, im, le, ln, ys, vt, nu, nn, (rf.set 1 (kg rf 1 + 1)), vw, vq, yc, yh, yg, xm, xi, xw, vp, xn, xc, vs, rfl, hA, hB, hC, iD_s hD, hJ, hR, hK⟩
set_option maxRecDepth 100000 in
theorem oc_two_4 (he ke ki fi fa or : List Nat) (mi a g l w s : Nat) (im : Nat) (le : List Nat) (ln : Nat) (ys : List Int32) (vt : Int32) (nu : List Nat) (nn : Nat) (rf : List Nat) (vw vq : Int32) (yc yh yg : List Int32) (m kk : kG) (q : cR) (hA : iA (he, ke, ki, fi, fa, or, mi, a, g, l, w, s)) (hB : iB le ln) (hC : iC nu nn) (hD : iD rf) (hJ : iJ m ys yc yh yg) (k0 : kSh kk) (p : Nat) (hp : p < mi) (z : Int32) : mm_R 105 0 [some (.ref 100), some (.int (nI p)), some (.int (nI p)), some (.int z), none, none, none] [] (mk_M (cT im le ln ys vt nu nn rf vw vq yc yh yg) (kr (he, ke, ki, fi, fa, or, mi, a, g, l, w, s)) m kk q) (some (.int (-1)), (mk_M (cT im le ln ys vt nu nn (rf.set 1 (kg rf 1 + 1)) vw vq yc yh yg) (kr (he, ke, ki, fi, fa, or, mi, a, g, l, w, s)) m kk q)) := by
  obtain ⟨hV, hst⟩ := id hA
  have hst2 : s ≤ 999 := hst
  obtain ⟨v1, v2, v3, v4, v5, v6, v7, v8, v9, v10, v11, v12, v13, v14, v15, v16⟩ := id hV
  have v6l := kO_len mi v7 or v6
  obtain ⟨b1, b2, b3⟩ := id hB
  obtain ⟨c1, c2, c3⟩ := id hC
  have d1 : rf.length = 7 := hD
  obtain ⟨j0, j1, j2, j3, j4⟩ := id hJ
  refine mr_seg 2 (pc1 := 2) (ls1 := [some (.ref 100), some (.int (nI p)), some (.int (nI p)), some (.int z), none, none, none]) (st1 := [.int (nI p), .ref 100]) (M1 := (mk_M (cT im le ln ys vt nu nn rf vw vq yc yh yg) (kr (he, ke, ki, fi, fa, or, mi, a, g, l, w, s)) m kk q)) (fun f => rfl) ?_
  refine mr_call (y := 61) (y0 := 5) (L := [some (.ref 100), some (.int (nI p))]) (rest := []) (rr := some (.int 1)) (M1 := (mk_M (cT im le ln ys vt nu nn rf vw vq yc yh yg) (kr (he, ke, ki, fi, fa, or, mi, a, g, l, w, s)) m kk q)) (fun f => rfl) (by
      refine mr_seg 1 (pc1 := 1) (ls1 := [some (.ref 100), some (.int (nI p))]) (st1 := [.int (nI p)]) (M1 := (mk_M (cT im le ln ys vt nu nn rf vw vq yc yh yg) (kr (he, ke, ki, fi, fa, or, mi, a, g, l, w, s)) m kk q)) (fun f => rfl) ?_
      refine mr_f (C := (nI p) < 0) (fun e_ => absurd ((nI_ltI (a := p) (b := 0) (by omega) (by omega)).mp e_) (by omega)) (fun f => rfl) ?_
      refine mr_seg 4 (pc1 := 12) (ls1 := [some (.ref 100), some (.int (nI p))]) (st1 := [.int (nI mi), .int (nI p)]) (M1 := (mk_M (cT im le ln ys vt nu nn rf vw vq yc yh yg) (kr (he, ke, ki, fi, fa, or, mi, a, g, l, w, s)) m kk q)) (fun f => rfl) ?_
      refine mr_f (C := (nI mi) ≤ (nI p)) (fun e_ => absurd ((nI_leI (a := mi) (b := p) (by omega) (by omega)).mp e_) (by omega)) (fun f => rfl) ?_
      exact mr_ret 3 (fun f => rfl)) ?_
  refine mr_seg 3 (pc1 := 10) (ls1 := [some (.ref 100), some (.int (nI p)), some (.int (nI p)), some (.int z), none, none, none]) (st1 := [.int (nI p), .ref 100]) (M1 := (mk_M (cT im le ln ys vt nu nn rf vw vq yc yh yg) (kr (he, ke, ki, fi, fa, or, mi, a, g, l, w, s)) m kk q)) (fun f => rfl) ?_
  refine mr_call (y := 61) (y0 := 13) (L := [some (.ref 100), some (.int (nI p))]) (rest := []) (rr := some (.int 1)) (M1 := (mk_M (cT im le ln ys vt nu nn rf vw vq yc yh yg) (kr (he, ke, ki, fi, fa, or, mi, a, g, l, w, s)) m kk q)) (fun f => rfl) (by
      refine mr_seg 1 (pc1 := 1) (ls1 := [some (.ref 100), some (.int (nI p))]) (st1 := [.int (nI p)]) (M1 := (mk_M (cT im le ln ys vt nu nn rf vw vq yc yh yg) (kr (he, ke, ki, fi, fa, or, mi, a, g, l, w, s)) m kk q)) (fun f => rfl) ?_
      refine mr_f (C := (nI p) < 0) (fun e_ => absurd ((nI_ltI (a := p) (b := 0) (by omega) (by omega)).mp e_) (by omega)) (fun f => rfl) ?_
      refine mr_seg 4 (pc1 := 12) (ls1 := [some (.ref 100), some (.int (nI p))]) (st1 := [.int (nI mi), .int (nI p)]) (M1 := (mk_M (cT im le ln ys vt nu nn rf vw vq yc yh yg) (kr (he, ke, ki, fi, fa, or, mi, a, g, l, w, s)) m kk q)) (fun f => rfl) ?_
      refine mr_f (C := (nI mi) ≤ (nI p)) (fun e_ => absurd ((nI_leI (a := mi) (b := p) (by omega) (by omega)).mp e_) (by omega)) (fun f => rfl) ?_
      exact mr_ret 3 (fun f => rfl)) ?_
  refine mr_seg 3 (pc1 := 18) (ls1 := [some (.ref 100), some (.int (nI p)), some (.int (nI p)), some (.int z), none, none, none]) (st1 := [.int (nI p), .int (nI p)]) (M1 := (mk_M (cT im le ln ys vt nu nn rf vw vq yc yh yg) (kr (he, ke, ki, fi, fa, or, mi, a, g, l, w, s)) m kk q)) (fun f => rfl) ?_
  refine mr_t (C := (nI p) = (nI p)) ((nI_eq (a := p) (b := p) (by omega) (by omega)).mpr (by omega)) (fun f => rfl) ?_
  refine mr_seg 2 (pc1 := 23) (ls1 := [some (.ref 100), some (.int (nI p)), some (.int (nI p)), some (.int z), none, none, none]) (st1 := [.int (-1), .ref 100]) (M1 := (mk_M (cT im le ln ys vt nu nn rf vw vq yc yh yg) (kr (he, ke, ki, fi, fa, or, mi, a, g, l, w, s)) m kk q)) (fun f => rfl) ?_
  refine mr_call (y := 12) (y0 := 26) (L := [some (.ref 100), some (.int (-1))]) (rest := []) (rr := some (.int (-1))) (M1 := (mk_M (cT im le ln ys vt nu nn (rf.set 1 (kg rf 1 + 1)) vw vq yc yh yg) (kr (he, ke, ki, fi, fa, or, mi, a, g, l, w, s)) m kk q)) (fun f => rfl) (by
      refine mr_seg 5 (pc1 := 7) (ls1 := [some (.ref 100), some (.int (-1))]) (st1 := [.int 1, .ref 105, .int 1, .ref 105]) (M1 := (mk_M (cT im le ln ys vt nu nn rf vw vq yc yh yg) (kr (he, ke, ki, fi, fa, or, mi, a, g, l, w, s)) m kk q)) (fun f => rfl) ?_
      refine mr_ldn (xs := (rf.map nI)) rfl rfl (k := 1) (by omega) (kg_ok (by omega)) ?_
      refine mr_seg 2 (pc1 := 10) (ls1 := [some (.ref 100), some (.int (-1))]) (st1 := [.int ((nI (kg rf 1)) + 1), .int 1, .ref 105]) (M1 := (mk_M (cT im le ln ys vt nu nn rf vw vq yc yh yg) (kr (he, ke, ki, fi, fa, or, mi, a, g, l, w, s)) m kk q)) (fun f => rfl) ?_
      refine mr_v (nI_add (kg rf 1) 1) ?_
      refine mr_stn (xs := (rf.map nI)) (ys := ((rf.set 1 (kg rf 1 + 1)).map nI)) (M2 := (mk_M (cT im le ln ys vt nu nn (rf.set 1 (kg rf 1 + 1)) vw vq yc yh yg) (kr (he, ke, ki, fi, fa, or, mi, a, g, l, w, s)) m kk q)) rfl rfl (k := 1) (by omega) (by simp only [List.length_map, List.length_set]; omega) ks_ok rfl ?_
      exact mr_ret 2 (fun f => rfl)) ?_
  exact mr_ret 1 (fun f => rfl)
set_option maxRecDepth 100000 in
theorem om_two_4 (he ke ki fi fa or : List Nat) (mi a g l w s : Nat) (xm xi xw : List Int32) (im : Nat) (le nu rf : List Nat) (ln nn : Nat) (vp : Int32) (xn xc : List Int32) (vs : Int32) (c : cC) (n m kk : kG) (hA : iA (he, ke, ki, fi, fa, or, mi, a, g, l, w, s)) (hB : iB le ln) (hC : iC nu nn) (hD : iD rf) (hR : iR xm xw xn xc) (k1 : xi.length = 52) (p : Nat) (hp : p < mi) (z : Int32) : mm_R 195 0 [some (.ref 138), some (.int (nI p)), some (.int (nI p)), some (.int z), none, none, none, none] [] (mk_M c n m kk (rT (he, ke, ki, fi, fa, or, mi, a, g, l, w, s) xm xi xw im le nu rf ln nn vp xn xc vs)) (some (.int (-1)), (mk_M c n m kk (rT (he, ke, ki, fi, fa, or, mi, a, g, l, w, s) xm xi xw im le nu (rf.set 1 (kg rf 1 + 1)) ln nn vp xn xc vs))) := by
  obtain ⟨hV, hst⟩ := id hA
  have hst2 : s ≤ 999 := hst
  obtain ⟨v1, v2, v3, v4, v5, v6, v7, v8, v9, v10, v11, v12, v13, v14, v15, v16⟩ := id hV
  have v6l := kO_len mi v7 or v6
  obtain ⟨b1, b2, b3⟩ := id hB
  obtain ⟨c1, c2, c3⟩ := id hC
  have d1 : rf.length = 7 := hD
  obtain ⟨r1, r2, r3, r4⟩ := id hR
  refine mr_seg 2 (pc1 := 2) (ls1 := [some (.ref 138), some (.int (nI p)), some (.int (nI p)), some (.int z), none, none, none, none]) (st1 := [.int (nI p), .ref 138]) (M1 := (mk_M c n m kk (rT (he, ke, ki, fi, fa, or, mi, a, g, l, w, s) xm xi xw im le nu rf ln nn vp xn xc vs))) (fun f => rfl) ?_
  refine mr_call (y := 142) (y0 := 5) (L := [some (.ref 138), some (.int (nI p))]) (rest := []) (rr := some (.int 1)) (M1 := (mk_M c n m kk (rT (he, ke, ki, fi, fa, or, mi, a, g, l, w, s) xm xi xw im le nu rf ln nn vp xn xc vs))) (fun f => rfl) (by
      refine mr_seg 5 (pc1 := 7) (ls1 := [some (.ref 138), some (.int (nI p))]) (st1 := [.int 0, .ref 139, .int 0, .int (nI p)]) (M1 := (mk_M c n m kk (rT (he, ke, ki, fi, fa, or, mi, a, g, l, w, s) xm xi xw im le nu rf ln nn vp xn xc vs))) (fun f => rfl) ?_
      refine mr_ldn (xs := (er (he, ke, ki, fi, fa, or, mi, a, g, l, w, s))) rfl rfl (k := 0) (by decide) rfl ?_
      refine mr_seg 2 (pc1 := 10) (ls1 := [some (.ref 138), some (.int (nI p))]) (st1 := [.int ((nI mi) - 1), .int 0, .int (nI p)]) (M1 := (mk_M c n m kk (rT (he, ke, ki, fi, fa, or, mi, a, g, l, w, s) xm xi xw im le nu rf ln nn vp xn xc vs))) (fun f => rfl) ?_
      refine mr_v (pk_sub (a := mi) (b := 1) (by omega)) ?_
      refine mr_call (y := 135) (y0 := 13) (L := [some (.int (nI p)), some (.int 0), some (.int (nI (mi - 1)))]) (rest := []) (rr := some (.int 1)) (M1 := (mk_M c n m kk (rT (he, ke, ki, fi, fa, or, mi, a, g, l, w, s) xm xi xw im le nu rf ln nn vp xn xc vs))) (fun f => rfl) (by
          refine mr_seg 2 (pc1 := 2) (ls1 := [some (.int (nI p)), some (.int 0), some (.int (nI (mi - 1)))]) (st1 := [.int 0, .int (nI p)]) (M1 := (mk_M c n m kk (rT (he, ke, ki, fi, fa, or, mi, a, g, l, w, s) xm xi xw im le nu rf ln nn vp xn xc vs))) (fun f => rfl) ?_
          refine mr_f (C := (nI p) < 0) (fun e_ => absurd ((nI_ltI (a := p) (b := 0) (by omega) (by omega)).mp e_) (by omega)) (fun f => rfl) ?_
          refine mr_seg 2 (pc1 := 7) (ls1 := [some (.int (nI p)), some (.int 0), some (.int (nI (mi - 1)))]) (st1 := [.int (nI (mi - 1)), .int (nI p)]) (M1 := (mk_M c n m kk (rT (he, ke, ki, fi, fa, or, mi, a, g, l, w, s) xm xi xw im le nu rf ln nn vp xn xc vs))) (fun f => rfl) ?_
          refine mr_f (C := (nI (mi - 1)) < (nI p)) (fun e_ => absurd ((nI_ltI (a := mi - 1) (b := p) (by omega) (by omega)).mp e_) (by omega)) (fun f => rfl) ?_
          exact mr_ret 3 (fun f => rfl)) ?_
      exact mr_ret 1 (fun f => rfl)) ?_
  refine mr_seg 3 (pc1 := 10) (ls1 := [some (.ref 138), some (.int (nI p)), some (.int (nI p)), some (.int z), none, none, none, none]) (st1 := [.int (nI p), .ref 138]) (M1 := (mk_M c n m kk (rT (he, ke, ki, fi, fa, or, mi, a, g, l, w, s) xm xi xw im le nu rf ln nn vp xn xc vs))) (fun f => rfl) ?_
  refine mr_call (y := 142) (y0 := 13) (L := [some (.ref 138), some (.int (nI p))]) (rest := []) (rr := some (.int 1)) (M1 := (mk_M c n m kk (rT (he, ke, ki, fi, fa, or, mi, a, g, l, w, s) xm xi xw im le nu rf ln nn vp xn xc vs))) (fun f => rfl) (by
      refine mr_seg 5 (pc1 := 7) (ls1 := [some (.ref 138), some (.int (nI p))]) (st1 := [.int 0, .ref 139, .int 0, .int (nI p)]) (M1 := (mk_M c n m kk (rT (he, ke, ki, fi, fa, or, mi, a, g, l, w, s) xm xi xw im le nu rf ln nn vp xn xc vs))) (fun f => rfl) ?_
      refine mr_ldn (xs := (er (he, ke, ki, fi, fa, or, mi, a, g, l, w, s))) rfl rfl (k := 0) (by decide) rfl ?_
      refine mr_seg 2 (pc1 := 10) (ls1 := [some (.ref 138), some (.int (nI p))]) (st1 := [.int ((nI mi) - 1), .int 0, .int (nI p)]) (M1 := (mk_M c n m kk (rT (he, ke, ki, fi, fa, or, mi, a, g, l, w, s) xm xi xw im le nu rf ln nn vp xn xc vs))) (fun f => rfl) ?_
      refine mr_v (pk_sub (a := mi) (b := 1) (by omega)) ?_
      refine mr_call (y := 135) (y0 := 13) (L := [some (.int (nI p)), some (.int 0), some (.int (nI (mi - 1)))]) (rest := []) (rr := some (.int 1)) (M1 := (mk_M c n m kk (rT (he, ke, ki, fi, fa, or, mi, a, g, l, w, s) xm xi xw im le nu rf ln nn vp xn xc vs))) (fun f => rfl) (by
          refine mr_seg 2 (pc1 := 2) (ls1 := [some (.int (nI p)), some (.int 0), some (.int (nI (mi - 1)))]) (st1 := [.int 0, .int (nI p)]) (M1 := (mk_M c n m kk (rT (he, ke, ki, fi, fa, or, mi, a, g, l, w, s) xm xi xw im le nu rf ln nn vp xn xc vs))) (fun f => rfl) ?_
          refine mr_f (C := (nI p) < 0) (fun e_ => absurd ((nI_ltI (a := p) (b := 0) (by omega) (by omega)).mp e_) (by omega)) (fun f => rfl) ?_
          refine mr_seg 2 (pc1 := 7) (ls1 := [some (.int (nI p)), some (.int 0), some (.int (nI (mi - 1)))]) (st1 := [.int (nI (mi - 1)), .int (nI p)]) (M1 := (mk_M c n m kk (rT (he, ke, ki, fi, fa, or, mi, a, g, l, w, s) xm xi xw im le nu rf ln nn vp xn xc vs))) (fun f => rfl) ?_
          refine mr_f (C := (nI (mi - 1)) < (nI p)) (fun e_ => absurd ((nI_ltI (a := mi - 1) (b := p) (by omega) (by omega)).mp e_) (by omega)) (fun f => rfl) ?_
          exact mr_ret 3 (fun f => rfl)) ?_
      exact mr_ret 1 (fun f => rfl)) ?_
  refine mr_seg 3 (pc1 := 18) (ls1 := [some (.ref 138), some (.int (nI p)), some (.int (nI p)), some (.int z), none, none, none, none]) (st1 := [.int (nI p), .int (nI p)]) (M1 := (mk_M c n m kk (rT (he, ke, ki, fi, fa, or, mi, a, g, l, w, s) xm xi xw im le nu rf ln nn vp xn xc vs))) (fun f => rfl) ?_
  refine mr_t (C := (nI p) = (nI p)) ((nI_eq (a := p) (b := p) (by omega) (by omega)).mpr (by omega)) (fun f => rfl) ?_
  refine mr_seg 6 (pc1 := 42) (ls1 := [some (.ref 138), some (.int (nI p)), some (.int (nI p)), some (.int z), some (.int (-1)), none, none, none]) (st1 := [.int (-1), .ref 138]) (M1 := (mk_M c n m kk (rT (he, ke, ki, fi, fa, or, mi, a, g, l, w, s) xm xi xw im le nu rf ln nn vp xn xc vs))) (fun f => rfl) ?_
  refine mr_call (y := 130) (y0 := 45) (L := [some (.ref 138), some (.int (-1))]) (rest := []) (rr := some (.int (-1))) (M1 := (mk_M c n m kk (rT (he, ke, ki, fi, fa, or, mi, a, g, l, w, s) xm xi xw im le nu (rf.set 1 (kg rf 1 + 1)) ln nn vp xn xc vs))) (fun f => rfl) (by
      refine mr_seg 5 (pc1 := 7) (ls1 := [some (.ref 138), some (.int (-1))]) (st1 := [.int 1, .ref 145, .int 1, .ref 145]) (M1 := (mk_M c n m kk (rT (he, ke, ki, fi, fa, or, mi, a, g, l, w, s) xm xi xw im le nu rf ln nn vp xn xc vs))) (fun f => rfl) ?_
      refine mr_ldn (xs := (rf.map nI)) rfl rfl (k := 1) (by omega) (kg_ok (by omega)) ?_
      refine mr_seg 2 (pc1 := 10) (ls1 := [some (.ref 138), some (.int (-1))]) (st1 := [.int ((nI (kg rf 1)) + 1), .int 1, .ref 145]) (M1 := (mk_M c n m kk (rT (he, ke, ki, fi, fa, or, mi, a, g, l, w, s) xm xi xw im le nu rf ln nn vp xn xc vs))) (fun f => rfl) ?_
      refine mr_v (nI_add (kg rf 1) 1) ?_
      refine mr_stn (xs := (rf.map nI)) (ys := ((rf.set 1 (kg rf 1 + 1)).map nI)) (M2 := (mk_M c n m kk (rT (he, ke, ki, fi, fa, or, mi, a, g, l, w, s) xm xi xw im le nu (rf.set 1 (kg rf 1 + 1)) ln nn vp xn xc vs))) rfl rfl (k := 1) (by omega) (by simp only [List.length_map, List.length_set]; omega) ks_ok rfl ?_
      exact mr_ret 2 (fun f => rfl)) ?_
  exact mr_ret 1 (fun f => rfl)
theorem oe_two_4 (he ke ki fi fa or : List Nat) (mi a g l w s : Nat) (m : kG) (kk : kG) (im : Nat) (le : List Nat) (ln : Nat) (ys : List Int32) (vt : Int32) (nu : List Nat) (nn : Nat) (rf : List Nat) (vw : Int32) (vq : Int32) (yc : List Int32) (yh : List Int32) (yg : List Int32) (xm : List Int32) (xi : List Int32) (xw : List Int32) (vp : Int32) (xn : List Int32) (xc : List Int32) (vs : Int32) (hA : iA (he, ke, ki, fi, fa, or, mi, a, g, l, w, s)) (hB : iB le ln) (hC : iC nu nn) (hD : iD rf) (hJ : iJ m ys yc yh yg) (hR : iR xm xw xn xc) (hK : iK im kk xi) (p : Nat) (hp : p < mi) (z : Int32) : oI 105 195 [some (.ref 100), some (.int (nI p)), some (.int (nI p)), some (.int z), none, none, none] [some (.ref 138), some (.int (nI p)), some (.int (nI p)), some (.int z), none, none, none, none] (mk_M (cT im le ln ys vt nu nn rf vw vq yc yh yg) (kr (he, ke, ki, fi, fa, or, mi, a, g, l, w, s)) m kk (rT (he, ke, ki, fi, fa, or, mi, a, g, l, w, s) xm xi xw im le nu rf ln nn vp xn xc vs)) := by
  exact ⟨(-1), _, _, oc_two_4 he ke ki fi fa or mi a g l w s im le ln ys vt nu nn rf vw vq yc yh yg m kk _ hA hB hC hD hJ hK.1 p hp z, om_two_4 he ke ki fi fa or mi a g l w s xm xi xw im le nu rf ln nn vp xn xc vs _ _ _ _ hA hB hC hD hR hK.2.1 p hp z, (he, ke, ki, fi, fa, or, mi, a, g, l, w, s), m, kk, im, le, ln, ys, vt, nu, nn, (rf.set 1 (kg rf 1 + 1)), vw, vq, yc, yh, yg, xm, xi, xw, vp, xn, xc, vs, rfl, hA, hB, hC, iD_s hD, hJ, hR, hK⟩
set_option maxRecDepth 100000 in
theorem oc_two_5 (he ke ki fi fa or : List Nat) (mi a g l w s : Nat) (im : Nat) (le : List Nat) (ln : Nat) (ys : List Int32) (vt : Int32) (nu : List Nat) (nn : Nat) (rf : List Nat) (vw vq : Int32) (yc yh yg : List Int32) (m kk : kG) (q : cR) (hA : iA (he, ke, ki, fi, fa, or, mi, a, g, l, w, s)) (hB : iB le ln) (hC : iC nu nn) (hD : iD rf) (hJ : iJ m ys yc yh yg) (k0 : kSh kk) (p : Nat) (hp : p < mi) (r : Nat) (hr : r < mi) (hne : ¬ p = r) (z : Int32) (hzu : z.toInt ≤ -1) : mm_R 105 0 [some (.ref 100), some (.int (nI p)), some (.int (nI r)), some (.int z), none, none, none] [] (mk_M (cT im le ln ys vt nu nn rf vw vq yc yh yg) (kr (he, ke, ki, fi, fa, or, mi, a, g, l, w, s)) m kk q) (some (.int (-4)), (mk_M (cT im le ln ys vt nu nn (rf.set 4 (kg rf 4 + 1)) vw vq yc yh yg) (kr (he, ke, ki, fi, fa, or, mi, a, g, l, w, s)) m kk q)) := by
  obtain ⟨hV, hst⟩ := id hA
  have hst2 : s ≤ 999 := hst
  obtain ⟨v1, v2, v3, v4, v5, v6, v7, v8, v9, v10, v11, v12, v13, v14, v15, v16⟩ := id hV
  have v6l := kO_len mi v7 or v6
  obtain ⟨b1, b2, b3⟩ := id hB
  obtain ⟨c1, c2, c3⟩ := id hC
  have d1 : rf.length = 7 := hD
  obtain ⟨j0, j1, j2, j3, j4⟩ := id hJ
  refine mr_seg 2 (pc1 := 2) (ls1 := [some (.ref 100), some (.int (nI p)), some (.int (nI r)), some (.int z), none, none, none]) (st1 := [.int (nI p), .ref 100]) (M1 := (mk_M (cT im le ln ys vt nu nn rf vw vq yc yh yg) (kr (he, ke, ki, fi, fa, or, mi, a, g, l, w, s)) m kk q)) (fun f => rfl) ?_
  refine mr_call (y := 61) (y0 := 5) (L := [some (.ref 100), some (.int (nI p))]) (rest := []) (rr := some (.int 1)) (M1 := (mk_M (cT im le ln ys vt nu nn rf vw vq yc yh yg) (kr (he, ke, ki, fi, fa, or, mi, a, g, l, w, s)) m kk q)) (fun f => rfl) (by
      refine mr_seg 1 (pc1 := 1) (ls1 := [some (.ref 100), some (.int (nI p))]) (st1 := [.int (nI p)]) (M1 := (mk_M (cT im le ln ys vt nu nn rf vw vq yc yh yg) (kr (he, ke, ki, fi, fa, or, mi, a, g, l, w, s)) m kk q)) (fun f => rfl) ?_
      refine mr_f (C := (nI p) < 0) (fun e_ => absurd ((nI_ltI (a := p) (b := 0) (by omega) (by omega)).mp e_) (by omega)) (fun f => rfl) ?_
      refine mr_seg 4 (pc1 := 12) (ls1 := [some (.ref 100), some (.int (nI p))]) (st1 := [.int (nI mi), .int (nI p)]) (M1 := (mk_M (cT im le ln ys vt nu nn rf vw vq yc yh yg) (kr (he, ke, ki, fi, fa, or, mi, a, g, l, w, s)) m kk q)) (fun f => rfl) ?_
      refine mr_f (C := (nI mi) ≤ (nI p)) (fun e_ => absurd ((nI_leI (a := mi) (b := p) (by omega) (by omega)).mp e_) (by omega)) (fun f => rfl) ?_
      exact mr_ret 3 (fun f => rfl)) ?_
  refine mr_seg 3 (pc1 := 10) (ls1 := [some (.ref 100), some (.int (nI p)), some (.int (nI r)), some (.int z), none, none, none]) (st1 := [.int (nI r), .ref 100]) (M1 := (mk_M (cT im le ln ys vt nu nn rf vw vq yc yh yg) (kr (he, ke, ki, fi, fa, or, mi, a, g, l, w, s)) m kk q)) (fun f => rfl) ?_
  refine mr_call (y := 61) (y0 := 13) (L := [some (.ref 100), some (.int (nI r))]) (rest := []) (rr := some (.int 1)) (M1 := (mk_M (cT im le ln ys vt nu nn rf vw vq yc yh yg) (kr (he, ke, ki, fi, fa, or, mi, a, g, l, w, s)) m kk q)) (fun f => rfl) (by
      refine mr_seg 1 (pc1 := 1) (ls1 := [some (.ref 100), some (.int (nI r))]) (st1 := [.int (nI r)]) (M1 := (mk_M (cT im le ln ys vt nu nn rf vw vq yc yh yg) (kr (he, ke, ki, fi, fa, or, mi, a, g, l, w, s)) m kk q)) (fun f => rfl) ?_
      refine mr_f (C := (nI r) < 0) (fun e_ => absurd ((nI_ltI (a := r) (b := 0) (by omega) (by omega)).mp e_) (by omega)) (fun f => rfl) ?_
      refine mr_seg 4 (pc1 := 12) (ls1 := [some (.ref 100), some (.int (nI r))]) (st1 := [.int (nI mi), .int (nI r)]) (M1 := (mk_M (cT im le ln ys vt nu nn rf vw vq yc yh yg) (kr (he, ke, ki, fi, fa, or, mi, a, g, l, w, s)) m kk q)) (fun f => rfl) ?_
      refine mr_f (C := (nI mi) ≤ (nI r)) (fun e_ => absurd ((nI_leI (a := mi) (b := r) (by omega) (by omega)).mp e_) (by omega)) (fun f => rfl) ?_
      exact mr_ret 3 (fun f => rfl)) ?_
  refine mr_seg 3 (pc1 := 18) (ls1 := [some (.ref 100), some (.int (nI p)), some (.int (nI r)), some (.int z), none, none, none]) (st1 := [.int (nI r), .int (nI p)]) (M1 := (mk_M (cT im le ln ys vt nu nn rf vw vq yc yh yg) (kr (he, ke, ki, fi, fa, or, mi, a, g, l, w, s)) m kk q)) (fun f => rfl) ?_
  refine mr_f (C := (nI p) = (nI r)) (fun e_ => absurd ((nI_eq (a := p) (b := r) (by omega) (by omega)).mp e_) (hne)) (fun f => rfl) ?_
  refine mr_seg 1 (pc1 := 28) (ls1 := [some (.ref 100), some (.int (nI p)), some (.int (nI r)), some (.int z), none, none, none]) (st1 := [.int z]) (M1 := (mk_M (cT im le ln ys vt nu nn rf vw vq yc yh yg) (kr (he, ke, ki, fi, fa, or, mi, a, g, l, w, s)) m kk q)) (fun f => rfl) ?_
  refine mr_f (C := 0 ≤ z) (mz_ge_f 0 (by decide) (by omega)) (fun f => rfl) ?_
  refine mr_seg 2 (pc1 := 34) (ls1 := [some (.ref 100), some (.int (nI p)), some (.int (nI r)), some (.int z), none, none, none]) (st1 := [.int (-4), .ref 100]) (M1 := (mk_M (cT im le ln ys vt nu nn rf vw vq yc yh yg) (kr (he, ke, ki, fi, fa, or, mi, a, g, l, w, s)) m kk q)) (fun f => rfl) ?_
  refine mr_call (y := 12) (y0 := 37) (L := [some (.ref 100), some (.int (-4))]) (rest := []) (rr := some (.int (-4))) (M1 := (mk_M (cT im le ln ys vt nu nn (rf.set 4 (kg rf 4 + 1)) vw vq yc yh yg) (kr (he, ke, ki, fi, fa, or, mi, a, g, l, w, s)) m kk q)) (fun f => rfl) (by
      refine mr_seg 5 (pc1 := 7) (ls1 := [some (.ref 100), some (.int (-4))]) (st1 := [.int 4, .ref 105, .int 4, .ref 105]) (M1 := (mk_M (cT im le ln ys vt nu nn rf vw vq yc yh yg) (kr (he, ke, ki, fi, fa, or, mi, a, g, l, w, s)) m kk q)) (fun f => rfl) ?_
      refine mr_ldn (xs := (rf.map nI)) rfl rfl (k := 4) (by omega) (kg_ok (by omega)) ?_
      refine mr_seg 2 (pc1 := 10) (ls1 := [some (.ref 100), some (.int (-4))]) (st1 := [.int ((nI (kg rf 4)) + 1), .int 4, .ref 105]) (M1 := (mk_M (cT im le ln ys vt nu nn rf vw vq yc yh yg) (kr (he, ke, ki, fi, fa, or, mi, a, g, l, w, s)) m kk q)) (fun f => rfl) ?_
      refine mr_v (nI_add (kg rf 4) 1) ?_
      refine mr_stn (xs := (rf.map nI)) (ys := ((rf.set 4 (kg rf 4 + 1)).map nI)) (M2 := (mk_M (cT im le ln ys vt nu nn (rf.set 4 (kg rf 4 + 1)) vw vq yc yh yg) (kr (he, ke, ki, fi, fa, or, mi, a, g, l, w, s)) m kk q)) rfl rfl (k := 4) (by omega) (by simp only [List.length_map, List.length_set]; omega) ks_ok rfl ?_
      exact mr_ret 2 (fun f => rfl)) ?_
  exact mr_ret 1 (fun f => rfl)
set_option maxRecDepth 100000 in
theorem om_two_5 (he ke ki fi fa or : List Nat) (mi a g l w s : Nat) (xm xi xw : List Int32) (im : Nat) (le nu rf : List Nat) (ln nn : Nat) (vp : Int32) (xn xc : List Int32) (vs : Int32) (c : cC) (n m kk : kG) (hA : iA (he, ke, ki, fi, fa, or, mi, a, g, l, w, s)) (hB : iB le ln) (hC : iC nu nn) (hD : iD rf) (hR : iR xm xw xn xc) (k1 : xi.length = 52) (p : Nat) (hp : p < mi) (r : Nat) (hr : r < mi) (hne : ¬ p = r) (z : Int32) (hzu : z.toInt ≤ -1) : mm_R 195 0 [some (.ref 138), some (.int (nI p)), some (.int (nI r)), some (.int z), none, none, none, none] [] (mk_M c n m kk (rT (he, ke, ki, fi, fa, or, mi, a, g, l, w, s) xm xi xw im le nu rf ln nn vp xn xc vs)) (some (.int (-4)), (mk_M c n m kk (rT (he, ke, ki, fi, fa, or, mi, a, g, l, w, s) xm xi xw im le nu (rf.set 4 (kg rf 4 + 1)) ln nn vp xn xc vs))) := by
  obtain ⟨hV, hst⟩ := id hA
  have hst2 : s ≤ 999 := hst
  obtain ⟨v1, v2, v3, v4, v5, v6, v7, v8, v9, v10, v11, v12, v13, v14, v15, v16⟩ := id hV
  have v6l := kO_len mi v7 or v6
  obtain ⟨b1, b2, b3⟩ := id hB
  obtain ⟨c1, c2, c3⟩ := id hC
  have d1 : rf.length = 7 := hD
  obtain ⟨r1, r2, r3, r4⟩ := id hR
  refine mr_seg 2 (pc1 := 2) (ls1 := [some (.ref 138), some (.int (nI p)), some (.int (nI r)), some (.int z), none, none, none, none]) (st1 := [.int (nI p), .ref 138]) (M1 := (mk_M c n m kk (rT (he, ke, ki, fi, fa, or, mi, a, g, l, w, s) xm xi xw im le nu rf ln nn vp xn xc vs))) (fun f => rfl) ?_
  refine mr_call (y := 142) (y0 := 5) (L := [some (.ref 138), some (.int (nI p))]) (rest := []) (rr := some (.int 1)) (M1 := (mk_M c n m kk (rT (he, ke, ki, fi, fa, or, mi, a, g, l, w, s) xm xi xw im le nu rf ln nn vp xn xc vs))) (fun f => rfl) (by
      refine mr_seg 5 (pc1 := 7) (ls1 := [some (.ref 138), some (.int (nI p))]) (st1 := [.int 0, .ref 139, .int 0, .int (nI p)]) (M1 := (mk_M c n m kk (rT (he, ke, ki, fi, fa, or, mi, a, g, l, w, s) xm xi xw im le nu rf ln nn vp xn xc vs))) (fun f => rfl) ?_
      refine mr_ldn (xs := (er (he, ke, ki, fi, fa, or, mi, a, g, l, w, s))) rfl rfl (k := 0) (by decide) rfl ?_
      refine mr_seg 2 (pc1 := 10) (ls1 := [some (.ref 138), some (.int (nI p))]) (st1 := [.int ((nI mi) - 1), .int 0, .int (nI p)]) (M1 := (mk_M c n m kk (rT (he, ke, ki, fi, fa, or, mi, a, g, l, w, s) xm xi xw im le nu rf ln nn vp xn xc vs))) (fun f => rfl) ?_
      refine mr_v (pk_sub (a := mi) (b := 1) (by omega)) ?_
      refine mr_call (y := 135) (y0 := 13) (L := [some (.int (nI p)), some (.int 0), some (.int (nI (mi - 1)))]) (rest := []) (rr := some (.int 1)) (M1 := (mk_M c n m kk (rT (he, ke, ki, fi, fa, or, mi, a, g, l, w, s) xm xi xw im le nu rf ln nn vp xn xc vs))) (fun f => rfl) (by
          refine mr_seg 2 (pc1 := 2) (ls1 := [some (.int (nI p)), some (.int 0), some (.int (nI (mi - 1)))]) (st1 := [.int 0, .int (nI p)]) (M1 := (mk_M c n m kk (rT (he, ke, ki, fi, fa, or, mi, a, g, l, w, s) xm xi xw im le nu rf ln nn vp xn xc vs))) (fun f => rfl) ?_
          refine mr_f (C := (nI p) < 0) (fun e_ => absurd ((nI_ltI (a := p) (b := 0) (by omega) (by omega)).mp e_) (by omega)) (fun f => rfl) ?_
          refine mr_seg 2 (pc1 := 7) (ls1 := [some (.int (nI p)), some (.int 0), some (.int (nI (mi - 1)))]) (st1 := [.int (nI (mi - 1)), .int (nI p)]) (M1 := (mk_M c n m kk (rT (he, ke, ki, fi, fa, or, mi, a, g, l, w, s) xm xi xw im le nu rf ln nn vp xn xc vs))) (fun f => rfl) ?_
          refine mr_f (C := (nI (mi - 1)) < (nI p)) (fun e_ => absurd ((nI_ltI (a := mi - 1) (b := p) (by omega) (by omega)).mp e_) (by omega)) (fun f => rfl) ?_
          exact mr_ret 3 (fun f => rfl)) ?_
      exact mr_ret 1 (fun f => rfl)) ?_
  refine mr_seg 3 (pc1 := 10) (ls1 := [some (.ref 138), some (.int (nI p)), some (.int (nI r)), some (.int z), none, none, none, none]) (st1 := [.int (nI r), .ref 138]) (M1 := (mk_M c n m kk (rT (he, ke, ki, fi, fa, or, mi, a, g, l, w, s) xm xi xw im le nu rf ln nn vp xn xc vs))) (fun f => rfl) ?_
  refine mr_call (y := 142) (y0 := 13) (L := [some (.ref 138), some (.int (nI r))]) (rest := []) (rr := some (.int 1)) (M1 := (mk_M c n m kk (rT (he, ke, ki, fi, fa, or, mi, a, g, l, w, s) xm xi xw im le nu rf ln nn vp xn xc vs))) (fun f => rfl) (by
      refine mr_seg 5 (pc1 := 7) (ls1 := [some (.ref 138), some (.int (nI r))]) (st1 := [.int 0, .ref 139, .int 0, .int (nI r)]) (M1 := (mk_M c n m kk (rT (he, ke, ki, fi, fa, or, mi, a, g, l, w, s) xm xi xw im le nu rf ln nn vp xn xc vs))) (fun f => rfl) ?_
      refine mr_ldn (xs := (er (he, ke, ki, fi, fa, or, mi, a, g, l, w, s))) rfl rfl (k := 0) (by decide) rfl ?_
      refine mr_seg 2 (pc1 := 10) (ls1 := [some (.ref 138), some (.int (nI r))]) (st1 := [.int ((nI mi) - 1), .int 0, .int (nI r)]) (M1 := (mk_M c n m kk (rT (he, ke, ki, fi, fa, or, mi, a, g, l, w, s) xm xi xw im le nu rf ln nn vp xn xc vs))) (fun f => rfl) ?_
      refine mr_v (pk_sub (a := mi) (b := 1) (by omega)) ?_
      refine mr_call (y := 135) (y0 := 13) (L := [some (.int (nI r)), some (.int 0), some (.int (nI (mi - 1)))]) (rest := []) (rr := some (.int 1)) (M1 := (mk_M c n m kk (rT (he, ke, ki, fi, fa, or, mi, a, g, l, w, s) xm xi xw im le nu rf ln nn vp xn xc vs))) (fun f => rfl) (by
          refine mr_seg 2 (pc1 := 2) (ls1 := [some (.int (nI r)), some (.int 0), some (.int (nI (mi - 1)))]) (st1 := [.int 0, .int (nI r)]) (M1 := (mk_M c n m kk (rT (he, ke, ki, fi, fa, or, mi, a, g, l, w, s) xm xi xw im le nu rf ln nn vp xn xc vs))) (fun f => rfl) ?_
          refine mr_f (C := (nI r) < 0) (fun e_ => absurd ((nI_ltI (a := r) (b := 0) (by omega) (by omega)).mp e_) (by omega)) (fun f => rfl) ?_
          refine mr_seg 2 (pc1 := 7) (ls1 := [some (.int (nI r)), some (.int 0), some (.int (nI (mi - 1)))]) (st1 := [.int (nI (mi - 1)), .int (nI r)]) (M1 := (mk_M c n m kk (rT (he, ke, ki, fi, fa, or, mi, a, g, l, w, s) xm xi xw im le nu rf ln nn vp xn xc vs))) (fun f => rfl) ?_
          refine mr_f (C := (nI (mi - 1)) < (nI r)) (fun e_ => absurd ((nI_ltI (a := mi - 1) (b := r) (by omega) (by omega)).mp e_) (by omega)) (fun f => rfl) ?_
          exact mr_ret 3 (fun f => rfl)) ?_
      exact mr_ret 1 (fun f => rfl)) ?_
  refine mr_seg 3 (pc1 := 18) (ls1 := [some (.ref 138), some (.int (nI p)), some (.int (nI r)), some (.int z), none, none, none, none]) (st1 := [.int (nI r), .int (nI p)]) (M1 := (mk_M c n m kk (rT (he, ke, ki, fi, fa, or, mi, a, g, l, w, s) xm xi xw im le nu rf ln nn vp xn xc vs))) (fun f => rfl) ?_
  refine mr_f (C := (nI p) = (nI r)) (fun e_ => absurd ((nI_eq (a := p) (b := r) (by omega) (by omega)).mp e_) (hne)) (fun f => rfl) ?_
  refine mr_seg 3 (pc1 := 25) (ls1 := [some (.ref 138), some (.int (nI p)), some (.int (nI r)), some (.int z), none, none, none, none]) (st1 := [.int 30, .int 0, .int z]) (M1 := (mk_M c n m kk (rT (he, ke, ki, fi, fa, or, mi, a, g, l, w, s) xm xi xw im le nu rf ln nn vp xn xc vs))) (fun f => rfl) ?_
  refine mr_call (y := 159) (y0 := 28) (L := [some (.int z), some (.int 0), some (.int 30)]) (rest := []) (rr := some (.int (-4))) (M1 := (mk_M c n m kk (rT (he, ke, ki, fi, fa, or, mi, a, g, l, w, s) xm xi xw im le nu rf ln nn vp xn xc vs))) (fun f => rfl) (by
      refine mr_seg 2 (pc1 := 2) (ls1 := [some (.int z), some (.int 0), some (.int 30)]) (st1 := [.int 0, .int z]) (M1 := (mk_M c n m kk (rT (he, ke, ki, fi, fa, or, mi, a, g, l, w, s) xm xi xw im le nu rf ln nn vp xn xc vs))) (fun f => rfl) ?_
      refine mr_f (C := 0 ≤ z) (mz_ge_f 0 (by decide) (by omega)) (fun f => rfl) ?_
      exact mr_ret 3 (fun f => rfl)) ?_
  refine mr_seg 6 (pc1 := 42) (ls1 := [some (.ref 138), some (.int (nI p)), some (.int (nI r)), some (.int z), some (.int (-4)), none, none, none]) (st1 := [.int (-4), .ref 138]) (M1 := (mk_M c n m kk (rT (he, ke, ki, fi, fa, or, mi, a, g, l, w, s) xm xi xw im le nu rf ln nn vp xn xc vs))) (fun f => rfl) ?_
  refine mr_call (y := 130) (y0 := 45) (L := [some (.ref 138), some (.int (-4))]) (rest := []) (rr := some (.int (-4))) (M1 := (mk_M c n m kk (rT (he, ke, ki, fi, fa, or, mi, a, g, l, w, s) xm xi xw im le nu (rf.set 4 (kg rf 4 + 1)) ln nn vp xn xc vs))) (fun f => rfl) (by
      refine mr_seg 5 (pc1 := 7) (ls1 := [some (.ref 138), some (.int (-4))]) (st1 := [.int 4, .ref 145, .int 4, .ref 145]) (M1 := (mk_M c n m kk (rT (he, ke, ki, fi, fa, or, mi, a, g, l, w, s) xm xi xw im le nu rf ln nn vp xn xc vs))) (fun f => rfl) ?_
      refine mr_ldn (xs := (rf.map nI)) rfl rfl (k := 4) (by omega) (kg_ok (by omega)) ?_
      refine mr_seg 2 (pc1 := 10) (ls1 := [some (.ref 138), some (.int (-4))]) (st1 := [.int ((nI (kg rf 4)) + 1), .int 4, .ref 145]) (M1 := (mk_M c n m kk (rT (he, ke, ki, fi, fa, or, mi, a, g, l, w, s) xm xi xw im le nu rf ln nn vp xn xc vs))) (fun f => rfl) ?_
      refine mr_v (nI_add (kg rf 4) 1) ?_
      refine mr_stn (xs := (rf.map nI)) (ys := ((rf.set 4 (kg rf 4 + 1)).map nI)) (M2 := (mk_M c n m kk (rT (he, ke, ki, fi, fa, or, mi, a, g, l, w, s) xm xi xw im le nu (rf.set 4 (kg rf 4 + 1)) ln nn vp xn xc vs))) rfl rfl (k := 4) (by omega) (by simp only [List.length_map, List.length_set]; omega) ks_ok rfl ?_
      exact mr_ret 2 (fun f => rfl)) ?_
  exact mr_ret 1 (fun f => rfl)
theorem oe_two_5 (he ke ki fi fa or : List Nat) (mi a g l w s : Nat) (m : kG) (kk : kG) (im : Nat) (le : List Nat) (ln : Nat) (ys : List Int32) (vt : Int32) (nu : List Nat) (nn : Nat) (rf : List Nat) (vw : Int32) (vq : Int32) (yc : List Int32) (yh : List Int32) (yg : List Int32) (xm : List Int32) (xi : List Int32) (xw : List Int32) (vp : Int32) (xn : List Int32) (xc : List Int32) (vs : Int32) (hA : iA (he, ke, ki, fi, fa, or, mi, a, g, l, w, s)) (hB : iB le ln) (hC : iC nu nn) (hD : iD rf) (hJ : iJ m ys yc yh yg) (hR : iR xm xw xn xc) (hK : iK im kk xi) (p : Nat) (hp : p < mi) (r : Nat) (hr : r < mi) (hne : ¬ p = r) (z : Int32) (hzu : z.toInt ≤ -1) : oI 105 195 [some (.ref 100), some (.int (nI p)), some (.int (nI r)), some (.int z), none, none, none] [some (.ref 138), some (.int (nI p)), some (.int (nI r)), some (.int z), none, none, none, none] (mk_M (cT im le ln ys vt nu nn rf vw vq yc yh yg) (kr (he, ke, ki, fi, fa, or, mi, a, g, l, w, s)) m kk (rT (he, ke, ki, fi, fa, or, mi, a, g, l, w, s) xm xi xw im le nu rf ln nn vp xn xc vs)) := by
  exact ⟨(-4), _, _, oc_two_5 he ke ki fi fa or mi a g l w s im le ln ys vt nu nn rf vw vq yc yh yg m kk _ hA hB hC hD hJ hK.1 p hp r hr hne z hzu, om_two_5 he ke ki fi fa or mi a g l w s xm xi xw im le nu rf ln nn vp xn xc vs _ _ _ _ hA hB hC hD hR hK.2.1 p hp r hr hne z hzu, (he, ke, ki, fi, fa, or, mi, a, g, l, w, s), m, kk, im, le, ln, ys, vt, nu, nn, (rf.set 4 (kg rf 4 + 1)), vw, vq, yc, yh, yg, xm, xi, xw, vp, xn, xc, vs, rfl, hA, hB, hC, iD_s hD, hJ, hR, hK⟩
set_option maxRecDepth 100000 in
theorem oc_two_6 (he ke ki fi fa or : List Nat) (mi a g l w s : Nat) (im : Nat) (le : List Nat) (ln : Nat) (ys : List Int32) (vt : Int32) (nu : List Nat) (nn : Nat) (rf : List Nat) (vw vq : Int32) (yc yh yg : List Int32) (m kk : kG) (q : cR) (hA : iA (he, ke, ki, fi, fa, or, mi, a, g, l, w, s)) (hB : iB le ln) (hC : iC nu nn) (hD : iD rf) (hJ : iJ m ys yc yh yg) (k0 : kSh kk) (p : Nat) (hp : p < mi) (r : Nat) (hr : r < mi) (hne : ¬ p = r) (z : Int32) (hzl : 31 ≤ z.toInt) : mm_R 105 0 [some (.ref 100), some (.int (nI p)), some (.int (nI r)), some (.int z), none, none, none] [] (mk_M (cT im le ln ys vt nu nn rf vw vq yc yh yg) (kr (he, ke, ki, fi, fa, or, mi, a, g, l, w, s)) m kk q) (some (.int (-6)), (mk_M (cT im le ln ys vt nu nn (rf.set 6 (kg rf 6 + 1)) vw vq yc yh yg) (kr (he, ke, ki, fi, fa, or, mi, a, g, l, w, s)) m kk q)) := by
  obtain ⟨hV, hst⟩ := id hA
  have hst2 : s ≤ 999 := hst
  obtain ⟨v1, v2, v3, v4, v5, v6, v7, v8, v9, v10, v11, v12, v13, v14, v15, v16⟩ := id hV
  have v6l := kO_len mi v7 or v6
  obtain ⟨b1, b2, b3⟩ := id hB
  obtain ⟨c1, c2, c3⟩ := id hC
  have d1 : rf.length = 7 := hD
  obtain ⟨j0, j1, j2, j3, j4⟩ := id hJ
  refine mr_seg 2 (pc1 := 2) (ls1 := [some (.ref 100), some (.int (nI p)), some (.int (nI r)), some (.int z), none, none, none]) (st1 := [.int (nI p), .ref 100]) (M1 := (mk_M (cT im le ln ys vt nu nn rf vw vq yc yh yg) (kr (he, ke, ki, fi, fa, or, mi, a, g, l, w, s)) m kk q)) (fun f => rfl) ?_
  refine mr_call (y := 61) (y0 := 5) (L := [some (.ref 100), some (.int (nI p))]) (rest := []) (rr := some (.int 1)) (M1 := (mk_M (cT im le ln ys vt nu nn rf vw vq yc yh yg) (kr (he, ke, ki, fi, fa, or, mi, a, g, l, w, s)) m kk q)) (fun f => rfl) (by
      refine mr_seg 1 (pc1 := 1) (ls1 := [some (.ref 100), some (.int (nI p))]) (st1 := [.int (nI p)]) (M1 := (mk_M (cT im le ln ys vt nu nn rf vw vq yc yh yg) (kr (he, ke, ki, fi, fa, or, mi, a, g, l, w, s)) m kk q)) (fun f => rfl) ?_
      refine mr_f (C := (nI p) < 0) (fun e_ => absurd ((nI_ltI (a := p) (b := 0) (by omega) (by omega)).mp e_) (by omega)) (fun f => rfl) ?_
      refine mr_seg 4 (pc1 := 12) (ls1 := [some (.ref 100), some (.int (nI p))]) (st1 := [.int (nI mi), .int (nI p)]) (M1 := (mk_M (cT im le ln ys vt nu nn rf vw vq yc yh yg) (kr (he, ke, ki, fi, fa, or, mi, a, g, l, w, s)) m kk q)) (fun f => rfl) ?_
      refine mr_f (C := (nI mi) ≤ (nI p)) (fun e_ => absurd ((nI_leI (a := mi) (b := p) (by omega) (by omega)).mp e_) (by omega)) (fun f => rfl) ?_
      exact mr_ret 3 (fun f => rfl)) ?_
  refine mr_seg 3 (pc1 := 10) (ls1 := [some (.ref 100), some (.int (nI p)), some (.int (nI r)), some (.int z), none, none, none]) (st1 := [.int (nI r), .ref 100]) (M1 := (mk_M (cT im le ln ys vt nu nn rf vw vq yc yh yg) (kr (he, ke, ki, fi, fa, or, mi, a, g, l, w, s)) m kk q)) (fun f => rfl) ?_
  refine mr_call (y := 61) (y0 := 13) (L := [some (.ref 100), some (.int (nI r))]) (rest := []) (rr := some (.int 1)) (M1 := (mk_M (cT im le ln ys vt nu nn rf vw vq yc yh yg) (kr (he, ke, ki, fi, fa, or, mi, a, g, l, w, s)) m kk q)) (fun f => rfl) (by
      refine mr_seg 1 (pc1 := 1) (ls1 := [some (.ref 100), some (.int (nI r))]) (st1 := [.int (nI r)]) (M1 := (mk_M (cT im le ln ys vt nu nn rf vw vq yc yh yg) (kr (he, ke, ki, fi, fa, or, mi, a, g, l, w, s)) m kk q)) (fun f => rfl) ?_
      refine mr_f (C := (nI r) < 0) (fun e_ => absurd ((nI_ltI (a := r) (b := 0) (by omega) (by omega)).mp e_) (by omega)) (fun f => rfl) ?_
      refine mr_seg 4 (pc1 := 12) (ls1 := [some (.ref 100), some (.int (nI r))]) (st1 := [.int (nI mi), .int (nI r)]) (M1 := (mk_M (cT im le ln ys vt nu nn rf vw vq yc yh yg) (kr (he, ke, ki, fi, fa, or, mi, a, g, l, w, s)) m kk q)) (fun f => rfl) ?_
      refine mr_f (C := (nI mi) ≤ (nI r)) (fun e_ => absurd ((nI_leI (a := mi) (b := r) (by omega) (by omega)).mp e_) (by omega)) (fun f => rfl) ?_
      exact mr_ret 3 (fun f => rfl)) ?_
  refine mr_seg 3 (pc1 := 18) (ls1 := [some (.ref 100), some (.int (nI p)), some (.int (nI r)), some (.int z), none, none, none]) (st1 := [.int (nI r), .int (nI p)]) (M1 := (mk_M (cT im le ln ys vt nu nn rf vw vq yc yh yg) (kr (he, ke, ki, fi, fa, or, mi, a, g, l, w, s)) m kk q)) (fun f => rfl) ?_
  refine mr_f (C := (nI p) = (nI r)) (fun e_ => absurd ((nI_eq (a := p) (b := r) (by omega) (by omega)).mp e_) (hne)) (fun f => rfl) ?_
  refine mr_seg 1 (pc1 := 28) (ls1 := [some (.ref 100), some (.int (nI p)), some (.int (nI r)), some (.int z), none, none, none]) (st1 := [.int z]) (M1 := (mk_M (cT im le ln ys vt nu nn rf vw vq yc yh yg) (kr (he, ke, ki, fi, fa, or, mi, a, g, l, w, s)) m kk q)) (fun f => rfl) ?_
  refine mr_t (C := 0 ≤ z) (mz_ge_t 0 (by decide) (by omega)) (fun f => rfl) ?_
  refine mr_seg 2 (pc1 := 41) (ls1 := [some (.ref 100), some (.int (nI p)), some (.int (nI r)), some (.int z), none, none, none]) (st1 := [.int 30, .int z]) (M1 := (mk_M (cT im le ln ys vt nu nn rf vw vq yc yh yg) (kr (he, ke, ki, fi, fa, or, mi, a, g, l, w, s)) m kk q)) (fun f => rfl) ?_
  refine mr_f (C := z ≤ 30) (mz_le_f 30 (by decide) (by omega)) (fun f => rfl) ?_
  refine mr_seg 2 (pc1 := 47) (ls1 := [some (.ref 100), some (.int (nI p)), some (.int (nI r)), some (.int z), none, none, none]) (st1 := [.int (-6), .ref 100]) (M1 := (mk_M (cT im le ln ys vt nu nn rf vw vq yc yh yg) (kr (he, ke, ki, fi, fa, or, mi, a, g, l, w, s)) m kk q)) (fun f => rfl) ?_
  refine mr_call (y := 12) (y0 := 50) (L := [some (.ref 100), some (.int (-6))]) (rest := []) (rr := some (.int (-6))) (M1 := (mk_M (cT im le ln ys vt nu nn (rf.set 6 (kg rf 6 + 1)) vw vq yc yh yg) (kr (he, ke, ki, fi, fa, or, mi, a, g, l, w, s)) m kk q)) (fun f => rfl) (by
      refine mr_seg 5 (pc1 := 7) (ls1 := [some (.ref 100), some (.int (-6))]) (st1 := [.int 6, .ref 105, .int 6, .ref 105]) (M1 := (mk_M (cT im le ln ys vt nu nn rf vw vq yc yh yg) (kr (he, ke, ki, fi, fa, or, mi, a, g, l, w, s)) m kk q)) (fun f => rfl) ?_
      refine mr_ldn (xs := (rf.map nI)) rfl rfl (k := 6) (by omega) (kg_ok (by omega)) ?_
      refine mr_seg 2 (pc1 := 10) (ls1 := [some (.ref 100), some (.int (-6))]) (st1 := [.int ((nI (kg rf 6)) + 1), .int 6, .ref 105]) (M1 := (mk_M (cT im le ln ys vt nu nn rf vw vq yc yh yg) (kr (he, ke, ki, fi, fa, or, mi, a, g, l, w, s)) m kk q)) (fun f => rfl) ?_
      refine mr_v (nI_add (kg rf 6) 1) ?_
      refine mr_stn (xs := (rf.map nI)) (ys := ((rf.set 6 (kg rf 6 + 1)).map nI)) (M2 := (mk_M (cT im le ln ys vt nu nn (rf.set 6 (kg rf 6 + 1)) vw vq yc yh yg) (kr (he, ke, ki, fi, fa, or, mi, a, g, l, w, s)) m kk q)) rfl rfl (k := 6) (by omega) (by simp only [List.length_map, List.length_set]; omega) ks_ok rfl ?_
      exact mr_ret 2 (fun f => rfl)) ?_
  exact mr_ret 1 (fun f => rfl)
set_option maxRecDepth 100000 in
theorem om_two_6 (he ke ki fi fa or : List Nat) (mi a g l w s : Nat) (xm xi xw : List Int32) (im : Nat) (le nu rf : List Nat) (ln nn : Nat) (vp : Int32) (xn xc : List Int32) (vs : Int32) (c : cC) (n m kk : kG) (hA : iA (he, ke, ki, fi, fa, or, mi, a, g, l, w, s)) (hB : iB le ln) (hC : iC nu nn) (hD : iD rf) (hR : iR xm xw xn xc) (k1 : xi.length = 52) (p : Nat) (hp : p < mi) (r : Nat) (hr : r < mi) (hne : ¬ p = r) (z : Int32) (hzl : 31 ≤ z.toInt) : mm_R 195 0 [some (.ref 138), some (.int (nI p)), some (.int (nI r)), some (.int z), none, none, none, none] [] (mk_M c n m kk (rT (he, ke, ki, fi, fa, or, mi, a, g, l, w, s) xm xi xw im le nu rf ln nn vp xn xc vs)) (some (.int (-6)), (mk_M c n m kk (rT (he, ke, ki, fi, fa, or, mi, a, g, l, w, s) xm xi xw im le nu (rf.set 6 (kg rf 6 + 1)) ln nn vp xn xc vs))) := by
  obtain ⟨hV, hst⟩ := id hA
  have hst2 : s ≤ 999 := hst
  obtain ⟨v1, v2, v3, v4, v5, v6, v7, v8, v9, v10, v11, v12, v13, v14, v15, v16⟩ := id hV
  have v6l := kO_len mi v7 or v6
  obtain ⟨b1, b2, b3⟩ := id hB
  obtain ⟨c1, c2, c3⟩ := id hC
  have d1 : rf.length = 7 := hD
  obtain ⟨r1, r2, r3, r4⟩ := id hR
  refine mr_seg 2 (pc1 := 2) (ls1 := [some (.ref 138), some (.int (nI p)), some (.int (nI r)), some (.int z), none, none, none, none]) (st1 := [.int (nI p), .ref 138]) (M1 := (mk_M c n m kk (rT (he, ke, ki, fi, fa, or, mi, a, g, l, w, s) xm xi xw im le nu rf ln nn vp xn xc vs))) (fun f => rfl) ?_
  refine mr_call (y := 142) (y0 := 5) (L := [some (.ref 138), some (.int (nI p))]) (rest := []) (rr := some (.int 1)) (M1 := (mk_M c n m kk (rT (he, ke, ki, fi, fa, or, mi, a, g, l, w, s) xm xi xw im le nu rf ln nn vp xn xc vs))) (fun f => rfl) (by
      refine mr_seg 5 (pc1 := 7) (ls1 := [some (.ref 138), some (.int (nI p))]) (st1 := [.int 0, .ref 139, .int 0, .int (nI p)]) (M1 := (mk_M c n m kk (rT (he, ke, ki, fi, fa, or, mi, a, g, l, w, s) xm xi xw im le nu rf ln nn vp xn xc vs))) (fun f => rfl) ?_
      refine mr_ldn (xs := (er (he, ke, ki, fi, fa, or, mi, a, g, l, w, s))) rfl rfl (k := 0) (by decide) rfl ?_
      refine mr_seg 2 (pc1 := 10) (ls1 := [some (.ref 138), some (.int (nI p))]) (st1 := [.int ((nI mi) - 1), .int 0, .int (nI p)]) (M1 := (mk_M c n m kk (rT (he, ke, ki, fi, fa, or, mi, a, g, l, w, s) xm xi xw im le nu rf ln nn vp xn xc vs))) (fun f => rfl) ?_
      refine mr_v (pk_sub (a := mi) (b := 1) (by omega)) ?_
      refine mr_call (y := 135) (y0 := 13) (L := [some (.int (nI p)), some (.int 0), some (.int (nI (mi - 1)))]) (rest := []) (rr := some (.int 1)) (M1 := (mk_M c n m kk (rT (he, ke, ki, fi, fa, or, mi, a, g, l, w, s) xm xi xw im le nu rf ln nn vp xn xc vs))) (fun f => rfl) (by
          refine mr_seg 2 (pc1 := 2) (ls1 := [some (.int (nI p)), some (.int 0), some (.int (nI (mi - 1)))]) (st1 := [.int 0, .int (nI p)]) (M1 := (mk_M c n m kk (rT (he, ke, ki, fi, fa, or, mi, a, g, l, w, s) xm xi xw im le nu rf ln nn vp xn xc vs))) (fun f => rfl) ?_
          refine mr_f (C := (nI p) < 0) (fun e_ => absurd ((nI_ltI (a := p) (b := 0) (by omega) (by omega)).mp e_) (by omega)) (fun f => rfl) ?_
          refine mr_seg 2 (pc1 := 7) (ls1 := [some (.int (nI p)), some (.int 0), some (.int (nI (mi - 1)))]) (st1 := [.int (nI (mi - 1)), .int (nI p)]) (M1 := (mk_M c n m kk (rT (he, ke, ki, fi, fa, or, mi, a, g, l, w, s) xm xi xw im le nu rf ln nn vp xn xc vs))) (fun f => rfl) ?_
          refine mr_f (C := (nI (mi - 1)) < (nI p)) (fun e_ => absurd ((nI_ltI (a := mi - 1) (b := p) (by omega) (by omega)).mp e_) (by omega)) (fun f => rfl) ?_
          exact mr_ret 3 (fun f => rfl)) ?_
      exact mr_ret 1 (fun f => rfl)) ?_
  refine mr_seg 3 (pc1 := 10) (ls1 := [some (.ref 138), some (.int (nI p)), some (.int (nI r)), some (.int z), none, none, none, none]) (st1 := [.int (nI r), .ref 138]) (M1 := (mk_M c n m kk (rT (he, ke, ki, fi, fa, or, mi, a, g, l, w, s) xm xi xw im le nu rf ln nn vp xn xc vs))) (fun f => rfl) ?_
  refine mr_call (y := 142) (y0 := 13) (L := [some (.ref 138), some (.int (nI r))]) (rest := []) (rr := some (.int 1)) (M1 := (mk_M c n m kk (rT (he, ke, ki, fi, fa, or, mi, a, g, l, w, s) xm xi xw im le nu rf ln nn vp xn xc vs))) (fun f => rfl) (by
      refine mr_seg 5 (pc1 := 7) (ls1 := [some (.ref 138), some (.int (nI r))]) (st1 := [.int 0, .ref 139, .int 0, .int (nI r)]) (M1 := (mk_M c n m kk (rT (he, ke, ki, fi, fa, or, mi, a, g, l, w, s) xm xi xw im le nu rf ln nn vp xn xc vs))) (fun f => rfl) ?_
      refine mr_ldn (xs := (er (he, ke, ki, fi, fa, or, mi, a, g, l, w, s))) rfl rfl (k := 0) (by decide) rfl ?_
      refine mr_seg 2 (pc1 := 10) (ls1 := [some (.ref 138), some (.int (nI r))]) (st1 := [.int ((nI mi) - 1), .int 0, .int (nI r)]) (M1 := (mk_M c n m kk (rT (he, ke, ki, fi, fa, or, mi, a, g, l, w, s) xm xi xw im le nu rf ln nn vp xn xc vs))) (fun f => rfl) ?_
      refine mr_v (pk_sub (a := mi) (b := 1) (by omega)) ?_
      refine mr_call (y := 135) (y0 := 13) (L := [some (.int (nI r)), some (.int 0), some (.int (nI (mi - 1)))]) (rest := []) (rr := some (.int 1)) (M1 := (mk_M c n m kk (rT (he, ke, ki, fi, fa, or, mi, a, g, l, w, s) xm xi xw im le nu rf ln nn vp xn xc vs))) (fun f => rfl) (by
          refine mr_seg 2 (pc1 := 2) (ls1 := [some (.int (nI r)), some (.int 0), some (.int (nI (mi - 1)))]) (st1 := [.int 0, .int (nI r)]) (M1 := (mk_M c n m kk (rT (he, ke, ki, fi, fa, or, mi, a, g, l, w, s) xm xi xw im le nu rf ln nn vp xn xc vs))) (fun f => rfl) ?_
          refine mr_f (C := (nI r) < 0) (fun e_ => absurd ((nI_ltI (a := r) (b := 0) (by omega) (by omega)).mp e_) (by omega)) (fun f => rfl) ?_
          refine mr_seg 2 (pc1 := 7) (ls1 := [some (.int (nI r)), some (.int 0), some (.int (nI (mi - 1)))]) (st1 := [.int (nI (mi - 1)), .int (nI r)]) (M1 := (mk_M c n m kk (rT (he, ke, ki, fi, fa, or, mi, a, g, l, w, s) xm xi xw im le nu rf ln nn vp xn xc vs))) (fun f => rfl) ?_
          refine mr_f (C := (nI (mi - 1)) < (nI r)) (fun e_ => absurd ((nI_ltI (a := mi - 1) (b := r) (by omega) (by omega)).mp e_) (by omega)) (fun f => rfl) ?_
          exact mr_ret 3 (fun f => rfl)) ?_
      exact mr_ret 1 (fun f => rfl)) ?_
  refine mr_seg 3 (pc1 := 18) (ls1 := [some (.ref 138), some (.int (nI p)), some (.int (nI r)), some (.int z), none, none, none, none]) (st1 := [.int (nI r), .int (nI p)]) (M1 := (mk_M c n m kk (rT (he, ke, ki, fi, fa, or, mi, a, g, l, w, s) xm xi xw im le nu rf ln nn vp xn xc vs))) (fun f => rfl) ?_
  refine mr_f (C := (nI p) = (nI r)) (fun e_ => absurd ((nI_eq (a := p) (b := r) (by omega) (by omega)).mp e_) (hne)) (fun f => rfl) ?_
  refine mr_seg 3 (pc1 := 25) (ls1 := [some (.ref 138), some (.int (nI p)), some (.int (nI r)), some (.int z), none, none, none, none]) (st1 := [.int 30, .int 0, .int z]) (M1 := (mk_M c n m kk (rT (he, ke, ki, fi, fa, or, mi, a, g, l, w, s) xm xi xw im le nu rf ln nn vp xn xc vs))) (fun f => rfl) ?_
  refine mr_call (y := 159) (y0 := 28) (L := [some (.int z), some (.int 0), some (.int 30)]) (rest := []) (rr := some (.int (-6))) (M1 := (mk_M c n m kk (rT (he, ke, ki, fi, fa, or, mi, a, g, l, w, s) xm xi xw im le nu rf ln nn vp xn xc vs))) (fun f => rfl) (by
      refine mr_seg 2 (pc1 := 2) (ls1 := [some (.int z), some (.int 0), some (.int 30)]) (st1 := [.int 0, .int z]) (M1 := (mk_M c n m kk (rT (he, ke, ki, fi, fa, or, mi, a, g, l, w, s) xm xi xw im le nu rf ln nn vp xn xc vs))) (fun f => rfl) ?_
      refine mr_t (C := 0 ≤ z) (mz_ge_t 0 (by decide) (by omega)) (fun f => rfl) ?_
      refine mr_seg 2 (pc1 := 12) (ls1 := [some (.int z), some (.int 0), some (.int 30)]) (st1 := [.int 30, .int z]) (M1 := (mk_M c n m kk (rT (he, ke, ki, fi, fa, or, mi, a, g, l, w, s) xm xi xw im le nu rf ln nn vp xn xc vs))) (fun f => rfl) ?_
      refine mr_f (C := z ≤ 30) (mz_le_f 30 (by decide) (by omega)) (fun f => rfl) ?_
      exact mr_ret 3 (fun f => rfl)) ?_
  refine mr_seg 6 (pc1 := 42) (ls1 := [some (.ref 138), some (.int (nI p)), some (.int (nI r)), some (.int z), some (.int (-6)), none, none, none]) (st1 := [.int (-6), .ref 138]) (M1 := (mk_M c n m kk (rT (he, ke, ki, fi, fa, or, mi, a, g, l, w, s) xm xi xw im le nu rf ln nn vp xn xc vs))) (fun f => rfl) ?_
  refine mr_call (y := 130) (y0 := 45) (L := [some (.ref 138), some (.int (-6))]) (rest := []) (rr := some (.int (-6))) (M1 := (mk_M c n m kk (rT (he, ke, ki, fi, fa, or, mi, a, g, l, w, s) xm xi xw im le nu (rf.set 6 (kg rf 6 + 1)) ln nn vp xn xc vs))) (fun f => rfl) (by
      refine mr_seg 5 (pc1 := 7) (ls1 := [some (.ref 138), some (.int (-6))]) (st1 := [.int 6, .ref 145, .int 6, .ref 145]) (M1 := (mk_M c n m kk (rT (he, ke, ki, fi, fa, or, mi, a, g, l, w, s) xm xi xw im le nu rf ln nn vp xn xc vs))) (fun f => rfl) ?_
      refine mr_ldn (xs := (rf.map nI)) rfl rfl (k := 6) (by omega) (kg_ok (by omega)) ?_
      refine mr_seg 2 (pc1 := 10) (ls1 := [some (.ref 138), some (.int (-6))]) (st1 := [.int ((nI (kg rf 6)) + 1), .int 6, .ref 145]) (M1 := (mk_M c n m kk (rT (he, ke, ki, fi, fa, or, mi, a, g, l, w, s) xm xi xw im le nu rf ln nn vp xn xc vs))) (fun f => rfl) ?_
      refine mr_v (nI_add (kg rf 6) 1) ?_
      refine mr_stn (xs := (rf.map nI)) (ys := ((rf.set 6 (kg rf 6 + 1)).map nI)) (M2 := (mk_M c n m kk (rT (he, ke, ki, fi, fa, or, mi, a, g, l, w, s) xm xi xw im le nu (rf.set 6 (kg rf 6 + 1)) ln nn vp xn xc vs))) rfl rfl (k := 6) (by omega) (by simp only [List.length_map, List.length_set]; omega) ks_ok rfl ?_
      exact mr_ret 2 (fun f => rfl)) ?_
  exact mr_ret 1 (fun f => rfl)
theorem oe_two_6 (he ke ki fi fa or : List Nat) (mi a g l w s : Nat) (m : kG) (kk : kG) (im : Nat) (le : List Nat) (ln : Nat) (ys : List Int32) (vt : Int32) (nu : List Nat) (nn : Nat) (rf : List Nat) (vw : Int32) (vq : Int32) (yc : List Int32) (yh : List Int32) (yg : List Int32) (xm : List Int32) (xi : List Int32) (xw : List Int32) (vp : Int32) (xn : List Int32) (xc : List Int32) (vs : Int32) (hA : iA (he, ke, ki, fi, fa, or, mi, a, g, l, w, s)) (hB : iB le ln) (hC : iC nu nn) (hD : iD rf) (hJ : iJ m ys yc yh yg) (hR : iR xm xw xn xc) (hK : iK im kk xi) (p : Nat) (hp : p < mi) (r : Nat) (hr : r < mi) (hne : ¬ p = r) (z : Int32) (hzl : 31 ≤ z.toInt) : oI 105 195 [some (.ref 100), some (.int (nI p)), some (.int (nI r)), some (.int z), none, none, none] [some (.ref 138), some (.int (nI p)), some (.int (nI r)), some (.int z), none, none, none, none] (mk_M (cT im le ln ys vt nu nn rf vw vq yc yh yg) (kr (he, ke, ki, fi, fa, or, mi, a, g, l, w, s)) m kk (rT (he, ke, ki, fi, fa, or, mi, a, g, l, w, s) xm xi xw im le nu rf ln nn vp xn xc vs)) := by
  exact ⟨(-6), _, _, oc_two_6 he ke ki fi fa or mi a g l w s im le ln ys vt nu nn rf vw vq yc yh yg m kk _ hA hB hC hD hJ hK.1 p hp r hr hne z hzl, om_two_6 he ke ki fi fa or mi a g l w s xm xi xw im le nu rf ln nn vp xn xc vs _ _ _ _ hA hB hC hD hR hK.2.1 p hp r hr hne z hzl, (he, ke, ki, fi, fa, or, mi, a, g, l, w, s), m, kk, im, le, ln, ys, vt, nu, nn, (rf.set 6 (kg rf 6 + 1)), vw, vq, yc, yh, yg, xm, xi, xw, vp, xn, xc, vs, rfl, hA, hB, hC, iD_s hD, hJ, hR, hK⟩
set_option maxRecDepth 100000 in
theorem oc_plank_0 (he ke ki fi fa or : List Nat) (mi a g l w s : Nat) (im : Nat) (le : List Nat) (ln : Nat) (ys : List Int32) (vt : Int32) (nu : List Nat) (nn : Nat) (rf : List Nat) (vw vq : Int32) (yc yh yg : List Int32) (m kk : kG) (q : cR) (hA : iA (he, ke, ki, fi, fa, or, mi, a, g, l, w, s)) (hB : iB le ln) (hC : iC nu nn) (hD : iD rf) (hJ : iJ m ys yc yh yg) (k0 : kSh kk) (x : Int32) (hxu : x.toInt ≤ -1) (y : Int32) (z : Int32) (t : Int32) : mm_R 107 0 [some (.ref 100), some (.int x), some (.int y), some (.int z), some (.int t), none, none, none] [] (mk_M (cT im le ln ys vt nu nn rf vw vq yc yh yg) (kr (he, ke, ki, fi, fa, or, mi, a, g, l, w, s)) m kk q) (some (.long 4000000000000000001), (mk_M (cT im le ln ys vt nu nn (rf.set 1 (kg rf 1 + 1)) vw vq yc yh yg) (kr (he, ke, ki, fi, fa, or, mi, a, g, l, w, s)) m kk q)) := by
  obtain ⟨hV, hst⟩ := id hA
  have hst2 : s ≤ 999 := hst
  obtain ⟨v1, v2, v3, v4, v5, v6, v7, v8, v9, v10, v11, v12, v13, v14, v15, v16⟩ := id hV
  have v6l := kO_len mi v7 or v6
  obtain ⟨b1, b2, b3⟩ := id hB
  obtain ⟨c1, c2, c3⟩ := id hC
  have d1 : rf.length = 7 := hD
  obtain ⟨j0, j1, j2, j3, j4⟩ := id hJ
  refine mr_seg 1 (pc1 := 1) (ls1 := [some (.ref 100), some (.int x), some (.int y), some (.int z), some (.int t), none, none, none]) (st1 := [.int x]) (M1 := (mk_M (cT im le ln ys vt nu nn rf vw vq yc yh yg) (kr (he, ke, ki, fi, fa, or, mi, a, g, l, w, s)) m kk q)) (fun f => rfl) ?_
  refine mr_call (y := 37) (y0 := 4) (L := [some (.int x)]) (rest := []) (rr := some (.int 0)) (M1 := (mk_M (cT im le ln ys vt nu nn rf vw vq yc yh yg) (kr (he, ke, ki, fi, fa, or, mi, a, g, l, w, s)) m kk q)) (fun f => rfl) (by
      refine mr_seg 1 (pc1 := 1) (ls1 := [some (.int x)]) (st1 := [.int x]) (M1 := (mk_M (cT im le ln ys vt nu nn rf vw vq yc yh yg) (kr (he, ke, ki, fi, fa, or, mi, a, g, l, w, s)) m kk q)) (fun f => rfl) ?_
      refine mr_t (C := x < 0) (mz_lt_t 0 (by decide) (by omega)) (fun f => rfl) ?_
      exact mr_ret 2 (fun f => rfl)) ?_
  refine mr_seg 3 (pc1 := 9) (ls1 := [some (.ref 100), some (.int x), some (.int y), some (.int z), some (.int t), none, none, none]) (st1 := [.int (-1), .ref 100]) (M1 := (mk_M (cT im le ln ys vt nu nn rf vw vq yc yh yg) (kr (he, ke, ki, fi, fa, or, mi, a, g, l, w, s)) m kk q)) (fun f => rfl) ?_
  refine mr_call (y := 108) (y0 := 12) (L := [some (.ref 100), some (.int (-1))]) (rest := []) (rr := some (.long 4000000000000000001)) (M1 := (mk_M (cT im le ln ys vt nu nn (rf.set 1 (kg rf 1 + 1)) vw vq yc yh yg) (kr (he, ke, ki, fi, fa, or, mi, a, g, l, w, s)) m kk q)) (fun f => rfl) (by
      refine mr_seg 3 (pc1 := 5) (ls1 := [some (.ref 100), some (.int (-1))]) (st1 := [.int (-1), .ref 100, .long 4000000000000000000]) (M1 := (mk_M (cT im le ln ys vt nu nn rf vw vq yc yh yg) (kr (he, ke, ki, fi, fa, or, mi, a, g, l, w, s)) m kk q)) (fun f => rfl) ?_
      refine mr_call (y := 12) (y0 := 8) (L := [some (.ref 100), some (.int (-1))]) (rest := [.long 4000000000000000000]) (rr := some (.int (-1))) (M1 := (mk_M (cT im le ln ys vt nu nn (rf.set 1 (kg rf 1 + 1)) vw vq yc yh yg) (kr (he, ke, ki, fi, fa, or, mi, a, g, l, w, s)) m kk q)) (fun f => rfl) (by
          refine mr_seg 5 (pc1 := 7) (ls1 := [some (.ref 100), some (.int (-1))]) (st1 := [.int 1, .ref 105, .int 1, .ref 105]) (M1 := (mk_M (cT im le ln ys vt nu nn rf vw vq yc yh yg) (kr (he, ke, ki, fi, fa, or, mi, a, g, l, w, s)) m kk q)) (fun f => rfl) ?_
          refine mr_ldn (xs := (rf.map nI)) rfl rfl (k := 1) (by omega) (kg_ok (by omega)) ?_
          refine mr_seg 2 (pc1 := 10) (ls1 := [some (.ref 100), some (.int (-1))]) (st1 := [.int ((nI (kg rf 1)) + 1), .int 1, .ref 105]) (M1 := (mk_M (cT im le ln ys vt nu nn rf vw vq yc yh yg) (kr (he, ke, ki, fi, fa, or, mi, a, g, l, w, s)) m kk q)) (fun f => rfl) ?_
          refine mr_v (nI_add (kg rf 1) 1) ?_
          refine mr_stn (xs := (rf.map nI)) (ys := ((rf.set 1 (kg rf 1 + 1)).map nI)) (M2 := (mk_M (cT im le ln ys vt nu nn (rf.set 1 (kg rf 1 + 1)) vw vq yc yh yg) (kr (he, ke, ki, fi, fa, or, mi, a, g, l, w, s)) m kk q)) rfl rfl (k := 1) (by omega) (by simp only [List.length_map, List.length_set]; omega) ks_ok rfl ?_
          exact mr_ret 2 (fun f => rfl)) ?_
      exact mr_ret 3 (fun f => rfl)) ?_
  exact mr_ret 1 (fun f => rfl)
set_option maxRecDepth 100000 in
theorem om_plank_0 (he ke ki fi fa or : List Nat) (mi a g l w s : Nat) (xm xi xw : List Int32) (im : Nat) (le nu rf : List Nat) (ln nn : Nat) (vp : Int32) (xn xc : List Int32) (vs : Int32) (c : cC) (n m kk : kG) (hA : iA (he, ke, ki, fi, fa, or, mi, a, g, l, w, s)) (hB : iB le ln) (hC : iC nu nn) (hD : iD rf) (hR : iR xm xw xn xc) (k1 : xi.length = 52) (x : Int32) (hxu : x.toInt ≤ -1) (y : Int32) (z : Int32) (t : Int32) : mm_R 197 0 [some (.ref 138), some (.int x), some (.int y), some (.int z), some (.int t), none, none, none, none, none, none, none, none] [] (mk_M c n m kk (rT (he, ke, ki, fi, fa, or, mi, a, g, l, w, s) xm xi xw im le nu rf ln nn vp xn xc vs)) (some (.long 4000000000000000001), (mk_M c n m kk (rT (he, ke, ki, fi, fa, or, mi, a, g, l, w, s) xm xi xw im le nu (rf.set 1 (kg rf 1 + 1)) ln nn vp xn xc vs))) := by
  obtain ⟨hV, hst⟩ := id hA
  have hst2 : s ≤ 999 := hst
  obtain ⟨v1, v2, v3, v4, v5, v6, v7, v8, v9, v10, v11, v12, v13, v14, v15, v16⟩ := id hV
  have v6l := kO_len mi v7 or v6
  obtain ⟨b1, b2, b3⟩ := id hB
  obtain ⟨c1, c2, c3⟩ := id hC
  have d1 : rf.length = 7 := hD
  obtain ⟨r1, r2, r3, r4⟩ := id hR
  refine mr_seg 1 (pc1 := 1) (ls1 := [some (.ref 138), some (.int x), some (.int y), some (.int z), some (.int t), none, none, none, none, none, none, none, none]) (st1 := [.int x]) (M1 := (mk_M c n m kk (rT (he, ke, ki, fi, fa, or, mi, a, g, l, w, s) xm xi xw im le nu rf ln nn vp xn xc vs))) (fun f => rfl) ?_
  refine mr_call (y := 140) (y0 := 4) (L := [some (.int x)]) (rest := []) (rr := some (.int 0)) (M1 := (mk_M c n m kk (rT (he, ke, ki, fi, fa, or, mi, a, g, l, w, s) xm xi xw im le nu rf ln nn vp xn xc vs))) (fun f => rfl) (by
      refine mr_seg 3 (pc1 := 4) (ls1 := [some (.int x)]) (st1 := [.int 24, .int 0, .int x]) (M1 := (mk_M c n m kk (rT (he, ke, ki, fi, fa, or, mi, a, g, l, w, s) xm xi xw im le nu rf ln nn vp xn xc vs))) (fun f => rfl) ?_
      refine mr_call (y := 135) (y0 := 7) (L := [some (.int x), some (.int 0), some (.int 24)]) (rest := []) (rr := some (.int 0)) (M1 := (mk_M c n m kk (rT (he, ke, ki, fi, fa, or, mi, a, g, l, w, s) xm xi xw im le nu rf ln nn vp xn xc vs))) (fun f => rfl) (by
          refine mr_seg 2 (pc1 := 2) (ls1 := [some (.int x), some (.int 0), some (.int 24)]) (st1 := [.int 0, .int x]) (M1 := (mk_M c n m kk (rT (he, ke, ki, fi, fa, or, mi, a, g, l, w, s) xm xi xw im le nu rf ln nn vp xn xc vs))) (fun f => rfl) ?_
          refine mr_t (C := x < 0) (mz_lt_t 0 (by decide) (by omega)) (fun f => rfl) ?_
          exact mr_ret 2 (fun f => rfl)) ?_
      exact mr_ret 1 (fun f => rfl)) ?_
  refine mr_seg 3 (pc1 := 9) (ls1 := [some (.ref 138), some (.int x), some (.int y), some (.int z), some (.int t), none, none, none, none, none, none, none, none]) (st1 := [.int (-1), .ref 138]) (M1 := (mk_M c n m kk (rT (he, ke, ki, fi, fa, or, mi, a, g, l, w, s) xm xi xw im le nu rf ln nn vp xn xc vs))) (fun f => rfl) ?_
  refine mr_call (y := 198) (y0 := 12) (L := [some (.ref 138), some (.int (-1))]) (rest := []) (rr := some (.long 4000000000000000001)) (M1 := (mk_M c n m kk (rT (he, ke, ki, fi, fa, or, mi, a, g, l, w, s) xm xi xw im le nu (rf.set 1 (kg rf 1 + 1)) ln nn vp xn xc vs))) (fun f => rfl) (by
      refine mr_seg 3 (pc1 := 5) (ls1 := [some (.ref 138), some (.int (-1))]) (st1 := [.int (-1), .ref 138, .long 4000000000000000000]) (M1 := (mk_M c n m kk (rT (he, ke, ki, fi, fa, or, mi, a, g, l, w, s) xm xi xw im le nu rf ln nn vp xn xc vs))) (fun f => rfl) ?_
      refine mr_call (y := 130) (y0 := 8) (L := [some (.ref 138), some (.int (-1))]) (rest := [.long 4000000000000000000]) (rr := some (.int (-1))) (M1 := (mk_M c n m kk (rT (he, ke, ki, fi, fa, or, mi, a, g, l, w, s) xm xi xw im le nu (rf.set 1 (kg rf 1 + 1)) ln nn vp xn xc vs))) (fun f => rfl) (by
          refine mr_seg 5 (pc1 := 7) (ls1 := [some (.ref 138), some (.int (-1))]) (st1 := [.int 1, .ref 145, .int 1, .ref 145]) (M1 := (mk_M c n m kk (rT (he, ke, ki, fi, fa, or, mi, a, g, l, w, s) xm xi xw im le nu rf ln nn vp xn xc vs))) (fun f => rfl) ?_
          refine mr_ldn (xs := (rf.map nI)) rfl rfl (k := 1) (by omega) (kg_ok (by omega)) ?_
          refine mr_seg 2 (pc1 := 10) (ls1 := [some (.ref 138), some (.int (-1))]) (st1 := [.int ((nI (kg rf 1)) + 1), .int 1, .ref 145]) (M1 := (mk_M c n m kk (rT (he, ke, ki, fi, fa, or, mi, a, g, l, w, s) xm xi xw im le nu rf ln nn vp xn xc vs))) (fun f => rfl) ?_
          refine mr_v (nI_add (kg rf 1) 1) ?_
          refine mr_stn (xs := (rf.map nI)) (ys := ((rf.set 1 (kg rf 1 + 1)).map nI)) (M2 := (mk_M c n m kk (rT (he, ke, ki, fi, fa, or, mi, a, g, l, w, s) xm xi xw im le nu (rf.set 1 (kg rf 1 + 1)) ln nn vp xn xc vs))) rfl rfl (k := 1) (by omega) (by simp only [List.length_map, List.length_set]; omega) ks_ok rfl ?_
          exact mr_ret 2 (fun f => rfl)) ?_
      exact mr_ret 3 (fun f => rfl)) ?_
  exact mr_ret 1 (fun f => rfl)
theorem oe_plank_0 (he ke ki fi fa or : List Nat) (mi a g l w s : Nat) (m : kG) (kk : kG) (im : Nat) (le : List Nat) (ln : Nat) (ys : List Int32) (vt : Int32) (nu : List Nat) (nn : Nat) (rf : List Nat) (vw : Int32) (vq : Int32) (yc : List Int32) (yh : List Int32) (yg : List Int32) (xm : List Int32) (xi : List Int32) (xw : List Int32) (vp : Int32) (xn : List Int32) (xc : List Int32) (vs : Int32) (hA : iA (he, ke, ki, fi, fa, or, mi, a, g, l, w, s)) (hB : iB le ln) (hC : iC nu nn) (hD : iD rf) (hJ : iJ m ys yc yh yg) (hR : iR xm xw xn xc) (hK : iK im kk xi) (x : Int32) (hxu : x.toInt ≤ -1) (y : Int32) (z : Int32) (t : Int32) : oL 107 197 [some (.ref 100), some (.int x), some (.int y), some (.int z), some (.int t), none, none, none] [some (.ref 138), some (.int x), some (.int y), some (.int z), some (.int t), none, none, none, none, none, none, none, none] (mk_M (cT im le ln ys vt nu nn rf vw vq yc yh yg) (kr (he, ke, ki, fi, fa, or, mi, a, g, l, w, s)) m kk (rT (he, ke, ki, fi, fa, or, mi, a, g, l, w, s) xm xi xw im le nu rf ln nn vp xn xc vs)) := by
  exact ⟨4000000000000000001, _, _, oc_plank_0 he ke ki fi fa or mi a g l w s im le ln ys vt nu nn rf vw vq yc yh yg m kk _ hA hB hC hD hJ hK.1 x hxu y z t, om_plank_0 he ke ki fi fa or mi a g l w s xm xi xw im le nu rf ln nn vp xn xc vs _ _ _ _ hA hB hC hD hR hK.2.1 x hxu y z t, (he, ke, ki, fi, fa, or, mi, a, g, l, w, s), m, kk, im, le, ln, ys, vt, nu, nn, (rf.set 1 (kg rf 1 + 1)), vw, vq, yc, yh, yg, xm, xi, xw, vp, xn, xc, vs, rfl, hA, hB, hC, iD_s hD, hJ, hR, hK⟩
set_option maxRecDepth 100000 in
theorem oc_plank_1 (he ke ki fi fa or : List Nat) (mi a g l w s : Nat) (im : Nat) (le : List Nat) (ln : Nat) (ys : List Int32) (vt : Int32) (nu : List Nat) (nn : Nat) (rf : List Nat) (vw vq : Int32) (yc yh yg : List Int32) (m kk : kG) (q : cR) (hA : iA (he, ke, ki, fi, fa, or, mi, a, g, l, w, s)) (hB : iB le ln) (hC : iC nu nn) (hD : iD rf) (hJ : iJ m ys yc yh yg) (k0 : kSh kk) (x : Int32) (hxl : 25 ≤ x.toInt) (y : Int32) (z : Int32) (t : Int32) : mm_R 107 0 [some (.ref 100), some (.int x), some (.int y), some (.int z), some (.int t), none, none, none] [] (mk_M (cT im le ln ys vt nu nn rf vw vq yc yh yg) (kr (he, ke, ki, fi, fa, or, mi, a, g, l, w, s)) m kk q) (some (.long 4000000000000000001), (mk_M (cT im le ln ys vt nu nn (rf.set 1 (kg rf 1 + 1)) vw vq yc yh yg) (kr (he, ke, ki, fi, fa, or, mi, a, g, l, w, s)) m kk q)) := by
  obtain ⟨hV, hst⟩ := id hA
  have hst2 : s ≤ 999 := hst
  obtain ⟨v1, v2, v3, v4, v5, v6, v7, v8, v9, v10, v11, v12, v13, v14, v15, v16⟩ := id hV
  have v6l := kO_len mi v7 or v6
  obtain ⟨b1, b2, b3⟩ := id hB
  obtain ⟨c1, c2, c3⟩ := id hC
  have d1 : rf.length = 7 := hD
  obtain ⟨j0, j1, j2, j3, j4⟩ := id hJ
  refine mr_seg 1 (pc1 := 1) (ls1 := [some (.ref 100), some (.int x), some (.int y), some (.int z), some (.int t), none, none, none]) (st1 := [.int x]) (M1 := (mk_M (cT im le ln ys vt nu nn rf vw vq yc yh yg) (kr (he, ke, ki, fi, fa, or, mi, a, g, l, w, s)) m kk q)) (fun f => rfl) ?_
  refine mr_call (y := 37) (y0 := 4) (L := [some (.int x)]) (rest := []) (rr := some (.int 0)) (M1 := (mk_M (cT im le ln ys vt nu nn rf vw vq yc yh yg) (kr (he, ke, ki, fi, fa, or, mi, a, g, l, w, s)) m kk q)) (fun f => rfl) (by
      refine mr_seg 1 (pc1 := 1) (ls1 := [some (.int x)]) (st1 := [.int x]) (M1 := (mk_M (cT im le ln ys vt nu nn rf vw vq yc yh yg) (kr (he, ke, ki, fi, fa, or, mi, a, g, l, w, s)) m kk q)) (fun f => rfl) ?_
      refine mr_f (C := x < 0) (mz_lt_f 0 (by decide) (by omega)) (fun f => rfl) ?_
      refine mr_seg 2 (pc1 := 7) (ls1 := [some (.int x)]) (st1 := [.int 25, .int x]) (M1 := (mk_M (cT im le ln ys vt nu nn rf vw vq yc yh yg) (kr (he, ke, ki, fi, fa, or, mi, a, g, l, w, s)) m kk q)) (fun f => rfl) ?_
      refine mr_t (C := 25 ≤ x) (mz_ge_t 25 (by decide) (by omega)) (fun f => rfl) ?_
      exact mr_ret 2 (fun f => rfl)) ?_
  refine mr_seg 3 (pc1 := 9) (ls1 := [some (.ref 100), some (.int x), some (.int y), some (.int z), some (.int t), none, none, none]) (st1 := [.int (-1), .ref 100]) (M1 := (mk_M (cT im le ln ys vt nu nn rf vw vq yc yh yg) (kr (he, ke, ki, fi, fa, or, mi, a, g, l, w, s)) m kk q)) (fun f => rfl) ?_
  refine mr_call (y := 108) (y0 := 12) (L := [some (.ref 100), some (.int (-1))]) (rest := []) (rr := some (.long 4000000000000000001)) (M1 := (mk_M (cT im le ln ys vt nu nn (rf.set 1 (kg rf 1 + 1)) vw vq yc yh yg) (kr (he, ke, ki, fi, fa, or, mi, a, g, l, w, s)) m kk q)) (fun f => rfl) (by
      refine mr_seg 3 (pc1 := 5) (ls1 := [some (.ref 100), some (.int (-1))]) (st1 := [.int (-1), .ref 100, .long 4000000000000000000]) (M1 := (mk_M (cT im le ln ys vt nu nn rf vw vq yc yh yg) (kr (he, ke, ki, fi, fa, or, mi, a, g, l, w, s)) m kk q)) (fun f => rfl) ?_
      refine mr_call (y := 12) (y0 := 8) (L := [some (.ref 100), some (.int (-1))]) (rest := [.long 4000000000000000000]) (rr := some (.int (-1))) (M1 := (mk_M (cT im le ln ys vt nu nn (rf.set 1 (kg rf 1 + 1)) vw vq yc yh yg) (kr (he, ke, ki, fi, fa, or, mi, a, g, l, w, s)) m kk q)) (fun f => rfl) (by
          refine mr_seg 5 (pc1 := 7) (ls1 := [some (.ref 100), some (.int (-1))]) (st1 := [.int 1, .ref 105, .int 1, .ref 105]) (M1 := (mk_M (cT im le ln ys vt nu nn rf vw vq yc yh yg) (kr (he, ke, ki, fi, fa, or, mi, a, g, l, w, s)) m kk q)) (fun f => rfl) ?_
          refine mr_ldn (xs := (rf.map nI)) rfl rfl (k := 1) (by omega) (kg_ok (by omega)) ?_
          refine mr_seg 2 (pc1 := 10) (ls1 := [some (.ref 100), some (.int (-1))]) (st1 := [.int ((nI (kg rf 1)) + 1), .int 1, .ref 105]) (M1 := (mk_M (cT im le ln ys vt nu nn rf vw vq yc yh yg) (kr (he, ke, ki, fi, fa, or, mi, a, g, l, w, s)) m kk q)) (fun f => rfl) ?_
          refine mr_v (nI_add (kg rf 1) 1) ?_
          refine mr_stn (xs := (rf.map nI)) (ys := ((rf.set 1 (kg rf 1 + 1)).map nI)) (M2 := (mk_M (cT im le ln ys vt nu nn (rf.set 1 (kg rf 1 + 1)) vw vq yc yh yg) (kr (he, ke, ki, fi, fa, or, mi, a, g, l, w, s)) m kk q)) rfl rfl (k := 1) (by omega) (by simp only [List.length_map, List.length_set]; omega) ks_ok rfl ?_
          exact mr_ret 2 (fun f => rfl)) ?_
      exact mr_ret 3 (fun f => rfl)) ?_
  exact mr_ret 1 (fun f => rfl)
set_option maxRecDepth 100000 in
theorem om_plank_1 (he ke ki fi fa or : List Nat) (mi a g l w s : Nat) (xm xi xw : List Int32) (im : Nat) (le nu rf : List Nat) (ln nn : Nat) (vp : Int32) (xn xc : List Int32) (vs : Int32) (c : cC) (n m kk : kG) (hA : iA (he, ke, ki, fi, fa, or, mi, a, g, l, w, s)) (hB : iB le ln) (hC : iC nu nn) (hD : iD rf) (hR : iR xm xw xn xc) (k1 : xi.length = 52) (x : Int32) (hxl : 25 ≤ x.toInt) (y : Int32) (z : Int32) (t : Int32) : mm_R 197 0 [some (.ref 138), some (.int x), some (.int y), some (.int z), some (.int t), none, none, none, none, none, none, none, none] [] (mk_M c n m kk (rT (he, ke, ki, fi, fa, or, mi, a, g, l, w, s) xm xi xw im le nu rf ln nn vp xn xc vs)) (some (.long 4000000000000000001), (mk_M c n m kk (rT (he, ke, ki, fi, fa, or, mi, a, g, l, w, s) xm xi xw im le nu (rf.set 1 (kg rf 1 + 1)) ln nn vp xn xc vs))) := by
  obtain ⟨hV, hst⟩ := id hA
  have hst2 : s ≤ 999 := hst
  obtain ⟨v1, v2, v3, v4, v5, v6, v7, v8, v9, v10, v11, v12, v13, v14, v15, v16⟩ := id hV
  have v6l := kO_len mi v7 or v6
  obtain ⟨b1, b2, b3⟩ := id hB
  obtain ⟨c1, c2, c3⟩ := id hC
  have d1 : rf.length = 7 := hD
  obtain ⟨r1, r2, r3, r4⟩ := id hR
  refine mr_seg 1 (pc1 := 1) (ls1 := [some (.ref 138), some (.int x), some (.int y), some (.int z), some (.int t), none, none, none, none, none, none, none, none]) (st1 := [.int x]) (M1 := (mk_M c n m kk (rT (he, ke, ki, fi, fa, or, mi, a, g, l, w, s) xm xi xw im le nu rf ln nn vp xn xc vs))) (fun f => rfl) ?_
  refine mr_call (y := 140) (y0 := 4) (L := [some (.int x)]) (rest := []) (rr := some (.int 0)) (M1 := (mk_M c n m kk (rT (he, ke, ki, fi, fa, or, mi, a, g, l, w, s) xm xi xw im le nu rf ln nn vp xn xc vs))) (fun f => rfl) (by
      refine mr_seg 3 (pc1 := 4) (ls1 := [some (.int x)]) (st1 := [.int 24, .int 0, .int x]) (M1 := (mk_M c n m kk (rT (he, ke, ki, fi, fa, or, mi, a, g, l, w, s) xm xi xw im le nu rf ln nn vp xn xc vs))) (fun f => rfl) ?_
      refine mr_call (y := 135) (y0 := 7) (L := [some (.int x), some (.int 0), some (.int 24)]) (rest := []) (rr := some (.int 0)) (M1 := (mk_M c n m kk (rT (he, ke, ki, fi, fa, or, mi, a, g, l, w, s) xm xi xw im le nu rf ln nn vp xn xc vs))) (fun f => rfl) (by
          refine mr_seg 2 (pc1 := 2) (ls1 := [some (.int x), some (.int 0), some (.int 24)]) (st1 := [.int 0, .int x]) (M1 := (mk_M c n m kk (rT (he, ke, ki, fi, fa, or, mi, a, g, l, w, s) xm xi xw im le nu rf ln nn vp xn xc vs))) (fun f => rfl) ?_
          refine mr_f (C := x < 0) (mz_lt_f 0 (by decide) (by omega)) (fun f => rfl) ?_
          refine mr_seg 2 (pc1 := 7) (ls1 := [some (.int x), some (.int 0), some (.int 24)]) (st1 := [.int 24, .int x]) (M1 := (mk_M c n m kk (rT (he, ke, ki, fi, fa, or, mi, a, g, l, w, s) xm xi xw im le nu rf ln nn vp xn xc vs))) (fun f => rfl) ?_
          refine mr_t (C := 24 < x) (mz_gt_t 24 (by decide) (by omega)) (fun f => rfl) ?_
          exact mr_ret 2 (fun f => rfl)) ?_
      exact mr_ret 1 (fun f => rfl)) ?_
  refine mr_seg 3 (pc1 := 9) (ls1 := [some (.ref 138), some (.int x), some (.int y), some (.int z), some (.int t), none, none, none, none, none, none, none, none]) (st1 := [.int (-1), .ref 138]) (M1 := (mk_M c n m kk (rT (he, ke, ki, fi, fa, or, mi, a, g, l, w, s) xm xi xw im le nu rf ln nn vp xn xc vs))) (fun f => rfl) ?_
  refine mr_call (y := 198) (y0 := 12) (L := [some (.ref 138), some (.int (-1))]) (rest := []) (rr := some (.long 4000000000000000001)) (M1 := (mk_M c n m kk (rT (he, ke, ki, fi, fa, or, mi, a, g, l, w, s) xm xi xw im le nu (rf.set 1 (kg rf 1 + 1)) ln nn vp xn xc vs))) (fun f => rfl) (by
      refine mr_seg 3 (pc1 := 5) (ls1 := [some (.ref 138), some (.int (-1))]) (st1 := [.int (-1), .ref 138, .long 4000000000000000000]) (M1 := (mk_M c n m kk (rT (he, ke, ki, fi, fa, or, mi, a, g, l, w, s) xm xi xw im le nu rf ln nn vp xn xc vs))) (fun f => rfl) ?_
      refine mr_call (y := 130) (y0 := 8) (L := [some (.ref 138), some (.int (-1))]) (rest := [.long 4000000000000000000]) (rr := some (.int (-1))) (M1 := (mk_M c n m kk (rT (he, ke, ki, fi, fa, or, mi, a, g, l, w, s) xm xi xw im le nu (rf.set 1 (kg rf 1 + 1)) ln nn vp xn xc vs))) (fun f => rfl) (by
          refine mr_seg 5 (pc1 := 7) (ls1 := [some (.ref 138), some (.int (-1))]) (st1 := [.int 1, .ref 145, .int 1, .ref 145]) (M1 := (mk_M c n m kk (rT (he, ke, ki, fi, fa, or, mi, a, g, l, w, s) xm xi xw im le nu rf ln nn vp xn xc vs))) (fun f => rfl) ?_
          refine mr_ldn (xs := (rf.map nI)) rfl rfl (k := 1) (by omega) (kg_ok (by omega)) ?_
          refine mr_seg 2 (pc1 := 10) (ls1 := [some (.ref 138), some (.int (-1))]) (st1 := [.int ((nI (kg rf 1)) + 1), .int 1, .ref 145]) (M1 := (mk_M c n m kk (rT (he, ke, ki, fi, fa, or, mi, a, g, l, w, s) xm xi xw im le nu rf ln nn vp xn xc vs))) (fun f => rfl) ?_
          refine mr_v (nI_add (kg rf 1) 1) ?_
          refine mr_stn (xs := (rf.map nI)) (ys := ((rf.set 1 (kg rf 1 + 1)).map nI)) (M2 := (mk_M c n m kk (rT (he, ke, ki, fi, fa, or, mi, a, g, l, w, s) xm xi xw im le nu (rf.set 1 (kg rf 1 + 1)) ln nn vp xn xc vs))) rfl rfl (k := 1) (by omega) (by simp only [List.length_map, List.length_set]; omega) ks_ok rfl ?_
          exact mr_ret 2 (fun f => rfl)) ?_
      exact mr_ret 3 (fun f => rfl)) ?_
  exact mr_ret 1 (fun f => rfl)
theorem oe_plank_1 (he ke ki fi fa or : List Nat) (mi a g l w s : Nat) (m : kG) (kk : kG) (im : Nat) (le : List Nat) (ln : Nat) (ys : List Int32) (vt : Int32) (nu : List Nat) (nn : Nat) (rf : List Nat) (vw : Int32) (vq : Int32) (yc : List Int32) (yh : List Int32) (yg : List Int32) (xm : List Int32) (xi : List Int32) (xw : List Int32) (vp : Int32) (xn : List Int32) (xc : List Int32) (vs : Int32) (hA : iA (he, ke, ki, fi, fa, or, mi, a, g, l, w, s)) (hB : iB le ln) (hC : iC nu nn) (hD : iD rf) (hJ : iJ m ys yc yh yg) (hR : iR xm xw xn xc) (hK : iK im kk xi) (x : Int32) (hxl : 25 ≤ x.toInt) (y : Int32) (z : Int32) (t : Int32) : oL 107 197 [some (.ref 100), some (.int x), some (.int y), some (.int z), some (.int t), none, none, none] [some (.ref 138), some (.int x), some (.int y), some (.int z), some (.int t), none, none, none, none, none, none, none, none] (mk_M (cT im le ln ys vt nu nn rf vw vq yc yh yg) (kr (he, ke, ki, fi, fa, or, mi, a, g, l, w, s)) m kk (rT (he, ke, ki, fi, fa, or, mi, a, g, l, w, s) xm xi xw im le nu rf ln nn vp xn xc vs)) := by
  exact ⟨4000000000000000001, _, _, oc_plank_1 he ke ki fi fa or mi a g l w s im le ln ys vt nu nn rf vw vq yc yh yg m kk _ hA hB hC hD hJ hK.1 x hxl y z t, om_plank_1 he ke ki fi fa or mi a g l w s xm xi xw im le nu rf ln nn vp xn xc vs _ _ _ _ hA hB hC hD hR hK.2.1 x hxl y z t, (he, ke, ki, fi, fa, or, mi, a, g, l, w, s), m, kk, im, le, ln, ys, vt, nu, nn, (rf.set 1 (kg rf 1 + 1)), vw, vq, yc, yh, yg, xm, xi, xw, vp, xn, xc, vs, rfl, hA, hB, hC, iD_s hD, hJ, hR, hK⟩
set_option maxRecDepth 100000 in
theorem oc_plank_2 (he ke ki fi fa or : List Nat) (mi a g l w s : Nat) (im : Nat) (le : List Nat) (ln : Nat) (ys : List Int32) (vt : Int32) (nu : List Nat) (nn : Nat) (rf : List Nat) (vw vq : Int32) (yc yh yg : List Int32) (m kk : kG) (q : cR) (hA : iA (he, ke, ki, fi, fa, or, mi, a, g, l, w, s)) (hB : iB le ln) (hC : iC nu nn) (hD : iD rf) (hJ : iJ m ys yc yh yg) (k0 : kSh kk) (x : Nat) (hx : x < 25) (y : Int32) (hyu : y.toInt ≤ -1) (z : Int32) (t : Int32) : mm_R 107 0 [some (.ref 100), some (.int (nI x)), some (.int y), some (.int z), some (.int t), none, none, none] [] (mk_M (cT im le ln ys vt nu nn rf vw vq yc yh yg) (kr (he, ke, ki, fi, fa, or, mi, a, g, l, w, s)) m kk q) (some (.long 4000000000000000004), (mk_M (cT im le ln ys vt nu nn (rf.set 4 (kg rf 4 + 1)) vw vq yc yh yg) (kr (he, ke, ki, fi, fa, or, mi, a, g, l, w, s)) m kk q)) := by
  obtain ⟨hV, hst⟩ := id hA
  have hst2 : s ≤ 999 := hst
  obtain ⟨v1, v2, v3, v4, v5, v6, v7, v8, v9, v10, v11, v12, v13, v14, v15, v16⟩ := id hV
  have v6l := kO_len mi v7 or v6
  obtain ⟨b1, b2, b3⟩ := id hB
  obtain ⟨c1, c2, c3⟩ := id hC
  have d1 : rf.length = 7 := hD
  obtain ⟨j0, j1, j2, j3, j4⟩ := id hJ
  refine mr_seg 1 (pc1 := 1) (ls1 := [some (.ref 100), some (.int (nI x)), some (.int y), some (.int z), some (.int t), none, none, none]) (st1 := [.int (nI x)]) (M1 := (mk_M (cT im le ln ys vt nu nn rf vw vq yc yh yg) (kr (he, ke, ki, fi, fa, or, mi, a, g, l, w, s)) m kk q)) (fun f => rfl) ?_
  refine mr_call (y := 37) (y0 := 4) (L := [some (.int (nI x))]) (rest := []) (rr := some (.int 1)) (M1 := (mk_M (cT im le ln ys vt nu nn rf vw vq yc yh yg) (kr (he, ke, ki, fi, fa, or, mi, a, g, l, w, s)) m kk q)) (fun f => rfl) (by
      refine mr_seg 1 (pc1 := 1) (ls1 := [some (.int (nI x))]) (st1 := [.int (nI x)]) (M1 := (mk_M (cT im le ln ys vt nu nn rf vw vq yc yh yg) (kr (he, ke, ki, fi, fa, or, mi, a, g, l, w, s)) m kk q)) (fun f => rfl) ?_
      refine mr_f (C := (nI x) < 0) (fun e_ => absurd ((nI_ltI (a := x) (b := 0) (by omega) (by omega)).mp e_) (by omega)) (fun f => rfl) ?_
      refine mr_seg 2 (pc1 := 7) (ls1 := [some (.int (nI x))]) (st1 := [.int 25, .int (nI x)]) (M1 := (mk_M (cT im le ln ys vt nu nn rf vw vq yc yh yg) (kr (he, ke, ki, fi, fa, or, mi, a, g, l, w, s)) m kk q)) (fun f => rfl) ?_
      refine mr_f (C := 25 ≤ (nI x)) (fun e_ => absurd ((nI_leI (a := 25) (b := x) (by omega) (by omega)).mp e_) (by omega)) (fun f => rfl) ?_
      exact mr_ret 3 (fun f => rfl)) ?_
  refine mr_seg 2 (pc1 := 14) (ls1 := [some (.ref 100), some (.int (nI x)), some (.int y), some (.int z), some (.int t), none, none, none]) (st1 := [.int y]) (M1 := (mk_M (cT im le ln ys vt nu nn rf vw vq yc yh yg) (kr (he, ke, ki, fi, fa, or, mi, a, g, l, w, s)) m kk q)) (fun f => rfl) ?_
  refine mr_t (C := y < 0) (mz_lt_t 0 (by decide) (by omega)) (fun f => rfl) ?_
  refine mr_seg 2 (pc1 := 25) (ls1 := [some (.ref 100), some (.int (nI x)), some (.int y), some (.int z), some (.int t), none, none, none]) (st1 := [.int (-4), .ref 100]) (M1 := (mk_M (cT im le ln ys vt nu nn rf vw vq yc yh yg) (kr (he, ke, ki, fi, fa, or, mi, a, g, l, w, s)) m kk q)) (fun f => rfl) ?_
  refine mr_call (y := 108) (y0 := 28) (L := [some (.ref 100), some (.int (-4))]) (rest := []) (rr := some (.long 4000000000000000004)) (M1 := (mk_M (cT im le ln ys vt nu nn (rf.set 4 (kg rf 4 + 1)) vw vq yc yh yg) (kr (he, ke, ki, fi, fa, or, mi, a, g, l, w, s)) m kk q)) (fun f => rfl) (by
      refine mr_seg 3 (pc1 := 5) (ls1 := [some (.ref 100), some (.int (-4))]) (st1 := [.int (-4), .ref 100, .long 4000000000000000000]) (M1 := (mk_M (cT im le ln ys vt nu nn rf vw vq yc yh yg) (kr (he, ke, ki, fi, fa, or, mi, a, g, l, w, s)) m kk q)) (fun f => rfl) ?_
      refine mr_call (y := 12) (y0 := 8) (L := [some (.ref 100), some (.int (-4))]) (rest := [.long 4000000000000000000]) (rr := some (.int (-4))) (M1 := (mk_M (cT im le ln ys vt nu nn (rf.set 4 (kg rf 4 + 1)) vw vq yc yh yg) (kr (he, ke, ki, fi, fa, or, mi, a, g, l, w, s)) m kk q)) (fun f => rfl) (by
          refine mr_seg 5 (pc1 := 7) (ls1 := [some (.ref 100), some (.int (-4))]) (st1 := [.int 4, .ref 105, .int 4, .ref 105]) (M1 := (mk_M (cT im le ln ys vt nu nn rf vw vq yc yh yg) (kr (he, ke, ki, fi, fa, or, mi, a, g, l, w, s)) m kk q)) (fun f => rfl) ?_
          refine mr_ldn (xs := (rf.map nI)) rfl rfl (k := 4) (by omega) (kg_ok (by omega)) ?_
          refine mr_seg 2 (pc1 := 10) (ls1 := [some (.ref 100), some (.int (-4))]) (st1 := [.int ((nI (kg rf 4)) + 1), .int 4, .ref 105]) (M1 := (mk_M (cT im le ln ys vt nu nn rf vw vq yc yh yg) (kr (he, ke, ki, fi, fa, or, mi, a, g, l, w, s)) m kk q)) (fun f => rfl) ?_
          refine mr_v (nI_add (kg rf 4) 1) ?_
          refine mr_stn (xs := (rf.map nI)) (ys := ((rf.set 4 (kg rf 4 + 1)).map nI)) (M2 := (mk_M (cT im le ln ys vt nu nn (rf.set 4 (kg rf 4 + 1)) vw vq yc yh yg) (kr (he, ke, ki, fi, fa, or, mi, a, g, l, w, s)) m kk q)) rfl rfl (k := 4) (by omega) (by simp only [List.length_map, List.length_set]; omega) ks_ok rfl ?_
          exact mr_ret 2 (fun f => rfl)) ?_
      exact mr_ret 3 (fun f => rfl)) ?_
  exact mr_ret 1 (fun f => rfl)
set_option maxRecDepth 100000 in
theorem om_plank_2 (he ke ki fi fa or : List Nat) (mi a g l w s : Nat) (xm xi xw : List Int32) (im : Nat) (le nu rf : List Nat) (ln nn : Nat) (vp : Int32) (xn xc : List Int32) (vs : Int32) (c : cC) (n m kk : kG) (hA : iA (he, ke, ki, fi, fa, or, mi, a, g, l, w, s)) (hB : iB le ln) (hC : iC nu nn) (hD : iD rf) (hR : iR xm xw xn xc) (k1 : xi.length = 52) (x : Nat) (hx : x < 25) (y : Int32) (hyu : y.toInt ≤ -1) (z : Int32) (t : Int32) : mm_R 197 0 [some (.ref 138), some (.int (nI x)), some (.int y), some (.int z), some (.int t), none, none, none, none, none, none, none, none] [] (mk_M c n m kk (rT (he, ke, ki, fi, fa, or, mi, a, g, l, w, s) xm xi xw im le nu rf ln nn vp xn xc vs)) (some (.long 4000000000000000004), (mk_M c n m kk (rT (he, ke, ki, fi, fa, or, mi, a, g, l, w, s) xm xi xw im le nu (rf.set 4 (kg rf 4 + 1)) ln nn vp xn xc vs))) := by
  obtain ⟨hV, hst⟩ := id hA
  have hst2 : s ≤ 999 := hst
  obtain ⟨v1, v2, v3, v4, v5, v6, v7, v8, v9, v10, v11, v12, v13, v14, v15, v16⟩ := id hV
  have v6l := kO_len mi v7 or v6
  obtain ⟨b1, b2, b3⟩ := id hB
  obtain ⟨c1, c2, c3⟩ := id hC
  have d1 : rf.length = 7 := hD
  obtain ⟨r1, r2, r3, r4⟩ := id hR
  refine mr_seg 1 (pc1 := 1) (ls1 := [some (.ref 138), some (.int (nI x)), some (.int y), some (.int z), some (.int t), none, none, none, none, none, none, none, none]) (st1 := [.int (nI x)]) (M1 := (mk_M c n m kk (rT (he, ke, ki, fi, fa, or, mi, a, g, l, w, s) xm xi xw im le nu rf ln nn vp xn xc vs))) (fun f => rfl) ?_
  refine mr_call (y := 140) (y0 := 4) (L := [some (.int (nI x))]) (rest := []) (rr := some (.int 1)) (M1 := (mk_M c n m kk (rT (he, ke, ki, fi, fa, or, mi, a, g, l, w, s) xm xi xw im le nu rf ln nn vp xn xc vs))) (fun f => rfl) (by
      refine mr_seg 3 (pc1 := 4) (ls1 := [some (.int (nI x))]) (st1 := [.int 24, .int 0, .int (nI x)]) (M1 := (mk_M c n m kk (rT (he, ke, ki, fi, fa, or, mi, a, g, l, w, s) xm xi xw im le nu rf ln nn vp xn xc vs))) (fun f => rfl) ?_
      refine mr_call (y := 135) (y0 := 7) (L := [some (.int (nI x)), some (.int 0), some (.int 24)]) (rest := []) (rr := some (.int 1)) (M1 := (mk_M c n m kk (rT (he, ke, ki, fi, fa, or, mi, a, g, l, w, s) xm xi xw im le nu rf ln nn vp xn xc vs))) (fun f => rfl) (by
          refine mr_seg 2 (pc1 := 2) (ls1 := [some (.int (nI x)), some (.int 0), some (.int 24)]) (st1 := [.int 0, .int (nI x)]) (M1 := (mk_M c n m kk (rT (he, ke, ki, fi, fa, or, mi, a, g, l, w, s) xm xi xw im le nu rf ln nn vp xn xc vs))) (fun f => rfl) ?_
          refine mr_f (C := (nI x) < 0) (fun e_ => absurd ((nI_ltI (a := x) (b := 0) (by omega) (by omega)).mp e_) (by omega)) (fun f => rfl) ?_
          refine mr_seg 2 (pc1 := 7) (ls1 := [some (.int (nI x)), some (.int 0), some (.int 24)]) (st1 := [.int 24, .int (nI x)]) (M1 := (mk_M c n m kk (rT (he, ke, ki, fi, fa, or, mi, a, g, l, w, s) xm xi xw im le nu rf ln nn vp xn xc vs))) (fun f => rfl) ?_
          refine mr_f (C := 24 < (nI x)) (fun e_ => absurd ((nI_ltI (a := 24) (b := x) (by omega) (by omega)).mp e_) (by omega)) (fun f => rfl) ?_
          exact mr_ret 3 (fun f => rfl)) ?_
      exact mr_ret 1 (fun f => rfl)) ?_
  refine mr_seg 2 (pc1 := 14) (ls1 := [some (.ref 138), some (.int (nI x)), some (.int y), some (.int z), some (.int t), none, none, none, none, none, none, none, none]) (st1 := [.int y]) (M1 := (mk_M c n m kk (rT (he, ke, ki, fi, fa, or, mi, a, g, l, w, s) xm xi xw im le nu rf ln nn vp xn xc vs))) (fun f => rfl) ?_
  refine mr_t (C := y < 0) (mz_lt_t 0 (by decide) (by omega)) (fun f => rfl) ?_
  refine mr_seg 2 (pc1 := 25) (ls1 := [some (.ref 138), some (.int (nI x)), some (.int y), some (.int z), some (.int t), none, none, none, none, none, none, none, none]) (st1 := [.int (-4), .ref 138]) (M1 := (mk_M c n m kk (rT (he, ke, ki, fi, fa, or, mi, a, g, l, w, s) xm xi xw im le nu rf ln nn vp xn xc vs))) (fun f => rfl) ?_
  refine mr_call (y := 198) (y0 := 28) (L := [some (.ref 138), some (.int (-4))]) (rest := []) (rr := some (.long 4000000000000000004)) (M1 := (mk_M c n m kk (rT (he, ke, ki, fi, fa, or, mi, a, g, l, w, s) xm xi xw im le nu (rf.set 4 (kg rf 4 + 1)) ln nn vp xn xc vs))) (fun f => rfl) (by
      refine mr_seg 3 (pc1 := 5) (ls1 := [some (.ref 138), some (.int (-4))]) (st1 := [.int (-4), .ref 138, .long 4000000000000000000]) (M1 := (mk_M c n m kk (rT (he, ke, ki, fi, fa, or, mi, a, g, l, w, s) xm xi xw im le nu rf ln nn vp xn xc vs))) (fun f => rfl) ?_
      refine mr_call (y := 130) (y0 := 8) (L := [some (.ref 138), some (.int (-4))]) (rest := [.long 4000000000000000000]) (rr := some (.int (-4))) (M1 := (mk_M c n m kk (rT (he, ke, ki, fi, fa, or, mi, a, g, l, w, s) xm xi xw im le nu (rf.set 4 (kg rf 4 + 1)) ln nn vp xn xc vs))) (fun f => rfl) (by
          refine mr_seg 5 (pc1 := 7) (ls1 := [some (.ref 138), some (.int (-4))]) (st1 := [.int 4, .ref 145, .int 4, .ref 145]) (M1 := (mk_M c n m kk (rT (he, ke, ki, fi, fa, or, mi, a, g, l, w, s) xm xi xw im le nu rf ln nn vp xn xc vs))) (fun f => rfl) ?_
          refine mr_ldn (xs := (rf.map nI)) rfl rfl (k := 4) (by omega) (kg_ok (by omega)) ?_
          refine mr_seg 2 (pc1 := 10) (ls1 := [some (.ref 138), some (.int (-4))]) (st1 := [.int ((nI (kg rf 4)) + 1), .int 4, .ref 145]) (M1 := (mk_M c n m kk (rT (he, ke, ki, fi, fa, or, mi, a, g, l, w, s) xm xi xw im le nu rf ln nn vp xn xc vs))) (fun f => rfl) ?_
          refine mr_v (nI_add (kg rf 4) 1) ?_
          refine mr_stn (xs := (rf.map nI)) (ys := ((rf.set 4 (kg rf 4 + 1)).map nI)) (M2 := (mk_M c n m kk (rT (he, ke, ki, fi, fa, or, mi, a, g, l, w, s) xm xi xw im le nu (rf.set 4 (kg rf 4 + 1)) ln nn vp xn xc vs))) rfl rfl (k := 4) (by omega) (by simp only [List.length_map, List.length_set]; omega) ks_ok rfl ?_
          exact mr_ret 2 (fun f => rfl)) ?_
      exact mr_ret 3 (fun f => rfl)) ?_
  exact mr_ret 1 (fun f => rfl)
theorem oe_plank_2 (he ke ki fi fa or : List Nat) (mi a g l w s : Nat) (m : kG) (kk : kG) (im : Nat) (le : List Nat) (ln : Nat) (ys : List Int32) (vt : Int32) (nu : List Nat) (nn : Nat) (rf : List Nat) (vw : Int32) (vq : Int32) (yc : List Int32) (yh : List Int32) (yg : List Int32) (xm : List Int32) (xi : List Int32) (xw : List Int32) (vp : Int32) (xn : List Int32) (xc : List Int32) (vs : Int32) (hA : iA (he, ke, ki, fi, fa, or, mi, a, g, l, w, s)) (hB : iB le ln) (hC : iC nu nn) (hD : iD rf) (hJ : iJ m ys yc yh yg) (hR : iR xm xw xn xc) (hK : iK im kk xi) (x : Nat) (hx : x < 25) (y : Int32) (hyu : y.toInt ≤ -1) (z : Int32) (t : Int32) : oL 107 197 [some (.ref 100), some (.int (nI x)), some (.int y), some (.int z), some (.int t), none, none, none] [some (.ref 138), some (.int (nI x)), some (.int y), some (.int z), some (.int t), none, none, none, none, none, none, none, none] (mk_M (cT im le ln ys vt nu nn rf vw vq yc yh yg) (kr (he, ke, ki, fi, fa, or, mi, a, g, l, w, s)) m kk (rT (he, ke, ki, fi, fa, or, mi, a, g, l, w, s) xm xi xw im le nu rf ln nn vp xn xc vs)) := by
  exact ⟨4000000000000000004, _, _, oc_plank_2 he ke ki fi fa or mi a g l w s im le ln ys vt nu nn rf vw vq yc yh yg m kk _ hA hB hC hD hJ hK.1 x hx y hyu z t, om_plank_2 he ke ki fi fa or mi a g l w s xm xi xw im le nu rf ln nn vp xn xc vs _ _ _ _ hA hB hC hD hR hK.2.1 x hx y hyu z t, (he, ke, ki, fi, fa, or, mi, a, g, l, w, s), m, kk, im, le, ln, ys, vt, nu, nn, (rf.set 4 (kg rf 4 + 1)), vw, vq, yc, yh, yg, xm, xi, xw, vp, xn, xc, vs, rfl, hA, hB, hC, iD_s hD, hJ, hR, hK⟩
set_option maxRecDepth 100000 in
theorem oc_plank_3 (he ke ki fi fa or : List Nat) (mi a g l w s : Nat) (im : Nat) (le : List Nat) (ln : Nat) (ys : List Int32) (vt : Int32) (nu : List Nat) (nn : Nat) (rf : List Nat) (vw vq : Int32) (yc yh yg : List Int32) (m kk : kG) (q : cR) (hA : iA (he, ke, ki, fi, fa, or, mi, a, g, l, w, s)) (hB : iB le ln) (hC : iC nu nn) (hD : iD rf) (hJ : iJ m ys yc yh yg) (k0 : kSh kk) (x : Nat) (hx : x < 25) (y : Int32) (hyl : 0 ≤ y.toInt) (z : Int32) (hzu : z.toInt ≤ 1) (t : Int32) : mm_R 107 0 [some (.ref 100), some (.int (nI x)), some (.int y), some (.int z), some (.int t), none, none, none] [] (mk_M (cT im le ln ys vt nu nn rf vw vq yc yh yg) (kr (he, ke, ki, fi, fa, or, mi, a, g, l, w, s)) m kk q) (some (.long 4000000000000000004), (mk_M (cT im le ln ys vt nu nn (rf.set 4 (kg rf 4 + 1)) vw vq yc yh yg) (kr (he, ke, ki, fi, fa, or, mi, a, g, l, w, s)) m kk q)) := by
  obtain ⟨hV, hst⟩ := id hA
  have hst2 : s ≤ 999 := hst
  obtain ⟨v1, v2, v3, v4, v5, v6, v7, v8, v9, v10, v11, v12, v13, v14, v15, v16⟩ := id hV
  have v6l := kO_len mi v7 or v6
  obtain ⟨b1, b2, b3⟩ := id hB
  obtain ⟨c1, c2, c3⟩ := id hC
  have d1 : rf.length = 7 := hD
  obtain ⟨j0, j1, j2, j3, j4⟩ := id hJ
  refine mr_seg 1 (pc1 := 1) (ls1 := [some (.ref 100), some (.int (nI x)), some (.int y), some (.int z), some (.int t), none, none, none]) (st1 := [.int (nI x)]) (M1 := (mk_M (cT im le ln ys vt nu nn rf vw vq yc yh yg) (kr (he, ke, ki, fi, fa, or, mi, a, g, l, w, s)) m kk q)) (fun f => rfl) ?_
  refine mr_call (y := 37) (y0 := 4) (L := [some (.int (nI x))]) (rest := []) (rr := some (.int 1)) (M1 := (mk_M (cT im le ln ys vt nu nn rf vw vq yc yh yg) (kr (he, ke, ki, fi, fa, or, mi, a, g, l, w, s)) m kk q)) (fun f => rfl) (by
      refine mr_seg 1 (pc1 := 1) (ls1 := [some (.int (nI x))]) (st1 := [.int (nI x)]) (M1 := (mk_M (cT im le ln ys vt nu nn rf vw vq yc yh yg) (kr (he, ke, ki, fi, fa, or, mi, a, g, l, w, s)) m kk q)) (fun f => rfl) ?_
      refine mr_f (C := (nI x) < 0) (fun e_ => absurd ((nI_ltI (a := x) (b := 0) (by omega) (by omega)).mp e_) (by omega)) (fun f => rfl) ?_
      refine mr_seg 2 (pc1 := 7) (ls1 := [some (.int (nI x))]) (st1 := [.int 25, .int (nI x)]) (M1 := (mk_M (cT im le ln ys vt nu nn rf vw vq yc yh yg) (kr (he, ke, ki, fi, fa, or, mi, a, g, l, w, s)) m kk q)) (fun f => rfl) ?_
      refine mr_f (C := 25 ≤ (nI x)) (fun e_ => absurd ((nI_leI (a := 25) (b := x) (by omega) (by omega)).mp e_) (by omega)) (fun f => rfl) ?_
      exact mr_ret 3 (fun f => rfl)) ?_
  refine mr_seg 2 (pc1 := 14) (ls1 := [some (.ref 100), some (.int (nI x)), some (.int y), some (.int z), some (.int t), none, none, none]) (st1 := [.int y]) (M1 := (mk_M (cT im le ln ys vt nu nn rf vw vq yc yh yg) (kr (he, ke, ki, fi, fa, or, mi, a, g, l, w, s)) m kk q)) (fun f => rfl) ?_
  refine mr_f (C := y < 0) (mz_lt_f 0 (by decide) (by omega)) (fun f => rfl) ?_
  refine mr_seg 2 (pc1 := 19) (ls1 := [some (.ref 100), some (.int (nI x)), some (.int y), some (.int z), some (.int t), none, none, none]) (st1 := [.int 2, .int z]) (M1 := (mk_M (cT im le ln ys vt nu nn rf vw vq yc yh yg) (kr (he, ke, ki, fi, fa, or, mi, a, g, l, w, s)) m kk q)) (fun f => rfl) ?_
  refine mr_f (C := 2 ≤ z) (mz_ge_f 2 (by decide) (by omega)) (fun f => rfl) ?_
  refine mr_seg 2 (pc1 := 25) (ls1 := [some (.ref 100), some (.int (nI x)), some (.int y), some (.int z), some (.int t), none, none, none]) (st1 := [.int (-4), .ref 100]) (M1 := (mk_M (cT im le ln ys vt nu nn rf vw vq yc yh yg) (kr (he, ke, ki, fi, fa, or, mi, a, g, l, w, s)) m kk q)) (fun f => rfl) ?_
  refine mr_call (y := 108) (y0 := 28) (L := [some (.ref 100), some (.int (-4))]) (rest := []) (rr := some (.long 4000000000000000004)) (M1 := (mk_M (cT im le ln ys vt nu nn (rf.set 4 (kg rf 4 + 1)) vw vq yc yh yg) (kr (he, ke, ki, fi, fa, or, mi, a, g, l, w, s)) m kk q)) (fun f => rfl) (by
      refine mr_seg 3 (pc1 := 5) (ls1 := [some (.ref 100), some (.int (-4))]) (st1 := [.int (-4), .ref 100, .long 4000000000000000000]) (M1 := (mk_M (cT im le ln ys vt nu nn rf vw vq yc yh yg) (kr (he, ke, ki, fi, fa, or, mi, a, g, l, w, s)) m kk q)) (fun f => rfl) ?_
      refine mr_call (y := 12) (y0 := 8) (L := [some (.ref 100), some (.int (-4))]) (rest := [.long 4000000000000000000]) (rr := some (.int (-4))) (M1 := (mk_M (cT im le ln ys vt nu nn (rf.set 4 (kg rf 4 + 1)) vw vq yc yh yg) (kr (he, ke, ki, fi, fa, or, mi, a, g, l, w, s)) m kk q)) (fun f => rfl) (by
          refine mr_seg 5 (pc1 := 7) (ls1 := [some (.ref 100), some (.int (-4))]) (st1 := [.int 4, .ref 105, .int 4, .ref 105]) (M1 := (mk_M (cT im le ln ys vt nu nn rf vw vq yc yh yg) (kr (he, ke, ki, fi, fa, or, mi, a, g, l, w, s)) m kk q)) (fun f => rfl) ?_
          refine mr_ldn (xs := (rf.map nI)) rfl rfl (k := 4) (by omega) (kg_ok (by omega)) ?_
          refine mr_seg 2 (pc1 := 10) (ls1 := [some (.ref 100), some (.int (-4))]) (st1 := [.int ((nI (kg rf 4)) + 1), .int 4, .ref 105]) (M1 := (mk_M (cT im le ln ys vt nu nn rf vw vq yc yh yg) (kr (he, ke, ki, fi, fa, or, mi, a, g, l, w, s)) m kk q)) (fun f => rfl) ?_
          refine mr_v (nI_add (kg rf 4) 1) ?_
          refine mr_stn (xs := (rf.map nI)) (ys := ((rf.set 4 (kg rf 4 + 1)).map nI)) (M2 := (mk_M (cT im le ln ys vt nu nn (rf.set 4 (kg rf 4 + 1)) vw vq yc yh yg) (kr (he, ke, ki, fi, fa, or, mi, a, g, l, w, s)) m kk q)) rfl rfl (k := 4) (by omega) (by simp only [List.length_map, List.length_set]; omega) ks_ok rfl ?_
          exact mr_ret 2 (fun f => rfl)) ?_
      exact mr_ret 3 (fun f => rfl)) ?_
  exact mr_ret 1 (fun f => rfl)
set_option maxRecDepth 100000 in
theorem om_plank_3 (he ke ki fi fa or : List Nat) (mi a g l w s : Nat) (xm xi xw : List Int32) (im : Nat) (le nu rf : List Nat) (ln nn : Nat) (vp : Int32) (xn xc : List Int32) (vs : Int32) (c : cC) (n m kk : kG) (hA : iA (he, ke, ki, fi, fa, or, mi, a, g, l, w, s)) (hB : iB le ln) (hC : iC nu nn) (hD : iD rf) (hR : iR xm xw xn xc) (k1 : xi.length = 52) (x : Nat) (hx : x < 25) (y : Int32) (hyl : 0 ≤ y.toInt) (z : Int32) (hzu : z.toInt ≤ 1) (t : Int32) : mm_R 197 0 [some (.ref 138), some (.int (nI x)), some (.int y), some (.int z), some (.int t), none, none, none, none, none, none, none, none] [] (mk_M c n m kk (rT (he, ke, ki, fi, fa, or, mi, a, g, l, w, s) xm xi xw im le nu rf ln nn vp xn xc vs)) (some (.long 4000000000000000004), (mk_M c n m kk (rT (he, ke, ki, fi, fa, or, mi, a, g, l, w, s) xm xi xw im le nu (rf.set 4 (kg rf 4 + 1)) ln nn vp xn xc vs))) := by
  obtain ⟨hV, hst⟩ := id hA
  have hst2 : s ≤ 999 := hst
  obtain ⟨v1, v2, v3, v4, v5, v6, v7, v8, v9, v10, v11, v12, v13, v14, v15, v16⟩ := id hV
  have v6l := kO_len mi v7 or v6
  obtain ⟨b1, b2, b3⟩ := id hB
  obtain ⟨c1, c2, c3⟩ := id hC
  have d1 : rf.length = 7 := hD
  obtain ⟨r1, r2, r3, r4⟩ := id hR
  refine mr_seg 1 (pc1 := 1) (ls1 := [some (.ref 138), some (.int (nI x)), some (.int y), some (.int z), some (.int t), none, none, none, none, none, none, none, none]) (st1 := [.int (nI x)]) (M1 := (mk_M c n m kk (rT (he, ke, ki, fi, fa, or, mi, a, g, l, w, s) xm xi xw im le nu rf ln nn vp xn xc vs))) (fun f => rfl) ?_
  refine mr_call (y := 140) (y0 := 4) (L := [some (.int (nI x))]) (rest := []) (rr := some (.int 1)) (M1 := (mk_M c n m kk (rT (he, ke, ki, fi, fa, or, mi, a, g, l, w, s) xm xi xw im le nu rf ln nn vp xn xc vs))) (fun f => rfl) (by
      refine mr_seg 3 (pc1 := 4) (ls1 := [some (.int (nI x))]) (st1 := [.int 24, .int 0, .int (nI x)]) (M1 := (mk_M c n m kk (rT (he, ke, ki, fi, fa, or, mi, a, g, l, w, s) xm xi xw im le nu rf ln nn vp xn xc vs))) (fun f => rfl) ?_
      refine mr_call (y := 135) (y0 := 7) (L := [some (.int (nI x)), some (.int 0), some (.int 24)]) (rest := []) (rr := some (.int 1)) (M1 := (mk_M c n m kk (rT (he, ke, ki, fi, fa, or, mi, a, g, l, w, s) xm xi xw im le nu rf ln nn vp xn xc vs))) (fun f => rfl) (by
          refine mr_seg 2 (pc1 := 2) (ls1 := [some (.int (nI x)), some (.int 0), some (.int 24)]) (st1 := [.int 0, .int (nI x)]) (M1 := (mk_M c n m kk (rT (he, ke, ki, fi, fa, or, mi, a, g, l, w, s) xm xi xw im le nu rf ln nn vp xn xc vs))) (fun f => rfl) ?_
          refine mr_f (C := (nI x) < 0) (fun e_ => absurd ((nI_ltI (a := x) (b := 0) (by omega) (by omega)).mp e_) (by omega)) (fun f => rfl) ?_
          refine mr_seg 2 (pc1 := 7) (ls1 := [some (.int (nI x)), some (.int 0), some (.int 24)]) (st1 := [.int 24, .int (nI x)]) (M1 := (mk_M c n m kk (rT (he, ke, ki, fi, fa, or, mi, a, g, l, w, s) xm xi xw im le nu rf ln nn vp xn xc vs))) (fun f => rfl) ?_
          refine mr_f (C := 24 < (nI x)) (fun e_ => absurd ((nI_ltI (a := 24) (b := x) (by omega) (by omega)).mp e_) (by omega)) (fun f => rfl) ?_
          exact mr_ret 3 (fun f => rfl)) ?_
      exact mr_ret 1 (fun f => rfl)) ?_
  refine mr_seg 2 (pc1 := 14) (ls1 := [some (.ref 138), some (.int (nI x)), some (.int y), some (.int z), some (.int t), none, none, none, none, none, none, none, none]) (st1 := [.int y]) (M1 := (mk_M c n m kk (rT (he, ke, ki, fi, fa, or, mi, a, g, l, w, s) xm xi xw im le nu rf ln nn vp xn xc vs))) (fun f => rfl) ?_
  refine mr_f (C := y < 0) (mz_lt_f 0 (by decide) (by omega)) (fun f => rfl) ?_
  refine mr_seg 2 (pc1 := 19) (ls1 := [some (.ref 138), some (.int (nI x)), some (.int y), some (.int z), some (.int t), none, none, none, none, none, none, none, none]) (st1 := [.int 2, .int z]) (M1 := (mk_M c n m kk (rT (he, ke, ki, fi, fa, or, mi, a, g, l, w, s) xm xi xw im le nu rf ln nn vp xn xc vs))) (fun f => rfl) ?_
  refine mr_f (C := 2 ≤ z) (mz_ge_f 2 (by decide) (by omega)) (fun f => rfl) ?_
  refine mr_seg 2 (pc1 := 25) (ls1 := [some (.ref 138), some (.int (nI x)), some (.int y), some (.int z), some (.int t), none, none, none, none, none, none, none, none]) (st1 := [.int (-4), .ref 138]) (M1 := (mk_M c n m kk (rT (he, ke, ki, fi, fa, or, mi, a, g, l, w, s) xm xi xw im le nu rf ln nn vp xn xc vs))) (fun f => rfl) ?_
  refine mr_call (y := 198) (y0 := 28) (L := [some (.ref 138), some (.int (-4))]) (rest := []) (rr := some (.long 4000000000000000004)) (M1 := (mk_M c n m kk (rT (he, ke, ki, fi, fa, or, mi, a, g, l, w, s) xm xi xw im le nu (rf.set 4 (kg rf 4 + 1)) ln nn vp xn xc vs))) (fun f => rfl) (by
      refine mr_seg 3 (pc1 := 5) (ls1 := [some (.ref 138), some (.int (-4))]) (st1 := [.int (-4), .ref 138, .long 4000000000000000000]) (M1 := (mk_M c n m kk (rT (he, ke, ki, fi, fa, or, mi, a, g, l, w, s) xm xi xw im le nu rf ln nn vp xn xc vs))) (fun f => rfl) ?_
      refine mr_call (y := 130) (y0 := 8) (L := [some (.ref 138), some (.int (-4))]) (rest := [.long 4000000000000000000]) (rr := some (.int (-4))) (M1 := (mk_M c n m kk (rT (he, ke, ki, fi, fa, or, mi, a, g, l, w, s) xm xi xw im le nu (rf.set 4 (kg rf 4 + 1)) ln nn vp xn xc vs))) (fun f => rfl) (by
          refine mr_seg 5 (pc1 := 7) (ls1 := [some (.ref 138), some (.int (-4))]) (st1 := [.int 4, .ref 145, .int 4, .ref 145]) (M1 := (mk_M c n m kk (rT (he, ke, ki, fi, fa, or, mi, a, g, l, w, s) xm xi xw im le nu rf ln nn vp xn xc vs))) (fun f => rfl) ?_
          refine mr_ldn (xs := (rf.map nI)) rfl rfl (k := 4) (by omega) (kg_ok (by omega)) ?_
          refine mr_seg 2 (pc1 := 10) (ls1 := [some (.ref 138), some (.int (-4))]) (st1 := [.int ((nI (kg rf 4)) + 1), .int 4, .ref 145]) (M1 := (mk_M c n m kk (rT (he, ke, ki, fi, fa, or, mi, a, g, l, w, s) xm xi xw im le nu rf ln nn vp xn xc vs))) (fun f => rfl) ?_
          refine mr_v (nI_add (kg rf 4) 1) ?_
          refine mr_stn (xs := (rf.map nI)) (ys := ((rf.set 4 (kg rf 4 + 1)).map nI)) (M2 := (mk_M c n m kk (rT (he, ke, ki, fi, fa, or, mi, a, g, l, w, s) xm xi xw im le nu (rf.set 4 (kg rf 4 + 1)) ln nn vp xn xc vs))) rfl rfl (k := 4) (by omega) (by simp only [List.length_map, List.length_set]; omega) ks_ok rfl ?_
          exact mr_ret 2 (fun f => rfl)) ?_
      exact mr_ret 3 (fun f => rfl)) ?_
  exact mr_ret 1 (fun f => rfl)
theorem oe_plank_3 (he ke ki fi fa or : List Nat) (mi a g l w s : Nat) (m : kG) (kk : kG) (im : Nat) (le : List Nat) (ln : Nat) (ys : List Int32) (vt : Int32) (nu : List Nat) (nn : Nat) (rf : List Nat) (vw : Int32) (vq : Int32) (yc : List Int32) (yh : List Int32) (yg : List Int32) (xm : List Int32) (xi : List Int32) (xw : List Int32) (vp : Int32) (xn : List Int32) (xc : List Int32) (vs : Int32) (hA : iA (he, ke, ki, fi, fa, or, mi, a, g, l, w, s)) (hB : iB le ln) (hC : iC nu nn) (hD : iD rf) (hJ : iJ m ys yc yh yg) (hR : iR xm xw xn xc) (hK : iK im kk xi) (x : Nat) (hx : x < 25) (y : Int32) (hyl : 0 ≤ y.toInt) (z : Int32) (hzu : z.toInt ≤ 1) (t : Int32) : oL 107 197 [some (.ref 100), some (.int (nI x)), some (.int y), some (.int z), some (.int t), none, none, none] [some (.ref 138), some (.int (nI x)), some (.int y), some (.int z), some (.int t), none, none, none, none, none, none, none, none] (mk_M (cT im le ln ys vt nu nn rf vw vq yc yh yg) (kr (he, ke, ki, fi, fa, or, mi, a, g, l, w, s)) m kk (rT (he, ke, ki, fi, fa, or, mi, a, g, l, w, s) xm xi xw im le nu rf ln nn vp xn xc vs)) := by
  exact ⟨4000000000000000004, _, _, oc_plank_3 he ke ki fi fa or mi a g l w s im le ln ys vt nu nn rf vw vq yc yh yg m kk _ hA hB hC hD hJ hK.1 x hx y hyl z hzu t, om_plank_3 he ke ki fi fa or mi a g l w s xm xi xw im le nu rf ln nn vp xn xc vs _ _ _ _ hA hB hC hD hR hK.2.1 x hx y hyl z hzu t, (he, ke, ki, fi, fa, or, mi, a, g, l, w, s), m, kk, im, le, ln, ys, vt, nu, nn, (rf.set 4 (kg rf 4 + 1)), vw, vq, yc, yh, yg, xm, xi, xw, vp, xn, xc, vs, rfl, hA, hB, hC, iD_s hD, hJ, hR, hK⟩
set_option maxRecDepth 100000 in
theorem oc_plank_4 (he ke ki fi fa or : List Nat) (mi a g l w s : Nat) (im : Nat) (le : List Nat) (ln : Nat) (ys : List Int32) (vt : Int32) (nu : List Nat) (nn : Nat) (rf : List Nat) (vw vq : Int32) (yc yh yg : List Int32) (m kk : kG) (q : cR) (hA : iA (he, ke, ki, fi, fa, or, mi, a, g, l, w, s)) (hB : iB le ln) (hC : iC nu nn) (hD : iD rf) (hJ : iJ m ys yc yh yg) (k0 : kSh kk) (x : Nat) (hx : x < 25) (y : Int32) (hyl : 8 ≤ y.toInt) (z : Int32) (hzl : 2 ≤ z.toInt) (t : Int32) : mm_R 107 0 [some (.ref 100), some (.int (nI x)), some (.int y), some (.int z), some (.int t), none, none, none] [] (mk_M (cT im le ln ys vt nu nn rf vw vq yc yh yg) (kr (he, ke, ki, fi, fa, or, mi, a, g, l, w, s)) m kk q) (some (.long 4000000000000000006), (mk_M (cT im le ln ys vt nu nn (rf.set 6 (kg rf 6 + 1)) vw vq yc yh yg) (kr (he, ke, ki, fi, fa, or, mi, a, g, l, w, s)) m kk q)) := by
  obtain ⟨hV, hst⟩ := id hA
  have hst2 : s ≤ 999 := hst
  obtain ⟨v1, v2, v3, v4, v5, v6, v7, v8, v9, v10, v11, v12, v13, v14, v15, v16⟩ := id hV
  have v6l := kO_len mi v7 or v6
  obtain ⟨b1, b2, b3⟩ := id hB
  obtain ⟨c1, c2, c3⟩ := id hC
  have d1 : rf.length = 7 := hD
  obtain ⟨j0, j1, j2, j3, j4⟩ := id hJ
  refine mr_seg 1 (pc1 := 1) (ls1 := [some (.ref 100), some (.int (nI x)), some (.int y), some (.int z), some (.int t), none, none, none]) (st1 := [.int (nI x)]) (M1 := (mk_M (cT im le ln ys vt nu nn rf vw vq yc yh yg) (kr (he, ke, ki, fi, fa, or, mi, a, g, l, w, s)) m kk q)) (fun f => rfl) ?_
  refine mr_call (y := 37) (y0 := 4) (L := [some (.int (nI x))]) (rest := []) (rr := some (.int 1)) (M1 := (mk_M (cT im le ln ys vt nu nn rf vw vq yc yh yg) (kr (he, ke, ki, fi, fa, or, mi, a, g, l, w, s)) m kk q)) (fun f => rfl) (by
      refine mr_seg 1 (pc1 := 1) (ls1 := [some (.int (nI x))]) (st1 := [.int (nI x)]) (M1 := (mk_M (cT im le ln ys vt nu nn rf vw vq yc yh yg) (kr (he, ke, ki, fi, fa, or, mi, a, g, l, w, s)) m kk q)) (fun f => rfl) ?_
      refine mr_f (C := (nI x) < 0) (fun e_ => absurd ((nI_ltI (a := x) (b := 0) (by omega) (by omega)).mp e_) (by omega)) (fun f => rfl) ?_
      refine mr_seg 2 (pc1 := 7) (ls1 := [some (.int (nI x))]) (st1 := [.int 25, .int (nI x)]) (M1 := (mk_M (cT im le ln ys vt nu nn rf vw vq yc yh yg) (kr (he, ke, ki, fi, fa, or, mi, a, g, l, w, s)) m kk q)) (fun f => rfl) ?_
      refine mr_f (C := 25 ≤ (nI x)) (fun e_ => absurd ((nI_leI (a := 25) (b := x) (by omega) (by omega)).mp e_) (by omega)) (fun f => rfl) ?_
      exact mr_ret 3 (fun f => rfl)) ?_
  refine mr_seg 2 (pc1 := 14) (ls1 := [some (.ref 100), some (.int (nI x)), some (.int y), some (.int z), some (.int t), none, none, none]) (st1 := [.int y]) (M1 := (mk_M (cT im le ln ys vt nu nn rf vw vq yc yh yg) (kr (he, ke, ki, fi, fa, or, mi, a, g, l, w, s)) m kk q)) (fun f => rfl) ?_
  refine mr_f (C := y < 0) (mz_lt_f 0 (by decide) (by omega)) (fun f => rfl) ?_
  refine mr_seg 2 (pc1 := 19) (ls1 := [some (.ref 100), some (.int (nI x)), some (.int y), some (.int z), some (.int t), none, none, none]) (st1 := [.int 2, .int z]) (M1 := (mk_M (cT im le ln ys vt nu nn rf vw vq yc yh yg) (kr (he, ke, ki, fi, fa, or, mi, a, g, l, w, s)) m kk q)) (fun f => rfl) ?_
  refine mr_t (C := 2 ≤ z) (mz_ge_t 2 (by decide) (by omega)) (fun f => rfl) ?_
  refine mr_seg 2 (pc1 := 32) (ls1 := [some (.ref 100), some (.int (nI x)), some (.int y), some (.int z), some (.int t), none, none, none]) (st1 := [.int 7, .int y]) (M1 := (mk_M (cT im le ln ys vt nu nn rf vw vq yc yh yg) (kr (he, ke, ki, fi, fa, or, mi, a, g, l, w, s)) m kk q)) (fun f => rfl) ?_
  refine mr_t (C := 7 < y) (mz_gt_t 7 (by decide) (by omega)) (fun f => rfl) ?_
  refine mr_seg 2 (pc1 := 44) (ls1 := [some (.ref 100), some (.int (nI x)), some (.int y), some (.int z), some (.int t), none, none, none]) (st1 := [.int (-6), .ref 100]) (M1 := (mk_M (cT im le ln ys vt nu nn rf vw vq yc yh yg) (kr (he, ke, ki, fi, fa, or, mi, a, g, l, w, s)) m kk q)) (fun f => rfl) ?_
  refine mr_call (y := 108) (y0 := 47) (L := [some (.ref 100), some (.int (-6))]) (rest := []) (rr := some (.long 4000000000000000006)) (M1 := (mk_M (cT im le ln ys vt nu nn (rf.set 6 (kg rf 6 + 1)) vw vq yc yh yg) (kr (he, ke, ki, fi, fa, or, mi, a, g, l, w, s)) m kk q)) (fun f => rfl) (by
      refine mr_seg 3 (pc1 := 5) (ls1 := [some (.ref 100), some (.int (-6))]) (st1 := [.int (-6), .ref 100, .long 4000000000000000000]) (M1 := (mk_M (cT im le ln ys vt nu nn rf vw vq yc yh yg) (kr (he, ke, ki, fi, fa, or, mi, a, g, l, w, s)) m kk q)) (fun f => rfl) ?_
      refine mr_call (y := 12) (y0 := 8) (L := [some (.ref 100), some (.int (-6))]) (rest := [.long 4000000000000000000]) (rr := some (.int (-6))) (M1 := (mk_M (cT im le ln ys vt nu nn (rf.set 6 (kg rf 6 + 1)) vw vq yc yh yg) (kr (he, ke, ki, fi, fa, or, mi, a, g, l, w, s)) m kk q)) (fun f => rfl) (by
          refine mr_seg 5 (pc1 := 7) (ls1 := [some (.ref 100), some (.int (-6))]) (st1 := [.int 6, .ref 105, .int 6, .ref 105]) (M1 := (mk_M (cT im le ln ys vt nu nn rf vw vq yc yh yg) (kr (he, ke, ki, fi, fa, or, mi, a, g, l, w, s)) m kk q)) (fun f => rfl) ?_
          refine mr_ldn (xs := (rf.map nI)) rfl rfl (k := 6) (by omega) (kg_ok (by omega)) ?_
          refine mr_seg 2 (pc1 := 10) (ls1 := [some (.ref 100), some (.int (-6))]) (st1 := [.int ((nI (kg rf 6)) + 1), .int 6, .ref 105]) (M1 := (mk_M (cT im le ln ys vt nu nn rf vw vq yc yh yg) (kr (he, ke, ki, fi, fa, or, mi, a, g, l, w, s)) m kk q)) (fun f => rfl) ?_
          refine mr_v (nI_add (kg rf 6) 1) ?_
          refine mr_stn (xs := (rf.map nI)) (ys := ((rf.set 6 (kg rf 6 + 1)).map nI)) (M2 := (mk_M (cT im le ln ys vt nu nn (rf.set 6 (kg rf 6 + 1)) vw vq yc yh yg) (kr (he, ke, ki, fi, fa, or, mi, a, g, l, w, s)) m kk q)) rfl rfl (k := 6) (by omega) (by simp only [List.length_map, List.length_set]; omega) ks_ok rfl ?_
          exact mr_ret 2 (fun f => rfl)) ?_
      exact mr_ret 3 (fun f => rfl)) ?_
  exact mr_ret 1 (fun f => rfl)
set_option maxRecDepth 100000 in
theorem om_plank_4 (he ke ki fi fa or : List Nat) (mi a g l w s : Nat) (xm xi xw : List Int32) (im : Nat) (le nu rf : List Nat) (ln nn : Nat) (vp : Int32) (xn xc : List Int32) (vs : Int32) (c : cC) (n m kk : kG) (hA : iA (he, ke, ki, fi, fa, or, mi, a, g, l, w, s)) (hB : iB le ln) (hC : iC nu nn) (hD : iD rf) (hR : iR xm xw xn xc) (k1 : xi.length = 52) (x : Nat) (hx : x < 25) (y : Int32) (hyl : 8 ≤ y.toInt) (z : Int32) (hzl : 2 ≤ z.toInt) (t : Int32) : mm_R 197 0 [some (.ref 138), some (.int (nI x)), some (.int y), some (.int z), some (.int t), none, none, none, none, none, none, none, none] [] (mk_M c n m kk (rT (he, ke, ki, fi, fa, or, mi, a, g, l, w, s) xm xi xw im le nu rf ln nn vp xn xc vs)) (some (.long 4000000000000000006), (mk_M c n m kk (rT (he, ke, ki, fi, fa, or, mi, a, g, l, w, s) xm xi xw im le nu (rf.set 6 (kg rf 6 + 1)) ln nn vp xn xc vs))) := by
  obtain ⟨hV, hst⟩ := id hA
  have hst2 : s ≤ 999 := hst
  obtain ⟨v1, v2, v3, v4, v5, v6, v7, v8, v9, v10, v11, v12, v13, v14, v15, v16⟩ := id hV
  have v6l := kO_len mi v7 or v6
  obtain ⟨b1, b2, b3⟩ := id hB
  obtain ⟨c1, c2, c3⟩ := id hC
  have d1 : rf.length = 7 := hD
  obtain ⟨r1, r2, r3, r4⟩ := id hR
  refine mr_seg 1 (pc1 := 1) (ls1 := [some (.ref 138), some (.int (nI x)), some (.int y), some (.int z), some (.int t), none, none, none, none, none, none, none, none]) (st1 := [.int (nI x)]) (M1 := (mk_M c n m kk (rT (he, ke, ki, fi, fa, or, mi, a, g, l, w, s) xm xi xw im le nu rf ln nn vp xn xc vs))) (fun f => rfl) ?_
  refine mr_call (y := 140) (y0 := 4) (L := [some (.int (nI x))]) (rest := []) (rr := some (.int 1)) (M1 := (mk_M c n m kk (rT (he, ke, ki, fi, fa, or, mi, a, g, l, w, s) xm xi xw im le nu rf ln nn vp xn xc vs))) (fun f => rfl) (by
      refine mr_seg 3 (pc1 := 4) (ls1 := [some (.int (nI x))]) (st1 := [.int 24, .int 0, .int (nI x)]) (M1 := (mk_M c n m kk (rT (he, ke, ki, fi, fa, or, mi, a, g, l, w, s) xm xi xw im le nu rf ln nn vp xn xc vs))) (fun f => rfl) ?_
      refine mr_call (y := 135) (y0 := 7) (L := [some (.int (nI x)), some (.int 0), some (.int 24)]) (rest := []) (rr := some (.int 1)) (M1 := (mk_M c n m kk (rT (he, ke, ki, fi, fa, or, mi, a, g, l, w, s) xm xi xw im le nu rf ln nn vp xn xc vs))) (fun f => rfl) (by
          refine mr_seg 2 (pc1 := 2) (ls1 := [some (.int (nI x)), some (.int 0), some (.int 24)]) (st1 := [.int 0, .int (nI x)]) (M1 := (mk_M c n m kk (rT (he, ke, ki, fi, fa, or, mi, a, g, l, w, s) xm xi xw im le nu rf ln nn vp xn xc vs))) (fun f => rfl) ?_
          refine mr_f (C := (nI x) < 0) (fun e_ => absurd ((nI_ltI (a := x) (b := 0) (by omega) (by omega)).mp e_) (by omega)) (fun f => rfl) ?_
          refine mr_seg 2 (pc1 := 7) (ls1 := [some (.int (nI x)), some (.int 0), some (.int 24)]) (st1 := [.int 24, .int (nI x)]) (M1 := (mk_M c n m kk (rT (he, ke, ki, fi, fa, or, mi, a, g, l, w, s) xm xi xw im le nu rf ln nn vp xn xc vs))) (fun f => rfl) ?_
          refine mr_f (C := 24 < (nI x)) (fun e_ => absurd ((nI_ltI (a := 24) (b := x) (by omega) (by omega)).mp e_) (by omega)) (fun f => rfl) ?_
          exact mr_ret 3 (fun f => rfl)) ?_
      exact mr_ret 1 (fun f => rfl)) ?_
  refine mr_seg 2 (pc1 := 14) (ls1 := [some (.ref 138), some (.int (nI x)), some (.int y), some (.int z), some (.int t), none, none, none, none, none, none, none, none]) (st1 := [.int y]) (M1 := (mk_M c n m kk (rT (he, ke, ki, fi, fa, or, mi, a, g, l, w, s) xm xi xw im le nu rf ln nn vp xn xc vs))) (fun f => rfl) ?_
  refine mr_f (C := y < 0) (mz_lt_f 0 (by decide) (by omega)) (fun f => rfl) ?_
  refine mr_seg 2 (pc1 := 19) (ls1 := [some (.ref 138), some (.int (nI x)), some (.int y), some (.int z), some (.int t), none, none, none, none, none, none, none, none]) (st1 := [.int 2, .int z]) (M1 := (mk_M c n m kk (rT (he, ke, ki, fi, fa, or, mi, a, g, l, w, s) xm xi xw im le nu rf ln nn vp xn xc vs))) (fun f => rfl) ?_
  refine mr_t (C := 2 ≤ z) (mz_ge_t 2 (by decide) (by omega)) (fun f => rfl) ?_
  refine mr_seg 2 (pc1 := 32) (ls1 := [some (.ref 138), some (.int (nI x)), some (.int y), some (.int z), some (.int t), none, none, none, none, none, none, none, none]) (st1 := [.int 7, .int y]) (M1 := (mk_M c n m kk (rT (he, ke, ki, fi, fa, or, mi, a, g, l, w, s) xm xi xw im le nu rf ln nn vp xn xc vs))) (fun f => rfl) ?_
  refine mr_t (C := 7 < y) (mz_gt_t 7 (by decide) (by omega)) (fun f => rfl) ?_
  refine mr_seg 2 (pc1 := 44) (ls1 := [some (.ref 138), some (.int (nI x)), some (.int y), some (.int z), some (.int t), none, none, none, none, none, none, none, none]) (st1 := [.int (-6), .ref 138]) (M1 := (mk_M c n m kk (rT (he, ke, ki, fi, fa, or, mi, a, g, l, w, s) xm xi xw im le nu rf ln nn vp xn xc vs))) (fun f => rfl) ?_
  refine mr_call (y := 198) (y0 := 47) (L := [some (.ref 138), some (.int (-6))]) (rest := []) (rr := some (.long 4000000000000000006)) (M1 := (mk_M c n m kk (rT (he, ke, ki, fi, fa, or, mi, a, g, l, w, s) xm xi xw im le nu (rf.set 6 (kg rf 6 + 1)) ln nn vp xn xc vs))) (fun f => rfl) (by
      refine mr_seg 3 (pc1 := 5) (ls1 := [some (.ref 138), some (.int (-6))]) (st1 := [.int (-6), .ref 138, .long 4000000000000000000]) (M1 := (mk_M c n m kk (rT (he, ke, ki, fi, fa, or, mi, a, g, l, w, s) xm xi xw im le nu rf ln nn vp xn xc vs))) (fun f => rfl) ?_
      refine mr_call (y := 130) (y0 := 8) (L := [some (.ref 138), some (.int (-6))]) (rest := [.long 4000000000000000000]) (rr := some (.int (-6))) (M1 := (mk_M c n m kk (rT (he, ke, ki, fi, fa, or, mi, a, g, l, w, s) xm xi xw im le nu (rf.set 6 (kg rf 6 + 1)) ln nn vp xn xc vs))) (fun f => rfl) (by
          refine mr_seg 5 (pc1 := 7) (ls1 := [some (.ref 138), some (.int (-6))]) (st1 := [.int 6, .ref 145, .int 6, .ref 145]) (M1 := (mk_M c n m kk (rT (he, ke, ki, fi, fa, or, mi, a, g, l, w, s) xm xi xw im le nu rf ln nn vp xn xc vs))) (fun f => rfl) ?_
          refine mr_ldn (xs := (rf.map nI)) rfl rfl (k := 6) (by omega) (kg_ok (by omega)) ?_
          refine mr_seg 2 (pc1 := 10) (ls1 := [some (.ref 138), some (.int (-6))]) (st1 := [.int ((nI (kg rf 6)) + 1), .int 6, .ref 145]) (M1 := (mk_M c n m kk (rT (he, ke, ki, fi, fa, or, mi, a, g, l, w, s) xm xi xw im le nu rf ln nn vp xn xc vs))) (fun f => rfl) ?_
          refine mr_v (nI_add (kg rf 6) 1) ?_
          refine mr_stn (xs := (rf.map nI)) (ys := ((rf.set 6 (kg rf 6 + 1)).map nI)) (M2 := (mk_M c n m kk (rT (he, ke, ki, fi, fa, or, mi, a, g, l, w, s) xm xi xw im le nu (rf.set 6 (kg rf 6 + 1)) ln nn vp xn xc vs))) rfl rfl (k := 6) (by omega) (by simp only [List.length_map, List.length_set]; omega) ks_ok rfl ?_
          exact mr_ret 2 (fun f => rfl)) ?_
      exact mr_ret 3 (fun f => rfl)) ?_
  exact mr_ret 1 (fun f => rfl)
theorem oe_plank_4 (he ke ki fi fa or : List Nat) (mi a g l w s : Nat) (m : kG) (kk : kG) (im : Nat) (le : List Nat) (ln : Nat) (ys : List Int32) (vt : Int32) (nu : List Nat) (nn : Nat) (rf : List Nat) (vw : Int32) (vq : Int32) (yc : List Int32) (yh : List Int32) (yg : List Int32) (xm : List Int32) (xi : List Int32) (xw : List Int32) (vp : Int32) (xn : List Int32) (xc : List Int32) (vs : Int32) (hA : iA (he, ke, ki, fi, fa, or, mi, a, g, l, w, s)) (hB : iB le ln) (hC : iC nu nn) (hD : iD rf) (hJ : iJ m ys yc yh yg) (hR : iR xm xw xn xc) (hK : iK im kk xi) (x : Nat) (hx : x < 25) (y : Int32) (hyl : 8 ≤ y.toInt) (z : Int32) (hzl : 2 ≤ z.toInt) (t : Int32) : oL 107 197 [some (.ref 100), some (.int (nI x)), some (.int y), some (.int z), some (.int t), none, none, none] [some (.ref 138), some (.int (nI x)), some (.int y), some (.int z), some (.int t), none, none, none, none, none, none, none, none] (mk_M (cT im le ln ys vt nu nn rf vw vq yc yh yg) (kr (he, ke, ki, fi, fa, or, mi, a, g, l, w, s)) m kk (rT (he, ke, ki, fi, fa, or, mi, a, g, l, w, s) xm xi xw im le nu rf ln nn vp xn xc vs)) := by
  exact ⟨4000000000000000006, _, _, oc_plank_4 he ke ki fi fa or mi a g l w s im le ln ys vt nu nn rf vw vq yc yh yg m kk _ hA hB hC hD hJ hK.1 x hx y hyl z hzl t, om_plank_4 he ke ki fi fa or mi a g l w s xm xi xw im le nu rf ln nn vp xn xc vs _ _ _ _ hA hB hC hD hR hK.2.1 x hx y hyl z hzl t, (he, ke, ki, fi, fa, or, mi, a, g, l, w, s), m, kk, im, le, ln, ys, vt, nu, nn, (rf.set 6 (kg rf 6 + 1)), vw, vq, yc, yh, yg, xm, xi, xw, vp, xn, xc, vs, rfl, hA, hB, hC, iD_s hD, hJ, hR, hK⟩
set_option maxRecDepth 100000 in
theorem oc_plank_5 (he ke ki fi fa or : List Nat) (mi a g l w s : Nat) (im : Nat) (le : List Nat) (ln : Nat) (ys : List Int32) (vt : Int32) (nu : List Nat) (nn : Nat) (rf : List Nat) (vw vq : Int32) (yc yh yg : List Int32) (m kk : kG) (q : cR) (hA : iA (he, ke, ki, fi, fa, or, mi, a, g, l, w, s)) (hB : iB le ln) (hC : iC nu nn) (hD : iD rf) (hJ : iJ m ys yc yh yg) (k0 : kSh kk) (x : Nat) (hx : x < 25) (y : Nat) (hy : y < 8) (z : Int32) (hzl : 21 ≤ z.toInt) (t : Int32) : mm_R 107 0 [some (.ref 100), some (.int (nI x)), some (.int (nI y)), some (.int z), some (.int t), none, none, none] [] (mk_M (cT im le ln ys vt nu nn rf vw vq yc yh yg) (kr (he, ke, ki, fi, fa, or, mi, a, g, l, w, s)) m kk q) (some (.long 4000000000000000006), (mk_M (cT im le ln ys vt nu nn (rf.set 6 (kg rf 6 + 1)) vw vq yc yh yg) (kr (he, ke, ki, fi, fa, or, mi, a, g, l, w, s)) m kk q)) := by
  obtain ⟨hV, hst⟩ := id hA
  have hst2 : s ≤ 999 := hst
  obtain ⟨v1, v2, v3, v4, v5, v6, v7, v8, v9, v10, v11, v12, v13, v14, v15, v16⟩ := id hV
  have v6l := kO_len mi v7 or v6
  obtain ⟨b1, b2, b3⟩ := id hB
  obtain ⟨c1, c2, c3⟩ := id hC
  have d1 : rf.length = 7 := hD
  obtain ⟨j0, j1, j2, j3, j4⟩ := id hJ
  refine mr_seg 1 (pc1 := 1) (ls1 := [some (.ref 100), some (.int (nI x)), some (.int (nI y)), some (.int z), some (.int t), none, none, none]) (st1 := [.int (nI x)]) (M1 := (mk_M (cT im le ln ys vt nu nn rf vw vq yc yh yg) (kr (he, ke, ki, fi, fa, or, mi, a, g, l, w, s)) m kk q)) (fun f => rfl) ?_
  refine mr_call (y := 37) (y0 := 4) (L := [some (.int (nI x))]) (rest := []) (rr := some (.int 1)) (M1 := (mk_M (cT im le ln ys vt nu nn rf vw vq yc yh yg) (kr (he, ke, ki, fi, fa, or, mi, a, g, l, w, s)) m kk q)) (fun f => rfl) (by
      refine mr_seg 1 (pc1 := 1) (ls1 := [some (.int (nI x))]) (st1 := [.int (nI x)]) (M1 := (mk_M (cT im le ln ys vt nu nn rf vw vq yc yh yg) (kr (he, ke, ki, fi, fa, or, mi, a, g, l, w, s)) m kk q)) (fun f => rfl) ?_
      refine mr_f (C := (nI x) < 0) (fun e_ => absurd ((nI_ltI (a := x) (b := 0) (by omega) (by omega)).mp e_) (by omega)) (fun f => rfl) ?_
      refine mr_seg 2 (pc1 := 7) (ls1 := [some (.int (nI x))]) (st1 := [.int 25, .int (nI x)]) (M1 := (mk_M (cT im le ln ys vt nu nn rf vw vq yc yh yg) (kr (he, ke, ki, fi, fa, or, mi, a, g, l, w, s)) m kk q)) (fun f => rfl) ?_
      refine mr_f (C := 25 ≤ (nI x)) (fun e_ => absurd ((nI_leI (a := 25) (b := x) (by omega) (by omega)).mp e_) (by omega)) (fun f => rfl) ?_
      exact mr_ret 3 (fun f => rfl)) ?_
  refine mr_seg 2 (pc1 := 14) (ls1 := [some (.ref 100), some (.int (nI x)), some (.int (nI y)), some (.int z), some (.int t), none, none, none]) (st1 := [.int (nI y)]) (M1 := (mk_M (cT im le ln ys vt nu nn rf vw vq yc yh yg) (kr (he, ke, ki, fi, fa, or, mi, a, g, l, w, s)) m kk q)) (fun f => rfl) ?_
  refine mr_f (C := (nI y) < 0) (fun e_ => absurd ((nI_ltI (a := y) (b := 0) (by omega) (by omega)).mp e_) (by omega)) (fun f => rfl) ?_
  refine mr_seg 2 (pc1 := 19) (ls1 := [some (.ref 100), some (.int (nI x)), some (.int (nI y)), some (.int z), some (.int t), none, none, none]) (st1 := [.int 2, .int z]) (M1 := (mk_M (cT im le ln ys vt nu nn rf vw vq yc yh yg) (kr (he, ke, ki, fi, fa, or, mi, a, g, l, w, s)) m kk q)) (fun f => rfl) ?_
  refine mr_t (C := 2 ≤ z) (mz_ge_t 2 (by decide) (by omega)) (fun f => rfl) ?_
  refine mr_seg 2 (pc1 := 32) (ls1 := [some (.ref 100), some (.int (nI x)), some (.int (nI y)), some (.int z), some (.int t), none, none, none]) (st1 := [.int 7, .int (nI y)]) (M1 := (mk_M (cT im le ln ys vt nu nn rf vw vq yc yh yg) (kr (he, ke, ki, fi, fa, or, mi, a, g, l, w, s)) m kk q)) (fun f => rfl) ?_
  refine mr_f (C := 7 < (nI y)) (fun e_ => absurd ((nI_ltI (a := 7) (b := y) (by omega) (by omega)).mp e_) (by omega)) (fun f => rfl) ?_
  refine mr_seg 2 (pc1 := 38) (ls1 := [some (.ref 100), some (.int (nI x)), some (.int (nI y)), some (.int z), some (.int t), none, none, none]) (st1 := [.int 20, .int z]) (M1 := (mk_M (cT im le ln ys vt nu nn rf vw vq yc yh yg) (kr (he, ke, ki, fi, fa, or, mi, a, g, l, w, s)) m kk q)) (fun f => rfl) ?_
  refine mr_f (C := z ≤ 20) (mz_le_f 20 (by decide) (by omega)) (fun f => rfl) ?_
  refine mr_seg 2 (pc1 := 44) (ls1 := [some (.ref 100), some (.int (nI x)), some (.int (nI y)), some (.int z), some (.int t), none, none, none]) (st1 := [.int (-6), .ref 100]) (M1 := (mk_M (cT im le ln ys vt nu nn rf vw vq yc yh yg) (kr (he, ke, ki, fi, fa, or, mi, a, g, l, w, s)) m kk q)) (fun f => rfl) ?_
  refine mr_call (y := 108) (y0 := 47) (L := [some (.ref 100), some (.int (-6))]) (rest := []) (rr := some (.long 4000000000000000006)) (M1 := (mk_M (cT im le ln ys vt nu nn (rf.set 6 (kg rf 6 + 1)) vw vq yc yh yg) (kr (he, ke, ki, fi, fa, or, mi, a, g, l, w, s)) m kk q)) (fun f => rfl) (by
      refine mr_seg 3 (pc1 := 5) (ls1 := [some (.ref 100), some (.int (-6))]) (st1 := [.int (-6), .ref 100, .long 4000000000000000000]) (M1 := (mk_M (cT im le ln ys vt nu nn rf vw vq yc yh yg) (kr (he, ke, ki, fi, fa, or, mi, a, g, l, w, s)) m kk q)) (fun f => rfl) ?_
      refine mr_call (y := 12) (y0 := 8) (L := [some (.ref 100), some (.int (-6))]) (rest := [.long 4000000000000000000]) (rr := some (.int (-6))) (M1 := (mk_M (cT im le ln ys vt nu nn (rf.set 6 (kg rf 6 + 1)) vw vq yc yh yg) (kr (he, ke, ki, fi, fa, or, mi, a, g, l, w, s)) m kk q)) (fun f => rfl) (by
          refine mr_seg 5 (pc1 := 7) (ls1 := [some (.ref 100), some (.int (-6))]) (st1 := [.int 6, .ref 105, .int 6, .ref 105]) (M1 := (mk_M (cT im le ln ys vt nu nn rf vw vq yc yh yg) (kr (he, ke, ki, fi, fa, or, mi, a, g, l, w, s)) m kk q)) (fun f => rfl) ?_
          refine mr_ldn (xs := (rf.map nI)) rfl rfl (k := 6) (by omega) (kg_ok (by omega)) ?_
          refine mr_seg 2 (pc1 := 10) (ls1 := [some (.ref 100), some (.int (-6))]) (st1 := [.int ((nI (kg rf 6)) + 1), .int 6, .ref 105]) (M1 := (mk_M (cT im le ln ys vt nu nn rf vw vq yc yh yg) (kr (he, ke, ki, fi, fa, or, mi, a, g, l, w, s)) m kk q)) (fun f => rfl) ?_
          refine mr_v (nI_add (kg rf 6) 1) ?_
          refine mr_stn (xs := (rf.map nI)) (ys := ((rf.set 6 (kg rf 6 + 1)).map nI)) (M2 := (mk_M (cT im le ln ys vt nu nn (rf.set 6 (kg rf 6 + 1)) vw vq yc yh yg) (kr (he, ke, ki, fi, fa, or, mi, a, g, l, w, s)) m kk q)) rfl rfl (k := 6) (by omega) (by simp only [List.length_map, List.length_set]; omega) ks_ok rfl ?_
          exact mr_ret 2 (fun f => rfl)) ?_
      exact mr_ret 3 (fun f => rfl)) ?_
  exact mr_ret 1 (fun f => rfl)
set_option maxRecDepth 100000 in
theorem om_plank_5 (he ke ki fi fa or : List Nat) (mi a g l w s : Nat) (xm xi xw : List Int32) (im : Nat) (le nu rf : List Nat) (ln nn : Nat) (vp : Int32) (xn xc : List Int32) (vs : Int32) (c : cC) (n m kk : kG) (hA : iA (he, ke, ki, fi, fa, or, mi, a, g, l, w, s)) (hB : iB le ln) (hC : iC nu nn) (hD : iD rf) (hR : iR xm xw xn xc) (k1 : xi.length = 52) (x : Nat) (hx : x < 25) (y : Nat) (hy : y < 8) (z : Int32) (hzl : 21 ≤ z.toInt) (t : Int32) : mm_R 197 0 [some (.ref 138), some (.int (nI x)), some (.int (nI y)), some (.int z), some (.int t), none, none, none, none, none, none, none, none] [] (mk_M c n m kk (rT (he, ke, ki, fi, fa, or, mi, a, g, l, w, s) xm xi xw im le nu rf ln nn vp xn xc vs)) (some (.long 4000000000000000006), (mk_M c n m kk (rT (he, ke, ki, fi, fa, or, mi, a, g, l, w, s) xm xi xw im le nu (rf.set 6 (kg rf 6 + 1)) ln nn vp xn xc vs))) := by
  obtain ⟨hV, hst⟩ := id hA
  have hst2 : s ≤ 999 := hst
  obtain ⟨v1, v2, v3, v4, v5, v6, v7, v8, v9, v10, v11, v12, v13, v14, v15, v16⟩ := id hV
  have v6l := kO_len mi v7 or v6
  obtain ⟨b1, b2, b3⟩ := id hB
  obtain ⟨c1, c2, c3⟩ := id hC
  have d1 : rf.length = 7 := hD
  obtain ⟨r1, r2, r3, r4⟩ := id hR
  refine mr_seg 1 (pc1 := 1) (ls1 := [some (.ref 138), some (.int (nI x)), some (.int (nI y)), some (.int z), some (.int t), none, none, none, none, none, none, none, none]) (st1 := [.int (nI x)]) (M1 := (mk_M c n m kk (rT (he, ke, ki, fi, fa, or, mi, a, g, l, w, s) xm xi xw im le nu rf ln nn vp xn xc vs))) (fun f => rfl) ?_
  refine mr_call (y := 140) (y0 := 4) (L := [some (.int (nI x))]) (rest := []) (rr := some (.int 1)) (M1 := (mk_M c n m kk (rT (he, ke, ki, fi, fa, or, mi, a, g, l, w, s) xm xi xw im le nu rf ln nn vp xn xc vs))) (fun f => rfl) (by
      refine mr_seg 3 (pc1 := 4) (ls1 := [some (.int (nI x))]) (st1 := [.int 24, .int 0, .int (nI x)]) (M1 := (mk_M c n m kk (rT (he, ke, ki, fi, fa, or, mi, a, g, l, w, s) xm xi xw im le nu rf ln nn vp xn xc vs))) (fun f => rfl) ?_
      refine mr_call (y := 135) (y0 := 7) (L := [some (.int (nI x)), some (.int 0), some (.int 24)]) (rest := []) (rr := some (.int 1)) (M1 := (mk_M c n m kk (rT (he, ke, ki, fi, fa, or, mi, a, g, l, w, s) xm xi xw im le nu rf ln nn vp xn xc vs))) (fun f => rfl) (by
          refine mr_seg 2 (pc1 := 2) (ls1 := [some (.int (nI x)), some (.int 0), some (.int 24)]) (st1 := [.int 0, .int (nI x)]) (M1 := (mk_M c n m kk (rT (he, ke, ki, fi, fa, or, mi, a, g, l, w, s) xm xi xw im le nu rf ln nn vp xn xc vs))) (fun f => rfl) ?_
          refine mr_f (C := (nI x) < 0) (fun e_ => absurd ((nI_ltI (a := x) (b := 0) (by omega) (by omega)).mp e_) (by omega)) (fun f => rfl) ?_
          refine mr_seg 2 (pc1 := 7) (ls1 := [some (.int (nI x)), some (.int 0), some (.int 24)]) (st1 := [.int 24, .int (nI x)]) (M1 := (mk_M c n m kk (rT (he, ke, ki, fi, fa, or, mi, a, g, l, w, s) xm xi xw im le nu rf ln nn vp xn xc vs))) (fun f => rfl) ?_
          refine mr_f (C := 24 < (nI x)) (fun e_ => absurd ((nI_ltI (a := 24) (b := x) (by omega) (by omega)).mp e_) (by omega)) (fun f => rfl) ?_
          exact mr_ret 3 (fun f => rfl)) ?_
      exact mr_ret 1 (fun f => rfl)) ?_
  refine mr_seg 2 (pc1 := 14) (ls1 := [some (.ref 138), some (.int (nI x)), some (.int (nI y)), some (.int z), some (.int t), none, none, none, none, none, none, none, none]) (st1 := [.int (nI y)]) (M1 := (mk_M c n m kk (rT (he, ke, ki, fi, fa, or, mi, a, g, l, w, s) xm xi xw im le nu rf ln nn vp xn xc vs))) (fun f => rfl) ?_
  refine mr_f (C := (nI y) < 0) (fun e_ => absurd ((nI_ltI (a := y) (b := 0) (by omega) (by omega)).mp e_) (by omega)) (fun f => rfl) ?_
  refine mr_seg 2 (pc1 := 19) (ls1 := [some (.ref 138), some (.int (nI x)), some (.int (nI y)), some (.int z), some (.int t), none, none, none, none, none, none, none, none]) (st1 := [.int 2, .int z]) (M1 := (mk_M c n m kk (rT (he, ke, ki, fi, fa, or, mi, a, g, l, w, s) xm xi xw im le nu rf ln nn vp xn xc vs))) (fun f => rfl) ?_
  refine mr_t (C := 2 ≤ z) (mz_ge_t 2 (by decide) (by omega)) (fun f => rfl) ?_
  refine mr_seg 2 (pc1 := 32) (ls1 := [some (.ref 138), some (.int (nI x)), some (.int (nI y)), some (.int z), some (.int t), none, none, none, none, none, none, none, none]) (st1 := [.int 7, .int (nI y)]) (M1 := (mk_M c n m kk (rT (he, ke, ki, fi, fa, or, mi, a, g, l, w, s) xm xi xw im le nu rf ln nn vp xn xc vs))) (fun f => rfl) ?_
  refine mr_f (C := 7 < (nI y)) (fun e_ => absurd ((nI_ltI (a := 7) (b := y) (by omega) (by omega)).mp e_) (by omega)) (fun f => rfl) ?_
  refine mr_seg 2 (pc1 := 38) (ls1 := [some (.ref 138), some (.int (nI x)), some (.int (nI y)), some (.int z), some (.int t), none, none, none, none, none, none, none, none]) (st1 := [.int 20, .int z]) (M1 := (mk_M c n m kk (rT (he, ke, ki, fi, fa, or, mi, a, g, l, w, s) xm xi xw im le nu rf ln nn vp xn xc vs))) (fun f => rfl) ?_
  refine mr_f (C := z ≤ 20) (mz_le_f 20 (by decide) (by omega)) (fun f => rfl) ?_
  refine mr_seg 2 (pc1 := 44) (ls1 := [some (.ref 138), some (.int (nI x)), some (.int (nI y)), some (.int z), some (.int t), none, none, none, none, none, none, none, none]) (st1 := [.int (-6), .ref 138]) (M1 := (mk_M c n m kk (rT (he, ke, ki, fi, fa, or, mi, a, g, l, w, s) xm xi xw im le nu rf ln nn vp xn xc vs))) (fun f => rfl) ?_
  refine mr_call (y := 198) (y0 := 47) (L := [some (.ref 138), some (.int (-6))]) (rest := []) (rr := some (.long 4000000000000000006)) (M1 := (mk_M c n m kk (rT (he, ke, ki, fi, fa, or, mi, a, g, l, w, s) xm xi xw im le nu (rf.set 6 (kg rf 6 + 1)) ln nn vp xn xc vs))) (fun f => rfl) (by
      refine mr_seg 3 (pc1 := 5) (ls1 := [some (.ref 138), some (.int (-6))]) (st1 := [.int (-6), .ref 138, .long 4000000000000000000]) (M1 := (mk_M c n m kk (rT (he, ke, ki, fi, fa, or, mi, a, g, l, w, s) xm xi xw im le nu rf ln nn vp xn xc vs))) (fun f => rfl) ?_
      refine mr_call (y := 130) (y0 := 8) (L := [some (.ref 138), some (.int (-6))]) (rest := [.long 4000000000000000000]) (rr := some (.int (-6))) (M1 := (mk_M c n m kk (rT (he, ke, ki, fi, fa, or, mi, a, g, l, w, s) xm xi xw im le nu (rf.set 6 (kg rf 6 + 1)) ln nn vp xn xc vs))) (fun f => rfl) (by
          refine mr_seg 5 (pc1 := 7) (ls1 := [some (.ref 138), some (.int (-6))]) (st1 := [.int 6, .ref 145, .int 6, .ref 145]) (M1 := (mk_M c n m kk (rT (he, ke, ki, fi, fa, or, mi, a, g, l, w, s) xm xi xw im le nu rf ln nn vp xn xc vs))) (fun f => rfl) ?_
          refine mr_ldn (xs := (rf.map nI)) rfl rfl (k := 6) (by omega) (kg_ok (by omega)) ?_
          refine mr_seg 2 (pc1 := 10) (ls1 := [some (.ref 138), some (.int (-6))]) (st1 := [.int ((nI (kg rf 6)) + 1), .int 6, .ref 145]) (M1 := (mk_M c n m kk (rT (he, ke, ki, fi, fa, or, mi, a, g, l, w, s) xm xi xw im le nu rf ln nn vp xn xc vs))) (fun f => rfl) ?_
          refine mr_v (nI_add (kg rf 6) 1) ?_
          refine mr_stn (xs := (rf.map nI)) (ys := ((rf.set 6 (kg rf 6 + 1)).map nI)) (M2 := (mk_M c n m kk (rT (he, ke, ki, fi, fa, or, mi, a, g, l, w, s) xm xi xw im le nu (rf.set 6 (kg rf 6 + 1)) ln nn vp xn xc vs))) rfl rfl (k := 6) (by omega) (by simp only [List.length_map, List.length_set]; omega) ks_ok rfl ?_
          exact mr_ret 2 (fun f => rfl)) ?_
      exact mr_ret 3 (fun f => rfl)) ?_
  exact mr_ret 1 (fun f => rfl)
theorem oe_plank_5 (he ke ki fi fa or : List Nat) (mi a g l w s : Nat) (m : kG) (kk : kG) (im : Nat) (le : List Nat) (ln : Nat) (ys : List Int32) (vt : Int32) (nu : List Nat) (nn : Nat) (rf : List Nat) (vw : Int32) (vq : Int32) (yc : List Int32) (yh : List Int32) (yg : List Int32) (xm : List Int32) (xi : List Int32) (xw : List Int32) (vp : Int32) (xn : List Int32) (xc : List Int32) (vs : Int32) (hA : iA (he, ke, ki, fi, fa, or, mi, a, g, l, w, s)) (hB : iB le ln) (hC : iC nu nn) (hD : iD rf) (hJ : iJ m ys yc yh yg) (hR : iR xm xw xn xc) (hK : iK im kk xi) (x : Nat) (hx : x < 25) (y : Nat) (hy : y < 8) (z : Int32) (hzl : 21 ≤ z.toInt) (t : Int32) : oL 107 197 [some (.ref 100), some (.int (nI x)), some (.int (nI y)), some (.int z), some (.int t), none, none, none] [some (.ref 138), some (.int (nI x)), some (.int (nI y)), some (.int z), some (.int t), none, none, none, none, none, none, none, none] (mk_M (cT im le ln ys vt nu nn rf vw vq yc yh yg) (kr (he, ke, ki, fi, fa, or, mi, a, g, l, w, s)) m kk (rT (he, ke, ki, fi, fa, or, mi, a, g, l, w, s) xm xi xw im le nu rf ln nn vp xn xc vs)) := by
  exact ⟨4000000000000000006, _, _, oc_plank_5 he ke ki fi fa or mi a g l w s im le ln ys vt nu nn rf vw vq yc yh yg m kk _ hA hB hC hD hJ hK.1 x hx y hy z hzl t, om_plank_5 he ke ki fi fa or mi a g l w s xm xi xw im le nu rf ln nn vp xn xc vs _ _ _ _ hA hB hC hD hR hK.2.1 x hx y hy z hzl t, (he, ke, ki, fi, fa, or, mi, a, g, l, w, s), m, kk, im, le, ln, ys, vt, nu, nn, (rf.set 6 (kg rf 6 + 1)), vw, vq, yc, yh, yg, xm, xi, xw, vp, xn, xc, vs, rfl, hA, hB, hC, iD_s hD, hJ, hR, hK⟩
set_option maxRecDepth 100000 in
theorem oc_plank_6 (he ke ki fi fa or : List Nat) (mi a g l w s : Nat) (im : Nat) (le : List Nat) (ln : Nat) (ys : List Int32) (vt : Int32) (nu : List Nat) (nn : Nat) (rf : List Nat) (vw vq : Int32) (yc yh yg : List Int32) (m kk : kG) (q : cR) (hA : iA (he, ke, ki, fi, fa, or, mi, a, g, l, w, s)) (hB : iB le ln) (hC : iC nu nn) (hD : iD rf) (hJ : iJ m ys yc yh yg) (k0 : kSh kk) (x : Nat) (hx : x < 25) (y : Nat) (hy : y < 8) (z : Nat) (hz1 : 2 ≤ z) (hz : z ≤ 20) (t : Int32) (htu : t.toInt ≤ -1) : mm_R 107 0 [some (.ref 100), some (.int (nI x)), some (.int (nI y)), some (.int (nI z)), some (.int t), none, none, none] [] (mk_M (cT im le ln ys vt nu nn rf vw vq yc yh yg) (kr (he, ke, ki, fi, fa, or, mi, a, g, l, w, s)) m kk q) (some (.long 4000000000000000002), (mk_M (cT im le ln ys vt nu nn (rf.set 2 (kg rf 2 + 1)) vw vq yc yh yg) (kr (he, ke, ki, fi, fa, or, mi, a, g, l, w, s)) m kk q)) := by
  obtain ⟨hV, hst⟩ := id hA
  have hst2 : s ≤ 999 := hst
  obtain ⟨v1, v2, v3, v4, v5, v6, v7, v8, v9, v10, v11, v12, v13, v14, v15, v16⟩ := id hV
  have v6l := kO_len mi v7 or v6
  obtain ⟨b1, b2, b3⟩ := id hB
  obtain ⟨c1, c2, c3⟩ := id hC
  have d1 : rf.length = 7 := hD
  obtain ⟨j0, j1, j2, j3, j4⟩ := id hJ
  refine mr_seg 1 (pc1 := 1) (ls1 := [some (.ref 100), some (.int (nI x)), some (.int (nI y)), some (.int (nI z)), some (.int t), none, none, none]) (st1 := [.int (nI x)]) (M1 := (mk_M (cT im le ln ys vt nu nn rf vw vq yc yh yg) (kr (he, ke, ki, fi, fa, or, mi, a, g, l, w, s)) m kk q)) (fun f => rfl) ?_
  refine mr_call (y := 37) (y0 := 4) (L := [some (.int (nI x))]) (rest := []) (rr := some (.int 1)) (M1 := (mk_M (cT im le ln ys vt nu nn rf vw vq yc yh yg) (kr (he, ke, ki, fi, fa, or, mi, a, g, l, w, s)) m kk q)) (fun f => rfl) (by
      refine mr_seg 1 (pc1 := 1) (ls1 := [some (.int (nI x))]) (st1 := [.int (nI x)]) (M1 := (mk_M (cT im le ln ys vt nu nn rf vw vq yc yh yg) (kr (he, ke, ki, fi, fa, or, mi, a, g, l, w, s)) m kk q)) (fun f => rfl) ?_
      refine mr_f (C := (nI x) < 0) (fun e_ => absurd ((nI_ltI (a := x) (b := 0) (by omega) (by omega)).mp e_) (by omega)) (fun f => rfl) ?_
      refine mr_seg 2 (pc1 := 7) (ls1 := [some (.int (nI x))]) (st1 := [.int 25, .int (nI x)]) (M1 := (mk_M (cT im le ln ys vt nu nn rf vw vq yc yh yg) (kr (he, ke, ki, fi, fa, or, mi, a, g, l, w, s)) m kk q)) (fun f => rfl) ?_
      refine mr_f (C := 25 ≤ (nI x)) (fun e_ => absurd ((nI_leI (a := 25) (b := x) (by omega) (by omega)).mp e_) (by omega)) (fun f => rfl) ?_
      exact mr_ret 3 (fun f => rfl)) ?_
  refine mr_seg 2 (pc1 := 14) (ls1 := [some (.ref 100), some (.int (nI x)), some (.int (nI y)), some (.int (nI z)), some (.int t), none, none, none]) (st1 := [.int (nI y)]) (M1 := (mk_M (cT im le ln ys vt nu nn rf vw vq yc yh yg) (kr (he, ke, ki, fi, fa, or, mi, a, g, l, w, s)) m kk q)) (fun f => rfl) ?_
  refine mr_f (C := (nI y) < 0) (fun e_ => absurd ((nI_ltI (a := y) (b := 0) (by omega) (by omega)).mp e_) (by omega)) (fun f => rfl) ?_
  refine mr_seg 2 (pc1 := 19) (ls1 := [some (.ref 100), some (.int (nI x)), some (.int (nI y)), some (.int (nI z)), some (.int t), none, none, none]) (st1 := [.int 2, .int (nI z)]) (M1 := (mk_M (cT im le ln ys vt nu nn rf vw vq yc yh yg) (kr (he, ke, ki, fi, fa, or, mi, a, g, l, w, s)) m kk q)) (fun f => rfl) ?_
  refine mr_t (C := 2 ≤ (nI z)) ((nI_leI (a := 2) (b := z) (by omega) (by omega)).mpr (by omega)) (fun f => rfl) ?_
  refine mr_seg 2 (pc1 := 32) (ls1 := [some (.ref 100), some (.int (nI x)), some (.int (nI y)), some (.int (nI z)), some (.int t), none, none, none]) (st1 := [.int 7, .int (nI y)]) (M1 := (mk_M (cT im le ln ys vt nu nn rf vw vq yc yh yg) (kr (he, ke, ki, fi, fa, or, mi, a, g, l, w, s)) m kk q)) (fun f => rfl) ?_
  refine mr_f (C := 7 < (nI y)) (fun e_ => absurd ((nI_ltI (a := 7) (b := y) (by omega) (by omega)).mp e_) (by omega)) (fun f => rfl) ?_
  refine mr_seg 2 (pc1 := 38) (ls1 := [some (.ref 100), some (.int (nI x)), some (.int (nI y)), some (.int (nI z)), some (.int t), none, none, none]) (st1 := [.int 20, .int (nI z)]) (M1 := (mk_M (cT im le ln ys vt nu nn rf vw vq yc yh yg) (kr (he, ke, ki, fi, fa, or, mi, a, g, l, w, s)) m kk q)) (fun f => rfl) ?_
  refine mr_t (C := (nI z) ≤ 20) ((nI_leI (a := z) (b := 20) (by omega) (by omega)).mpr (by omega)) (fun f => rfl) ?_
  refine mr_seg 1 (pc1 := 50) (ls1 := [some (.ref 100), some (.int (nI x)), some (.int (nI y)), some (.int (nI z)), some (.int t), none, none, none]) (st1 := [.int t]) (M1 := (mk_M (cT im le ln ys vt nu nn rf vw vq yc yh yg) (kr (he, ke, ki, fi, fa, or, mi, a, g, l, w, s)) m kk q)) (fun f => rfl) ?_
  refine mr_t (C := t < 0) (mz_lt_t 0 (by decide) (by omega)) (fun f => rfl) ?_
  refine mr_seg 2 (pc1 := 62) (ls1 := [some (.ref 100), some (.int (nI x)), some (.int (nI y)), some (.int (nI z)), some (.int t), none, none, none]) (st1 := [.int (-2), .ref 100]) (M1 := (mk_M (cT im le ln ys vt nu nn rf vw vq yc yh yg) (kr (he, ke, ki, fi, fa, or, mi, a, g, l, w, s)) m kk q)) (fun f => rfl) ?_
  refine mr_call (y := 108) (y0 := 65) (L := [some (.ref 100), some (.int (-2))]) (rest := []) (rr := some (.long 4000000000000000002)) (M1 := (mk_M (cT im le ln ys vt nu nn (rf.set 2 (kg rf 2 + 1)) vw vq yc yh yg) (kr (he, ke, ki, fi, fa, or, mi, a, g, l, w, s)) m kk q)) (fun f => rfl) (by
      refine mr_seg 3 (pc1 := 5) (ls1 := [some (.ref 100), some (.int (-2))]) (st1 := [.int (-2), .ref 100, .long 4000000000000000000]) (M1 := (mk_M (cT im le ln ys vt nu nn rf vw vq yc yh yg) (kr (he, ke, ki, fi, fa, or, mi, a, g, l, w, s)) m kk q)) (fun f => rfl) ?_
      refine mr_call (y := 12) (y0 := 8) (L := [some (.ref 100), some (.int (-2))]) (rest := [.long 4000000000000000000]) (rr := some (.int (-2))) (M1 := (mk_M (cT im le ln ys vt nu nn (rf.set 2 (kg rf 2 + 1)) vw vq yc yh yg) (kr (he, ke, ki, fi, fa, or, mi, a, g, l, w, s)) m kk q)) (fun f => rfl) (by
          refine mr_seg 5 (pc1 := 7) (ls1 := [some (.ref 100), some (.int (-2))]) (st1 := [.int 2, .ref 105, .int 2, .ref 105]) (M1 := (mk_M (cT im le ln ys vt nu nn rf vw vq yc yh yg) (kr (he, ke, ki, fi, fa, or, mi, a, g, l, w, s)) m kk q)) (fun f => rfl) ?_
          refine mr_ldn (xs := (rf.map nI)) rfl rfl (k := 2) (by omega) (kg_ok (by omega)) ?_
          refine mr_seg 2 (pc1 := 10) (ls1 := [some (.ref 100), some (.int (-2))]) (st1 := [.int ((nI (kg rf 2)) + 1), .int 2, .ref 105]) (M1 := (mk_M (cT im le ln ys vt nu nn rf vw vq yc yh yg) (kr (he, ke, ki, fi, fa, or, mi, a, g, l, w, s)) m kk q)) (fun f => rfl) ?_
          refine mr_v (nI_add (kg rf 2) 1) ?_
          refine mr_stn (xs := (rf.map nI)) (ys := ((rf.set 2 (kg rf 2 + 1)).map nI)) (M2 := (mk_M (cT im le ln ys vt nu nn (rf.set 2 (kg rf 2 + 1)) vw vq yc yh yg) (kr (he, ke, ki, fi, fa, or, mi, a, g, l, w, s)) m kk q)) rfl rfl (k := 2) (by omega) (by simp only [List.length_map, List.length_set]; omega) ks_ok rfl ?_
          exact mr_ret 2 (fun f => rfl)) ?_
      exact mr_ret 3 (fun f => rfl)) ?_
  exact mr_ret 1 (fun f => rfl)
set_option maxRecDepth 100000 in
theorem om_plank_6 (he ke ki fi fa or : List Nat) (mi a g l w s : Nat) (xm xi xw : List Int32) (im : Nat) (le nu rf : List Nat) (ln nn : Nat) (vp : Int32) (xn xc : List Int32) (vs : Int32) (c : cC) (n m kk : kG) (hA : iA (he, ke, ki, fi, fa, or, mi, a, g, l, w, s)) (hB : iB le ln) (hC : iC nu nn) (hD : iD rf) (hR : iR xm xw xn xc) (k1 : xi.length = 52) (x : Nat) (hx : x < 25) (y : Nat) (hy : y < 8) (z : Nat) (hz1 : 2 ≤ z) (hz : z ≤ 20) (t : Int32) (htu : t.toInt ≤ -1) : mm_R 197 0 [some (.ref 138), some (.int (nI x)), some (.int (nI y)), some (.int (nI z)), some (.int t), none, none, none, none, none, none, none, none] [] (mk_M c n m kk (rT (he, ke, ki, fi, fa, or, mi, a, g, l, w, s) xm xi xw im le nu rf ln nn vp xn xc vs)) (some (.long 4000000000000000002), (mk_M c n m kk (rT (he, ke, ki, fi, fa, or, mi, a, g, l, w, s) xm xi xw im le nu (rf.set 2 (kg rf 2 + 1)) ln nn vp xn xc vs))) := by
  obtain ⟨hV, hst⟩ := id hA
  have hst2 : s ≤ 999 := hst
  obtain ⟨v1, v2, v3, v4, v5, v6, v7, v8, v9, v10, v11, v12, v13, v14, v15, v16⟩ := id hV
  have v6l := kO_len mi v7 or v6
  obtain ⟨b1, b2, b3⟩ := id hB
  obtain ⟨c1, c2, c3⟩ := id hC
  have d1 : rf.length = 7 := hD
  obtain ⟨r1, r2, r3, r4⟩ := id hR
  refine mr_seg 1 (pc1 := 1) (ls1 := [some (.ref 138), some (.int (nI x)), some (.int (nI y)), some (.int (nI z)), some (.int t), none, none, none, none, none, none, none, none]) (st1 := [.int (nI x)]) (M1 := (mk_M c n m kk (rT (he, ke, ki, fi, fa, or, mi, a, g, l, w, s) xm xi xw im le nu rf ln nn vp xn xc vs))) (fun f => rfl) ?_
  refine mr_call (y := 140) (y0 := 4) (L := [some (.int (nI x))]) (rest := []) (rr := some (.int 1)) (M1 := (mk_M c n m kk (rT (he, ke, ki, fi, fa, or, mi, a, g, l, w, s) xm xi xw im le nu rf ln nn vp xn xc vs))) (fun f => rfl) (by
      refine mr_seg 3 (pc1 := 4) (ls1 := [some (.int (nI x))]) (st1 := [.int 24, .int 0, .int (nI x)]) (M1 := (mk_M c n m kk (rT (he, ke, ki, fi, fa, or, mi, a, g, l, w, s) xm xi xw im le nu rf ln nn vp xn xc vs))) (fun f => rfl) ?_
      refine mr_call (y := 135) (y0 := 7) (L := [some (.int (nI x)), some (.int 0), some (.int 24)]) (rest := []) (rr := some (.int 1)) (M1 := (mk_M c n m kk (rT (he, ke, ki, fi, fa, or, mi, a, g, l, w, s) xm xi xw im le nu rf ln nn vp xn xc vs))) (fun f => rfl) (by
          refine mr_seg 2 (pc1 := 2) (ls1 := [some (.int (nI x)), some (.int 0), some (.int 24)]) (st1 := [.int 0, .int (nI x)]) (M1 := (mk_M c n m kk (rT (he, ke, ki, fi, fa, or, mi, a, g, l, w, s) xm xi xw im le nu rf ln nn vp xn xc vs))) (fun f => rfl) ?_
          refine mr_f (C := (nI x) < 0) (fun e_ => absurd ((nI_ltI (a := x) (b := 0) (by omega) (by omega)).mp e_) (by omega)) (fun f => rfl) ?_
          refine mr_seg 2 (pc1 := 7) (ls1 := [some (.int (nI x)), some (.int 0), some (.int 24)]) (st1 := [.int 24, .int (nI x)]) (M1 := (mk_M c n m kk (rT (he, ke, ki, fi, fa, or, mi, a, g, l, w, s) xm xi xw im le nu rf ln nn vp xn xc vs))) (fun f => rfl) ?_
          refine mr_f (C := 24 < (nI x)) (fun e_ => absurd ((nI_ltI (a := 24) (b := x) (by omega) (by omega)).mp e_) (by omega)) (fun f => rfl) ?_
          exact mr_ret 3 (fun f => rfl)) ?_
      exact mr_ret 1 (fun f => rfl)) ?_
  refine mr_seg 2 (pc1 := 14) (ls1 := [some (.ref 138), some (.int (nI x)), some (.int (nI y)), some (.int (nI z)), some (.int t), none, none, none, none, none, none, none, none]) (st1 := [.int (nI y)]) (M1 := (mk_M c n m kk (rT (he, ke, ki, fi, fa, or, mi, a, g, l, w, s) xm xi xw im le nu rf ln nn vp xn xc vs))) (fun f => rfl) ?_
  refine mr_f (C := (nI y) < 0) (fun e_ => absurd ((nI_ltI (a := y) (b := 0) (by omega) (by omega)).mp e_) (by omega)) (fun f => rfl) ?_
  refine mr_seg 2 (pc1 := 19) (ls1 := [some (.ref 138), some (.int (nI x)), some (.int (nI y)), some (.int (nI z)), some (.int t), none, none, none, none, none, none, none, none]) (st1 := [.int 2, .int (nI z)]) (M1 := (mk_M c n m kk (rT (he, ke, ki, fi, fa, or, mi, a, g, l, w, s) xm xi xw im le nu rf ln nn vp xn xc vs))) (fun f => rfl) ?_
  refine mr_t (C := 2 ≤ (nI z)) ((nI_leI (a := 2) (b := z) (by omega) (by omega)).mpr (by omega)) (fun f => rfl) ?_
  refine mr_seg 2 (pc1 := 32) (ls1 := [some (.ref 138), some (.int (nI x)), some (.int (nI y)), some (.int (nI z)), some (.int t), none, none, none, none, none, none, none, none]) (st1 := [.int 7, .int (nI y)]) (M1 := (mk_M c n m kk (rT (he, ke, ki, fi, fa, or, mi, a, g, l, w, s) xm xi xw im le nu rf ln nn vp xn xc vs))) (fun f => rfl) ?_
  refine mr_f (C := 7 < (nI y)) (fun e_ => absurd ((nI_ltI (a := 7) (b := y) (by omega) (by omega)).mp e_) (by omega)) (fun f => rfl) ?_
  refine mr_seg 2 (pc1 := 38) (ls1 := [some (.ref 138), some (.int (nI x)), some (.int (nI y)), some (.int (nI z)), some (.int t), none, none, none, none, none, none, none, none]) (st1 := [.int 20, .int (nI z)]) (M1 := (mk_M c n m kk (rT (he, ke, ki, fi, fa, or, mi, a, g, l, w, s) xm xi xw im le nu rf ln nn vp xn xc vs))) (fun f => rfl) ?_
  refine mr_t (C := (nI z) ≤ 20) ((nI_leI (a := z) (b := 20) (by omega) (by omega)).mpr (by omega)) (fun f => rfl) ?_
  refine mr_seg 3 (pc1 := 52) (ls1 := [some (.ref 138), some (.int (nI x)), some (.int (nI y)), some (.int (nI z)), some (.int t), none, none, none, none, none, none, none, none]) (st1 := [.int 1, .int 0, .int t]) (M1 := (mk_M c n m kk (rT (he, ke, ki, fi, fa, or, mi, a, g, l, w, s) xm xi xw im le nu rf ln nn vp xn xc vs))) (fun f => rfl) ?_
  refine mr_call (y := 135) (y0 := 55) (L := [some (.int t), some (.int 0), some (.int 1)]) (rest := []) (rr := some (.int 0)) (M1 := (mk_M c n m kk (rT (he, ke, ki, fi, fa, or, mi, a, g, l, w, s) xm xi xw im le nu rf ln nn vp xn xc vs))) (fun f => rfl) (by
      refine mr_seg 2 (pc1 := 2) (ls1 := [some (.int t), some (.int 0), some (.int 1)]) (st1 := [.int 0, .int t]) (M1 := (mk_M c n m kk (rT (he, ke, ki, fi, fa, or, mi, a, g, l, w, s) xm xi xw im le nu rf ln nn vp xn xc vs))) (fun f => rfl) ?_
      refine mr_t (C := t < 0) (mz_lt_t 0 (by decide) (by omega)) (fun f => rfl) ?_
      exact mr_ret 2 (fun f => rfl)) ?_
  refine mr_seg 3 (pc1 := 61) (ls1 := [some (.ref 138), some (.int (nI x)), some (.int (nI y)), some (.int (nI z)), some (.int t), none, none, none, none, none, none, none, none]) (st1 := [.int (-2), .ref 138]) (M1 := (mk_M c n m kk (rT (he, ke, ki, fi, fa, or, mi, a, g, l, w, s) xm xi xw im le nu rf ln nn vp xn xc vs))) (fun f => rfl) ?_
  refine mr_call (y := 198) (y0 := 64) (L := [some (.ref 138), some (.int (-2))]) (rest := []) (rr := some (.long 4000000000000000002)) (M1 := (mk_M c n m kk (rT (he, ke, ki, fi, fa, or, mi, a, g, l, w, s) xm xi xw im le nu (rf.set 2 (kg rf 2 + 1)) ln nn vp xn xc vs))) (fun f => rfl) (by
      refine mr_seg 3 (pc1 := 5) (ls1 := [some (.ref 138), some (.int (-2))]) (st1 := [.int (-2), .ref 138, .long 4000000000000000000]) (M1 := (mk_M c n m kk (rT (he, ke, ki, fi, fa, or, mi, a, g, l, w, s) xm xi xw im le nu rf ln nn vp xn xc vs))) (fun f => rfl) ?_
      refine mr_call (y := 130) (y0 := 8) (L := [some (.ref 138), some (.int (-2))]) (rest := [.long 4000000000000000000]) (rr := some (.int (-2))) (M1 := (mk_M c n m kk (rT (he, ke, ki, fi, fa, or, mi, a, g, l, w, s) xm xi xw im le nu (rf.set 2 (kg rf 2 + 1)) ln nn vp xn xc vs))) (fun f => rfl) (by
          refine mr_seg 5 (pc1 := 7) (ls1 := [some (.ref 138), some (.int (-2))]) (st1 := [.int 2, .ref 145, .int 2, .ref 145]) (M1 := (mk_M c n m kk (rT (he, ke, ki, fi, fa, or, mi, a, g, l, w, s) xm xi xw im le nu rf ln nn vp xn xc vs))) (fun f => rfl) ?_
          refine mr_ldn (xs := (rf.map nI)) rfl rfl (k := 2) (by omega) (kg_ok (by omega)) ?_
          refine mr_seg 2 (pc1 := 10) (ls1 := [some (.ref 138), some (.int (-2))]) (st1 := [.int ((nI (kg rf 2)) + 1), .int 2, .ref 145]) (M1 := (mk_M c n m kk (rT (he, ke, ki, fi, fa, or, mi, a, g, l, w, s) xm xi xw im le nu rf ln nn vp xn xc vs))) (fun f => rfl) ?_
          refine mr_v (nI_add (kg rf 2) 1) ?_
          refine mr_stn (xs := (rf.map nI)) (ys := ((rf.set 2 (kg rf 2 + 1)).map nI)) (M2 := (mk_M c n m kk (rT (he, ke, ki, fi, fa, or, mi, a, g, l, w, s) xm xi xw im le nu (rf.set 2 (kg rf 2 + 1)) ln nn vp xn xc vs))) rfl rfl (k := 2) (by omega) (by simp only [List.length_map, List.length_set]; omega) ks_ok rfl ?_
          exact mr_ret 2 (fun f => rfl)) ?_
      exact mr_ret 3 (fun f => rfl)) ?_
  exact mr_ret 1 (fun f => rfl)
theorem oe_plank_6 (he ke ki fi fa or : List Nat) (mi a g l w s : Nat) (m : kG) (kk : kG) (im : Nat) (le : List Nat) (ln : Nat) (ys : List Int32) (vt : Int32) (nu : List Nat) (nn : Nat) (rf : List Nat) (vw : Int32) (vq : Int32) (yc : List Int32) (yh : List Int32) (yg : List Int32) (xm : List Int32) (xi : List Int32) (xw : List Int32) (vp : Int32) (xn : List Int32) (xc : List Int32) (vs : Int32) (hA : iA (he, ke, ki, fi, fa, or, mi, a, g, l, w, s)) (hB : iB le ln) (hC : iC nu nn) (hD : iD rf) (hJ : iJ m ys yc yh yg) (hR : iR xm xw xn xc) (hK : iK im kk xi) (x : Nat) (hx : x < 25) (y : Nat) (hy : y < 8) (z : Nat) (hz1 : 2 ≤ z) (hz : z ≤ 20) (t : Int32) (htu : t.toInt ≤ -1) : oL 107 197 [some (.ref 100), some (.int (nI x)), some (.int (nI y)), some (.int (nI z)), some (.int t), none, none, none] [some (.ref 138), some (.int (nI x)), some (.int (nI y)), some (.int (nI z)), some (.int t), none, none, none, none, none, none, none, none] (mk_M (cT im le ln ys vt nu nn rf vw vq yc yh yg) (kr (he, ke, ki, fi, fa, or, mi, a, g, l, w, s)) m kk (rT (he, ke, ki, fi, fa, or, mi, a, g, l, w, s) xm xi xw im le nu rf ln nn vp xn xc vs)) := by
  exact ⟨4000000000000000002, _, _, oc_plank_6 he ke ki fi fa or mi a g l w s im le ln ys vt nu nn rf vw vq yc yh yg m kk _ hA hB hC hD hJ hK.1 x hx y hy z hz1 hz t htu, om_plank_6 he ke ki fi fa or mi a g l w s xm xi xw im le nu rf ln nn vp xn xc vs _ _ _ _ hA hB hC hD hR hK.2.1 x hx y hy z hz1 hz t htu, (he, ke, ki, fi, fa, or, mi, a, g, l, w, s), m, kk, im, le, ln, ys, vt, nu, nn, (rf.set 2 (kg rf 2 + 1)), vw, vq, yc, yh, yg, xm, xi, xw, vp, xn, xc, vs, rfl, hA, hB, hC, iD_s hD, hJ, hR, hK⟩
set_option maxRecDepth 100000 in
theorem oc_plank_7 (he ke ki fi fa or : List Nat) (mi a g l w s : Nat) (im : Nat) (le : List Nat) (ln : Nat) (ys : List Int32) (vt : Int32) (nu : List Nat) (nn : Nat) (rf : List Nat) (vw vq : Int32) (yc yh yg : List Int32) (m kk : kG) (q : cR) (hA : iA (he, ke, ki, fi, fa, or, mi, a, g, l, w, s)) (hB : iB le ln) (hC : iC nu nn) (hD : iD rf) (hJ : iJ m ys yc yh yg) (k0 : kSh kk) (x : Nat) (hx : x < 25) (y : Nat) (hy : y < 8) (z : Nat) (hz1 : 2 ≤ z) (hz : z ≤ 20) (t : Int32) (htl : 2 ≤ t.toInt) : mm_R 107 0 [some (.ref 100), some (.int (nI x)), some (.int (nI y)), some (.int (nI z)), some (.int t), none, none, none] [] (mk_M (cT im le ln ys vt nu nn rf vw vq yc yh yg) (kr (he, ke, ki, fi, fa, or, mi, a, g, l, w, s)) m kk q) (some (.long 4000000000000000002), (mk_M (cT im le ln ys vt nu nn (rf.set 2 (kg rf 2 + 1)) vw vq yc yh yg) (kr (he, ke, ki, fi, fa, or, mi, a, g, l, w, s)) m kk q)) := by
  obtain ⟨hV, hst⟩ := id hA
  have hst2 : s ≤ 999 := hst
  obtain ⟨v1, v2, v3, v4, v5, v6, v7, v8, v9, v10, v11, v12, v13, v14, v15, v16⟩ := id hV
  have v6l := kO_len mi v7 or v6
  obtain ⟨b1, b2, b3⟩ := id hB
  obtain ⟨c1, c2, c3⟩ := id hC
  have d1 : rf.length = 7 := hD
  obtain ⟨j0, j1, j2, j3, j4⟩ := id hJ
  refine mr_seg 1 (pc1 := 1) (ls1 := [some (.ref 100), some (.int (nI x)), some (.int (nI y)), some (.int (nI z)), some (.int t), none, none, none]) (st1 := [.int (nI x)]) (M1 := (mk_M (cT im le ln ys vt nu nn rf vw vq yc yh yg) (kr (he, ke, ki, fi, fa, or, mi, a, g, l, w, s)) m kk q)) (fun f => rfl) ?_
  refine mr_call (y := 37) (y0 := 4) (L := [some (.int (nI x))]) (rest := []) (rr := some (.int 1)) (M1 := (mk_M (cT im le ln ys vt nu nn rf vw vq yc yh yg) (kr (he, ke, ki, fi, fa, or, mi, a, g, l, w, s)) m kk q)) (fun f => rfl) (by
      refine mr_seg 1 (pc1 := 1) (ls1 := [some (.int (nI x))]) (st1 := [.int (nI x)]) (M1 := (mk_M (cT im le ln ys vt nu nn rf vw vq yc yh yg) (kr (he, ke, ki, fi, fa, or, mi, a, g, l, w, s)) m kk q)) (fun f => rfl) ?_
      refine mr_f (C := (nI x) < 0) (fun e_ => absurd ((nI_ltI (a := x) (b := 0) (by omega) (by omega)).mp e_) (by omega)) (fun f => rfl) ?_
      refine mr_seg 2 (pc1 := 7) (ls1 := [some (.int (nI x))]) (st1 := [.int 25, .int (nI x)]) (M1 := (mk_M (cT im le ln ys vt nu nn rf vw vq yc yh yg) (kr (he, ke, ki, fi, fa, or, mi, a, g, l, w, s)) m kk q)) (fun f => rfl) ?_
      refine mr_f (C := 25 ≤ (nI x)) (fun e_ => absurd ((nI_leI (a := 25) (b := x) (by omega) (by omega)).mp e_) (by omega)) (fun f => rfl) ?_
      exact mr_ret 3 (fun f => rfl)) ?_
  refine mr_seg 2 (pc1 := 14) (ls1 := [some (.ref 100), some (.int (nI x)), some (.int (nI y)), some (.int (nI z)), some (.int t), none, none, none]) (st1 := [.int (nI y)]) (M1 := (mk_M (cT im le ln ys vt nu nn rf vw vq yc yh yg) (kr (he, ke, ki, fi, fa, or, mi, a, g, l, w, s)) m kk q)) (fun f => rfl) ?_
  refine mr_f (C := (nI y) < 0) (fun e_ => absurd ((nI_ltI (a := y) (b := 0) (by omega) (by omega)).mp e_) (by omega)) (fun f => rfl) ?_
  refine mr_seg 2 (pc1 := 19) (ls1 := [some (.ref 100), some (.int (nI x)), some (.int (nI y)), some (.int (nI z)), some (.int t), none, none, none]) (st1 := [.int 2, .int (nI z)]) (M1 := (mk_M (cT im le ln ys vt nu nn rf vw vq yc yh yg) (kr (he, ke, ki, fi, fa, or, mi, a, g, l, w, s)) m kk q)) (fun f => rfl) ?_
  refine mr_t (C := 2 ≤ (nI z)) ((nI_leI (a := 2) (b := z) (by omega) (by omega)).mpr (by omega)) (fun f => rfl) ?_
  refine mr_seg 2 (pc1 := 32) (ls1 := [some (.ref 100), some (.int (nI x)), some (.int (nI y)), some (.int (nI z)), some (.int t), none, none, none]) (st1 := [.int 7, .int (nI y)]) (M1 := (mk_M (cT im le ln ys vt nu nn rf vw vq yc yh yg) (kr (he, ke, ki, fi, fa, or, mi, a, g, l, w, s)) m kk q)) (fun f => rfl) ?_
  refine mr_f (C := 7 < (nI y)) (fun e_ => absurd ((nI_ltI (a := 7) (b := y) (by omega) (by omega)).mp e_) (by omega)) (fun f => rfl) ?_
  refine mr_seg 2 (pc1 := 38) (ls1 := [some (.ref 100), some (.int (nI x)), some (.int (nI y)), some (.int (nI z)), some (.int t), none, none, none]) (st1 := [.int 20, .int (nI z)]) (M1 := (mk_M (cT im le ln ys vt nu nn rf vw vq yc yh yg) (kr (he, ke, ki, fi, fa, or, mi, a, g, l, w, s)) m kk q)) (fun f => rfl) ?_
  refine mr_t (C := (nI z) ≤ 20) ((nI_leI (a := z) (b := 20) (by omega) (by omega)).mpr (by omega)) (fun f => rfl) ?_
  refine mr_seg 1 (pc1 := 50) (ls1 := [some (.ref 100), some (.int (nI x)), some (.int (nI y)), some (.int (nI z)), some (.int t), none, none, none]) (st1 := [.int t]) (M1 := (mk_M (cT im le ln ys vt nu nn rf vw vq yc yh yg) (kr (he, ke, ki, fi, fa, or, mi, a, g, l, w, s)) m kk q)) (fun f => rfl) ?_
  refine mr_f (C := t < 0) (mz_lt_f 0 (by decide) (by omega)) (fun f => rfl) ?_
  refine mr_seg 2 (pc1 := 56) (ls1 := [some (.ref 100), some (.int (nI x)), some (.int (nI y)), some (.int (nI z)), some (.int t), none, none, none]) (st1 := [.int 1, .int t]) (M1 := (mk_M (cT im le ln ys vt nu nn rf vw vq yc yh yg) (kr (he, ke, ki, fi, fa, or, mi, a, g, l, w, s)) m kk q)) (fun f => rfl) ?_
  refine mr_f (C := t ≤ 1) (mz_le_f 1 (by decide) (by omega)) (fun f => rfl) ?_
  refine mr_seg 2 (pc1 := 62) (ls1 := [some (.ref 100), some (.int (nI x)), some (.int (nI y)), some (.int (nI z)), some (.int t), none, none, none]) (st1 := [.int (-2), .ref 100]) (M1 := (mk_M (cT im le ln ys vt nu nn rf vw vq yc yh yg) (kr (he, ke, ki, fi, fa, or, mi, a, g, l, w, s)) m kk q)) (fun f => rfl) ?_
  refine mr_call (y := 108) (y0 := 65) (L := [some (.ref 100), some (.int (-2))]) (rest := []) (rr := some (.long 4000000000000000002)) (M1 := (mk_M (cT im le ln ys vt nu nn (rf.set 2 (kg rf 2 + 1)) vw vq yc yh yg) (kr (he, ke, ki, fi, fa, or, mi, a, g, l, w, s)) m kk q)) (fun f => rfl) (by
      refine mr_seg 3 (pc1 := 5) (ls1 := [some (.ref 100), some (.int (-2))]) (st1 := [.int (-2), .ref 100, .long 4000000000000000000]) (M1 := (mk_M (cT im le ln ys vt nu nn rf vw vq yc yh yg) (kr (he, ke, ki, fi, fa, or, mi, a, g, l, w, s)) m kk q)) (fun f => rfl) ?_
      refine mr_call (y := 12) (y0 := 8) (L := [some (.ref 100), some (.int (-2))]) (rest := [.long 4000000000000000000]) (rr := some (.int (-2))) (M1 := (mk_M (cT im le ln ys vt nu nn (rf.set 2 (kg rf 2 + 1)) vw vq yc yh yg) (kr (he, ke, ki, fi, fa, or, mi, a, g, l, w, s)) m kk q)) (fun f => rfl) (by
          refine mr_seg 5 (pc1 := 7) (ls1 := [some (.ref 100), some (.int (-2))]) (st1 := [.int 2, .ref 105, .int 2, .ref 105]) (M1 := (mk_M (cT im le ln ys vt nu nn rf vw vq yc yh yg) (kr (he, ke, ki, fi, fa, or, mi, a, g, l, w, s)) m kk q)) (fun f => rfl) ?_
          refine mr_ldn (xs := (rf.map nI)) rfl rfl (k := 2) (by omega) (kg_ok (by omega)) ?_
          refine mr_seg 2 (pc1 := 10) (ls1 := [some (.ref 100), some (.int (-2))]) (st1 := [.int ((nI (kg rf 2)) + 1), .int 2, .ref 105]) (M1 := (mk_M (cT im le ln ys vt nu nn rf vw vq yc yh yg) (kr (he, ke, ki, fi, fa, or, mi, a, g, l, w, s)) m kk q)) (fun f => rfl) ?_
          refine mr_v (nI_add (kg rf 2) 1) ?_
          refine mr_stn (xs := (rf.map nI)) (ys := ((rf.set 2 (kg rf 2 + 1)).map nI)) (M2 := (mk_M (cT im le ln ys vt nu nn (rf.set 2 (kg rf 2 + 1)) vw vq yc yh yg) (kr (he, ke, ki, fi, fa, or, mi, a, g, l, w, s)) m kk q)) rfl rfl (k := 2) (by omega) (by simp only [List.length_map, List.length_set]; omega) ks_ok rfl ?_
          exact mr_ret 2 (fun f => rfl)) ?_
      exact mr_ret 3 (fun f => rfl)) ?_
  exact mr_ret 1 (fun f => rfl)
set_option maxRecDepth 100000 in
theorem om_plank_7 (he ke ki fi fa or : List Nat) (mi a g l w s : Nat) (xm xi xw : List Int32) (im : Nat) (le nu rf : List Nat) (ln nn : Nat) (vp : Int32) (xn xc : List Int32) (vs : Int32) (c : cC) (n m kk : kG) (hA : iA (he, ke, ki, fi, fa, or, mi, a, g, l, w, s)) (hB : iB le ln) (hC : iC nu nn) (hD : iD rf) (hR : iR xm xw xn xc) (k1 : xi.length = 52) (x : Nat) (hx : x < 25) (y : Nat) (hy : y < 8) (z : Nat) (hz1 : 2 ≤ z) (hz : z ≤ 20) (t : Int32) (htl : 2 ≤ t.toInt) : mm_R 197 0 [some (.ref 138), some (.int (nI x)), some (.int (nI y)), some (.int (nI z)), some (.int t), none, none, none, none, none, none, none, none] [] (mk_M c n m kk (rT (he, ke, ki, fi, fa, or, mi, a, g, l, w, s) xm xi xw im le nu rf ln nn vp xn xc vs)) (some (.long 4000000000000000002), (mk_M c n m kk (rT (he, ke, ki, fi, fa, or, mi, a, g, l, w, s) xm xi xw im le nu (rf.set 2 (kg rf 2 + 1)) ln nn vp xn xc vs))) := by
  obtain ⟨hV, hst⟩ := id hA
  have hst2 : s ≤ 999 := hst
  obtain ⟨v1, v2, v3, v4, v5, v6, v7, v8, v9, v10, v11, v12, v13, v14, v15, v16⟩ := id hV
  have v6l := kO_len mi v7 or v6
  obtain ⟨b1, b2, b3⟩ := id hB
  obtain ⟨c1, c2, c3⟩ := id hC
  have d1 : rf.length = 7 := hD
  obtain ⟨r1, r2, r3, r4⟩ := id hR
  refine mr_seg 1 (pc1 := 1) (ls1 := [some (.ref 138), some (.int (nI x)), some (.int (nI y)), some (.int (nI z)), some (.int t), none, none, none, none, none, none, none, none]) (st1 := [.int (nI x)]) (M1 := (mk_M c n m kk (rT (he, ke, ki, fi, fa, or, mi, a, g, l, w, s) xm xi xw im le nu rf ln nn vp xn xc vs))) (fun f => rfl) ?_
  refine mr_call (y := 140) (y0 := 4) (L := [some (.int (nI x))]) (rest := []) (rr := some (.int 1)) (M1 := (mk_M c n m kk (rT (he, ke, ki, fi, fa, or, mi, a, g, l, w, s) xm xi xw im le nu rf ln nn vp xn xc vs))) (fun f => rfl) (by
      refine mr_seg 3 (pc1 := 4) (ls1 := [some (.int (nI x))]) (st1 := [.int 24, .int 0, .int (nI x)]) (M1 := (mk_M c n m kk (rT (he, ke, ki, fi, fa, or, mi, a, g, l, w, s) xm xi xw im le nu rf ln nn vp xn xc vs))) (fun f => rfl) ?_
      refine mr_call (y := 135) (y0 := 7) (L := [some (.int (nI x)), some (.int 0), some (.int 24)]) (rest := []) (rr := some (.int 1)) (M1 := (mk_M c n m kk (rT (he, ke, ki, fi, fa, or, mi, a, g, l, w, s) xm xi xw im le nu rf ln nn vp xn xc vs))) (fun f => rfl) (by
          refine mr_seg 2 (pc1 := 2) (ls1 := [some (.int (nI x)), some (.int 0), some (.int 24)]) (st1 := [.int 0, .int (nI x)]) (M1 := (mk_M c n m kk (rT (he, ke, ki, fi, fa, or, mi, a, g, l, w, s) xm xi xw im le nu rf ln nn vp xn xc vs))) (fun f => rfl) ?_
          refine mr_f (C := (nI x) < 0) (fun e_ => absurd ((nI_ltI (a := x) (b := 0) (by omega) (by omega)).mp e_) (by omega)) (fun f => rfl) ?_
          refine mr_seg 2 (pc1 := 7) (ls1 := [some (.int (nI x)), some (.int 0), some (.int 24)]) (st1 := [.int 24, .int (nI x)]) (M1 := (mk_M c n m kk (rT (he, ke, ki, fi, fa, or, mi, a, g, l, w, s) xm xi xw im le nu rf ln nn vp xn xc vs))) (fun f => rfl) ?_
          refine mr_f (C := 24 < (nI x)) (fun e_ => absurd ((nI_ltI (a := 24) (b := x) (by omega) (by omega)).mp e_) (by omega)) (fun f => rfl) ?_
          exact mr_ret 3 (fun f => rfl)) ?_
      exact mr_ret 1 (fun f => rfl)) ?_
  refine mr_seg 2 (pc1 := 14) (ls1 := [some (.ref 138), some (.int (nI x)), some (.int (nI y)), some (.int (nI z)), some (.int t), none, none, none, none, none, none, none, none]) (st1 := [.int (nI y)]) (M1 := (mk_M c n m kk (rT (he, ke, ki, fi, fa, or, mi, a, g, l, w, s) xm xi xw im le nu rf ln nn vp xn xc vs))) (fun f => rfl) ?_
  refine mr_f (C := (nI y) < 0) (fun e_ => absurd ((nI_ltI (a := y) (b := 0) (by omega) (by omega)).mp e_) (by omega)) (fun f => rfl) ?_
  refine mr_seg 2 (pc1 := 19) (ls1 := [some (.ref 138), some (.int (nI x)), some (.int (nI y)), some (.int (nI z)), some (.int t), none, none, none, none, none, none, none, none]) (st1 := [.int 2, .int (nI z)]) (M1 := (mk_M c n m kk (rT (he, ke, ki, fi, fa, or, mi, a, g, l, w, s) xm xi xw im le nu rf ln nn vp xn xc vs))) (fun f => rfl) ?_
  refine mr_t (C := 2 ≤ (nI z)) ((nI_leI (a := 2) (b := z) (by omega) (by omega)).mpr (by omega)) (fun f => rfl) ?_
  refine mr_seg 2 (pc1 := 32) (ls1 := [some (.ref 138), some (.int (nI x)), some (.int (nI y)), some (.int (nI z)), some (.int t), none, none, none, none, none, none, none, none]) (st1 := [.int 7, .int (nI y)]) (M1 := (mk_M c n m kk (rT (he, ke, ki, fi, fa, or, mi, a, g, l, w, s) xm xi xw im le nu rf ln nn vp xn xc vs))) (fun f => rfl) ?_
  refine mr_f (C := 7 < (nI y)) (fun e_ => absurd ((nI_ltI (a := 7) (b := y) (by omega) (by omega)).mp e_) (by omega)) (fun f => rfl) ?_
  refine mr_seg 2 (pc1 := 38) (ls1 := [some (.ref 138), some (.int (nI x)), some (.int (nI y)), some (.int (nI z)), some (.int t), none, none, none, none, none, none, none, none]) (st1 := [.int 20, .int (nI z)]) (M1 := (mk_M c n m kk (rT (he, ke, ki, fi, fa, or, mi, a, g, l, w, s) xm xi xw im le nu rf ln nn vp xn xc vs))) (fun f => rfl) ?_
  refine mr_t (C := (nI z) ≤ 20) ((nI_leI (a := z) (b := 20) (by omega) (by omega)).mpr (by omega)) (fun f => rfl) ?_
  refine mr_seg 3 (pc1 := 52) (ls1 := [some (.ref 138), some (.int (nI x)), some (.int (nI y)), some (.int (nI z)), some (.int t), none, none, none, none, none, none, none, none]) (st1 := [.int 1, .int 0, .int t]) (M1 := (mk_M c n m kk (rT (he, ke, ki, fi, fa, or, mi, a, g, l, w, s) xm xi xw im le nu rf ln nn vp xn xc vs))) (fun f => rfl) ?_
  refine mr_call (y := 135) (y0 := 55) (L := [some (.int t), some (.int 0), some (.int 1)]) (rest := []) (rr := some (.int 0)) (M1 := (mk_M c n m kk (rT (he, ke, ki, fi, fa, or, mi, a, g, l, w, s) xm xi xw im le nu rf ln nn vp xn xc vs))) (fun f => rfl) (by
      refine mr_seg 2 (pc1 := 2) (ls1 := [some (.int t), some (.int 0), some (.int 1)]) (st1 := [.int 0, .int t]) (M1 := (mk_M c n m kk (rT (he, ke, ki, fi, fa, or, mi, a, g, l, w, s) xm xi xw im le nu rf ln nn vp xn xc vs))) (fun f => rfl) ?_
      refine mr_f (C := t < 0) (mz_lt_f 0 (by decide) (by omega)) (fun f => rfl) ?_
      refine mr_seg 2 (pc1 := 7) (ls1 := [some (.int t), some (.int 0), some (.int 1)]) (st1 := [.int 1, .int t]) (M1 := (mk_M c n m kk (rT (he, ke, ki, fi, fa, or, mi, a, g, l, w, s) xm xi xw im le nu rf ln nn vp xn xc vs))) (fun f => rfl) ?_
      refine mr_t (C := 1 < t) (mz_gt_t 1 (by decide) (by omega)) (fun f => rfl) ?_
      exact mr_ret 2 (fun f => rfl)) ?_
  refine mr_seg 3 (pc1 := 61) (ls1 := [some (.ref 138), some (.int (nI x)), some (.int (nI y)), some (.int (nI z)), some (.int t), none, none, none, none, none, none, none, none]) (st1 := [.int (-2), .ref 138]) (M1 := (mk_M c n m kk (rT (he, ke, ki, fi, fa, or, mi, a, g, l, w, s) xm xi xw im le nu rf ln nn vp xn xc vs))) (fun f => rfl) ?_
  refine mr_call (y := 198) (y0 := 64) (L := [some (.ref 138), some (.int (-2))]) (rest := []) (rr := some (.long 4000000000000000002)) (M1 := (mk_M c n m kk (rT (he, ke, ki, fi, fa, or, mi, a, g, l, w, s) xm xi xw im le nu (rf.set 2 (kg rf 2 + 1)) ln nn vp xn xc vs))) (fun f => rfl) (by
      refine mr_seg 3 (pc1 := 5) (ls1 := [some (.ref 138), some (.int (-2))]) (st1 := [.int (-2), .ref 138, .long 4000000000000000000]) (M1 := (mk_M c n m kk (rT (he, ke, ki, fi, fa, or, mi, a, g, l, w, s) xm xi xw im le nu rf ln nn vp xn xc vs))) (fun f => rfl) ?_
      refine mr_call (y := 130) (y0 := 8) (L := [some (.ref 138), some (.int (-2))]) (rest := [.long 4000000000000000000]) (rr := some (.int (-2))) (M1 := (mk_M c n m kk (rT (he, ke, ki, fi, fa, or, mi, a, g, l, w, s) xm xi xw im le nu (rf.set 2 (kg rf 2 + 1)) ln nn vp xn xc vs))) (fun f => rfl) (by
          refine mr_seg 5 (pc1 := 7) (ls1 := [some (.ref 138), some (.int (-2))]) (st1 := [.int 2, .ref 145, .int 2, .ref 145]) (M1 := (mk_M c n m kk (rT (he, ke, ki, fi, fa, or, mi, a, g, l, w, s) xm xi xw im le nu rf ln nn vp xn xc vs))) (fun f => rfl) ?_
          refine mr_ldn (xs := (rf.map nI)) rfl rfl (k := 2) (by omega) (kg_ok (by omega)) ?_
          refine mr_seg 2 (pc1 := 10) (ls1 := [some (.ref 138), some (.int (-2))]) (st1 := [.int ((nI (kg rf 2)) + 1), .int 2, .ref 145]) (M1 := (mk_M c n m kk (rT (he, ke, ki, fi, fa, or, mi, a, g, l, w, s) xm xi xw im le nu rf ln nn vp xn xc vs))) (fun f => rfl) ?_
          refine mr_v (nI_add (kg rf 2) 1) ?_
          refine mr_stn (xs := (rf.map nI)) (ys := ((rf.set 2 (kg rf 2 + 1)).map nI)) (M2 := (mk_M c n m kk (rT (he, ke, ki, fi, fa, or, mi, a, g, l, w, s) xm xi xw im le nu (rf.set 2 (kg rf 2 + 1)) ln nn vp xn xc vs))) rfl rfl (k := 2) (by omega) (by simp only [List.length_map, List.length_set]; omega) ks_ok rfl ?_
          exact mr_ret 2 (fun f => rfl)) ?_
      exact mr_ret 3 (fun f => rfl)) ?_
  exact mr_ret 1 (fun f => rfl)
theorem oe_plank_7 (he ke ki fi fa or : List Nat) (mi a g l w s : Nat) (m : kG) (kk : kG) (im : Nat) (le : List Nat) (ln : Nat) (ys : List Int32) (vt : Int32) (nu : List Nat) (nn : Nat) (rf : List Nat) (vw : Int32) (vq : Int32) (yc : List Int32) (yh : List Int32) (yg : List Int32) (xm : List Int32) (xi : List Int32) (xw : List Int32) (vp : Int32) (xn : List Int32) (xc : List Int32) (vs : Int32) (hA : iA (he, ke, ki, fi, fa, or, mi, a, g, l, w, s)) (hB : iB le ln) (hC : iC nu nn) (hD : iD rf) (hJ : iJ m ys yc yh yg) (hR : iR xm xw xn xc) (hK : iK im kk xi) (x : Nat) (hx : x < 25) (y : Nat) (hy : y < 8) (z : Nat) (hz1 : 2 ≤ z) (hz : z ≤ 20) (t : Int32) (htl : 2 ≤ t.toInt) : oL 107 197 [some (.ref 100), some (.int (nI x)), some (.int (nI y)), some (.int (nI z)), some (.int t), none, none, none] [some (.ref 138), some (.int (nI x)), some (.int (nI y)), some (.int (nI z)), some (.int t), none, none, none, none, none, none, none, none] (mk_M (cT im le ln ys vt nu nn rf vw vq yc yh yg) (kr (he, ke, ki, fi, fa, or, mi, a, g, l, w, s)) m kk (rT (he, ke, ki, fi, fa, or, mi, a, g, l, w, s) xm xi xw im le nu rf ln nn vp xn xc vs)) := by
  exact ⟨4000000000000000002, _, _, oc_plank_7 he ke ki fi fa or mi a g l w s im le ln ys vt nu nn rf vw vq yc yh yg m kk _ hA hB hC hD hJ hK.1 x hx y hy z hz1 hz t htl, om_plank_7 he ke ki fi fa or mi a g l w s xm xi xw im le nu rf ln nn vp xn xc vs _ _ _ _ hA hB hC hD hR hK.2.1 x hx y hy z hz1 hz t htl, (he, ke, ki, fi, fa, or, mi, a, g, l, w, s), m, kk, im, le, ln, ys, vt, nu, nn, (rf.set 2 (kg rf 2 + 1)), vw, vq, yc, yh, yg, xm, xi, xw, vp, xn, xc, vs, rfl, hA, hB, hC, iD_s hD, hJ, hR, hK⟩
set_option maxRecDepth 100000 in
theorem oc_mean_0 (he ke ki fi fa or : List Nat) (mi a g l w s : Nat) (im : Nat) (le : List Nat) (ln : Nat) (ys : List Int32) (vt : Int32) (nu : List Nat) (nn : Nat) (rf : List Nat) (vw vq : Int32) (yc yh yg : List Int32) (m kk : kG) (q : cR) (hA : iA (he, ke, ki, fi, fa, or, mi, a, g, l, w, s)) (hB : iB le ln) (hC : iC nu nn) (hD : iD rf) (hJ : iJ m ys yc yh yg) (k0 : kSh kk) (x : Int32) (hxu : x.toInt ≤ -1) : mm_R 114 0 [some (.ref 100), some (.int x), none, none] [] (mk_M (cT im le ln ys vt nu nn rf vw vq yc yh yg) (kr (he, ke, ki, fi, fa, or, mi, a, g, l, w, s)) m kk q) (some (.long 4000000000000000002), (mk_M (cT im le ln ys vt nu nn (rf.set 2 (kg rf 2 + 1)) vw vq yc yh yg) (kr (he, ke, ki, fi, fa, or, mi, a, g, l, w, s)) m kk q)) := by
  obtain ⟨hV, hst⟩ := id hA
  have hst2 : s ≤ 999 := hst
  obtain ⟨v1, v2, v3, v4, v5, v6, v7, v8, v9, v10, v11, v12, v13, v14, v15, v16⟩ := id hV
  have v6l := kO_len mi v7 or v6
  obtain ⟨b1, b2, b3⟩ := id hB
  obtain ⟨c1, c2, c3⟩ := id hC
  have d1 : rf.length = 7 := hD
  obtain ⟨j0, j1, j2, j3, j4⟩ := id hJ
  refine mr_seg 1 (pc1 := 1) (ls1 := [some (.ref 100), some (.int x), none, none]) (st1 := [.int x]) (M1 := (mk_M (cT im le ln ys vt nu nn rf vw vq yc yh yg) (kr (he, ke, ki, fi, fa, or, mi, a, g, l, w, s)) m kk q)) (fun f => rfl) ?_
  refine mr_t (C := x < 0) (mz_lt_t 0 (by decide) (by omega)) (fun f => rfl) ?_
  refine mr_seg 2 (pc1 := 12) (ls1 := [some (.ref 100), some (.int x), none, none]) (st1 := [.int (-2), .ref 100]) (M1 := (mk_M (cT im le ln ys vt nu nn rf vw vq yc yh yg) (kr (he, ke, ki, fi, fa, or, mi, a, g, l, w, s)) m kk q)) (fun f => rfl) ?_
  refine mr_call (y := 108) (y0 := 15) (L := [some (.ref 100), some (.int (-2))]) (rest := []) (rr := some (.long 4000000000000000002)) (M1 := (mk_M (cT im le ln ys vt nu nn (rf.set 2 (kg rf 2 + 1)) vw vq yc yh yg) (kr (he, ke, ki, fi, fa, or, mi, a, g, l, w, s)) m kk q)) (fun f => rfl) (by
      refine mr_seg 3 (pc1 := 5) (ls1 := [some (.ref 100), some (.int (-2))]) (st1 := [.int (-2), .ref 100, .long 4000000000000000000]) (M1 := (mk_M (cT im le ln ys vt nu nn rf vw vq yc yh yg) (kr (he, ke, ki, fi, fa, or, mi, a, g, l, w, s)) m kk q)) (fun f => rfl) ?_
      refine mr_call (y := 12) (y0 := 8) (L := [some (.ref 100), some (.int (-2))]) (rest := [.long 4000000000000000000]) (rr := some (.int (-2))) (M1 := (mk_M (cT im le ln ys vt nu nn (rf.set 2 (kg rf 2 + 1)) vw vq yc yh yg) (kr (he, ke, ki, fi, fa, or, mi, a, g, l, w, s)) m kk q)) (fun f => rfl) (by
          refine mr_seg 5 (pc1 := 7) (ls1 := [some (.ref 100), some (.int (-2))]) (st1 := [.int 2, .ref 105, .int 2, .ref 105]) (M1 := (mk_M (cT im le ln ys vt nu nn rf vw vq yc yh yg) (kr (he, ke, ki, fi, fa, or, mi, a, g, l, w, s)) m kk q)) (fun f => rfl) ?_
          refine mr_ldn (xs := (rf.map nI)) rfl rfl (k := 2) (by omega) (kg_ok (by omega)) ?_
          refine mr_seg 2 (pc1 := 10) (ls1 := [some (.ref 100), some (.int (-2))]) (st1 := [.int ((nI (kg rf 2)) + 1), .int 2, .ref 105]) (M1 := (mk_M (cT im le ln ys vt nu nn rf vw vq yc yh yg) (kr (he, ke, ki, fi, fa, or, mi, a, g, l, w, s)) m kk q)) (fun f => rfl) ?_
          refine mr_v (nI_add (kg rf 2) 1) ?_
          refine mr_stn (xs := (rf.map nI)) (ys := ((rf.set 2 (kg rf 2 + 1)).map nI)) (M2 := (mk_M (cT im le ln ys vt nu nn (rf.set 2 (kg rf 2 + 1)) vw vq yc yh yg) (kr (he, ke, ki, fi, fa, or, mi, a, g, l, w, s)) m kk q)) rfl rfl (k := 2) (by omega) (by simp only [List.length_map, List.length_set]; omega) ks_ok rfl ?_
          exact mr_ret 2 (fun f => rfl)) ?_
      exact mr_ret 3 (fun f => rfl)) ?_
  exact mr_ret 1 (fun f => rfl)
set_option maxRecDepth 100000 in
theorem om_mean_0 (he ke ki fi fa or : List Nat) (mi a g l w s : Nat) (xm xi xw : List Int32) (im : Nat) (le nu rf : List Nat) (ln nn : Nat) (vp : Int32) (xn xc : List Int32) (vs : Int32) (c : cC) (n m kk : kG) (hA : iA (he, ke, ki, fi, fa, or, mi, a, g, l, w, s)) (hB : iB le ln) (hC : iC nu nn) (hD : iD rf) (hR : iR xm xw xn xc) (k1 : xi.length = 52) (x : Int32) (hxu : x.toInt ≤ -1) : mm_R 201 0 [some (.ref 138), some (.int x), none, none, none] [] (mk_M c n m kk (rT (he, ke, ki, fi, fa, or, mi, a, g, l, w, s) xm xi xw im le nu rf ln nn vp xn xc vs)) (some (.long 4000000000000000002), (mk_M c n m kk (rT (he, ke, ki, fi, fa, or, mi, a, g, l, w, s) xm xi xw im le nu (rf.set 2 (kg rf 2 + 1)) ln nn vp xn xc vs))) := by
  obtain ⟨hV, hst⟩ := id hA
  have hst2 : s ≤ 999 := hst
  obtain ⟨v1, v2, v3, v4, v5, v6, v7, v8, v9, v10, v11, v12, v13, v14, v15, v16⟩ := id hV
  have v6l := kO_len mi v7 or v6
  obtain ⟨b1, b2, b3⟩ := id hB
  obtain ⟨c1, c2, c3⟩ := id hC
  have d1 : rf.length = 7 := hD
  obtain ⟨r1, r2, r3, r4⟩ := id hR
  refine mr_seg 3 (pc1 := 3) (ls1 := [some (.ref 138), some (.int x), none, none, none]) (st1 := [.int 1, .int 0, .int x]) (M1 := (mk_M c n m kk (rT (he, ke, ki, fi, fa, or, mi, a, g, l, w, s) xm xi xw im le nu rf ln nn vp xn xc vs))) (fun f => rfl) ?_
  refine mr_call (y := 135) (y0 := 6) (L := [some (.int x), some (.int 0), some (.int 1)]) (rest := []) (rr := some (.int 0)) (M1 := (mk_M c n m kk (rT (he, ke, ki, fi, fa, or, mi, a, g, l, w, s) xm xi xw im le nu rf ln nn vp xn xc vs))) (fun f => rfl) (by
      refine mr_seg 2 (pc1 := 2) (ls1 := [some (.int x), some (.int 0), some (.int 1)]) (st1 := [.int 0, .int x]) (M1 := (mk_M c n m kk (rT (he, ke, ki, fi, fa, or, mi, a, g, l, w, s) xm xi xw im le nu rf ln nn vp xn xc vs))) (fun f => rfl) ?_
      refine mr_t (C := x < 0) (mz_lt_t 0 (by decide) (by omega)) (fun f => rfl) ?_
      exact mr_ret 2 (fun f => rfl)) ?_
  refine mr_seg 3 (pc1 := 12) (ls1 := [some (.ref 138), some (.int x), none, none, none]) (st1 := [.int (-2), .ref 138]) (M1 := (mk_M c n m kk (rT (he, ke, ki, fi, fa, or, mi, a, g, l, w, s) xm xi xw im le nu rf ln nn vp xn xc vs))) (fun f => rfl) ?_
  refine mr_call (y := 198) (y0 := 15) (L := [some (.ref 138), some (.int (-2))]) (rest := []) (rr := some (.long 4000000000000000002)) (M1 := (mk_M c n m kk (rT (he, ke, ki, fi, fa, or, mi, a, g, l, w, s) xm xi xw im le nu (rf.set 2 (kg rf 2 + 1)) ln nn vp xn xc vs))) (fun f => rfl) (by
      refine mr_seg 3 (pc1 := 5) (ls1 := [some (.ref 138), some (.int (-2))]) (st1 := [.int (-2), .ref 138, .long 4000000000000000000]) (M1 := (mk_M c n m kk (rT (he, ke, ki, fi, fa, or, mi, a, g, l, w, s) xm xi xw im le nu rf ln nn vp xn xc vs))) (fun f => rfl) ?_
      refine mr_call (y := 130) (y0 := 8) (L := [some (.ref 138), some (.int (-2))]) (rest := [.long 4000000000000000000]) (rr := some (.int (-2))) (M1 := (mk_M c n m kk (rT (he, ke, ki, fi, fa, or, mi, a, g, l, w, s) xm xi xw im le nu (rf.set 2 (kg rf 2 + 1)) ln nn vp xn xc vs))) (fun f => rfl) (by
          refine mr_seg 5 (pc1 := 7) (ls1 := [some (.ref 138), some (.int (-2))]) (st1 := [.int 2, .ref 145, .int 2, .ref 145]) (M1 := (mk_M c n m kk (rT (he, ke, ki, fi, fa, or, mi, a, g, l, w, s) xm xi xw im le nu rf ln nn vp xn xc vs))) (fun f => rfl) ?_
          refine mr_ldn (xs := (rf.map nI)) rfl rfl (k := 2) (by omega) (kg_ok (by omega)) ?_
          refine mr_seg 2 (pc1 := 10) (ls1 := [some (.ref 138), some (.int (-2))]) (st1 := [.int ((nI (kg rf 2)) + 1), .int 2, .ref 145]) (M1 := (mk_M c n m kk (rT (he, ke, ki, fi, fa, or, mi, a, g, l, w, s) xm xi xw im le nu rf ln nn vp xn xc vs))) (fun f => rfl) ?_
          refine mr_v (nI_add (kg rf 2) 1) ?_
          refine mr_stn (xs := (rf.map nI)) (ys := ((rf.set 2 (kg rf 2 + 1)).map nI)) (M2 := (mk_M c n m kk (rT (he, ke, ki, fi, fa, or, mi, a, g, l, w, s) xm xi xw im le nu (rf.set 2 (kg rf 2 + 1)) ln nn vp xn xc vs))) rfl rfl (k := 2) (by omega) (by simp only [List.length_map, List.length_set]; omega) ks_ok rfl ?_
          exact mr_ret 2 (fun f => rfl)) ?_
      exact mr_ret 3 (fun f => rfl)) ?_
  exact mr_ret 1 (fun f => rfl)
theorem oe_mean_0 (he ke ki fi fa or : List Nat) (mi a g l w s : Nat) (m : kG) (kk : kG) (im : Nat) (le : List Nat) (ln : Nat) (ys : List Int32) (vt : Int32) (nu : List Nat) (nn : Nat) (rf : List Nat) (vw : Int32) (vq : Int32) (yc : List Int32) (yh : List Int32) (yg : List Int32) (xm : List Int32) (xi : List Int32) (xw : List Int32) (vp : Int32) (xn : List Int32) (xc : List Int32) (vs : Int32) (hA : iA (he, ke, ki, fi, fa, or, mi, a, g, l, w, s)) (hB : iB le ln) (hC : iC nu nn) (hD : iD rf) (hJ : iJ m ys yc yh yg) (hR : iR xm xw xn xc) (hK : iK im kk xi) (x : Int32) (hxu : x.toInt ≤ -1) : oL 114 201 [some (.ref 100), some (.int x), none, none] [some (.ref 138), some (.int x), none, none, none] (mk_M (cT im le ln ys vt nu nn rf vw vq yc yh yg) (kr (he, ke, ki, fi, fa, or, mi, a, g, l, w, s)) m kk (rT (he, ke, ki, fi, fa, or, mi, a, g, l, w, s) xm xi xw im le nu rf ln nn vp xn xc vs)) := by
  exact ⟨4000000000000000002, _, _, oc_mean_0 he ke ki fi fa or mi a g l w s im le ln ys vt nu nn rf vw vq yc yh yg m kk _ hA hB hC hD hJ hK.1 x hxu, om_mean_0 he ke ki fi fa or mi a g l w s xm xi xw im le nu rf ln nn vp xn xc vs _ _ _ _ hA hB hC hD hR hK.2.1 x hxu, (he, ke, ki, fi, fa, or, mi, a, g, l, w, s), m, kk, im, le, ln, ys, vt, nu, nn, (rf.set 2 (kg rf 2 + 1)), vw, vq, yc, yh, yg, xm, xi, xw, vp, xn, xc, vs, rfl, hA, hB, hC, iD_s hD, hJ, hR, hK⟩
set_option maxRecDepth 100000 in
theorem oc_mean_1 (he ke ki fi fa or : List Nat) (mi a g l w s : Nat) (im : Nat) (le : List Nat) (ln : Nat) (ys : List Int32) (vt : Int32) (nu : List Nat) (nn : Nat) (rf : List Nat) (vw vq : Int32) (yc yh yg : List Int32) (m kk : kG) (q : cR) (hA : iA (he, ke, ki, fi, fa, or, mi, a, g, l, w, s)) (hB : iB le ln) (hC : iC nu nn) (hD : iD rf) (hJ : iJ m ys yc yh yg) (k0 : kSh kk) (x : Int32) (hxl : 2 ≤ x.toInt) : mm_R 114 0 [some (.ref 100), some (.int x), none, none] [] (mk_M (cT im le ln ys vt nu nn rf vw vq yc yh yg) (kr (he, ke, ki, fi, fa, or, mi, a, g, l, w, s)) m kk q) (some (.long 4000000000000000002), (mk_M (cT im le ln ys vt nu nn (rf.set 2 (kg rf 2 + 1)) vw vq yc yh yg) (kr (he, ke, ki, fi, fa, or, mi, a, g, l, w, s)) m kk q)) := by
  obtain ⟨hV, hst⟩ := id hA
  have hst2 : s ≤ 999 := hst
  obtain ⟨v1, v2, v3, v4, v5, v6, v7, v8, v9, v10, v11, v12, v13, v14, v15, v16⟩ := id hV
  have v6l := kO_len mi v7 or v6
  obtain ⟨b1, b2, b3⟩ := id hB
  obtain ⟨c1, c2, c3⟩ := id hC
  have d1 : rf.length = 7 := hD
  obtain ⟨j0, j1, j2, j3, j4⟩ := id hJ
  refine mr_seg 1 (pc1 := 1) (ls1 := [some (.ref 100), some (.int x), none, none]) (st1 := [.int x]) (M1 := (mk_M (cT im le ln ys vt nu nn rf vw vq yc yh yg) (kr (he, ke, ki, fi, fa, or, mi, a, g, l, w, s)) m kk q)) (fun f => rfl) ?_
  refine mr_f (C := x < 0) (mz_lt_f 0 (by decide) (by omega)) (fun f => rfl) ?_
  refine mr_seg 2 (pc1 := 6) (ls1 := [some (.ref 100), some (.int x), none, none]) (st1 := [.int 1, .int x]) (M1 := (mk_M (cT im le ln ys vt nu nn rf vw vq yc yh yg) (kr (he, ke, ki, fi, fa, or, mi, a, g, l, w, s)) m kk q)) (fun f => rfl) ?_
  refine mr_f (C := x ≤ 1) (mz_le_f 1 (by decide) (by omega)) (fun f => rfl) ?_
  refine mr_seg 2 (pc1 := 12) (ls1 := [some (.ref 100), some (.int x), none, none]) (st1 := [.int (-2), .ref 100]) (M1 := (mk_M (cT im le ln ys vt nu nn rf vw vq yc yh yg) (kr (he, ke, ki, fi, fa, or, mi, a, g, l, w, s)) m kk q)) (fun f => rfl) ?_
  refine mr_call (y := 108) (y0 := 15) (L := [some (.ref 100), some (.int (-2))]) (rest := []) (rr := some (.long 4000000000000000002)) (M1 := (mk_M (cT im le ln ys vt nu nn (rf.set 2 (kg rf 2 + 1)) vw vq yc yh yg) (kr (he, ke, ki, fi, fa, or, mi, a, g, l, w, s)) m kk q)) (fun f => rfl) (by
      refine mr_seg 3 (pc1 := 5) (ls1 := [some (.ref 100), some (.int (-2))]) (st1 := [.int (-2), .ref 100, .long 4000000000000000000]) (M1 := (mk_M (cT im le ln ys vt nu nn rf vw vq yc yh yg) (kr (he, ke, ki, fi, fa, or, mi, a, g, l, w, s)) m kk q)) (fun f => rfl) ?_
      refine mr_call (y := 12) (y0 := 8) (L := [some (.ref 100), some (.int (-2))]) (rest := [.long 4000000000000000000]) (rr := some (.int (-2))) (M1 := (mk_M (cT im le ln ys vt nu nn (rf.set 2 (kg rf 2 + 1)) vw vq yc yh yg) (kr (he, ke, ki, fi, fa, or, mi, a, g, l, w, s)) m kk q)) (fun f => rfl) (by
          refine mr_seg 5 (pc1 := 7) (ls1 := [some (.ref 100), some (.int (-2))]) (st1 := [.int 2, .ref 105, .int 2, .ref 105]) (M1 := (mk_M (cT im le ln ys vt nu nn rf vw vq yc yh yg) (kr (he, ke, ki, fi, fa, or, mi, a, g, l, w, s)) m kk q)) (fun f => rfl) ?_
          refine mr_ldn (xs := (rf.map nI)) rfl rfl (k := 2) (by omega) (kg_ok (by omega)) ?_
          refine mr_seg 2 (pc1 := 10) (ls1 := [some (.ref 100), some (.int (-2))]) (st1 := [.int ((nI (kg rf 2)) + 1), .int 2, .ref 105]) (M1 := (mk_M (cT im le ln ys vt nu nn rf vw vq yc yh yg) (kr (he, ke, ki, fi, fa, or, mi, a, g, l, w, s)) m kk q)) (fun f => rfl) ?_
          refine mr_v (nI_add (kg rf 2) 1) ?_
          refine mr_stn (xs := (rf.map nI)) (ys := ((rf.set 2 (kg rf 2 + 1)).map nI)) (M2 := (mk_M (cT im le ln ys vt nu nn (rf.set 2 (kg rf 2 + 1)) vw vq yc yh yg) (kr (he, ke, ki, fi, fa, or, mi, a, g, l, w, s)) m kk q)) rfl rfl (k := 2) (by omega) (by simp only [List.length_map, List.length_set]; omega) ks_ok rfl ?_
          exact mr_ret 2 (fun f => rfl)) ?_
      exact mr_ret 3 (fun f => rfl)) ?_
  exact mr_ret 1 (fun f => rfl)
set_option maxRecDepth 100000 in
theorem om_mean_1 (he ke ki fi fa or : List Nat) (mi a g l w s : Nat) (xm xi xw : List Int32) (im : Nat) (le nu rf : List Nat) (ln nn : Nat) (vp : Int32) (xn xc : List Int32) (vs : Int32) (c : cC) (n m kk : kG) (hA : iA (he, ke, ki, fi, fa, or, mi, a, g, l, w, s)) (hB : iB le ln) (hC : iC nu nn) (hD : iD rf) (hR : iR xm xw xn xc) (k1 : xi.length = 52) (x : Int32) (hxl : 2 ≤ x.toInt) : mm_R 201 0 [some (.ref 138), some (.int x), none, none, none] [] (mk_M c n m kk (rT (he, ke, ki, fi, fa, or, mi, a, g, l, w, s) xm xi xw im le nu rf ln nn vp xn xc vs)) (some (.long 4000000000000000002), (mk_M c n m kk (rT (he, ke, ki, fi, fa, or, mi, a, g, l, w, s) xm xi xw im le nu (rf.set 2 (kg rf 2 + 1)) ln nn vp xn xc vs))) := by
  obtain ⟨hV, hst⟩ := id hA
  have hst2 : s ≤ 999 := hst
  obtain ⟨v1, v2, v3, v4, v5, v6, v7, v8, v9, v10, v11, v12, v13, v14, v15, v16⟩ := id hV
  have v6l := kO_len mi v7 or v6
  obtain ⟨b1, b2, b3⟩ := id hB
  obtain ⟨c1, c2, c3⟩ := id hC
  have d1 : rf.length = 7 := hD
  obtain ⟨r1, r2, r3, r4⟩ := id hR
  refine mr_seg 3 (pc1 := 3) (ls1 := [some (.ref 138), some (.int x), none, none, none]) (st1 := [.int 1, .int 0, .int x]) (M1 := (mk_M c n m kk (rT (he, ke, ki, fi, fa, or, mi, a, g, l, w, s) xm xi xw im le nu rf ln nn vp xn xc vs))) (fun f => rfl) ?_
  refine mr_call (y := 135) (y0 := 6) (L := [some (.int x), some (.int 0), some (.int 1)]) (rest := []) (rr := some (.int 0)) (M1 := (mk_M c n m kk (rT (he, ke, ki, fi, fa, or, mi, a, g, l, w, s) xm xi xw im le nu rf ln nn vp xn xc vs))) (fun f => rfl) (by
      refine mr_seg 2 (pc1 := 2) (ls1 := [some (.int x), some (.int 0), some (.int 1)]) (st1 := [.int 0, .int x]) (M1 := (mk_M c n m kk (rT (he, ke, ki, fi, fa, or, mi, a, g, l, w, s) xm xi xw im le nu rf ln nn vp xn xc vs))) (fun f => rfl) ?_
      refine mr_f (C := x < 0) (mz_lt_f 0 (by decide) (by omega)) (fun f => rfl) ?_
      refine mr_seg 2 (pc1 := 7) (ls1 := [some (.int x), some (.int 0), some (.int 1)]) (st1 := [.int 1, .int x]) (M1 := (mk_M c n m kk (rT (he, ke, ki, fi, fa, or, mi, a, g, l, w, s) xm xi xw im le nu rf ln nn vp xn xc vs))) (fun f => rfl) ?_
      refine mr_t (C := 1 < x) (mz_gt_t 1 (by decide) (by omega)) (fun f => rfl) ?_
      exact mr_ret 2 (fun f => rfl)) ?_
  refine mr_seg 3 (pc1 := 12) (ls1 := [some (.ref 138), some (.int x), none, none, none]) (st1 := [.int (-2), .ref 138]) (M1 := (mk_M c n m kk (rT (he, ke, ki, fi, fa, or, mi, a, g, l, w, s) xm xi xw im le nu rf ln nn vp xn xc vs))) (fun f => rfl) ?_
  refine mr_call (y := 198) (y0 := 15) (L := [some (.ref 138), some (.int (-2))]) (rest := []) (rr := some (.long 4000000000000000002)) (M1 := (mk_M c n m kk (rT (he, ke, ki, fi, fa, or, mi, a, g, l, w, s) xm xi xw im le nu (rf.set 2 (kg rf 2 + 1)) ln nn vp xn xc vs))) (fun f => rfl) (by
      refine mr_seg 3 (pc1 := 5) (ls1 := [some (.ref 138), some (.int (-2))]) (st1 := [.int (-2), .ref 138, .long 4000000000000000000]) (M1 := (mk_M c n m kk (rT (he, ke, ki, fi, fa, or, mi, a, g, l, w, s) xm xi xw im le nu rf ln nn vp xn xc vs))) (fun f => rfl) ?_
      refine mr_call (y := 130) (y0 := 8) (L := [some (.ref 138), some (.int (-2))]) (rest := [.long 4000000000000000000]) (rr := some (.int (-2))) (M1 := (mk_M c n m kk (rT (he, ke, ki, fi, fa, or, mi, a, g, l, w, s) xm xi xw im le nu (rf.set 2 (kg rf 2 + 1)) ln nn vp xn xc vs))) (fun f => rfl) (by
          refine mr_seg 5 (pc1 := 7) (ls1 := [some (.ref 138), some (.int (-2))]) (st1 := [.int 2, .ref 145, .int 2, .ref 145]) (M1 := (mk_M c n m kk (rT (he, ke, ki, fi, fa, or, mi, a, g, l, w, s) xm xi xw im le nu rf ln nn vp xn xc vs))) (fun f => rfl) ?_
          refine mr_ldn (xs := (rf.map nI)) rfl rfl (k := 2) (by omega) (kg_ok (by omega)) ?_
          refine mr_seg 2 (pc1 := 10) (ls1 := [some (.ref 138), some (.int (-2))]) (st1 := [.int ((nI (kg rf 2)) + 1), .int 2, .ref 145]) (M1 := (mk_M c n m kk (rT (he, ke, ki, fi, fa, or, mi, a, g, l, w, s) xm xi xw im le nu rf ln nn vp xn xc vs))) (fun f => rfl) ?_
          refine mr_v (nI_add (kg rf 2) 1) ?_
          refine mr_stn (xs := (rf.map nI)) (ys := ((rf.set 2 (kg rf 2 + 1)).map nI)) (M2 := (mk_M c n m kk (rT (he, ke, ki, fi, fa, or, mi, a, g, l, w, s) xm xi xw im le nu (rf.set 2 (kg rf 2 + 1)) ln nn vp xn xc vs))) rfl rfl (k := 2) (by omega) (by simp only [List.length_map, List.length_set]; omega) ks_ok rfl ?_
          exact mr_ret 2 (fun f => rfl)) ?_
      exact mr_ret 3 (fun f => rfl)) ?_
  exact mr_ret 1 (fun f => rfl)
theorem oe_mean_1 (he ke ki fi fa or : List Nat) (mi a g l w s : Nat) (m : kG) (kk : kG) (im : Nat) (le : List Nat) (ln : Nat) (ys : List Int32) (vt : Int32) (nu : List Nat) (nn : Nat) (rf : List Nat) (vw : Int32) (vq : Int32) (yc : List Int32) (yh : List Int32) (yg : List Int32) (xm : List Int32) (xi : List Int32) (xw : List Int32) (vp : Int32) (xn : List Int32) (xc : List Int32) (vs : Int32) (hA : iA (he, ke, ki, fi, fa, or, mi, a, g, l, w, s)) (hB : iB le ln) (hC : iC nu nn) (hD : iD rf) (hJ : iJ m ys yc yh yg) (hR : iR xm xw xn xc) (hK : iK im kk xi) (x : Int32) (hxl : 2 ≤ x.toInt) : oL 114 201 [some (.ref 100), some (.int x), none, none] [some (.ref 138), some (.int x), none, none, none] (mk_M (cT im le ln ys vt nu nn rf vw vq yc yh yg) (kr (he, ke, ki, fi, fa, or, mi, a, g, l, w, s)) m kk (rT (he, ke, ki, fi, fa, or, mi, a, g, l, w, s) xm xi xw im le nu rf ln nn vp xn xc vs)) := by
  exact ⟨4000000000000000002, _, _, oc_mean_1 he ke ki fi fa or mi a g l w s im le ln ys vt nu nn rf vw vq yc yh yg m kk _ hA hB hC hD hJ hK.1 x hxl, om_mean_1 he ke ki fi fa or mi a g l w s xm xi xw im le nu rf ln nn vp xn xc vs _ _ _ _ hA hB hC hD hR hK.2.1 x hxl, (he, ke, ki, fi, fa, or, mi, a, g, l, w, s), m, kk, im, le, ln, ys, vt, nu, nn, (rf.set 2 (kg rf 2 + 1)), vw, vq, yc, yh, yg, xm, xi, xw, vp, xn, xc, vs, rfl, hA, hB, hC, iD_s hD, hJ, hR, hK⟩
set_option maxRecDepth 100000 in
theorem oc_whoPushed_0 (he ke ki fi fa or : List Nat) (mi a g l w s : Nat) (im : Nat) (le : List Nat) (ln : Nat) (ys : List Int32) (vt : Int32) (nu : List Nat) (nn : Nat) (rf : List Nat) (vw vq : Int32) (yc yh yg : List Int32) (m kk : kG) (q : cR) (hA : iA (he, ke, ki, fi, fa, or, mi, a, g, l, w, s)) (hB : iB le ln) (hC : iC nu nn) (hD : iD rf) (hJ : iJ m ys yc yh yg) (k0 : kSh kk) (x : Int32) (hxu : x.toInt ≤ -1) : mm_R 115 0 [some (.ref 100), some (.int x)] [] (mk_M (cT im le ln ys vt nu nn rf vw vq yc yh yg) (kr (he, ke, ki, fi, fa, or, mi, a, g, l, w, s)) m kk q) (some (.int (-2)), (mk_M (cT im le ln ys vt nu nn (rf.set 2 (kg rf 2 + 1)) vw vq yc yh yg) (kr (he, ke, ki, fi, fa, or, mi, a, g, l, w, s)) m kk q)) := by
  obtain ⟨hV, hst⟩ := id hA
  have hst2 : s ≤ 999 := hst
  obtain ⟨v1, v2, v3, v4, v5, v6, v7, v8, v9, v10, v11, v12, v13, v14, v15, v16⟩ := id hV
  have v6l := kO_len mi v7 or v6
  obtain ⟨b1, b2, b3⟩ := id hB
  obtain ⟨c1, c2, c3⟩ := id hC
  have d1 : rf.length = 7 := hD
  obtain ⟨j0, j1, j2, j3, j4⟩ := id hJ
  refine mr_seg 1 (pc1 := 1) (ls1 := [some (.ref 100), some (.int x)]) (st1 := [.int x]) (M1 := (mk_M (cT im le ln ys vt nu nn rf vw vq yc yh yg) (kr (he, ke, ki, fi, fa, or, mi, a, g, l, w, s)) m kk q)) (fun f => rfl) ?_
  refine mr_t (C := x < 0) (mz_lt_t 0 (by decide) (by omega)) (fun f => rfl) ?_
  refine mr_seg 2 (pc1 := 12) (ls1 := [some (.ref 100), some (.int x)]) (st1 := [.int (-2), .ref 100]) (M1 := (mk_M (cT im le ln ys vt nu nn rf vw vq yc yh yg) (kr (he, ke, ki, fi, fa, or, mi, a, g, l, w, s)) m kk q)) (fun f => rfl) ?_
  refine mr_call (y := 12) (y0 := 15) (L := [some (.ref 100), some (.int (-2))]) (rest := []) (rr := some (.int (-2))) (M1 := (mk_M (cT im le ln ys vt nu nn (rf.set 2 (kg rf 2 + 1)) vw vq yc yh yg) (kr (he, ke, ki, fi, fa, or, mi, a, g, l, w, s)) m kk q)) (fun f => rfl) (by
      refine mr_seg 5 (pc1 := 7) (ls1 := [some (.ref 100), some (.int (-2))]) (st1 := [.int 2, .ref 105, .int 2, .ref 105]) (M1 := (mk_M (cT im le ln ys vt nu nn rf vw vq yc yh yg) (kr (he, ke, ki, fi, fa, or, mi, a, g, l, w, s)) m kk q)) (fun f => rfl) ?_
      refine mr_ldn (xs := (rf.map nI)) rfl rfl (k := 2) (by omega) (kg_ok (by omega)) ?_
      refine mr_seg 2 (pc1 := 10) (ls1 := [some (.ref 100), some (.int (-2))]) (st1 := [.int ((nI (kg rf 2)) + 1), .int 2, .ref 105]) (M1 := (mk_M (cT im le ln ys vt nu nn rf vw vq yc yh yg) (kr (he, ke, ki, fi, fa, or, mi, a, g, l, w, s)) m kk q)) (fun f => rfl) ?_
      refine mr_v (nI_add (kg rf 2) 1) ?_
      refine mr_stn (xs := (rf.map nI)) (ys := ((rf.set 2 (kg rf 2 + 1)).map nI)) (M2 := (mk_M (cT im le ln ys vt nu nn (rf.set 2 (kg rf 2 + 1)) vw vq yc yh yg) (kr (he, ke, ki, fi, fa, or, mi, a, g, l, w, s)) m kk q)) rfl rfl (k := 2) (by omega) (by simp only [List.length_map, List.length_set]; omega) ks_ok rfl ?_
      exact mr_ret 2 (fun f => rfl)) ?_
  exact mr_ret 1 (fun f => rfl)
set_option maxRecDepth 100000 in
theorem om_whoPushed_0 (he ke ki fi fa or : List Nat) (mi a g l w s : Nat) (xm xi xw : List Int32) (im : Nat) (le nu rf : List Nat) (ln nn : Nat) (vp : Int32) (xn xc : List Int32) (vs : Int32) (c : cC) (n m kk : kG) (hA : iA (he, ke, ki, fi, fa, or, mi, a, g, l, w, s)) (hB : iB le ln) (hC : iC nu nn) (hD : iD rf) (hR : iR xm xw xn xc) (k1 : xi.length = 52) (x : Int32) (hxu : x.toInt ≤ -1) : mm_R 202 0 [some (.ref 138), some (.int x), none, none] [] (mk_M c n m kk (rT (he, ke, ki, fi, fa, or, mi, a, g, l, w, s) xm xi xw im le nu rf ln nn vp xn xc vs)) (some (.int (-2)), (mk_M c n m kk (rT (he, ke, ki, fi, fa, or, mi, a, g, l, w, s) xm xi xw im le nu (rf.set 2 (kg rf 2 + 1)) ln nn vp xn xc vs))) := by
  obtain ⟨hV, hst⟩ := id hA
  have hst2 : s ≤ 999 := hst
  obtain ⟨v1, v2, v3, v4, v5, v6, v7, v8, v9, v10, v11, v12, v13, v14, v15, v16⟩ := id hV
  have v6l := kO_len mi v7 or v6
  obtain ⟨b1, b2, b3⟩ := id hB
  obtain ⟨c1, c2, c3⟩ := id hC
  have d1 : rf.length = 7 := hD
  obtain ⟨r1, r2, r3, r4⟩ := id hR
  refine mr_seg 3 (pc1 := 3) (ls1 := [some (.ref 138), some (.int x), none, none]) (st1 := [.int 1, .int 0, .int x]) (M1 := (mk_M c n m kk (rT (he, ke, ki, fi, fa, or, mi, a, g, l, w, s) xm xi xw im le nu rf ln nn vp xn xc vs))) (fun f => rfl) ?_
  refine mr_call (y := 135) (y0 := 6) (L := [some (.int x), some (.int 0), some (.int 1)]) (rest := []) (rr := some (.int 0)) (M1 := (mk_M c n m kk (rT (he, ke, ki, fi, fa, or, mi, a, g, l, w, s) xm xi xw im le nu rf ln nn vp xn xc vs))) (fun f => rfl) (by
      refine mr_seg 2 (pc1 := 2) (ls1 := [some (.int x), some (.int 0), some (.int 1)]) (st1 := [.int 0, .int x]) (M1 := (mk_M c n m kk (rT (he, ke, ki, fi, fa, or, mi, a, g, l, w, s) xm xi xw im le nu rf ln nn vp xn xc vs))) (fun f => rfl) ?_
      refine mr_t (C := x < 0) (mz_lt_t 0 (by decide) (by omega)) (fun f => rfl) ?_
      exact mr_ret 2 (fun f => rfl)) ?_
  refine mr_seg 3 (pc1 := 12) (ls1 := [some (.ref 138), some (.int x), none, none]) (st1 := [.int (-2), .ref 138]) (M1 := (mk_M c n m kk (rT (he, ke, ki, fi, fa, or, mi, a, g, l, w, s) xm xi xw im le nu rf ln nn vp xn xc vs))) (fun f => rfl) ?_
  refine mr_call (y := 130) (y0 := 15) (L := [some (.ref 138), some (.int (-2))]) (rest := []) (rr := some (.int (-2))) (M1 := (mk_M c n m kk (rT (he, ke, ki, fi, fa, or, mi, a, g, l, w, s) xm xi xw im le nu (rf.set 2 (kg rf 2 + 1)) ln nn vp xn xc vs))) (fun f => rfl) (by
      refine mr_seg 5 (pc1 := 7) (ls1 := [some (.ref 138), some (.int (-2))]) (st1 := [.int 2, .ref 145, .int 2, .ref 145]) (M1 := (mk_M c n m kk (rT (he, ke, ki, fi, fa, or, mi, a, g, l, w, s) xm xi xw im le nu rf ln nn vp xn xc vs))) (fun f => rfl) ?_
      refine mr_ldn (xs := (rf.map nI)) rfl rfl (k := 2) (by omega) (kg_ok (by omega)) ?_
      refine mr_seg 2 (pc1 := 10) (ls1 := [some (.ref 138), some (.int (-2))]) (st1 := [.int ((nI (kg rf 2)) + 1), .int 2, .ref 145]) (M1 := (mk_M c n m kk (rT (he, ke, ki, fi, fa, or, mi, a, g, l, w, s) xm xi xw im le nu rf ln nn vp xn xc vs))) (fun f => rfl) ?_
      refine mr_v (nI_add (kg rf 2) 1) ?_
      refine mr_stn (xs := (rf.map nI)) (ys := ((rf.set 2 (kg rf 2 + 1)).map nI)) (M2 := (mk_M c n m kk (rT (he, ke, ki, fi, fa, or, mi, a, g, l, w, s) xm xi xw im le nu (rf.set 2 (kg rf 2 + 1)) ln nn vp xn xc vs))) rfl rfl (k := 2) (by omega) (by simp only [List.length_map, List.length_set]; omega) ks_ok rfl ?_
      exact mr_ret 2 (fun f => rfl)) ?_
  exact mr_ret 1 (fun f => rfl)
theorem oe_whoPushed_0 (he ke ki fi fa or : List Nat) (mi a g l w s : Nat) (m : kG) (kk : kG) (im : Nat) (le : List Nat) (ln : Nat) (ys : List Int32) (vt : Int32) (nu : List Nat) (nn : Nat) (rf : List Nat) (vw : Int32) (vq : Int32) (yc : List Int32) (yh : List Int32) (yg : List Int32) (xm : List Int32) (xi : List Int32) (xw : List Int32) (vp : Int32) (xn : List Int32) (xc : List Int32) (vs : Int32) (hA : iA (he, ke, ki, fi, fa, or, mi, a, g, l, w, s)) (hB : iB le ln) (hC : iC nu nn) (hD : iD rf) (hJ : iJ m ys yc yh yg) (hR : iR xm xw xn xc) (hK : iK im kk xi) (x : Int32) (hxu : x.toInt ≤ -1) : oI 115 202 [some (.ref 100), some (.int x)] [some (.ref 138), some (.int x), none, none] (mk_M (cT im le ln ys vt nu nn rf vw vq yc yh yg) (kr (he, ke, ki, fi, fa, or, mi, a, g, l, w, s)) m kk (rT (he, ke, ki, fi, fa, or, mi, a, g, l, w, s) xm xi xw im le nu rf ln nn vp xn xc vs)) := by
  exact ⟨(-2), _, _, oc_whoPushed_0 he ke ki fi fa or mi a g l w s im le ln ys vt nu nn rf vw vq yc yh yg m kk _ hA hB hC hD hJ hK.1 x hxu, om_whoPushed_0 he ke ki fi fa or mi a g l w s xm xi xw im le nu rf ln nn vp xn xc vs _ _ _ _ hA hB hC hD hR hK.2.1 x hxu, (he, ke, ki, fi, fa, or, mi, a, g, l, w, s), m, kk, im, le, ln, ys, vt, nu, nn, (rf.set 2 (kg rf 2 + 1)), vw, vq, yc, yh, yg, xm, xi, xw, vp, xn, xc, vs, rfl, hA, hB, hC, iD_s hD, hJ, hR, hK⟩
set_option maxRecDepth 100000 in
theorem oc_whoPushed_1 (he ke ki fi fa or : List Nat) (mi a g l w s : Nat) (im : Nat) (le : List Nat) (ln : Nat) (ys : List Int32) (vt : Int32) (nu : List Nat) (nn : Nat) (rf : List Nat) (vw vq : Int32) (yc yh yg : List Int32) (m kk : kG) (q : cR) (hA : iA (he, ke, ki, fi, fa, or, mi, a, g, l, w, s)) (hB : iB le ln) (hC : iC nu nn) (hD : iD rf) (hJ : iJ m ys yc yh yg) (k0 : kSh kk) (x : Int32) (hxl : 2 ≤ x.toInt) : mm_R 115 0 [some (.ref 100), some (.int x)] [] (mk_M (cT im le ln ys vt nu nn rf vw vq yc yh yg) (kr (he, ke, ki, fi, fa, or, mi, a, g, l, w, s)) m kk q) (some (.int (-2)), (mk_M (cT im le ln ys vt nu nn (rf.set 2 (kg rf 2 + 1)) vw vq yc yh yg) (kr (he, ke, ki, fi, fa, or, mi, a, g, l, w, s)) m kk q)) := by
  obtain ⟨hV, hst⟩ := id hA
  have hst2 : s ≤ 999 := hst
  obtain ⟨v1, v2, v3, v4, v5, v6, v7, v8, v9, v10, v11, v12, v13, v14, v15, v16⟩ := id hV
  have v6l := kO_len mi v7 or v6
  obtain ⟨b1, b2, b3⟩ := id hB
  obtain ⟨c1, c2, c3⟩ := id hC
  have d1 : rf.length = 7 := hD
  obtain ⟨j0, j1, j2, j3, j4⟩ := id hJ
  refine mr_seg 1 (pc1 := 1) (ls1 := [some (.ref 100), some (.int x)]) (st1 := [.int x]) (M1 := (mk_M (cT im le ln ys vt nu nn rf vw vq yc yh yg) (kr (he, ke, ki, fi, fa, or, mi, a, g, l, w, s)) m kk q)) (fun f => rfl) ?_
  refine mr_f (C := x < 0) (mz_lt_f 0 (by decide) (by omega)) (fun f => rfl) ?_
  refine mr_seg 2 (pc1 := 6) (ls1 := [some (.ref 100), some (.int x)]) (st1 := [.int 1, .int x]) (M1 := (mk_M (cT im le ln ys vt nu nn rf vw vq yc yh yg) (kr (he, ke, ki, fi, fa, or, mi, a, g, l, w, s)) m kk q)) (fun f => rfl) ?_
  refine mr_f (C := x ≤ 1) (mz_le_f 1 (by decide) (by omega)) (fun f => rfl) ?_
  refine mr_seg 2 (pc1 := 12) (ls1 := [some (.ref 100), some (.int x)]) (st1 := [.int (-2), .ref 100]) (M1 := (mk_M (cT im le ln ys vt nu nn rf vw vq yc yh yg) (kr (he, ke, ki, fi, fa, or, mi, a, g, l, w, s)) m kk q)) (fun f => rfl) ?_
  refine mr_call (y := 12) (y0 := 15) (L := [some (.ref 100), some (.int (-2))]) (rest := []) (rr := some (.int (-2))) (M1 := (mk_M (cT im le ln ys vt nu nn (rf.set 2 (kg rf 2 + 1)) vw vq yc yh yg) (kr (he, ke, ki, fi, fa, or, mi, a, g, l, w, s)) m kk q)) (fun f => rfl) (by
      refine mr_seg 5 (pc1 := 7) (ls1 := [some (.ref 100), some (.int (-2))]) (st1 := [.int 2, .ref 105, .int 2, .ref 105]) (M1 := (mk_M (cT im le ln ys vt nu nn rf vw vq yc yh yg) (kr (he, ke, ki, fi, fa, or, mi, a, g, l, w, s)) m kk q)) (fun f => rfl) ?_
      refine mr_ldn (xs := (rf.map nI)) rfl rfl (k := 2) (by omega) (kg_ok (by omega)) ?_
      refine mr_seg 2 (pc1 := 10) (ls1 := [some (.ref 100), some (.int (-2))]) (st1 := [.int ((nI (kg rf 2)) + 1), .int 2, .ref 105]) (M1 := (mk_M (cT im le ln ys vt nu nn rf vw vq yc yh yg) (kr (he, ke, ki, fi, fa, or, mi, a, g, l, w, s)) m kk q)) (fun f => rfl) ?_
      refine mr_v (nI_add (kg rf 2) 1) ?_
      refine mr_stn (xs := (rf.map nI)) (ys := ((rf.set 2 (kg rf 2 + 1)).map nI)) (M2 := (mk_M (cT im le ln ys vt nu nn (rf.set 2 (kg rf 2 + 1)) vw vq yc yh yg) (kr (he, ke, ki, fi, fa, or, mi, a, g, l, w, s)) m kk q)) rfl rfl (k := 2) (by omega) (by simp only [List.length_map, List.length_set]; omega) ks_ok rfl ?_
      exact mr_ret 2 (fun f => rfl)) ?_
  exact mr_ret 1 (fun f => rfl)
set_option maxRecDepth 100000 in
theorem om_whoPushed_1 (he ke ki fi fa or : List Nat) (mi a g l w s : Nat) (xm xi xw : List Int32) (im : Nat) (le nu rf : List Nat) (ln nn : Nat) (vp : Int32) (xn xc : List Int32) (vs : Int32) (c : cC) (n m kk : kG) (hA : iA (he, ke, ki, fi, fa, or, mi, a, g, l, w, s)) (hB : iB le ln) (hC : iC nu nn) (hD : iD rf) (hR : iR xm xw xn xc) (k1 : xi.length = 52) (x : Int32) (hxl : 2 ≤ x.toInt) : mm_R 202 0 [some (.ref 138), some (.int x), none, none] [] (mk_M c n m kk (rT (he, ke, ki, fi, fa, or, mi, a, g, l, w, s) xm xi xw im le nu rf ln nn vp xn xc vs)) (some (.int (-2)), (mk_M c n m kk (rT (he, ke, ki, fi, fa, or, mi, a, g, l, w, s) xm xi xw im le nu (rf.set 2 (kg rf 2 + 1)) ln nn vp xn xc vs))) := by
  obtain ⟨hV, hst⟩ := id hA
  have hst2 : s ≤ 999 := hst
  obtain ⟨v1, v2, v3, v4, v5, v6, v7, v8, v9, v10, v11, v12, v13, v14, v15, v16⟩ := id hV
  have v6l := kO_len mi v7 or v6
  obtain ⟨b1, b2, b3⟩ := id hB
  obtain ⟨c1, c2, c3⟩ := id hC
  have d1 : rf.length = 7 := hD
  obtain ⟨r1, r2, r3, r4⟩ := id hR
  refine mr_seg 3 (pc1 := 3) (ls1 := [some (.ref 138), some (.int x), none, none]) (st1 := [.int 1, .int 0, .int x]) (M1 := (mk_M c n m kk (rT (he, ke, ki, fi, fa, or, mi, a, g, l, w, s) xm xi xw im le nu rf ln nn vp xn xc vs))) (fun f => rfl) ?_
  refine mr_call (y := 135) (y0 := 6) (L := [some (.int x), some (.int 0), some (.int 1)]) (rest := []) (rr := some (.int 0)) (M1 := (mk_M c n m kk (rT (he, ke, ki, fi, fa, or, mi, a, g, l, w, s) xm xi xw im le nu rf ln nn vp xn xc vs))) (fun f => rfl) (by
      refine mr_seg 2 (pc1 := 2) (ls1 := [some (.int x), some (.int 0), some (.int 1)]) (st1 := [.int 0, .int x]) (M1 := (mk_M c n m kk (rT (he, ke, ki, fi, fa, or, mi, a, g, l, w, s) xm xi xw im le nu rf ln nn vp xn xc vs))) (fun f => rfl) ?_
      refine mr_f (C := x < 0) (mz_lt_f 0 (by decide) (by omega)) (fun f => rfl) ?_
      refine mr_seg 2 (pc1 := 7) (ls1 := [some (.int x), some (.int 0), some (.int 1)]) (st1 := [.int 1, .int x]) (M1 := (mk_M c n m kk (rT (he, ke, ki, fi, fa, or, mi, a, g, l, w, s) xm xi xw im le nu rf ln nn vp xn xc vs))) (fun f => rfl) ?_
      refine mr_t (C := 1 < x) (mz_gt_t 1 (by decide) (by omega)) (fun f => rfl) ?_
      exact mr_ret 2 (fun f => rfl)) ?_
  refine mr_seg 3 (pc1 := 12) (ls1 := [some (.ref 138), some (.int x), none, none]) (st1 := [.int (-2), .ref 138]) (M1 := (mk_M c n m kk (rT (he, ke, ki, fi, fa, or, mi, a, g, l, w, s) xm xi xw im le nu rf ln nn vp xn xc vs))) (fun f => rfl) ?_
  refine mr_call (y := 130) (y0 := 15) (L := [some (.ref 138), some (.int (-2))]) (rest := []) (rr := some (.int (-2))) (M1 := (mk_M c n m kk (rT (he, ke, ki, fi, fa, or, mi, a, g, l, w, s) xm xi xw im le nu (rf.set 2 (kg rf 2 + 1)) ln nn vp xn xc vs))) (fun f => rfl) (by
      refine mr_seg 5 (pc1 := 7) (ls1 := [some (.ref 138), some (.int (-2))]) (st1 := [.int 2, .ref 145, .int 2, .ref 145]) (M1 := (mk_M c n m kk (rT (he, ke, ki, fi, fa, or, mi, a, g, l, w, s) xm xi xw im le nu rf ln nn vp xn xc vs))) (fun f => rfl) ?_
      refine mr_ldn (xs := (rf.map nI)) rfl rfl (k := 2) (by omega) (kg_ok (by omega)) ?_
      refine mr_seg 2 (pc1 := 10) (ls1 := [some (.ref 138), some (.int (-2))]) (st1 := [.int ((nI (kg rf 2)) + 1), .int 2, .ref 145]) (M1 := (mk_M c n m kk (rT (he, ke, ki, fi, fa, or, mi, a, g, l, w, s) xm xi xw im le nu rf ln nn vp xn xc vs))) (fun f => rfl) ?_
      refine mr_v (nI_add (kg rf 2) 1) ?_
      refine mr_stn (xs := (rf.map nI)) (ys := ((rf.set 2 (kg rf 2 + 1)).map nI)) (M2 := (mk_M c n m kk (rT (he, ke, ki, fi, fa, or, mi, a, g, l, w, s) xm xi xw im le nu (rf.set 2 (kg rf 2 + 1)) ln nn vp xn xc vs))) rfl rfl (k := 2) (by omega) (by simp only [List.length_map, List.length_set]; omega) ks_ok rfl ?_
      exact mr_ret 2 (fun f => rfl)) ?_
  exact mr_ret 1 (fun f => rfl)
theorem oe_whoPushed_1 (he ke ki fi fa or : List Nat) (mi a g l w s : Nat) (m : kG) (kk : kG) (im : Nat) (le : List Nat) (ln : Nat) (ys : List Int32) (vt : Int32) (nu : List Nat) (nn : Nat) (rf : List Nat) (vw : Int32) (vq : Int32) (yc : List Int32) (yh : List Int32) (yg : List Int32) (xm : List Int32) (xi : List Int32) (xw : List Int32) (vp : Int32) (xn : List Int32) (xc : List Int32) (vs : Int32) (hA : iA (he, ke, ki, fi, fa, or, mi, a, g, l, w, s)) (hB : iB le ln) (hC : iC nu nn) (hD : iD rf) (hJ : iJ m ys yc yh yg) (hR : iR xm xw xn xc) (hK : iK im kk xi) (x : Int32) (hxl : 2 ≤ x.toInt) : oI 115 202 [some (.ref 100), some (.int x)] [some (.ref 138), some (.int x), none, none] (mk_M (cT im le ln ys vt nu nn rf vw vq yc yh yg) (kr (he, ke, ki, fi, fa, or, mi, a, g, l, w, s)) m kk (rT (he, ke, ki, fi, fa, or, mi, a, g, l, w, s) xm xi xw im le nu rf ln nn vp xn xc vs)) := by
  exact ⟨(-2), _, _, oc_whoPushed_1 he ke ki fi fa or mi a g l w s im le ln ys vt nu nn rf vw vq yc yh yg m kk _ hA hB hC hD hJ hK.1 x hxl, om_whoPushed_1 he ke ki fi fa or mi a g l w s xm xi xw im le nu rf ln nn vp xn xc vs _ _ _ _ hA hB hC hD hR hK.2.1 x hxl, (he, ke, ki, fi, fa, or, mi, a, g, l, w, s), m, kk, im, le, ln, ys, vt, nu, nn, (rf.set 2 (kg rf 2 + 1)), vw, vq, yc, yh, yg, xm, xi, xw, vp, xn, xc, vs, rfl, hA, hB, hC, iD_s hD, hJ, hR, hK⟩
set_option maxRecDepth 100000 in
theorem oc_lots_0 (he ke ki fi fa or : List Nat) (mi a g l w s : Nat) (im : Nat) (le : List Nat) (ln : Nat) (ys : List Int32) (vt : Int32) (nu : List Nat) (nn : Nat) (rf : List Nat) (vw vq : Int32) (yc yh yg : List Int32) (m kk : kG) (q : cR) (hA : iA (he, ke, ki, fi, fa, or, mi, a, g, l, w, s)) (hB : iB le ln) (hC : iC nu nn) (hD : iD rf) (hJ : iJ m ys yc yh yg) (k0 : kSh kk) (x : Int32) (hxu : x.toInt ≤ 0) (y : Int32) (z : Int32) : mm_R 122 0 [some (.ref 100), some (.int x), some (.int y), some (.int z), none, none, none, none, none] [] (mk_M (cT im le ln ys vt nu nn rf vw vq yc yh yg) (kr (he, ke, ki, fi, fa, or, mi, a, g, l, w, s)) m kk q) (some (.int (-4)), (mk_M (cT im le ln ys vt nu nn (rf.set 4 (kg rf 4 + 1)) vw vq yc yh yg) (kr (he, ke, ki, fi, fa, or, mi, a, g, l, w, s)) m kk q)) := by
  obtain ⟨hV, hst⟩ := id hA
  have hst2 : s ≤ 999 := hst
  obtain ⟨v1, v2, v3, v4, v5, v6, v7, v8, v9, v10, v11, v12, v13, v14, v15, v16⟩ := id hV
  have v6l := kO_len mi v7 or v6
  obtain ⟨b1, b2, b3⟩ := id hB
  obtain ⟨c1, c2, c3⟩ := id hC
  have d1 : rf.length = 7 := hD
  obtain ⟨j0, j1, j2, j3, j4⟩ := id hJ
  refine mr_seg 2 (pc1 := 2) (ls1 := [some (.ref 100), some (.int x), some (.int y), some (.int z), none, none, none, none, none]) (st1 := [.int 1, .int x]) (M1 := (mk_M (cT im le ln ys vt nu nn rf vw vq yc yh yg) (kr (he, ke, ki, fi, fa, or, mi, a, g, l, w, s)) m kk q)) (fun f => rfl) ?_
  refine mr_f (C := 1 ≤ x) (mz_ge_f 1 (by decide) (by omega)) (fun f => rfl) ?_
  refine mr_seg 2 (pc1 := 8) (ls1 := [some (.ref 100), some (.int x), some (.int y), some (.int z), none, none, none, none, none]) (st1 := [.int (-4), .ref 100]) (M1 := (mk_M (cT im le ln ys vt nu nn rf vw vq yc yh yg) (kr (he, ke, ki, fi, fa, or, mi, a, g, l, w, s)) m kk q)) (fun f => rfl) ?_
  refine mr_call (y := 12) (y0 := 11) (L := [some (.ref 100), some (.int (-4))]) (rest := []) (rr := some (.int (-4))) (M1 := (mk_M (cT im le ln ys vt nu nn (rf.set 4 (kg rf 4 + 1)) vw vq yc yh yg) (kr (he, ke, ki, fi, fa, or, mi, a, g, l, w, s)) m kk q)) (fun f => rfl) (by
      refine mr_seg 5 (pc1 := 7) (ls1 := [some (.ref 100), some (.int (-4))]) (st1 := [.int 4, .ref 105, .int 4, .ref 105]) (M1 := (mk_M (cT im le ln ys vt nu nn rf vw vq yc yh yg) (kr (he, ke, ki, fi, fa, or, mi, a, g, l, w, s)) m kk q)) (fun f => rfl) ?_
      refine mr_ldn (xs := (rf.map nI)) rfl rfl (k := 4) (by omega) (kg_ok (by omega)) ?_
      refine mr_seg 2 (pc1 := 10) (ls1 := [some (.ref 100), some (.int (-4))]) (st1 := [.int ((nI (kg rf 4)) + 1), .int 4, .ref 105]) (M1 := (mk_M (cT im le ln ys vt nu nn rf vw vq yc yh yg) (kr (he, ke, ki, fi, fa, or, mi, a, g, l, w, s)) m kk q)) (fun f => rfl) ?_
      refine mr_v (nI_add (kg rf 4) 1) ?_
      refine mr_stn (xs := (rf.map nI)) (ys := ((rf.set 4 (kg rf 4 + 1)).map nI)) (M2 := (mk_M (cT im le ln ys vt nu nn (rf.set 4 (kg rf 4 + 1)) vw vq yc yh yg) (kr (he, ke, ki, fi, fa, or, mi, a, g, l, w, s)) m kk q)) rfl rfl (k := 4) (by omega) (by simp only [List.length_map, List.length_set]; omega) ks_ok rfl ?_
      exact mr_ret 2 (fun f => rfl)) ?_
  exact mr_ret 1 (fun f => rfl)
set_option maxRecDepth 100000 in
theorem om_lots_0 (he ke ki fi fa or : List Nat) (mi a g l w s : Nat) (xm xi xw : List Int32) (im : Nat) (le nu rf : List Nat) (ln nn : Nat) (vp : Int32) (xn xc : List Int32) (vs : Int32) (c : cC) (n m kk : kG) (hA : iA (he, ke, ki, fi, fa, or, mi, a, g, l, w, s)) (hB : iB le ln) (hC : iC nu nn) (hD : iD rf) (hR : iR xm xw xn xc) (k1 : xi.length = 52) (x : Int32) (hxu : x.toInt ≤ 0) (y : Int32) (z : Int32) : mm_R 207 0 [some (.ref 138), some (.int x), some (.int y), some (.int z), none, none] [] (mk_M c n m kk (rT (he, ke, ki, fi, fa, or, mi, a, g, l, w, s) xm xi xw im le nu rf ln nn vp xn xc vs)) (some (.int (-4)), (mk_M c n m kk (rT (he, ke, ki, fi, fa, or, mi, a, g, l, w, s) xm xi xw im le nu (rf.set 4 (kg rf 4 + 1)) ln nn vp xn xc vs))) := by
  obtain ⟨hV, hst⟩ := id hA
  have hst2 : s ≤ 999 := hst
  obtain ⟨v1, v2, v3, v4, v5, v6, v7, v8, v9, v10, v11, v12, v13, v14, v15, v16⟩ := id hV
  have v6l := kO_len mi v7 or v6
  obtain ⟨b1, b2, b3⟩ := id hB
  obtain ⟨c1, c2, c3⟩ := id hC
  have d1 : rf.length = 7 := hD
  obtain ⟨r1, r2, r3, r4⟩ := id hR
  refine mr_seg 2 (pc1 := 2) (ls1 := [some (.ref 138), some (.int x), some (.int y), some (.int z), none, none]) (st1 := [.int 1, .int x]) (M1 := (mk_M c n m kk (rT (he, ke, ki, fi, fa, or, mi, a, g, l, w, s) xm xi xw im le nu rf ln nn vp xn xc vs))) (fun f => rfl) ?_
  refine mr_f (C := 1 ≤ x) (mz_ge_f 1 (by decide) (by omega)) (fun f => rfl) ?_
  refine mr_seg 2 (pc1 := 8) (ls1 := [some (.ref 138), some (.int x), some (.int y), some (.int z), none, none]) (st1 := [.int (-4), .ref 138]) (M1 := (mk_M c n m kk (rT (he, ke, ki, fi, fa, or, mi, a, g, l, w, s) xm xi xw im le nu rf ln nn vp xn xc vs))) (fun f => rfl) ?_
  refine mr_call (y := 130) (y0 := 11) (L := [some (.ref 138), some (.int (-4))]) (rest := []) (rr := some (.int (-4))) (M1 := (mk_M c n m kk (rT (he, ke, ki, fi, fa, or, mi, a, g, l, w, s) xm xi xw im le nu (rf.set 4 (kg rf 4 + 1)) ln nn vp xn xc vs))) (fun f => rfl) (by
      refine mr_seg 5 (pc1 := 7) (ls1 := [some (.ref 138), some (.int (-4))]) (st1 := [.int 4, .ref 145, .int 4, .ref 145]) (M1 := (mk_M c n m kk (rT (he, ke, ki, fi, fa, or, mi, a, g, l, w, s) xm xi xw im le nu rf ln nn vp xn xc vs))) (fun f => rfl) ?_
      refine mr_ldn (xs := (rf.map nI)) rfl rfl (k := 4) (by omega) (kg_ok (by omega)) ?_
      refine mr_seg 2 (pc1 := 10) (ls1 := [some (.ref 138), some (.int (-4))]) (st1 := [.int ((nI (kg rf 4)) + 1), .int 4, .ref 145]) (M1 := (mk_M c n m kk (rT (he, ke, ki, fi, fa, or, mi, a, g, l, w, s) xm xi xw im le nu rf ln nn vp xn xc vs))) (fun f => rfl) ?_
      refine mr_v (nI_add (kg rf 4) 1) ?_
      refine mr_stn (xs := (rf.map nI)) (ys := ((rf.set 4 (kg rf 4 + 1)).map nI)) (M2 := (mk_M c n m kk (rT (he, ke, ki, fi, fa, or, mi, a, g, l, w, s) xm xi xw im le nu (rf.set 4 (kg rf 4 + 1)) ln nn vp xn xc vs))) rfl rfl (k := 4) (by omega) (by simp only [List.length_map, List.length_set]; omega) ks_ok rfl ?_
      exact mr_ret 2 (fun f => rfl)) ?_
  exact mr_ret 1 (fun f => rfl)
theorem oe_lots_0 (he ke ki fi fa or : List Nat) (mi a g l w s : Nat) (m : kG) (kk : kG) (im : Nat) (le : List Nat) (ln : Nat) (ys : List Int32) (vt : Int32) (nu : List Nat) (nn : Nat) (rf : List Nat) (vw : Int32) (vq : Int32) (yc : List Int32) (yh : List Int32) (yg : List Int32) (xm : List Int32) (xi : List Int32) (xw : List Int32) (vp : Int32) (xn : List Int32) (xc : List Int32) (vs : Int32) (hA : iA (he, ke, ki, fi, fa, or, mi, a, g, l, w, s)) (hB : iB le ln) (hC : iC nu nn) (hD : iD rf) (hJ : iJ m ys yc yh yg) (hR : iR xm xw xn xc) (hK : iK im kk xi) (x : Int32) (hxu : x.toInt ≤ 0) (y : Int32) (z : Int32) : oI 122 207 [some (.ref 100), some (.int x), some (.int y), some (.int z), none, none, none, none, none] [some (.ref 138), some (.int x), some (.int y), some (.int z), none, none] (mk_M (cT im le ln ys vt nu nn rf vw vq yc yh yg) (kr (he, ke, ki, fi, fa, or, mi, a, g, l, w, s)) m kk (rT (he, ke, ki, fi, fa, or, mi, a, g, l, w, s) xm xi xw im le nu rf ln nn vp xn xc vs)) := by
  exact ⟨(-4), _, _, oc_lots_0 he ke ki fi fa or mi a g l w s im le ln ys vt nu nn rf vw vq yc yh yg m kk _ hA hB hC hD hJ hK.1 x hxu y z, om_lots_0 he ke ki fi fa or mi a g l w s xm xi xw im le nu rf ln nn vp xn xc vs _ _ _ _ hA hB hC hD hR hK.2.1 x hxu y z, (he, ke, ki, fi, fa, or, mi, a, g, l, w, s), m, kk, im, le, ln, ys, vt, nu, nn, (rf.set 4 (kg rf 4 + 1)), vw, vq, yc, yh, yg, xm, xi, xw, vp, xn, xc, vs, rfl, hA, hB, hC, iD_s hD, hJ, hR, hK⟩
set_option maxRecDepth 100000 in
theorem oc_lots_1 (he ke ki fi fa or : List Nat) (mi a g l w s : Nat) (im : Nat) (le : List Nat) (ln : Nat) (ys : List Int32) (vt : Int32) (nu : List Nat) (nn : Nat) (rf : List Nat) (vw vq : Int32) (yc yh yg : List Int32) (m kk : kG) (q : cR) (hA : iA (he, ke, ki, fi, fa, or, mi, a, g, l, w, s)) (hB : iB le ln) (hC : iC nu nn) (hD : iD rf) (hJ : iJ m ys yc yh yg) (k0 : kSh kk) (x : Int32) (hxl : 21 ≤ x.toInt) (y : Int32) (z : Int32) : mm_R 122 0 [some (.ref 100), some (.int x), some (.int y), some (.int z), none, none, none, none, none] [] (mk_M (cT im le ln ys vt nu nn rf vw vq yc yh yg) (kr (he, ke, ki, fi, fa, or, mi, a, g, l, w, s)) m kk q) (some (.int (-6)), (mk_M (cT im le ln ys vt nu nn (rf.set 6 (kg rf 6 + 1)) vw vq yc yh yg) (kr (he, ke, ki, fi, fa, or, mi, a, g, l, w, s)) m kk q)) := by
  obtain ⟨hV, hst⟩ := id hA
  have hst2 : s ≤ 999 := hst
  obtain ⟨v1, v2, v3, v4, v5, v6, v7, v8, v9, v10, v11, v12, v13, v14, v15, v16⟩ := id hV
  have v6l := kO_len mi v7 or v6
  obtain ⟨b1, b2, b3⟩ := id hB
  obtain ⟨c1, c2, c3⟩ := id hC
  have d1 : rf.length = 7 := hD
  obtain ⟨j0, j1, j2, j3, j4⟩ := id hJ
  refine mr_seg 2 (pc1 := 2) (ls1 := [some (.ref 100), some (.int x), some (.int y), some (.int z), none, none, none, none, none]) (st1 := [.int 1, .int x]) (M1 := (mk_M (cT im le ln ys vt nu nn rf vw vq yc yh yg) (kr (he, ke, ki, fi, fa, or, mi, a, g, l, w, s)) m kk q)) (fun f => rfl) ?_
  refine mr_t (C := 1 ≤ x) (mz_ge_t 1 (by decide) (by omega)) (fun f => rfl) ?_
  refine mr_seg 2 (pc1 := 15) (ls1 := [some (.ref 100), some (.int x), some (.int y), some (.int z), none, none, none, none, none]) (st1 := [.int 20, .int x]) (M1 := (mk_M (cT im le ln ys vt nu nn rf vw vq yc yh yg) (kr (he, ke, ki, fi, fa, or, mi, a, g, l, w, s)) m kk q)) (fun f => rfl) ?_
  refine mr_f (C := x ≤ 20) (mz_le_f 20 (by decide) (by omega)) (fun f => rfl) ?_
  refine mr_seg 2 (pc1 := 21) (ls1 := [some (.ref 100), some (.int x), some (.int y), some (.int z), none, none, none, none, none]) (st1 := [.int (-6), .ref 100]) (M1 := (mk_M (cT im le ln ys vt nu nn rf vw vq yc yh yg) (kr (he, ke, ki, fi, fa, or, mi, a, g, l, w, s)) m kk q)) (fun f => rfl) ?_
  refine mr_call (y := 12) (y0 := 24) (L := [some (.ref 100), some (.int (-6))]) (rest := []) (rr := some (.int (-6))) (M1 := (mk_M (cT im le ln ys vt nu nn (rf.set 6 (kg rf 6 + 1)) vw vq yc yh yg) (kr (he, ke, ki, fi, fa, or, mi, a, g, l, w, s)) m kk q)) (fun f => rfl) (by
      refine mr_seg 5 (pc1 := 7) (ls1 := [some (.ref 100), some (.int (-6))]) (st1 := [.int 6, .ref 105, .int 6, .ref 105]) (M1 := (mk_M (cT im le ln ys vt nu nn rf vw vq yc yh yg) (kr (he, ke, ki, fi, fa, or, mi, a, g, l, w, s)) m kk q)) (fun f => rfl) ?_
      refine mr_ldn (xs := (rf.map nI)) rfl rfl (k := 6) (by omega) (kg_ok (by omega)) ?_
      refine mr_seg 2 (pc1 := 10) (ls1 := [some (.ref 100), some (.int (-6))]) (st1 := [.int ((nI (kg rf 6)) + 1), .int 6, .ref 105]) (M1 := (mk_M (cT im le ln ys vt nu nn rf vw vq yc yh yg) (kr (he, ke, ki, fi, fa, or, mi, a, g, l, w, s)) m kk q)) (fun f => rfl) ?_
      refine mr_v (nI_add (kg rf 6) 1) ?_
      refine mr_stn (xs := (rf.map nI)) (ys := ((rf.set 6 (kg rf 6 + 1)).map nI)) (M2 := (mk_M (cT im le ln ys vt nu nn (rf.set 6 (kg rf 6 + 1)) vw vq yc yh yg) (kr (he, ke, ki, fi, fa, or, mi, a, g, l, w, s)) m kk q)) rfl rfl (k := 6) (by omega) (by simp only [List.length_map, List.length_set]; omega) ks_ok rfl ?_
      exact mr_ret 2 (fun f => rfl)) ?_
  exact mr_ret 1 (fun f => rfl)
set_option maxRecDepth 100000 in
theorem om_lots_1 (he ke ki fi fa or : List Nat) (mi a g l w s : Nat) (xm xi xw : List Int32) (im : Nat) (le nu rf : List Nat) (ln nn : Nat) (vp : Int32) (xn xc : List Int32) (vs : Int32) (c : cC) (n m kk : kG) (hA : iA (he, ke, ki, fi, fa, or, mi, a, g, l, w, s)) (hB : iB le ln) (hC : iC nu nn) (hD : iD rf) (hR : iR xm xw xn xc) (k1 : xi.length = 52) (x : Int32) (hxl : 21 ≤ x.toInt) (y : Int32) (z : Int32) : mm_R 207 0 [some (.ref 138), some (.int x), some (.int y), some (.int z), none, none] [] (mk_M c n m kk (rT (he, ke, ki, fi, fa, or, mi, a, g, l, w, s) xm xi xw im le nu rf ln nn vp xn xc vs)) (some (.int (-6)), (mk_M c n m kk (rT (he, ke, ki, fi, fa, or, mi, a, g, l, w, s) xm xi xw im le nu (rf.set 6 (kg rf 6 + 1)) ln nn vp xn xc vs))) := by
  obtain ⟨hV, hst⟩ := id hA
  have hst2 : s ≤ 999 := hst
  obtain ⟨v1, v2, v3, v4, v5, v6, v7, v8, v9, v10, v11, v12, v13, v14, v15, v16⟩ := id hV
  have v6l := kO_len mi v7 or v6
  obtain ⟨b1, b2, b3⟩ := id hB
  obtain ⟨c1, c2, c3⟩ := id hC
  have d1 : rf.length = 7 := hD
  obtain ⟨r1, r2, r3, r4⟩ := id hR
  refine mr_seg 2 (pc1 := 2) (ls1 := [some (.ref 138), some (.int x), some (.int y), some (.int z), none, none]) (st1 := [.int 1, .int x]) (M1 := (mk_M c n m kk (rT (he, ke, ki, fi, fa, or, mi, a, g, l, w, s) xm xi xw im le nu rf ln nn vp xn xc vs))) (fun f => rfl) ?_
  refine mr_t (C := 1 ≤ x) (mz_ge_t 1 (by decide) (by omega)) (fun f => rfl) ?_
  refine mr_seg 2 (pc1 := 15) (ls1 := [some (.ref 138), some (.int x), some (.int y), some (.int z), none, none]) (st1 := [.int 20, .int x]) (M1 := (mk_M c n m kk (rT (he, ke, ki, fi, fa, or, mi, a, g, l, w, s) xm xi xw im le nu rf ln nn vp xn xc vs))) (fun f => rfl) ?_
  refine mr_f (C := x ≤ 20) (mz_le_f 20 (by decide) (by omega)) (fun f => rfl) ?_
  refine mr_seg 2 (pc1 := 21) (ls1 := [some (.ref 138), some (.int x), some (.int y), some (.int z), none, none]) (st1 := [.int (-6), .ref 138]) (M1 := (mk_M c n m kk (rT (he, ke, ki, fi, fa, or, mi, a, g, l, w, s) xm xi xw im le nu rf ln nn vp xn xc vs))) (fun f => rfl) ?_
  refine mr_call (y := 130) (y0 := 24) (L := [some (.ref 138), some (.int (-6))]) (rest := []) (rr := some (.int (-6))) (M1 := (mk_M c n m kk (rT (he, ke, ki, fi, fa, or, mi, a, g, l, w, s) xm xi xw im le nu (rf.set 6 (kg rf 6 + 1)) ln nn vp xn xc vs))) (fun f => rfl) (by
      refine mr_seg 5 (pc1 := 7) (ls1 := [some (.ref 138), some (.int (-6))]) (st1 := [.int 6, .ref 145, .int 6, .ref 145]) (M1 := (mk_M c n m kk (rT (he, ke, ki, fi, fa, or, mi, a, g, l, w, s) xm xi xw im le nu rf ln nn vp xn xc vs))) (fun f => rfl) ?_
      refine mr_ldn (xs := (rf.map nI)) rfl rfl (k := 6) (by omega) (kg_ok (by omega)) ?_
      refine mr_seg 2 (pc1 := 10) (ls1 := [some (.ref 138), some (.int (-6))]) (st1 := [.int ((nI (kg rf 6)) + 1), .int 6, .ref 145]) (M1 := (mk_M c n m kk (rT (he, ke, ki, fi, fa, or, mi, a, g, l, w, s) xm xi xw im le nu rf ln nn vp xn xc vs))) (fun f => rfl) ?_
      refine mr_v (nI_add (kg rf 6) 1) ?_
      refine mr_stn (xs := (rf.map nI)) (ys := ((rf.set 6 (kg rf 6 + 1)).map nI)) (M2 := (mk_M c n m kk (rT (he, ke, ki, fi, fa, or, mi, a, g, l, w, s) xm xi xw im le nu (rf.set 6 (kg rf 6 + 1)) ln nn vp xn xc vs))) rfl rfl (k := 6) (by omega) (by simp only [List.length_map, List.length_set]; omega) ks_ok rfl ?_
      exact mr_ret 2 (fun f => rfl)) ?_
  exact mr_ret 1 (fun f => rfl)
theorem oe_lots_1 (he ke ki fi fa or : List Nat) (mi a g l w s : Nat) (m : kG) (kk : kG) (im : Nat) (le : List Nat) (ln : Nat) (ys : List Int32) (vt : Int32) (nu : List Nat) (nn : Nat) (rf : List Nat) (vw : Int32) (vq : Int32) (yc : List Int32) (yh : List Int32) (yg : List Int32) (xm : List Int32) (xi : List Int32) (xw : List Int32) (vp : Int32) (xn : List Int32) (xc : List Int32) (vs : Int32) (hA : iA (he, ke, ki, fi, fa, or, mi, a, g, l, w, s)) (hB : iB le ln) (hC : iC nu nn) (hD : iD rf) (hJ : iJ m ys yc yh yg) (hR : iR xm xw xn xc) (hK : iK im kk xi) (x : Int32) (hxl : 21 ≤ x.toInt) (y : Int32) (z : Int32) : oI 122 207 [some (.ref 100), some (.int x), some (.int y), some (.int z), none, none, none, none, none] [some (.ref 138), some (.int x), some (.int y), some (.int z), none, none] (mk_M (cT im le ln ys vt nu nn rf vw vq yc yh yg) (kr (he, ke, ki, fi, fa, or, mi, a, g, l, w, s)) m kk (rT (he, ke, ki, fi, fa, or, mi, a, g, l, w, s) xm xi xw im le nu rf ln nn vp xn xc vs)) := by
  exact ⟨(-6), _, _, oc_lots_1 he ke ki fi fa or mi a g l w s im le ln ys vt nu nn rf vw vq yc yh yg m kk _ hA hB hC hD hJ hK.1 x hxl y z, om_lots_1 he ke ki fi fa or mi a g l w s xm xi xw im le nu rf ln nn vp xn xc vs _ _ _ _ hA hB hC hD hR hK.2.1 x hxl y z, (he, ke, ki, fi, fa, or, mi, a, g, l, w, s), m, kk, im, le, ln, ys, vt, nu, nn, (rf.set 6 (kg rf 6 + 1)), vw, vq, yc, yh, yg, xm, xi, xw, vp, xn, xc, vs, rfl, hA, hB, hC, iD_s hD, hJ, hR, hK⟩
set_option maxRecDepth 100000 in
theorem oc_lots_2 (he ke ki fi fa or : List Nat) (mi a g l w s : Nat) (im : Nat) (le : List Nat) (ln : Nat) (ys : List Int32) (vt : Int32) (nu : List Nat) (nn : Nat) (rf : List Nat) (vw vq : Int32) (yc yh yg : List Int32) (m kk : kG) (q : cR) (hA : iA (he, ke, ki, fi, fa, or, mi, a, g, l, w, s)) (hB : iB le ln) (hC : iC nu nn) (hD : iD rf) (hJ : iJ m ys yc yh yg) (k0 : kSh kk) (x : Nat) (hx1 : 1 ≤ x) (hx : x ≤ 20) (y : Int32) (z : Int32) (hzu : z.toInt ≤ -1) : mm_R 122 0 [some (.ref 100), some (.int (nI x)), some (.int y), some (.int z), none, none, none, none, none] [] (mk_M (cT im le ln ys vt nu nn rf vw vq yc yh yg) (kr (he, ke, ki, fi, fa, or, mi, a, g, l, w, s)) m kk q) (some (.int (-2)), (mk_M (cT im le ln ys vt nu nn (rf.set 2 (kg rf 2 + 1)) vw vq yc yh yg) (kr (he, ke, ki, fi, fa, or, mi, a, g, l, w, s)) m kk q)) := by
  obtain ⟨hV, hst⟩ := id hA
  have hst2 : s ≤ 999 := hst
  obtain ⟨v1, v2, v3, v4, v5, v6, v7, v8, v9, v10, v11, v12, v13, v14, v15, v16⟩ := id hV
  have v6l := kO_len mi v7 or v6
  obtain ⟨b1, b2, b3⟩ := id hB
  obtain ⟨c1, c2, c3⟩ := id hC
  have d1 : rf.length = 7 := hD
  obtain ⟨j0, j1, j2, j3, j4⟩ := id hJ
  refine mr_seg 2 (pc1 := 2) (ls1 := [some (.ref 100), some (.int (nI x)), some (.int y), some (.int z), none, none, none, none, none]) (st1 := [.int 1, .int (nI x)]) (M1 := (mk_M (cT im le ln ys vt nu nn rf vw vq yc yh yg) (kr (he, ke, ki, fi, fa, or, mi, a, g, l, w, s)) m kk q)) (fun f => rfl) ?_
  refine mr_t (C := 1 ≤ (nI x)) ((nI_leI (a := 1) (b := x) (by omega) (by omega)).mpr (by omega)) (fun f => rfl) ?_
  refine mr_seg 2 (pc1 := 15) (ls1 := [some (.ref 100), some (.int (nI x)), some (.int y), some (.int z), none, none, none, none, none]) (st1 := [.int 20, .int (nI x)]) (M1 := (mk_M (cT im le ln ys vt nu nn rf vw vq yc yh yg) (kr (he, ke, ki, fi, fa, or, mi, a, g, l, w, s)) m kk q)) (fun f => rfl) ?_
  refine mr_t (C := (nI x) ≤ 20) ((nI_leI (a := x) (b := 20) (by omega) (by omega)).mpr (by omega)) (fun f => rfl) ?_
  refine mr_seg 1 (pc1 := 26) (ls1 := [some (.ref 100), some (.int (nI x)), some (.int y), some (.int z), none, none, none, none, none]) (st1 := [.int z]) (M1 := (mk_M (cT im le ln ys vt nu nn rf vw vq yc yh yg) (kr (he, ke, ki, fi, fa, or, mi, a, g, l, w, s)) m kk q)) (fun f => rfl) ?_
  refine mr_t (C := z < 0) (mz_lt_t 0 (by decide) (by omega)) (fun f => rfl) ?_
  refine mr_seg 2 (pc1 := 37) (ls1 := [some (.ref 100), some (.int (nI x)), some (.int y), some (.int z), none, none, none, none, none]) (st1 := [.int (-2), .ref 100]) (M1 := (mk_M (cT im le ln ys vt nu nn rf vw vq yc yh yg) (kr (he, ke, ki, fi, fa, or, mi, a, g, l, w, s)) m kk q)) (fun f => rfl) ?_
  refine mr_call (y := 12) (y0 := 40) (L := [some (.ref 100), some (.int (-2))]) (rest := []) (rr := some (.int (-2))) (M1 := (mk_M (cT im le ln ys vt nu nn (rf.set 2 (kg rf 2 + 1)) vw vq yc yh yg) (kr (he, ke, ki, fi, fa, or, mi, a, g, l, w, s)) m kk q)) (fun f => rfl) (by
      refine mr_seg 5 (pc1 := 7) (ls1 := [some (.ref 100), some (.int (-2))]) (st1 := [.int 2, .ref 105, .int 2, .ref 105]) (M1 := (mk_M (cT im le ln ys vt nu nn rf vw vq yc yh yg) (kr (he, ke, ki, fi, fa, or, mi, a, g, l, w, s)) m kk q)) (fun f => rfl) ?_
      refine mr_ldn (xs := (rf.map nI)) rfl rfl (k := 2) (by omega) (kg_ok (by omega)) ?_
      refine mr_seg 2 (pc1 := 10) (ls1 := [some (.ref 100), some (.int (-2))]) (st1 := [.int ((nI (kg rf 2)) + 1), .int 2, .ref 105]) (M1 := (mk_M (cT im le ln ys vt nu nn rf vw vq yc yh yg) (kr (he, ke, ki, fi, fa, or, mi, a, g, l, w, s)) m kk q)) (fun f => rfl) ?_
      refine mr_v (nI_add (kg rf 2) 1) ?_
      refine mr_stn (xs := (rf.map nI)) (ys := ((rf.set 2 (kg rf 2 + 1)).map nI)) (M2 := (mk_M (cT im le ln ys vt nu nn (rf.set 2 (kg rf 2 + 1)) vw vq yc yh yg) (kr (he, ke, ki, fi, fa, or, mi, a, g, l, w, s)) m kk q)) rfl rfl (k := 2) (by omega) (by simp only [List.length_map, List.length_set]; omega) ks_ok rfl ?_
      exact mr_ret 2 (fun f => rfl)) ?_
  exact mr_ret 1 (fun f => rfl)
set_option maxRecDepth 100000 in
theorem om_lots_2 (he ke ki fi fa or : List Nat) (mi a g l w s : Nat) (xm xi xw : List Int32) (im : Nat) (le nu rf : List Nat) (ln nn : Nat) (vp : Int32) (xn xc : List Int32) (vs : Int32) (c : cC) (n m kk : kG) (hA : iA (he, ke, ki, fi, fa, or, mi, a, g, l, w, s)) (hB : iB le ln) (hC : iC nu nn) (hD : iD rf) (hR : iR xm xw xn xc) (k1 : xi.length = 52) (x : Nat) (hx1 : 1 ≤ x) (hx : x ≤ 20) (y : Int32) (z : Int32) (hzu : z.toInt ≤ -1) : mm_R 207 0 [some (.ref 138), some (.int (nI x)), some (.int y), some (.int z), none, none] [] (mk_M c n m kk (rT (he, ke, ki, fi, fa, or, mi, a, g, l, w, s) xm xi xw im le nu rf ln nn vp xn xc vs)) (some (.int (-2)), (mk_M c n m kk (rT (he, ke, ki, fi, fa, or, mi, a, g, l, w, s) xm xi xw im le nu (rf.set 2 (kg rf 2 + 1)) ln nn vp xn xc vs))) := by
  obtain ⟨hV, hst⟩ := id hA
  have hst2 : s ≤ 999 := hst
  obtain ⟨v1, v2, v3, v4, v5, v6, v7, v8, v9, v10, v11, v12, v13, v14, v15, v16⟩ := id hV
  have v6l := kO_len mi v7 or v6
  obtain ⟨b1, b2, b3⟩ := id hB
  obtain ⟨c1, c2, c3⟩ := id hC
  have d1 : rf.length = 7 := hD
  obtain ⟨r1, r2, r3, r4⟩ := id hR
  refine mr_seg 2 (pc1 := 2) (ls1 := [some (.ref 138), some (.int (nI x)), some (.int y), some (.int z), none, none]) (st1 := [.int 1, .int (nI x)]) (M1 := (mk_M c n m kk (rT (he, ke, ki, fi, fa, or, mi, a, g, l, w, s) xm xi xw im le nu rf ln nn vp xn xc vs))) (fun f => rfl) ?_
  refine mr_t (C := 1 ≤ (nI x)) ((nI_leI (a := 1) (b := x) (by omega) (by omega)).mpr (by omega)) (fun f => rfl) ?_
  refine mr_seg 2 (pc1 := 15) (ls1 := [some (.ref 138), some (.int (nI x)), some (.int y), some (.int z), none, none]) (st1 := [.int 20, .int (nI x)]) (M1 := (mk_M c n m kk (rT (he, ke, ki, fi, fa, or, mi, a, g, l, w, s) xm xi xw im le nu rf ln nn vp xn xc vs))) (fun f => rfl) ?_
  refine mr_t (C := (nI x) ≤ 20) ((nI_leI (a := x) (b := 20) (by omega) (by omega)).mpr (by omega)) (fun f => rfl) ?_
  refine mr_seg 3 (pc1 := 28) (ls1 := [some (.ref 138), some (.int (nI x)), some (.int y), some (.int z), none, none]) (st1 := [.int 1, .int 0, .int z]) (M1 := (mk_M c n m kk (rT (he, ke, ki, fi, fa, or, mi, a, g, l, w, s) xm xi xw im le nu rf ln nn vp xn xc vs))) (fun f => rfl) ?_
  refine mr_call (y := 135) (y0 := 31) (L := [some (.int z), some (.int 0), some (.int 1)]) (rest := []) (rr := some (.int 0)) (M1 := (mk_M c n m kk (rT (he, ke, ki, fi, fa, or, mi, a, g, l, w, s) xm xi xw im le nu rf ln nn vp xn xc vs))) (fun f => rfl) (by
      refine mr_seg 2 (pc1 := 2) (ls1 := [some (.int z), some (.int 0), some (.int 1)]) (st1 := [.int 0, .int z]) (M1 := (mk_M c n m kk (rT (he, ke, ki, fi, fa, or, mi, a, g, l, w, s) xm xi xw im le nu rf ln nn vp xn xc vs))) (fun f => rfl) ?_
      refine mr_t (C := z < 0) (mz_lt_t 0 (by decide) (by omega)) (fun f => rfl) ?_
      exact mr_ret 2 (fun f => rfl)) ?_
  refine mr_seg 3 (pc1 := 37) (ls1 := [some (.ref 138), some (.int (nI x)), some (.int y), some (.int z), none, none]) (st1 := [.int (-2), .ref 138]) (M1 := (mk_M c n m kk (rT (he, ke, ki, fi, fa, or, mi, a, g, l, w, s) xm xi xw im le nu rf ln nn vp xn xc vs))) (fun f => rfl) ?_
  refine mr_call (y := 130) (y0 := 40) (L := [some (.ref 138), some (.int (-2))]) (rest := []) (rr := some (.int (-2))) (M1 := (mk_M c n m kk (rT (he, ke, ki, fi, fa, or, mi, a, g, l, w, s) xm xi xw im le nu (rf.set 2 (kg rf 2 + 1)) ln nn vp xn xc vs))) (fun f => rfl) (by
      refine mr_seg 5 (pc1 := 7) (ls1 := [some (.ref 138), some (.int (-2))]) (st1 := [.int 2, .ref 145, .int 2, .ref 145]) (M1 := (mk_M c n m kk (rT (he, ke, ki, fi, fa, or, mi, a, g, l, w, s) xm xi xw im le nu rf ln nn vp xn xc vs))) (fun f => rfl) ?_
      refine mr_ldn (xs := (rf.map nI)) rfl rfl (k := 2) (by omega) (kg_ok (by omega)) ?_
      refine mr_seg 2 (pc1 := 10) (ls1 := [some (.ref 138), some (.int (-2))]) (st1 := [.int ((nI (kg rf 2)) + 1), .int 2, .ref 145]) (M1 := (mk_M c n m kk (rT (he, ke, ki, fi, fa, or, mi, a, g, l, w, s) xm xi xw im le nu rf ln nn vp xn xc vs))) (fun f => rfl) ?_
      refine mr_v (nI_add (kg rf 2) 1) ?_
      refine mr_stn (xs := (rf.map nI)) (ys := ((rf.set 2 (kg rf 2 + 1)).map nI)) (M2 := (mk_M c n m kk (rT (he, ke, ki, fi, fa, or, mi, a, g, l, w, s) xm xi xw im le nu (rf.set 2 (kg rf 2 + 1)) ln nn vp xn xc vs))) rfl rfl (k := 2) (by omega) (by simp only [List.length_map, List.length_set]; omega) ks_ok rfl ?_
      exact mr_ret 2 (fun f => rfl)) ?_
  exact mr_ret 1 (fun f => rfl)
theorem oe_lots_2 (he ke ki fi fa or : List Nat) (mi a g l w s : Nat) (m : kG) (kk : kG) (im : Nat) (le : List Nat) (ln : Nat) (ys : List Int32) (vt : Int32) (nu : List Nat) (nn : Nat) (rf : List Nat) (vw : Int32) (vq : Int32) (yc : List Int32) (yh : List Int32) (yg : List Int32) (xm : List Int32) (xi : List Int32) (xw : List Int32) (vp : Int32) (xn : List Int32) (xc : List Int32) (vs : Int32) (hA : iA (he, ke, ki, fi, fa, or, mi, a, g, l, w, s)) (hB : iB le ln) (hC : iC nu nn) (hD : iD rf) (hJ : iJ m ys yc yh yg) (hR : iR xm xw xn xc) (hK : iK im kk xi) (x : Nat) (hx1 : 1 ≤ x) (hx : x ≤ 20) (y : Int32) (z : Int32) (hzu : z.toInt ≤ -1) : oI 122 207 [some (.ref 100), some (.int (nI x)), some (.int y), some (.int z), none, none, none, none, none] [some (.ref 138), some (.int (nI x)), some (.int y), some (.int z), none, none] (mk_M (cT im le ln ys vt nu nn rf vw vq yc yh yg) (kr (he, ke, ki, fi, fa, or, mi, a, g, l, w, s)) m kk (rT (he, ke, ki, fi, fa, or, mi, a, g, l, w, s) xm xi xw im le nu rf ln nn vp xn xc vs)) := by
  exact ⟨(-2), _, _, oc_lots_2 he ke ki fi fa or mi a g l w s im le ln ys vt nu nn rf vw vq yc yh yg m kk _ hA hB hC hD hJ hK.1 x hx1 hx y z hzu, om_lots_2 he ke ki fi fa or mi a g l w s xm xi xw im le nu rf ln nn vp xn xc vs _ _ _ _ hA hB hC hD hR hK.2.1 x hx1 hx y z hzu, (he, ke, ki, fi, fa, or, mi, a, g, l, w, s), m, kk, im, le, ln, ys, vt, nu, nn, (rf.set 2 (kg rf 2 + 1)), vw, vq, yc, yh, yg, xm, xi, xw, vp, xn, xc, vs, rfl, hA, hB, hC, iD_s hD, hJ, hR, hK⟩
set_option maxRecDepth 100000 in
theorem oc_lots_3 (he ke ki fi fa or : List Nat) (mi a g l w s : Nat) (im : Nat) (le : List Nat) (ln : Nat) (ys : List Int32) (vt : Int32) (nu : List Nat) (nn : Nat) (rf : List Nat) (vw vq : Int32) (yc yh yg : List Int32) (m kk : kG) (q : cR) (hA : iA (he, ke, ki, fi, fa, or, mi, a, g, l, w, s)) (hB : iB le ln) (hC : iC nu nn) (hD : iD rf) (hJ : iJ m ys yc yh yg) (k0 : kSh kk) (x : Nat) (hx1 : 1 ≤ x) (hx : x ≤ 20) (y : Int32) (z : Int32) (hzl : 2 ≤ z.toInt) : mm_R 122 0 [some (.ref 100), some (.int (nI x)), some (.int y), some (.int z), none, none, none, none, none] [] (mk_M (cT im le ln ys vt nu nn rf vw vq yc yh yg) (kr (he, ke, ki, fi, fa, or, mi, a, g, l, w, s)) m kk q) (some (.int (-2)), (mk_M (cT im le ln ys vt nu nn (rf.set 2 (kg rf 2 + 1)) vw vq yc yh yg) (kr (he, ke, ki, fi, fa, or, mi, a, g, l, w, s)) m kk q)) := by
  obtain ⟨hV, hst⟩ := id hA
  have hst2 : s ≤ 999 := hst
  obtain ⟨v1, v2, v3, v4, v5, v6, v7, v8, v9, v10, v11, v12, v13, v14, v15, v16⟩ := id hV
  have v6l := kO_len mi v7 or v6
  obtain ⟨b1, b2, b3⟩ := id hB
  obtain ⟨c1, c2, c3⟩ := id hC
  have d1 : rf.length = 7 := hD
  obtain ⟨j0, j1, j2, j3, j4⟩ := id hJ
  refine mr_seg 2 (pc1 := 2) (ls1 := [some (.ref 100), some (.int (nI x)), some (.int y), some (.int z), none, none, none, none, none]) (st1 := [.int 1, .int (nI x)]) (M1 := (mk_M (cT im le ln ys vt nu nn rf vw vq yc yh yg) (kr (he, ke, ki, fi, fa, or, mi, a, g, l, w, s)) m kk q)) (fun f => rfl) ?_
  refine mr_t (C := 1 ≤ (nI x)) ((nI_leI (a := 1) (b := x) (by omega) (by omega)).mpr (by omega)) (fun f => rfl) ?_
  refine mr_seg 2 (pc1 := 15) (ls1 := [some (.ref 100), some (.int (nI x)), some (.int y), some (.int z), none, none, none, none, none]) (st1 := [.int 20, .int (nI x)]) (M1 := (mk_M (cT im le ln ys vt nu nn rf vw vq yc yh yg) (kr (he, ke, ki, fi, fa, or, mi, a, g, l, w, s)) m kk q)) (fun f => rfl) ?_
  refine mr_t (C := (nI x) ≤ 20) ((nI_leI (a := x) (b := 20) (by omega) (by omega)).mpr (by omega)) (fun f => rfl) ?_
  refine mr_seg 1 (pc1 := 26) (ls1 := [some (.ref 100), some (.int (nI x)), some (.int y), some (.int z), none, none, none, none, none]) (st1 := [.int z]) (M1 := (mk_M (cT im le ln ys vt nu nn rf vw vq yc yh yg) (kr (he, ke, ki, fi, fa, or, mi, a, g, l, w, s)) m kk q)) (fun f => rfl) ?_
  refine mr_f (C := z < 0) (mz_lt_f 0 (by decide) (by omega)) (fun f => rfl) ?_
  refine mr_seg 2 (pc1 := 31) (ls1 := [some (.ref 100), some (.int (nI x)), some (.int y), some (.int z), none, none, none, none, none]) (st1 := [.int 1, .int z]) (M1 := (mk_M (cT im le ln ys vt nu nn rf vw vq yc yh yg) (kr (he, ke, ki, fi, fa, or, mi, a, g, l, w, s)) m kk q)) (fun f => rfl) ?_
  refine mr_f (C := z ≤ 1) (mz_le_f 1 (by decide) (by omega)) (fun f => rfl) ?_
  refine mr_seg 2 (pc1 := 37) (ls1 := [some (.ref 100), some (.int (nI x)), some (.int y), some (.int z), none, none, none, none, none]) (st1 := [.int (-2), .ref 100]) (M1 := (mk_M (cT im le ln ys vt nu nn rf vw vq yc yh yg) (kr (he, ke, ki, fi, fa, or, mi, a, g, l, w, s)) m kk q)) (fun f => rfl) ?_
  refine mr_call (y := 12) (y0 := 40) (L := [some (.ref 100), some (.int (-2))]) (rest := []) (rr := some (.int (-2))) (M1 := (mk_M (cT im le ln ys vt nu nn (rf.set 2 (kg rf 2 + 1)) vw vq yc yh yg) (kr (he, ke, ki, fi, fa, or, mi, a, g, l, w, s)) m kk q)) (fun f => rfl) (by
      refine mr_seg 5 (pc1 := 7) (ls1 := [some (.ref 100), some (.int (-2))]) (st1 := [.int 2, .ref 105, .int 2, .ref 105]) (M1 := (mk_M (cT im le ln ys vt nu nn rf vw vq yc yh yg) (kr (he, ke, ki, fi, fa, or, mi, a, g, l, w, s)) m kk q)) (fun f => rfl) ?_
      refine mr_ldn (xs := (rf.map nI)) rfl rfl (k := 2) (by omega) (kg_ok (by omega)) ?_
      refine mr_seg 2 (pc1 := 10) (ls1 := [some (.ref 100), some (.int (-2))]) (st1 := [.int ((nI (kg rf 2)) + 1), .int 2, .ref 105]) (M1 := (mk_M (cT im le ln ys vt nu nn rf vw vq yc yh yg) (kr (he, ke, ki, fi, fa, or, mi, a, g, l, w, s)) m kk q)) (fun f => rfl) ?_
      refine mr_v (nI_add (kg rf 2) 1) ?_
      refine mr_stn (xs := (rf.map nI)) (ys := ((rf.set 2 (kg rf 2 + 1)).map nI)) (M2 := (mk_M (cT im le ln ys vt nu nn (rf.set 2 (kg rf 2 + 1)) vw vq yc yh yg) (kr (he, ke, ki, fi, fa, or, mi, a, g, l, w, s)) m kk q)) rfl rfl (k := 2) (by omega) (by simp only [List.length_map, List.length_set]; omega) ks_ok rfl ?_
      exact mr_ret 2 (fun f => rfl)) ?_
  exact mr_ret 1 (fun f => rfl)
set_option maxRecDepth 100000 in
theorem om_lots_3 (he ke ki fi fa or : List Nat) (mi a g l w s : Nat) (xm xi xw : List Int32) (im : Nat) (le nu rf : List Nat) (ln nn : Nat) (vp : Int32) (xn xc : List Int32) (vs : Int32) (c : cC) (n m kk : kG) (hA : iA (he, ke, ki, fi, fa, or, mi, a, g, l, w, s)) (hB : iB le ln) (hC : iC nu nn) (hD : iD rf) (hR : iR xm xw xn xc) (k1 : xi.length = 52) (x : Nat) (hx1 : 1 ≤ x) (hx : x ≤ 20) (y : Int32) (z : Int32) (hzl : 2 ≤ z.toInt) : mm_R 207 0 [some (.ref 138), some (.int (nI x)), some (.int y), some (.int z), none, none] [] (mk_M c n m kk (rT (he, ke, ki, fi, fa, or, mi, a, g, l, w, s) xm xi xw im le nu rf ln nn vp xn xc vs)) (some (.int (-2)), (mk_M c n m kk (rT (he, ke, ki, fi, fa, or, mi, a, g, l, w, s) xm xi xw im le nu (rf.set 2 (kg rf 2 + 1)) ln nn vp xn xc vs))) := by
  obtain ⟨hV, hst⟩ := id hA
  have hst2 : s ≤ 999 := hst
  obtain ⟨v1, v2, v3, v4, v5, v6, v7, v8, v9, v10, v11, v12, v13, v14, v15, v16⟩ := id hV
  have v6l := kO_len mi v7 or v6
  obtain ⟨b1, b2, b3⟩ := id hB
  obtain ⟨c1, c2, c3⟩ := id hC
  have d1 : rf.length = 7 := hD
  obtain ⟨r1, r2, r3, r4⟩ := id hR
  refine mr_seg 2 (pc1 := 2) (ls1 := [some (.ref 138), some (.int (nI x)), some (.int y), some (.int z), none, none]) (st1 := [.int 1, .int (nI x)]) (M1 := (mk_M c n m kk (rT (he, ke, ki, fi, fa, or, mi, a, g, l, w, s) xm xi xw im le nu rf ln nn vp xn xc vs))) (fun f => rfl) ?_
  refine mr_t (C := 1 ≤ (nI x)) ((nI_leI (a := 1) (b := x) (by omega) (by omega)).mpr (by omega)) (fun f => rfl) ?_
  refine mr_seg 2 (pc1 := 15) (ls1 := [some (.ref 138), some (.int (nI x)), some (.int y), some (.int z), none, none]) (st1 := [.int 20, .int (nI x)]) (M1 := (mk_M c n m kk (rT (he, ke, ki, fi, fa, or, mi, a, g, l, w, s) xm xi xw im le nu rf ln nn vp xn xc vs))) (fun f => rfl) ?_
  refine mr_t (C := (nI x) ≤ 20) ((nI_leI (a := x) (b := 20) (by omega) (by omega)).mpr (by omega)) (fun f => rfl) ?_
  refine mr_seg 3 (pc1 := 28) (ls1 := [some (.ref 138), some (.int (nI x)), some (.int y), some (.int z), none, none]) (st1 := [.int 1, .int 0, .int z]) (M1 := (mk_M c n m kk (rT (he, ke, ki, fi, fa, or, mi, a, g, l, w, s) xm xi xw im le nu rf ln nn vp xn xc vs))) (fun f => rfl) ?_
  refine mr_call (y := 135) (y0 := 31) (L := [some (.int z), some (.int 0), some (.int 1)]) (rest := []) (rr := some (.int 0)) (M1 := (mk_M c n m kk (rT (he, ke, ki, fi, fa, or, mi, a, g, l, w, s) xm xi xw im le nu rf ln nn vp xn xc vs))) (fun f => rfl) (by
      refine mr_seg 2 (pc1 := 2) (ls1 := [some (.int z), some (.int 0), some (.int 1)]) (st1 := [.int 0, .int z]) (M1 := (mk_M c n m kk (rT (he, ke, ki, fi, fa, or, mi, a, g, l, w, s) xm xi xw im le nu rf ln nn vp xn xc vs))) (fun f => rfl) ?_
      refine mr_f (C := z < 0) (mz_lt_f 0 (by decide) (by omega)) (fun f => rfl) ?_
      refine mr_seg 2 (pc1 := 7) (ls1 := [some (.int z), some (.int 0), some (.int 1)]) (st1 := [.int 1, .int z]) (M1 := (mk_M c n m kk (rT (he, ke, ki, fi, fa, or, mi, a, g, l, w, s) xm xi xw im le nu rf ln nn vp xn xc vs))) (fun f => rfl) ?_
      refine mr_t (C := 1 < z) (mz_gt_t 1 (by decide) (by omega)) (fun f => rfl) ?_
      exact mr_ret 2 (fun f => rfl)) ?_
  refine mr_seg 3 (pc1 := 37) (ls1 := [some (.ref 138), some (.int (nI x)), some (.int y), some (.int z), none, none]) (st1 := [.int (-2), .ref 138]) (M1 := (mk_M c n m kk (rT (he, ke, ki, fi, fa, or, mi, a, g, l, w, s) xm xi xw im le nu rf ln nn vp xn xc vs))) (fun f => rfl) ?_
  refine mr_call (y := 130) (y0 := 40) (L := [some (.ref 138), some (.int (-2))]) (rest := []) (rr := some (.int (-2))) (M1 := (mk_M c n m kk (rT (he, ke, ki, fi, fa, or, mi, a, g, l, w, s) xm xi xw im le nu (rf.set 2 (kg rf 2 + 1)) ln nn vp xn xc vs))) (fun f => rfl) (by
      refine mr_seg 5 (pc1 := 7) (ls1 := [some (.ref 138), some (.int (-2))]) (st1 := [.int 2, .ref 145, .int 2, .ref 145]) (M1 := (mk_M c n m kk (rT (he, ke, ki, fi, fa, or, mi, a, g, l, w, s) xm xi xw im le nu rf ln nn vp xn xc vs))) (fun f => rfl) ?_
      refine mr_ldn (xs := (rf.map nI)) rfl rfl (k := 2) (by omega) (kg_ok (by omega)) ?_
      refine mr_seg 2 (pc1 := 10) (ls1 := [some (.ref 138), some (.int (-2))]) (st1 := [.int ((nI (kg rf 2)) + 1), .int 2, .ref 145]) (M1 := (mk_M c n m kk (rT (he, ke, ki, fi, fa, or, mi, a, g, l, w, s) xm xi xw im le nu rf ln nn vp xn xc vs))) (fun f => rfl) ?_
      refine mr_v (nI_add (kg rf 2) 1) ?_
      refine mr_stn (xs := (rf.map nI)) (ys := ((rf.set 2 (kg rf 2 + 1)).map nI)) (M2 := (mk_M c n m kk (rT (he, ke, ki, fi, fa, or, mi, a, g, l, w, s) xm xi xw im le nu (rf.set 2 (kg rf 2 + 1)) ln nn vp xn xc vs))) rfl rfl (k := 2) (by omega) (by simp only [List.length_map, List.length_set]; omega) ks_ok rfl ?_
      exact mr_ret 2 (fun f => rfl)) ?_
  exact mr_ret 1 (fun f => rfl)
theorem oe_lots_3 (he ke ki fi fa or : List Nat) (mi a g l w s : Nat) (m : kG) (kk : kG) (im : Nat) (le : List Nat) (ln : Nat) (ys : List Int32) (vt : Int32) (nu : List Nat) (nn : Nat) (rf : List Nat) (vw : Int32) (vq : Int32) (yc : List Int32) (yh : List Int32) (yg : List Int32) (xm : List Int32) (xi : List Int32) (xw : List Int32) (vp : Int32) (xn : List Int32) (xc : List Int32) (vs : Int32) (hA : iA (he, ke, ki, fi, fa, or, mi, a, g, l, w, s)) (hB : iB le ln) (hC : iC nu nn) (hD : iD rf) (hJ : iJ m ys yc yh yg) (hR : iR xm xw xn xc) (hK : iK im kk xi) (x : Nat) (hx1 : 1 ≤ x) (hx : x ≤ 20) (y : Int32) (z : Int32) (hzl : 2 ≤ z.toInt) : oI 122 207 [some (.ref 100), some (.int (nI x)), some (.int y), some (.int z), none, none, none, none, none] [some (.ref 138), some (.int (nI x)), some (.int y), some (.int z), none, none] (mk_M (cT im le ln ys vt nu nn rf vw vq yc yh yg) (kr (he, ke, ki, fi, fa, or, mi, a, g, l, w, s)) m kk (rT (he, ke, ki, fi, fa, or, mi, a, g, l, w, s) xm xi xw im le nu rf ln nn vp xn xc vs)) := by
  exact ⟨(-2), _, _, oc_lots_3 he ke ki fi fa or mi a g l w s im le ln ys vt nu nn rf vw vq yc yh yg m kk _ hA hB hC hD hJ hK.1 x hx1 hx y z hzl, om_lots_3 he ke ki fi fa or mi a g l w s xm xi xw im le nu rf ln nn vp xn xc vs _ _ _ _ hA hB hC hD hR hK.2.1 x hx1 hx y z hzl, (he, ke, ki, fi, fa, or, mi, a, g, l, w, s), m, kk, im, le, ln, ys, vt, nu, nn, (rf.set 2 (kg rf 2 + 1)), vw, vq, yc, yh, yg, xm, xi, xw, vp, xn, xc, vs, rfl, hA, hB, hC, iD_s hD, hJ, hR, hK⟩
theorem op_row {M : mm_H} (hM : kInv M) (x : Int32) : oI 119 204 [some (.ref 100), some (.int x)] [some (.ref 138), some (.int x), none] M := by
  obtain ⟨K, m, kk, im, le, ln, ys, vt, nu, nn, rf, vw, vq, yc, yh, yg, xm, xi, xw, vp, xn, xc, vs, rfl, hA, hB, hC, hD, hJ, hR, hK⟩ := hM
  obtain ⟨he, ke, ki, fi, fa, or, mi, a, g, l, w, s⟩ := K
  have v7 : mi ≤ 5 := hA.1.2.2.2.2.2.2.1
  rcases k_cs x 100 0 99 rfl rfl with hx | hx | ⟨x_, hx_, rfl⟩
  · exact oe_row_0 he ke ki fi fa or mi a g l w s m kk im le ln ys vt nu nn rf vw vq yc yh yg xm xi xw vp xn xc vs hA hB hC hD hJ hR hK x hx
  · exact oe_row_1 he ke ki fi fa or mi a g l w s m kk im le ln ys vt nu nn rf vw vq yc yh yg xm xi xw vp xn xc vs hA hB hC hD hJ hR hK x hx
  · rcases (show nn = 16 ∨ nn < 16 by have := hC.2.2; omega) with hq | hq
    · exact oe_row_2 he ke ki fi fa or mi a g l w s m kk im le ln ys vt nu nn rf vw vq yc yh yg xm xi xw vp xn xc vs hA hB hC hD hJ hR hK x_ hx_ hq
    · exact oe_row_3 he ke ki fi fa or mi a g l w s m kk im le ln ys vt nu nn rf vw vq yc yh yg xm xi xw vp xn xc vs hA hB hC hD hJ hR hK x_ hx_ hq
theorem op_clear {M : mm_H} (hM : kInv M) : oI 121 206 [some (.ref 100), none] [some (.ref 138), none] M := by
  obtain ⟨K, m, kk, im, le, ln, ys, vt, nu, nn, rf, vw, vq, yc, yh, yg, xm, xi, xw, vp, xn, xc, vs, rfl, hA, hB, hC, hD, hJ, hR, hK⟩ := hM
  obtain ⟨he, ke, ki, fi, fa, or, mi, a, g, l, w, s⟩ := K
  have v7 : mi ≤ 5 := hA.1.2.2.2.2.2.2.1
  exact oe_clear_0 he ke ki fi fa or mi a g l w s m kk im le ln ys vt nu nn rf vw vq yc yh yg xm xi xw vp xn xc vs hA hB hC hD hJ hR hK
theorem op_letter {M : mm_H} (hM : kInv M) (x : Int32) : oI 11 129 [some (.ref 100), some (.int x)] [some (.ref 138), some (.int x)] M := by
  obtain ⟨K, m, kk, im, le, ln, ys, vt, nu, nn, rf, vw, vq, yc, yh, yg, xm, xi, xw, vp, xn, xc, vs, rfl, hA, hB, hC, hD, hJ, hR, hK⟩ := hM
  obtain ⟨he, ke, ki, fi, fa, or, mi, a, g, l, w, s⟩ := K
  have v7 : mi ≤ 5 := hA.1.2.2.2.2.2.2.1
  rcases k_cs x 256 0 255 rfl rfl with hx | hx | ⟨x_, hx_, rfl⟩
  · exact oe_letter_0 he ke ki fi fa or mi a g l w s m kk im le ln ys vt nu nn rf vw vq yc yh yg xm xi xw vp xn xc vs hA hB hC hD hJ hR hK x hx
  · exact oe_letter_1 he ke ki fi fa or mi a g l w s m kk im le ln ys vt nu nn rf vw vq yc yh yg xm xi xw vp xn xc vs hA hB hC hD hJ hR hK x hx
  · rcases (show ln = 96 ∨ ln < 96 by have := hB.2.2; omega) with hq | hq
    · exact oe_letter_2 he ke ki fi fa or mi a g l w s m kk im le ln ys vt nu nn rf vw vq yc yh yg xm xi xw vp xn xc vs hA hB hC hD hJ hR hK x_ hx_ hq
    · exact oe_letter_3 he ke ki fi fa or mi a g l w s m kk im le ln ys vt nu nn rf vw vq yc yh yg xm xi xw vp xn xc vs hA hB hC hD hJ hR hK x_ hx_ hq
theorem op_stands {M : mm_H} (hM : kInv M) (x : Int32) : oI 67 162 [some (.ref 100), some (.int x), none] [some (.ref 138), some (.int x)] M := by
  obtain ⟨K, m, kk, im, le, ln, ys, vt, nu, nn, rf, vw, vq, yc, yh, yg, xm, xi, xw, vp, xn, xc, vs, rfl, hA, hB, hC, hD, hJ, hR, hK⟩ := hM
  obtain ⟨he, ke, ki, fi, fa, or, mi, a, g, l, w, s⟩ := K
  have v7 : mi ≤ 5 := hA.1.2.2.2.2.2.2.1
  rcases k_cs x 25 0 24 rfl rfl with hx | hx | ⟨x_, hx_, rfl⟩
  · exact oe_stands_0 he ke ki fi fa or mi a g l w s m kk im le ln ys vt nu nn rf vw vq yc yh yg xm xi xw vp xn xc vs hA hB hC hD hJ hR hK x hx
  · exact oe_stands_1 he ke ki fi fa or mi a g l w s m kk im le ln ys vt nu nn rf vw vq yc yh yg xm xi xw vp xn xc vs hA hB hC hD hJ hR hK x hx
  · exact oe_stands_2 he ke ki fi fa or mi a g l w s m kk im le ln ys vt nu nn rf vw vq yc yh yg xm xi xw vp xn xc vs hA hB hC hD hJ hR hK x_ hx_
theorem op_goal {M : mm_H} (hM : kInv M) (x : Int32) : oI 68 163 [some (.ref 100), some (.int x), none] [some (.ref 138), some (.int x)] M := by
  obtain ⟨K, m, kk, im, le, ln, ys, vt, nu, nn, rf, vw, vq, yc, yh, yg, xm, xi, xw, vp, xn, xc, vs, rfl, hA, hB, hC, hD, hJ, hR, hK⟩ := hM
  obtain ⟨he, ke, ki, fi, fa, or, mi, a, g, l, w, s⟩ := K
  have v7 : mi ≤ 5 := hA.1.2.2.2.2.2.2.1
  rcases k_cs x 25 0 24 rfl rfl with hx | hx | ⟨x_, hx_, rfl⟩
  · exact oe_goal_0 he ke ki fi fa or mi a g l w s m kk im le ln ys vt nu nn rf vw vq yc yh yg xm xi xw vp xn xc vs hA hB hC hD hJ hR hK x hx
  · exact oe_goal_1 he ke ki fi fa or mi a g l w s m kk im le ln ys vt nu nn rf vw vq yc yh yg xm xi xw vp xn xc vs hA hB hC hD hJ hR hK x hx
  · exact oe_goal_2 he ke ki fi fa or mi a g l w s m kk im le ln ys vt nu nn rf vw vq yc yh yg xm xi xw vp xn xc vs hA hB hC hD hJ hR hK x_ hx_
theorem op_weighs {M : mm_H} (hM : kInv M) (x : Int32) : oI 69 164 [some (.ref 100), some (.int x), none] [some (.ref 138), some (.int x), none] M := by
  obtain ⟨K, m, kk, im, le, ln, ys, vt, nu, nn, rf, vw, vq, yc, yh, yg, xm, xi, xw, vp, xn, xc, vs, rfl, hA, hB, hC, hD, hJ, hR, hK⟩ := hM
  obtain ⟨he, ke, ki, fi, fa, or, mi, a, g, l, w, s⟩ := K
  have v7 : mi ≤ 5 := hA.1.2.2.2.2.2.2.1
  rcases k_cs x 21 0 20 rfl rfl with hx | hx | ⟨x_, hx_, rfl⟩
  · exact oe_weighs_0 he ke ki fi fa or mi a g l w s m kk im le ln ys vt nu nn rf vw vq yc yh yg xm xi xw vp xn xc vs hA hB hC hD hJ hR hK x hx
  · exact oe_weighs_1 he ke ki fi fa or mi a g l w s m kk im le ln ys vt nu nn rf vw vq yc yh yg xm xi xw vp xn xc vs hA hB hC hD hJ hR hK x hx
  · exact oe_weighs_2 he ke ki fi fa or mi a g l w s m kk im le ln ys vt nu nn rf vw vq yc yh yg xm xi xw vp xn xc vs hA hB hC hD hJ hR hK x_ hx_
theorem op_kerbs {M : mm_H} (hM : kInv M) (x : Int32) : oI 66 161 [some (.ref 100), some (.int x)] [some (.ref 138), some (.int x)] M := by
  obtain ⟨K, m, kk, im, le, ln, ys, vt, nu, nn, rf, vw, vq, yc, yh, yg, xm, xi, xw, vp, xn, xc, vs, rfl, hA, hB, hC, hD, hJ, hR, hK⟩ := hM
  obtain ⟨he, ke, ki, fi, fa, or, mi, a, g, l, w, s⟩ := K
  have v7 : mi ≤ 5 := hA.1.2.2.2.2.2.2.1
  rcases k_cs x 25 0 24 rfl rfl with hx | hx | ⟨x_, hx_, rfl⟩
  · exact oe_kerbs_0 he ke ki fi fa or mi a g l w s m kk im le ln ys vt nu nn rf vw vq yc yh yg xm xi xw vp xn xc vs hA hB hC hD hJ hR hK x hx
  · exact oe_kerbs_1 he ke ki fi fa or mi a g l w s m kk im le ln ys vt nu nn rf vw vq yc yh yg xm xi xw vp xn xc vs hA hB hC hD hJ hR hK x hx
  · exact oe_kerbs_2 he ke ki fi fa or mi a g l w s m kk im le ln ys vt nu nn rf vw vq yc yh yg xm xi xw vp xn xc vs hA hB hC hD hJ hR hK x_ hx_
theorem op_heaps {M : mm_H} (hM : kInv M) (x : Int32) (y : Int32) : oI 65 158 [some (.ref 100), some (.int x), some (.int y), none] [some (.ref 138), some (.int x), some (.int y), none] M := by
  obtain ⟨K, m, kk, im, le, ln, ys, vt, nu, nn, rf, vw, vq, yc, yh, yg, xm, xi, xw, vp, xn, xc, vs, rfl, hA, hB, hC, hD, hJ, hR, hK⟩ := hM
  obtain ⟨he, ke, ki, fi, fa, or, mi, a, g, l, w, s⟩ := K
  have v7 : mi ≤ 5 := hA.1.2.2.2.2.2.2.1
  rcases k_cs x 25 0 24 rfl rfl with hx | hx | ⟨x_, hx_, rfl⟩
  · exact oe_heaps_0 he ke ki fi fa or mi a g l w s m kk im le ln ys vt nu nn rf vw vq yc yh yg xm xi xw vp xn xc vs hA hB hC hD hJ hR hK x hx y
  · exact oe_heaps_1 he ke ki fi fa or mi a g l w s m kk im le ln ys vt nu nn rf vw vq yc yh yg xm xi xw vp xn xc vs hA hB hC hD hJ hR hK x hx y
  · rcases k_cs y 10 0 9 rfl rfl with hy | hy | ⟨y_, hy_, rfl⟩
    · exact oe_heaps_2 he ke ki fi fa or mi a g l w s m kk im le ln ys vt nu nn rf vw vq yc yh yg xm xi xw vp xn xc vs hA hB hC hD hJ hR hK x_ hx_ y hy
    · exact oe_heaps_3 he ke ki fi fa or mi a g l w s m kk im le ln ys vt nu nn rf vw vq yc yh yg xm xi xw vp xn xc vs hA hB hC hD hJ hR hK x_ hx_ y hy
    · exact oe_heaps_4 he ke ki fi fa or mi a g l w s m kk im le ln ys vt nu nn rf vw vq yc yh yg xm xi xw vp xn xc vs hA hB hC hD hJ hR hK x_ hx_ y_ hy_
theorem op_cell {M : mm_H} (hM : kInv M) (x : Int32) (y : Int32) : oI 63 156 [some (.ref 100), some (.int x), some (.int y)] [some (.ref 138), some (.int x), some (.int y)] M := by
  obtain ⟨K, m, kk, im, le, ln, ys, vt, nu, nn, rf, vw, vq, yc, yh, yg, xm, xi, xw, vp, xn, xc, vs, rfl, hA, hB, hC, hD, hJ, hR, hK⟩ := hM
  obtain ⟨he, ke, ki, fi, fa, or, mi, a, g, l, w, s⟩ := K
  have v7 : mi ≤ 5 := hA.1.2.2.2.2.2.2.1
  rcases k_cs x 25 0 24 rfl rfl with hx | hx | ⟨x_, hx_, rfl⟩
  · exact oe_cell_0 he ke ki fi fa or mi a g l w s m kk im le ln ys vt nu nn rf vw vq yc yh yg xm xi xw vp xn xc vs hA hB hC hD hJ hR hK x hx y
  · exact oe_cell_1 he ke ki fi fa or mi a g l w s m kk im le ln ys vt nu nn rf vw vq yc yh yg xm xi xw vp xn xc vs hA hB hC hD hJ hR hK x hx y
  · rcases k_cs y 2 0 1 rfl rfl with hy | hy | ⟨y_, hy_, rfl⟩
    · exact oe_cell_2 he ke ki fi fa or mi a g l w s m kk im le ln ys vt nu nn rf vw vq yc yh yg xm xi xw vp xn xc vs hA hB hC hD hJ hR hK x_ hx_ y hy
    · exact oe_cell_3 he ke ki fi fa or mi a g l w s m kk im le ln ys vt nu nn rf vw vq yc yh yg xm xi xw vp xn xc vs hA hB hC hD hJ hR hK x_ hx_ y hy
    · rcases (show y_ = 0 ∨ y_ = 1 by omega) with rfl | rfl
      · exact oe_cell_4 he ke ki fi fa or mi a g l w s m kk im le ln ys vt nu nn rf vw vq yc yh yg xm xi xw vp xn xc vs hA hB hC hD hJ hR hK x_ hx_
      · exact oe_cell_5 he ke ki fi fa or mi a g l w s m kk im le ln ys vt nu nn rf vw vq yc yh yg xm xi xw vp xn xc vs hA hB hC hD hJ hR hK x_ hx_
theorem op_goes {M : mm_H} (hM : kInv M) (x : Int32) : oI 73 167 [some (.ref 100), some (.int x)] [some (.ref 138), some (.int x)] M := by
  obtain ⟨K, m, kk, im, le, ln, ys, vt, nu, nn, rf, vw, vq, yc, yh, yg, xm, xi, xw, vp, xn, xc, vs, rfl, hA, hB, hC, hD, hJ, hR, hK⟩ := hM
  obtain ⟨he, ke, ki, fi, fa, or, mi, a, g, l, w, s⟩ := K
  have v7 : mi ≤ 5 := hA.1.2.2.2.2.2.2.1
  rcases (show x.toInt ≤ 0 ∨ 1 ≤ x.toInt by omega) with hx | hx
  · exact oe_goes_0 he ke ki fi fa or mi a g l w s m kk im le ln ys vt nu nn rf vw vq yc yh yg xm xi xw vp xn xc vs hA hB hC hD hJ hR hK x hx
  · rcases k_cs x 61 0 60 rfl rfl with hhx | hhx | ⟨x_, hx_, rfl⟩
    · exact absurd hx (by omega)
    · exact oe_goes_1 he ke ki fi fa or mi a g l w s m kk im le ln ys vt nu nn rf vw vq yc yh yg xm xi xw vp xn xc vs hA hB hC hD hJ hR hK x hhx
    · have hx1 : 1 ≤ x_ := by rw [nI_toInt (by omega)] at hx; omega
      rcases Nat.lt_or_ge 999 (s + x_) with hq | hq
      · exact oe_goes_2 he ke ki fi fa or mi a g l w s m kk im le ln ys vt nu nn rf vw vq yc yh yg xm xi xw vp xn xc vs hA hB hC hD hJ hR hK x_ hx1 (by omega) hq
      · exact oe_goes_3 he ke ki fi fa or mi a g l w s m kk im le ln ys vt nu nn rf vw vq yc yh yg xm xi xw vp xn xc vs hA hB hC hD hJ hR hK x_ hx1 (by omega) hq
theorem op_then {M : mm_H} (hM : kInv M) (x : Int32) (y : Int32) : oI 74 168 [some (.ref 100), some (.int x), some (.int y), none] [some (.ref 138), some (.int x), some (.int y), none] M := by
  obtain ⟨K, m, kk, im, le, ln, ys, vt, nu, nn, rf, vw, vq, yc, yh, yg, xm, xi, xw, vp, xn, xc, vs, rfl, hA, hB, hC, hD, hJ, hR, hK⟩ := hM
  obtain ⟨he, ke, ki, fi, fa, or, mi, a, g, l, w, s⟩ := K
  have v7 : mi ≤ 5 := hA.1.2.2.2.2.2.2.1
  rcases k_cs x 61 0 60 rfl rfl with hx | hx | ⟨x_, hx_, rfl⟩
  · exact oe_then_0 he ke ki fi fa or mi a g l w s m kk im le ln ys vt nu nn rf vw vq yc yh yg xm xi xw vp xn xc vs hA hB hC hD hJ hR hK x hx y
  · exact oe_then_1 he ke ki fi fa or mi a g l w s m kk im le ln ys vt nu nn rf vw vq yc yh yg xm xi xw vp xn xc vs hA hB hC hD hJ hR hK x hx y
  · rcases k_cs y 3 0 2 rfl rfl with hy | hy | ⟨y_, hy_, rfl⟩
    · exact oe_then_2 he ke ki fi fa or mi a g l w s m kk im le ln ys vt nu nn rf vw vq yc yh yg xm xi xw vp xn xc vs hA hB hC hD hJ hR hK x_ (Nat.zero_le _) (by omega) y hy
    · exact oe_then_3 he ke ki fi fa or mi a g l w s m kk im le ln ys vt nu nn rf vw vq yc yh yg xm xi xw vp xn xc vs hA hB hC hD hJ hR hK x_ (Nat.zero_le _) (by omega) y hy
    · rcases (show y_ = 0 ∨ y_ = 1 ∨ y_ = 2 by omega) with rfl | rfl | rfl
      · exact oe_then_4 he ke ki fi fa or mi a g l w s m kk im le ln ys vt nu nn rf vw vq yc yh yg xm xi xw vp xn xc vs hA hB hC hD hJ hR hK x_ (Nat.zero_le _) (by omega)
      · rcases Nat.eq_zero_or_pos mi with hq | hq
        · exact oe_then_50 he ke ki fi fa or mi a g l w s m kk im le ln ys vt nu nn rf vw vq yc yh yg xm xi xw vp xn xc vs hA hB hC hD hJ hR hK x_ (Nat.zero_le _) (by omega) hq
        · exact oe_then_51 he ke ki fi fa or mi a g l w s m kk im le ln ys vt nu nn rf vw vq yc yh yg xm xi xw vp xn xc vs hA hB hC hD hJ hR hK x_ (Nat.zero_le _) (by omega) hq
      · exact oe_then_6 he ke ki fi fa or mi a g l w s m kk im le ln ys vt nu nn rf vw vq yc yh yg xm xi xw vp xn xc vs hA hB hC hD hJ hR hK x_ (Nat.zero_le _) (by omega)
theorem op_image {M : mm_H} (hM : kInv M) : oI 125 209 [some (.ref 100)] [some (.ref 138)] M := by
  obtain ⟨K, m, kk, im, le, ln, ys, vt, nu, nn, rf, vw, vq, yc, yh, yg, xm, xi, xw, vp, xn, xc, vs, rfl, hA, hB, hC, hD, hJ, hR, hK⟩ := hM
  obtain ⟨he, ke, ki, fi, fa, or, mi, a, g, l, w, s⟩ := K
  have v7 : mi ≤ 5 := hA.1.2.2.2.2.2.2.1
  exact oe_image_0 he ke ki fi fa or mi a g l w s m kk im le ln ys vt nu nn rf vw vq yc yh yg xm xi xw vp xn xc vs hA hB hC hD hJ hR hK
theorem op_steps {M : mm_H} (hM : kInv M) (x : Int32) : oI 70 165 [some (.ref 100), some (.int x)] [some (.ref 138), some (.int x)] M := by
  obtain ⟨K, m, kk, im, le, ln, ys, vt, nu, nn, rf, vw, vq, yc, yh, yg, xm, xi, xw, vp, xn, xc, vs, rfl, hA, hB, hC, hD, hJ, hR, hK⟩ := hM
  obtain ⟨he, ke, ki, fi, fa, or, mi, a, g, l, w, s⟩ := K
  have v7 : mi ≤ 5 := hA.1.2.2.2.2.2.2.1
  rcases k_ms x v7 with hx | hx | ⟨p, hp, rfl⟩
  · exact oe_steps_0 he ke ki fi fa or mi a g l w s m kk im le ln ys vt nu nn rf vw vq yc yh yg xm xi xw vp xn xc vs hA hB hC hD hJ hR hK x hx
  · exact oe_steps_1 he ke ki fi fa or mi a g l w s m kk im le ln ys vt nu nn rf vw vq yc yh yg xm xi xw vp xn xc vs hA hB hC hD hJ hR hK x hx
  · exact oe_steps_2 he ke ki fi fa or mi a g l w s m kk im le ln ys vt nu nn rf vw vq yc yh yg xm xi xw vp xn xc vs hA hB hC hD hJ hR hK p hp
theorem op_turn {M : mm_H} (hM : kInv M) (x : Int32) (y : Int32) (z : Int32) : oI 72 166 [some (.ref 100), some (.int x), some (.int y), some (.int z), none] [some (.ref 138), some (.int x), some (.int y), some (.int z), none, none] M := by
  obtain ⟨K, m, kk, im, le, ln, ys, vt, nu, nn, rf, vw, vq, yc, yh, yg, xm, xi, xw, vp, xn, xc, vs, rfl, hA, hB, hC, hD, hJ, hR, hK⟩ := hM
  obtain ⟨he, ke, ki, fi, fa, or, mi, a, g, l, w, s⟩ := K
  have v7 : mi ≤ 5 := hA.1.2.2.2.2.2.2.1
  rcases k_ms x v7 with hx | hx | ⟨p, hp, rfl⟩
  · exact oe_turn_0 he ke ki fi fa or mi a g l w s m kk im le ln ys vt nu nn rf vw vq yc yh yg xm xi xw vp xn xc vs hA hB hC hD hJ hR hK x hx y z
  · exact oe_turn_1 he ke ki fi fa or mi a g l w s m kk im le ln ys vt nu nn rf vw vq yc yh yg xm xi xw vp xn xc vs hA hB hC hD hJ hR hK x hx y z
  · rcases k_cs y 6 0 5 rfl rfl with hy | hy | ⟨y_, hy_, rfl⟩
    · exact oe_turn_2 he ke ki fi fa or mi a g l w s m kk im le ln ys vt nu nn rf vw vq yc yh yg xm xi xw vp xn xc vs hA hB hC hD hJ hR hK p hp y hy z
    · exact oe_turn_3 he ke ki fi fa or mi a g l w s m kk im le ln ys vt nu nn rf vw vq yc yh yg xm xi xw vp xn xc vs hA hB hC hD hJ hR hK p hp y hy z
    · rcases k_cs z 10 0 9 rfl rfl with hz | hz | ⟨z_, hz_, rfl⟩
      · exact oe_turn_4 he ke ki fi fa or mi a g l w s m kk im le ln ys vt nu nn rf vw vq yc yh yg xm xi xw vp xn xc vs hA hB hC hD hJ hR hK p hp y_ hy_ z hz
      · exact oe_turn_5 he ke ki fi fa or mi a g l w s m kk im le ln ys vt nu nn rf vw vq yc yh yg xm xi xw vp xn xc vs hA hB hC hD hJ hR hK p hp y_ hy_ z hz
      · exact oe_turn_6 he ke ki fi fa or mi a g l w s m kk im le ln ys vt nu nn rf vw vq yc yh yg xm xi xw vp xn xc vs hA hB hC hD hJ hR hK p hp y_ hy_ z_ hz_
theorem op_minister {M : mm_H} (hM : kInv M) (x : Int32) (y : Int32) : oI 60 155 [some (.ref 100), some (.int x), some (.int y)] [some (.ref 138), some (.int x), some (.int y)] M := by
  obtain ⟨K, m, kk, im, le, ln, ys, vt, nu, nn, rf, vw, vq, yc, yh, yg, xm, xi, xw, vp, xn, xc, vs, rfl, hA, hB, hC, hD, hJ, hR, hK⟩ := hM
  obtain ⟨he, ke, ki, fi, fa, or, mi, a, g, l, w, s⟩ := K
  have v7 : mi ≤ 5 := hA.1.2.2.2.2.2.2.1
  rcases k_ms x v7 with hx | hx | ⟨p, hp, rfl⟩
  · exact oe_minister_0 he ke ki fi fa or mi a g l w s m kk im le ln ys vt nu nn rf vw vq yc yh yg xm xi xw vp xn xc vs hA hB hC hD hJ hR hK x hx y
  · exact oe_minister_1 he ke ki fi fa or mi a g l w s m kk im le ln ys vt nu nn rf vw vq yc yh yg xm xi xw vp xn xc vs hA hB hC hD hJ hR hK x hx y
  · rcases k_cs y 5 0 4 rfl rfl with hy | hy | ⟨y_, hy_, rfl⟩
    · exact oe_minister_2 he ke ki fi fa or mi a g l w s m kk im le ln ys vt nu nn rf vw vq yc yh yg xm xi xw vp xn xc vs hA hB hC hD hJ hR hK p hp y hy
    · exact oe_minister_3 he ke ki fi fa or mi a g l w s m kk im le ln ys vt nu nn rf vw vq yc yh yg xm xi xw vp xn xc vs hA hB hC hD hJ hR hK p hp y hy
    · rcases (show y_ = 0 ∨ y_ = 1 ∨ y_ = 2 ∨ y_ = 3 ∨ y_ = 4 by omega) with rfl | rfl | rfl | rfl | rfl
      · exact oe_minister_4 he ke ki fi fa or mi a g l w s m kk im le ln ys vt nu nn rf vw vq yc yh yg xm xi xw vp xn xc vs hA hB hC hD hJ hR hK p hp
      · exact oe_minister_5 he ke ki fi fa or mi a g l w s m kk im le ln ys vt nu nn rf vw vq yc yh yg xm xi xw vp xn xc vs hA hB hC hD hJ hR hK p hp
      · exact oe_minister_6 he ke ki fi fa or mi a g l w s m kk im le ln ys vt nu nn rf vw vq yc yh yg xm xi xw vp xn xc vs hA hB hC hD hJ hR hK p hp
      · exact oe_minister_7 he ke ki fi fa or mi a g l w s m kk im le ln ys vt nu nn rf vw vq yc yh yg xm xi xw vp xn xc vs hA hB hC hD hJ hR hK p hp
      · exact oe_minister_8 he ke ki fi fa or mi a g l w s m kk im le ln ys vt nu nn rf vw vq yc yh yg xm xi xw vp xn xc vs hA hB hC hD hJ hR hK p hp
theorem op_pushing {M : mm_H} (hM : kInv M) (x : Int32) : oI 64 157 [some (.ref 100), some (.int x)] [some (.ref 138), some (.int x), none, none] M := by
  obtain ⟨K, m, kk, im, le, ln, ys, vt, nu, nn, rf, vw, vq, yc, yh, yg, xm, xi, xw, vp, xn, xc, vs, rfl, hA, hB, hC, hD, hJ, hR, hK⟩ := hM
  obtain ⟨he, ke, ki, fi, fa, or, mi, a, g, l, w, s⟩ := K
  have v7 : mi ≤ 5 := hA.1.2.2.2.2.2.2.1
  rcases k_cs x 3 0 2 rfl rfl with hx | hx | ⟨x_, hx_, rfl⟩
  · exact oe_pushing_0 he ke ki fi fa or mi a g l w s m kk im le ln ys vt nu nn rf vw vq yc yh yg xm xi xw vp xn xc vs hA hB hC hD hJ hR hK x hx
  · exact oe_pushing_1 he ke ki fi fa or mi a g l w s m kk im le ln ys vt nu nn rf vw vq yc yh yg xm xi xw vp xn xc vs hA hB hC hD hJ hR hK x hx
  · rcases (show x_ = 0 ∨ x_ = 1 ∨ x_ = 2 by omega) with rfl | rfl | rfl
    · exact oe_pushing_2 he ke ki fi fa or mi a g l w s m kk im le ln ys vt nu nn rf vw vq yc yh yg xm xi xw vp xn xc vs hA hB hC hD hJ hR hK
    · by_cases hq : mi = 0
      · exact oe_pushing_10 he ke ki fi fa or mi a g l w s m kk im le ln ys vt nu nn rf vw vq yc yh yg xm xi xw vp xn xc vs hA hB hC hD hJ hR hK hq
      · by_cases hr : a = g
        · exact oe_pushing_11 he ke ki fi fa or mi a g l w s m kk im le ln ys vt nu nn rf vw vq yc yh yg xm xi xw vp xn xc vs hA hB hC hD hJ hR hK hq hr
        · have hn : knext (he, ke, ki, fi, fa, or, mi, a, g, l, w, s) = some (kway (kg ki (kg or 0)) a (ksgn a g) l (s + 1)) := by show (if mi = 0 then none else if a = g then none else some (kway (kg ki (kg or 0)) a (ksgn a g) l (s + 1))) = _; rw [if_neg hq, if_neg hr]
          cases hb : kbey a (kway (kg ki (kg or 0)) a (ksgn a g) l (s + 1)) with
          | none => exact oe_pushing_12 he ke ki fi fa or mi a g l w s m kk im le ln ys vt nu nn rf vw vq yc yh yg xm xi xw vp xn xc vs hA hB hC hD hJ hR hK _ hn hb
          | some u => exact oe_pushing_13 he ke ki fi fa or mi a g l w s m kk im le ln ys vt nu nn rf vw vq yc yh yg xm xi xw vp xn xc vs hA hB hC hD hJ hR hK _ hn u hb
    · by_cases hq : mi = 0
      · exact oe_pushing_20 he ke ki fi fa or mi a g l w s m kk im le ln ys vt nu nn rf vw vq yc yh yg xm xi xw vp xn xc vs hA hB hC hD hJ hR hK hq
      · by_cases hr : a = g
        · exact oe_pushing_21 he ke ki fi fa or mi a g l w s m kk im le ln ys vt nu nn rf vw vq yc yh yg xm xi xw vp xn xc vs hA hB hC hD hJ hR hK hq hr
        · have hn : knext (he, ke, ki, fi, fa, or, mi, a, g, l, w, s) = some (kway (kg ki (kg or 0)) a (ksgn a g) l (s + 1)) := by show (if mi = 0 then none else if a = g then none else some (kway (kg ki (kg or 0)) a (ksgn a g) l (s + 1))) = _; rw [if_neg hq, if_neg hr]
          cases hb : kbey a (kway (kg ki (kg or 0)) a (ksgn a g) l (s + 1)) with
          | none => exact oe_pushing_22 he ke ki fi fa or mi a g l w s m kk im le ln ys vt nu nn rf vw vq yc yh yg xm xi xw vp xn xc vs hA hB hC hD hJ hR hK _ hn hb
          | some u => exact oe_pushing_23 he ke ki fi fa or mi a g l w s m kk im le ln ys vt nu nn rf vw vq yc yh yg xm xi xw vp xn xc vs hA hB hC hD hJ hR hK _ hn u hb
theorem op_count {M : mm_H} (hM : kInv M) (x : Int32) : oI 127 211 [some (.ref 100), some (.int x)] [some (.ref 138), some (.int x)] M := by
  obtain ⟨K, m, kk, im, le, ln, ys, vt, nu, nn, rf, vw, vq, yc, yh, yg, xm, xi, xw, vp, xn, xc, vs, rfl, hA, hB, hC, hD, hJ, hR, hK⟩ := hM
  obtain ⟨he, ke, ki, fi, fa, or, mi, a, g, l, w, s⟩ := K
  have v7 : mi ≤ 5 := hA.1.2.2.2.2.2.2.1
  rcases k_cs x 17 0 16 rfl rfl with hx | hx | ⟨x_, hx_, rfl⟩
  · exact oe_count_0 he ke ki fi fa or mi a g l w s m kk im le ln ys vt nu nn rf vw vq yc yh yg xm xi xw vp xn xc vs hA hB hC hD hJ hR hK x hx
  · exact oe_count_1 he ke ki fi fa or mi a g l w s m kk im le ln ys vt nu nn rf vw vq yc yh yg xm xi xw vp xn xc vs hA hB hC hD hJ hR hK x hx
  · rcases (show x_ = 0 ∨ x_ = 1 ∨ x_ = 2 ∨ x_ = 3 ∨ x_ = 4 ∨ x_ = 5 ∨ x_ = 6 ∨ x_ = 7 ∨ x_ = 8 ∨ x_ = 9 ∨ x_ = 10 ∨ x_ = 11 ∨ x_ = 12 ∨ x_ = 13 ∨ x_ = 14 ∨ x_ = 15 ∨ x_ = 16 by omega) with rfl | rfl | rfl | rfl | rfl | rfl | rfl | rfl | rfl | rfl | rfl | rfl | rfl | rfl | rfl | rfl | rfl
    · exact oe_count_10 he ke ki fi fa or mi a g l w s m kk im le ln ys vt nu nn rf vw vq yc yh yg xm xi xw vp xn xc vs hA hB hC hD hJ hR hK
    · exact oe_count_11 he ke ki fi fa or mi a g l w s m kk im le ln ys vt nu nn rf vw vq yc yh yg xm xi xw vp xn xc vs hA hB hC hD hJ hR hK
    · exact oe_count_12 he ke ki fi fa or mi a g l w s m kk im le ln ys vt nu nn rf vw vq yc yh yg xm xi xw vp xn xc vs hA hB hC hD hJ hR hK
    · exact oe_count_13 he ke ki fi fa or mi a g l w s m kk im le ln ys vt nu nn rf vw vq yc yh yg xm xi xw vp xn xc vs hA hB hC hD hJ hR hK
    · exact oe_count_14 he ke ki fi fa or mi a g l w s m kk im le ln ys vt nu nn rf vw vq yc yh yg xm xi xw vp xn xc vs hA hB hC hD hJ hR hK
    · exact oe_count_15 he ke ki fi fa or mi a g l w s m kk im le ln ys vt nu nn rf vw vq yc yh yg xm xi xw vp xn xc vs hA hB hC hD hJ hR hK
    · exact oe_count_16 he ke ki fi fa or mi a g l w s m kk im le ln ys vt nu nn rf vw vq yc yh yg xm xi xw vp xn xc vs hA hB hC hD hJ hR hK
    · exact oe_count_17 he ke ki fi fa or mi a g l w s m kk im le ln ys vt nu nn rf vw vq yc yh yg xm xi xw vp xn xc vs hA hB hC hD hJ hR hK
    · exact oe_count_2 he ke ki fi fa or mi a g l w s m kk im le ln ys vt nu nn rf vw vq yc yh yg xm xi xw vp xn xc vs hA hB hC hD hJ hR hK (nI 8) (by decide) (by decide)
    · exact oe_count_2 he ke ki fi fa or mi a g l w s m kk im le ln ys vt nu nn rf vw vq yc yh yg xm xi xw vp xn xc vs hA hB hC hD hJ hR hK (nI 9) (by decide) (by decide)
    · exact oe_count_2 he ke ki fi fa or mi a g l w s m kk im le ln ys vt nu nn rf vw vq yc yh yg xm xi xw vp xn xc vs hA hB hC hD hJ hR hK (nI 10) (by decide) (by decide)
    · exact oe_count_21 he ke ki fi fa or mi a g l w s m kk im le ln ys vt nu nn rf vw vq yc yh yg xm xi xw vp xn xc vs hA hB hC hD hJ hR hK
    · exact oe_count_22 he ke ki fi fa or mi a g l w s m kk im le ln ys vt nu nn rf vw vq yc yh yg xm xi xw vp xn xc vs hA hB hC hD hJ hR hK
    · exact oe_count_23 he ke ki fi fa or mi a g l w s m kk im le ln ys vt nu nn rf vw vq yc yh yg xm xi xw vp xn xc vs hA hB hC hD hJ hR hK
    · exact oe_count_24 he ke ki fi fa or mi a g l w s m kk im le ln ys vt nu nn rf vw vq yc yh yg xm xi xw vp xn xc vs hA hB hC hD hJ hR hK
    · exact oe_count_25 he ke ki fi fa or mi a g l w s m kk im le ln ys vt nu nn rf vw vq yc yh yg xm xi xw vp xn xc vs hA hB hC hD hJ hR hK
    · exact oe_count_26 he ke ki fi fa or mi a g l w s m kk im le ln ys vt nu nn rf vw vq yc yh yg xm xi xw vp xn xc vs hA hB hC hD hJ hR hK
theorem op_fallsThen {M : mm_H} (hM : kInv M) (x : Int32) (y : Int32) : oI 78 171 [some (.ref 100), some (.int x), some (.int y), none] [some (.ref 138), some (.int x), some (.int y), none] M := by
  obtain ⟨K, m, kk, im, le, ln, ys, vt, nu, nn, rf, vw, vq, yc, yh, yg, xm, xi, xw, vp, xn, xc, vs, rfl, hA, hB, hC, hD, hJ, hR, hK⟩ := hM
  obtain ⟨he, ke, ki, fi, fa, or, mi, a, g, l, w, s⟩ := K
  have v7 : mi ≤ 5 := hA.1.2.2.2.2.2.2.1
  rcases k_ms x v7 with hx | hx | ⟨p, hp, rfl⟩
  · exact oe_fallsThen_0 he ke ki fi fa or mi a g l w s m kk im le ln ys vt nu nn rf vw vq yc yh yg xm xi xw vp xn xc vs hA hB hC hD hJ hR hK x hx y
  · exact oe_fallsThen_1 he ke ki fi fa or mi a g l w s m kk im le ln ys vt nu nn rf vw vq yc yh yg xm xi xw vp xn xc vs hA hB hC hD hJ hR hK x hx y
  · rcases k_cs y 61 0 60 rfl rfl with hy | hy | ⟨y_, hy_, rfl⟩
    · exact oe_fallsThen_2 he ke ki fi fa or mi a g l w s m kk im le ln ys vt nu nn rf vw vq yc yh yg xm xi xw vp xn xc vs hA hB hC hD hJ hR hK p hp y hy
    · exact oe_fallsThen_3 he ke ki fi fa or mi a g l w s m kk im le ln ys vt nu nn rf vw vq yc yh yg xm xi xw vp xn xc vs hA hB hC hD hJ hR hK p hp y hy
    · exact oe_fallsThen_4 he ke ki fi fa or mi a g l w s m kk im le ln ys vt nu nn rf vw vq yc yh yg xm xi xw vp xn xc vs hA hB hC hD hJ hR hK p hp y_ (Nat.zero_le _) (by omega)
theorem k_m1x (x : Int32) : x.toInt ≤ -2 ∨ x = -1 ∨ 0 ≤ x.toInt := by
  by_cases h : x.toInt = -1
  · exact Or.inr (Or.inl (Int32.toInt_inj.mp (h.trans (by decide))))
  · omega
theorem op_comes {M : mm_H} (hM : kInv M) (x : Int32) : oI 79 172 [some (.ref 100), some (.int x), none] [some (.ref 138), some (.int x)] M := by
  obtain ⟨K, m, kk, im, le, ln, ys, vt, nu, nn, rf, vw, vq, yc, yh, yg, xm, xi, xw, vp, xn, xc, vs, rfl, hA, hB, hC, hD, hJ, hR, hK⟩ := hM
  obtain ⟨he, ke, ki, fi, fa, or, mi, a, g, l, w, s⟩ := K
  have v7 : mi ≤ 5 := hA.1.2.2.2.2.2.2.1
  rcases k_m1x x with hx | rfl | hx
  · exact oe_comes_0 he ke ki fi fa or mi a g l w s m kk im le ln ys vt nu nn rf vw vq yc yh yg xm xi xw vp xn xc vs hA hB hC hD hJ hR hK x hx
  · cases hw : kwa 60 0 (he, ke, ki, fi, fa, or, mi, a, g, l, w, s) g with
    | none => exact oe_comes_2 he ke ki fi fa or mi a g l w s m kk im le ln ys vt nu nn rf vw vq yc yh yg xm xi xw vp xn xc vs hA hB hC hD hJ hR hK hw
    | some v => exact oe_comes_3 he ke ki fi fa or mi a g l w s m kk im le ln ys vt nu nn rf vw vq yc yh yg xm xi xw vp xn xc vs hA hB hC hD hJ hR hK v hw
  · rcases k_cs x 25 0 24 rfl rfl with hhx | hhx | ⟨x_, hx_, rfl⟩
    · exact absurd hx (by omega)
    · exact oe_comes_1 he ke ki fi fa or mi a g l w s m kk im le ln ys vt nu nn rf vw vq yc yh yg xm xi xw vp xn xc vs hA hB hC hD hJ hR hK x hhx
    · cases hw : kwa 60 0 (he, ke, ki, fi, fa, or, mi, a, g, l, w, s) x_ with
      | none => exact oe_comes_4 he ke ki fi fa or mi a g l w s m kk im le ln ys vt nu nn rf vw vq yc yh yg xm xi xw vp xn xc vs hA hB hC hD hJ hR hK x_ hx_ hw
      | some v => exact oe_comes_5 he ke ki fi fa or mi a g l w s m kk im le ln ys vt nu nn rf vw vq yc yh yg xm xi xw vp xn xc vs hA hB hC hD hJ hR hK x_ hx_ v hw
theorem op_on {M : mm_H} (hM : kInv M) : oI 126 210 [some (.ref 100)] [some (.ref 138)] M := by
  obtain ⟨K, m, kk, im, le, ln, ys, vt, nu, nn, rf, vw, vq, yc, yh, yg, xm, xi, xw, vp, xn, xc, vs, rfl, hA, hB, hC, hD, hJ, hR, hK⟩ := hM
  obtain ⟨he, ke, ki, fi, fa, or, mi, a, g, l, w, s⟩ := K
  have v7 : mi ≤ 5 := hA.1.2.2.2.2.2.2.1
  rcases (show im = 0 ∨ im = 1 by have := hK.2.2.1; omega) with hq | hq
  · exact oe_on_0 he ke ki fi fa or mi a g l w s m kk im le ln ys vt nu nn rf vw vq yc yh yg xm xi xw vp xn xc vs hA hB hC hD hJ hR hK hq
  · exact oe_on_1 he ke ki fi fa or mi a g l w s m kk im le ln ys vt nu nn rf vw vq yc yh yg xm xi xw vp xn xc vs hA hB hC hD hJ hR hK hq
theorem op_down {M : mm_H} (hM : kInv M) (x : Int32) : oW 81 174 [some (.ref 100), some (.int x), none] [some (.ref 138), some (.int x)] M := by
  obtain ⟨K, m, kk, im, le, ln, ys, vt, nu, nn, rf, vw, vq, yc, yh, yg, xm, xi, xw, vp, xn, xc, vs, rfl, hA, hB, hC, hD, hJ, hR, hK⟩ := hM
  obtain ⟨he, ke, ki, fi, fa, or, mi, a, g, l, w, s⟩ := K
  have v7 : mi ≤ 5 := hA.1.2.2.2.2.2.2.1
  rcases k_m1x x with hx | rfl | hx
  · exact (oe_down_0 he ke ki fi fa or mi a g l w s m kk im le ln ys vt nu nn rf vw vq yc yh yg xm xi xw vp xn xc vs hA hB hC hD hJ hR hK x hx).w
  · exact oW_of hA hB hC hD hK (wc_down_0 he ke ki fi fa or mi a g l w s im le ln ys vt nu nn rf kk _ hA hC vw vq yc yh yg m hJ) (fun c n m kk => wm_down_0 he ke ki fi fa or mi a g l w s xi im le nu rf ln nn c n m kk hA hC xm xw vp xn xc vs hR)
  · rcases k_ms x v7 with h9 | h9 | ⟨p, hp, rfl⟩
    · exact absurd hx (by omega)
    · exact (oe_down_1 he ke ki fi fa or mi a g l w s m kk im le ln ys vt nu nn rf vw vq yc yh yg xm xi xw vp xn xc vs hA hB hC hD hJ hR hK x h9).w
    · exact oW_of hA hB hC hD hK (wc_down_1 he ke ki fi fa or mi a g l w s im le ln ys vt nu nn rf kk _ hA hC vw vq yc yh yg m hJ p hp) (fun c n m kk => wm_down_1 he ke ki fi fa or mi a g l w s xi im le nu rf ln nn c n m kk hA hC xm xw vp xn xc vs hR p hp)
theorem op_stuck {M : mm_H} (hM : kInv M) : oW 85 177 [some (.ref 100), none, none, none, none] [some (.ref 138), none, none, none] M := by
  obtain ⟨K, m, kk, im, le, ln, ys, vt, nu, nn, rf, vw, vq, yc, yh, yg, xm, xi, xw, vp, xn, xc, vs, rfl, hA, hB, hC, hD, hJ, hR, hK⟩ := hM
  obtain ⟨he, ke, ki, fi, fa, or, mi, a, g, l, w, s⟩ := K
  have v7 : mi ≤ 5 := hA.1.2.2.2.2.2.2.1
  exact oW_of hA hB hC hD hK (wc_stuck he ke ki fi fa or mi a g l w s im le ln ys vt nu nn rf kk _ hA hC vw vq yc yh yg m hJ) (fun c n m kk => wm_stuck he ke ki fi fa or mi a g l w s xi im le nu rf ln nn c n m kk hA hC xm xw vp xn xc vs hR)
theorem op_push {M : mm_H} (hM : kInv M) : oW 88 179 [some (.ref 100), none, none] [some (.ref 138), none, none, none, none] M := by
  obtain ⟨K, m, kk, im, le, ln, ys, vt, nu, nn, rf, vw, vq, yc, yh, yg, xm, xi, xw, vp, xn, xc, vs, rfl, hA, hB, hC, hD, hJ, hR, hK⟩ := hM
  obtain ⟨he, ke, ki, fi, fa, or, mi, a, g, l, w, s⟩ := K
  have v7 : mi ≤ 5 := hA.1.2.2.2.2.2.2.1
  exact oW_of hA hB hC hD hK (wc_push he ke ki fi fa or mi a g l w s im le ln ys vt nu nn rf kk _ hA hC vw vq yc yh yg m hJ) (fun c n m kk => wm_push he ke ki fi fa or mi a g l w s xi im le nu rf ln nn c n m kk hA hC xm xw vp xn xc vs hR)
theorem op_take {M : mm_H} (hM : kInv M) : oW 91 184 [some (.ref 100), none, none] [some (.ref 138), none, none, none, none] M := by
  obtain ⟨K, m, kk, im, le, ln, ys, vt, nu, nn, rf, vw, vq, yc, yh, yg, xm, xi, xw, vp, xn, xc, vs, rfl, hA, hB, hC, hD, hJ, hR, hK⟩ := hM
  obtain ⟨he, ke, ki, fi, fa, or, mi, a, g, l, w, s⟩ := K
  have v7 : mi ≤ 5 := hA.1.2.2.2.2.2.2.1
  exact oW_of hA hB hC hD hK (wc_take he ke ki fi fa or mi a g l w s im le ln ys vt nu nn rf kk _ hA hC vw vq yc yh yg m hJ) (fun c n m kk => wm_take he ke ki fi fa or mi a g l w s xi im le nu rf ln nn c n m kk hA hC xm xw vp xn xc vs hR)
theorem op_flat {M : mm_H} (hM : kInv M) : oW 92 185 [some (.ref 100), none, none] [some (.ref 138), none, none, none, none] M := by
  obtain ⟨K, m, kk, im, le, ln, ys, vt, nu, nn, rf, vw, vq, yc, yh, yg, xm, xi, xw, vp, xn, xc, vs, rfl, hA, hB, hC, hD, hJ, hR, hK⟩ := hM
  obtain ⟨he, ke, ki, fi, fa, or, mi, a, g, l, w, s⟩ := K
  have v7 : mi ≤ 5 := hA.1.2.2.2.2.2.2.1
  exact oW_of hA hB hC hD hK (wc_flat he ke ki fi fa or mi a g l w s im le ln ys vt nu nn rf kk _ hA hC vw vq yc yh yg m hJ) (fun c n m kk => wm_flat he ke ki fi fa or mi a g l w s xi im le nu rf ln nn c n m kk hA hC xm xw vp xn xc vs hR)
theorem op_mostWeight {M : mm_H} (hM : kInv M) : oW 93 186 [some (.ref 100), none, none] [some (.ref 138), none] M := by
  obtain ⟨K, m, kk, im, le, ln, ys, vt, nu, nn, rf, vw, vq, yc, yh, yg, xm, xi, xw, vp, xn, xc, vs, rfl, hA, hB, hC, hD, hJ, hR, hK⟩ := hM
  obtain ⟨he, ke, ki, fi, fa, or, mi, a, g, l, w, s⟩ := K
  have v7 : mi ≤ 5 := hA.1.2.2.2.2.2.2.1
  exact oW_of hA hB hC hD hK (wc_mostWeight he ke ki fi fa or mi a g l w s im le ln ys vt nu nn rf kk _ hA hC vw vq yc yh yg m hJ) (fun c n m kk => wm_mostWeight he ke ki fi fa or mi a g l w s xi im le nu rf ln nn c n m kk hA hC xm xw vp xn xc vs hR)
theorem op_climb {M : mm_H} (hM : kInv M) (x : Int32) (y : Int32) : oW 86 178 [some (.ref 100), some (.int x), some (.int y), none, none] [some (.ref 138), some (.int x), some (.int y), none, none, none, none, none] M := by
  obtain ⟨K, m, kk, im, le, ln, ys, vt, nu, nn, rf, vw, vq, yc, yh, yg, xm, xi, xw, vp, xn, xc, vs, rfl, hA, hB, hC, hD, hJ, hR, hK⟩ := hM
  obtain ⟨he, ke, ki, fi, fa, or, mi, a, g, l, w, s⟩ := K
  have v7 : mi ≤ 5 := hA.1.2.2.2.2.2.2.1
  rcases k_cs x 25 0 24 rfl rfl with hx | hx | ⟨x_, hx_, rfl⟩
  · exact (oe_climb_0 he ke ki fi fa or mi a g l w s m kk im le ln ys vt nu nn rf vw vq yc yh yg xm xi xw vp xn xc vs hA hB hC hD hJ hR hK x hx y).w
  · exact (oe_climb_1 he ke ki fi fa or mi a g l w s m kk im le ln ys vt nu nn rf vw vq yc yh yg xm xi xw vp xn xc vs hA hB hC hD hJ hR hK x hx y).w
  · rcases k_cs y 2 0 1 rfl rfl with hy | hy | ⟨y_, hy_, rfl⟩
    · exact (oe_climb_2 he ke ki fi fa or mi a g l w s m kk im le ln ys vt nu nn rf vw vq yc yh yg xm xi xw vp xn xc vs hA hB hC hD hJ hR hK x_ hx_ y hy).w
    · exact (oe_climb_3 he ke ki fi fa or mi a g l w s m kk im le ln ys vt nu nn rf vw vq yc yh yg xm xi xw vp xn xc vs hA hB hC hD hJ hR hK x_ hx_ y hy).w
    · exact oW_of hA hB hC hD hK (wc_climb he ke ki fi fa or mi a g l w s im le ln ys vt nu nn rf kk _ hA hC vw vq yc yh yg m hJ x_ y_ hx_ hy_) (fun c n m kk => wm_climb he ke ki fi fa or mi a g l w s xi im le nu rf ln nn c n m kk hA hC xm xw vp xn xc vs hR x_ y_ hx_ hy_)
theorem op_start {M : mm_H} (hM : kInv M) (x : Int32) : oW 94 187 [some (.ref 100), some (.int x), none, none] [some (.ref 138), some (.int x), none, none, none, none] M := by
  obtain ⟨K, m, kk, im, le, ln, ys, vt, nu, nn, rf, vw, vq, yc, yh, yg, xm, xi, xw, vp, xn, xc, vs, rfl, hA, hB, hC, hD, hJ, hR, hK⟩ := hM
  obtain ⟨he, ke, ki, fi, fa, or, mi, a, g, l, w, s⟩ := K
  have v7 : mi ≤ 5 := hA.1.2.2.2.2.2.2.1
  rcases k_cs x 2 0 1 rfl rfl with hx | hx | ⟨x_, hx_, rfl⟩
  · exact (oe_start_0 he ke ki fi fa or mi a g l w s m kk im le ln ys vt nu nn rf vw vq yc yh yg xm xi xw vp xn xc vs hA hB hC hD hJ hR hK x hx).w
  · exact (oe_start_1 he ke ki fi fa or mi a g l w s m kk im le ln ys vt nu nn rf vw vq yc yh yg xm xi xw vp xn xc vs hA hB hC hD hJ hR hK x hx).w
  · exact oW_of hA hB hC hD hK (wc_start he ke ki fi fa or mi a g l w s im le ln ys vt nu nn rf kk _ hA hC vw vq yc yh yg m hJ x_ hx_) (fun c n m kk => wm_start he ke ki fi fa or mi a g l w s xi im le nu rf ln nn c n m kk hA hC xm xw vp xn xc vs hR x_ hx_)
theorem op_bestKind {M : mm_H} (hM : kInv M) (x : Int32) (y : Int32) : oW 96 188 [some (.ref 100), some (.int x), some (.int y), none, none] [some (.ref 138), some (.int x), some (.int y), none, none, none, none] M := by
  obtain ⟨K, m, kk, im, le, ln, ys, vt, nu, nn, rf, vw, vq, yc, yh, yg, xm, xi, xw, vp, xn, xc, vs, rfl, hA, hB, hC, hD, hJ, hR, hK⟩ := hM
  obtain ⟨he, ke, ki, fi, fa, or, mi, a, g, l, w, s⟩ := K
  have v7 : mi ≤ 5 := hA.1.2.2.2.2.2.2.1
  rcases k_ms x v7 with hx | hx | ⟨p, hp, rfl⟩
  · exact (oe_bestKind_0 he ke ki fi fa or mi a g l w s m kk im le ln ys vt nu nn rf vw vq yc yh yg xm xi xw vp xn xc vs hA hB hC hD hJ hR hK x hx y).w
  · exact (oe_bestKind_1 he ke ki fi fa or mi a g l w s m kk im le ln ys vt nu nn rf vw vq yc yh yg xm xi xw vp xn xc vs hA hB hC hD hJ hR hK x hx y).w
  · rcases k_cs y 2 0 1 rfl rfl with hy | hy | ⟨y_, hy_, rfl⟩
    · exact (oe_bestKind_2 he ke ki fi fa or mi a g l w s m kk im le ln ys vt nu nn rf vw vq yc yh yg xm xi xw vp xn xc vs hA hB hC hD hJ hR hK p hp y hy).w
    · exact (oe_bestKind_3 he ke ki fi fa or mi a g l w s m kk im le ln ys vt nu nn rf vw vq yc yh yg xm xi xw vp xn xc vs hA hB hC hD hJ hR hK p hp y hy).w
    · exact oW_of hA hB hC hD hK (wc_bestKind he ke ki fi fa or mi a g l w s im le ln ys vt nu nn rf kk _ hA hC vw vq yc yh yg m hJ p y_ hp hy_) (fun c n m kk => wm_bestKind he ke ki fi fa or mi a g l w s xi im le nu rf ln nn c n m kk hA hC xm xw vp xn xc vs hR p y_ hp hy_)
theorem op_far {M : mm_H} (hM : kInv M) (x : Int32) : oW 97 189 [some (.ref 100), some (.int x)] [some (.ref 138), some (.int x), none, none, none, none, none] M := by
  obtain ⟨K, m, kk, im, le, ln, ys, vt, nu, nn, rf, vw, vq, yc, yh, yg, xm, xi, xw, vp, xn, xc, vs, rfl, hA, hB, hC, hD, hJ, hR, hK⟩ := hM
  obtain ⟨he, ke, ki, fi, fa, or, mi, a, g, l, w, s⟩ := K
  have v7 : mi ≤ 5 := hA.1.2.2.2.2.2.2.1
  rcases k_cs x 4 0 3 rfl rfl with hx | hx | ⟨x_, hx_, rfl⟩
  · exact (oe_far_0 he ke ki fi fa or mi a g l w s m kk im le ln ys vt nu nn rf vw vq yc yh yg xm xi xw vp xn xc vs hA hB hC hD hJ hR hK x hx).w
  · exact (oe_far_1 he ke ki fi fa or mi a g l w s m kk im le ln ys vt nu nn rf vw vq yc yh yg xm xi xw vp xn xc vs hA hB hC hD hJ hR hK x hx).w
  · rcases (show x_ = 0 ∨ x_ = 1 ∨ x_ = 2 ∨ x_ = 3 by omega) with rfl | rfl | rfl | rfl
    · exact oW_of hA hB hC hD hK (wc_far_0 he ke ki fi fa or mi a g l w s im le ln ys vt nu nn rf kk _ hA hC vw vq yc yh yg m hJ) (fun c n m kk => wm_far he ke ki fi fa or mi a g l w s xi im le nu rf ln nn c n m kk hA hC xm xw vp xn xc vs hR 0 (by decide))
    · exact oW_of hA hB hC hD hK (wc_far_1 he ke ki fi fa or mi a g l w s im le ln ys vt nu nn rf kk _ hA hC vw vq yc yh yg m hJ) (fun c n m kk => wm_far he ke ki fi fa or mi a g l w s xi im le nu rf ln nn c n m kk hA hC xm xw vp xn xc vs hR 1 (by decide))
    · exact oW_of hA hB hC hD hK (wc_far_2 he ke ki fi fa or mi a g l w s im le ln ys vt nu nn rf kk _ hA hC vw vq yc yh yg m hJ) (fun c n m kk => wm_far he ke ki fi fa or mi a g l w s xi im le nu rf ln nn c n m kk hA hC xm xw vp xn xc vs hR 2 (by decide))
    · exact oW_of hA hB hC hD hK (wc_far_3 he ke ki fi fa or mi a g l w s im le ln ys vt nu nn rf kk _ hA hC vw vq yc yh yg m hJ) (fun c n m kk => wm_far he ke ki fi fa or mi a g l w s xi im le nu rf ln nn c n m kk hA hC xm xw vp xn xc vs hR 3 (by decide))
theorem op_easy {M : mm_H} (hM : kInv M) (x : Int32) : oW 101 193 [some (.ref 100), some (.int x)] [some (.ref 138), some (.int x), none, none, none] M := by
  obtain ⟨K, m, kk, im, le, ln, ys, vt, nu, nn, rf, vw, vq, yc, yh, yg, xm, xi, xw, vp, xn, xc, vs, rfl, hA, hB, hC, hD, hJ, hR, hK⟩ := hM
  obtain ⟨he, ke, ki, fi, fa, or, mi, a, g, l, w, s⟩ := K
  have v7 : mi ≤ 5 := hA.1.2.2.2.2.2.2.1
  rcases k_cs x 3 0 2 rfl rfl with hx | hx | ⟨x_, hx_, rfl⟩
  · exact (oe_easy_0 he ke ki fi fa or mi a g l w s m kk im le ln ys vt nu nn rf vw vq yc yh yg xm xi xw vp xn xc vs hA hB hC hD hJ hR hK x hx).w
  · exact (oe_easy_1 he ke ki fi fa or mi a g l w s m kk im le ln ys vt nu nn rf vw vq yc yh yg xm xi xw vp xn xc vs hA hB hC hD hJ hR hK x hx).w
  · rcases (show x_ = 0 ∨ x_ = 1 ∨ x_ = 2 by omega) with rfl | rfl | rfl
    · exact oW_of hA hB hC hD hK (wc_easy_0 he ke ki fi fa or mi a g l w s im le ln ys vt nu nn rf kk _ hA hC vw vq yc yh yg m hJ) (fun c n m kk => wm_easy he ke ki fi fa or mi a g l w s xi im le nu rf ln nn c n m kk hA hC xm xw vp xn xc vs hR 0 (by decide))
    · exact oW_of hA hB hC hD hK (wc_easy_1 he ke ki fi fa or mi a g l w s im le ln ys vt nu nn rf kk _ hA hC vw vq yc yh yg m hJ) (fun c n m kk => wm_easy he ke ki fi fa or mi a g l w s xi im le nu rf ln nn c n m kk hA hC xm xw vp xn xc vs hR 1 (by decide))
    · exact oW_of hA hB hC hD hK (wc_easy_2 he ke ki fi fa or mi a g l w s im le ln ys vt nu nn rf kk _ hA hC vw vq yc yh yg m hJ) (fun c n m kk => wm_easy he ke ki fi fa or mi a g l w s xi im le nu rf ln nn c n m kk hA hC xm xw vp xn xc vs hR 2 (by decide))
theorem op_two {M : mm_H} (hM : kInv M) (x : Int32) (y : Int32) (z : Int32) : oW 105 195 [some (.ref 100), some (.int x), some (.int y), some (.int z), none, none, none] [some (.ref 138), some (.int x), some (.int y), some (.int z), none, none, none, none] M := by
  obtain ⟨K, m, kk, im, le, ln, ys, vt, nu, nn, rf, vw, vq, yc, yh, yg, xm, xi, xw, vp, xn, xc, vs, rfl, hA, hB, hC, hD, hJ, hR, hK⟩ := hM
  obtain ⟨he, ke, ki, fi, fa, or, mi, a, g, l, w, s⟩ := K
  have v7 : mi ≤ 5 := hA.1.2.2.2.2.2.2.1
  rcases k_ms x v7 with hx | hx | ⟨p, hp, rfl⟩
  · exact (oe_two_0 he ke ki fi fa or mi a g l w s m kk im le ln ys vt nu nn rf vw vq yc yh yg xm xi xw vp xn xc vs hA hB hC hD hJ hR hK x hx y z).w
  · exact (oe_two_1 he ke ki fi fa or mi a g l w s m kk im le ln ys vt nu nn rf vw vq yc yh yg xm xi xw vp xn xc vs hA hB hC hD hJ hR hK x hx y z).w
  · rcases k_ms y v7 with hy | hy | ⟨r, hr, rfl⟩
    · exact (oe_two_2 he ke ki fi fa or mi a g l w s m kk im le ln ys vt nu nn rf vw vq yc yh yg xm xi xw vp xn xc vs hA hB hC hD hJ hR hK p hp y hy z).w
    · exact (oe_two_3 he ke ki fi fa or mi a g l w s m kk im le ln ys vt nu nn rf vw vq yc yh yg xm xi xw vp xn xc vs hA hB hC hD hJ hR hK p hp y hy z).w
    · by_cases hne : p = r
      · subst hne
        exact (oe_two_4 he ke ki fi fa or mi a g l w s m kk im le ln ys vt nu nn rf vw vq yc yh yg xm xi xw vp xn xc vs hA hB hC hD hJ hR hK p hp z).w
      · rcases k_cs z 31 0 30 rfl rfl with hz | hz | ⟨z_, hz_, rfl⟩
        · exact (oe_two_5 he ke ki fi fa or mi a g l w s m kk im le ln ys vt nu nn rf vw vq yc yh yg xm xi xw vp xn xc vs hA hB hC hD hJ hR hK p hp r hr hne z hz).w
        · exact (oe_two_6 he ke ki fi fa or mi a g l w s m kk im le ln ys vt nu nn rf vw vq yc yh yg xm xi xw vp xn xc vs hA hB hC hD hJ hR hK p hp r hr hne z hz).w
        · exact oW_of hA hB hC hD hK (wc_two he ke ki fi fa or mi a g l w s im le ln ys vt nu nn rf kk _ hA hC vw vq yc yh yg m hJ p r z_ hp hr hne (by omega)) (fun c n m kk => wm_two he ke ki fi fa or mi a g l w s xi im le nu rf ln nn c n m kk hA hC xm xw vp xn xc vs hR p r z_ hp hr hne (by omega))
theorem op_plank {M : mm_H} (hM : kInv M) (x : Int32) (y : Int32) (z : Int32) (t : Int32) : oX 107 197 [some (.ref 100), some (.int x), some (.int y), some (.int z), some (.int t), none, none, none] [some (.ref 138), some (.int x), some (.int y), some (.int z), some (.int t), none, none, none, none, none, none, none, none] M := by
  obtain ⟨K, m, kk, im, le, ln, ys, vt, nu, nn, rf, vw, vq, yc, yh, yg, xm, xi, xw, vp, xn, xc, vs, rfl, hA, hB, hC, hD, hJ, hR, hK⟩ := hM
  obtain ⟨he, ke, ki, fi, fa, or, mi, a, g, l, w, s⟩ := K
  have v7 : mi ≤ 5 := hA.1.2.2.2.2.2.2.1
  rcases k_cs x 25 0 24 rfl rfl with hx | hx | ⟨x_, hx_, rfl⟩
  · exact (oe_plank_0 he ke ki fi fa or mi a g l w s m kk im le ln ys vt nu nn rf vw vq yc yh yg xm xi xw vp xn xc vs hA hB hC hD hJ hR hK x hx y z t).w
  · exact (oe_plank_1 he ke ki fi fa or mi a g l w s m kk im le ln ys vt nu nn rf vw vq yc yh yg xm xi xw vp xn xc vs hA hB hC hD hJ hR hK x hx y z t).w
  · rcases (show y.toInt ≤ -1 ∨ 0 ≤ y.toInt by omega) with hy | hy
    · exact (oe_plank_2 he ke ki fi fa or mi a g l w s m kk im le ln ys vt nu nn rf vw vq yc yh yg xm xi xw vp xn xc vs hA hB hC hD hJ hR hK x_ hx_ y hy z t).w
    · rcases (show z.toInt ≤ 1 ∨ 2 ≤ z.toInt by omega) with hz | hz
      · exact (oe_plank_3 he ke ki fi fa or mi a g l w s m kk im le ln ys vt nu nn rf vw vq yc yh yg xm xi xw vp xn xc vs hA hB hC hD hJ hR hK x_ hx_ y hy z hz t).w
      · rcases (show 8 ≤ y.toInt ∨ y.toInt < 8 by omega) with hy2 | hy2
        · exact (oe_plank_4 he ke ki fi fa or mi a g l w s m kk im le ln ys vt nu nn rf vw vq yc yh yg xm xi xw vp xn xc vs hA hB hC hD hJ hR hK x_ hx_ y hy2 z hz t).w
        · obtain ⟨y_, hy_, rfl⟩ := k_in 8 hy hy2
          rcases (show 21 ≤ z.toInt ∨ z.toInt < 21 by omega) with hz2 | hz2
          · exact (oe_plank_5 he ke ki fi fa or mi a g l w s m kk im le ln ys vt nu nn rf vw vq yc yh yg xm xi xw vp xn xc vs hA hB hC hD hJ hR hK x_ hx_ y_ hy_ z hz2 t).w
          · obtain ⟨z_, hz_, rfl⟩ := k_in (x := z) 21 (by omega) hz2
            have hz1 : 2 ≤ z_ := by rw [nI_toInt (by omega)] at hz; omega
            rcases k_cs t 2 0 1 rfl rfl with ht | ht | ⟨t_, ht_, rfl⟩
            · exact (oe_plank_6 he ke ki fi fa or mi a g l w s m kk im le ln ys vt nu nn rf vw vq yc yh yg xm xi xw vp xn xc vs hA hB hC hD hJ hR hK x_ hx_ y_ hy_ z_ hz1 (by omega) t ht).w
            · exact (oe_plank_7 he ke ki fi fa or mi a g l w s m kk im le ln ys vt nu nn rf vw vq yc yh yg xm xi xw vp xn xc vs hA hB hC hD hJ hR hK x_ hx_ y_ hy_ z_ hz1 (by omega) t ht).w
            · exact oX_of hA hB hC hD hK (wc_plank he ke ki fi fa or mi a g l w s im le ln ys vt nu nn rf kk _ hA hC vw vq yc yh yg m hJ x_ y_ z_ t_ hx_ (by omega) hz1 (by omega) ht_) (fun c n m kk => wm_plank he ke ki fi fa or mi a g l w s xi im le nu rf ln nn c n m kk hA hC xm xw vp xn xc vs hR x_ y_ z_ t_ hx_ (by omega) hz1 (by omega) ht_)
theorem op_mean {M : mm_H} (hM : kInv M) (x : Int32) : oX 114 201 [some (.ref 100), some (.int x), none, none] [some (.ref 138), some (.int x), none, none, none] M := by
  obtain ⟨K, m, kk, im, le, ln, ys, vt, nu, nn, rf, vw, vq, yc, yh, yg, xm, xi, xw, vp, xn, xc, vs, rfl, hA, hB, hC, hD, hJ, hR, hK⟩ := hM
  obtain ⟨he, ke, ki, fi, fa, or, mi, a, g, l, w, s⟩ := K
  have v7 : mi ≤ 5 := hA.1.2.2.2.2.2.2.1
  rcases k_cs x 2 0 1 rfl rfl with hx | hx | ⟨x_, hx_, rfl⟩
  · exact (oe_mean_0 he ke ki fi fa or mi a g l w s m kk im le ln ys vt nu nn rf vw vq yc yh yg xm xi xw vp xn xc vs hA hB hC hD hJ hR hK x hx).w
  · exact (oe_mean_1 he ke ki fi fa or mi a g l w s m kk im le ln ys vt nu nn rf vw vq yc yh yg xm xi xw vp xn xc vs hA hB hC hD hJ hR hK x hx).w
  · exact oX_of hA hB hC hD hK (wc_mean he ke ki fi fa or mi a g l w s im le ln ys vt nu nn rf kk _ hA hC vw vq yc yh yg m hJ x_ hx_) (fun c n m kk => wm_mean he ke ki fi fa or mi a g l w s xi im le nu rf ln nn c n m kk hA hC xm xw vp xn xc vs hR x_ hx_)
theorem op_whoPushed {M : mm_H} (hM : kInv M) (x : Int32) : oW 115 202 [some (.ref 100), some (.int x)] [some (.ref 138), some (.int x), none, none] M := by
  obtain ⟨K, m, kk, im, le, ln, ys, vt, nu, nn, rf, vw, vq, yc, yh, yg, xm, xi, xw, vp, xn, xc, vs, rfl, hA, hB, hC, hD, hJ, hR, hK⟩ := hM
  obtain ⟨he, ke, ki, fi, fa, or, mi, a, g, l, w, s⟩ := K
  have v7 : mi ≤ 5 := hA.1.2.2.2.2.2.2.1
  rcases k_cs x 2 0 1 rfl rfl with hx | hx | ⟨x_, hx_, rfl⟩
  · exact (oe_whoPushed_0 he ke ki fi fa or mi a g l w s m kk im le ln ys vt nu nn rf vw vq yc yh yg xm xi xw vp xn xc vs hA hB hC hD hJ hR hK x hx).w
  · exact (oe_whoPushed_1 he ke ki fi fa or mi a g l w s m kk im le ln ys vt nu nn rf vw vq yc yh yg xm xi xw vp xn xc vs hA hB hC hD hJ hR hK x hx).w
  · rcases (show x_ = 0 ∨ x_ = 1 by omega) with rfl | rfl
    · exact oW_of hA hB hC hD hK (wc_whoPushed_0 he ke ki fi fa or mi a g l w s im le ln ys vt nu nn rf kk _ hA hC vw vq yc yh yg m hJ) (fun c n m kk => wm_whoPushed_0 he ke ki fi fa or mi a g l w s xi im le nu rf ln nn c n m kk hA hC xm xw vp xn xc vs hR)
    · exact oW_of hA hB hC hD hK (wc_whoPushed_1 he ke ki fi fa or mi a g l w s im le ln ys vt nu nn rf kk _ hA hC vw vq yc yh yg m hJ) (fun c n m kk => wm_whoPushed_1 he ke ki fi fa or mi a g l w s xi im le nu rf ln nn c n m kk hA hC xm xw vp xn xc vs hR)
theorem op_judge {M : mm_H} (hM : kInv M) : oW 120 205 [some (.ref 100), none, none] [some (.ref 138), none, none] M := by
  obtain ⟨K, m, kk, im, le, ln, ys, vt, nu, nn, rf, vw, vq, yc, yh, yg, xm, xi, xw, vp, xn, xc, vs, rfl, hA, hB, hC, hD, hJ, hR, hK⟩ := hM
  obtain ⟨he, ke, ki, fi, fa, or, mi, a, g, l, w, s⟩ := K
  have v7 : mi ≤ 5 := hA.1.2.2.2.2.2.2.1
  exact oW_of hA hB ⟨hC.1, hC.2.1, Nat.zero_le 16⟩ hD hK (wc_judge he ke ki fi fa or mi a g l w s im le ln ys vt nu nn rf kk _ hA hC vw vq yc yh yg m hJ) (fun c n m kk => wm_judge he ke ki fi fa or mi a g l w s xi im le nu rf ln nn c n m kk hA hC xm xw vp xn xc vs hR)
theorem op_lots {M : mm_H} (hM : kInv M) (x : Int32) (y : Int32) (z : Int32) : oW 122 207 [some (.ref 100), some (.int x), some (.int y), some (.int z), none, none, none, none, none] [some (.ref 138), some (.int x), some (.int y), some (.int z), none, none] M := by
  obtain ⟨K, m, kk, im, le, ln, ys, vt, nu, nn, rf, vw, vq, yc, yh, yg, xm, xi, xw, vp, xn, xc, vs, rfl, hA, hB, hC, hD, hJ, hR, hK⟩ := hM
  obtain ⟨he, ke, ki, fi, fa, or, mi, a, g, l, w, s⟩ := K
  have v7 : mi ≤ 5 := hA.1.2.2.2.2.2.2.1
  rcases (show x.toInt ≤ 0 ∨ 1 ≤ x.toInt by omega) with hx | hx
  · exact (oe_lots_0 he ke ki fi fa or mi a g l w s m kk im le ln ys vt nu nn rf vw vq yc yh yg xm xi xw vp xn xc vs hA hB hC hD hJ hR hK x hx y z).w
  · rcases k_cs x 21 0 20 rfl rfl with hhx | hhx | ⟨x_, hx_, rfl⟩
    · exact absurd hx (by omega)
    · exact (oe_lots_1 he ke ki fi fa or mi a g l w s m kk im le ln ys vt nu nn rf vw vq yc yh yg xm xi xw vp xn xc vs hA hB hC hD hJ hR hK x hhx y z).w
    · have hx1 : 1 ≤ x_ := by rw [nI_toInt (by omega)] at hx; omega
      rcases k_cs z 2 0 1 rfl rfl with hz | hz | ⟨z_, hz_, rfl⟩
      · exact (oe_lots_2 he ke ki fi fa or mi a g l w s m kk im le ln ys vt nu nn rf vw vq yc yh yg xm xi xw vp xn xc vs hA hB hC hD hJ hR hK x_ hx1 (by omega) y z hz).w
      · exact (oe_lots_3 he ke ki fi fa or mi a g l w s m kk im le ln ys vt nu nn rf vw vq yc yh yg xm xi xw vp xn xc vs hA hB hC hD hJ hR hK x_ hx1 (by omega) y z hz).w
      · exact oW_of hA hB hC hD hK (wc_lots he ke ki fi fa or mi a g l w s im le ln ys vt nu nn rf kk _ hA hC vw vq yc yh yg m hJ x_ hx1 (by omega) y z_ hz_) (fun c n m kk => wm_lots he ke ki fi fa or mi a g l w s xi im le nu rf ln nn c n m kk hA hC xm xw vp xn xc vs hR x_ hx1 (by omega) y z_ hz_)
theorem op_kingdomM {M : mm_H} (hM : kInv M) : oI 14 131 [some (.ref 100), none] [some (.ref 138), none, none, none, none, none] M := by
  obtain ⟨K, m, kk, im, le, ln, ys, vt, nu, nn, rf, vw, vq, yc, yh, yg, xm, xi, xw, vp, xn, xc, vs, rfl, hA, hB, hC, hD, hJ, hR, hK⟩ := hM
  exact op_kingdom K m kk im le ln ys vt nu nn rf vw vq yc yh yg xm xi xw vp xn xc vs hA hB hC hD hJ hR hK
