/-! ===== a call, tied ===== -/
theorem oI_of {K : kK} {m kk : kG} {im : Nat} {le : List Nat} {ln : Nat} {ys : List Int32} {vt : Int32} {nu : List Nat} {nn : Nat} {rf : List Nat} {vw vq : Int32} {yc yh yg xm xi xw : List Int32} {vp : Int32} {xn xc : List Int32} {vs : Int32} {nn2 : Nat} (V : Int32) (hA : iA K) (hB : iB le ln) (hC2 : iC nu nn2) (hD : iD rf) (hK : iK im kk xi) {zc zm : Nat} {lc lm : mm_L}
    (h1 : mm_E zc 0 lc [] (mk_M (cT im le ln ys vt nu nn rf vw vq yc yh yg) (kr K) m kk (rT K xm xi xw im le nu rf ln nn vp xn xc vs)) (pC (fun r => r = some (.int V)) K im le ln ys vt nu nn2 rf kk (rT K xm xi xw im le nu rf ln nn vp xn xc vs)))
    (h2 : ∀ (c : cC) (n m kk : kG), mm_E zm 0 lm [] (mk_M c n m kk (rT K xm xi xw im le nu rf ln nn vp xn xc vs)) (pM (fun r => r = some (.int V)) K xi im le nu rf ln nn2 c n m kk)) : oI zc zm lc lm (mk_M (cT im le ln ys vt nu nn rf vw vq yc yh yg) (kr K) m kk (rT K xm xi xw im le nu rf ln nn vp xn xc vs)) := by
  obtain ⟨_, _, r1, rfl, vw2, vq2, yc2, yh2, yg2, m2, rfl, hJ2⟩ := h1
  obtain ⟨_, _, r2, rfl, xm2, xw2, vp2, xn2, xc2, vs2, rfl, hR2⟩ := h2 (cT im le ln ys vt nu nn2 rf vw2 vq2 yc2 yh2 yg2) (kr K) m2 kk
  exact ⟨V, _, _, r1, r2, K, m2, kk, im, le, ln, ys, vt, nu, nn2, rf, vw2, vq2, yc2, yh2, yg2, xm2, xi, xw2, vp2, xn2, xc2, vs2, rfl, hA, hB, hC2, hD, hJ2, hR2, hK⟩
theorem oL_of {K : kK} {m kk : kG} {im : Nat} {le : List Nat} {ln : Nat} {ys : List Int32} {vt : Int32} {nu : List Nat} {nn : Nat} {rf : List Nat} {vw vq : Int32} {yc yh yg xm xi xw : List Int32} {vp : Int32} {xn xc : List Int32} {vs : Int32} (V : Int64) (hA : iA K) (hB : iB le ln) (hC2 : iC nu nn) (hD : iD rf) (hK : iK im kk xi) {zc zm : Nat} {lc lm : mm_L}
    (h1 : mm_E zc 0 lc [] (mk_M (cT im le ln ys vt nu nn rf vw vq yc yh yg) (kr K) m kk (rT K xm xi xw im le nu rf ln nn vp xn xc vs)) (pC (fun r => r = some (.long V)) K im le ln ys vt nu nn rf kk (rT K xm xi xw im le nu rf ln nn vp xn xc vs)))
    (h2 : ∀ (c : cC) (n m kk : kG), mm_E zm 0 lm [] (mk_M c n m kk (rT K xm xi xw im le nu rf ln nn vp xn xc vs)) (pM (fun r => r = some (.long V)) K xi im le nu rf ln nn c n m kk)) : oL zc zm lc lm (mk_M (cT im le ln ys vt nu nn rf vw vq yc yh yg) (kr K) m kk (rT K xm xi xw im le nu rf ln nn vp xn xc vs)) := by
  obtain ⟨_, _, r1, rfl, vw2, vq2, yc2, yh2, yg2, m2, rfl, hJ2⟩ := h1
  obtain ⟨_, _, r2, rfl, xm2, xw2, vp2, xn2, xc2, vs2, rfl, hR2⟩ := h2 (cT im le ln ys vt nu nn rf vw2 vq2 yc2 yh2 yg2) (kr K) m2 kk
  exact ⟨V, _, _, r1, r2, K, m2, kk, im, le, ln, ys, vt, nu, nn, rf, vw2, vq2, yc2, yh2, yg2, xm2, xi, xw2, vp2, xn2, xc2, vs2, rfl, hA, hB, hC2, hD, hJ2, hR2, hK⟩
def kjd (nu he : List Nat) : Nat → Nat → Option Nat
  | 0, _ => none
  | r + 1, i => if kg nu i = kg he i then kjd nu he r (i + 1) else some i
theorem kjd_t {nu he : List Nat} {r i : Nat} (h : kg nu i = kg he i) : kjd nu he (r + 1) i = kjd nu he r (i + 1) := if_pos h
theorem kjd_f {nu he : List Nat} {r i : Nat} (h : ¬ kg nu i = kg he i) : kjd nu he (r + 1) i = some i := if_neg h
set_option maxRecDepth 100000 in
theorem tc_judgeL (he ke ki fi fa or : List Nat) (mi a g l w s : Nat) (im : Nat) (le : List Nat) (ln : Nat) (ys : List Int32) (vt : Int32) (nu : List Nat) (nn : Nat) (rf : List Nat) (kk : kG) (q : cR) (hA : iA (he, ke, ki, fi, fa, or, mi, a, g, l, w, s)) (hC : iC nu nn) (k : Nat) : ∀ (v : Int32) (vw vq : Int32) (yc yh yg : List Int32) (m : kG), iJ m ys yc yh yg → k ≤ nn → v = kI (kjd nu he (nn - k) k) → mm_E 120 10 [some (.ref 100), some (.int v), some (.int (nI k - 1))] [] (mk_M (cT im le ln ys vt nu nn rf vw vq yc yh yg) (kr (he, ke, ki, fi, fa, or, mi, a, g, l, w, s)) m kk q) (pC (fun r => r = some (.int (kI (kjd nu he nn 0)))) (he, ke, ki, fi, fa, or, mi, a, g, l, w, s) im le ln ys vt nu 0 rf kk q) := by
  obtain ⟨hV, hst⟩ := id hA
  have hst2 : s ≤ 999 := hst
  obtain ⟨v1, v2, v3, v4, v5, v6, v7, v8, v9, v10, v11, v12, v13, v14, v15, v16⟩ := id hV
  have v6l := kO_len mi v7 or v6
  obtain ⟨c1, c2, c3⟩ := id hC
  induction k with
  | zero =>
    intro v vw vq yc yh yg m hJ hk hv
    obtain ⟨j0, j1, j2, j3, j4⟩ := id hJ
    refine me_l (fun q_ => [some (.ref 100), some (.int v), some (.int q_)]) (show nI 0 - 1 = (-1 : Int32) by decide) ?_
    refine me_ret 7 (r := some (.int v)) (M1 := (mk_M (cT im le ln ys vt nu 0 rf vw vq yc yh yg) (kr (he, ke, ki, fi, fa, or, mi, a, g, l, w, s)) m kk q)) (fun f => rfl) ?_
    exact ⟨(by rw [hv]; rfl), _, _, _, _, _, _, rfl, ⟨(by assumption), j1, by assumption, by assumption, by assumption⟩⟩
  | succ k IH =>
    intro v vw vq yc yh yg m hJ hk hv
    obtain ⟨j0, j1, j2, j3, j4⟩ := id hJ
    have e1 := c2 k
    have e2 := v12 k
    refine me_l (fun q_ => [some (.ref 100), some (.int v), some (.int q_)]) (show nI (k + 1) - 1 = nI k from pk_sub (a := k + 1) (b := 1) (by omega)) ?_
    refine me_seg 1 (pc1 := 11) (ls1 := [some (.ref 100), some (.int v), some (.int (nI k))]) (st1 := [.int (nI k)]) (M1 := (mk_M (cT im le ln ys vt nu nn rf vw vq yc yh yg) (kr (he, ke, ki, fi, fa, or, mi, a, g, l, w, s)) m kk q)) (fun f => rfl) ?_
    refine me_f (C := (nI k) < 0) (nI_pos (by omega)) (fun f => rfl) ?_
    refine me_seg 3 (pc1 := 19) (ls1 := [some (.ref 100), some (.int v), some (.int (nI k))]) (st1 := [.int (nI k), .ref 104]) (M1 := (mk_M (cT im le ln ys vt nu nn rf vw vq yc yh yg) (kr (he, ke, ki, fi, fa, or, mi, a, g, l, w, s)) m kk q)) (fun f => rfl) ?_
    refine me_ldn (xs := (nu.map nI)) rfl rfl (k := k) (by omega) (kg_ok (by omega)) ?_
    refine me_seg 4 (pc1 := 28) (ls1 := [some (.ref 100), some (.int v), some (.int (nI k))]) (st1 := [.int (nI k), .ref 118, .int (nI (kg nu k))]) (M1 := (mk_M (cT im le ln ys vt nu nn rf vw vq yc yh yg) (kr (he, ke, ki, fi, fa, or, mi, a, g, l, w, s)) m kk q)) (fun f => rfl) ?_
    refine me_ldn (xs := (he.map nI)) rfl rfl (k := k) (by omega) (kg_ok (by omega)) ?_
    refine me_ifN (C := (nI (kg nu k)) = (nI (kg he k))) (nI_eqi (a := kg nu k) (b := kg he k) (by omega)) (fun f => rfl) (fun h1 => ?_) (fun h1 => ?_)
    · refine me_seg 2 (pc1 := 10) (ls1 := [some (.ref 100), some (.int v), some (.int ((nI k) + Int32.ofInt (-1)))]) (st1 := []) (M1 := (mk_M (cT im le ln ys vt nu nn rf vw vq yc yh yg) (kr (he, ke, ki, fi, fa, or, mi, a, g, l, w, s)) m kk q)) (fun f => rfl) ?_
      refine me_l (fun q_ => [some (.ref 100), some (.int v), some (.int q_)]) (show ((nI k) + Int32.ofInt (-1)) = nI k - 1 from k_m1 _) ?_
      exact IH v vw vq yc yh yg m ⟨(by assumption), j1, by assumption, by assumption, by assumption⟩ (by omega) (by rw [show nn - k = (nn - (k + 1)) + 1 by omega, kjd_t h1]; exact hv)
    · refine me_seg 4 (pc1 := 10) (ls1 := [some (.ref 100), some (.int (nI k)), some (.int ((nI k) + Int32.ofInt (-1)))]) (st1 := []) (M1 := (mk_M (cT im le ln ys vt nu nn rf vw vq yc yh yg) (kr (he, ke, ki, fi, fa, or, mi, a, g, l, w, s)) m kk q)) (fun f => rfl) ?_
      refine me_l (fun q_ => [some (.ref 100), some (.int (nI k)), some (.int q_)]) (show ((nI k) + Int32.ofInt (-1)) = nI k - 1 from k_m1 _) ?_
      exact IH (nI k) vw vq yc yh yg m ⟨(by assumption), j1, by assumption, by assumption, by assumption⟩ (by omega) (by rw [show nn - k = (nn - (k + 1)) + 1 by omega, kjd_f h1]; rfl)
set_option maxRecDepth 100000 in
theorem tc_judge (he ke ki fi fa or : List Nat) (mi a g l w s : Nat) (im : Nat) (le : List Nat) (ln : Nat) (ys : List Int32) (vt : Int32) (nu : List Nat) (nn : Nat) (rf : List Nat) (kk : kG) (q : cR) (hA : iA (he, ke, ki, fi, fa, or, mi, a, g, l, w, s)) (hC : iC nu nn) (vw vq : Int32) (yc yh yg : List Int32) (m : kG) (hJ : iJ m ys yc yh yg) : mm_E 120 0 [some (.ref 100), none, none] [] (mk_M (cT im le ln ys vt nu nn rf vw vq yc yh yg) (kr (he, ke, ki, fi, fa, or, mi, a, g, l, w, s)) m kk q) (pC (fun r => r = some (.int (kI (kjd nu he nn 0)))) (he, ke, ki, fi, fa, or, mi, a, g, l, w, s) im le ln ys vt nu 0 rf kk q) := by
  obtain ⟨hV, hst⟩ := id hA
  have hst2 : s ≤ 999 := hst
  obtain ⟨v1, v2, v3, v4, v5, v6, v7, v8, v9, v10, v11, v12, v13, v14, v15, v16⟩ := id hV
  have v6l := kO_len mi v7 or v6
  obtain ⟨c1, c2, c3⟩ := id hC
  obtain ⟨j0, j1, j2, j3, j4⟩ := id hJ
  refine me_seg 7 (pc1 := 10) (ls1 := [some (.ref 100), some (.int (-9)), some (.int ((nI nn) - (1 : Int32)))]) (st1 := []) (M1 := (mk_M (cT im le ln ys vt nu nn rf vw vq yc yh yg) (kr (he, ke, ki, fi, fa, or, mi, a, g, l, w, s)) m kk q)) (fun f => rfl) ?_
  exact tc_judgeL he ke ki fi fa or mi a g l w s im le ln ys vt nu nn rf kk q hA hC nn (-9) vw vq yc yh yg m ⟨(by assumption), j1, by assumption, by assumption, by assumption⟩ (by omega) (by rw [Nat.sub_self]; rfl)
set_option maxRecDepth 100000 in
theorem tm_judgeL (he ke ki fi fa or : List Nat) (mi a g l w s : Nat) (xi : List Int32) (im : Nat) (le nu rf : List Nat) (ln nn : Nat) (c : cC) (n m kk : kG) (hA : iA (he, ke, ki, fi, fa, or, mi, a, g, l, w, s)) (hC : iC nu nn) (n0 : Nat) (hn : n0 ≤ 16) (A : Option Nat) (k : Nat) : ∀ (j : Nat)  (xm xw : List Int32) (vp : Int32) (xn xc : List Int32) (vs : Int32), j + k = n0 → iR xm xw xn xc → A = kjd nu he k j → mm_E 205 12 [some (.ref 138), some (.int (nI n0)), some (.int (nI j))] [] (mk_M c n m kk (rT (he, ke, ki, fi, fa, or, mi, a, g, l, w, s) xm xi xw im le nu rf ln nn vp xn xc vs)) (pM (fun r => r = some (.int (kI A))) (he, ke, ki, fi, fa, or, mi, a, g, l, w, s) xi im le nu rf ln nn c n m kk) := by
  obtain ⟨hV, hst⟩ := id hA
  have hst2 : s ≤ 999 := hst
  obtain ⟨v1, v2, v3, v4, v5, v6, v7, v8, v9, v10, v11, v12, v13, v14, v15, v16⟩ := id hV
  have v6l := kO_len mi v7 or v6
  obtain ⟨c1, c2, c3⟩ := id hC
  induction k with
  | zero =>
    intro j xm xw vp xn xc vs hj hR g0
    obtain ⟨r1, r2, r3, r4⟩ := id hR
    have e1 := c2 j
    have e2 := v12 j
    refine me_seg 2 (pc1 := 14) (ls1 := [some (.ref 138), some (.int (nI n0)), some (.int (nI j))]) (st1 := [.int (nI n0), .int (nI j)]) (M1 := (mk_M c n m kk (rT (he, ke, ki, fi, fa, or, mi, a, g, l, w, s) xm xi xw im le nu rf ln nn vp xn xc vs))) (fun f => rfl) ?_
    refine me_t (C := (nI n0) ≤ (nI j)) (nI_let (a := n0) (b := j) (by omega)) (fun f => rfl) ?_
    refine me_ret 2 (r := some (.int (-9))) (M1 := (mk_M c n m kk (rT (he, ke, ki, fi, fa, or, mi, a, g, l, w, s) xm xi xw im le nu rf ln nn vp xn xc vs))) (fun f => rfl) ?_
    exact ⟨(by rw [g0]; rfl), _, _, _, _, _, _, rfl, ⟨(by assumption), (by assumption), (by assumption), (by assumption)⟩⟩
  | succ k IH =>
    intro j xm xw vp xn xc vs hj hR g0
    obtain ⟨r1, r2, r3, r4⟩ := id hR
    have e1 := c2 j
    have e2 := v12 j
    refine me_seg 2 (pc1 := 14) (ls1 := [some (.ref 138), some (.int (nI n0)), some (.int (nI j))]) (st1 := [.int (nI n0), .int (nI j)]) (M1 := (mk_M c n m kk (rT (he, ke, ki, fi, fa, or, mi, a, g, l, w, s) xm xi xw im le nu rf ln nn vp xn xc vs))) (fun f => rfl) ?_
    refine me_f (C := (nI n0) ≤ (nI j)) (nI_lef (a := n0) (b := j) (by omega)) (fun f => rfl) ?_
    refine me_seg 5 (pc1 := 25) (ls1 := [some (.ref 138), some (.int (nI n0)), some (.int (nI j))]) (st1 := [.int ((7 : Int32) + (nI j)), .ref 139]) (M1 := (mk_M c n m kk (rT (he, ke, ki, fi, fa, or, mi, a, g, l, w, s) xm xi xw im le nu rf ln nn vp xn xc vs))) (fun f => rfl) ?_
    refine me_v (nI_add 7 j) ?_
    refine me_ldn (xs := (er (he, ke, ki, fi, fa, or, mi, a, g, l, w, s))) rfl rfl (k := 7 + j) (by omega) (er_h (K := (he, ke, ki, fi, fa, or, mi, a, g, l, w, s)) v1 (by omega)) ?_
    refine me_seg 3 (pc1 := 31) (ls1 := [some (.ref 138), some (.int (nI n0)), some (.int (nI j))]) (st1 := [.int (nI j), .ref 144, .int (nI (kg he j))]) (M1 := (mk_M c n m kk (rT (he, ke, ki, fi, fa, or, mi, a, g, l, w, s) xm xi xw im le nu rf ln nn vp xn xc vs))) (fun f => rfl) ?_
    refine me_ldn (xs := (nu.map nI)) rfl rfl (k := j) (by omega) (kg_ok (by omega)) ?_
    refine me_ifN (C := (nI (kg he j)) = (nI (kg nu j))) (nI_eqi (a := kg he j) (b := kg nu j) (by omega)) (fun f => rfl) (fun h1 => ?_) (fun h1 => ?_)
    · refine me_seg 1 (pc1 := 40) (ls1 := [some (.ref 138), some (.int (nI n0)), some (.int ((nI j) + 1))]) (st1 := []) (M1 := (mk_M c n m kk (rT (he, ke, ki, fi, fa, or, mi, a, g, l, w, s) xm xi xw im le nu rf ln nn vp xn xc vs))) (fun f => rfl) ?_
      refine me_l (fun q_ => [some (.ref 138), some (.int (nI n0)), some (.int q_)]) (nI_add j 1) ?_
      refine me_seg 1 (pc1 := 12) (ls1 := [some (.ref 138), some (.int (nI n0)), some (.int (nI (j + 1)))]) (st1 := []) (M1 := (mk_M c n m kk (rT (he, ke, ki, fi, fa, or, mi, a, g, l, w, s) xm xi xw im le nu rf ln nn vp xn xc vs))) (fun f => rfl) ?_
      exact IH (j + 1)  xm xw vp xn xc vs (by omega) ⟨(by assumption), (by assumption), (by assumption), (by assumption)⟩ (g0.trans (kjd_t h1.symm))
    · refine me_ret 2 (r := some (.int (nI j))) (M1 := (mk_M c n m kk (rT (he, ke, ki, fi, fa, or, mi, a, g, l, w, s) xm xi xw im le nu rf ln nn vp xn xc vs))) (fun f => rfl) ?_
      exact ⟨(by rw [g0, kjd_f (fun e_ => h1 e_.symm)]; rfl), _, _, _, _, _, _, rfl, ⟨(by assumption), (by assumption), (by assumption), (by assumption)⟩⟩
set_option maxRecDepth 100000 in
theorem tm_judge (he ke ki fi fa or : List Nat) (mi a g l w s : Nat) (xi : List Int32) (im : Nat) (le nu rf : List Nat) (ln nn : Nat) (c : cC) (n m kk : kG) (hA : iA (he, ke, ki, fi, fa, or, mi, a, g, l, w, s)) (hC : iC nu nn) (xm xw : List Int32) (vp : Int32) (xn xc : List Int32) (vs : Int32) (hR : iR xm xw xn xc) : mm_E 205 0 [some (.ref 138), none, none] [] (mk_M c n m kk (rT (he, ke, ki, fi, fa, or, mi, a, g, l, w, s) xm xi xw im le nu rf ln nn vp xn xc vs)) (pM (fun r => r = some (.int (kI (kjd nu he nn 0)))) (he, ke, ki, fi, fa, or, mi, a, g, l, w, s) xi im le nu rf ln 0 c n m kk) := by
  obtain ⟨hV, hst⟩ := id hA
  have hst2 : s ≤ 999 := hst
  obtain ⟨v1, v2, v3, v4, v5, v6, v7, v8, v9, v10, v11, v12, v13, v14, v15, v16⟩ := id hV
  have v6l := kO_len mi v7 or v6
  obtain ⟨c1, c2, c3⟩ := id hC
  obtain ⟨r1, r2, r3, r4⟩ := id hR
  refine me_seg 6 (pc1 := 10) (ls1 := [some (.ref 138), some (.int (nI nn)), none]) (st1 := []) (M1 := (mk_MR c n m kk (er (he, ke, ki, fi, fa, or, mi, a, g, l, w, s)) xm xi xw (nI im) (le.map nI) (nu.map nI) (rf.map nI) (nI ln) 0 vp xn xc vs)) (fun f => rfl) ?_
  refine me_M (mk_MRk c n m kk (he, ke, ki, fi, fa, or, mi, a, g, l, w, s) xm xi xw im le nu rf ln 0 vp xn xc vs) ?_
  refine me_seg 2 (pc1 := 12) (ls1 := [some (.ref 138), some (.int (nI nn)), some (.int 0)]) (st1 := []) (M1 := (mk_M c n m kk (rT (he, ke, ki, fi, fa, or, mi, a, g, l, w, s) xm xi xw im le nu rf ln 0 vp xn xc vs))) (fun f => rfl) ?_
  exact tm_judgeL he ke ki fi fa or mi a g l w s xi im le nu rf ln 0 c n m kk hA ⟨c1, c2, Nat.zero_le 16⟩ nn c3 _ nn 0 xm xw vp xn xc vs (by omega) ⟨(by assumption), (by assumption), (by assumption), (by assumption)⟩ rfl
theorem ot_judge {M : mm_H} (hM : kInv M) : oI 120 205 [some (.ref 100), none, none] [some (.ref 138), none, none] M := by
  obtain ⟨K, m, kk, im, le, ln, ys, vt, nu, nn, rf, vw, vq, yc, yh, yg, xm, xi, xw, vp, xn, xc, vs, rfl, hA, hB, hC, hD, hJ, hR, hK⟩ := hM
  obtain ⟨he, ke, ki, fi, fa, or, mi, a, g, l, w, s⟩ := K
  have v7 : mi ≤ 5 := hA.1.2.2.2.2.2.2.1
  exact oI_of (kI (kjd nu he nn 0)) hA hB ⟨hC.1, hC.2.1, Nat.zero_le 16⟩ hD hK (tc_judge he ke ki fi fa or mi a g l w s im le ln ys vt nu nn rf kk _ hA hC vw vq yc yh yg m hJ) (fun c n m kk => tm_judge he ke ki fi fa or mi a g l w s xi im le nu rf ln nn c n m kk hA hC xm xw vp xn xc vs hR)
