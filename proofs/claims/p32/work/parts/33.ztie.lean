/-! ===== a call, tied ===== -/
theorem oI_of {K : kK} {m kk : kG} {im : Nat} {le : List Nat} {ln : Nat} {ys : List Int32} {vt : Int32} {nu : List Nat} {nn : Nat} {rf : List Nat} {vw vq : Int32} {yc yh yg xm xi xw : List Int32} {vp : Int32} {xn xc : List Int32} {vs : Int32} {nn2 : Nat} (V : Int32) (hA : iA K) (hB : iB le ln) (hC2 : iC nu nn2) (hD : iD rf) (hK : iK im kk xi) {zc zm : Nat} {lc lm : mm_L}
    (h1 : mm_E zc 0 lc [] (mk_M (cT im le ln ys vt nu nn rf vw vq yc yh yg) (kr K) m kk (rT K xm xi xw im le nu rf ln nn vp xn xc vs)) (pC (fun r => r = some (.int V)) K im le ln ys vt nu nn2 rf kk (rT K xm xi xw im le nu rf ln nn vp xn xc vs)))
    (h2 : ∀ (c : cC) (n m kk : kG), mm_E zm 0 lm [] (mk_M c n m kk (rT K xm xi xw im le nu rf ln nn vp xn xc vs)) (pM (fun r => r = some (.int V)) K xi im le nu rf ln nn2 c n m kk)) : oI zc zm lc lm (mk_M (cT im le ln ys vt nu nn rf vw vq yc yh yg) (kr K) m kk (rT K xm xi xw im le nu rf ln nn vp xn xc vs)) := by
  obtain ⟨_, _, r1, rfl, vw2, vq2, yc2, yh2, yg2, m2, rfl, hJ2⟩ := h1
  obtain ⟨_, _, r2, rfl, xm2, xw2, vp2, xn2, xc2, vs2, rfl, hR2⟩ := h2 (cT im le ln ys vt nu nn2 rf vw2 vq2 yc2 yh2 yg2) (kr K) m2 kk
  exact ⟨V, _, _, r1, r2, K, m2, kk, im, le, ln, ys, vt, nu, nn2, rf, vw2, vq2, yc2, yh2, yg2, xm2, xi, xw2, vp2, xn2, xc2, vs2, rfl, hA, hB, hC2, hD, hJ2, hR2, hK⟩
theorem oL_of {K : kK} {m kk : kG} {im : Nat} {le : List Nat} {ln : Nat} {ys : List Int32} {vt : Int32} {nu : List Nat} {nn : Nat} {rf : List Nat} {vw vq : Int32} {yc yh yg xm xi xw : List Int32} {vp : Int32} {xn xc : List Int32} {vs : Int32} (V : Int64) (hA : iA K) (hB : iB le ln) (hC2 : iC nu nn) (hD : iD rf) (hK : iK im kk xi) {zc zm : Nat} {lc lm : mm_L}
    (h1 : mm_E zc 0 lc [] (mk_M (cT im le ln ys vt nu nn rf vw vq yc yh yg) (kr K) m kk (rT K xm xi xw im le nu rf ln nn vp xn xc vs)) (pC (fun r => r = some (.long V)) K im le ln ys vt nu nn rf kk (rT K xm xi xw im le nu rf ln nn vp xn xc vs)))
    (h2 : ∀ (c : cC) (n m kk : kG), mm_E zm 0 lm [] (mk_M c n m kk (rT K xm xi xw im le nu rf ln nn vp xn xc vs)) (pM (fun r => r = some (.long V)) K xi im le nu rf ln nn c n m kk)) : oL zc zm lc lm (mk_M (cT im le ln ys vt nu nn rf vw vq yc yh yg) (kr K) m kk (rT K xm xi xw im le nu rf ln nn vp xn xc vs)) := by
  obtain ⟨_, _, r1, rfl, vw2, vq2, yc2, yh2, yg2, m2, rfl, hJ2⟩ := h1
  obtain ⟨_, _, r2, rfl, xm2, xw2, vp2, xn2, xc2, vs2, rfl, hR2⟩ := h2 (cT im le ln ys vt nu nn rf vw2 vq2 yc2 yh2 yg2) (kr K) m2 kk
  exact ⟨V, _, _, r1, r2, K, m2, kk, im, le, ln, ys, vt, nu, nn, rf, vw2, vq2, yc2, yh2, yg2, xm2, xi, xw2, vp2, xn2, xc2, vs2, rfl, hA, hB, hC2, hD, hJ2, hR2, hK⟩
def kwp (F : Nat → Nat) : Nat → Nat → Int32 → Int32
  | 0, _, v => v
  | r + 1, j, v => kwp F r (j + 1) (if F j = 0 then v else v ||| ((1 : Int32) <<< (nI j &&& 31)))
theorem kwp_0 {F : Nat → Nat} {r j : Nat} {v : Int32} (h : F j = 0) : kwp F (r + 1) j v = kwp F r (j + 1) v := by
  show kwp F r (j + 1) (if F j = 0 then v else v ||| ((1 : Int32) <<< (nI j &&& 31))) = _
  rw [if_pos h]
theorem kwp_1 {F : Nat → Nat} {r j : Nat} {v : Int32} (h : ¬ F j = 0) : kwp F (r + 1) j v = kwp F r (j + 1) (v ||| ((1 : Int32) <<< (nI j &&& 31))) := by
  show kwp F r (j + 1) (if F j = 0 then v else v ||| ((1 : Int32) <<< (nI j &&& 31))) = _
  rw [if_neg h]
theorem kor0 (v : Int32) : v ||| 0 = v := by
  apply Int32.toBitVec_inj.1
  show v.toBitVec ||| (0 : Int32).toBitVec = v.toBitVec
  rw [show (0 : Int32).toBitVec = 0#32 by decide, BitVec.or_zero]
def kgn (nu : List Nat) : Nat → Nat → kK → Nat
  | 0, _, _ => 1
  | r + 1, i, Q => if k_at Q = kg nu i then kgn nu r (i + 1) (kstep Q 0) else 0
theorem kgn_t {nu : List Nat} {r i : Nat} {Q : kK} (h : k_at Q = kg nu i) : kgn nu (r + 1) i Q = kgn nu r (i + 1) (kstep Q 0) := if_pos h
theorem kgn_f {nu : List Nat} {r i : Nat} {Q : kK} (h : ¬ k_at Q = kg nu i) : kgn nu (r + 1) i Q = 0 := if_neg h
theorem kgn_le (nu : List Nat) : ∀ (r i : Nat) (Q : kK), kgn nu r i Q ≤ 1
  | 0, _, _ => Nat.le_refl 1
  | r + 1, i, Q => by
    by_cases h : k_at Q = kg nu i
    · rw [kgn_t h]
      exact kgn_le nu r (i + 1) (kstep Q 0)
    · rw [kgn_f h]
      exact Nat.zero_le 1
set_option maxRecDepth 100000 in
theorem tc_gnL (he ke ki fi fa or : List Nat) (mi a g l w s : Nat) (im : Nat) (le : List Nat) (ln : Nat) (ys : List Int32) (vt : Int32) (nu : List Nat) (nn : Nat) (rf : List Nat) (kk : kG) (q : cR) (hA : iA (he, ke, ki, fi, fa, or, mi, a, g, l, w, s)) (hC : iC nu nn) (A : Nat) (k : Nat) : ∀ (j : Nat)  (vw vq : Int32) (yc yh yg : List Int32) (Q : kK), j + k = nn → iJ (kr Q) ys yc yh yg → kV Q → k_st Q + k < 2 ^ 20 → A = kgn nu k j Q → mm_E 117 2 [some (.ref 100), some (.ref 124), some (.int (nI j))] [] (mk_M (cT im le ln ys vt nu nn rf vw vq yc yh yg) (kr (he, ke, ki, fi, fa, or, mi, a, g, l, w, s)) (kr Q) kk q) (pC (fun r => r = some (.int (nI A))) (he, ke, ki, fi, fa, or, mi, a, g, l, w, s) im le ln ys vt nu nn rf kk q) := by
  obtain ⟨hV, hst⟩ := id hA
  have hst2 : s ≤ 999 := hst
  obtain ⟨v1, v2, v3, v4, v5, v6, v7, v8, v9, v10, v11, v12, v13, v14, v15, v16⟩ := id hV
  have v6l := kO_len mi v7 or v6
  obtain ⟨c1, c2, c3⟩ := id hC
  induction k with
  | zero =>
    intro j vw vq yc yh yg Q hj hJ hQ hQs g0
    obtain ⟨j0, j1, j2, j3, j4⟩ := id hJ
    have ha := kV_at hQ
    have e1 := c2 j
    refine me_seg 3 (pc1 := 7) (ls1 := [some (.ref 100), some (.ref 124), some (.int (nI j))]) (st1 := [.int (nI nn), .int (nI j)]) (M1 := (mk_M (cT im le ln ys vt nu nn rf vw vq yc yh yg) (kr (he, ke, ki, fi, fa, or, mi, a, g, l, w, s)) (kr Q) kk q)) (fun f => rfl) ?_
    refine me_t (C := (nI nn) ≤ (nI j)) (nI_let (a := nn) (b := j) (by omega)) (fun f => rfl) ?_
    refine me_ret 2 (r := some (.int 1)) (M1 := (mk_M (cT im le ln ys vt nu nn rf vw vq yc yh yg) (kr (he, ke, ki, fi, fa, or, mi, a, g, l, w, s)) (kr Q) kk q)) (fun f => rfl) ?_
    exact ⟨(by rw [g0]; rfl), _, _, _, _, _, _, rfl, ⟨(kSh_r hQ), j1, by assumption, by assumption, by assumption⟩⟩
  | succ k IH =>
    intro j vw vq yc yh yg Q hj hJ hQ hQs g0
    obtain ⟨j0, j1, j2, j3, j4⟩ := id hJ
    have ha := kV_at hQ
    have e1 := c2 j
    refine me_seg 3 (pc1 := 7) (ls1 := [some (.ref 100), some (.ref 124), some (.int (nI j))]) (st1 := [.int (nI nn), .int (nI j)]) (M1 := (mk_M (cT im le ln ys vt nu nn rf vw vq yc yh yg) (kr (he, ke, ki, fi, fa, or, mi, a, g, l, w, s)) (kr Q) kk q)) (fun f => rfl) ?_
    refine me_f (C := (nI nn) ≤ (nI j)) (nI_lef (a := nn) (b := j) (by omega)) (fun f => rfl) ?_
    refine me_seg 5 (pc1 := 19) (ls1 := [some (.ref 100), some (.ref 124), some (.int (nI j))]) (st1 := [.int (nI j), .ref 104, .int (nI (k_at Q))]) (M1 := (mk_M (cT im le ln ys vt nu nn rf vw vq yc yh yg) (kr (he, ke, ki, fi, fa, or, mi, a, g, l, w, s)) (kr Q) kk q)) (fun f => rfl) ?_
    refine me_ldn (xs := (nu.map nI)) rfl rfl (k := j) (by omega) (kg_ok (by omega)) ?_
    refine me_ifN (C := (nI (k_at Q)) = (nI (kg nu j))) (nI_eqi (a := k_at Q) (b := kg nu j) (by omega)) (fun f => rfl) (fun h1 => ?_) (fun h1 => ?_)
    · refine me_seg 2 (pc1 := 27) (ls1 := [some (.ref 100), some (.ref 124), some (.int (nI j))]) (st1 := [.int 0, .ref 124]) (M1 := (mk_M (cT im le ln ys vt nu nn rf vw vq yc yh yg) (kr (he, ke, ki, fi, fa, or, mi, a, g, l, w, s)) (kr Q) kk q)) (fun f => rfl) ?_
      refine me_call (y := 44) (y0 := 30) (L := [some (.ref 124), some (.int 0), none, none, none]) (rest := []) (rr := none) (M1 := (mk_M (cT im le ln ys vt nu nn rf vw vq yc yh yg) (kr (he, ke, ki, fi, fa, or, mi, a, g, l, w, s)) (kr (kstep Q 0)) kk q)) (fun f => rfl) (kl_m (cT im le ln ys vt nu nn rf vw vq yc yh yg) (kr (he, ke, ki, fi, fa, or, mi, a, g, l, w, s)) kk q (kc_advQ Q 0 (by decide) hQ (Nat.lt_trans (m := 2 ^ 20) (by omega) (by decide)))) ?_
      refine me_seg 1 (pc1 := 33) (ls1 := [some (.ref 100), some (.ref 124), some (.int ((nI j) + 1))]) (st1 := []) (M1 := (mk_M (cT im le ln ys vt nu nn rf vw vq yc yh yg) (kr (he, ke, ki, fi, fa, or, mi, a, g, l, w, s)) (kr (kstep Q 0)) kk q)) (fun f => rfl) ?_
      refine me_l (fun q_ => [some (.ref 100), some (.ref 124), some (.int q_)]) (nI_add j 1) ?_
      refine me_seg 1 (pc1 := 2) (ls1 := [some (.ref 100), some (.ref 124), some (.int (nI (j + 1)))]) (st1 := []) (M1 := (mk_M (cT im le ln ys vt nu nn rf vw vq yc yh yg) (kr (he, ke, ki, fi, fa, or, mi, a, g, l, w, s)) (kr (kstep Q 0)) kk q)) (fun f => rfl) ?_
      exact IH (j + 1)  vw vq yc yh yg (kstep Q 0) (by omega) ⟨(kSh_r (kV_step hQ 0)), j1, by assumption, by assumption, by assumption⟩ (kV_step hQ 0) (by first | omega | (rw [kst_step]; omega)) (g0.trans (kgn_t h1))
    · refine me_ret 2 (r := some (.int 0)) (M1 := (mk_M (cT im le ln ys vt nu nn rf vw vq yc yh yg) (kr (he, ke, ki, fi, fa, or, mi, a, g, l, w, s)) (kr Q) kk q)) (fun f => rfl) ?_
      exact ⟨(by rw [g0, kgn_f h1]; rfl), _, _, _, _, _, _, rfl, ⟨(kSh_r hQ), j1, by assumption, by assumption, by assumption⟩⟩
set_option maxRecDepth 100000 in
theorem tc_gn (he ke ki fi fa or : List Nat) (mi a g l w s : Nat) (im : Nat) (le : List Nat) (ln : Nat) (ys : List Int32) (vt : Int32) (nu : List Nat) (nn : Nat) (rf : List Nat) (kk : kG) (q : cR) (hA : iA (he, ke, ki, fi, fa, or, mi, a, g, l, w, s)) (hC : iC nu nn) (vw vq : Int32) (yc yh yg : List Int32) (Q : kK) (hJ : iJ (kr Q) ys yc yh yg) (hQ : kV Q) (hQs : k_st Q + 100 < 2 ^ 20) : mm_E 117 0 [some (.ref 100), some (.ref 124), none] [] (mk_M (cT im le ln ys vt nu nn rf vw vq yc yh yg) (kr (he, ke, ki, fi, fa, or, mi, a, g, l, w, s)) (kr Q) kk q) (pC (fun r => r = some (.int (nI (kgn nu nn 0 Q)))) (he, ke, ki, fi, fa, or, mi, a, g, l, w, s) im le ln ys vt nu nn rf kk q) := by
  obtain ⟨hV, hst⟩ := id hA
  have hst2 : s ≤ 999 := hst
  obtain ⟨v1, v2, v3, v4, v5, v6, v7, v8, v9, v10, v11, v12, v13, v14, v15, v16⟩ := id hV
  have v6l := kO_len mi v7 or v6
  obtain ⟨c1, c2, c3⟩ := id hC
  obtain ⟨j0, j1, j2, j3, j4⟩ := id hJ
  refine me_seg 2 (pc1 := 2) (ls1 := [some (.ref 100), some (.ref 124), some (.int 0)]) (st1 := []) (M1 := (mk_M (cT im le ln ys vt nu nn rf vw vq yc yh yg) (kr (he, ke, ki, fi, fa, or, mi, a, g, l, w, s)) (kr Q) kk q)) (fun f => rfl) ?_
  exact tc_gnL he ke ki fi fa or mi a g l w s im le ln ys vt nu nn rf kk q hA hC _ nn 0 vw vq yc yh yg Q (by omega) ⟨(kSh_r hQ), j1, by assumption, by assumption, by assumption⟩ hQ (by omega) rfl
set_option maxRecDepth 100000 in
theorem tm_ps0L (he ke ki fi fa or : List Nat) (mi a g l w s : Nat) (xi : List Int32) (im : Nat) (le nu rf : List Nat) (ln nn : Nat) (c : cC) (n m kk : kG) (hA : iA (he, ke, ki, fi, fa, or, mi, a, g, l, w, s)) (hC : iC nu nn) (k : Nat) : ∀ (j : Nat)  (Q : kK) (xw : List Int32) (vp : Int32) (xn xc : List Int32) (vs : Int32), j + k = nn → iR (er Q) xw xn xc → kV Q → k_st Q + k < 2 ^ 20 → mm_E 203 4 [some (.ref 138), some (.int 0), some (.int (nI j))] [] (mk_M c n m kk (rT (he, ke, ki, fi, fa, or, mi, a, g, l, w, s) (er Q) xi xw im le nu rf ln nn vp xn xc vs)) (pM (fun r => r = some (.int (0))) (he, ke, ki, fi, fa, or, mi, a, g, l, w, s) xi im le nu rf ln nn c n m kk) := by
  obtain ⟨hV, hst⟩ := id hA
  have hst2 : s ≤ 999 := hst
  obtain ⟨v1, v2, v3, v4, v5, v6, v7, v8, v9, v10, v11, v12, v13, v14, v15, v16⟩ := id hV
  have v6l := kO_len mi v7 or v6
  obtain ⟨c1, c2, c3⟩ := id hC
  induction k with
  | zero =>
    intro j Q xw vp xn xc vs hj hR hQ hQs
    obtain ⟨r1, r2, r3, r4⟩ := id hR
    have ha := kV_at hQ
    have e1 := c2 j
    refine me_seg 3 (pc1 := 9) (ls1 := [some (.ref 138), some (.int 0), some (.int (nI j))]) (st1 := [.int (nI nn), .int (nI j)]) (M1 := (mk_M c n m kk (rT (he, ke, ki, fi, fa, or, mi, a, g, l, w, s) (er Q) xi xw im le nu rf ln nn vp xn xc vs))) (fun f => rfl) ?_
    refine me_t (C := (nI nn) ≤ (nI j)) (nI_let (a := nn) (b := j) (by omega)) (fun f => rfl) ?_
    refine me_ret 2 (r := some (.int 0)) (M1 := (mk_M c n m kk (rT (he, ke, ki, fi, fa, or, mi, a, g, l, w, s) (er Q) xi xw im le nu rf ln nn vp xn xc vs))) (fun f => rfl) ?_
    exact ⟨rfl, _, _, _, _, _, _, rfl, ⟨(er_len hQ), (by assumption), (by assumption), (by assumption)⟩⟩
  | succ k IH =>
    intro j Q xw vp xn xc vs hj hR hQ hQs
    obtain ⟨r1, r2, r3, r4⟩ := id hR
    have ha := kV_at hQ
    have e1 := c2 j
    refine me_seg 3 (pc1 := 9) (ls1 := [some (.ref 138), some (.int 0), some (.int (nI j))]) (st1 := [.int (nI nn), .int (nI j)]) (M1 := (mk_M c n m kk (rT (he, ke, ki, fi, fa, or, mi, a, g, l, w, s) (er Q) xi xw im le nu rf ln nn vp xn xc vs))) (fun f => rfl) ?_
    refine me_f (C := (nI nn) ≤ (nI j)) (nI_lef (a := nn) (b := j) (by omega)) (fun f => rfl) ?_
    refine me_seg 4 (pc1 := 18) (ls1 := [some (.ref 138), some (.int 0), some (.int (nI j))]) (st1 := [.int 2, .ref 140, .int 0]) (M1 := (mk_M c n m kk (rT (he, ke, ki, fi, fa, or, mi, a, g, l, w, s) (er Q) xi xw im le nu rf ln nn vp xn xc vs))) (fun f => rfl) ?_
    refine me_ldn (xs := (er Q)) rfl rfl (k := 2) (by decide) rfl ?_
    refine me_seg 3 (pc1 := 24) (ls1 := [some (.ref 138), some (.int 0), some (.int (nI j))]) (st1 := [.int (nI j), .ref 144, .int (nI (k_at Q)), .int 0]) (M1 := (mk_M c n m kk (rT (he, ke, ki, fi, fa, or, mi, a, g, l, w, s) (er Q) xi xw im le nu rf ln nn vp xn xc vs))) (fun f => rfl) ?_
    refine me_ldn (xs := (nu.map nI)) rfl rfl (k := j) (by omega) (kg_ok (by omega)) ?_
    refine me_ifN (C := (nI (k_at Q)) = (nI (kg nu j))) (nI_eqi (a := k_at Q) (b := kg nu j) (by omega)) (fun f => rfl) (fun h1 => ?_) (fun h1 => ?_)
    · refine me_seg 7 (pc1 := 40) (ls1 := [some (.ref 138), some (.int 0), some (.int (nI j))]) (st1 := [.int 0, .ref 140]) (M1 := (mk_M c n m kk (rT (he, ke, ki, fi, fa, or, mi, a, g, l, w, s) (er Q) xi xw im le nu rf ln nn vp xn xc vs))) (fun f => rfl) ?_
      refine me_call (y := 146) (y0 := 43) (L := [some (.ref 140), some (.int 0), none, none, none]) (rest := []) (rr := none) (M1 := (mk_M c n m kk (rT (he, ke, ki, fi, fa, or, mi, a, g, l, w, s) (er (kstep Q 0)) xi xw im le nu rf ln nn vp xn xc vs))) (fun f => rfl) (rl_m c n m kk (rT (he, ke, ki, fi, fa, or, mi, a, g, l, w, s) (er Q) xi xw im le nu rf ln nn vp xn xc vs) (rc_stepQ Q 0 (by decide) hQ (Nat.lt_trans (m := 2 ^ 20) (by omega) (by decide))) rfl) ?_
      refine me_seg 1 (pc1 := 46) (ls1 := [some (.ref 138), some (.int 0), some (.int ((nI j) + 1))]) (st1 := []) (M1 := (mk_M c n m kk (rT (he, ke, ki, fi, fa, or, mi, a, g, l, w, s) (er (kstep Q 0)) xi xw im le nu rf ln nn vp xn xc vs))) (fun f => rfl) ?_
      refine me_l (fun q_ => [some (.ref 138), some (.int 0), some (.int q_)]) (nI_add j 1) ?_
      refine me_seg 1 (pc1 := 4) (ls1 := [some (.ref 138), some (.int 0), some (.int (nI (j + 1)))]) (st1 := []) (M1 := (mk_M c n m kk (rT (he, ke, ki, fi, fa, or, mi, a, g, l, w, s) (er (kstep Q 0)) xi xw im le nu rf ln nn vp xn xc vs))) (fun f => rfl) ?_
      exact IH (j + 1)  (kstep Q 0) xw vp xn xc vs (by omega) ⟨(er_len (kV_step hQ 0)), (by assumption), (by assumption), (by assumption)⟩ (kV_step hQ 0) (by first | omega | (rw [kst_step]; omega))
    · refine me_seg 6 (pc1 := 40) (ls1 := [some (.ref 138), some (.int 0), some (.int (nI j))]) (st1 := [.int 0, .ref 140]) (M1 := (mk_M c n m kk (rT (he, ke, ki, fi, fa, or, mi, a, g, l, w, s) (er Q) xi xw im le nu rf ln nn vp xn xc vs))) (fun f => rfl) ?_
      refine me_call (y := 146) (y0 := 43) (L := [some (.ref 140), some (.int 0), none, none, none]) (rest := []) (rr := none) (M1 := (mk_M c n m kk (rT (he, ke, ki, fi, fa, or, mi, a, g, l, w, s) (er (kstep Q 0)) xi xw im le nu rf ln nn vp xn xc vs))) (fun f => rfl) (rl_m c n m kk (rT (he, ke, ki, fi, fa, or, mi, a, g, l, w, s) (er Q) xi xw im le nu rf ln nn vp xn xc vs) (rc_stepQ Q 0 (by decide) hQ (Nat.lt_trans (m := 2 ^ 20) (by omega) (by decide))) rfl) ?_
      refine me_seg 1 (pc1 := 46) (ls1 := [some (.ref 138), some (.int 0), some (.int ((nI j) + 1))]) (st1 := []) (M1 := (mk_M c n m kk (rT (he, ke, ki, fi, fa, or, mi, a, g, l, w, s) (er (kstep Q 0)) xi xw im le nu rf ln nn vp xn xc vs))) (fun f => rfl) ?_
      refine me_l (fun q_ => [some (.ref 138), some (.int 0), some (.int q_)]) (nI_add j 1) ?_
      refine me_seg 1 (pc1 := 4) (ls1 := [some (.ref 138), some (.int 0), some (.int (nI (j + 1)))]) (st1 := []) (M1 := (mk_M c n m kk (rT (he, ke, ki, fi, fa, or, mi, a, g, l, w, s) (er (kstep Q 0)) xi xw im le nu rf ln nn vp xn xc vs))) (fun f => rfl) ?_
      exact IH (j + 1)  (kstep Q 0) xw vp xn xc vs (by omega) ⟨(er_len (kV_step hQ 0)), (by assumption), (by assumption), (by assumption)⟩ (kV_step hQ 0) (by first | omega | (rw [kst_step]; omega))
set_option maxRecDepth 100000 in
theorem tm_ps1L (he ke ki fi fa or : List Nat) (mi a g l w s : Nat) (xi : List Int32) (im : Nat) (le nu rf : List Nat) (ln nn : Nat) (c : cC) (n m kk : kG) (hA : iA (he, ke, ki, fi, fa, or, mi, a, g, l, w, s)) (hC : iC nu nn) (A : Nat) (k : Nat) : ∀ (j : Nat)  (Q : kK) (xw : List Int32) (vp : Int32) (xn xc : List Int32) (vs : Int32), j + k = nn → iR (er Q) xw xn xc → kV Q → k_st Q + k < 2 ^ 20 → A = kgn nu k j Q → mm_E 203 4 [some (.ref 138), some (.int 1), some (.int (nI j))] [] (mk_M c n m kk (rT (he, ke, ki, fi, fa, or, mi, a, g, l, w, s) (er Q) xi xw im le nu rf ln nn vp xn xc vs)) (pM (fun r => r = some (.int (nI A))) (he, ke, ki, fi, fa, or, mi, a, g, l, w, s) xi im le nu rf ln nn c n m kk) := by
  obtain ⟨hV, hst⟩ := id hA
  have hst2 : s ≤ 999 := hst
  obtain ⟨v1, v2, v3, v4, v5, v6, v7, v8, v9, v10, v11, v12, v13, v14, v15, v16⟩ := id hV
  have v6l := kO_len mi v7 or v6
  obtain ⟨c1, c2, c3⟩ := id hC
  induction k with
  | zero =>
    intro j Q xw vp xn xc vs hj hR hQ hQs g0
    obtain ⟨r1, r2, r3, r4⟩ := id hR
    have ha := kV_at hQ
    have e1 := c2 j
    refine me_seg 3 (pc1 := 9) (ls1 := [some (.ref 138), some (.int 1), some (.int (nI j))]) (st1 := [.int (nI nn), .int (nI j)]) (M1 := (mk_M c n m kk (rT (he, ke, ki, fi, fa, or, mi, a, g, l, w, s) (er Q) xi xw im le nu rf ln nn vp xn xc vs))) (fun f => rfl) ?_
    refine me_t (C := (nI nn) ≤ (nI j)) (nI_let (a := nn) (b := j) (by omega)) (fun f => rfl) ?_
    refine me_ret 2 (r := some (.int 1)) (M1 := (mk_M c n m kk (rT (he, ke, ki, fi, fa, or, mi, a, g, l, w, s) (er Q) xi xw im le nu rf ln nn vp xn xc vs))) (fun f => rfl) ?_
    exact ⟨(by rw [g0]; rfl), _, _, _, _, _, _, rfl, ⟨(er_len hQ), (by assumption), (by assumption), (by assumption)⟩⟩
  | succ k IH =>
    intro j Q xw vp xn xc vs hj hR hQ hQs g0
    obtain ⟨r1, r2, r3, r4⟩ := id hR
    have ha := kV_at hQ
    have e1 := c2 j
    refine me_seg 3 (pc1 := 9) (ls1 := [some (.ref 138), some (.int 1), some (.int (nI j))]) (st1 := [.int (nI nn), .int (nI j)]) (M1 := (mk_M c n m kk (rT (he, ke, ki, fi, fa, or, mi, a, g, l, w, s) (er Q) xi xw im le nu rf ln nn vp xn xc vs))) (fun f => rfl) ?_
    refine me_f (C := (nI nn) ≤ (nI j)) (nI_lef (a := nn) (b := j) (by omega)) (fun f => rfl) ?_
    refine me_seg 4 (pc1 := 18) (ls1 := [some (.ref 138), some (.int 1), some (.int (nI j))]) (st1 := [.int 2, .ref 140, .int 1]) (M1 := (mk_M c n m kk (rT (he, ke, ki, fi, fa, or, mi, a, g, l, w, s) (er Q) xi xw im le nu rf ln nn vp xn xc vs))) (fun f => rfl) ?_
    refine me_ldn (xs := (er Q)) rfl rfl (k := 2) (by decide) rfl ?_
    refine me_seg 3 (pc1 := 24) (ls1 := [some (.ref 138), some (.int 1), some (.int (nI j))]) (st1 := [.int (nI j), .ref 144, .int (nI (k_at Q)), .int 1]) (M1 := (mk_M c n m kk (rT (he, ke, ki, fi, fa, or, mi, a, g, l, w, s) (er Q) xi xw im le nu rf ln nn vp xn xc vs))) (fun f => rfl) ?_
    refine me_ldn (xs := (nu.map nI)) rfl rfl (k := j) (by omega) (kg_ok (by omega)) ?_
    refine me_ifN (C := (nI (k_at Q)) = (nI (kg nu j))) (nI_eqi (a := k_at Q) (b := kg nu j) (by omega)) (fun f => rfl) (fun h1 => ?_) (fun h1 => ?_)
    · refine me_seg 7 (pc1 := 40) (ls1 := [some (.ref 138), some (.int 1), some (.int (nI j))]) (st1 := [.int 0, .ref 140]) (M1 := (mk_M c n m kk (rT (he, ke, ki, fi, fa, or, mi, a, g, l, w, s) (er Q) xi xw im le nu rf ln nn vp xn xc vs))) (fun f => rfl) ?_
      refine me_call (y := 146) (y0 := 43) (L := [some (.ref 140), some (.int 0), none, none, none]) (rest := []) (rr := none) (M1 := (mk_M c n m kk (rT (he, ke, ki, fi, fa, or, mi, a, g, l, w, s) (er (kstep Q 0)) xi xw im le nu rf ln nn vp xn xc vs))) (fun f => rfl) (rl_m c n m kk (rT (he, ke, ki, fi, fa, or, mi, a, g, l, w, s) (er Q) xi xw im le nu rf ln nn vp xn xc vs) (rc_stepQ Q 0 (by decide) hQ (Nat.lt_trans (m := 2 ^ 20) (by omega) (by decide))) rfl) ?_
      refine me_seg 1 (pc1 := 46) (ls1 := [some (.ref 138), some (.int 1), some (.int ((nI j) + 1))]) (st1 := []) (M1 := (mk_M c n m kk (rT (he, ke, ki, fi, fa, or, mi, a, g, l, w, s) (er (kstep Q 0)) xi xw im le nu rf ln nn vp xn xc vs))) (fun f => rfl) ?_
      refine me_l (fun q_ => [some (.ref 138), some (.int 1), some (.int q_)]) (nI_add j 1) ?_
      refine me_seg 1 (pc1 := 4) (ls1 := [some (.ref 138), some (.int 1), some (.int (nI (j + 1)))]) (st1 := []) (M1 := (mk_M c n m kk (rT (he, ke, ki, fi, fa, or, mi, a, g, l, w, s) (er (kstep Q 0)) xi xw im le nu rf ln nn vp xn xc vs))) (fun f => rfl) ?_
      exact IH (j + 1)  (kstep Q 0) xw vp xn xc vs (by omega) ⟨(er_len (kV_step hQ 0)), (by assumption), (by assumption), (by assumption)⟩ (kV_step hQ 0) (by first | omega | (rw [kst_step]; omega)) (g0.trans (kgn_t h1))
    · refine me_seg 6 (pc1 := 40) (ls1 := [some (.ref 138), some (.int 0), some (.int (nI j))]) (st1 := [.int 0, .ref 140]) (M1 := (mk_M c n m kk (rT (he, ke, ki, fi, fa, or, mi, a, g, l, w, s) (er Q) xi xw im le nu rf ln nn vp xn xc vs))) (fun f => rfl) ?_
      refine me_call (y := 146) (y0 := 43) (L := [some (.ref 140), some (.int 0), none, none, none]) (rest := []) (rr := none) (M1 := (mk_M c n m kk (rT (he, ke, ki, fi, fa, or, mi, a, g, l, w, s) (er (kstep Q 0)) xi xw im le nu rf ln nn vp xn xc vs))) (fun f => rfl) (rl_m c n m kk (rT (he, ke, ki, fi, fa, or, mi, a, g, l, w, s) (er Q) xi xw im le nu rf ln nn vp xn xc vs) (rc_stepQ Q 0 (by decide) hQ (Nat.lt_trans (m := 2 ^ 20) (by omega) (by decide))) rfl) ?_
      refine me_seg 1 (pc1 := 46) (ls1 := [some (.ref 138), some (.int 0), some (.int ((nI j) + 1))]) (st1 := []) (M1 := (mk_M c n m kk (rT (he, ke, ki, fi, fa, or, mi, a, g, l, w, s) (er (kstep Q 0)) xi xw im le nu rf ln nn vp xn xc vs))) (fun f => rfl) ?_
      refine me_l (fun q_ => [some (.ref 138), some (.int 0), some (.int q_)]) (nI_add j 1) ?_
      refine me_seg 1 (pc1 := 4) (ls1 := [some (.ref 138), some (.int 0), some (.int (nI (j + 1)))]) (st1 := []) (M1 := (mk_M c n m kk (rT (he, ke, ki, fi, fa, or, mi, a, g, l, w, s) (er (kstep Q 0)) xi xw im le nu rf ln nn vp xn xc vs))) (fun f => rfl) ?_
      rw [show A = 0 from g0.trans (kgn_f h1)]
      exact tm_ps0L he ke ki fi fa or mi a g l w s xi im le nu rf ln nn c n m kk hA hC k (j + 1) (kstep Q 0) xw vp xn xc vs (by omega) ⟨(er_len (kV_step hQ 0)), (by assumption), (by assumption), (by assumption)⟩ (kV_step hQ 0) (by first | omega | (rw [kst_step]; omega))
set_option maxRecDepth 100000 in
theorem tm_ps (he ke ki fi fa or : List Nat) (mi a g l w s : Nat) (xi : List Int32) (im : Nat) (le nu rf : List Nat) (ln nn : Nat) (c : cC) (n m kk : kG) (hA : iA (he, ke, ki, fi, fa, or, mi, a, g, l, w, s)) (hC : iC nu nn) (Q : kK) (xw : List Int32) (vp : Int32) (xn xc : List Int32) (vs : Int32) (hR : iR (er Q) xw xn xc) (hQ : kV Q) (hQs : k_st Q + 100 < 2 ^ 20) : mm_E 203 0 [some (.ref 138), none, none] [] (mk_M c n m kk (rT (he, ke, ki, fi, fa, or, mi, a, g, l, w, s) (er Q) xi xw im le nu rf ln nn vp xn xc vs)) (pM (fun r => r = some (.int (nI (kgn nu nn 0 Q)))) (he, ke, ki, fi, fa, or, mi, a, g, l, w, s) xi im le nu rf ln nn c n m kk) := by
  obtain ⟨hV, hst⟩ := id hA
  have hst2 : s ≤ 999 := hst
  obtain ⟨v1, v2, v3, v4, v5, v6, v7, v8, v9, v10, v11, v12, v13, v14, v15, v16⟩ := id hV
  have v6l := kO_len mi v7 or v6
  obtain ⟨c1, c2, c3⟩ := id hC
  obtain ⟨r1, r2, r3, r4⟩ := id hR
  refine me_seg 4 (pc1 := 4) (ls1 := [some (.ref 138), some (.int 1), some (.int 0)]) (st1 := []) (M1 := (mk_M c n m kk (rT (he, ke, ki, fi, fa, or, mi, a, g, l, w, s) (er Q) xi xw im le nu rf ln nn vp xn xc vs))) (fun f => rfl) ?_
  exact tm_ps1L he ke ki fi fa or mi a g l w s xi im le nu rf ln nn c n m kk hA hC _ nn 0 Q xw vp xn xc vs (by omega) ⟨(er_len hQ), (by assumption), (by assumption), (by assumption)⟩ hQ (by omega) rfl
set_option maxRecDepth 100000 in
theorem tc_w0L (he ke ki fi fa or : List Nat) (mi a g l w s : Nat) (im : Nat) (le : List Nat) (ln : Nat) (ys : List Int32) (vt : Int32) (nu : List Nat) (nn : Nat) (rf : List Nat) (kk : kG) (q : cR) (hA : iA (he, ke, ki, fi, fa, or, mi, a, g, l, w, s)) (hC : iC nu nn) (A : Int32) (k : Nat) : ∀ (j : Nat) (v : Int32) (lo3 : Option Value) (vw vq : Int32) (yc yh yg : List Int32) (m : kG), j + k = mi → iJ m ys yc yh yg → A = kwp (fun j => kgn nu nn 0 (kpf (he, ke, ki, fi, fa, or, mi, a, g, l, w, s) j)) k j v → mm_E 116 4 [some (.ref 100), some (.int v), some (.int (nI j)), lo3] [] (mk_M (cT im le ln ys vt nu nn rf vw vq yc yh yg) (kr (he, ke, ki, fi, fa, or, mi, a, g, l, w, s)) m kk q) (pC (fun r => r = some (.int (A))) (he, ke, ki, fi, fa, or, mi, a, g, l, w, s) im le ln ys vt nu nn rf kk q) := by
  obtain ⟨hV, hst⟩ := id hA
  have hst2 : s ≤ 999 := hst
  obtain ⟨v1, v2, v3, v4, v5, v6, v7, v8, v9, v10, v11, v12, v13, v14, v15, v16⟩ := id hV
  have v6l := kO_len mi v7 or v6
  obtain ⟨c1, c2, c3⟩ := id hC
  induction k with
  | zero =>
    intro j v lo3 vw vq yc yh yg m hj hJ g0
    obtain ⟨j0, j1, j2, j3, j4⟩ := id hJ
    have v60 := kO_lt5 mi v7 or v6 0 (by omega)
    refine me_seg 4 (pc1 := 12) (ls1 := [some (.ref 100), some (.int v), some (.int (nI j)), lo3]) (st1 := [.int (nI mi), .int (nI j)]) (M1 := (mk_M (cT im le ln ys vt nu nn rf vw vq yc yh yg) (kr (he, ke, ki, fi, fa, or, mi, a, g, l, w, s)) m kk q)) (fun f => rfl) ?_
    refine me_t (C := (nI mi) ≤ (nI j)) (nI_let (a := mi) (b := j) (by omega)) (fun f => rfl) ?_
    refine me_ret 2 (r := some (.int v)) (M1 := (mk_M (cT im le ln ys vt nu nn rf vw vq yc yh yg) (kr (he, ke, ki, fi, fa, or, mi, a, g, l, w, s)) m kk q)) (fun f => rfl) ?_
    exact ⟨(by rw [g0]; rfl), _, _, _, _, _, _, rfl, ⟨(by assumption), j1, by assumption, by assumption, by assumption⟩⟩
  | succ k IH =>
    intro j v lo3 vw vq yc yh yg m hj hJ g0
    obtain ⟨j0, j1, j2, j3, j4⟩ := id hJ
    have v60 := kO_lt5 mi v7 or v6 0 (by omega)
    refine me_seg 4 (pc1 := 12) (ls1 := [some (.ref 100), some (.int v), some (.int (nI j)), lo3]) (st1 := [.int (nI mi), .int (nI j)]) (M1 := (mk_M (cT im le ln ys vt nu nn rf vw vq yc yh yg) (kr (he, ke, ki, fi, fa, or, mi, a, g, l, w, s)) m kk q)) (fun f => rfl) ?_
    refine me_f (C := (nI mi) ≤ (nI j)) (nI_lef (a := mi) (b := j) (by omega)) (fun f => rfl) ?_
    refine me_seg 1 (pc1 := 16) (ls1 := [some (.ref 100), some (.int v), some (.int (nI j)), lo3]) (st1 := [.ref 100]) (M1 := (mk_M (cT im le ln ys vt nu nn rf vw vq yc yh yg) (kr (he, ke, ki, fi, fa, or, mi, a, g, l, w, s)) m kk q)) (fun f => rfl) ?_
    refine me_call (y := 75) (y0 := 19) (L := [some (.ref 100)]) (rest := []) (rr := some (.ref 124)) (M1 := (mk_M (cT im le ln ys vt nu nn rf vw vq yc yh yg) (kr (he, ke, ki, fi, fa, or, mi, a, g, l, w, s)) (kr (he, ke, ki, fi, fa, or, mi, a, g, l, w, s)) kk q)) (fun f => rfl) (cc_now (he, ke, ki, fi, fa, or, mi, a, g, l, w, s) (cT im le ln ys vt nu nn rf vw vq yc yh yg) m kk q hV (by assumption)) ?_
    refine me_seg 3 (pc1 := 22) (ls1 := [some (.ref 100), some (.int v), some (.int (nI j)), some (.ref 124)]) (st1 := [.int (nI j), .ref 124]) (M1 := (mk_M (cT im le ln ys vt nu nn rf vw vq yc yh yg) (kr (he, ke, ki, fi, fa, or, mi, a, g, l, w, s)) (kr (he, ke, ki, fi, fa, or, mi, a, g, l, w, s)) kk q)) (fun f => rfl) ?_
    refine me_call (y := 90) (y0 := 25) (L := [some (.ref 124), some (.int (nI j)), none, none]) (rest := []) (rr := none) (M1 := (mk_M (cT im le ln ys vt nu nn rf vw vq yc yh yg) (kr (he, ke, ki, fi, fa, or, mi, a, g, l, w, s)) (kr (kpf (he, ke, ki, fi, fa, or, mi, a, g, l, w, s) j)) kk q)) (fun f => rfl) (kl_m (cT im le ln ys vt nu nn rf vw vq yc yh yg) (kr (he, ke, ki, fi, fa, or, mi, a, g, l, w, s)) kk q (kc_pfQ (he, ke, ki, fi, fa, or, mi, a, g, l, w, s) j (show j < mi by omega) hV)) ?_
    refine me_seg 2 (pc1 := 27) (ls1 := [some (.ref 100), some (.int v), some (.int (nI j)), some (.ref 124)]) (st1 := [.ref 124, .ref 100]) (M1 := (mk_M (cT im le ln ys vt nu nn rf vw vq yc yh yg) (kr (he, ke, ki, fi, fa, or, mi, a, g, l, w, s)) (kr (kpf (he, ke, ki, fi, fa, or, mi, a, g, l, w, s) j)) kk q)) (fun f => rfl) ?_
    refine me_callE (y := 117) (y0 := 30) (L := [some (.ref 100), some (.ref 124), none]) (rest := []) (fun f => rfl) (tc_gn he ke ki fi fa or mi a g l w s im le ln ys vt nu nn rf kk q hA hC vw vq yc yh yg (kpf (he, ke, ki, fi, fa, or, mi, a, g, l, w, s) j) ⟨(kSh_r (kV_pf hV (show j < mi by omega))), j1, by assumption, by assumption, by assumption⟩ (kV_pf hV (show j < mi by omega)) (show s + 100 < 2 ^ 20 by omega)) ?_
    rintro _ _ ⟨rfl, vw_1, vq_1, yc_1, yh_1, yg_1, m_1, rfl, hJ_1⟩
    obtain ⟨j0_1, j1_1, j2_1, j3_1, j4_1⟩ := id hJ_1
    have hgn := kgn_le nu nn 0 (kpf (he, ke, ki, fi, fa, or, mi, a, g, l, w, s) j)
    refine me_ifN (C := (nI (kgn nu nn 0 (kpf (he, ke, ki, fi, fa, or, mi, a, g, l, w, s) j))) = 0) (nI_eqi (a := kgn nu nn 0 (kpf (he, ke, ki, fi, fa, or, mi, a, g, l, w, s) j)) (b := 0) (by omega)) (fun f => rfl) (fun h2 => ?_) (fun h2 => ?_)
    · refine me_seg 1 (pc1 := 42) (ls1 := [some (.ref 100), some (.int v), some (.int ((nI j) + 1)), some (.ref 124)]) (st1 := []) (M1 := (mk_M (cT im le ln ys vt nu nn rf vw_1 vq_1 yc_1 yh_1 yg_1) (kr (he, ke, ki, fi, fa, or, mi, a, g, l, w, s)) m_1 kk q)) (fun f => rfl) ?_
      refine me_l (fun q_ => [some (.ref 100), some (.int v), some (.int q_), some (.ref 124)]) (nI_add j 1) ?_
      refine me_seg 1 (pc1 := 4) (ls1 := [some (.ref 100), some (.int v), some (.int (nI (j + 1))), some (.ref 124)]) (st1 := []) (M1 := (mk_M (cT im le ln ys vt nu nn rf vw_1 vq_1 yc_1 yh_1 yg_1) (kr (he, ke, ki, fi, fa, or, mi, a, g, l, w, s)) m_1 kk q)) (fun f => rfl) ?_
      exact IH (j + 1) v (some (.ref 124)) vw_1 vq_1 yc_1 yh_1 yg_1 m_1 (by omega) ⟨(by assumption), j1, by assumption, by assumption, by assumption⟩ (g0.trans (kwp_0 h2))
    · refine me_seg 7 (pc1 := 42) (ls1 := [some (.ref 100), some (.int (v ||| ((1 : Int32) <<< ((nI j) &&& 31)))), some (.int ((nI j) + 1)), some (.ref 124)]) (st1 := []) (M1 := (mk_M (cT im le ln ys vt nu nn rf vw_1 vq_1 yc_1 yh_1 yg_1) (kr (he, ke, ki, fi, fa, or, mi, a, g, l, w, s)) m_1 kk q)) (fun f => rfl) ?_
      refine me_l (fun q_ => [some (.ref 100), some (.int (v ||| ((1 : Int32) <<< ((nI j) &&& 31)))), some (.int q_), some (.ref 124)]) (nI_add j 1) ?_
      refine me_seg 1 (pc1 := 4) (ls1 := [some (.ref 100), some (.int (v ||| ((1 : Int32) <<< ((nI j) &&& 31)))), some (.int (nI (j + 1))), some (.ref 124)]) (st1 := []) (M1 := (mk_M (cT im le ln ys vt nu nn rf vw_1 vq_1 yc_1 yh_1 yg_1) (kr (he, ke, ki, fi, fa, or, mi, a, g, l, w, s)) m_1 kk q)) (fun f => rfl) ?_
      exact IH (j + 1) (v ||| ((1 : Int32) <<< ((nI j) &&& 31))) (some (.ref 124)) vw_1 vq_1 yc_1 yh_1 yg_1 m_1 (by omega) ⟨(by assumption), j1, by assumption, by assumption, by assumption⟩ (g0.trans (kwp_1 h2))
set_option maxRecDepth 100000 in
theorem tc_w1L (he ke ki fi fa or : List Nat) (mi a g l w s : Nat) (im : Nat) (le : List Nat) (ln : Nat) (ys : List Int32) (vt : Int32) (nu : List Nat) (nn : Nat) (rf : List Nat) (kk : kG) (q : cR) (hA : iA (he, ke, ki, fi, fa, or, mi, a, g, l, w, s)) (hC : iC nu nn) (A : Int32) (k : Nat) : ∀ (j : Nat) (v : Int32) (lo3 : Option Value) (vw vq : Int32) (yc yh yg : List Int32) (m : kG), j + k = 6 → iJ m ys yc yh yg → A = kwp (fun j => kgn nu nn 0 (he, ke, ki.set (kg or 0) j, fi, fa, or, mi, a, g, l, w, s)) k j v → mm_E 118 16 [some (.ref 100), some (.int v), some (.int (nI j)), lo3] [] (mk_M (cT im le ln ys vt nu nn rf vw vq yc yh yg) (kr (he, ke, ki, fi, fa, or, mi, a, g, l, w, s)) m kk q) (pC (fun r => r = some (.int (A))) (he, ke, ki, fi, fa, or, mi, a, g, l, w, s) im le ln ys vt nu nn rf kk q) := by
  obtain ⟨hV, hst⟩ := id hA
  have hst2 : s ≤ 999 := hst
  obtain ⟨v1, v2, v3, v4, v5, v6, v7, v8, v9, v10, v11, v12, v13, v14, v15, v16⟩ := id hV
  have v6l := kO_len mi v7 or v6
  obtain ⟨c1, c2, c3⟩ := id hC
  induction k with
  | zero =>
    intro j v lo3 vw vq yc yh yg m hj hJ g0
    obtain ⟨j0, j1, j2, j3, j4⟩ := id hJ
    have v60 := kO_lt5 mi v7 or v6 0 (by omega)
    refine me_seg 2 (pc1 := 19) (ls1 := [some (.ref 100), some (.int v), some (.int (nI j)), lo3]) (st1 := [.int 6, .int (nI j)]) (M1 := (mk_M (cT im le ln ys vt nu nn rf vw vq yc yh yg) (kr (he, ke, ki, fi, fa, or, mi, a, g, l, w, s)) m kk q)) (fun f => rfl) ?_
    refine me_t (C := 6 ≤ (nI j)) (nI_let (a := 6) (b := j) (by omega)) (fun f => rfl) ?_
    refine me_ret 2 (r := some (.int v)) (M1 := (mk_M (cT im le ln ys vt nu nn rf vw vq yc yh yg) (kr (he, ke, ki, fi, fa, or, mi, a, g, l, w, s)) m kk q)) (fun f => rfl) ?_
    exact ⟨(by rw [g0]; rfl), _, _, _, _, _, _, rfl, ⟨(by assumption), j1, by assumption, by assumption, by assumption⟩⟩
  | succ k IH =>
    intro j v lo3 vw vq yc yh yg m hj hJ g0
    obtain ⟨j0, j1, j2, j3, j4⟩ := id hJ
    have v60 := kO_lt5 mi v7 or v6 0 (by omega)
    refine me_seg 2 (pc1 := 19) (ls1 := [some (.ref 100), some (.int v), some (.int (nI j)), lo3]) (st1 := [.int 6, .int (nI j)]) (M1 := (mk_M (cT im le ln ys vt nu nn rf vw vq yc yh yg) (kr (he, ke, ki, fi, fa, or, mi, a, g, l, w, s)) m kk q)) (fun f => rfl) ?_
    refine me_f (C := 6 ≤ (nI j)) (nI_lef (a := 6) (b := j) (by omega)) (fun f => rfl) ?_
    refine me_seg 1 (pc1 := 23) (ls1 := [some (.ref 100), some (.int v), some (.int (nI j)), lo3]) (st1 := [.ref 100]) (M1 := (mk_M (cT im le ln ys vt nu nn rf vw vq yc yh yg) (kr (he, ke, ki, fi, fa, or, mi, a, g, l, w, s)) m kk q)) (fun f => rfl) ?_
    refine me_call (y := 75) (y0 := 26) (L := [some (.ref 100)]) (rest := []) (rr := some (.ref 124)) (M1 := (mk_M (cT im le ln ys vt nu nn rf vw vq yc yh yg) (kr (he, ke, ki, fi, fa, or, mi, a, g, l, w, s)) (kr (he, ke, ki, fi, fa, or, mi, a, g, l, w, s)) kk q)) (fun f => rfl) (cc_now (he, ke, ki, fi, fa, or, mi, a, g, l, w, s) (cT im le ln ys vt nu nn rf vw vq yc yh yg) m kk q hV (by assumption)) ?_
    refine me_seg 6 (pc1 := 36) (ls1 := [some (.ref 100), some (.int v), some (.int (nI j)), some (.ref 124)]) (st1 := [.int 0, .ref 130, .ref 127]) (M1 := (mk_M (cT im le ln ys vt nu nn rf vw vq yc yh yg) (kr (he, ke, ki, fi, fa, or, mi, a, g, l, w, s)) (kr (he, ke, ki, fi, fa, or, mi, a, g, l, w, s)) kk q)) (fun f => rfl) ?_
    refine me_ldn (xs := (or.map nI)) rfl rfl (k := 0) (by omega) (kg_ok (by omega)) ?_
    refine me_seg 1 (pc1 := 38) (ls1 := [some (.ref 100), some (.int v), some (.int (nI j)), some (.ref 124)]) (st1 := [.int (nI j), .int (nI (kg or 0)), .ref 127]) (M1 := (mk_M (cT im le ln ys vt nu nn rf vw vq yc yh yg) (kr (he, ke, ki, fi, fa, or, mi, a, g, l, w, s)) (kr (he, ke, ki, fi, fa, or, mi, a, g, l, w, s)) kk q)) (fun f => rfl) ?_
    refine me_stn (xs := (ki.map nI)) (ys := ((ki.set (kg or 0) j).map nI)) (M2 := (mk_M (cT im le ln ys vt nu nn rf vw vq yc yh yg) (kr (he, ke, ki, fi, fa, or, mi, a, g, l, w, s)) (kr (he, ke, ki.set (kg or 0) j, fi, fa, or, mi, a, g, l, w, s)) kk q)) rfl rfl (k := kg or 0) (by omega) (by simp only [List.length_map, List.length_set]; omega) ks_ok rfl ?_
    refine me_seg 2 (pc1 := 41) (ls1 := [some (.ref 100), some (.int v), some (.int (nI j)), some (.ref 124)]) (st1 := [.ref 124, .ref 100]) (M1 := (mk_M (cT im le ln ys vt nu nn rf vw vq yc yh yg) (kr (he, ke, ki, fi, fa, or, mi, a, g, l, w, s)) (kr (he, ke, ki.set (kg or 0) j, fi, fa, or, mi, a, g, l, w, s)) kk q)) (fun f => rfl) ?_
    refine me_callE (y := 117) (y0 := 44) (L := [some (.ref 100), some (.ref 124), none]) (rest := []) (fun f => rfl) (tc_gn he ke ki fi fa or mi a g l w s im le ln ys vt nu nn rf kk q hA hC vw vq yc yh yg (he, ke, ki.set (kg or 0) j, fi, fa, or, mi, a, g, l, w, s) ⟨(kSh_r ⟨v1, v2, by rw [List.length_set]; exact v3, v4, v5, v6, v7, v8, v9, v10, v11, v12, v13, fun i => by rw [kg_setc]; split; omega; exact v14 i, v15, v16⟩), j1, by assumption, by assumption, by assumption⟩ ⟨v1, v2, by rw [List.length_set]; exact v3, v4, v5, v6, v7, v8, v9, v10, v11, v12, v13, fun i => by rw [kg_setc]; split; omega; exact v14 i, v15, v16⟩ (show s + 100 < 2 ^ 20 by omega)) ?_
    rintro _ _ ⟨rfl, vw_1, vq_1, yc_1, yh_1, yg_1, m_1, rfl, hJ_1⟩
    obtain ⟨j0_1, j1_1, j2_1, j3_1, j4_1⟩ := id hJ_1
    have hgn := kgn_le nu nn 0 (he, ke, ki.set (kg or 0) j, fi, fa, or, mi, a, g, l, w, s)
    refine me_ifN (C := (nI (kgn nu nn 0 (he, ke, ki.set (kg or 0) j, fi, fa, or, mi, a, g, l, w, s))) = 0) (nI_eqi (a := kgn nu nn 0 (he, ke, ki.set (kg or 0) j, fi, fa, or, mi, a, g, l, w, s)) (b := 0) (by omega)) (fun f => rfl) (fun h2 => ?_) (fun h2 => ?_)
    · refine me_seg 1 (pc1 := 56) (ls1 := [some (.ref 100), some (.int v), some (.int ((nI j) + 1)), some (.ref 124)]) (st1 := []) (M1 := (mk_M (cT im le ln ys vt nu nn rf vw_1 vq_1 yc_1 yh_1 yg_1) (kr (he, ke, ki, fi, fa, or, mi, a, g, l, w, s)) m_1 kk q)) (fun f => rfl) ?_
      refine me_l (fun q_ => [some (.ref 100), some (.int v), some (.int q_), some (.ref 124)]) (nI_add j 1) ?_
      refine me_seg 1 (pc1 := 16) (ls1 := [some (.ref 100), some (.int v), some (.int (nI (j + 1))), some (.ref 124)]) (st1 := []) (M1 := (mk_M (cT im le ln ys vt nu nn rf vw_1 vq_1 yc_1 yh_1 yg_1) (kr (he, ke, ki, fi, fa, or, mi, a, g, l, w, s)) m_1 kk q)) (fun f => rfl) ?_
      exact IH (j + 1) v (some (.ref 124)) vw_1 vq_1 yc_1 yh_1 yg_1 m_1 (by omega) ⟨(by assumption), j1, by assumption, by assumption, by assumption⟩ (g0.trans (kwp_0 h2))
    · refine me_seg 7 (pc1 := 56) (ls1 := [some (.ref 100), some (.int (v ||| ((1 : Int32) <<< ((nI j) &&& 31)))), some (.int ((nI j) + 1)), some (.ref 124)]) (st1 := []) (M1 := (mk_M (cT im le ln ys vt nu nn rf vw_1 vq_1 yc_1 yh_1 yg_1) (kr (he, ke, ki, fi, fa, or, mi, a, g, l, w, s)) m_1 kk q)) (fun f => rfl) ?_
      refine me_l (fun q_ => [some (.ref 100), some (.int (v ||| ((1 : Int32) <<< ((nI j) &&& 31)))), some (.int q_), some (.ref 124)]) (nI_add j 1) ?_
      refine me_seg 1 (pc1 := 16) (ls1 := [some (.ref 100), some (.int (v ||| ((1 : Int32) <<< ((nI j) &&& 31)))), some (.int (nI (j + 1))), some (.ref 124)]) (st1 := []) (M1 := (mk_M (cT im le ln ys vt nu nn rf vw_1 vq_1 yc_1 yh_1 yg_1) (kr (he, ke, ki, fi, fa, or, mi, a, g, l, w, s)) m_1 kk q)) (fun f => rfl) ?_
      exact IH (j + 1) (v ||| ((1 : Int32) <<< ((nI j) &&& 31))) (some (.ref 124)) vw_1 vq_1 yc_1 yh_1 yg_1 m_1 (by omega) ⟨(by assumption), j1, by assumption, by assumption, by assumption⟩ (g0.trans (kwp_1 h2))
set_option maxRecDepth 100000 in
theorem tc_w0 (he ke ki fi fa or : List Nat) (mi a g l w s : Nat) (im : Nat) (le : List Nat) (ln : Nat) (ys : List Int32) (vt : Int32) (nu : List Nat) (nn : Nat) (rf : List Nat) (kk : kG) (q : cR) (hA : iA (he, ke, ki, fi, fa, or, mi, a, g, l, w, s)) (hC : iC nu nn) (vw vq : Int32) (yc yh yg : List Int32) (m : kG) (hJ : iJ m ys yc yh yg) : mm_E 116 0 [some (.ref 100), none, none, none] [] (mk_M (cT im le ln ys vt nu nn rf vw vq yc yh yg) (kr (he, ke, ki, fi, fa, or, mi, a, g, l, w, s)) m kk q) (pC (fun r => r = some (.int (kwp (fun j => kgn nu nn 0 (kpf (he, ke, ki, fi, fa, or, mi, a, g, l, w, s) j)) mi 0 0))) (he, ke, ki, fi, fa, or, mi, a, g, l, w, s) im le ln ys vt nu nn rf kk q) := by
  obtain ⟨hV, hst⟩ := id hA
  have hst2 : s ≤ 999 := hst
  obtain ⟨v1, v2, v3, v4, v5, v6, v7, v8, v9, v10, v11, v12, v13, v14, v15, v16⟩ := id hV
  have v6l := kO_len mi v7 or v6
  obtain ⟨c1, c2, c3⟩ := id hC
  obtain ⟨j0, j1, j2, j3, j4⟩ := id hJ
  refine me_seg 4 (pc1 := 4) (ls1 := [some (.ref 100), some (.int 0), some (.int 0), none]) (st1 := []) (M1 := (mk_M (cT im le ln ys vt nu nn rf vw vq yc yh yg) (kr (he, ke, ki, fi, fa, or, mi, a, g, l, w, s)) m kk q)) (fun f => rfl) ?_
  exact tc_w0L he ke ki fi fa or mi a g l w s im le ln ys vt nu nn rf kk q hA hC _ mi 0 0 none vw vq yc yh yg m (by omega) ⟨(by assumption), j1, by assumption, by assumption, by assumption⟩ rfl
set_option maxRecDepth 100000 in
theorem tc_w1 (he ke ki fi fa or : List Nat) (mi a g l w s : Nat) (im : Nat) (le : List Nat) (ln : Nat) (ys : List Int32) (vt : Int32) (nu : List Nat) (nn : Nat) (rf : List Nat) (kk : kG) (q : cR) (hA : iA (he, ke, ki, fi, fa, or, mi, a, g, l, w, s)) (hC : iC nu nn) (vw vq : Int32) (yc yh yg : List Int32) (m : kG) (hJ : iJ m ys yc yh yg) : mm_E 118 0 [some (.ref 100), none, none, none] [] (mk_M (cT im le ln ys vt nu nn rf vw vq yc yh yg) (kr (he, ke, ki, fi, fa, or, mi, a, g, l, w, s)) m kk q) (pC (fun r => r = some (.int ((if mi = 0 then (0 : Int32) else kwp (fun j => kgn nu nn 0 (he, ke, ki.set (kg or 0) j, fi, fa, or, mi, a, g, l, w, s)) 6 0 0)))) (he, ke, ki, fi, fa, or, mi, a, g, l, w, s) im le ln ys vt nu nn rf kk q) := by
  obtain ⟨hV, hst⟩ := id hA
  have hst2 : s ≤ 999 := hst
  obtain ⟨v1, v2, v3, v4, v5, v6, v7, v8, v9, v10, v11, v12, v13, v14, v15, v16⟩ := id hV
  have v6l := kO_len mi v7 or v6
  obtain ⟨c1, c2, c3⟩ := id hC
  obtain ⟨j0, j1, j2, j3, j4⟩ := id hJ
  refine me_seg 3 (pc1 := 7) (ls1 := [some (.ref 100), none, none, none]) (st1 := [.int (nI mi)]) (M1 := (mk_M (cT im le ln ys vt nu nn rf vw vq yc yh yg) (kr (he, ke, ki, fi, fa, or, mi, a, g, l, w, s)) m kk q)) (fun f => rfl) ?_
  refine me_ifN (C := (nI mi) = 0) (nI_eqi (a := mi) (b := 0) (by omega)) (fun f => rfl) (fun h1 => ?_) (fun h1 => ?_)
  · refine me_ret 2 (r := some (.int 0)) (M1 := (mk_M (cT im le ln ys vt nu nn rf vw vq yc yh yg) (kr (he, ke, ki, fi, fa, or, mi, a, g, l, w, s)) m kk q)) (fun f => rfl) ?_
    exact ⟨(by rw [if_pos h1]), _, _, _, _, _, _, rfl, ⟨(by assumption), j1, by assumption, by assumption, by assumption⟩⟩
  · refine me_seg 4 (pc1 := 16) (ls1 := [some (.ref 100), some (.int 0), some (.int 0), none]) (st1 := []) (M1 := (mk_M (cT im le ln ys vt nu nn rf vw vq yc yh yg) (kr (he, ke, ki, fi, fa, or, mi, a, g, l, w, s)) m kk q)) (fun f => rfl) ?_
    exact tc_w1L he ke ki fi fa or mi a g l w s im le ln ys vt nu nn rf kk q hA hC _ 6 0 0 none vw vq yc yh yg m (by omega) ⟨(by assumption), j1, by assumption, by assumption, by assumption⟩ (if_neg h1)
set_option maxRecDepth 100000 in
theorem tc_whoPushed_0 (he ke ki fi fa or : List Nat) (mi a g l w s : Nat) (im : Nat) (le : List Nat) (ln : Nat) (ys : List Int32) (vt : Int32) (nu : List Nat) (nn : Nat) (rf : List Nat) (kk : kG) (q : cR) (hA : iA (he, ke, ki, fi, fa, or, mi, a, g, l, w, s)) (hC : iC nu nn) (vw vq : Int32) (yc yh yg : List Int32) (m : kG) (hJ : iJ m ys yc yh yg) : mm_E 115 0 [some (.ref 100), some (.int 0)] [] (mk_M (cT im le ln ys vt nu nn rf vw vq yc yh yg) (kr (he, ke, ki, fi, fa, or, mi, a, g, l, w, s)) m kk q) (pC (fun r => r = some (.int (kwp (fun j => kgn nu nn 0 (kpf (he, ke, ki, fi, fa, or, mi, a, g, l, w, s) j)) mi 0 0))) (he, ke, ki, fi, fa, or, mi, a, g, l, w, s) im le ln ys vt nu nn rf kk q) := by
  obtain ⟨hV, hst⟩ := id hA
  have hst2 : s ≤ 999 := hst
  obtain ⟨v1, v2, v3, v4, v5, v6, v7, v8, v9, v10, v11, v12, v13, v14, v15, v16⟩ := id hV
  have v6l := kO_len mi v7 or v6
  obtain ⟨c1, c2, c3⟩ := id hC
  obtain ⟨j0, j1, j2, j3, j4⟩ := id hJ
  refine me_seg 8 (pc1 := 21) (ls1 := [some (.ref 100), some (.int 0)]) (st1 := [.ref 100]) (M1 := (mk_M (cT im le ln ys vt nu nn rf vw vq yc yh yg) (kr (he, ke, ki, fi, fa, or, mi, a, g, l, w, s)) m kk q)) (fun f => rfl) ?_
  refine me_callE (y := 116) (y0 := 24) (L := [some (.ref 100), none, none, none]) (rest := []) (fun f => rfl) (tc_w0 he ke ki fi fa or mi a g l w s im le ln ys vt nu nn rf kk q hA hC vw vq yc yh yg m ⟨(by assumption), j1, by assumption, by assumption, by assumption⟩) ?_
  rintro _ _ ⟨rfl, vw_1, vq_1, yc_1, yh_1, yg_1, m_1, rfl, hJ_1⟩
  obtain ⟨j0_1, j1_1, j2_1, j3_1, j4_1⟩ := id hJ_1
  refine me_ret 2 (r := some (.int (kwp (fun j => kgn nu nn 0 (kpf (he, ke, ki, fi, fa, or, mi, a, g, l, w, s) j)) mi 0 0))) (M1 := (mk_M (cT im le ln ys vt nu nn rf vw_1 vq_1 yc_1 yh_1 yg_1) (kr (he, ke, ki, fi, fa, or, mi, a, g, l, w, s)) m_1 kk q)) (fun f => rfl) ?_
  exact ⟨rfl, _, _, _, _, _, _, rfl, ⟨(by assumption), j1, by assumption, by assumption, by assumption⟩⟩
set_option maxRecDepth 100000 in
theorem tc_whoPushed_1 (he ke ki fi fa or : List Nat) (mi a g l w s : Nat) (im : Nat) (le : List Nat) (ln : Nat) (ys : List Int32) (vt : Int32) (nu : List Nat) (nn : Nat) (rf : List Nat) (kk : kG) (q : cR) (hA : iA (he, ke, ki, fi, fa, or, mi, a, g, l, w, s)) (hC : iC nu nn) (vw vq : Int32) (yc yh yg : List Int32) (m : kG) (hJ : iJ m ys yc yh yg) : mm_E 115 0 [some (.ref 100), some (.int 1)] [] (mk_M (cT im le ln ys vt nu nn rf vw vq yc yh yg) (kr (he, ke, ki, fi, fa, or, mi, a, g, l, w, s)) m kk q) (pC (fun r => r = some (.int ((if mi = 0 then (0 : Int32) else kwp (fun j => kgn nu nn 0 (he, ke, ki.set (kg or 0) j, fi, fa, or, mi, a, g, l, w, s)) 6 0 0)))) (he, ke, ki, fi, fa, or, mi, a, g, l, w, s) im le ln ys vt nu nn rf kk q) := by
  obtain ⟨hV, hst⟩ := id hA
  have hst2 : s ≤ 999 := hst
  obtain ⟨v1, v2, v3, v4, v5, v6, v7, v8, v9, v10, v11, v12, v13, v14, v15, v16⟩ := id hV
  have v6l := kO_len mi v7 or v6
  obtain ⟨c1, c2, c3⟩ := id hC
  obtain ⟨j0, j1, j2, j3, j4⟩ := id hJ
  refine me_seg 8 (pc1 := 28) (ls1 := [some (.ref 100), some (.int 1)]) (st1 := [.ref 100]) (M1 := (mk_M (cT im le ln ys vt nu nn rf vw vq yc yh yg) (kr (he, ke, ki, fi, fa, or, mi, a, g, l, w, s)) m kk q)) (fun f => rfl) ?_
  refine me_callE (y := 118) (y0 := 31) (L := [some (.ref 100), none, none, none]) (rest := []) (fun f => rfl) (tc_w1 he ke ki fi fa or mi a g l w s im le ln ys vt nu nn rf kk q hA hC vw vq yc yh yg m ⟨(by assumption), j1, by assumption, by assumption, by assumption⟩) ?_
  rintro _ _ ⟨rfl, vw_1, vq_1, yc_1, yh_1, yg_1, m_1, rfl, hJ_1⟩
  obtain ⟨j0_1, j1_1, j2_1, j3_1, j4_1⟩ := id hJ_1
  refine me_ret 1 (r := some (.int (if mi = 0 then (0 : Int32) else kwp (fun j => kgn nu nn 0 (he, ke, ki.set (kg or 0) j, fi, fa, or, mi, a, g, l, w, s)) 6 0 0))) (M1 := (mk_M (cT im le ln ys vt nu nn rf vw_1 vq_1 yc_1 yh_1 yg_1) (kr (he, ke, ki, fi, fa, or, mi, a, g, l, w, s)) m_1 kk q)) (fun f => rfl) ?_
  exact ⟨rfl, _, _, _, _, _, _, rfl, ⟨(by assumption), j1, by assumption, by assumption, by assumption⟩⟩
set_option maxRecDepth 100000 in
theorem tm_w0L (he ke ki fi fa or : List Nat) (mi a g l w s : Nat) (xi : List Int32) (im : Nat) (le nu rf : List Nat) (ln nn : Nat) (c : cC) (n m kk : kG) (hA : iA (he, ke, ki, fi, fa, or, mi, a, g, l, w, s)) (hC : iC nu nn) (A : Int32) (k : Nat) : ∀ (j : Nat) (v : Int32) (xm xw : List Int32) (vp : Int32) (xn xc : List Int32) (vs : Int32), j + k = mi → iR xm xw xn xc → A = kwp (fun j => kgn nu nn 0 (kpf (he, ke, ki, fi, fa, or, mi, a, g, l, w, s) j)) k j v → mm_E 202 20 [some (.ref 138), some (.int 0), some (.int v), some (.int (nI j))] [] (mk_M c n m kk (rT (he, ke, ki, fi, fa, or, mi, a, g, l, w, s) xm xi xw im le nu rf ln nn vp xn xc vs)) (pM (fun r => r = some (.int (A))) (he, ke, ki, fi, fa, or, mi, a, g, l, w, s) xi im le nu rf ln nn c n m kk) := by
  obtain ⟨hV, hst⟩ := id hA
  have hst2 : s ≤ 999 := hst
  obtain ⟨v1, v2, v3, v4, v5, v6, v7, v8, v9, v10, v11, v12, v13, v14, v15, v16⟩ := id hV
  have v6l := kO_len mi v7 or v6
  obtain ⟨c1, c2, c3⟩ := id hC
  induction k with
  | zero =>
    intro j v xm xw vp xn xc vs hj hR g0
    obtain ⟨r1, r2, r3, r4⟩ := id hR
    refine me_seg 6 (pc1 := 30) (ls1 := [some (.ref 138), some (.int 0), some (.int v), some (.int (nI j))]) (st1 := [.int 0, .ref 139, .int (nI j)]) (M1 := (mk_M c n m kk (rT (he, ke, ki, fi, fa, or, mi, a, g, l, w, s) xm xi xw im le nu rf ln nn vp xn xc vs))) (fun f => rfl) ?_
    refine me_ldn (xs := (er (he, ke, ki, fi, fa, or, mi, a, g, l, w, s))) rfl rfl (k := 0) (by decide) rfl ?_
    refine me_seg 1 (pc1 := 49) (ls1 := [some (.ref 138), some (.int 0), some (.int v), some (.int (nI j))]) (st1 := [.int (nI mi), .int (nI j)]) (M1 := (mk_M c n m kk (rT (he, ke, ki, fi, fa, or, mi, a, g, l, w, s) xm xi xw im le nu rf ln nn vp xn xc vs))) (fun f => rfl) ?_
    refine me_t (C := (nI mi) ≤ (nI j)) (nI_let (a := mi) (b := j) (by omega)) (fun f => rfl) ?_
    refine me_ret 2 (r := some (.int v)) (M1 := (mk_M c n m kk (rT (he, ke, ki, fi, fa, or, mi, a, g, l, w, s) xm xi xw im le nu rf ln nn vp xn xc vs))) (fun f => rfl) ?_
    exact ⟨(by rw [g0]; rfl), _, _, _, _, _, _, rfl, ⟨(by assumption), (by assumption), (by assumption), (by assumption)⟩⟩
  | succ k IH =>
    intro j v xm xw vp xn xc vs hj hR g0
    obtain ⟨r1, r2, r3, r4⟩ := id hR
    refine me_seg 6 (pc1 := 30) (ls1 := [some (.ref 138), some (.int 0), some (.int v), some (.int (nI j))]) (st1 := [.int 0, .ref 139, .int (nI j)]) (M1 := (mk_M c n m kk (rT (he, ke, ki, fi, fa, or, mi, a, g, l, w, s) xm xi xw im le nu rf ln nn vp xn xc vs))) (fun f => rfl) ?_
    refine me_ldn (xs := (er (he, ke, ki, fi, fa, or, mi, a, g, l, w, s))) rfl rfl (k := 0) (by decide) rfl ?_
    refine me_seg 1 (pc1 := 49) (ls1 := [some (.ref 138), some (.int 0), some (.int v), some (.int (nI j))]) (st1 := [.int (nI mi), .int (nI j)]) (M1 := (mk_M c n m kk (rT (he, ke, ki, fi, fa, or, mi, a, g, l, w, s) xm xi xw im le nu rf ln nn vp xn xc vs))) (fun f => rfl) ?_
    refine me_f (C := (nI mi) ≤ (nI j)) (nI_lef (a := mi) (b := j) (by omega)) (fun f => rfl) ?_
    refine me_seg 4 (pc1 := 60) (ls1 := [some (.ref 138), some (.int 0), some (.int v), some (.int (nI j))]) (st1 := [.ref 140, .ref 139]) (M1 := (mk_M c n m kk (rT (he, ke, ki, fi, fa, or, mi, a, g, l, w, s) xm xi xw im le nu rf ln nn vp xn xc vs))) (fun f => rfl) ?_
    refine me_call (y := 138) (y0 := 63) (L := [some (.ref 139), some (.ref 140), none]) (rest := []) (rr := none) (M1 := (mk_M c n m kk (rT (he, ke, ki, fi, fa, or, mi, a, g, l, w, s) (er (he, ke, ki, fi, fa, or, mi, a, g, l, w, s)) xi xw im le nu rf ln nn vp xn xc vs))) (fun f => rfl) (rc_copies (a := 140) (b := 139) (by decide) rfl rfl (er_len hV) (by assumption)) ?_
    refine me_seg 5 (pc1 := 72) (ls1 := [some (.ref 138), some (.int 0), some (.int v), some (.int (nI j))]) (st1 := [.int (nI j), .ref 140]) (M1 := (mk_M c n m kk (rT (he, ke, ki, fi, fa, or, mi, a, g, l, w, s) (er (he, ke, ki, fi, fa, or, mi, a, g, l, w, s)) xi xw im le nu rf ln nn vp xn xc vs))) (fun f => rfl) ?_
    refine me_call (y := 183) (y0 := 75) (L := [some (.ref 140), some (.int (nI j)), none]) (rest := []) (rr := none) (M1 := (mk_M c n m kk (rT (he, ke, ki, fi, fa, or, mi, a, g, l, w, s) (er (kpf (he, ke, ki, fi, fa, or, mi, a, g, l, w, s) j)) xi xw im le nu rf ln nn vp xn xc vs))) (fun f => rfl) (rl_m c n m kk (rT (he, ke, ki, fi, fa, or, mi, a, g, l, w, s) (er (he, ke, ki, fi, fa, or, mi, a, g, l, w, s)) xi xw im le nu rf ln nn vp xn xc vs) (rc_pfQ (he, ke, ki, fi, fa, or, mi, a, g, l, w, s) j (show j < mi by omega) hV) rfl) ?_
    refine me_seg 3 (pc1 := 97) (ls1 := [some (.ref 138), some (.int 0), some (.int v), some (.int (nI j))]) (st1 := [.ref 138, .int v]) (M1 := (mk_M c n m kk (rT (he, ke, ki, fi, fa, or, mi, a, g, l, w, s) (er (kpf (he, ke, ki, fi, fa, or, mi, a, g, l, w, s) j)) xi xw im le nu rf ln nn vp xn xc vs))) (fun f => rfl) ?_
    refine me_callE (y := 203) (y0 := 100) (L := [some (.ref 138), none, none]) (rest := [.int v]) (fun f => rfl) (tm_ps he ke ki fi fa or mi a g l w s xi im le nu rf ln nn c n m kk hA hC (kpf (he, ke, ki, fi, fa, or, mi, a, g, l, w, s) j) xw vp xn xc vs ⟨(er_len (kV_pf hV (show j < mi by omega))), (by assumption), (by assumption), (by assumption)⟩ (kV_pf hV (show j < mi by omega)) (show s + 100 < 2 ^ 20 by omega)) ?_
    rintro _ _ ⟨rfl, xm_1, xw_1, vp_1, xn_1, xc_1, vs_1, rfl, hR_1⟩
    obtain ⟨r1_1, r2_1, r3_1, r4_1⟩ := id hR_1
    have hgn := kgn_le nu nn 0 (kpf (he, ke, ki, fi, fa, or, mi, a, g, l, w, s) j)
    refine me_ifN (C := (nI (kgn nu nn 0 (kpf (he, ke, ki, fi, fa, or, mi, a, g, l, w, s) j))) = 0) (nI_eqi (a := kgn nu nn 0 (kpf (he, ke, ki, fi, fa, or, mi, a, g, l, w, s) j)) (b := 0) (by omega)) (fun f => rfl) (fun h2 => ?_) (fun h2 => ?_)
    · refine me_seg 4 (pc1 := 115) (ls1 := [some (.ref 138), some (.int 0), some (.int (v ||| (0 : Int32))), some (.int ((nI j) + 1))]) (st1 := []) (M1 := (mk_M c n m kk (rT (he, ke, ki, fi, fa, or, mi, a, g, l, w, s) xm_1 xi xw_1 im le nu rf ln nn vp_1 xn_1 xc_1 vs_1))) (fun f => rfl) ?_
      refine me_l (fun q_ => [some (.ref 138), some (.int 0), some (.int (v ||| (0 : Int32))), some (.int q_)]) (nI_add j 1) ?_
      refine me_seg 1 (pc1 := 20) (ls1 := [some (.ref 138), some (.int 0), some (.int (v ||| (0 : Int32))), some (.int (nI (j + 1)))]) (st1 := []) (M1 := (mk_M c n m kk (rT (he, ke, ki, fi, fa, or, mi, a, g, l, w, s) xm_1 xi xw_1 im le nu rf ln nn vp_1 xn_1 xc_1 vs_1))) (fun f => rfl) ?_
      exact IH (j + 1) (v ||| (0 : Int32)) xm_1 xw_1 vp_1 xn_1 xc_1 vs_1 (by omega) ⟨(by assumption), (by assumption), (by assumption), (by assumption)⟩ (g0.trans ((kwp_0 h2).trans (by rw [kor0])))
    · refine me_seg 7 (pc1 := 115) (ls1 := [some (.ref 138), some (.int 0), some (.int (v ||| ((1 : Int32) <<< ((nI j) &&& 31)))), some (.int ((nI j) + 1))]) (st1 := []) (M1 := (mk_M c n m kk (rT (he, ke, ki, fi, fa, or, mi, a, g, l, w, s) xm_1 xi xw_1 im le nu rf ln nn vp_1 xn_1 xc_1 vs_1))) (fun f => rfl) ?_
      refine me_l (fun q_ => [some (.ref 138), some (.int 0), some (.int (v ||| ((1 : Int32) <<< ((nI j) &&& 31)))), some (.int q_)]) (nI_add j 1) ?_
      refine me_seg 1 (pc1 := 20) (ls1 := [some (.ref 138), some (.int 0), some (.int (v ||| ((1 : Int32) <<< ((nI j) &&& 31)))), some (.int (nI (j + 1)))]) (st1 := []) (M1 := (mk_M c n m kk (rT (he, ke, ki, fi, fa, or, mi, a, g, l, w, s) xm_1 xi xw_1 im le nu rf ln nn vp_1 xn_1 xc_1 vs_1))) (fun f => rfl) ?_
      exact IH (j + 1) (v ||| ((1 : Int32) <<< ((nI j) &&& 31))) xm_1 xw_1 vp_1 xn_1 xc_1 vs_1 (by omega) ⟨(by assumption), (by assumption), (by assumption), (by assumption)⟩ (g0.trans (kwp_1 h2))
set_option maxRecDepth 100000 in
theorem tm_whoPushed_0 (he ke ki fi fa or : List Nat) (mi a g l w s : Nat) (xi : List Int32) (im : Nat) (le nu rf : List Nat) (ln nn : Nat) (c : cC) (n m kk : kG) (hA : iA (he, ke, ki, fi, fa, or, mi, a, g, l, w, s)) (hC : iC nu nn) (xm xw : List Int32) (vp : Int32) (xn xc : List Int32) (vs : Int32) (hR : iR xm xw xn xc) : mm_E 202 0 [some (.ref 138), some (.int 0), none, none] [] (mk_M c n m kk (rT (he, ke, ki, fi, fa, or, mi, a, g, l, w, s) xm xi xw im le nu rf ln nn vp xn xc vs)) (pM (fun r => r = some (.int (kwp (fun j => kgn nu nn 0 (kpf (he, ke, ki, fi, fa, or, mi, a, g, l, w, s) j)) mi 0 0))) (he, ke, ki, fi, fa, or, mi, a, g, l, w, s) xi im le nu rf ln nn c n m kk) := by
  obtain ⟨hV, hst⟩ := id hA
  have hst2 : s ≤ 999 := hst
  obtain ⟨v1, v2, v3, v4, v5, v6, v7, v8, v9, v10, v11, v12, v13, v14, v15, v16⟩ := id hV
  have v6l := kO_len mi v7 or v6
  obtain ⟨c1, c2, c3⟩ := id hC
  obtain ⟨r1, r2, r3, r4⟩ := id hR
  refine me_seg 3 (pc1 := 3) (ls1 := [some (.ref 138), some (.int 0), none, none]) (st1 := [.int 1, .int 0, .int 0]) (M1 := (mk_M c n m kk (rT (he, ke, ki, fi, fa, or, mi, a, g, l, w, s) xm xi xw im le nu rf ln nn vp xn xc vs))) (fun f => rfl) ?_
  refine me_call (y := 135) (y0 := 6) (L := [some (.int 0), some (.int 0), some (.int 1)]) (rest := []) (rr := some (.int 1)) (M1 := (mk_M c n m kk (rT (he, ke, ki, fi, fa, or, mi, a, g, l, w, s) xm xi xw im le nu rf ln nn vp xn xc vs))) (fun f => rfl) (by
      exact mr_ret 9 (fun f => rfl)) ?_
  refine me_seg 5 (pc1 := 20) (ls1 := [some (.ref 138), some (.int 0), some (.int 0), some (.int 0)]) (st1 := []) (M1 := (mk_M c n m kk (rT (he, ke, ki, fi, fa, or, mi, a, g, l, w, s) xm xi xw im le nu rf ln nn vp xn xc vs))) (fun f => rfl) ?_
  exact tm_w0L he ke ki fi fa or mi a g l w s xi im le nu rf ln nn c n m kk hA hC _ mi 0 0 xm xw vp xn xc vs (by omega) ⟨(by assumption), (by assumption), (by assumption), (by assumption)⟩ rfl
set_option maxRecDepth 100000 in
theorem tm_w1L (he ke ki fi fa or : List Nat) (mi a g l w s : Nat) (xi : List Int32) (im : Nat) (le nu rf : List Nat) (ln nn : Nat) (c : cC) (n m kk : kG) (hA : iA (he, ke, ki, fi, fa, or, mi, a, g, l, w, s)) (hC : iC nu nn) (hm : 0 < mi) (A : Int32) (k : Nat) : ∀ (j : Nat) (v : Int32) (xm xw : List Int32) (vp : Int32) (xn xc : List Int32) (vs : Int32), j + k = 6 → iR xm xw xn xc → A = kwp (fun j => kgn nu nn 0 (he, ke, ki.set (kg or 0) j, fi, fa, or, mi, a, g, l, w, s)) k j v → mm_E 202 20 [some (.ref 138), some (.int 1), some (.int v), some (.int (nI j))] [] (mk_M c n m kk (rT (he, ke, ki, fi, fa, or, mi, a, g, l, w, s) xm xi xw im le nu rf ln nn vp xn xc vs)) (pM (fun r => r = some (.int (A))) (he, ke, ki, fi, fa, or, mi, a, g, l, w, s) xi im le nu rf ln nn c n m kk) := by
  obtain ⟨hV, hst⟩ := id hA
  have hst2 : s ≤ 999 := hst
  obtain ⟨v1, v2, v3, v4, v5, v6, v7, v8, v9, v10, v11, v12, v13, v14, v15, v16⟩ := id hV
  have v6l := kO_len mi v7 or v6
  obtain ⟨c1, c2, c3⟩ := id hC
  induction k with
  | zero =>
    intro j v xm xw vp xn xc vs hj hR g0
    obtain ⟨r1, r2, r3, r4⟩ := id hR
    have v60 := kO_lt5 mi v7 or v6 0 (by omega)
    refine me_seg 6 (pc1 := 39) (ls1 := [some (.ref 138), some (.int 1), some (.int v), some (.int (nI j))]) (st1 := [.int 0, .ref 139, .int (nI j)]) (M1 := (mk_M c n m kk (rT (he, ke, ki, fi, fa, or, mi, a, g, l, w, s) xm xi xw im le nu rf ln nn vp xn xc vs))) (fun f => rfl) ?_
    refine me_ldn (xs := (er (he, ke, ki, fi, fa, or, mi, a, g, l, w, s))) rfl rfl (k := 0) (by decide) rfl ?_
    refine me_f (C := (nI mi) = 0) (nI_eqf (a := mi) (b := 0) (by omega)) (fun f => rfl) ?_
    refine me_seg 1 (pc1 := 49) (ls1 := [some (.ref 138), some (.int 1), some (.int v), some (.int (nI j))]) (st1 := [.int 6, .int (nI j)]) (M1 := (mk_M c n m kk (rT (he, ke, ki, fi, fa, or, mi, a, g, l, w, s) xm xi xw im le nu rf ln nn vp xn xc vs))) (fun f => rfl) ?_
    refine me_t (C := 6 ≤ (nI j)) (nI_let (a := 6) (b := j) (by omega)) (fun f => rfl) ?_
    refine me_ret 2 (r := some (.int v)) (M1 := (mk_M c n m kk (rT (he, ke, ki, fi, fa, or, mi, a, g, l, w, s) xm xi xw im le nu rf ln nn vp xn xc vs))) (fun f => rfl) ?_
    exact ⟨(by rw [g0]; rfl), _, _, _, _, _, _, rfl, ⟨(by assumption), (by assumption), (by assumption), (by assumption)⟩⟩
  | succ k IH =>
    intro j v xm xw vp xn xc vs hj hR g0
    obtain ⟨r1, r2, r3, r4⟩ := id hR
    have v60 := kO_lt5 mi v7 or v6 0 (by omega)
    refine me_seg 6 (pc1 := 39) (ls1 := [some (.ref 138), some (.int 1), some (.int v), some (.int (nI j))]) (st1 := [.int 0, .ref 139, .int (nI j)]) (M1 := (mk_M c n m kk (rT (he, ke, ki, fi, fa, or, mi, a, g, l, w, s) xm xi xw im le nu rf ln nn vp xn xc vs))) (fun f => rfl) ?_
    refine me_ldn (xs := (er (he, ke, ki, fi, fa, or, mi, a, g, l, w, s))) rfl rfl (k := 0) (by decide) rfl ?_
    refine me_f (C := (nI mi) = 0) (nI_eqf (a := mi) (b := 0) (by omega)) (fun f => rfl) ?_
    refine me_seg 1 (pc1 := 49) (ls1 := [some (.ref 138), some (.int 1), some (.int v), some (.int (nI j))]) (st1 := [.int 6, .int (nI j)]) (M1 := (mk_M c n m kk (rT (he, ke, ki, fi, fa, or, mi, a, g, l, w, s) xm xi xw im le nu rf ln nn vp xn xc vs))) (fun f => rfl) ?_
    refine me_f (C := 6 ≤ (nI j)) (nI_lef (a := 6) (b := j) (by omega)) (fun f => rfl) ?_
    refine me_seg 4 (pc1 := 60) (ls1 := [some (.ref 138), some (.int 1), some (.int v), some (.int (nI j))]) (st1 := [.ref 140, .ref 139]) (M1 := (mk_M c n m kk (rT (he, ke, ki, fi, fa, or, mi, a, g, l, w, s) xm xi xw im le nu rf ln nn vp xn xc vs))) (fun f => rfl) ?_
    refine me_call (y := 138) (y0 := 63) (L := [some (.ref 139), some (.ref 140), none]) (rest := []) (rr := none) (M1 := (mk_M c n m kk (rT (he, ke, ki, fi, fa, or, mi, a, g, l, w, s) (er (he, ke, ki, fi, fa, or, mi, a, g, l, w, s)) xi xw im le nu rf ln nn vp xn xc vs))) (fun f => rfl) (rc_copies (a := 140) (b := 139) (by decide) rfl rfl (er_len hV) (by assumption)) ?_
    refine me_seg 7 (pc1 := 88) (ls1 := [some (.ref 138), some (.int 1), some (.int v), some (.int (nI j))]) (st1 := [.int 47, .ref 139, .ref 140]) (M1 := (mk_M c n m kk (rT (he, ke, ki, fi, fa, or, mi, a, g, l, w, s) (er (he, ke, ki, fi, fa, or, mi, a, g, l, w, s)) xi xw im le nu rf ln nn vp xn xc vs))) (fun f => rfl) ?_
    refine me_ldn (xs := (er (he, ke, ki, fi, fa, or, mi, a, g, l, w, s))) rfl rfl (k := 47) (by decide) (er_or (K := (he, ke, ki, fi, fa, or, mi, a, g, l, w, s)) v1 v6l (j := 0) (by decide)) ?_
    refine me_seg 1 (pc1 := 90) (ls1 := [some (.ref 138), some (.int 1), some (.int v), some (.int (nI j))]) (st1 := [.int 0, .int (nI (kg or 0)), .ref 140]) (M1 := (mk_M c n m kk (rT (he, ke, ki, fi, fa, or, mi, a, g, l, w, s) (er (he, ke, ki, fi, fa, or, mi, a, g, l, w, s)) xi xw im le nu rf ln nn vp xn xc vs))) (fun f => rfl) ?_
    refine me_call (y := 141) (y0 := 93) (L := [some (.int (nI (kg or 0))), some (.int 0)]) (rest := [.ref 140]) (rr := some (.int (nI (32 + 3 * (kg or 0) + 0)))) (M1 := (mk_M c n m kk (rT (he, ke, ki, fi, fa, or, mi, a, g, l, w, s) (er (he, ke, ki, fi, fa, or, mi, a, g, l, w, s)) xi xw im le nu rf ln nn vp xn xc vs))) (fun f => rfl) (rc_of (kg or 0) 0 (by omega) (by decide) _) ?_
    refine me_seg 1 (pc1 := 94) (ls1 := [some (.ref 138), some (.int 1), some (.int v), some (.int (nI j))]) (st1 := [.int (nI j), .int (nI (32 + 3 * (kg or 0) + 0)), .ref 140]) (M1 := (mk_M c n m kk (rT (he, ke, ki, fi, fa, or, mi, a, g, l, w, s) (er (he, ke, ki, fi, fa, or, mi, a, g, l, w, s)) xi xw im le nu rf ln nn vp xn xc vs))) (fun f => rfl) ?_
    refine me_stn (xs := (er (he, ke, ki, fi, fa, or, mi, a, g, l, w, s))) (ys := (er (he, ke, ki.set (kg or 0) j, fi, fa, or, mi, a, g, l, w, s))) (M2 := (mk_MR c n m kk (er (he, ke, ki, fi, fa, or, mi, a, g, l, w, s)) (er (he, ke, ki.set (kg or 0) j, fi, fa, or, mi, a, g, l, w, s)) xi xw (nI im) (le.map nI) (nu.map nI) (rf.map nI) (nI ln) (nI nn) vp xn xc vs)) rfl rfl (k := 32 + 3 * (kg or 0) + 0) (by omega) (by rw [er_leq (K := (he, ke, ki, fi, fa, or, mi, a, g, l, w, s)) v1 v6l]; omega) (er_kis (K := (he, ke, ki, fi, fa, or, mi, a, g, l, w, s)) v1 v3 (by omega)) rfl ?_
    refine me_M (mk_MRk c n m kk (he, ke, ki, fi, fa, or, mi, a, g, l, w, s) (er (he, ke, ki.set (kg or 0) j, fi, fa, or, mi, a, g, l, w, s)) xi xw im le nu rf ln nn vp xn xc vs) ?_
    refine me_seg 2 (pc1 := 97) (ls1 := [some (.ref 138), some (.int 1), some (.int v), some (.int (nI j))]) (st1 := [.ref 138, .int v]) (M1 := (mk_M c n m kk (rT (he, ke, ki, fi, fa, or, mi, a, g, l, w, s) (er (he, ke, ki.set (kg or 0) j, fi, fa, or, mi, a, g, l, w, s)) xi xw im le nu rf ln nn vp xn xc vs))) (fun f => rfl) ?_
    refine me_callE (y := 203) (y0 := 100) (L := [some (.ref 138), none, none]) (rest := [.int v]) (fun f => rfl) (tm_ps he ke ki fi fa or mi a g l w s xi im le nu rf ln nn c n m kk hA hC (he, ke, ki.set (kg or 0) j, fi, fa, or, mi, a, g, l, w, s) xw vp xn xc vs ⟨(er_len ⟨v1, v2, by rw [List.length_set]; exact v3, v4, v5, v6, v7, v8, v9, v10, v11, v12, v13, fun i => by rw [kg_setc]; split; omega; exact v14 i, v15, v16⟩), (by assumption), (by assumption), (by assumption)⟩ ⟨v1, v2, by rw [List.length_set]; exact v3, v4, v5, v6, v7, v8, v9, v10, v11, v12, v13, fun i => by rw [kg_setc]; split; omega; exact v14 i, v15, v16⟩ (show s + 100 < 2 ^ 20 by omega)) ?_
    rintro _ _ ⟨rfl, xm_1, xw_1, vp_1, xn_1, xc_1, vs_1, rfl, hR_1⟩
    obtain ⟨r1_1, r2_1, r3_1, r4_1⟩ := id hR_1
    have hgn := kgn_le nu nn 0 (he, ke, ki.set (kg or 0) j, fi, fa, or, mi, a, g, l, w, s)
    refine me_ifN (C := (nI (kgn nu nn 0 (he, ke, ki.set (kg or 0) j, fi, fa, or, mi, a, g, l, w, s))) = 0) (nI_eqi (a := kgn nu nn 0 (he, ke, ki.set (kg or 0) j, fi, fa, or, mi, a, g, l, w, s)) (b := 0) (by omega)) (fun f => rfl) (fun h2 => ?_) (fun h2 => ?_)
    · refine me_seg 4 (pc1 := 115) (ls1 := [some (.ref 138), some (.int 1), some (.int (v ||| (0 : Int32))), some (.int ((nI j) + 1))]) (st1 := []) (M1 := (mk_M c n m kk (rT (he, ke, ki, fi, fa, or, mi, a, g, l, w, s) xm_1 xi xw_1 im le nu rf ln nn vp_1 xn_1 xc_1 vs_1))) (fun f => rfl) ?_
      refine me_l (fun q_ => [some (.ref 138), some (.int 1), some (.int (v ||| (0 : Int32))), some (.int q_)]) (nI_add j 1) ?_
      refine me_seg 1 (pc1 := 20) (ls1 := [some (.ref 138), some (.int 1), some (.int (v ||| (0 : Int32))), some (.int (nI (j + 1)))]) (st1 := []) (M1 := (mk_M c n m kk (rT (he, ke, ki, fi, fa, or, mi, a, g, l, w, s) xm_1 xi xw_1 im le nu rf ln nn vp_1 xn_1 xc_1 vs_1))) (fun f => rfl) ?_
      exact IH (j + 1) (v ||| (0 : Int32)) xm_1 xw_1 vp_1 xn_1 xc_1 vs_1 (by omega) ⟨(by assumption), (by assumption), (by assumption), (by assumption)⟩ (g0.trans ((kwp_0 h2).trans (by rw [kor0])))
    · refine me_seg 7 (pc1 := 115) (ls1 := [some (.ref 138), some (.int 1), some (.int (v ||| ((1 : Int32) <<< ((nI j) &&& 31)))), some (.int ((nI j) + 1))]) (st1 := []) (M1 := (mk_M c n m kk (rT (he, ke, ki, fi, fa, or, mi, a, g, l, w, s) xm_1 xi xw_1 im le nu rf ln nn vp_1 xn_1 xc_1 vs_1))) (fun f => rfl) ?_
      refine me_l (fun q_ => [some (.ref 138), some (.int 1), some (.int (v ||| ((1 : Int32) <<< ((nI j) &&& 31)))), some (.int q_)]) (nI_add j 1) ?_
      refine me_seg 1 (pc1 := 20) (ls1 := [some (.ref 138), some (.int 1), some (.int (v ||| ((1 : Int32) <<< ((nI j) &&& 31)))), some (.int (nI (j + 1)))]) (st1 := []) (M1 := (mk_M c n m kk (rT (he, ke, ki, fi, fa, or, mi, a, g, l, w, s) xm_1 xi xw_1 im le nu rf ln nn vp_1 xn_1 xc_1 vs_1))) (fun f => rfl) ?_
      exact IH (j + 1) (v ||| ((1 : Int32) <<< ((nI j) &&& 31))) xm_1 xw_1 vp_1 xn_1 xc_1 vs_1 (by omega) ⟨(by assumption), (by assumption), (by assumption), (by assumption)⟩ (g0.trans (kwp_1 h2))
set_option maxRecDepth 100000 in
theorem tm_whoPushed_1 (he ke ki fi fa or : List Nat) (mi a g l w s : Nat) (xi : List Int32) (im : Nat) (le nu rf : List Nat) (ln nn : Nat) (c : cC) (n m kk : kG) (hA : iA (he, ke, ki, fi, fa, or, mi, a, g, l, w, s)) (hC : iC nu nn) (xm xw : List Int32) (vp : Int32) (xn xc : List Int32) (vs : Int32) (hR : iR xm xw xn xc) : mm_E 202 0 [some (.ref 138), some (.int 1), none, none] [] (mk_M c n m kk (rT (he, ke, ki, fi, fa, or, mi, a, g, l, w, s) xm xi xw im le nu rf ln nn vp xn xc vs)) (pM (fun r => r = some (.int ((if mi = 0 then (0 : Int32) else kwp (fun j => kgn nu nn 0 (he, ke, ki.set (kg or 0) j, fi, fa, or, mi, a, g, l, w, s)) 6 0 0)))) (he, ke, ki, fi, fa, or, mi, a, g, l, w, s) xi im le nu rf ln nn c n m kk) := by
  obtain ⟨hV, hst⟩ := id hA
  have hst2 : s ≤ 999 := hst
  obtain ⟨v1, v2, v3, v4, v5, v6, v7, v8, v9, v10, v11, v12, v13, v14, v15, v16⟩ := id hV
  have v6l := kO_len mi v7 or v6
  obtain ⟨c1, c2, c3⟩ := id hC
  obtain ⟨r1, r2, r3, r4⟩ := id hR
  refine me_seg 3 (pc1 := 3) (ls1 := [some (.ref 138), some (.int 1), none, none]) (st1 := [.int 1, .int 0, .int 1]) (M1 := (mk_M c n m kk (rT (he, ke, ki, fi, fa, or, mi, a, g, l, w, s) xm xi xw im le nu rf ln nn vp xn xc vs))) (fun f => rfl) ?_
  refine me_call (y := 135) (y0 := 6) (L := [some (.int 1), some (.int 0), some (.int 1)]) (rest := []) (rr := some (.int 1)) (M1 := (mk_M c n m kk (rT (he, ke, ki, fi, fa, or, mi, a, g, l, w, s) xm xi xw im le nu rf ln nn vp xn xc vs))) (fun f => rfl) (by
      exact mr_ret 9 (fun f => rfl)) ?_
  refine me_seg 5 (pc1 := 20) (ls1 := [some (.ref 138), some (.int 1), some (.int 0), some (.int 0)]) (st1 := []) (M1 := (mk_M c n m kk (rT (he, ke, ki, fi, fa, or, mi, a, g, l, w, s) xm xi xw im le nu rf ln nn vp xn xc vs))) (fun f => rfl) ?_
  rcases Nat.eq_zero_or_pos mi with h0 | h0
  · refine me_seg 6 (pc1 := 39) (ls1 := [some (.ref 138), some (.int 1), some (.int 0), some (.int 0)]) (st1 := [.int 0, .ref 139, .int 0]) (M1 := (mk_M c n m kk (rT (he, ke, ki, fi, fa, or, mi, a, g, l, w, s) xm xi xw im le nu rf ln nn vp xn xc vs))) (fun f => rfl) ?_
    refine me_ldn (xs := (er (he, ke, ki, fi, fa, or, mi, a, g, l, w, s))) rfl rfl (k := 0) (by decide) rfl ?_
    refine me_t (C := (nI mi) = 0) (nI_eqt (a := mi) (b := 0) (by omega)) (fun f => rfl) ?_
    refine me_ret 5 (r := some (.int 0)) (M1 := (mk_M c n m kk (rT (he, ke, ki, fi, fa, or, mi, a, g, l, w, s) xm xi xw im le nu rf ln nn vp xn xc vs))) (fun f => rfl) ?_
    exact ⟨(by rw [if_pos h0]), _, _, _, _, _, _, rfl, ⟨(by assumption), (by assumption), (by assumption), (by assumption)⟩⟩
  · exact tm_w1L he ke ki fi fa or mi a g l w s xi im le nu rf ln nn c n m kk hA hC h0 _ 6 0 0 xm xw vp xn xc vs (by omega) ⟨(by assumption), (by assumption), (by assumption), (by assumption)⟩ (if_neg (by omega))
theorem ot_whoPushed {M : mm_H} (hM : kInv M) (x : Int32) : oI 115 202 [some (.ref 100), some (.int x)] [some (.ref 138), some (.int x), none, none] M := by
  obtain ⟨K, m, kk, im, le, ln, ys, vt, nu, nn, rf, vw, vq, yc, yh, yg, xm, xi, xw, vp, xn, xc, vs, rfl, hA, hB, hC, hD, hJ, hR, hK⟩ := hM
  obtain ⟨he, ke, ki, fi, fa, or, mi, a, g, l, w, s⟩ := K
  have v7 : mi ≤ 5 := hA.1.2.2.2.2.2.2.1
  rcases k_cs x 2 0 1 rfl rfl with hx | hx | ⟨x_, hx_, rfl⟩
  · exact oe_whoPushed_0 he ke ki fi fa or mi a g l w s m kk im le ln ys vt nu nn rf vw vq yc yh yg xm xi xw vp xn xc vs hA hB hC hD hJ hR hK x hx
  · exact oe_whoPushed_1 he ke ki fi fa or mi a g l w s m kk im le ln ys vt nu nn rf vw vq yc yh yg xm xi xw vp xn xc vs hA hB hC hD hJ hR hK x hx
  · rcases (show x_ = 0 ∨ x_ = 1 by omega) with rfl | rfl
    · exact oI_of (kwp (fun j => kgn nu nn 0 (kpf (he, ke, ki, fi, fa, or, mi, a, g, l, w, s) j)) mi 0 0) hA hB hC hD hK (tc_whoPushed_0 he ke ki fi fa or mi a g l w s im le ln ys vt nu nn rf kk _ hA hC vw vq yc yh yg m hJ) (fun c n m kk => tm_whoPushed_0 he ke ki fi fa or mi a g l w s xi im le nu rf ln nn c n m kk hA hC xm xw vp xn xc vs hR)
    · exact oI_of ((if mi = 0 then (0 : Int32) else kwp (fun j => kgn nu nn 0 (he, ke, ki.set (kg or 0) j, fi, fa, or, mi, a, g, l, w, s)) 6 0 0)) hA hB hC hD hK (tc_whoPushed_1 he ke ki fi fa or mi a g l w s im le ln ys vt nu nn rf kk _ hA hC vw vq yc yh yg m hJ) (fun c n m kk => tm_whoPushed_1 he ke ki fi fa or mi a g l w s xi im le nu rf ln nn c n m kk hA hC xm xw vp xn xc vs hR)
