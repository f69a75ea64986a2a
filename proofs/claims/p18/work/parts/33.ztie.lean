/-! ===== a call, tied ===== -/
theorem oI_of {K : kK} {m kk : kG} {im : Nat} {le : List Nat} {ln : Nat} {ys : List Int32} {vt : Int32} {nu : List Nat} {nn : Nat} {rf : List Nat} {vw vq : Int32} {yc yh yg xm xi xw : List Int32} {vp : Int32} {xn xc : List Int32} {vs : Int32} {nn2 : Nat} (V : Int32) (hA : iA K) (hB : iB le ln) (hC2 : iC nu nn2) (hD : iD rf) (hK : iK im kk xi) {zc zm : Nat} {lc lm : mm_L}
    (h1 : mm_E zc 0 lc [] (mk_M (cT im le ln ys vt nu nn rf vw vq yc yh yg) (kr K) m kk (rT K xm xi xw im le nu rf ln nn vp xn xc vs)) (pC (fun r => r = some (.int V)) K im le ln ys vt nu nn2 rf kk (rT K xm xi xw im le nu rf ln nn vp xn xc vs)))
    (h2 : ∀ (c : cC) (n m kk : kG), mm_E zm 0 lm [] (mk_M c n m kk (rT K xm xi xw im le nu rf ln nn vp xn xc vs)) (pM (fun r => r = some (.int V)) K xi im le nu rf ln nn2 c n m kk)) : oI zc zm lc lm (mk_M (cT im le ln ys vt nu nn rf vw vq yc yh yg) (kr K) m kk (rT K xm xi xw im le nu rf ln nn vp xn xc vs)) := by
  obtain ⟨_, _, r1, rfl, vw2, vq2, yc2, yh2, yg2, m2, rfl, hJ2⟩ := h1
  obtain ⟨_, _, r2, rfl, xm2, xw2, vp2, xn2, xc2, vs2, rfl, hR2⟩ := h2 (cT im le ln ys vt nu nn2 rf vw2 vq2 yc2 yh2 yg2) (kr K) m2 kk
  exact ⟨V, _, _, r1, r2, K, m2, kk, im, le, ln, ys, vt, nu, nn2, rf, vw2, vq2, yc2, yh2, yg2, xm2, xi, xw2, vp2, xn2, xc2, vs2, rfl, hA, hB, hC2, hD, hJ2, hR2, hK⟩
theorem oL_of {K : kK} {m kk : kG} {im : Nat} {le : List Nat} {ln : Nat} {ys : List Int32} {vt : Int32} {nu : List Nat} {nn : Nat} {rf : List Nat} {vw vq : Int32} {yc yh yg xm xi xw : List Int32} {vp : Int32} {xn xc : List Int32} {vs : Int32} (V : Int64) (hA : iA K) (hB : iB le ln) (hC2 : iC nu nn) (hD : iD rf) (hK : iK im kk xi) {zc zm : Nat} {lc lm : mm_L}
    (h1 : mm_E zc 0 lc [] (mk_M (cT im le ln ys vt nu nn rf vw vq yc yh yg) (kr K) m kk (rT K xm xi xw im le nu rf ln nn vp xn xc vs)) (pC (fun r => r = some (.long V)) K im le ln ys vt nu nn rf kk (rT K xm xi xw im le nu rf ln nn vp xn xc vs)))
    (h2 : ∀ (c : cC) (n m kk : kG), mm_E zm 0 lm [] (mk_M c n m kk (rT K xm xi xw im le nu rf ln nn vp xn xc vs)) (pM (fun r => r = some (.long V)) K xi im le nu rf ln nn c n m kk)) : oL zc zm lc lm (mk_M (cT im le ln ys vt nu nn rf vw vq yc yh yg) (kr K) m kk (rT K xm xi xw im le nu rf ln nn vp xn xc vs)) := by
  obtain ⟨_, _, r1, rfl, vw2, vq2, yc2, yh2, yg2, m2, rfl, hJ2⟩ := h1
  obtain ⟨_, _, r2, rfl, xm2, xw2, vp2, xn2, xc2, vs2, rfl, hR2⟩ := h2 (cT im le ln ys vt nu nn rf vw2 vq2 yc2 yh2 yg2) (kr K) m2 kk
  exact ⟨V, _, _, r1, r2, K, m2, kk, im, le, ln, ys, vt, nu, nn, rf, vw2, vq2, yc2, yh2, yg2, xm2, xi, xw2, vp2, xn2, xc2, vs2, rfl, hA, hB, hC2, hD, hJ2, hR2, hK⟩
theorem kV_fa9 {K : kK} (h : kV K) (i : Nat) : kg (k_fa K) i ≤ 99 := by
  obtain ⟨he, ke, ki, fi, fa, or, mi, a, g, l, w, s⟩ := K
  exact h.2.2.2.2.2.2.2.2.2.2.2.2.2.2.2 i
theorem kwf_y {r n p f : Nat} {k : kK} (h : f < kg (k_fa (kstep k 0)) p) : kwf (r + 1) n k p f = some n := if_pos h
theorem kwf_o {r n p f : Nat} {k : kK} (h : ¬ f < kg (k_fa (kstep k 0)) p) : kwf (r + 1) n k p f = kwf r (n + 1) (kstep k 0) p f := if_neg h
set_option maxRecDepth 100000 in
theorem tc_down_1 (he ke ki fi fa or : List Nat) (mi a g l w s : Nat) (im : Nat) (le : List Nat) (ln : Nat) (ys : List Int32) (vt : Int32) (nu : List Nat) (nn : Nat) (rf : List Nat) (kk : kG) (q : cR) (hA : iA (he, ke, ki, fi, fa, or, mi, a, g, l, w, s)) (hC : iC nu nn) (vw vq : Int32) (yc yh yg : List Int32) (m : kG) (hJ : iJ m ys yc yh yg) (p : Nat) (hp : p < mi) : mm_E 81 0 [some (.ref 100), some (.int (nI p)), none] [] (mk_M (cT im le ln ys vt nu nn rf vw vq yc yh yg) (kr (he, ke, ki, fi, fa, or, mi, a, g, l, w, s)) m kk q) (pC (fun r => r = some (.int (kI (kwf 60 1 (he, ke, ki, fi, fa, or, mi, a, g, l, w, s) p (kg fa p))))) (he, ke, ki, fi, fa, or, mi, a, g, l, w, s) im le ln ys vt nu nn rf kk q) := by
  obtain ⟨hV, hst⟩ := id hA
  have hst2 : s ≤ 999 := hst
  obtain ⟨v1, v2, v3, v4, v5, v6, v7, v8, v9, v10, v11, v12, v13, v14, v15, v16⟩ := id hV
  have v6l := kO_len mi v7 or v6
  obtain ⟨c1, c2, c3⟩ := id hC
  obtain ⟨j0, j1, j2, j3, j4⟩ := id hJ
  refine me_seg 2 (pc1 := 2) (ls1 := [some (.ref 100), some (.int (nI p)), none]) (st1 := [.int (-1), .int (nI p)]) (M1 := (mk_M (cT im le ln ys vt nu nn rf vw vq yc yh yg) (kr (he, ke, ki, fi, fa, or, mi, a, g, l, w, s)) m kk q)) (fun f => rfl) ?_
  refine me_f (C := (nI p) = (-1)) (k_nc (by omega) (by decide)) (fun f => rfl) ?_
  refine me_seg 2 (pc1 := 59) (ls1 := [some (.ref 100), some (.int (nI p)), none]) (st1 := [.int (nI p), .ref 100]) (M1 := (mk_M (cT im le ln ys vt nu nn rf vw vq yc yh yg) (kr (he, ke, ki, fi, fa, or, mi, a, g, l, w, s)) m kk q)) (fun f => rfl) ?_
  refine me_call (y := 61) (y0 := 62) (L := [some (.ref 100), some (.int (nI p))]) (rest := []) (rr := some (.int 1)) (M1 := (mk_M (cT im le ln ys vt nu nn rf vw vq yc yh yg) (kr (he, ke, ki, fi, fa, or, mi, a, g, l, w, s)) m kk q)) (fun f => rfl) (ms_m1_ok (x := (nI p)) (fun e_ => absurd ((nI_ltI (a := p) (b := 0) (by omega) (by omega)).mp e_) (by omega)) (fun e_ => absurd ((nI_leI (a := mi) (b := p) (by omega) (by omega)).mp e_) (by omega))) ?_
  refine me_seg 2 (pc1 := 72) (ls1 := [some (.ref 100), some (.int (nI p)), none]) (st1 := [.ref 100]) (M1 := (mk_M (cT im le ln ys vt nu nn rf vw vq yc yh yg) (kr (he, ke, ki, fi, fa, or, mi, a, g, l, w, s)) m kk q)) (fun f => rfl) ?_
  refine me_call (y := 75) (y0 := 75) (L := [some (.ref 100)]) (rest := []) (rr := some (.ref 124)) (M1 := (mk_M (cT im le ln ys vt nu nn rf vw vq yc yh yg) (kr (he, ke, ki, fi, fa, or, mi, a, g, l, w, s)) (kr (he, ke, ki, fi, fa, or, mi, a, g, l, w, s)) kk q)) (fun f => rfl) (cc_now (he, ke, ki, fi, fa, or, mi, a, g, l, w, s) (cT im le ln ys vt nu nn rf vw vq yc yh yg) m kk q hV (by assumption)) ?_
  refine me_seg 1 (pc1 := 76) (ls1 := [some (.ref 100), some (.int (nI p)), none]) (st1 := [.int (nI p), .ref 124]) (M1 := (mk_M (cT im le ln ys vt nu nn rf vw vq yc yh yg) (kr (he, ke, ki, fi, fa, or, mi, a, g, l, w, s)) (kr (he, ke, ki, fi, fa, or, mi, a, g, l, w, s)) kk q)) (fun f => rfl) ?_
  refine me_call (y := 83) (y0 := 79) (L := [some (.ref 124), some (.int (nI p)), none, none]) (rest := []) (rr := some (.int (kN (kwf 60 1 (he, ke, ki, fi, fa, or, mi, a, g, l, w, s) p (kg fa p))))) (M1 := (mk_M (cT im le ln ys vt nu nn rf vw vq yc yh yg) (kr (he, ke, ki, fi, fa, or, mi, a, g, l, w, s)) (kr (kwfK 60 (he, ke, ki, fi, fa, or, mi, a, g, l, w, s) p (kg fa p))) kk q)) (fun f => rfl) (kl_m (cT im le ln ys vt nu nn rf vw vq yc yh yg) (kr (he, ke, ki, fi, fa, or, mi, a, g, l, w, s)) kk q (kc_wf p (by omega) (he, ke, ki, fi, fa, or, mi, a, g, l, w, s) hV (show s < 2 ^ 20 by omega))) ?_
  rcases hf : kwf 60 1 (he, ke, ki, fi, fa, or, mi, a, g, l, w, s) p (kg fa p) with _ | v
  · refine me_v (show kN none = (1000000 : Int32) from rfl) ?_
    refine me_ret 7 (r := some (.int (-9))) (M1 := (mk_M (cT im le ln ys vt nu nn rf vw vq yc yh yg) (kr (he, ke, ki, fi, fa, or, mi, a, g, l, w, s)) (kr (kwfK 60 (he, ke, ki, fi, fa, or, mi, a, g, l, w, s) p (kg fa p))) kk q)) (fun f => rfl) ?_
    exact ⟨rfl, _, _, _, _, _, _, rfl, ⟨(kSh_r (kV_wfK 60 p (kg fa p) hV)), j1, by assumption, by assumption, by assumption⟩⟩
  · have hv := kwf_le 60 1 _ _ _ v hf
    refine me_v (show kN (some v) = nI v from rfl) ?_
    refine me_seg 3 (pc1 := 83) (ls1 := [some (.ref 100), some (.int (nI p)), some (.int (nI v))]) (st1 := [.int 1000000, .int (nI v)]) (M1 := (mk_M (cT im le ln ys vt nu nn rf vw vq yc yh yg) (kr (he, ke, ki, fi, fa, or, mi, a, g, l, w, s)) (kr (kwfK 60 (he, ke, ki, fi, fa, or, mi, a, g, l, w, s) p (kg fa p))) kk q)) (fun f => rfl) ?_
    refine me_f (C := (nI v) = 1000000) (fun e_ => absurd ((nI_eq (a := v) (b := 1000000) (by omega) (by omega)).mp e_) (by omega)) (fun f => rfl) ?_
    refine me_ret 2 (r := some (.int (nI v))) (M1 := (mk_M (cT im le ln ys vt nu nn rf vw vq yc yh yg) (kr (he, ke, ki, fi, fa, or, mi, a, g, l, w, s)) (kr (kwfK 60 (he, ke, ki, fi, fa, or, mi, a, g, l, w, s) p (kg fa p))) kk q)) (fun f => rfl) ?_
    exact ⟨rfl, _, _, _, _, _, _, rfl, ⟨(kSh_r (kV_wfK 60 p (kg fa p) hV)), j1, by assumption, by assumption, by assumption⟩⟩
set_option maxRecDepth 100000 in
theorem tm_doL (he ke ki fi fa or : List Nat) (mi a g l w s : Nat) (xi : List Int32) (im : Nat) (le nu rf : List Nat) (ln nn : Nat) (c : cC) (n m kk : kG) (hA : iA (he, ke, ki, fi, fa, or, mi, a, g, l, w, s)) (hC : iC nu nn) (p : Nat) (hp : p < mi) (A : Option Nat) (k : Nat) : ∀ (j : Nat) (Q : kK) (xw : List Int32) (vp : Int32) (xn xc : List Int32) (vs : Int32), j + k = 60 → iR (er Q) xw xn xc → kV Q → k_st Q + k < 2 ^ 19 → A = kwf k (j + 1) Q p (kg fa p) → mm_E 176 44 [some (.ref 138), some (.int (nI p)), some (.int (nI j))] [] (mk_M c n m kk (rT (he, ke, ki, fi, fa, or, mi, a, g, l, w, s) (er Q) xi xw im le nu rf ln nn vp xn xc vs)) (pM (fun r => r = some (.int (kI A))) (he, ke, ki, fi, fa, or, mi, a, g, l, w, s) xi im le nu rf ln nn c n m kk) := by
  obtain ⟨hV, hst⟩ := id hA
  have hst2 : s ≤ 999 := hst
  obtain ⟨v1, v2, v3, v4, v5, v6, v7, v8, v9, v10, v11, v12, v13, v14, v15, v16⟩ := id hV
  have v6l := kO_len mi v7 or v6
  obtain ⟨c1, c2, c3⟩ := id hC
  induction k with
  | zero =>
    intro j Q xw vp xn xc vs hj hR hQ hQs g0
    obtain ⟨r1, r2, r3, r4⟩ := id hR
    have f9 := kV_fa9 (kV_step hQ 0) p
    have w16 := v16 p
    refine me_seg 3 (pc1 := 49) (ls1 := [some (.ref 138), some (.int (nI p)), some (.int (nI j))]) (st1 := [.int 0, .ref 140]) (M1 := (mk_M c n m kk (rT (he, ke, ki, fi, fa, or, mi, a, g, l, w, s) (er Q) xi xw im le nu rf ln nn vp xn xc vs))) (fun f => rfl) ?_
    refine me_call (y := 146) (y0 := 52) (L := [some (.ref 140), some (.int 0), none, none, none]) (rest := []) (rr := none) (M1 := (mk_M c n m kk (rT (he, ke, ki, fi, fa, or, mi, a, g, l, w, s) (er (kstep Q 0)) xi xw im le nu rf ln nn vp xn xc vs))) (fun f => rfl) (rl_m c n m kk (rT (he, ke, ki, fi, fa, or, mi, a, g, l, w, s) (er Q) xi xw im le nu rf ln nn vp xn xc vs) (rc_stepQ Q 0 (by decide) hQ (Nat.lt_trans (m := 2 ^ 20) (by omega) (by decide))) rfl) ?_
    refine me_seg 1 (pc1 := 55) (ls1 := [some (.ref 138), some (.int (nI p)), some (.int ((nI j) + 1))]) (st1 := []) (M1 := (mk_M c n m kk (rT (he, ke, ki, fi, fa, or, mi, a, g, l, w, s) (er (kstep Q 0)) xi xw im le nu rf ln nn vp xn xc vs))) (fun f => rfl) ?_
    refine me_l (fun q_ => [some (.ref 138), some (.int (nI p)), some (.int q_)]) (nI_add j 1) ?_
    refine me_seg 3 (pc1 := 16) (ls1 := [some (.ref 138), some (.int (nI p)), some (.int (nI (j + 1)))]) (st1 := [.int 60, .int (nI (j + 1))]) (M1 := (mk_M c n m kk (rT (he, ke, ki, fi, fa, or, mi, a, g, l, w, s) (er (kstep Q 0)) xi xw im le nu rf ln nn vp xn xc vs))) (fun f => rfl) ?_
    refine me_t (C := 60 < (nI (j + 1))) ((nI_ltI (a := 60) (b := j + 1) (by omega) (by omega)).mpr (by omega)) (fun f => rfl) ?_
    refine me_ret 2 (r := some (.int (-9))) (M1 := (mk_M c n m kk (rT (he, ke, ki, fi, fa, or, mi, a, g, l, w, s) (er (kstep Q 0)) xi xw im le nu rf ln nn vp xn xc vs))) (fun f => rfl) ?_
    exact ⟨(by rw [g0]; rfl), _, _, _, _, _, _, rfl, ⟨(er_len (kV_step hQ 0)), (by assumption), (by assumption), (by assumption)⟩⟩
  | succ k IH =>
    intro j Q xw vp xn xc vs hj hR hQ hQs g0
    obtain ⟨r1, r2, r3, r4⟩ := id hR
    have f9 := kV_fa9 (kV_step hQ 0) p
    have w16 := v16 p
    refine me_seg 3 (pc1 := 49) (ls1 := [some (.ref 138), some (.int (nI p)), some (.int (nI j))]) (st1 := [.int 0, .ref 140]) (M1 := (mk_M c n m kk (rT (he, ke, ki, fi, fa, or, mi, a, g, l, w, s) (er Q) xi xw im le nu rf ln nn vp xn xc vs))) (fun f => rfl) ?_
    refine me_call (y := 146) (y0 := 52) (L := [some (.ref 140), some (.int 0), none, none, none]) (rest := []) (rr := none) (M1 := (mk_M c n m kk (rT (he, ke, ki, fi, fa, or, mi, a, g, l, w, s) (er (kstep Q 0)) xi xw im le nu rf ln nn vp xn xc vs))) (fun f => rfl) (rl_m c n m kk (rT (he, ke, ki, fi, fa, or, mi, a, g, l, w, s) (er Q) xi xw im le nu rf ln nn vp xn xc vs) (rc_stepQ Q 0 (by decide) hQ (Nat.lt_trans (m := 2 ^ 20) (by omega) (by decide))) rfl) ?_
    refine me_seg 1 (pc1 := 55) (ls1 := [some (.ref 138), some (.int (nI p)), some (.int ((nI j) + 1))]) (st1 := []) (M1 := (mk_M c n m kk (rT (he, ke, ki, fi, fa, or, mi, a, g, l, w, s) (er (kstep Q 0)) xi xw im le nu rf ln nn vp xn xc vs))) (fun f => rfl) ?_
    refine me_l (fun q_ => [some (.ref 138), some (.int (nI p)), some (.int q_)]) (nI_add j 1) ?_
    refine me_seg 3 (pc1 := 16) (ls1 := [some (.ref 138), some (.int (nI p)), some (.int (nI (j + 1)))]) (st1 := [.int 60, .int (nI (j + 1))]) (M1 := (mk_M c n m kk (rT (he, ke, ki, fi, fa, or, mi, a, g, l, w, s) (er (kstep Q 0)) xi xw im le nu rf ln nn vp xn xc vs))) (fun f => rfl) ?_
    refine me_f (C := 60 < (nI (j + 1))) (fun e_ => absurd ((nI_ltI (a := 60) (b := j + 1) (by omega) (by omega)).mp e_) (by omega)) (fun f => rfl) ?_
    refine me_seg 4 (pc1 := 25) (ls1 := [some (.ref 138), some (.int (nI p)), some (.int (nI (j + 1)))]) (st1 := [.int 2, .int (nI p), .ref 140]) (M1 := (mk_M c n m kk (rT (he, ke, ki, fi, fa, or, mi, a, g, l, w, s) (er (kstep Q 0)) xi xw im le nu rf ln nn vp xn xc vs))) (fun f => rfl) ?_
    refine me_call (y := 141) (y0 := 28) (L := [some (.int (nI p)), some (.int 2)]) (rest := [.ref 140]) (rr := some (.int (nI (32 + 3 * p + 2)))) (M1 := (mk_M c n m kk (rT (he, ke, ki, fi, fa, or, mi, a, g, l, w, s) (er (kstep Q 0)) xi xw im le nu rf ln nn vp xn xc vs))) (fun f => rfl) (rc_of p 2 (by omega) (by decide) _) ?_
    refine me_ldn (xs := (er (kstep Q 0))) rfl rfl (k := 32 + 3 * p + 2) (by omega) (er_fa (K := kstep Q 0) (kV_he (kV_step hQ 0)) (by omega)) ?_
    refine me_seg 4 (pc1 := 35) (ls1 := [some (.ref 138), some (.int (nI p)), some (.int (nI (j + 1)))]) (st1 := [.int 2, .int (nI p), .ref 139, .int (nI (kg (k_fa (kstep Q 0)) p))]) (M1 := (mk_M c n m kk (rT (he, ke, ki, fi, fa, or, mi, a, g, l, w, s) (er (kstep Q 0)) xi xw im le nu rf ln nn vp xn xc vs))) (fun f => rfl) ?_
    refine me_call (y := 141) (y0 := 38) (L := [some (.int (nI p)), some (.int 2)]) (rest := [.ref 139, .int (nI (kg (k_fa (kstep Q 0)) p))]) (rr := some (.int (nI (32 + 3 * p + 2)))) (M1 := (mk_M c n m kk (rT (he, ke, ki, fi, fa, or, mi, a, g, l, w, s) (er (kstep Q 0)) xi xw im le nu rf ln nn vp xn xc vs))) (fun f => rfl) (rc_of p 2 (by omega) (by decide) _) ?_
    refine me_ldn (xs := (er (he, ke, ki, fi, fa, or, mi, a, g, l, w, s))) rfl rfl (k := 32 + 3 * p + 2) (by omega) (er_fa (K := (he, ke, ki, fi, fa, or, mi, a, g, l, w, s)) v1 (by omega)) ?_
    refine me_ifN (C := (nI (kg (k_fa (kstep Q 0)) p)) ≤ (nI (kg fa p))) (nI_leI (a := kg (k_fa (kstep Q 0)) p) (b := kg fa p) (by omega) (by omega)) (fun f => rfl) (fun h1 => ?_) (fun h1 => ?_)
    · exact IH (j + 1) (kstep Q 0) xw vp xn xc vs (by omega) ⟨(er_len (kV_step hQ 0)), (by assumption), (by assumption), (by assumption)⟩ (kV_step hQ 0) (by rw [kst_step]; omega) (g0.trans (kwf_o (by omega)))
    · refine me_ret 2 (r := some (.int (nI (j + 1)))) (M1 := (mk_M c n m kk (rT (he, ke, ki, fi, fa, or, mi, a, g, l, w, s) (er (kstep Q 0)) xi xw im le nu rf ln nn vp xn xc vs))) (fun f => rfl) ?_
      exact ⟨(by rw [g0, kwf_y (by omega)]; rfl), _, _, _, _, _, _, rfl, ⟨(er_len (kV_step hQ 0)), (by assumption), (by assumption), (by assumption)⟩⟩
set_option maxRecDepth 100000 in
theorem tm_do (he ke ki fi fa or : List Nat) (mi a g l w s : Nat) (xi : List Int32) (im : Nat) (le nu rf : List Nat) (ln nn : Nat) (c : cC) (n m kk : kG) (hA : iA (he, ke, ki, fi, fa, or, mi, a, g, l, w, s)) (hC : iC nu nn) (xm xw : List Int32) (vp : Int32) (xn xc : List Int32) (vs : Int32) (hR : iR xm xw xn xc) (p : Nat) (hp : p < mi) : mm_E 176 0 [some (.ref 138), some (.int (nI p)), none] [] (mk_M c n m kk (rT (he, ke, ki, fi, fa, or, mi, a, g, l, w, s) xm xi xw im le nu rf ln nn vp xn xc vs)) (pM (fun r => r = some (.int (kI (kwf 60 1 (he, ke, ki, fi, fa, or, mi, a, g, l, w, s) p (kg fa p))))) (he, ke, ki, fi, fa, or, mi, a, g, l, w, s) xi im le nu rf ln nn c n m kk) := by
  obtain ⟨hV, hst⟩ := id hA
  have hst2 : s ≤ 999 := hst
  obtain ⟨v1, v2, v3, v4, v5, v6, v7, v8, v9, v10, v11, v12, v13, v14, v15, v16⟩ := id hV
  have v6l := kO_len mi v7 or v6
  obtain ⟨c1, c2, c3⟩ := id hC
  obtain ⟨r1, r2, r3, r4⟩ := id hR
  have w16 := v16 p
  refine me_seg 4 (pc1 := 8) (ls1 := [some (.ref 138), some (.int (nI p)), none]) (st1 := [.ref 140, .ref 139]) (M1 := (mk_M c n m kk (rT (he, ke, ki, fi, fa, or, mi, a, g, l, w, s) xm xi xw im le nu rf ln nn vp xn xc vs))) (fun f => rfl) ?_
  refine me_call (y := 138) (y0 := 11) (L := [some (.ref 139), some (.ref 140), none]) (rest := []) (rr := none) (M1 := (mk_M c n m kk (rT (he, ke, ki, fi, fa, or, mi, a, g, l, w, s) (er (he, ke, ki, fi, fa, or, mi, a, g, l, w, s)) xi xw im le nu rf ln nn vp xn xc vs))) (fun f => rfl) (rc_copies (a := 140) (b := 139) (by decide) rfl rfl (er_len hV) (by assumption)) ?_
  refine me_seg 9 (pc1 := 25) (ls1 := [some (.ref 138), some (.int (nI p)), some (.int 0)]) (st1 := [.int 2, .int (nI p), .ref 140]) (M1 := (mk_M c n m kk (rT (he, ke, ki, fi, fa, or, mi, a, g, l, w, s) (er (he, ke, ki, fi, fa, or, mi, a, g, l, w, s)) xi xw im le nu rf ln nn vp xn xc vs))) (fun f => rfl) ?_
  refine me_call (y := 141) (y0 := 28) (L := [some (.int (nI p)), some (.int 2)]) (rest := [.ref 140]) (rr := some (.int (nI (32 + 3 * p + 2)))) (M1 := (mk_M c n m kk (rT (he, ke, ki, fi, fa, or, mi, a, g, l, w, s) (er (he, ke, ki, fi, fa, or, mi, a, g, l, w, s)) xi xw im le nu rf ln nn vp xn xc vs))) (fun f => rfl) (rc_of p 2 (by omega) (by decide) _) ?_
  refine me_ldn (xs := (er (he, ke, ki, fi, fa, or, mi, a, g, l, w, s))) rfl rfl (k := 32 + 3 * p + 2) (by omega) (er_fa (K := (he, ke, ki, fi, fa, or, mi, a, g, l, w, s)) v1 (by omega)) ?_
  refine me_seg 4 (pc1 := 35) (ls1 := [some (.ref 138), some (.int (nI p)), some (.int 0)]) (st1 := [.int 2, .int (nI p), .ref 139, .int (nI (kg fa p))]) (M1 := (mk_M c n m kk (rT (he, ke, ki, fi, fa, or, mi, a, g, l, w, s) (er (he, ke, ki, fi, fa, or, mi, a, g, l, w, s)) xi xw im le nu rf ln nn vp xn xc vs))) (fun f => rfl) ?_
  refine me_call (y := 141) (y0 := 38) (L := [some (.int (nI p)), some (.int 2)]) (rest := [.ref 139, .int (nI (kg fa p))]) (rr := some (.int (nI (32 + 3 * p + 2)))) (M1 := (mk_M c n m kk (rT (he, ke, ki, fi, fa, or, mi, a, g, l, w, s) (er (he, ke, ki, fi, fa, or, mi, a, g, l, w, s)) xi xw im le nu rf ln nn vp xn xc vs))) (fun f => rfl) (rc_of p 2 (by omega) (by decide) _) ?_
  refine me_ldn (xs := (er (he, ke, ki, fi, fa, or, mi, a, g, l, w, s))) rfl rfl (k := 32 + 3 * p + 2) (by omega) (er_fa (K := (he, ke, ki, fi, fa, or, mi, a, g, l, w, s)) v1 (by omega)) ?_
  refine me_t (C := (nI (kg fa p)) ≤ (nI (kg fa p))) ((nI_leI (a := kg fa p) (b := kg fa p) (by omega) (by omega)).mpr (by omega)) (fun f => rfl) ?_
  exact tm_doL he ke ki fi fa or mi a g l w s xi im le nu rf ln nn c n m kk hA hC p hp _ 60 0 (he, ke, ki, fi, fa, or, mi, a, g, l, w, s) xw vp xn xc vs (by omega) ⟨(er_len hV), (by assumption), (by assumption), (by assumption)⟩ hV (show s + 60 < 2 ^ 19 by omega) rfl
set_option maxRecDepth 100000 in
theorem tm_down_1 (he ke ki fi fa or : List Nat) (mi a g l w s : Nat) (xi : List Int32) (im : Nat) (le nu rf : List Nat) (ln nn : Nat) (c : cC) (n m kk : kG) (hA : iA (he, ke, ki, fi, fa, or, mi, a, g, l, w, s)) (hC : iC nu nn) (xm xw : List Int32) (vp : Int32) (xn xc : List Int32) (vs : Int32) (hR : iR xm xw xn xc) (p : Nat) (hp : p < mi) : mm_E 174 0 [some (.ref 138), some (.int (nI p))] [] (mk_M c n m kk (rT (he, ke, ki, fi, fa, or, mi, a, g, l, w, s) xm xi xw im le nu rf ln nn vp xn xc vs)) (pM (fun r => r = some (.int (kI (kwf 60 1 (he, ke, ki, fi, fa, or, mi, a, g, l, w, s) p (kg fa p))))) (he, ke, ki, fi, fa, or, mi, a, g, l, w, s) xi im le nu rf ln nn c n m kk) := by
  obtain ⟨hV, hst⟩ := id hA
  have hst2 : s ≤ 999 := hst
  obtain ⟨v1, v2, v3, v4, v5, v6, v7, v8, v9, v10, v11, v12, v13, v14, v15, v16⟩ := id hV
  have v6l := kO_len mi v7 or v6
  obtain ⟨c1, c2, c3⟩ := id hC
  obtain ⟨r1, r2, r3, r4⟩ := id hR
  refine me_seg 2 (pc1 := 2) (ls1 := [some (.ref 138), some (.int (nI p))]) (st1 := [.int (-1), .int (nI p)]) (M1 := (mk_M c n m kk (rT (he, ke, ki, fi, fa, or, mi, a, g, l, w, s) xm xi xw im le nu rf ln nn vp xn xc vs))) (fun f => rfl) ?_
  refine me_f (C := (nI p) = (-1)) (k_nc (by omega) (by decide)) (fun f => rfl) ?_
  refine me_seg 2 (pc1 := 14) (ls1 := [some (.ref 138), some (.int (nI p))]) (st1 := [.int (nI p), .ref 138]) (M1 := (mk_M c n m kk (rT (he, ke, ki, fi, fa, or, mi, a, g, l, w, s) xm xi xw im le nu rf ln nn vp xn xc vs))) (fun f => rfl) ?_
  refine me_call (y := 142) (y0 := 17) (L := [some (.ref 138), some (.int (nI p))]) (rest := []) (rr := some (.int 1)) (M1 := (mk_M c n m kk (rT (he, ke, ki, fi, fa, or, mi, a, g, l, w, s) xm xi xw im le nu rf ln nn vp xn xc vs))) (fun f => rfl) (ms_m2_ok (x := (nI p)) (b := (nI (mi - 1))) (pk_sub (a := mi) (b := 1) (by omega)) (fun e_ => absurd ((nI_ltI (a := p) (b := 0) (by omega) (by omega)).mp e_) (by omega)) (fun e_ => absurd ((nI_ltI (a := mi - 1) (b := p) (by omega) (by omega)).mp e_) (by omega))) ?_
  refine me_seg 3 (pc1 := 22) (ls1 := [some (.ref 138), some (.int (nI p))]) (st1 := [.int (nI p), .ref 138]) (M1 := (mk_M c n m kk (rT (he, ke, ki, fi, fa, or, mi, a, g, l, w, s) xm xi xw im le nu rf ln nn vp xn xc vs))) (fun f => rfl) ?_
  refine me_callE (y := 176) (y0 := 25) (L := [some (.ref 138), some (.int (nI p)), none]) (rest := []) (fun f => rfl) (tm_do he ke ki fi fa or mi a g l w s xi im le nu rf ln nn c n m kk hA hC xm xw vp xn xc vs ⟨(by assumption), (by assumption), (by assumption), (by assumption)⟩ p (by omega)) ?_
  rintro _ _ ⟨rfl, xm_1, xw_1, vp_1, xn_1, xc_1, vs_1, rfl, hR_1⟩
  obtain ⟨r1_1, r2_1, r3_1, r4_1⟩ := id hR_1
  refine me_ret 2 (r := some (.int (kI (kwf 60 1 (he, ke, ki, fi, fa, or, mi, a, g, l, w, s) p (kg fa p))))) (M1 := (mk_M c n m kk (rT (he, ke, ki, fi, fa, or, mi, a, g, l, w, s) xm_1 xi xw_1 im le nu rf ln nn vp_1 xn_1 xc_1 vs_1))) (fun f => rfl) ?_
  exact ⟨rfl, _, _, _, _, _, _, rfl, ⟨(by assumption), (by assumption), (by assumption), (by assumption)⟩⟩
set_option maxRecDepth 100000 in
theorem tcL_down (he ke ki fi fa or : List Nat) (mi a g l w s : Nat) (im : Nat) (le : List Nat) (ln : Nat) (ys : List Int32) (vt : Int32) (nu : List Nat) (nn : Nat) (rf : List Nat) (yc yh yg : List Int32) (kk : kG) (q : cR) (hA : iA (he, ke, ki, fi, fa, or, mi, a, g, l, w, s)) (k : Nat) : ∀ (j : Nat) (p : Option Nat × Option Nat) (m : kG), j + k = mi → kle p.2 → kSh m → mm_E 81 16 [some (.ref 100), some (.int (-1)), some (.int (nI j))] [] (mk_M (cT im le ln ys vt nu nn rf (kI p.1) (kN p.2) yc yh yg) (kr (he, ke, ki, fi, fa, or, mi, a, g, l, w, s)) m kk q) (fun r M1 => r = some (.int (kI (ksoon (fun j => kwf 60 1 (he, ke, ki, fi, fa, or, mi, a, g, l, w, s) j (kg fa j)) k j p).1)) ∧ ∃ (v1 v2 : Int32) (m2 : kG), kSh m2 ∧ M1 = mk_M (cT im le ln ys vt nu nn rf v1 v2 yc yh yg) (kr (he, ke, ki, fi, fa, or, mi, a, g, l, w, s)) m2 kk q) := by
  obtain ⟨hV, hst⟩ := id hA
  have hst2 : s ≤ 999 := hst
  obtain ⟨v1, v2, v3, v4, v5, v6, v7, v8, v9, v10, v11, v12, v13, v14, v15, v16⟩ := id hV
  have v6l := kO_len mi v7 or v6
  induction k with
  | zero =>
    intro j p m hj hp hm
    refine me_seg 4 (pc1 := 24) (ls1 := [some (.ref 100), some (.int (-1)), some (.int (nI j))]) (st1 := [.int (nI mi), .int (nI j)]) (M1 := (mk_M (cT im le ln ys vt nu nn rf (kI p.1) (kN p.2) yc yh yg) (kr (he, ke, ki, fi, fa, or, mi, a, g, l, w, s)) m kk q)) (fun f => rfl) ?_
    refine me_t (C := (nI mi) ≤ (nI j)) ((nI_leI (a := mi) (b := j) (by omega) (by omega)).mpr (by omega)) (fun f => rfl) ?_
    refine me_ret 4 (r := some (.int (kI p.1))) (M1 := (mk_M (cT im le ln ys vt nu nn rf (kI p.1) (kN p.2) yc yh yg) (kr (he, ke, ki, fi, fa, or, mi, a, g, l, w, s)) m kk q)) (fun f => rfl) ?_
    exact ⟨rfl, _, _, m, hm, rfl⟩
  | succ k IH =>
    intro j p m hj hp hm
    refine me_seg 4 (pc1 := 24) (ls1 := [some (.ref 100), some (.int (-1)), some (.int (nI j))]) (st1 := [.int (nI mi), .int (nI j)]) (M1 := (mk_M (cT im le ln ys vt nu nn rf (kI p.1) (kN p.2) yc yh yg) (kr (he, ke, ki, fi, fa, or, mi, a, g, l, w, s)) m kk q)) (fun f => rfl) ?_
    refine me_f (C := (nI mi) ≤ (nI j)) (fun e_ => absurd ((nI_leI (a := mi) (b := j) (by omega) (by omega)).mp e_) (by omega)) (fun f => rfl) ?_
    refine me_seg 4 (pc1 := 33) (ls1 := [some (.ref 100), some (.int (-1)), some (.int (nI j))]) (st1 := [.ref 100, .int (nI j), .ref 106]) (M1 := (mk_M (cT im le ln ys vt nu nn rf (kI p.1) (kN p.2) yc yh yg) (kr (he, ke, ki, fi, fa, or, mi, a, g, l, w, s)) m kk q)) (fun f => rfl) ?_
    refine me_call (y := 75) (y0 := 36) (L := [some (.ref 100)]) (rest := [.int (nI j), .ref 106]) (rr := some (.ref 124)) (M1 := (mk_M (cT im le ln ys vt nu nn rf (kI p.1) (kN p.2) yc yh yg) (kr (he, ke, ki, fi, fa, or, mi, a, g, l, w, s)) (kr (he, ke, ki, fi, fa, or, mi, a, g, l, w, s)) kk q)) (fun f => rfl) (cc_now (he, ke, ki, fi, fa, or, mi, a, g, l, w, s) (cT im le ln ys vt nu nn rf (kI p.1) (kN p.2) yc yh yg) m kk q hV hm) ?_
    refine me_seg 1 (pc1 := 37) (ls1 := [some (.ref 100), some (.int (-1)), some (.int (nI j))]) (st1 := [.int (nI j), .ref 124, .int (nI j), .ref 106]) (M1 := (mk_M (cT im le ln ys vt nu nn rf (kI p.1) (kN p.2) yc yh yg) (kr (he, ke, ki, fi, fa, or, mi, a, g, l, w, s)) (kr (he, ke, ki, fi, fa, or, mi, a, g, l, w, s)) kk q)) (fun f => rfl) ?_
    refine me_call (y := 83) (y0 := 40) (L := [some (.ref 124), some (.int (nI j)), none, none]) (rest := [.int (nI j), .ref 106]) (rr := some (.int (kN (kwf 60 1 (he, ke, ki, fi, fa, or, mi, a, g, l, w, s) j (kg fa j))))) (M1 := (mk_M (cT im le ln ys vt nu nn rf (kI p.1) (kN p.2) yc yh yg) (kr (he, ke, ki, fi, fa, or, mi, a, g, l, w, s)) (kr (kwfK 60 (he, ke, ki, fi, fa, or, mi, a, g, l, w, s) j (kg fa j))) kk q)) (fun f => rfl) (kl_m (cT im le ln ys vt nu nn rf (kI p.1) (kN p.2) yc yh yg) (kr (he, ke, ki, fi, fa, or, mi, a, g, l, w, s)) kk q (kc_wf j (by omega) (he, ke, ki, fi, fa, or, mi, a, g, l, w, s) hV (show s < 2 ^ 20 by omega))) ?_
    refine me_call (y := 84) (y0 := 43) (L := [some (.ref 106), some (.int (nI j)), some (.int (kN (kwf 60 1 (he, ke, ki, fi, fa, or, mi, a, g, l, w, s) j (kg fa j))))]) (rest := []) (rr := none) (M1 := (mk_M (cT im le ln ys vt nu nn rf (kI (kup j (kwf 60 1 (he, ke, ki, fi, fa, or, mi, a, g, l, w, s) j (kg fa j)) p).1) (kN (kup j (kwf 60 1 (he, ke, ki, fi, fa, or, mi, a, g, l, w, s) j (kg fa j)) p).2) yc yh yg) (kr (he, ke, ki, fi, fa, or, mi, a, g, l, w, s)) (kr (kwfK 60 (he, ke, ki, fi, fa, or, mi, a, g, l, w, s) j (kg fa j))) kk q)) (fun f => rfl) (so_l im le ln ys vt nu nn rf yc yh yg (kr (he, ke, ki, fi, fa, or, mi, a, g, l, w, s)) (kr (kwfK 60 (he, ke, ki, fi, fa, or, mi, a, g, l, w, s) j (kg fa j))) kk q (cc_offer j (kwf 60 1 (he, ke, ki, fi, fa, or, mi, a, g, l, w, s) j (kg fa j)) p (kle_wf _ _ _) hp)) ?_
    refine me_seg 1 (pc1 := 46) (ls1 := [some (.ref 100), some (.int (-1)), some (.int ((nI j) + 1))]) (st1 := []) (M1 := (mk_M (cT im le ln ys vt nu nn rf (kI (kup j (kwf 60 1 (he, ke, ki, fi, fa, or, mi, a, g, l, w, s) j (kg fa j)) p).1) (kN (kup j (kwf 60 1 (he, ke, ki, fi, fa, or, mi, a, g, l, w, s) j (kg fa j)) p).2) yc yh yg) (kr (he, ke, ki, fi, fa, or, mi, a, g, l, w, s)) (kr (kwfK 60 (he, ke, ki, fi, fa, or, mi, a, g, l, w, s) j (kg fa j))) kk q)) (fun f => rfl) ?_
    refine me_l (fun q_ => [some (.ref 100), some (.int (-1)), some (.int q_)]) (nI_add j 1) ?_
    refine me_seg 1 (pc1 := 16) (ls1 := [some (.ref 100), some (.int (-1)), some (.int (nI (j + 1)))]) (st1 := []) (M1 := (mk_M (cT im le ln ys vt nu nn rf (kI (kup j (kwf 60 1 (he, ke, ki, fi, fa, or, mi, a, g, l, w, s) j (kg fa j)) p).1) (kN (kup j (kwf 60 1 (he, ke, ki, fi, fa, or, mi, a, g, l, w, s) j (kg fa j)) p).2) yc yh yg) (kr (he, ke, ki, fi, fa, or, mi, a, g, l, w, s)) (kr (kwfK 60 (he, ke, ki, fi, fa, or, mi, a, g, l, w, s) j (kg fa j))) kk q)) (fun f => rfl) ?_
    exact IH (j + 1) (kup j (kwf 60 1 (he, ke, ki, fi, fa, or, mi, a, g, l, w, s) j (kg fa j)) p) (kr (kwfK 60 (he, ke, ki, fi, fa, or, mi, a, g, l, w, s) j (kg fa j))) (by omega) (kle_up (kle_wf _ _ _) hp) (kSh_r (kV_wfK 60 j (kg fa j) hV))
set_option maxRecDepth 100000 in
theorem tc_down_0 (he ke ki fi fa or : List Nat) (mi a g l w s : Nat) (im : Nat) (le : List Nat) (ln : Nat) (ys : List Int32) (vt : Int32) (nu : List Nat) (nn : Nat) (rf : List Nat) (kk : kG) (q : cR) (hA : iA (he, ke, ki, fi, fa, or, mi, a, g, l, w, s)) (hC : iC nu nn) (vw vq : Int32) (yc yh yg : List Int32) (m : kG) (hJ : iJ m ys yc yh yg) : mm_E 81 0 [some (.ref 100), some (.int (-1)), none] [] (mk_M (cT im le ln ys vt nu nn rf vw vq yc yh yg) (kr (he, ke, ki, fi, fa, or, mi, a, g, l, w, s)) m kk q) (pC (fun r => r = some (.int (kI (ksoon (fun j => kwf 60 1 (he, ke, ki, fi, fa, or, mi, a, g, l, w, s) j (kg fa j)) mi 0 (none, none)).1))) (he, ke, ki, fi, fa, or, mi, a, g, l, w, s) im le ln ys vt nu nn rf kk q) := by
  obtain ⟨hV, hst⟩ := id hA
  have hst2 : s ≤ 999 := hst
  obtain ⟨v1, v2, v3, v4, v5, v6, v7, v8, v9, v10, v11, v12, v13, v14, v15, v16⟩ := id hV
  have v6l := kO_len mi v7 or v6
  obtain ⟨c1, c2, c3⟩ := id hC
  obtain ⟨j0, j1, j2, j3, j4⟩ := id hJ
  refine me_seg 6 (pc1 := 11) (ls1 := [some (.ref 100), some (.int (-1)), none]) (st1 := [.int 1000000, .ref 106]) (M1 := (mk_M (cT im le ln ys vt nu nn rf vw vq yc yh yg) (kr (he, ke, ki, fi, fa, or, mi, a, g, l, w, s)) m kk q)) (fun f => rfl) ?_
  refine me_call (y := 82) (y0 := 14) (L := [some (.ref 106), some (.int 1000000)]) (rest := []) (rr := none) (M1 := (mk_M (cT im le ln ys vt nu nn rf (-9) 1000000 yc yh yg) (kr (he, ke, ki, fi, fa, or, mi, a, g, l, w, s)) m kk q)) (fun f => rfl) (by
      exact mr_ret 7 (fun f => rfl)) ?_
  refine me_seg 2 (pc1 := 16) (ls1 := [some (.ref 100), some (.int (-1)), some (.int 0)]) (st1 := []) (M1 := (mk_M (cT im le ln ys vt nu nn rf (-9) 1000000 yc yh yg) (kr (he, ke, ki, fi, fa, or, mi, a, g, l, w, s)) m kk q)) (fun f => rfl) ?_
  refine me_mp (tcL_down he ke ki fi fa or mi a g l w s im le ln ys vt nu nn rf yc yh yg kk q hA mi 0 (none, none) m (by omega) kle_n (by assumption)) ?_
  rintro r M1 ⟨hr, v1, v2, m2, hm2, rfl⟩
  exact ⟨hr, v1, v2, _, _, _, m2, rfl, hm2, j1, by assumption, by assumption, by assumption⟩
def kFA (o : Option Nat) : Int32 := match o with
  | some v => nI v
  | none => 1000000000
theorem kFA_lt {v : Nat} {b : Option Nat} (hv : v ≤ 60) (hb : kle b) : nI v < kFA b ↔ klt (some v) b = true := by
  cases b with
  | none => exact ⟨fun _ => rfl, fun _ => (nI_ltI (a := v) (b := 1000000000) (by omega) (by omega)).mpr (by omega)⟩
  | some u =>
    have hu := hb u rfl
    exact ⟨fun h => decide_eq_true ((nI_ltI (by omega) (by omega)).mp h), fun h => (nI_ltI (by omega) (by omega)).mpr (of_decide_eq_true h)⟩
set_option maxRecDepth 100000 in
theorem tmL_down (he ke ki fi fa or : List Nat) (mi a g l w s : Nat) (xi : List Int32) (im : Nat) (le nu rf : List Nat) (ln nn : Nat) (c : cC) (n m kk : kG) (hA : iA (he, ke, ki, fi, fa, or, mi, a, g, l, w, s)) (hC : iC nu nn) (k : Nat) : ∀ (j : Nat) (p : Option Nat × Option Nat) (lo4 : Option Value) (xm xw : List Int32) (vp : Int32) (xn xc : List Int32) (vs : Int32), j + k = mi → iR xm xw xn xc → kle p.2 → mm_E 175 8 [some (.ref 138), some (.int (kI p.1)), some (.int (kFA p.2)), some (.int (nI j)), lo4] [] (mk_M c n m kk (rT (he, ke, ki, fi, fa, or, mi, a, g, l, w, s) xm xi xw im le nu rf ln nn vp xn xc vs)) (pM (fun r => r = some (.int (kI (ksoon (fun j => kwf 60 1 (he, ke, ki, fi, fa, or, mi, a, g, l, w, s) j (kg fa j)) k j p).1))) (he, ke, ki, fi, fa, or, mi, a, g, l, w, s) xi im le nu rf ln nn c n m kk) := by
  obtain ⟨hV, hst⟩ := id hA
  have hst2 : s ≤ 999 := hst
  obtain ⟨v1, v2, v3, v4, v5, v6, v7, v8, v9, v10, v11, v12, v13, v14, v15, v16⟩ := id hV
  have v6l := kO_len mi v7 or v6
  obtain ⟨c1, c2, c3⟩ := id hC
  induction k with
  | zero =>
    intro j p lo4 xm xw vp xn xc vs hj hR hp
    obtain ⟨r1, r2, r3, r4⟩ := id hR
    refine me_seg 4 (pc1 := 14) (ls1 := [some (.ref 138), some (.int (kI p.1)), some (.int (kFA p.2)), some (.int (nI j)), lo4]) (st1 := [.int 0, .ref 139, .int (nI j)]) (M1 := (mk_M c n m kk (rT (he, ke, ki, fi, fa, or, mi, a, g, l, w, s) xm xi xw im le nu rf ln nn vp xn xc vs))) (fun f => rfl) ?_
    refine me_ldn (xs := (er (he, ke, ki, fi, fa, or, mi, a, g, l, w, s))) rfl rfl (k := 0) (by decide) rfl ?_
    refine me_t (C := (nI mi) ≤ (nI j)) ((nI_leI (a := mi) (b := j) (by omega) (by omega)).mpr (by omega)) (fun f => rfl) ?_
    refine me_ret 2 (r := some (.int (kI p.1))) (M1 := (mk_M c n m kk (rT (he, ke, ki, fi, fa, or, mi, a, g, l, w, s) xm xi xw im le nu rf ln nn vp xn xc vs))) (fun f => rfl) ?_
    exact ⟨rfl, _, _, _, _, _, _, rfl, ⟨(by assumption), (by assumption), (by assumption), (by assumption)⟩⟩
  | succ k IH =>
    intro j p lo4 xm xw vp xn xc vs hj hR hp
    obtain ⟨r1, r2, r3, r4⟩ := id hR
    refine me_seg 4 (pc1 := 14) (ls1 := [some (.ref 138), some (.int (kI p.1)), some (.int (kFA p.2)), some (.int (nI j)), lo4]) (st1 := [.int 0, .ref 139, .int (nI j)]) (M1 := (mk_M c n m kk (rT (he, ke, ki, fi, fa, or, mi, a, g, l, w, s) xm xi xw im le nu rf ln nn vp xn xc vs))) (fun f => rfl) ?_
    refine me_ldn (xs := (er (he, ke, ki, fi, fa, or, mi, a, g, l, w, s))) rfl rfl (k := 0) (by decide) rfl ?_
    refine me_f (C := (nI mi) ≤ (nI j)) (fun e_ => absurd ((nI_leI (a := mi) (b := j) (by omega) (by omega)).mp e_) (by omega)) (fun f => rfl) ?_
    refine me_seg 2 (pc1 := 20) (ls1 := [some (.ref 138), some (.int (kI p.1)), some (.int (kFA p.2)), some (.int (nI j)), lo4]) (st1 := [.int (nI j), .ref 138]) (M1 := (mk_M c n m kk (rT (he, ke, ki, fi, fa, or, mi, a, g, l, w, s) xm xi xw im le nu rf ln nn vp xn xc vs))) (fun f => rfl) ?_
    refine me_callE (y := 176) (y0 := 23) (L := [some (.ref 138), some (.int (nI j)), none]) (rest := []) (fun f => rfl) (tm_do he ke ki fi fa or mi a g l w s xi im le nu rf ln nn c n m kk hA hC xm xw vp xn xc vs ⟨(by assumption), (by assumption), (by assumption), (by assumption)⟩ j (by omega)) ?_
    rintro _ _ ⟨rfl, xm_1, xw_1, vp_1, xn_1, xc_1, vs_1, rfl, hR_1⟩
    obtain ⟨r1_1, r2_1, r3_1, r4_1⟩ := id hR_1
    rcases hf : kwf 60 1 (he, ke, ki, fi, fa, or, mi, a, g, l, w, s) j (kg fa j) with _ | v
    · refine me_v (show kI none = (-9 : Int32) from rfl) ?_
      refine me_seg 4 (pc1 := 47) (ls1 := [some (.ref 138), some (.int (kI p.1)), some (.int (kFA p.2)), some (.int ((nI j) + 1)), some (.int (-9))]) (st1 := []) (M1 := (mk_M c n m kk (rT (he, ke, ki, fi, fa, or, mi, a, g, l, w, s) xm_1 xi xw_1 im le nu rf ln nn vp_1 xn_1 xc_1 vs_1))) (fun f => rfl) ?_
      refine me_l (fun q_ => [some (.ref 138), some (.int (kI p.1)), some (.int (kFA p.2)), some (.int q_), some (.int (-9))]) (nI_add j 1) ?_
      refine me_seg 1 (pc1 := 8) (ls1 := [some (.ref 138), some (.int (kI p.1)), some (.int (kFA p.2)), some (.int (nI (j + 1))), some (.int (-9))]) (st1 := []) (M1 := (mk_M c n m kk (rT (he, ke, ki, fi, fa, or, mi, a, g, l, w, s) xm_1 xi xw_1 im le nu rf ln nn vp_1 xn_1 xc_1 vs_1))) (fun f => rfl) ?_
      have e2 : ksoon (fun j => kwf 60 1 (he, ke, ki, fi, fa, or, mi, a, g, l, w, s) j (kg fa j)) (k + 1) j p = ksoon (fun j => kwf 60 1 (he, ke, ki, fi, fa, or, mi, a, g, l, w, s) j (kg fa j)) k (j + 1) (kup j (kwf 60 1 (he, ke, ki, fi, fa, or, mi, a, g, l, w, s) j (kg fa j)) p) := rfl
      rw [e2, hf, show kup j none p = p from rfl]
      exact IH (j + 1) p (some (.int (-9))) xm_1 xw_1 vp_1 xn_1 xc_1 vs_1 (by omega) ⟨(by assumption), (by assumption), (by assumption), (by assumption)⟩ hp
    · have hv := kwf_le 60 1 _ _ _ v hf
      refine me_v (show kI (some v) = nI v from rfl) ?_
      refine me_seg 2 (pc1 := 27) (ls1 := [some (.ref 138), some (.int (kI p.1)), some (.int (kFA p.2)), some (.int (nI j)), some (.int (nI v))]) (st1 := [.int (nI v)]) (M1 := (mk_M c n m kk (rT (he, ke, ki, fi, fa, or, mi, a, g, l, w, s) xm_1 xi xw_1 im le nu rf ln nn vp_1 xn_1 xc_1 vs_1))) (fun f => rfl) ?_
      refine me_f (C := (nI v) < 0) (fun e_ => absurd ((nI_ltI (a := v) (b := 0) (by omega) (by omega)).mp e_) (by omega)) (fun f => rfl) ?_
      refine me_seg 2 (pc1 := 33) (ls1 := [some (.ref 138), some (.int (kI p.1)), some (.int (kFA p.2)), some (.int (nI j)), some (.int (nI v))]) (st1 := [.int (kFA p.2), .int (nI v)]) (M1 := (mk_M c n m kk (rT (he, ke, ki, fi, fa, or, mi, a, g, l, w, s) xm_1 xi xw_1 im le nu rf ln nn vp_1 xn_1 xc_1 vs_1))) (fun f => rfl) ?_
      refine me_ifN (C := (nI v) < (kFA p.2)) (kFA_lt (by omega) hp) (fun f => rfl) (fun h2 => ?_) (fun h2 => ?_)
      · refine me_seg 5 (pc1 := 47) (ls1 := [some (.ref 138), some (.int (nI j)), some (.int (nI v)), some (.int ((nI j) + 1)), some (.int (nI v))]) (st1 := []) (M1 := (mk_M c n m kk (rT (he, ke, ki, fi, fa, or, mi, a, g, l, w, s) xm_1 xi xw_1 im le nu rf ln nn vp_1 xn_1 xc_1 vs_1))) (fun f => rfl) ?_
        refine me_l (fun q_ => [some (.ref 138), some (.int (nI j)), some (.int (nI v)), some (.int q_), some (.int (nI v))]) (nI_add j 1) ?_
        refine me_seg 1 (pc1 := 8) (ls1 := [some (.ref 138), some (.int (nI j)), some (.int (nI v)), some (.int (nI (j + 1))), some (.int (nI v))]) (st1 := []) (M1 := (mk_M c n m kk (rT (he, ke, ki, fi, fa, or, mi, a, g, l, w, s) xm_1 xi xw_1 im le nu rf ln nn vp_1 xn_1 xc_1 vs_1))) (fun f => rfl) ?_
        have e2 : ksoon (fun j => kwf 60 1 (he, ke, ki, fi, fa, or, mi, a, g, l, w, s) j (kg fa j)) (k + 1) j p = ksoon (fun j => kwf 60 1 (he, ke, ki, fi, fa, or, mi, a, g, l, w, s) j (kg fa j)) k (j + 1) (kup j (kwf 60 1 (he, ke, ki, fi, fa, or, mi, a, g, l, w, s) j (kg fa j)) p) := rfl
        rw [e2, hf, show kup j (some v) p = (some j, some v) from if_pos h2]
        exact IH (j + 1) (some j, some v) (some (.int (nI v))) xm_1 xw_1 vp_1 xn_1 xc_1 vs_1 (by omega) ⟨(by assumption), (by assumption), (by assumption), (by assumption)⟩ (fun u hu => by cases hu; omega)
      · refine me_seg 2 (pc1 := 47) (ls1 := [some (.ref 138), some (.int (kI p.1)), some (.int (kFA p.2)), some (.int ((nI j) + 1)), some (.int (nI v))]) (st1 := []) (M1 := (mk_M c n m kk (rT (he, ke, ki, fi, fa, or, mi, a, g, l, w, s) xm_1 xi xw_1 im le nu rf ln nn vp_1 xn_1 xc_1 vs_1))) (fun f => rfl) ?_
        refine me_l (fun q_ => [some (.ref 138), some (.int (kI p.1)), some (.int (kFA p.2)), some (.int q_), some (.int (nI v))]) (nI_add j 1) ?_
        refine me_seg 1 (pc1 := 8) (ls1 := [some (.ref 138), some (.int (kI p.1)), some (.int (kFA p.2)), some (.int (nI (j + 1))), some (.int (nI v))]) (st1 := []) (M1 := (mk_M c n m kk (rT (he, ke, ki, fi, fa, or, mi, a, g, l, w, s) xm_1 xi xw_1 im le nu rf ln nn vp_1 xn_1 xc_1 vs_1))) (fun f => rfl) ?_
        have e2 : ksoon (fun j => kwf 60 1 (he, ke, ki, fi, fa, or, mi, a, g, l, w, s) j (kg fa j)) (k + 1) j p = ksoon (fun j => kwf 60 1 (he, ke, ki, fi, fa, or, mi, a, g, l, w, s) j (kg fa j)) k (j + 1) (kup j (kwf 60 1 (he, ke, ki, fi, fa, or, mi, a, g, l, w, s) j (kg fa j)) p) := rfl
        rw [e2, hf, show kup j (some v) p = p from if_neg h2]
        exact IH (j + 1) p (some (.int (nI v))) xm_1 xw_1 vp_1 xn_1 xc_1 vs_1 (by omega) ⟨(by assumption), (by assumption), (by assumption), (by assumption)⟩ hp
set_option maxRecDepth 100000 in
theorem tm_fd (he ke ki fi fa or : List Nat) (mi a g l w s : Nat) (xi : List Int32) (im : Nat) (le nu rf : List Nat) (ln nn : Nat) (c : cC) (n m kk : kG) (hA : iA (he, ke, ki, fi, fa, or, mi, a, g, l, w, s)) (hC : iC nu nn) (xm xw : List Int32) (vp : Int32) (xn xc : List Int32) (vs : Int32) (hR : iR xm xw xn xc) : mm_E 175 0 [some (.ref 138), none, none, none, none] [] (mk_M c n m kk (rT (he, ke, ki, fi, fa, or, mi, a, g, l, w, s) xm xi xw im le nu rf ln nn vp xn xc vs)) (pM (fun r => r = some (.int (kI (ksoon (fun j => kwf 60 1 (he, ke, ki, fi, fa, or, mi, a, g, l, w, s) j (kg fa j)) mi 0 (none, none)).1))) (he, ke, ki, fi, fa, or, mi, a, g, l, w, s) xi im le nu rf ln nn c n m kk) := by
  obtain ⟨hV, hst⟩ := id hA
  have hst2 : s ≤ 999 := hst
  obtain ⟨v1, v2, v3, v4, v5, v6, v7, v8, v9, v10, v11, v12, v13, v14, v15, v16⟩ := id hV
  have v6l := kO_len mi v7 or v6
  obtain ⟨c1, c2, c3⟩ := id hC
  obtain ⟨r1, r2, r3, r4⟩ := id hR
  refine me_seg 6 (pc1 := 8) (ls1 := [some (.ref 138), some (.int (-9)), some (.int 1000000000), some (.int 0), none]) (st1 := []) (M1 := (mk_M c n m kk (rT (he, ke, ki, fi, fa, or, mi, a, g, l, w, s) xm xi xw im le nu rf ln nn vp xn xc vs))) (fun f => rfl) ?_
  exact tmL_down he ke ki fi fa or mi a g l w s xi im le nu rf ln nn c n m kk hA hC mi 0 (none, none) none xm xw vp xn xc vs (by omega) ⟨(by assumption), (by assumption), (by assumption), (by assumption)⟩ kle_n
set_option maxRecDepth 100000 in
theorem tm_down_0 (he ke ki fi fa or : List Nat) (mi a g l w s : Nat) (xi : List Int32) (im : Nat) (le nu rf : List Nat) (ln nn : Nat) (c : cC) (n m kk : kG) (hA : iA (he, ke, ki, fi, fa, or, mi, a, g, l, w, s)) (hC : iC nu nn) (xm xw : List Int32) (vp : Int32) (xn xc : List Int32) (vs : Int32) (hR : iR xm xw xn xc) : mm_E 174 0 [some (.ref 138), some (.int (-1))] [] (mk_M c n m kk (rT (he, ke, ki, fi, fa, or, mi, a, g, l, w, s) xm xi xw im le nu rf ln nn vp xn xc vs)) (pM (fun r => r = some (.int (kI (ksoon (fun j => kwf 60 1 (he, ke, ki, fi, fa, or, mi, a, g, l, w, s) j (kg fa j)) mi 0 (none, none)).1))) (he, ke, ki, fi, fa, or, mi, a, g, l, w, s) xi im le nu rf ln nn c n m kk) := by
  obtain ⟨hV, hst⟩ := id hA
  have hst2 : s ≤ 999 := hst
  obtain ⟨v1, v2, v3, v4, v5, v6, v7, v8, v9, v10, v11, v12, v13, v14, v15, v16⟩ := id hV
  have v6l := kO_len mi v7 or v6
  obtain ⟨c1, c2, c3⟩ := id hC
  obtain ⟨r1, r2, r3, r4⟩ := id hR
  refine me_seg 4 (pc1 := 6) (ls1 := [some (.ref 138), some (.int (-1))]) (st1 := [.ref 138]) (M1 := (mk_M c n m kk (rT (he, ke, ki, fi, fa, or, mi, a, g, l, w, s) xm xi xw im le nu rf ln nn vp xn xc vs))) (fun f => rfl) ?_
  refine me_callE (y := 175) (y0 := 9) (L := [some (.ref 138), none, none, none, none]) (rest := []) (fun f => rfl) (tm_fd he ke ki fi fa or mi a g l w s xi im le nu rf ln nn c n m kk hA hC xm xw vp xn xc vs ⟨(by assumption), (by assumption), (by assumption), (by assumption)⟩) ?_
  rintro _ _ ⟨rfl, xm_9, xw_9, vp_9, xn_9, xc_9, vs_9, rfl, hR_9⟩
  obtain ⟨r1_9, r2_9, r3_9, r4_9⟩ := id hR_9
  refine me_ret 2 (r := some (.int (kI (ksoon (fun j => kwf 60 1 (he, ke, ki, fi, fa, or, mi, a, g, l, w, s) j (kg fa j)) mi 0 (none, none)).1))) (M1 := (mk_M c n m kk (rT (he, ke, ki, fi, fa, or, mi, a, g, l, w, s) xm_9 xi xw_9 im le nu rf ln nn vp_9 xn_9 xc_9 vs_9))) (fun f => rfl) ?_
  exact ⟨rfl, _, _, _, _, _, _, rfl, ⟨(by assumption), (by assumption), (by assumption), (by assumption)⟩⟩
theorem ot_down {M : mm_H} (hM : kInv M) (x : Int32) : oI 81 174 [some (.ref 100), some (.int x), none] [some (.ref 138), some (.int x)] M := by
  obtain ⟨K, m, kk, im, le, ln, ys, vt, nu, nn, rf, vw, vq, yc, yh, yg, xm, xi, xw, vp, xn, xc, vs, rfl, hA, hB, hC, hD, hJ, hR, hK⟩ := hM
  obtain ⟨he, ke, ki, fi, fa, or, mi, a, g, l, w, s⟩ := K
  have v7 : mi ≤ 5 := hA.1.2.2.2.2.2.2.1
  rcases k_m1x x with hx | rfl | hx
  · exact oe_down_0 he ke ki fi fa or mi a g l w s m kk im le ln ys vt nu nn rf vw vq yc yh yg xm xi xw vp xn xc vs hA hB hC hD hJ hR hK x hx
  · exact oI_of (kI (ksoon (fun j => kwf 60 1 (he, ke, ki, fi, fa, or, mi, a, g, l, w, s) j (kg fa j)) mi 0 (none, none)).1) hA hB hC hD hK (tc_down_0 he ke ki fi fa or mi a g l w s im le ln ys vt nu nn rf kk _ hA hC vw vq yc yh yg m hJ) (fun c n m kk => tm_down_0 he ke ki fi fa or mi a g l w s xi im le nu rf ln nn c n m kk hA hC xm xw vp xn xc vs hR)
  · rcases k_ms x v7 with h9 | h9 | ⟨p, hp, rfl⟩
    · exact absurd hx (by omega)
    · exact oe_down_1 he ke ki fi fa or mi a g l w s m kk im le ln ys vt nu nn rf vw vq yc yh yg xm xi xw vp xn xc vs hA hB hC hD hJ hR hK x h9
    · exact oI_of (kI (kwf 60 1 (he, ke, ki, fi, fa, or, mi, a, g, l, w, s) p (kg fa p))) hA hB hC hD hK (tc_down_1 he ke ki fi fa or mi a g l w s im le ln ys vt nu nn rf kk _ hA hC vw vq yc yh yg m hJ p hp) (fun c n m kk => tm_down_1 he ke ki fi fa or mi a g l w s xi im le nu rf ln nn c n m kk hA hC xm xw vp xn xc vs hR p hp)
