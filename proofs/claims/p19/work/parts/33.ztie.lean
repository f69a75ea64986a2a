/-! ===== a call, tied ===== -/
theorem oI_of {K : kK} {m kk : kG} {im : Nat} {le : List Nat} {ln : Nat} {ys : List Int32} {vt : Int32} {nu : List Nat} {nn : Nat} {rf : List Nat} {vw vq : Int32} {yc yh yg xm xi xw : List Int32} {vp : Int32} {xn xc : List Int32} {vs : Int32} {nn2 : Nat} (V : Int32) (hA : iA K) (hB : iB le ln) (hC2 : iC nu nn2) (hD : iD rf) (hK : iK im kk xi) {zc zm : Nat} {lc lm : mm_L}
    (h1 : mm_E zc 0 lc [] (mk_M (cT im le ln ys vt nu nn rf vw vq yc yh yg) (kr K) m kk (rT K xm xi xw im le nu rf ln nn vp xn xc vs)) (pC (fun r => r = some (.int V)) K im le ln ys vt nu nn2 rf kk (rT K xm xi xw im le nu rf ln nn vp xn xc vs)))
    (h2 : ∀ (c : cC) (n m kk : kG), mm_E zm 0 lm [] (mk_M c n m kk (rT K xm xi xw im le nu rf ln nn vp xn xc vs)) (pM (fun r => r = some (.int V)) K xi im le nu rf ln nn2 c n m kk)) : oI zc zm lc lm (mk_M (cT im le ln ys vt nu nn rf vw vq yc yh yg) (kr K) m kk (rT K xm xi xw im le nu rf ln nn vp xn xc vs)) := by
  obtain ⟨_, _, r1, rfl, vw2, vq2, yc2, yh2, yg2, m2, rfl, hJ2⟩ := h1
  obtain ⟨_, _, r2, rfl, xm2, xw2, vp2, xn2, xc2, vs2, rfl, hR2⟩ := h2 (cT im le ln ys vt nu nn2 rf vw2 vq2 yc2 yh2 yg2) (kr K) m2 kk
  exact ⟨V, _, _, r1, r2, K, m2, kk, im, le, ln, ys, vt, nu, nn2, rf, vw2, vq2, yc2, yh2, yg2, xm2, xi, xw2, vp2, xn2, xc2, vs2, rfl, hA, hB, hC2, hD, hJ2, hR2, hK⟩
theorem oL_of {K : kK} {m kk : kG} {im : Nat} {le : List Nat} {ln : Nat} {ys : List Int32} {vt : Int32} {nu : List Nat} {nn : Nat} {rf : List Nat} {vw vq : Int32} {yc yh yg xm xi xw : List Int32} {vp : Int32} {xn xc : List Int32} {vs : Int32} (V : Int64) (hA : iA K) (hB : iB le ln) (hC2 : iC nu nn) (hD : iD rf) (hK : iK im kk xi) {zc zm : Nat} {lc lm : mm_L}
    (h1 : mm_E zc 0 lc [] (mk_M (cT im le ln ys vt nu nn rf vw vq yc yh yg) (kr K) m kk (rT K xm xi xw im le nu rf ln nn vp xn xc vs)) (pC (fun r => r = some (.long V)) K im le ln ys vt nu nn rf kk (rT K xm xi xw im le nu rf ln nn vp xn xc vs)))
    (h2 : ∀ (c : cC) (n m kk : kG), mm_E zm 0 lm [] (mk_M c n m kk (rT K xm xi xw im le nu rf ln nn vp xn xc vs)) (pM (fun r => r = some (.long V)) K xi im le nu rf ln nn c n m kk)) : oL zc zm lc lm (mk_M (cT im le ln ys vt nu nn rf vw vq yc yh yg) (kr K) m kk (rT K xm xi xw im le nu rf ln nn vp xn xc vs)) := by
  obtain ⟨_, _, r1, rfl, vw2, vq2, yc2, yh2, yg2, m2, rfl, hJ2⟩ := h1
  obtain ⟨_, _, r2, rfl, xm2, xw2, vp2, xn2, xc2, vs2, rfl, hR2⟩ := h2 (cT im le ln ys vt nu nn rf vw2 vq2 yc2 yh2 yg2) (kr K) m2 kk
  exact ⟨V, _, _, r1, r2, K, m2, kk, im, le, ln, ys, vt, nu, nn, rf, vw2, vq2, yc2, yh2, yg2, xm2, xi, xw2, vp2, xn2, xc2, vs2, rfl, hA, hB, hC2, hD, hJ2, hR2, hK⟩
def kstk : Nat → Nat → Nat → kK → Option Nat
  | 0, _, _, _ => none
  | r + 1, n, si, Q => if k_at (kstep Q 0) = k_at Q then (if 12 ≤ n - si then some si else kstk r (n + 1) si (kstep Q 0)) else kstk r (n + 1) n (kstep Q 0)
theorem kstk_y {r n si : Nat} {Q : kK} (h : k_at (kstep Q 0) = k_at Q) (h2 : 12 ≤ n - si) : kstk (r + 1) n si Q = some si := by
  show (if k_at (kstep Q 0) = k_at Q then (if 12 ≤ n - si then some si else kstk r (n + 1) si (kstep Q 0)) else kstk r (n + 1) n (kstep Q 0)) = _
  rw [if_pos h, if_pos h2]
theorem kstk_e {r n si : Nat} {Q : kK} (h : k_at (kstep Q 0) = k_at Q) (h2 : ¬ 12 ≤ n - si) : kstk (r + 1) n si Q = kstk r (n + 1) si (kstep Q 0) := by
  show (if k_at (kstep Q 0) = k_at Q then (if 12 ≤ n - si then some si else kstk r (n + 1) si (kstep Q 0)) else kstk r (n + 1) n (kstep Q 0)) = _
  rw [if_pos h, if_neg h2]
theorem kstk_m {r n si : Nat} {Q : kK} (h : ¬ k_at (kstep Q 0) = k_at Q) : kstk (r + 1) n si Q = kstk r (n + 1) n (kstep Q 0) := by
  show (if k_at (kstep Q 0) = k_at Q then (if 12 ≤ n - si then some si else kstk r (n + 1) si (kstep Q 0)) else kstk r (n + 1) n (kstep Q 0)) = _
  rw [if_neg h]
set_option maxRecDepth 100000 in
theorem tc_stuckL (he ke ki fi fa or : List Nat) (mi a g l w s : Nat) (im : Nat) (le : List Nat) (ln : Nat) (ys : List Int32) (vt : Int32) (nu : List Nat) (nn : Nat) (rf : List Nat) (kk : kG) (q : cR) (hA : iA (he, ke, ki, fi, fa, or, mi, a, g, l, w, s)) (hC : iC nu nn) (A : Option Nat) (k : Nat) : ∀ (j : Nat) (v : Nat) (lo4 : Option Value) (vw vq : Int32) (yc yh yg : List Int32) (Q : kK), j + k = 73 → iJ (kr Q) ys yc yh yg → kV Q → k_st Q + k < 2 ^ 20 → A = kstk k j v Q → v + 1 ≤ j → mm_E 85 9 [some (.ref 100), some (.ref 124), some (.int (nI v)), some (.int (nI j)), lo4] [] (mk_M (cT im le ln ys vt nu nn rf vw vq yc yh yg) (kr (he, ke, ki, fi, fa, or, mi, a, g, l, w, s)) (kr Q) kk q) (pC (fun r => r = some (.int (kI A))) (he, ke, ki, fi, fa, or, mi, a, g, l, w, s) im le ln ys vt nu nn rf kk q) := by
  obtain ⟨hV, hst⟩ := id hA
  have hst2 : s ≤ 999 := hst
  obtain ⟨v1, v2, v3, v4, v5, v6, v7, v8, v9, v10, v11, v12, v13, v14, v15, v16⟩ := id hV
  have v6l := kO_len mi v7 or v6
  obtain ⟨c1, c2, c3⟩ := id hC
  induction k with
  | zero =>
    intro j v lo4 vw vq yc yh yg Q hj hJ hQ hQs g0 g1
    obtain ⟨j0, j1, j2, j3, j4⟩ := id hJ
    have ha := kV_at hQ
    have ha2 := kV_at (kV_step hQ 0)
    refine me_seg 2 (pc1 := 12) (ls1 := [some (.ref 100), some (.ref 124), some (.int (nI v)), some (.int (nI j)), lo4]) (st1 := [.int 72, .int (nI j)]) (M1 := (mk_M (cT im le ln ys vt nu nn rf vw vq yc yh yg) (kr (he, ke, ki, fi, fa, or, mi, a, g, l, w, s)) (kr Q) kk q)) (fun f => rfl) ?_
    refine me_t (C := 72 < (nI j)) ((nI_ltI (a := 72) (b := j) (by omega) (by omega)).mpr (by omega)) (fun f => rfl) ?_
    refine me_ret 2 (r := some (.int (-9))) (M1 := (mk_M (cT im le ln ys vt nu nn rf vw vq yc yh yg) (kr (he, ke, ki, fi, fa, or, mi, a, g, l, w, s)) (kr Q) kk q)) (fun f => rfl) ?_
    exact ⟨(by rw [g0]; rfl), _, _, _, _, _, _, rfl, ⟨(kSh_r hQ), j1, by assumption, by assumption, by assumption⟩⟩
  | succ k IH =>
    intro j v lo4 vw vq yc yh yg Q hj hJ hQ hQs g0 g1
    obtain ⟨j0, j1, j2, j3, j4⟩ := id hJ
    have ha := kV_at hQ
    have ha2 := kV_at (kV_step hQ 0)
    refine me_seg 2 (pc1 := 12) (ls1 := [some (.ref 100), some (.ref 124), some (.int (nI v)), some (.int (nI j)), lo4]) (st1 := [.int 72, .int (nI j)]) (M1 := (mk_M (cT im le ln ys vt nu nn rf vw vq yc yh yg) (kr (he, ke, ki, fi, fa, or, mi, a, g, l, w, s)) (kr Q) kk q)) (fun f => rfl) ?_
    refine me_f (C := 72 < (nI j)) (fun e_ => absurd ((nI_ltI (a := 72) (b := j) (by omega) (by omega)).mp e_) (by omega)) (fun f => rfl) ?_
    refine me_seg 5 (pc1 := 23) (ls1 := [some (.ref 100), some (.ref 124), some (.int (nI v)), some (.int (nI j)), some (.int (nI (k_at Q)))]) (st1 := [.int 0, .ref 124]) (M1 := (mk_M (cT im le ln ys vt nu nn rf vw vq yc yh yg) (kr (he, ke, ki, fi, fa, or, mi, a, g, l, w, s)) (kr Q) kk q)) (fun f => rfl) ?_
    refine me_call (y := 44) (y0 := 26) (L := [some (.ref 124), some (.int 0), none, none, none]) (rest := []) (rr := none) (M1 := (mk_M (cT im le ln ys vt nu nn rf vw vq yc yh yg) (kr (he, ke, ki, fi, fa, or, mi, a, g, l, w, s)) (kr (kstep Q 0)) kk q)) (fun f => rfl) (kl_m (cT im le ln ys vt nu nn rf vw vq yc yh yg) (kr (he, ke, ki, fi, fa, or, mi, a, g, l, w, s)) kk q (kc_advQ Q 0 (by decide) hQ (Nat.lt_trans (m := 2 ^ 20) (by omega) (by decide)))) ?_
    refine me_seg 3 (pc1 := 32) (ls1 := [some (.ref 100), some (.ref 124), some (.int (nI v)), some (.int (nI j)), some (.int (nI (k_at Q)))]) (st1 := [.int (nI (k_at Q)), .int (nI (k_at (kstep Q 0)))]) (M1 := (mk_M (cT im le ln ys vt nu nn rf vw vq yc yh yg) (kr (he, ke, ki, fi, fa, or, mi, a, g, l, w, s)) (kr (kstep Q 0)) kk q)) (fun f => rfl) ?_
    refine me_ifN (C := (nI (k_at (kstep Q 0))) = (nI (k_at Q))) (nI_eq (a := k_at (kstep Q 0)) (b := k_at Q) (by omega) (by omega)) (fun f => rfl) (fun h1 => ?_) (fun h1 => ?_)
    · refine me_seg 3 (pc1 := 40) (ls1 := [some (.ref 100), some (.ref 124), some (.int (nI v)), some (.int (nI j)), some (.int (nI (k_at Q)))]) (st1 := [.int ((nI j) - (nI v))]) (M1 := (mk_M (cT im le ln ys vt nu nn rf vw vq yc yh yg) (kr (he, ke, ki, fi, fa, or, mi, a, g, l, w, s)) (kr (kstep Q 0)) kk q)) (fun f => rfl) ?_
      refine me_v (pk_sub (a := j) (b := v) (by omega)) ?_
      refine me_seg 1 (pc1 := 42) (ls1 := [some (.ref 100), some (.ref 124), some (.int (nI v)), some (.int (nI j)), some (.int (nI (k_at Q)))]) (st1 := [.int 12, .int (nI (j - v))]) (M1 := (mk_M (cT im le ln ys vt nu nn rf vw vq yc yh yg) (kr (he, ke, ki, fi, fa, or, mi, a, g, l, w, s)) (kr (kstep Q 0)) kk q)) (fun f => rfl) ?_
      refine me_ifN (C := (nI (j - v)) < 12) (nI_ltI (a := j - v) (b := 12) (by omega) (by omega)) (fun f => rfl) (fun h2 => ?_) (fun h2 => ?_)
      · refine me_seg 1 (pc1 := 50) (ls1 := [some (.ref 100), some (.ref 124), some (.int (nI v)), some (.int ((nI j) + 1)), some (.int (nI (k_at Q)))]) (st1 := []) (M1 := (mk_M (cT im le ln ys vt nu nn rf vw vq yc yh yg) (kr (he, ke, ki, fi, fa, or, mi, a, g, l, w, s)) (kr (kstep Q 0)) kk q)) (fun f => rfl) ?_
        refine me_l (fun q_ => [some (.ref 100), some (.ref 124), some (.int (nI v)), some (.int q_), some (.int (nI (k_at Q)))]) (nI_add j 1) ?_
        refine me_seg 1 (pc1 := 9) (ls1 := [some (.ref 100), some (.ref 124), some (.int (nI v)), some (.int (nI (j + 1))), some (.int (nI (k_at Q)))]) (st1 := []) (M1 := (mk_M (cT im le ln ys vt nu nn rf vw vq yc yh yg) (kr (he, ke, ki, fi, fa, or, mi, a, g, l, w, s)) (kr (kstep Q 0)) kk q)) (fun f => rfl) ?_
        exact IH (j + 1) v (some (.int (nI (k_at Q)))) vw vq yc yh yg (kstep Q 0) (by omega) ⟨(kSh_r (kV_step hQ 0)), j1, by assumption, by assumption, by assumption⟩ (kV_step hQ 0) (by first | omega | (rw [kst_step]; omega)) (g0.trans (kstk_e h1 (by omega))) (by omega)
      · refine me_ret 2 (r := some (.int (nI v))) (M1 := (mk_M (cT im le ln ys vt nu nn rf vw vq yc yh yg) (kr (he, ke, ki, fi, fa, or, mi, a, g, l, w, s)) (kr (kstep Q 0)) kk q)) (fun f => rfl) ?_
        exact ⟨(by rw [g0, kstk_y h1 (by omega)]; rfl), _, _, _, _, _, _, rfl, ⟨(kSh_r (kV_step hQ 0)), j1, by assumption, by assumption, by assumption⟩⟩
    · refine me_seg 5 (pc1 := 40) (ls1 := [some (.ref 100), some (.ref 124), some (.int (nI j)), some (.int (nI j)), some (.int (nI (k_at Q)))]) (st1 := [.int ((nI j) - (nI j))]) (M1 := (mk_M (cT im le ln ys vt nu nn rf vw vq yc yh yg) (kr (he, ke, ki, fi, fa, or, mi, a, g, l, w, s)) (kr (kstep Q 0)) kk q)) (fun f => rfl) ?_
      refine me_v (pk_sub (a := j) (b := j) (by omega)) ?_
      refine me_seg 1 (pc1 := 42) (ls1 := [some (.ref 100), some (.ref 124), some (.int (nI j)), some (.int (nI j)), some (.int (nI (k_at Q)))]) (st1 := [.int 12, .int (nI (j - j))]) (M1 := (mk_M (cT im le ln ys vt nu nn rf vw vq yc yh yg) (kr (he, ke, ki, fi, fa, or, mi, a, g, l, w, s)) (kr (kstep Q 0)) kk q)) (fun f => rfl) ?_
      refine me_t (C := (nI (j - j)) < 12) ((nI_ltI (a := j - j) (b := 12) (by omega) (by omega)).mpr (by omega)) (fun f => rfl) ?_
      refine me_seg 1 (pc1 := 50) (ls1 := [some (.ref 100), some (.ref 124), some (.int (nI j)), some (.int ((nI j) + 1)), some (.int (nI (k_at Q)))]) (st1 := []) (M1 := (mk_M (cT im le ln ys vt nu nn rf vw vq yc yh yg) (kr (he, ke, ki, fi, fa, or, mi, a, g, l, w, s)) (kr (kstep Q 0)) kk q)) (fun f => rfl) ?_
      refine me_l (fun q_ => [some (.ref 100), some (.ref 124), some (.int (nI j)), some (.int q_), some (.int (nI (k_at Q)))]) (nI_add j 1) ?_
      refine me_seg 1 (pc1 := 9) (ls1 := [some (.ref 100), some (.ref 124), some (.int (nI j)), some (.int (nI (j + 1))), some (.int (nI (k_at Q)))]) (st1 := []) (M1 := (mk_M (cT im le ln ys vt nu nn rf vw vq yc yh yg) (kr (he, ke, ki, fi, fa, or, mi, a, g, l, w, s)) (kr (kstep Q 0)) kk q)) (fun f => rfl) ?_
      exact IH (j + 1) j (some (.int (nI (k_at Q)))) vw vq yc yh yg (kstep Q 0) (by omega) ⟨(kSh_r (kV_step hQ 0)), j1, by assumption, by assumption, by assumption⟩ (kV_step hQ 0) (by first | omega | (rw [kst_step]; omega)) (g0.trans (kstk_m h1)) (by omega)
set_option maxRecDepth 100000 in
theorem tc_stuck (he ke ki fi fa or : List Nat) (mi a g l w s : Nat) (im : Nat) (le : List Nat) (ln : Nat) (ys : List Int32) (vt : Int32) (nu : List Nat) (nn : Nat) (rf : List Nat) (kk : kG) (q : cR) (hA : iA (he, ke, ki, fi, fa, or, mi, a, g, l, w, s)) (hC : iC nu nn) (vw vq : Int32) (yc yh yg : List Int32) (m : kG) (hJ : iJ m ys yc yh yg) : mm_E 85 0 [some (.ref 100), none, none, none, none] [] (mk_M (cT im le ln ys vt nu nn rf vw vq yc yh yg) (kr (he, ke, ki, fi, fa, or, mi, a, g, l, w, s)) m kk q) (pC (fun r => r = some (.int (kI (kstk 72 1 0 (he, ke, ki, fi, fa, or, mi, a, g, l, w, s))))) (he, ke, ki, fi, fa, or, mi, a, g, l, w, s) im le ln ys vt nu nn rf kk q) := by
  obtain ⟨hV, hst⟩ := id hA
  have hst2 : s ≤ 999 := hst
  obtain ⟨v1, v2, v3, v4, v5, v6, v7, v8, v9, v10, v11, v12, v13, v14, v15, v16⟩ := id hV
  have v6l := kO_len mi v7 or v6
  obtain ⟨c1, c2, c3⟩ := id hC
  obtain ⟨j0, j1, j2, j3, j4⟩ := id hJ
  refine me_seg 1 (pc1 := 1) (ls1 := [some (.ref 100), none, none, none, none]) (st1 := [.ref 100]) (M1 := (mk_M (cT im le ln ys vt nu nn rf vw vq yc yh yg) (kr (he, ke, ki, fi, fa, or, mi, a, g, l, w, s)) m kk q)) (fun f => rfl) ?_
  refine me_call (y := 75) (y0 := 4) (L := [some (.ref 100)]) (rest := []) (rr := some (.ref 124)) (M1 := (mk_M (cT im le ln ys vt nu nn rf vw vq yc yh yg) (kr (he, ke, ki, fi, fa, or, mi, a, g, l, w, s)) (kr (he, ke, ki, fi, fa, or, mi, a, g, l, w, s)) kk q)) (fun f => rfl) (cc_now (he, ke, ki, fi, fa, or, mi, a, g, l, w, s) (cT im le ln ys vt nu nn rf vw vq yc yh yg) m kk q hV (by assumption)) ?_
  refine me_seg 5 (pc1 := 9) (ls1 := [some (.ref 100), some (.ref 124), some (.int 0), some (.int 1), none]) (st1 := []) (M1 := (mk_M (cT im le ln ys vt nu nn rf vw vq yc yh yg) (kr (he, ke, ki, fi, fa, or, mi, a, g, l, w, s)) (kr (he, ke, ki, fi, fa, or, mi, a, g, l, w, s)) kk q)) (fun f => rfl) ?_
  exact tc_stuckL he ke ki fi fa or mi a g l w s im le ln ys vt nu nn rf kk q hA hC (kstk 72 1 0 (he, ke, ki, fi, fa, or, mi, a, g, l, w, s)) 72 1 0 none vw vq yc yh yg (he, ke, ki, fi, fa, or, mi, a, g, l, w, s) (by omega) ⟨(kSh_r hV), j1, by assumption, by assumption, by assumption⟩ hV (by show s + 72 < 2 ^ 20; omega) rfl (by omega)
set_option maxRecDepth 100000 in
theorem tm_stuckL (he ke ki fi fa or : List Nat) (mi a g l w s : Nat) (xi : List Int32) (im : Nat) (le nu rf : List Nat) (ln nn : Nat) (c : cC) (n m kk : kG) (hA : iA (he, ke, ki, fi, fa, or, mi, a, g, l, w, s)) (hC : iC nu nn) (A : Option Nat) (k : Nat) : ∀ (j : Nat) (v : Nat) (lo3 : Option Value) (Q : kK) (xw : List Int32) (vp : Int32) (xn xc : List Int32) (vs : Int32), j + k = 72 → iR (er Q) xw xn xc → kV Q → k_st Q + k < 2 ^ 20 → A = kstk k (j + 1) (j - v) Q → v ≤ j → v ≤ 11 → mm_E 177 15 [some (.ref 138), some (.int (nI v)), some (.int (nI j)), lo3] [] (mk_M c n m kk (rT (he, ke, ki, fi, fa, or, mi, a, g, l, w, s) (er Q) xi xw im le nu rf ln nn vp xn xc vs)) (pM (fun r => r = some (.int (kI A))) (he, ke, ki, fi, fa, or, mi, a, g, l, w, s) xi im le nu rf ln nn c n m kk) := by
  obtain ⟨hV, hst⟩ := id hA
  have hst2 : s ≤ 999 := hst
  obtain ⟨v1, v2, v3, v4, v5, v6, v7, v8, v9, v10, v11, v12, v13, v14, v15, v16⟩ := id hV
  have v6l := kO_len mi v7 or v6
  obtain ⟨c1, c2, c3⟩ := id hC
  induction k with
  | zero =>
    intro j v lo3 Q xw vp xn xc vs hj hR hQ hQs g0 g1 g2
    obtain ⟨r1, r2, r3, r4⟩ := id hR
    have ha := kV_at hQ
    have ha2 := kV_at (kV_step hQ 0)
    refine me_seg 2 (pc1 := 18) (ls1 := [some (.ref 138), some (.int (nI v)), some (.int (nI j)), lo3]) (st1 := [.int 72, .int (nI j)]) (M1 := (mk_M c n m kk (rT (he, ke, ki, fi, fa, or, mi, a, g, l, w, s) (er Q) xi xw im le nu rf ln nn vp xn xc vs))) (fun f => rfl) ?_
    refine me_t (C := 72 ≤ (nI j)) ((nI_leI (a := 72) (b := j) (by omega) (by omega)).mpr (by omega)) (fun f => rfl) ?_
    refine me_ret 2 (r := some (.int (-9))) (M1 := (mk_M c n m kk (rT (he, ke, ki, fi, fa, or, mi, a, g, l, w, s) (er Q) xi xw im le nu rf ln nn vp xn xc vs))) (fun f => rfl) ?_
    exact ⟨(by rw [g0]; rfl), _, _, _, _, _, _, rfl, ⟨(er_len hQ), (by assumption), (by assumption), (by assumption)⟩⟩
  | succ k IH =>
    intro j v lo3 Q xw vp xn xc vs hj hR hQ hQs g0 g1 g2
    obtain ⟨r1, r2, r3, r4⟩ := id hR
    have ha := kV_at hQ
    have ha2 := kV_at (kV_step hQ 0)
    refine me_seg 2 (pc1 := 18) (ls1 := [some (.ref 138), some (.int (nI v)), some (.int (nI j)), lo3]) (st1 := [.int 72, .int (nI j)]) (M1 := (mk_M c n m kk (rT (he, ke, ki, fi, fa, or, mi, a, g, l, w, s) (er Q) xi xw im le nu rf ln nn vp xn xc vs))) (fun f => rfl) ?_
    refine me_f (C := 72 ≤ (nI j)) (fun e_ => absurd ((nI_leI (a := 72) (b := j) (by omega) (by omega)).mp e_) (by omega)) (fun f => rfl) ?_
    refine me_seg 3 (pc1 := 26) (ls1 := [some (.ref 138), some (.int (nI v)), some (.int (nI j)), lo3]) (st1 := [.int 2, .ref 140]) (M1 := (mk_M c n m kk (rT (he, ke, ki, fi, fa, or, mi, a, g, l, w, s) (er Q) xi xw im le nu rf ln nn vp xn xc vs))) (fun f => rfl) ?_
    refine me_ldn (xs := (er Q)) rfl rfl (k := 2) (by decide) rfl ?_
    refine me_seg 4 (pc1 := 33) (ls1 := [some (.ref 138), some (.int (nI v)), some (.int (nI j)), some (.int (nI (k_at Q)))]) (st1 := [.int 0, .ref 140]) (M1 := (mk_M c n m kk (rT (he, ke, ki, fi, fa, or, mi, a, g, l, w, s) (er Q) xi xw im le nu rf ln nn vp xn xc vs))) (fun f => rfl) ?_
    refine me_call (y := 146) (y0 := 36) (L := [some (.ref 140), some (.int 0), none, none, none]) (rest := []) (rr := none) (M1 := (mk_M c n m kk (rT (he, ke, ki, fi, fa, or, mi, a, g, l, w, s) (er (kstep Q 0)) xi xw im le nu rf ln nn vp xn xc vs))) (fun f => rfl) (rl_m c n m kk (rT (he, ke, ki, fi, fa, or, mi, a, g, l, w, s) (er Q) xi xw im le nu rf ln nn vp xn xc vs) (rc_stepQ Q 0 (by decide) hQ (Nat.lt_trans (m := 2 ^ 20) (by omega) (by decide))) rfl) ?_
    refine me_seg 3 (pc1 := 41) (ls1 := [some (.ref 138), some (.int (nI v)), some (.int (nI j)), some (.int (nI (k_at Q)))]) (st1 := [.int 2, .ref 140]) (M1 := (mk_M c n m kk (rT (he, ke, ki, fi, fa, or, mi, a, g, l, w, s) (er (kstep Q 0)) xi xw im le nu rf ln nn vp xn xc vs))) (fun f => rfl) ?_
    refine me_ldn (xs := (er (kstep Q 0))) rfl rfl (k := 2) (by decide) rfl ?_
    refine me_seg 1 (pc1 := 43) (ls1 := [some (.ref 138), some (.int (nI v)), some (.int (nI j)), some (.int (nI (k_at Q)))]) (st1 := [.int (nI (k_at Q)), .int (nI (k_at (kstep Q 0)))]) (M1 := (mk_M c n m kk (rT (he, ke, ki, fi, fa, or, mi, a, g, l, w, s) (er (kstep Q 0)) xi xw im le nu rf ln nn vp xn xc vs))) (fun f => rfl) ?_
    refine me_ifN (C := (nI (k_at (kstep Q 0))) = (nI (k_at Q))) (nI_eq (a := k_at (kstep Q 0)) (b := k_at Q) (by omega) (by omega)) (fun f => rfl) (fun h1 => ?_) (fun h1 => ?_)
    · refine me_seg 3 (pc1 := 49) (ls1 := [some (.ref 138), some (.int (nI v)), some (.int (nI j)), some (.int (nI (k_at Q)))]) (st1 := [.int ((nI v) + (1 : Int32))]) (M1 := (mk_M c n m kk (rT (he, ke, ki, fi, fa, or, mi, a, g, l, w, s) (er (kstep Q 0)) xi xw im le nu rf ln nn vp xn xc vs))) (fun f => rfl) ?_
      refine me_v (nI_add v 1) ?_
      refine me_seg 4 (pc1 := 57) (ls1 := [some (.ref 138), some (.int (nI (v + 1))), some (.int (nI j)), some (.int (nI (k_at Q)))]) (st1 := [.int 12, .int (nI (v + 1))]) (M1 := (mk_M c n m kk (rT (he, ke, ki, fi, fa, or, mi, a, g, l, w, s) (er (kstep Q 0)) xi xw im le nu rf ln nn vp xn xc vs))) (fun f => rfl) ?_
      refine me_ifN (C := (nI (v + 1)) = 12) (nI_eq (a := v + 1) (b := 12) (by omega) (by omega)) (fun f => rfl) (fun h2 => ?_) (fun h2 => ?_)
      · refine me_seg 3 (pc1 := 64) (ls1 := [some (.ref 138), some (.int (nI (v + 1))), some (.int (nI j)), some (.int (nI (k_at Q)))]) (st1 := [.int ((nI j) - (11 : Int32))]) (M1 := (mk_M c n m kk (rT (he, ke, ki, fi, fa, or, mi, a, g, l, w, s) (er (kstep Q 0)) xi xw im le nu rf ln nn vp xn xc vs))) (fun f => rfl) ?_
        refine me_v (pk_sub (a := j) (b := 11) (by omega)) ?_
        refine me_ret 1 (r := some (.int (nI (j - 11)))) (M1 := (mk_M c n m kk (rT (he, ke, ki, fi, fa, or, mi, a, g, l, w, s) (er (kstep Q 0)) xi xw im le nu rf ln nn vp xn xc vs))) (fun f => rfl) ?_
        exact ⟨(by rw [g0, kstk_y h1 (by omega), show j - v = j - 11 by omega]; rfl), _, _, _, _, _, _, rfl, ⟨(er_len (kV_step hQ 0)), (by assumption), (by assumption), (by assumption)⟩⟩
      · refine me_seg 1 (pc1 := 68) (ls1 := [some (.ref 138), some (.int (nI (v + 1))), some (.int ((nI j) + 1)), some (.int (nI (k_at Q)))]) (st1 := []) (M1 := (mk_M c n m kk (rT (he, ke, ki, fi, fa, or, mi, a, g, l, w, s) (er (kstep Q 0)) xi xw im le nu rf ln nn vp xn xc vs))) (fun f => rfl) ?_
        refine me_l (fun q_ => [some (.ref 138), some (.int (nI (v + 1))), some (.int q_), some (.int (nI (k_at Q)))]) (nI_add j 1) ?_
        refine me_seg 1 (pc1 := 15) (ls1 := [some (.ref 138), some (.int (nI (v + 1))), some (.int (nI (j + 1))), some (.int (nI (k_at Q)))]) (st1 := []) (M1 := (mk_M c n m kk (rT (he, ke, ki, fi, fa, or, mi, a, g, l, w, s) (er (kstep Q 0)) xi xw im le nu rf ln nn vp xn xc vs))) (fun f => rfl) ?_
        exact IH (j + 1) (v + 1) (some (.int (nI (k_at Q)))) (kstep Q 0) xw vp xn xc vs (by omega) ⟨(er_len (kV_step hQ 0)), (by assumption), (by assumption), (by assumption)⟩ (kV_step hQ 0) (by first | omega | (rw [kst_step]; omega)) (g0.trans ((kstk_e h1 (by omega)).trans (by rw [show j - v = j + 1 - (v + 1) by omega]))) (by omega) (by omega)
    · refine me_seg 6 (pc1 := 68) (ls1 := [some (.ref 138), some (.int 0), some (.int ((nI j) + 1)), some (.int (nI (k_at Q)))]) (st1 := []) (M1 := (mk_M c n m kk (rT (he, ke, ki, fi, fa, or, mi, a, g, l, w, s) (er (kstep Q 0)) xi xw im le nu rf ln nn vp xn xc vs))) (fun f => rfl) ?_
      refine me_l (fun q_ => [some (.ref 138), some (.int 0), some (.int q_), some (.int (nI (k_at Q)))]) (nI_add j 1) ?_
      refine me_seg 1 (pc1 := 15) (ls1 := [some (.ref 138), some (.int 0), some (.int (nI (j + 1))), some (.int (nI (k_at Q)))]) (st1 := []) (M1 := (mk_M c n m kk (rT (he, ke, ki, fi, fa, or, mi, a, g, l, w, s) (er (kstep Q 0)) xi xw im le nu rf ln nn vp xn xc vs))) (fun f => rfl) ?_
      exact IH (j + 1) 0 (some (.int (nI (k_at Q)))) (kstep Q 0) xw vp xn xc vs (by omega) ⟨(er_len (kV_step hQ 0)), (by assumption), (by assumption), (by assumption)⟩ (kV_step hQ 0) (by first | omega | (rw [kst_step]; omega)) (g0.trans (kstk_m h1)) (by omega) (by omega)
set_option maxRecDepth 100000 in
theorem tm_stuck (he ke ki fi fa or : List Nat) (mi a g l w s : Nat) (xi : List Int32) (im : Nat) (le nu rf : List Nat) (ln nn : Nat) (c : cC) (n m kk : kG) (hA : iA (he, ke, ki, fi, fa, or, mi, a, g, l, w, s)) (hC : iC nu nn) (xm xw : List Int32) (vp : Int32) (xn xc : List Int32) (vs : Int32) (hR : iR xm xw xn xc) : mm_E 177 0 [some (.ref 138), none, none, none] [] (mk_M c n m kk (rT (he, ke, ki, fi, fa, or, mi, a, g, l, w, s) xm xi xw im le nu rf ln nn vp xn xc vs)) (pM (fun r => r = some (.int (kI (kstk 72 1 0 (he, ke, ki, fi, fa, or, mi, a, g, l, w, s))))) (he, ke, ki, fi, fa, or, mi, a, g, l, w, s) xi im le nu rf ln nn c n m kk) := by
  obtain ⟨hV, hst⟩ := id hA
  have hst2 : s ≤ 999 := hst
  obtain ⟨v1, v2, v3, v4, v5, v6, v7, v8, v9, v10, v11, v12, v13, v14, v15, v16⟩ := id hV
  have v6l := kO_len mi v7 or v6
  obtain ⟨c1, c2, c3⟩ := id hC
  obtain ⟨r1, r2, r3, r4⟩ := id hR
  refine me_seg 4 (pc1 := 8) (ls1 := [some (.ref 138), none, none, none]) (st1 := [.ref 140, .ref 139]) (M1 := (mk_M c n m kk (rT (he, ke, ki, fi, fa, or, mi, a, g, l, w, s) xm xi xw im le nu rf ln nn vp xn xc vs))) (fun f => rfl) ?_
  refine me_call (y := 138) (y0 := 11) (L := [some (.ref 139), some (.ref 140), none]) (rest := []) (rr := none) (M1 := (mk_M c n m kk (rT (he, ke, ki, fi, fa, or, mi, a, g, l, w, s) (er (he, ke, ki, fi, fa, or, mi, a, g, l, w, s)) xi xw im le nu rf ln nn vp xn xc vs))) (fun f => rfl) (rc_copies (a := 140) (b := 139) (by decide) rfl rfl (er_len hV) (by assumption)) ?_
  refine me_seg 4 (pc1 := 15) (ls1 := [some (.ref 138), some (.int 0), some (.int 0), none]) (st1 := []) (M1 := (mk_M c n m kk (rT (he, ke, ki, fi, fa, or, mi, a, g, l, w, s) (er (he, ke, ki, fi, fa, or, mi, a, g, l, w, s)) xi xw im le nu rf ln nn vp xn xc vs))) (fun f => rfl) ?_
  exact tm_stuckL he ke ki fi fa or mi a g l w s xi im le nu rf ln nn c n m kk hA hC (kstk 72 1 0 (he, ke, ki, fi, fa, or, mi, a, g, l, w, s)) 72 0 0 none (he, ke, ki, fi, fa, or, mi, a, g, l, w, s) xw vp xn xc vs (by omega) ⟨(er_len hV), (by assumption), (by assumption), (by assumption)⟩ hV (by show s + 72 < 2 ^ 20; omega) rfl (by omega) (by omega)
theorem ot_stuck {M : mm_H} (hM : kInv M) : oI 85 177 [some (.ref 100), none, none, none, none] [some (.ref 138), none, none, none] M := by
  obtain ⟨K, m, kk, im, le, ln, ys, vt, nu, nn, rf, vw, vq, yc, yh, yg, xm, xi, xw, vp, xn, xc, vs, rfl, hA, hB, hC, hD, hJ, hR, hK⟩ := hM
  obtain ⟨he, ke, ki, fi, fa, or, mi, a, g, l, w, s⟩ := K
  have v7 : mi ≤ 5 := hA.1.2.2.2.2.2.2.1
  exact oI_of (kI (kstk 72 1 0 (he, ke, ki, fi, fa, or, mi, a, g, l, w, s))) hA hB hC hD hK (tc_stuck he ke ki fi fa or mi a g l w s im le ln ys vt nu nn rf kk _ hA hC vw vq yc yh yg m hJ) (fun c n m kk => tm_stuck he ke ki fi fa or mi a g l w s xi im le nu rf ln nn c n m kk hA hC xm xw vp xn xc vs hR)
