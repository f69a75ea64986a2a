def kwaR : Nat → kK → Nat → kK
  | 0, k, c => if k_at k = c then k else kstep k 0
  | r + 1, k, c => if k_at k = c then k else kwaR r (kstep k 0) c
theorem kwaR_t {r c : Nat} {k : kK} (h : k_at k = c) : kwaR r k c = k := by
  cases r <;> (unfold kwaR; rw [if_pos h])
theorem kwaR_f {r c : Nat} {k : kK} (h : ¬ k_at k = c) : kwaR (r + 1) k c = kwaR r (kstep k 0) c := by
  show (if k_at k = c then k else kwaR r (kstep k 0) c) = _
  rw [if_neg h]
theorem kwaR_0 {c : Nat} {k : kK} (h : ¬ k_at k = c) : kwaR 0 k c = kstep k 0 := by
  unfold kwaR
  rw [if_neg h]
theorem kV_waR : ∀ (r : Nat) {k : kK} (c : Nat), kV k → kV (kwaR r k c)
  | 0, k, c, h => by
    by_cases q : k_at k = c
    · rw [kwaR_t q]; exact h
    · rw [kwaR_0 q]; exact kV_step h 0
  | r + 1, k, c, h => by
    by_cases q : k_at k = c
    · rw [kwaR_t q]; exact h
    · rw [kwaR_f q]; exact kV_waR r c (kV_step h 0)
theorem rl_mq {z : Nat} {ls : mm_L} {r : Option Value} {s s' : List Int32} (c : cC) (n m k : kG) (q : cR) (x : List Int32) (h : mm_R z 0 ls [] (rSm s) (r, rSm s')) : mm_R z 0 ls [] (mk_M c n m k (x, s, q.2.2)) (r, mk_M c n m k (x, s', q.2.2)) := mr_fr (mk_M c n m k (x, s, q.2.2)) h rfl rfl rfl
set_option maxRecDepth 100000 in
theorem rc_wa0 (c : cC) (n m kk : kG) (q : cR) (c0 : Nat) (hc : c0 < 25) (k : Nat) : ∀ (he ke ki fi fa or : List Nat) (mi a g l w s j : Nat), kV (he, ke, ki, fi, fa, or, mi, a, g, l, w, s) → s + k < 2 ^ 29 → j + k = 60 → mm_R 173 2 [some (.ref 138), some (.int (nI c0)), some (.int (nI j))] [] (mk_M c n m kk (q.1, (er (he, ke, ki, fi, fa, or, mi, a, g, l, w, s)), q.2.2)) (some (.int (kI (kwa k j (he, ke, ki, fi, fa, or, mi, a, g, l, w, s) c0))), mk_M c n m kk (q.1, er (kwaR k (he, ke, ki, fi, fa, or, mi, a, g, l, w, s) c0), q.2.2)) := by
  induction k with
  | zero =>
    intro he ke ki fi fa or mi a g l w s j hV hs hj
    have ha : a < 25 := hV.2.2.2.2.2.2.2.1
    refine mr_seg 2 (pc1 := 5) (ls1 := [some (.ref 138), some (.int (nI c0)), some (.int (nI j))]) (st1 := [.int 60, .int (nI j)]) (M1 := (mk_M c n m kk (q.1, (er (he, ke, ki, fi, fa, or, mi, a, g, l, w, s)), q.2.2))) (fun f => rfl) ?_
    refine mr_f (C := 60 < (nI j)) (nI_ltf (a := 60) (b := j) (by omega)) (fun f => rfl) ?_
    refine mr_seg 3 (pc1 := 13) (ls1 := [some (.ref 138), some (.int (nI c0)), some (.int (nI j))]) (st1 := [.int 2, .ref 140]) (M1 := (mk_M c n m kk (q.1, (er (he, ke, ki, fi, fa, or, mi, a, g, l, w, s)), q.2.2))) (fun f => rfl) ?_
    refine mr_ldn (xs := (er (he, ke, ki, fi, fa, or, mi, a, g, l, w, s))) rfl rfl (k := 2) (by decide) rfl ?_
    refine mr_seg 1 (pc1 := 15) (ls1 := [some (.ref 138), some (.int (nI c0)), some (.int (nI j))]) (st1 := [.int (nI c0), .int (nI a)]) (M1 := (mk_M c n m kk (q.1, (er (he, ke, ki, fi, fa, or, mi, a, g, l, w, s)), q.2.2))) (fun f => rfl) ?_
    refine mr_ifN (C := (nI a) = (nI c0)) (nI_eqi (a := a) (b := c0) (by omega)) (fun f => rfl) (fun h1 => ?_) (fun h1 => ?_)
    · refine mr_eq (mr_ret 2 (o := (some (.int (nI j)), (mk_M c n m kk (q.1, (er (he, ke, ki, fi, fa, or, mi, a, g, l, w, s)), q.2.2)))) (fun f => rfl)) ?_
      rw [kwa_t (show k_at (he, ke, ki, fi, fa, or, mi, a, g, l, w, s) = c0 from h1), kwaR_t (show k_at (he, ke, ki, fi, fa, or, mi, a, g, l, w, s) = c0 from h1)]
      rfl
    · refine mr_seg 3 (pc1 := 25) (ls1 := [some (.ref 138), some (.int (nI c0)), some (.int (nI j))]) (st1 := [.int 0, .ref 140]) (M1 := (mk_M c n m kk (q.1, (er (he, ke, ki, fi, fa, or, mi, a, g, l, w, s)), q.2.2))) (fun f => rfl) ?_
      refine mr_call (y := 146) (y0 := 28) (L := [some (.ref 140), some (.int 0), none, none, none]) (rest := []) (rr := none) (M1 := (mk_M c n m kk (q.1, (er (kstep (he, ke, ki, fi, fa, or, mi, a, g, l, w, s) 0)), q.2.2))) (fun f => rfl) (rl_mq c n m kk q q.1 (rc_step_m he ke ki fi fa or mi a g l w s 0 (by decide) hV (by omega))) ?_
      generalize hK : kstep (he, ke, ki, fi, fa, or, mi, a, g, l, w, s) 0 = K2
      have hV2 : kV K2 := hK ▸ kV_step hV 0
      have hs2 : k_st K2 = s + 1 := hK ▸ kst_step (he, ke, ki, fi, fa, or, mi, a, g, l, w, s) 0
      obtain ⟨he2, ke2, ki2, fi2, fa2, or2, mi2, a2, g2, l2, w2, s2⟩ := K2
      have hs3 : s2 = s + 1 := hs2
      refine mr_seg 1 (pc1 := 31) (ls1 := [some (.ref 138), some (.int (nI c0)), some (.int ((nI j) + 1))]) (st1 := []) (M1 := (mk_M c n m kk (q.1, (er (he2, ke2, ki2, fi2, fa2, or2, mi2, a2, g2, l2, w2, s2)), q.2.2))) (fun f => rfl) ?_
      refine mr_l (fun q_ => [some (.ref 138), some (.int (nI c0)), some (.int q_)]) (nI_add j 1) ?_
      refine mr_seg 1 (pc1 := 2) (ls1 := [some (.ref 138), some (.int (nI c0)), some (.int (nI (j + 1)))]) (st1 := []) (M1 := (mk_M c n m kk (q.1, (er (he2, ke2, ki2, fi2, fa2, or2, mi2, a2, g2, l2, w2, s2)), q.2.2))) (fun f => rfl) ?_
      rw [kwa_0 (show ¬ k_at (he, ke, ki, fi, fa, or, mi, a, g, l, w, s) = c0 from h1), kwaR_0 (show ¬ k_at (he, ke, ki, fi, fa, or, mi, a, g, l, w, s) = c0 from h1), hK]
      refine mr_seg 2 (pc1 := 5) (ls1 := [some (.ref 138), some (.int (nI c0)), some (.int (nI (j + 1)))]) (st1 := [.int 60, .int (nI (j + 1))]) (M1 := (mk_M c n m kk (q.1, (er (he2, ke2, ki2, fi2, fa2, or2, mi2, a2, g2, l2, w2, s2)), q.2.2))) (fun f => rfl) ?_
      refine mr_t (C := (60 : Int32) < nI (j + 1)) (nI_ltt (a := 60) (b := j + 1) (by omega)) (fun f => rfl) ?_
      exact mr_ret 2 (fun f => rfl)
  | succ k IH =>
    intro he ke ki fi fa or mi a g l w s j hV hs hj
    have ha : a < 25 := hV.2.2.2.2.2.2.2.1
    refine mr_seg 2 (pc1 := 5) (ls1 := [some (.ref 138), some (.int (nI c0)), some (.int (nI j))]) (st1 := [.int 60, .int (nI j)]) (M1 := (mk_M c n m kk (q.1, (er (he, ke, ki, fi, fa, or, mi, a, g, l, w, s)), q.2.2))) (fun f => rfl) ?_
    refine mr_f (C := 60 < (nI j)) (nI_ltf (a := 60) (b := j) (by omega)) (fun f => rfl) ?_
    refine mr_seg 3 (pc1 := 13) (ls1 := [some (.ref 138), some (.int (nI c0)), some (.int (nI j))]) (st1 := [.int 2, .ref 140]) (M1 := (mk_M c n m kk (q.1, (er (he, ke, ki, fi, fa, or, mi, a, g, l, w, s)), q.2.2))) (fun f => rfl) ?_
    refine mr_ldn (xs := (er (he, ke, ki, fi, fa, or, mi, a, g, l, w, s))) rfl rfl (k := 2) (by decide) rfl ?_
    refine mr_seg 1 (pc1 := 15) (ls1 := [some (.ref 138), some (.int (nI c0)), some (.int (nI j))]) (st1 := [.int (nI c0), .int (nI a)]) (M1 := (mk_M c n m kk (q.1, (er (he, ke, ki, fi, fa, or, mi, a, g, l, w, s)), q.2.2))) (fun f => rfl) ?_
    refine mr_ifN (C := (nI a) = (nI c0)) (nI_eqi (a := a) (b := c0) (by omega)) (fun f => rfl) (fun h1 => ?_) (fun h1 => ?_)
    · refine mr_eq (mr_ret 2 (o := (some (.int (nI j)), (mk_M c n m kk (q.1, (er (he, ke, ki, fi, fa, or, mi, a, g, l, w, s)), q.2.2)))) (fun f => rfl)) ?_
      rw [kwa_t (show k_at (he, ke, ki, fi, fa, or, mi, a, g, l, w, s) = c0 from h1), kwaR_t (show k_at (he, ke, ki, fi, fa, or, mi, a, g, l, w, s) = c0 from h1)]
      rfl
    · refine mr_seg 3 (pc1 := 25) (ls1 := [some (.ref 138), some (.int (nI c0)), some (.int (nI j))]) (st1 := [.int 0, .ref 140]) (M1 := (mk_M c n m kk (q.1, (er (he, ke, ki, fi, fa, or, mi, a, g, l, w, s)), q.2.2))) (fun f => rfl) ?_
      refine mr_call (y := 146) (y0 := 28) (L := [some (.ref 140), some (.int 0), none, none, none]) (rest := []) (rr := none) (M1 := (mk_M c n m kk (q.1, (er (kstep (he, ke, ki, fi, fa, or, mi, a, g, l, w, s) 0)), q.2.2))) (fun f => rfl) (rl_mq c n m kk q q.1 (rc_step_m he ke ki fi fa or mi a g l w s 0 (by decide) hV (by omega))) ?_
      generalize hK : kstep (he, ke, ki, fi, fa, or, mi, a, g, l, w, s) 0 = K2
      have hV2 : kV K2 := hK ▸ kV_step hV 0
      have hs2 : k_st K2 = s + 1 := hK ▸ kst_step (he, ke, ki, fi, fa, or, mi, a, g, l, w, s) 0
      obtain ⟨he2, ke2, ki2, fi2, fa2, or2, mi2, a2, g2, l2, w2, s2⟩ := K2
      have hs3 : s2 = s + 1 := hs2
      refine mr_seg 1 (pc1 := 31) (ls1 := [some (.ref 138), some (.int (nI c0)), some (.int ((nI j) + 1))]) (st1 := []) (M1 := (mk_M c n m kk (q.1, (er (he2, ke2, ki2, fi2, fa2, or2, mi2, a2, g2, l2, w2, s2)), q.2.2))) (fun f => rfl) ?_
      refine mr_l (fun q_ => [some (.ref 138), some (.int (nI c0)), some (.int q_)]) (nI_add j 1) ?_
      refine mr_seg 1 (pc1 := 2) (ls1 := [some (.ref 138), some (.int (nI c0)), some (.int (nI (j + 1)))]) (st1 := []) (M1 := (mk_M c n m kk (q.1, (er (he2, ke2, ki2, fi2, fa2, or2, mi2, a2, g2, l2, w2, s2)), q.2.2))) (fun f => rfl) ?_
      rw [kwa_f (show ¬ k_at (he, ke, ki, fi, fa, or, mi, a, g, l, w, s) = c0 from h1), kwaR_f (show ¬ k_at (he, ke, ki, fi, fa, or, mi, a, g, l, w, s) = c0 from h1), hK]
      exact IH he2 ke2 ki2 fi2 fa2 or2 mi2 a2 g2 l2 w2 s2 (j + 1) hV2 (by omega) (by omega)
theorem rc_wa (c : cC) (n m kk : kG) (q : cR) (c0 : Nat) (hc : c0 < 25) (K : kK) (hV : kV K) (hs : k_st K < 2 ^ 20) : mm_R 173 0 [some (.ref 138), some (.int (nI c0)), none] [] (mk_M c n m kk (q.1, er K, q.2.2)) (some (.int (kI (kwa 60 0 K c0))), mk_M c n m kk (q.1, er (kwaR 60 K c0), q.2.2)) := by
  obtain ⟨he, ke, ki, fi, fa, or, mi, a, g, l, w, s⟩ := K
  have hs' : s < 2 ^ 20 := hs
  refine mr_seg 2 (pc1 := 2) (ls1 := [some (.ref 138), some (.int (nI c0)), some (.int 0)]) (st1 := []) (M1 := mk_M c n m kk (q.1, er (he, ke, ki, fi, fa, or, mi, a, g, l, w, s), q.2.2)) (fun f => rfl) ?_
  exact rc_wa0 c n m kk q c0 hc 60 he ke ki fi fa or mi a g l w s 0 hV (by omega) (by omega)
set_option maxRecDepth 100000 in
theorem oc_comes_0 (he ke ki fi fa or : List Nat) (mi a g l w s : Nat) (im : Nat) (le : List Nat) (ln : Nat) (ys : List Int32) (vt : Int32) (nu : List Nat) (nn : Nat) (rf : List Nat) (vw vq : Int32) (yc yh yg : List Int32) (m kk : kG) (q : cR) (hA : iA (he, ke, ki, fi, fa, or, mi, a, g, l, w, s)) (hB : iB le ln) (hC : iC nu nn) (hD : iD rf) (hJ : iJ m ys yc yh yg) (k0 : kSh kk) (x : Int32) (hxu : x.toInt ≤ -2) : mm_R 79 0 [some (.ref 100), some (.int x), none] [] (mk_M (cT im le ln ys vt nu nn rf vw vq yc yh yg) (kr (he, ke, ki, fi, fa, or, mi, a, g, l, w, s)) m kk q) (some (.int (-1)), (mk_M (cT im le ln ys vt nu nn (rf.set 1 (kg rf 1 + 1)) vw vq yc yh yg) (kr (he, ke, ki, fi, fa, or, mi, a, g, l, w, s)) m kk q)) := by
  have hst2 : s ≤ 999 := hA.2
  have v7 : mi ≤ 5 := hA.1.2.2.2.2.2.2.1
  have b3 : ln ≤ 96 := hB.2.2
  have c3 : nn ≤ 16 := hC.2.2
  refine mr_seg 2 (pc1 := 2) (ls1 := [some (.ref 100), some (.int x), none]) (st1 := [.int (-1), .int x]) (M1 := (mk_M (cT im le ln ys vt nu nn rf vw vq yc yh yg) (kr (he, ke, ki, fi, fa, or, mi, a, g, l, w, s)) m kk q)) (fun f => rfl) ?_
  refine mr_f (C := x = (-1)) (mz_eq_f (-1) (by decide) (by omega)) (fun f => rfl) ?_
  refine mr_seg 1 (pc1 := 6) (ls1 := [some (.ref 100), some (.int x), none]) (st1 := [.int x]) (M1 := (mk_M (cT im le ln ys vt nu nn rf vw vq yc yh yg) (kr (he, ke, ki, fi, fa, or, mi, a, g, l, w, s)) m kk q)) (fun f => rfl) ?_
  refine mr_call (y := 37) (y0 := 9) (L := [some (.int x)]) (rest := []) (rr := some (.int 0)) (M1 := (mk_M (cT im le ln ys vt nu nn rf vw vq yc yh yg) (kr (he, ke, ki, fi, fa, or, mi, a, g, l, w, s)) m kk q)) (fun f => rfl) (ms_c1_lo (x := x) (mz_lt_t 0 (by decide) (by omega))) ?_
  refine mr_seg 3 (pc1 := 14) (ls1 := [some (.ref 100), some (.int x), none]) (st1 := [.int (-1), .ref 100]) (M1 := (mk_M (cT im le ln ys vt nu nn rf vw vq yc yh yg) (kr (he, ke, ki, fi, fa, or, mi, a, g, l, w, s)) m kk q)) (fun f => rfl) ?_
  refine mr_call (y := 12) (y0 := 17) (L := [some (.ref 100), some (.int (-1))]) (rest := []) (rr := some (.int (-1))) (M1 := (mk_M (cT im le ln ys vt nu nn (rf.set 1 (kg rf 1 + 1)) vw vq yc yh yg) (kr (he, ke, ki, fi, fa, or, mi, a, g, l, w, s)) m kk q)) (fun f => rfl) (ms_re1 hD) ?_
  exact mr_ret 1 (fun f => rfl)
set_option maxRecDepth 100000 in
theorem om_comes_0 (he ke ki fi fa or : List Nat) (mi a g l w s : Nat) (xm xi xw : List Int32) (im : Nat) (le nu rf : List Nat) (ln nn : Nat) (vp : Int32) (xn xc : List Int32) (vs : Int32) (c : cC) (n m kk : kG) (hA : iA (he, ke, ki, fi, fa, or, mi, a, g, l, w, s)) (hB : iB le ln) (hC : iC nu nn) (hD : iD rf) (hR : iR xm xw xn xc) (k1 : xi.length = 52) (x : Int32) (hxu : x.toInt ≤ -2) : mm_R 172 0 [some (.ref 138), some (.int x)] [] (mk_M c n m kk (rT (he, ke, ki, fi, fa, or, mi, a, g, l, w, s) xm xi xw im le nu rf ln nn vp xn xc vs)) (some (.int (-1)), (mk_M c n m kk (rT (he, ke, ki, fi, fa, or, mi, a, g, l, w, s) xm xi xw im le nu (rf.set 1 (kg rf 1 + 1)) ln nn vp xn xc vs))) := by
  have hst2 : s ≤ 999 := hA.2
  have v7 : mi ≤ 5 := hA.1.2.2.2.2.2.2.1
  have b3 : ln ≤ 96 := hB.2.2
  have c3 : nn ≤ 16 := hC.2.2
  refine mr_seg 2 (pc1 := 2) (ls1 := [some (.ref 138), some (.int x)]) (st1 := [.int (-1), .int x]) (M1 := (mk_M c n m kk (rT (he, ke, ki, fi, fa, or, mi, a, g, l, w, s) xm xi xw im le nu rf ln nn vp xn xc vs))) (fun f => rfl) ?_
  refine mr_f (C := x = (-1)) (mz_eq_f (-1) (by decide) (by omega)) (fun f => rfl) ?_
  refine mr_seg 1 (pc1 := 6) (ls1 := [some (.ref 138), some (.int x)]) (st1 := [.int x]) (M1 := (mk_M c n m kk (rT (he, ke, ki, fi, fa, or, mi, a, g, l, w, s) xm xi xw im le nu rf ln nn vp xn xc vs))) (fun f => rfl) ?_
  refine mr_call (y := 140) (y0 := 9) (L := [some (.int x)]) (rest := []) (rr := some (.int 0)) (M1 := (mk_M c n m kk (rT (he, ke, ki, fi, fa, or, mi, a, g, l, w, s) xm xi xw im le nu rf ln nn vp xn xc vs))) (fun f => rfl) (ms_c2_lo (x := x) (mz_lt_t 0 (by decide) (by omega))) ?_
  refine mr_seg 3 (pc1 := 14) (ls1 := [some (.ref 138), some (.int x)]) (st1 := [.int (-1), .ref 138]) (M1 := (mk_M c n m kk (rT (he, ke, ki, fi, fa, or, mi, a, g, l, w, s) xm xi xw im le nu rf ln nn vp xn xc vs))) (fun f => rfl) ?_
  refine mr_call (y := 130) (y0 := 17) (L := [some (.ref 138), some (.int (-1))]) (rest := []) (rr := some (.int (-1))) (M1 := (mk_M c n m kk (rT (he, ke, ki, fi, fa, or, mi, a, g, l, w, s) xm xi xw im le nu (rf.set 1 (kg rf 1 + 1)) ln nn vp xn xc vs))) (fun f => rfl) (ms_no1 hD) ?_
  exact mr_ret 1 (fun f => rfl)
theorem oe_comes_0 (he ke ki fi fa or : List Nat) (mi a g l w s : Nat) (m : kG) (kk : kG) (im : Nat) (le : List Nat) (ln : Nat) (ys : List Int32) (vt : Int32) (nu : List Nat) (nn : Nat) (rf : List Nat) (vw : Int32) (vq : Int32) (yc : List Int32) (yh : List Int32) (yg : List Int32) (xm : List Int32) (xi : List Int32) (xw : List Int32) (vp : Int32) (xn : List Int32) (xc : List Int32) (vs : Int32) (hA : iA (he, ke, ki, fi, fa, or, mi, a, g, l, w, s)) (hB : iB le ln) (hC : iC nu nn) (hD : iD rf) (hJ : iJ m ys yc yh yg) (hR : iR xm xw xn xc) (hK : iK im kk xi) (x : Int32) (hxu : x.toInt ≤ -2) : oI 79 172 [some (.ref 100), some (.int x), none] [some (.ref 138), some (.int x)] (mk_M (cT im le ln ys vt nu nn rf vw vq yc yh yg) (kr (he, ke, ki, fi, fa, or, mi, a, g, l, w, s)) m kk (rT (he, ke, ki, fi, fa, or, mi, a, g, l, w, s) xm xi xw im le nu rf ln nn vp xn xc vs)) := by
  exact ⟨(-1), _, _, oc_comes_0 he ke ki fi fa or mi a g l w s im le ln ys vt nu nn rf vw vq yc yh yg m kk _ hA hB hC hD hJ hK.1 x hxu, om_comes_0 he ke ki fi fa or mi a g l w s xm xi xw im le nu rf ln nn vp xn xc vs _ _ _ _ hA hB hC hD hR hK.2.1 x hxu, (he, ke, ki, fi, fa, or, mi, a, g, l, w, s), m, kk, im, le, ln, ys, vt, nu, nn, (rf.set 1 (kg rf 1 + 1)), vw, vq, yc, yh, yg, xm, xi, xw, vp, xn, xc, vs, rfl, hA, hB, hC, iD_s hD, hJ, hR, hK⟩
set_option maxRecDepth 100000 in
theorem oc_comes_1 (he ke ki fi fa or : List Nat) (mi a g l w s : Nat) (im : Nat) (le : List Nat) (ln : Nat) (ys : List Int32) (vt : Int32) (nu : List Nat) (nn : Nat) (rf : List Nat) (vw vq : Int32) (yc yh yg : List Int32) (m kk : kG) (q : cR) (hA : iA (he, ke, ki, fi, fa, or, mi, a, g, l, w, s)) (hB : iB le ln) (hC : iC nu nn) (hD : iD rf) (hJ : iJ m ys yc yh yg) (k0 : kSh kk) (x : Int32) (hxl : 25 ≤ x.toInt) : mm_R 79 0 [some (.ref 100), some (.int x), none] [] (mk_M (cT im le ln ys vt nu nn rf vw vq yc yh yg) (kr (he, ke, ki, fi, fa, or, mi, a, g, l, w, s)) m kk q) (some (.int (-1)), (mk_M (cT im le ln ys vt nu nn (rf.set 1 (kg rf 1 + 1)) vw vq yc yh yg) (kr (he, ke, ki, fi, fa, or, mi, a, g, l, w, s)) m kk q)) := by
  have hst2 : s ≤ 999 := hA.2
  have v7 : mi ≤ 5 := hA.1.2.2.2.2.2.2.1
  have b3 : ln ≤ 96 := hB.2.2
  have c3 : nn ≤ 16 := hC.2.2
  refine mr_seg 2 (pc1 := 2) (ls1 := [some (.ref 100), some (.int x), none]) (st1 := [.int (-1), .int x]) (M1 := (mk_M (cT im le ln ys vt nu nn rf vw vq yc yh yg) (kr (he, ke, ki, fi, fa, or, mi, a, g, l, w, s)) m kk q)) (fun f => rfl) ?_
  refine mr_f (C := x = (-1)) (mz_eq_f (-1) (by decide) (by omega)) (fun f => rfl) ?_
  refine mr_seg 1 (pc1 := 6) (ls1 := [some (.ref 100), some (.int x), none]) (st1 := [.int x]) (M1 := (mk_M (cT im le ln ys vt nu nn rf vw vq yc yh yg) (kr (he, ke, ki, fi, fa, or, mi, a, g, l, w, s)) m kk q)) (fun f => rfl) ?_
  refine mr_call (y := 37) (y0 := 9) (L := [some (.int x)]) (rest := []) (rr := some (.int 0)) (M1 := (mk_M (cT im le ln ys vt nu nn rf vw vq yc yh yg) (kr (he, ke, ki, fi, fa, or, mi, a, g, l, w, s)) m kk q)) (fun f => rfl) (ms_c1_hi (x := x) (mz_lt_f 0 (by decide) (by omega)) (mz_ge_t 25 (by decide) (by omega))) ?_
  refine mr_seg 3 (pc1 := 14) (ls1 := [some (.ref 100), some (.int x), none]) (st1 := [.int (-1), .ref 100]) (M1 := (mk_M (cT im le ln ys vt nu nn rf vw vq yc yh yg) (kr (he, ke, ki, fi, fa, or, mi, a, g, l, w, s)) m kk q)) (fun f => rfl) ?_
  refine mr_call (y := 12) (y0 := 17) (L := [some (.ref 100), some (.int (-1))]) (rest := []) (rr := some (.int (-1))) (M1 := (mk_M (cT im le ln ys vt nu nn (rf.set 1 (kg rf 1 + 1)) vw vq yc yh yg) (kr (he, ke, ki, fi, fa, or, mi, a, g, l, w, s)) m kk q)) (fun f => rfl) (ms_re1 hD) ?_
  exact mr_ret 1 (fun f => rfl)
set_option maxRecDepth 100000 in
theorem om_comes_1 (he ke ki fi fa or : List Nat) (mi a g l w s : Nat) (xm xi xw : List Int32) (im : Nat) (le nu rf : List Nat) (ln nn : Nat) (vp : Int32) (xn xc : List Int32) (vs : Int32) (c : cC) (n m kk : kG) (hA : iA (he, ke, ki, fi, fa, or, mi, a, g, l, w, s)) (hB : iB le ln) (hC : iC nu nn) (hD : iD rf) (hR : iR xm xw xn xc) (k1 : xi.length = 52) (x : Int32) (hxl : 25 ≤ x.toInt) : mm_R 172 0 [some (.ref 138), some (.int x)] [] (mk_M c n m kk (rT (he, ke, ki, fi, fa, or, mi, a, g, l, w, s) xm xi xw im le nu rf ln nn vp xn xc vs)) (some (.int (-1)), (mk_M c n m kk (rT (he, ke, ki, fi, fa, or, mi, a, g, l, w, s) xm xi xw im le nu (rf.set 1 (kg rf 1 + 1)) ln nn vp xn xc vs))) := by
  have hst2 : s ≤ 999 := hA.2
  have v7 : mi ≤ 5 := hA.1.2.2.2.2.2.2.1
  have b3 : ln ≤ 96 := hB.2.2
  have c3 : nn ≤ 16 := hC.2.2
  refine mr_seg 2 (pc1 := 2) (ls1 := [some (.ref 138), some (.int x)]) (st1 := [.int (-1), .int x]) (M1 := (mk_M c n m kk (rT (he, ke, ki, fi, fa, or, mi, a, g, l, w, s) xm xi xw im le nu rf ln nn vp xn xc vs))) (fun f => rfl) ?_
  refine mr_f (C := x = (-1)) (mz_eq_f (-1) (by decide) (by omega)) (fun f => rfl) ?_
  refine mr_seg 1 (pc1 := 6) (ls1 := [some (.ref 138), some (.int x)]) (st1 := [.int x]) (M1 := (mk_M c n m kk (rT (he, ke, ki, fi, fa, or, mi, a, g, l, w, s) xm xi xw im le nu rf ln nn vp xn xc vs))) (fun f => rfl) ?_
  refine mr_call (y := 140) (y0 := 9) (L := [some (.int x)]) (rest := []) (rr := some (.int 0)) (M1 := (mk_M c n m kk (rT (he, ke, ki, fi, fa, or, mi, a, g, l, w, s) xm xi xw im le nu rf ln nn vp xn xc vs))) (fun f => rfl) (ms_c2_hi (x := x) (mz_lt_f 0 (by decide) (by omega)) (mz_gt_t 24 (by decide) (by omega))) ?_
  refine mr_seg 3 (pc1 := 14) (ls1 := [some (.ref 138), some (.int x)]) (st1 := [.int (-1), .ref 138]) (M1 := (mk_M c n m kk (rT (he, ke, ki, fi, fa, or, mi, a, g, l, w, s) xm xi xw im le nu rf ln nn vp xn xc vs))) (fun f => rfl) ?_
  refine mr_call (y := 130) (y0 := 17) (L := [some (.ref 138), some (.int (-1))]) (rest := []) (rr := some (.int (-1))) (M1 := (mk_M c n m kk (rT (he, ke, ki, fi, fa, or, mi, a, g, l, w, s) xm xi xw im le nu (rf.set 1 (kg rf 1 + 1)) ln nn vp xn xc vs))) (fun f => rfl) (ms_no1 hD) ?_
  exact mr_ret 1 (fun f => rfl)
theorem oe_comes_1 (he ke ki fi fa or : List Nat) (mi a g l w s : Nat) (m : kG) (kk : kG) (im : Nat) (le : List Nat) (ln : Nat) (ys : List Int32) (vt : Int32) (nu : List Nat) (nn : Nat) (rf : List Nat) (vw : Int32) (vq : Int32) (yc : List Int32) (yh : List Int32) (yg : List Int32) (xm : List Int32) (xi : List Int32) (xw : List Int32) (vp : Int32) (xn : List Int32) (xc : List Int32) (vs : Int32) (hA : iA (he, ke, ki, fi, fa, or, mi, a, g, l, w, s)) (hB : iB le ln) (hC : iC nu nn) (hD : iD rf) (hJ : iJ m ys yc yh yg) (hR : iR xm xw xn xc) (hK : iK im kk xi) (x : Int32) (hxl : 25 ≤ x.toInt) : oI 79 172 [some (.ref 100), some (.int x), none] [some (.ref 138), some (.int x)] (mk_M (cT im le ln ys vt nu nn rf vw vq yc yh yg) (kr (he, ke, ki, fi, fa, or, mi, a, g, l, w, s)) m kk (rT (he, ke, ki, fi, fa, or, mi, a, g, l, w, s) xm xi xw im le nu rf ln nn vp xn xc vs)) := by
  exact ⟨(-1), _, _, oc_comes_1 he ke ki fi fa or mi a g l w s im le ln ys vt nu nn rf vw vq yc yh yg m kk _ hA hB hC hD hJ hK.1 x hxl, om_comes_1 he ke ki fi fa or mi a g l w s xm xi xw im le nu rf ln nn vp xn xc vs _ _ _ _ hA hB hC hD hR hK.2.1 x hxl, (he, ke, ki, fi, fa, or, mi, a, g, l, w, s), m, kk, im, le, ln, ys, vt, nu, nn, (rf.set 1 (kg rf 1 + 1)), vw, vq, yc, yh, yg, xm, xi, xw, vp, xn, xc, vs, rfl, hA, hB, hC, iD_s hD, hJ, hR, hK⟩
set_option maxRecDepth 100000 in
theorem oc_comes_2 (he ke ki fi fa or : List Nat) (mi a g l w s : Nat) (im : Nat) (le : List Nat) (ln : Nat) (ys : List Int32) (vt : Int32) (nu : List Nat) (nn : Nat) (rf : List Nat) (vw vq : Int32) (yc yh yg : List Int32) (m kk : kG) (q : cR) (hA : iA (he, ke, ki, fi, fa, or, mi, a, g, l, w, s)) (hB : iB le ln) (hC : iC nu nn) (hD : iD rf) (hJ : iJ m ys yc yh yg) (k0 : kSh kk) (hw : kwa 60 0 (he, ke, ki, fi, fa, or, mi, a, g, l, w, s) g = none) : mm_R 79 0 [some (.ref 100), some (.int (-1)), none] [] (mk_M (cT im le ln ys vt nu nn rf vw vq yc yh yg) (kr (he, ke, ki, fi, fa, or, mi, a, g, l, w, s)) m kk q) (some (.int (-9)), (mk_M (cT im le ln ys vt nu nn rf vw vq yc yh yg) (kr (he, ke, ki, fi, fa, or, mi, a, g, l, w, s)) (kr (kwaK 60 (he, ke, ki, fi, fa, or, mi, a, g, l, w, s) g)) kk q)) := by
  obtain ⟨hV, hst⟩ := id hA
  have hst2 : s ≤ 999 := hst
  obtain ⟨v1, v2, v3, v4, v5, v6, v7, v8, v9, v10, v11, v12, v13, v14, v15, v16⟩ := id hV
  have v6l := kO_len mi v7 or v6
  obtain ⟨b1, b2, b3⟩ := id hB
  obtain ⟨c1, c2, c3⟩ := id hC
  have d1 : rf.length = 7 := hD
  obtain ⟨j0, j1, j2, j3, j4⟩ := id hJ
  refine mr_seg 4 (pc1 := 19) (ls1 := [some (.ref 100), some (.int (-1)), none]) (st1 := [.ref 100]) (M1 := (mk_M (cT im le ln ys vt nu nn rf vw vq yc yh yg) (kr (he, ke, ki, fi, fa, or, mi, a, g, l, w, s)) m kk q)) (fun f => rfl) ?_
  refine mr_call (y := 75) (y0 := 22) (L := [some (.ref 100)]) (rest := []) (rr := some (.ref 124)) (M1 := (mk_M (cT im le ln ys vt nu nn rf vw vq yc yh yg) (kr (he, ke, ki, fi, fa, or, mi, a, g, l, w, s)) (kr (he, ke, ki, fi, fa, or, mi, a, g, l, w, s)) kk q)) (fun f => rfl) (cc_now (he, ke, ki, fi, fa, or, mi, a, g, l, w, s) (cT im le ln ys vt nu nn rf vw vq yc yh yg) m kk q hV j0) ?_
  refine mr_seg 7 (pc1 := 38) (ls1 := [some (.ref 100), some (.int (-1)), none]) (st1 := [.int (nI g), .ref 124]) (M1 := (mk_M (cT im le ln ys vt nu nn rf vw vq yc yh yg) (kr (he, ke, ki, fi, fa, or, mi, a, g, l, w, s)) (kr (he, ke, ki, fi, fa, or, mi, a, g, l, w, s)) kk q)) (fun f => rfl) ?_
  refine mr_call (y := 80) (y0 := 41) (L := [some (.ref 124), some (.int (nI g)), none]) (rest := []) (rr := some (.int 1000000)) (M1 := (mk_M (cT im le ln ys vt nu nn rf vw vq yc yh yg) (kr (he, ke, ki, fi, fa, or, mi, a, g, l, w, s)) (kr (kwaK 60 (he, ke, ki, fi, fa, or, mi, a, g, l, w, s) g)) kk q)) (fun f => rfl) (mr_eq (kl_m (cT im le ln ys vt nu nn rf vw vq yc yh yg) (kr (he, ke, ki, fi, fa, or, mi, a, g, l, w, s)) kk q (kc_wa g (by omega) (he, ke, ki, fi, fa, or, mi, a, g, l, w, s) hV (show s < 2 ^ 20 by omega))) (by rw [hw] <;> rfl)) ?_
  exact mr_ret 7 (fun f => rfl)
set_option maxRecDepth 100000 in
theorem om_comes_2 (he ke ki fi fa or : List Nat) (mi a g l w s : Nat) (xm xi xw : List Int32) (im : Nat) (le nu rf : List Nat) (ln nn : Nat) (vp : Int32) (xn xc : List Int32) (vs : Int32) (c : cC) (n m kk : kG) (hA : iA (he, ke, ki, fi, fa, or, mi, a, g, l, w, s)) (hB : iB le ln) (hC : iC nu nn) (hD : iD rf) (hR : iR xm xw xn xc) (k1 : xi.length = 52) (hw : kwa 60 0 (he, ke, ki, fi, fa, or, mi, a, g, l, w, s) g = none) : mm_R 172 0 [some (.ref 138), some (.int (-1))] [] (mk_M c n m kk (rT (he, ke, ki, fi, fa, or, mi, a, g, l, w, s) xm xi xw im le nu rf ln nn vp xn xc vs)) (some (.int (-9)), (mk_M c n m kk (rT (he, ke, ki, fi, fa, or, mi, a, g, l, w, s) (er (kwaR 60 (he, ke, ki, fi, fa, or, mi, a, g, l, w, s) g)) xi xw im le nu rf ln nn vp xn xc vs))) := by
  obtain ⟨hV, hst⟩ := id hA
  have hst2 : s ≤ 999 := hst
  obtain ⟨v1, v2, v3, v4, v5, v6, v7, v8, v9, v10, v11, v12, v13, v14, v15, v16⟩ := id hV
  have v6l := kO_len mi v7 or v6
  obtain ⟨b1, b2, b3⟩ := id hB
  obtain ⟨c1, c2, c3⟩ := id hC
  have d1 : rf.length = 7 := hD
  obtain ⟨r1, r2, r3, r4⟩ := id hR
  refine mr_seg 7 (pc1 := 26) (ls1 := [some (.ref 138), some (.int (-1))]) (st1 := [.ref 140, .ref 139]) (M1 := (mk_M c n m kk (rT (he, ke, ki, fi, fa, or, mi, a, g, l, w, s) xm xi xw im le nu rf ln nn vp xn xc vs))) (fun f => rfl) ?_
  refine mr_call (y := 138) (y0 := 29) (L := [some (.ref 139), some (.ref 140), none]) (rest := []) (rr := none) (M1 := (mk_M c n m kk (rT (he, ke, ki, fi, fa, or, mi, a, g, l, w, s) (er (he, ke, ki, fi, fa, or, mi, a, g, l, w, s)) xi xw im le nu rf ln nn vp xn xc vs))) (fun f => rfl) (rc_copies (a := 140) (b := 139) (by decide) rfl rfl (er_len hV) r1) ?_
  refine mr_seg 6 (pc1 := 39) (ls1 := [some (.ref 138), some (.int (-1))]) (st1 := [.int 3, .ref 139, .ref 138]) (M1 := (mk_M c n m kk (rT (he, ke, ki, fi, fa, or, mi, a, g, l, w, s) (er (he, ke, ki, fi, fa, or, mi, a, g, l, w, s)) xi xw im le nu rf ln nn vp xn xc vs))) (fun f => rfl) ?_
  refine mr_ldn (xs := (er (he, ke, ki, fi, fa, or, mi, a, g, l, w, s))) rfl rfl (k := 3) (by decide) rfl ?_
  refine mr_seg 1 (pc1 := 44) (ls1 := [some (.ref 138), some (.int (-1))]) (st1 := [.int (nI g), .ref 138]) (M1 := (mk_M c n m kk (rT (he, ke, ki, fi, fa, or, mi, a, g, l, w, s) (er (he, ke, ki, fi, fa, or, mi, a, g, l, w, s)) xi xw im le nu rf ln nn vp xn xc vs))) (fun f => rfl) ?_
  refine mr_call (y := 173) (y0 := 47) (L := [some (.ref 138), some (.int (nI g)), none]) (rest := []) (rr := some (.int (-9))) (M1 := (mk_M c n m kk (rT (he, ke, ki, fi, fa, or, mi, a, g, l, w, s) (er (kwaR 60 (he, ke, ki, fi, fa, or, mi, a, g, l, w, s) g)) xi xw im le nu rf ln nn vp xn xc vs))) (fun f => rfl) (mr_eq (rc_wa c n m kk (rT (he, ke, ki, fi, fa, or, mi, a, g, l, w, s) (er (he, ke, ki, fi, fa, or, mi, a, g, l, w, s)) xi xw im le nu rf ln nn vp xn xc vs) g (by omega) (he, ke, ki, fi, fa, or, mi, a, g, l, w, s) hV (show s < 2 ^ 20 by omega)) (by rw [hw] <;> rfl)) ?_
  exact mr_ret 1 (fun f => rfl)
theorem oe_comes_2 (he ke ki fi fa or : List Nat) (mi a g l w s : Nat) (m : kG) (kk : kG) (im : Nat) (le : List Nat) (ln : Nat) (ys : List Int32) (vt : Int32) (nu : List Nat) (nn : Nat) (rf : List Nat) (vw : Int32) (vq : Int32) (yc : List Int32) (yh : List Int32) (yg : List Int32) (xm : List Int32) (xi : List Int32) (xw : List Int32) (vp : Int32) (xn : List Int32) (xc : List Int32) (vs : Int32) (hA : iA (he, ke, ki, fi, fa, or, mi, a, g, l, w, s)) (hB : iB le ln) (hC : iC nu nn) (hD : iD rf) (hJ : iJ m ys yc yh yg) (hR : iR xm xw xn xc) (hK : iK im kk xi) (hw : kwa 60 0 (he, ke, ki, fi, fa, or, mi, a, g, l, w, s) g = none) : oI 79 172 [some (.ref 100), some (.int (-1)), none] [some (.ref 138), some (.int (-1))] (mk_M (cT im le ln ys vt nu nn rf vw vq yc yh yg) (kr (he, ke, ki, fi, fa, or, mi, a, g, l, w, s)) m kk (rT (he, ke, ki, fi, fa, or, mi, a, g, l, w, s) xm xi xw im le nu rf ln nn vp xn xc vs)) := by
  obtain ⟨hV, hst⟩ := id hA
  have hst2 : s ≤ 999 := hst
  obtain ⟨v1, v2, v3, v4, v5, v6, v7, v8, v9, v10, v11, v12, v13, v14, v15, v16⟩ := id hV
  have v6l := kO_len mi v7 or v6
  obtain ⟨b1, b2, b3⟩ := id hB
  obtain ⟨c1, c2, c3⟩ := id hC
  have d1 : rf.length = 7 := hD
  obtain ⟨j0, j1, j2, j3, j4⟩ := id hJ
  obtain ⟨r1, r2, r3, r4⟩ := id hR
  obtain ⟨k0, k1, k2, k3⟩ := id hK
  exact ⟨(-9), _, _, oc_comes_2 he ke ki fi fa or mi a g l w s im le ln ys vt nu nn rf vw vq yc yh yg m kk _ hA hB hC hD hJ hK.1 hw, om_comes_2 he ke ki fi fa or mi a g l w s xm xi xw im le nu rf ln nn vp xn xc vs _ _ _ _ hA hB hC hD hR hK.2.1 hw, (he, ke, ki, fi, fa, or, mi, a, g, l, w, s), (kr (kwaK 60 (he, ke, ki, fi, fa, or, mi, a, g, l, w, s) g)), kk, im, le, ln, ys, vt, nu, nn, rf, vw, vq, yc, yh, yg, (er (kwaR 60 (he, ke, ki, fi, fa, or, mi, a, g, l, w, s) g)), xi, xw, vp, xn, xc, vs, rfl, hA, hB, hC, hD, ⟨kSh_r (kV_waK 60 g hV), j1, j2, j3, j4⟩, ⟨er_len (kV_waR 60 g hV), r2, r3, r4⟩, hK⟩
set_option maxRecDepth 100000 in
theorem oc_comes_3 (he ke ki fi fa or : List Nat) (mi a g l w s : Nat) (im : Nat) (le : List Nat) (ln : Nat) (ys : List Int32) (vt : Int32) (nu : List Nat) (nn : Nat) (rf : List Nat) (vw vq : Int32) (yc yh yg : List Int32) (m kk : kG) (q : cR) (hA : iA (he, ke, ki, fi, fa, or, mi, a, g, l, w, s)) (hB : iB le ln) (hC : iC nu nn) (hD : iD rf) (hJ : iJ m ys yc yh yg) (k0 : kSh kk) (v : Nat) (hw : kwa 60 0 (he, ke, ki, fi, fa, or, mi, a, g, l, w, s) g = some v) : mm_R 79 0 [some (.ref 100), some (.int (-1)), none] [] (mk_M (cT im le ln ys vt nu nn rf vw vq yc yh yg) (kr (he, ke, ki, fi, fa, or, mi, a, g, l, w, s)) m kk q) (some (.int (nI v)), (mk_M (cT im le ln ys vt nu nn rf vw vq yc yh yg) (kr (he, ke, ki, fi, fa, or, mi, a, g, l, w, s)) (kr (kwaK 60 (he, ke, ki, fi, fa, or, mi, a, g, l, w, s) g)) kk q)) := by
  obtain ⟨hV, hst⟩ := id hA
  have hst2 : s ≤ 999 := hst
  obtain ⟨v1, v2, v3, v4, v5, v6, v7, v8, v9, v10, v11, v12, v13, v14, v15, v16⟩ := id hV
  have v6l := kO_len mi v7 or v6
  obtain ⟨b1, b2, b3⟩ := id hB
  obtain ⟨c1, c2, c3⟩ := id hC
  have d1 : rf.length = 7 := hD
  obtain ⟨j0, j1, j2, j3, j4⟩ := id hJ
  have hv := kwa_le 60 0 _ _ v hw
  refine mr_seg 4 (pc1 := 19) (ls1 := [some (.ref 100), some (.int (-1)), none]) (st1 := [.ref 100]) (M1 := (mk_M (cT im le ln ys vt nu nn rf vw vq yc yh yg) (kr (he, ke, ki, fi, fa, or, mi, a, g, l, w, s)) m kk q)) (fun f => rfl) ?_
  refine mr_call (y := 75) (y0 := 22) (L := [some (.ref 100)]) (rest := []) (rr := some (.ref 124)) (M1 := (mk_M (cT im le ln ys vt nu nn rf vw vq yc yh yg) (kr (he, ke, ki, fi, fa, or, mi, a, g, l, w, s)) (kr (he, ke, ki, fi, fa, or, mi, a, g, l, w, s)) kk q)) (fun f => rfl) (cc_now (he, ke, ki, fi, fa, or, mi, a, g, l, w, s) (cT im le ln ys vt nu nn rf vw vq yc yh yg) m kk q hV j0) ?_
  refine mr_seg 7 (pc1 := 38) (ls1 := [some (.ref 100), some (.int (-1)), none]) (st1 := [.int (nI g), .ref 124]) (M1 := (mk_M (cT im le ln ys vt nu nn rf vw vq yc yh yg) (kr (he, ke, ki, fi, fa, or, mi, a, g, l, w, s)) (kr (he, ke, ki, fi, fa, or, mi, a, g, l, w, s)) kk q)) (fun f => rfl) ?_
  refine mr_call (y := 80) (y0 := 41) (L := [some (.ref 124), some (.int (nI g)), none]) (rest := []) (rr := some (.int (nI v))) (M1 := (mk_M (cT im le ln ys vt nu nn rf vw vq yc yh yg) (kr (he, ke, ki, fi, fa, or, mi, a, g, l, w, s)) (kr (kwaK 60 (he, ke, ki, fi, fa, or, mi, a, g, l, w, s) g)) kk q)) (fun f => rfl) (mr_eq (kl_m (cT im le ln ys vt nu nn rf vw vq yc yh yg) (kr (he, ke, ki, fi, fa, or, mi, a, g, l, w, s)) kk q (kc_wa g (by omega) (he, ke, ki, fi, fa, or, mi, a, g, l, w, s) hV (show s < 2 ^ 20 by omega))) (by rw [hw] <;> rfl)) ?_
  refine mr_seg 3 (pc1 := 45) (ls1 := [some (.ref 100), some (.int (-1)), some (.int (nI v))]) (st1 := [.int 1000000, .int (nI v)]) (M1 := (mk_M (cT im le ln ys vt nu nn rf vw vq yc yh yg) (kr (he, ke, ki, fi, fa, or, mi, a, g, l, w, s)) (kr (kwaK 60 (he, ke, ki, fi, fa, or, mi, a, g, l, w, s) g)) kk q)) (fun f => rfl) ?_
  refine mr_f (C := (nI v) = 1000000) (nI_eqf (a := v) (b := 1000000) (by omega)) (fun f => rfl) ?_
  exact mr_ret 2 (fun f => rfl)
set_option maxRecDepth 100000 in
theorem om_comes_3 (he ke ki fi fa or : List Nat) (mi a g l w s : Nat) (xm xi xw : List Int32) (im : Nat) (le nu rf : List Nat) (ln nn : Nat) (vp : Int32) (xn xc : List Int32) (vs : Int32) (c : cC) (n m kk : kG) (hA : iA (he, ke, ki, fi, fa, or, mi, a, g, l, w, s)) (hB : iB le ln) (hC : iC nu nn) (hD : iD rf) (hR : iR xm xw xn xc) (k1 : xi.length = 52) (v : Nat) (hw : kwa 60 0 (he, ke, ki, fi, fa, or, mi, a, g, l, w, s) g = some v) : mm_R 172 0 [some (.ref 138), some (.int (-1))] [] (mk_M c n m kk (rT (he, ke, ki, fi, fa, or, mi, a, g, l, w, s) xm xi xw im le nu rf ln nn vp xn xc vs)) (some (.int (nI v)), (mk_M c n m kk (rT (he, ke, ki, fi, fa, or, mi, a, g, l, w, s) (er (kwaR 60 (he, ke, ki, fi, fa, or, mi, a, g, l, w, s) g)) xi xw im le nu rf ln nn vp xn xc vs))) := by
  obtain ⟨hV, hst⟩ := id hA
  have hst2 : s ≤ 999 := hst
  obtain ⟨v1, v2, v3, v4, v5, v6, v7, v8, v9, v10, v11, v12, v13, v14, v15, v16⟩ := id hV
  have v6l := kO_len mi v7 or v6
  obtain ⟨b1, b2, b3⟩ := id hB
  obtain ⟨c1, c2, c3⟩ := id hC
  have d1 : rf.length = 7 := hD
  obtain ⟨r1, r2, r3, r4⟩ := id hR
  have hv := kwa_le 60 0 _ _ v hw
  refine mr_seg 7 (pc1 := 26) (ls1 := [some (.ref 138), some (.int (-1))]) (st1 := [.ref 140, .ref 139]) (M1 := (mk_M c n m kk (rT (he, ke, ki, fi, fa, or, mi, a, g, l, w, s) xm xi xw im le nu rf ln nn vp xn xc vs))) (fun f => rfl) ?_
  refine mr_call (y := 138) (y0 := 29) (L := [some (.ref 139), some (.ref 140), none]) (rest := []) (rr := none) (M1 := (mk_M c n m kk (rT (he, ke, ki, fi, fa, or, mi, a, g, l, w, s) (er (he, ke, ki, fi, fa, or, mi, a, g, l, w, s)) xi xw im le nu rf ln nn vp xn xc vs))) (fun f => rfl) (rc_copies (a := 140) (b := 139) (by decide) rfl rfl (er_len hV) r1) ?_
  refine mr_seg 6 (pc1 := 39) (ls1 := [some (.ref 138), some (.int (-1))]) (st1 := [.int 3, .ref 139, .ref 138]) (M1 := (mk_M c n m kk (rT (he, ke, ki, fi, fa, or, mi, a, g, l, w, s) (er (he, ke, ki, fi, fa, or, mi, a, g, l, w, s)) xi xw im le nu rf ln nn vp xn xc vs))) (fun f => rfl) ?_
  refine mr_ldn (xs := (er (he, ke, ki, fi, fa, or, mi, a, g, l, w, s))) rfl rfl (k := 3) (by decide) rfl ?_
  refine mr_seg 1 (pc1 := 44) (ls1 := [some (.ref 138), some (.int (-1))]) (st1 := [.int (nI g), .ref 138]) (M1 := (mk_M c n m kk (rT (he, ke, ki, fi, fa, or, mi, a, g, l, w, s) (er (he, ke, ki, fi, fa, or, mi, a, g, l, w, s)) xi xw im le nu rf ln nn vp xn xc vs))) (fun f => rfl) ?_
  refine mr_call (y := 173) (y0 := 47) (L := [some (.ref 138), some (.int (nI g)), none]) (rest := []) (rr := some (.int (nI v))) (M1 := (mk_M c n m kk (rT (he, ke, ki, fi, fa, or, mi, a, g, l, w, s) (er (kwaR 60 (he, ke, ki, fi, fa, or, mi, a, g, l, w, s) g)) xi xw im le nu rf ln nn vp xn xc vs))) (fun f => rfl) (mr_eq (rc_wa c n m kk (rT (he, ke, ki, fi, fa, or, mi, a, g, l, w, s) (er (he, ke, ki, fi, fa, or, mi, a, g, l, w, s)) xi xw im le nu rf ln nn vp xn xc vs) g (by omega) (he, ke, ki, fi, fa, or, mi, a, g, l, w, s) hV (show s < 2 ^ 20 by omega)) (by rw [hw] <;> rfl)) ?_
  exact mr_ret 1 (fun f => rfl)
theorem oe_comes_3 (he ke ki fi fa or : List Nat) (mi a g l w s : Nat) (m : kG) (kk : kG) (im : Nat) (le : List Nat) (ln : Nat) (ys : List Int32) (vt : Int32) (nu : List Nat) (nn : Nat) (rf : List Nat) (vw : Int32) (vq : Int32) (yc : List Int32) (yh : List Int32) (yg : List Int32) (xm : List Int32) (xi : List Int32) (xw : List Int32) (vp : Int32) (xn : List Int32) (xc : List Int32) (vs : Int32) (hA : iA (he, ke, ki, fi, fa, or, mi, a, g, l, w, s)) (hB : iB le ln) (hC : iC nu nn) (hD : iD rf) (hJ : iJ m ys yc yh yg) (hR : iR xm xw xn xc) (hK : iK im kk xi) (v : Nat) (hw : kwa 60 0 (he, ke, ki, fi, fa, or, mi, a, g, l, w, s) g = some v) : oI 79 172 [some (.ref 100), some (.int (-1)), none] [some (.ref 138), some (.int (-1))] (mk_M (cT im le ln ys vt nu nn rf vw vq yc yh yg) (kr (he, ke, ki, fi, fa, or, mi, a, g, l, w, s)) m kk (rT (he, ke, ki, fi, fa, or, mi, a, g, l, w, s) xm xi xw im le nu rf ln nn vp xn xc vs)) := by
  obtain ⟨hV, hst⟩ := id hA
  have hst2 : s ≤ 999 := hst
  obtain ⟨v1, v2, v3, v4, v5, v6, v7, v8, v9, v10, v11, v12, v13, v14, v15, v16⟩ := id hV
  have v6l := kO_len mi v7 or v6
  obtain ⟨b1, b2, b3⟩ := id hB
  obtain ⟨c1, c2, c3⟩ := id hC
  have d1 : rf.length = 7 := hD
  obtain ⟨j0, j1, j2, j3, j4⟩ := id hJ
  obtain ⟨r1, r2, r3, r4⟩ := id hR
  obtain ⟨k0, k1, k2, k3⟩ := id hK
  have hv := kwa_le 60 0 _ _ v hw
  exact ⟨(nI v), _, _, oc_comes_3 he ke ki fi fa or mi a g l w s im le ln ys vt nu nn rf vw vq yc yh yg m kk _ hA hB hC hD hJ hK.1 v hw, om_comes_3 he ke ki fi fa or mi a g l w s xm xi xw im le nu rf ln nn vp xn xc vs _ _ _ _ hA hB hC hD hR hK.2.1 v hw, (he, ke, ki, fi, fa, or, mi, a, g, l, w, s), (kr (kwaK 60 (he, ke, ki, fi, fa, or, mi, a, g, l, w, s) g)), kk, im, le, ln, ys, vt, nu, nn, rf, vw, vq, yc, yh, yg, (er (kwaR 60 (he, ke, ki, fi, fa, or, mi, a, g, l, w, s) g)), xi, xw, vp, xn, xc, vs, rfl, hA, hB, hC, hD, ⟨kSh_r (kV_waK 60 g hV), j1, j2, j3, j4⟩, ⟨er_len (kV_waR 60 g hV), r2, r3, r4⟩, hK⟩
set_option maxRecDepth 100000 in
theorem oc_comes_4 (he ke ki fi fa or : List Nat) (mi a g l w s : Nat) (im : Nat) (le : List Nat) (ln : Nat) (ys : List Int32) (vt : Int32) (nu : List Nat) (nn : Nat) (rf : List Nat) (vw vq : Int32) (yc yh yg : List Int32) (m kk : kG) (q : cR) (hA : iA (he, ke, ki, fi, fa, or, mi, a, g, l, w, s)) (hB : iB le ln) (hC : iC nu nn) (hD : iD rf) (hJ : iJ m ys yc yh yg) (k0 : kSh kk) (x : Nat) (hx : x < 25) (hw : kwa 60 0 (he, ke, ki, fi, fa, or, mi, a, g, l, w, s) x = none) : mm_R 79 0 [some (.ref 100), some (.int (nI x)), none] [] (mk_M (cT im le ln ys vt nu nn rf vw vq yc yh yg) (kr (he, ke, ki, fi, fa, or, mi, a, g, l, w, s)) m kk q) (some (.int (-9)), (mk_M (cT im le ln ys vt nu nn rf vw vq yc yh yg) (kr (he, ke, ki, fi, fa, or, mi, a, g, l, w, s)) (kr (kwaK 60 (he, ke, ki, fi, fa, or, mi, a, g, l, w, s) x)) kk q)) := by
  obtain ⟨hV, hst⟩ := id hA
  have hst2 : s ≤ 999 := hst
  obtain ⟨v1, v2, v3, v4, v5, v6, v7, v8, v9, v10, v11, v12, v13, v14, v15, v16⟩ := id hV
  have v6l := kO_len mi v7 or v6
  obtain ⟨b1, b2, b3⟩ := id hB
  obtain ⟨c1, c2, c3⟩ := id hC
  have d1 : rf.length = 7 := hD
  obtain ⟨j0, j1, j2, j3, j4⟩ := id hJ
  refine mr_seg 2 (pc1 := 2) (ls1 := [some (.ref 100), some (.int (nI x)), none]) (st1 := [.int (-1), .int (nI x)]) (M1 := (mk_M (cT im le ln ys vt nu nn rf vw vq yc yh yg) (kr (he, ke, ki, fi, fa, or, mi, a, g, l, w, s)) m kk q)) (fun f => rfl) ?_
  refine mr_f (C := (nI x) = (-1)) (k_nc (by omega) (by decide)) (fun f => rfl) ?_
  refine mr_seg 1 (pc1 := 6) (ls1 := [some (.ref 100), some (.int (nI x)), none]) (st1 := [.int (nI x)]) (M1 := (mk_M (cT im le ln ys vt nu nn rf vw vq yc yh yg) (kr (he, ke, ki, fi, fa, or, mi, a, g, l, w, s)) m kk q)) (fun f => rfl) ?_
  refine mr_call (y := 37) (y0 := 9) (L := [some (.int (nI x))]) (rest := []) (rr := some (.int 1)) (M1 := (mk_M (cT im le ln ys vt nu nn rf vw vq yc yh yg) (kr (he, ke, ki, fi, fa, or, mi, a, g, l, w, s)) m kk q)) (fun f => rfl) (ms_c1_ok (x := (nI x)) (nI_ltf (a := x) (b := 0) (by omega)) (nI_lef (a := 25) (b := x) (by omega))) ?_
  refine mr_seg 2 (pc1 := 19) (ls1 := [some (.ref 100), some (.int (nI x)), none]) (st1 := [.ref 100]) (M1 := (mk_M (cT im le ln ys vt nu nn rf vw vq yc yh yg) (kr (he, ke, ki, fi, fa, or, mi, a, g, l, w, s)) m kk q)) (fun f => rfl) ?_
  refine mr_call (y := 75) (y0 := 22) (L := [some (.ref 100)]) (rest := []) (rr := some (.ref 124)) (M1 := (mk_M (cT im le ln ys vt nu nn rf vw vq yc yh yg) (kr (he, ke, ki, fi, fa, or, mi, a, g, l, w, s)) (kr (he, ke, ki, fi, fa, or, mi, a, g, l, w, s)) kk q)) (fun f => rfl) (cc_now (he, ke, ki, fi, fa, or, mi, a, g, l, w, s) (cT im le ln ys vt nu nn rf vw vq yc yh yg) m kk q hV j0) ?_
  refine mr_seg 2 (pc1 := 24) (ls1 := [some (.ref 100), some (.int (nI x)), none]) (st1 := [.int (-1), .int (nI x), .ref 124]) (M1 := (mk_M (cT im le ln ys vt nu nn rf vw vq yc yh yg) (kr (he, ke, ki, fi, fa, or, mi, a, g, l, w, s)) (kr (he, ke, ki, fi, fa, or, mi, a, g, l, w, s)) kk q)) (fun f => rfl) ?_
  refine mr_f (C := (nI x) = (-1)) (k_nc (by omega) (by decide)) (fun f => rfl) ?_
  refine mr_seg 1 (pc1 := 38) (ls1 := [some (.ref 100), some (.int (nI x)), none]) (st1 := [.int (nI x), .ref 124]) (M1 := (mk_M (cT im le ln ys vt nu nn rf vw vq yc yh yg) (kr (he, ke, ki, fi, fa, or, mi, a, g, l, w, s)) (kr (he, ke, ki, fi, fa, or, mi, a, g, l, w, s)) kk q)) (fun f => rfl) ?_
  refine mr_call (y := 80) (y0 := 41) (L := [some (.ref 124), some (.int (nI x)), none]) (rest := []) (rr := some (.int 1000000)) (M1 := (mk_M (cT im le ln ys vt nu nn rf vw vq yc yh yg) (kr (he, ke, ki, fi, fa, or, mi, a, g, l, w, s)) (kr (kwaK 60 (he, ke, ki, fi, fa, or, mi, a, g, l, w, s) x)) kk q)) (fun f => rfl) (mr_eq (kl_m (cT im le ln ys vt nu nn rf vw vq yc yh yg) (kr (he, ke, ki, fi, fa, or, mi, a, g, l, w, s)) kk q (kc_wa x (by omega) (he, ke, ki, fi, fa, or, mi, a, g, l, w, s) hV (show s < 2 ^ 20 by omega))) (by rw [hw] <;> rfl)) ?_
  exact mr_ret 7 (fun f => rfl)
set_option maxRecDepth 100000 in
theorem om_comes_4 (he ke ki fi fa or : List Nat) (mi a g l w s : Nat) (xm xi xw : List Int32) (im : Nat) (le nu rf : List Nat) (ln nn : Nat) (vp : Int32) (xn xc : List Int32) (vs : Int32) (c : cC) (n m kk : kG) (hA : iA (he, ke, ki, fi, fa, or, mi, a, g, l, w, s)) (hB : iB le ln) (hC : iC nu nn) (hD : iD rf) (hR : iR xm xw xn xc) (k1 : xi.length = 52) (x : Nat) (hx : x < 25) (hw : kwa 60 0 (he, ke, ki, fi, fa, or, mi, a, g, l, w, s) x = none) : mm_R 172 0 [some (.ref 138), some (.int (nI x))] [] (mk_M c n m kk (rT (he, ke, ki, fi, fa, or, mi, a, g, l, w, s) xm xi xw im le nu rf ln nn vp xn xc vs)) (some (.int (-9)), (mk_M c n m kk (rT (he, ke, ki, fi, fa, or, mi, a, g, l, w, s) (er (kwaR 60 (he, ke, ki, fi, fa, or, mi, a, g, l, w, s) x)) xi xw im le nu rf ln nn vp xn xc vs))) := by
  obtain ⟨hV, hst⟩ := id hA
  have hst2 : s ≤ 999 := hst
  obtain ⟨v1, v2, v3, v4, v5, v6, v7, v8, v9, v10, v11, v12, v13, v14, v15, v16⟩ := id hV
  have v6l := kO_len mi v7 or v6
  obtain ⟨b1, b2, b3⟩ := id hB
  obtain ⟨c1, c2, c3⟩ := id hC
  have d1 : rf.length = 7 := hD
  obtain ⟨r1, r2, r3, r4⟩ := id hR
  refine mr_seg 2 (pc1 := 2) (ls1 := [some (.ref 138), some (.int (nI x))]) (st1 := [.int (-1), .int (nI x)]) (M1 := (mk_M c n m kk (rT (he, ke, ki, fi, fa, or, mi, a, g, l, w, s) xm xi xw im le nu rf ln nn vp xn xc vs))) (fun f => rfl) ?_
  refine mr_f (C := (nI x) = (-1)) (k_nc (by omega) (by decide)) (fun f => rfl) ?_
  refine mr_seg 1 (pc1 := 6) (ls1 := [some (.ref 138), some (.int (nI x))]) (st1 := [.int (nI x)]) (M1 := (mk_M c n m kk (rT (he, ke, ki, fi, fa, or, mi, a, g, l, w, s) xm xi xw im le nu rf ln nn vp xn xc vs))) (fun f => rfl) ?_
  refine mr_call (y := 140) (y0 := 9) (L := [some (.int (nI x))]) (rest := []) (rr := some (.int 1)) (M1 := (mk_M c n m kk (rT (he, ke, ki, fi, fa, or, mi, a, g, l, w, s) xm xi xw im le nu rf ln nn vp xn xc vs))) (fun f => rfl) (ms_c2_ok (x := (nI x)) (nI_ltf (a := x) (b := 0) (by omega)) (nI_ltf (a := 24) (b := x) (by omega))) ?_
  refine mr_seg 5 (pc1 := 26) (ls1 := [some (.ref 138), some (.int (nI x))]) (st1 := [.ref 140, .ref 139]) (M1 := (mk_M c n m kk (rT (he, ke, ki, fi, fa, or, mi, a, g, l, w, s) xm xi xw im le nu rf ln nn vp xn xc vs))) (fun f => rfl) ?_
  refine mr_call (y := 138) (y0 := 29) (L := [some (.ref 139), some (.ref 140), none]) (rest := []) (rr := none) (M1 := (mk_M c n m kk (rT (he, ke, ki, fi, fa, or, mi, a, g, l, w, s) (er (he, ke, ki, fi, fa, or, mi, a, g, l, w, s)) xi xw im le nu rf ln nn vp xn xc vs))) (fun f => rfl) (rc_copies (a := 140) (b := 139) (by decide) rfl rfl (er_len hV) r1) ?_
  refine mr_seg 2 (pc1 := 31) (ls1 := [some (.ref 138), some (.int (nI x))]) (st1 := [.int (nI x), .ref 138]) (M1 := (mk_M c n m kk (rT (he, ke, ki, fi, fa, or, mi, a, g, l, w, s) (er (he, ke, ki, fi, fa, or, mi, a, g, l, w, s)) xi xw im le nu rf ln nn vp xn xc vs))) (fun f => rfl) ?_
  refine mr_t (C := 0 ≤ (nI x)) (nI_let (a := 0) (b := x) (by omega)) (fun f => rfl) ?_
  refine mr_seg 1 (pc1 := 44) (ls1 := [some (.ref 138), some (.int (nI x))]) (st1 := [.int (nI x), .ref 138]) (M1 := (mk_M c n m kk (rT (he, ke, ki, fi, fa, or, mi, a, g, l, w, s) (er (he, ke, ki, fi, fa, or, mi, a, g, l, w, s)) xi xw im le nu rf ln nn vp xn xc vs))) (fun f => rfl) ?_
  refine mr_call (y := 173) (y0 := 47) (L := [some (.ref 138), some (.int (nI x)), none]) (rest := []) (rr := some (.int (-9))) (M1 := (mk_M c n m kk (rT (he, ke, ki, fi, fa, or, mi, a, g, l, w, s) (er (kwaR 60 (he, ke, ki, fi, fa, or, mi, a, g, l, w, s) x)) xi xw im le nu rf ln nn vp xn xc vs))) (fun f => rfl) (mr_eq (rc_wa c n m kk (rT (he, ke, ki, fi, fa, or, mi, a, g, l, w, s) (er (he, ke, ki, fi, fa, or, mi, a, g, l, w, s)) xi xw im le nu rf ln nn vp xn xc vs) x (by omega) (he, ke, ki, fi, fa, or, mi, a, g, l, w, s) hV (show s < 2 ^ 20 by omega)) (by rw [hw] <;> rfl)) ?_
  exact mr_ret 1 (fun f => rfl)
theorem oe_comes_4 (he ke ki fi fa or : List Nat) (mi a g l w s : Nat) (m : kG) (kk : kG) (im : Nat) (le : List Nat) (ln : Nat) (ys : List Int32) (vt : Int32) (nu : List Nat) (nn : Nat) (rf : List Nat) (vw : Int32) (vq : Int32) (yc : List Int32) (yh : List Int32) (yg : List Int32) (xm : List Int32) (xi : List Int32) (xw : List Int32) (vp : Int32) (xn : List Int32) (xc : List Int32) (vs : Int32) (hA : iA (he, ke, ki, fi, fa, or, mi, a, g, l, w, s)) (hB : iB le ln) (hC : iC nu nn) (hD : iD rf) (hJ : iJ m ys yc yh yg) (hR : iR xm xw xn xc) (hK : iK im kk xi) (x : Nat) (hx : x < 25) (hw : kwa 60 0 (he, ke, ki, fi, fa, or, mi, a, g, l, w, s) x = none) : oI 79 172 [some (.ref 100), some (.int (nI x)), none] [some (.ref 138), some (.int (nI x))] (mk_M (cT im le ln ys vt nu nn rf vw vq yc yh yg) (kr (he, ke, ki, fi, fa, or, mi, a, g, l, w, s)) m kk (rT (he, ke, ki, fi, fa, or, mi, a, g, l, w, s) xm xi xw im le nu rf ln nn vp xn xc vs)) := by
  obtain ⟨hV, hst⟩ := id hA
  have hst2 : s ≤ 999 := hst
  obtain ⟨v1, v2, v3, v4, v5, v6, v7, v8, v9, v10, v11, v12, v13, v14, v15, v16⟩ := id hV
  have v6l := kO_len mi v7 or v6
  obtain ⟨b1, b2, b3⟩ := id hB
  obtain ⟨c1, c2, c3⟩ := id hC
  have d1 : rf.length = 7 := hD
  obtain ⟨j0, j1, j2, j3, j4⟩ := id hJ
  obtain ⟨r1, r2, r3, r4⟩ := id hR
  obtain ⟨k0, k1, k2, k3⟩ := id hK
  exact ⟨(-9), _, _, oc_comes_4 he ke ki fi fa or mi a g l w s im le ln ys vt nu nn rf vw vq yc yh yg m kk _ hA hB hC hD hJ hK.1 x hx hw, om_comes_4 he ke ki fi fa or mi a g l w s xm xi xw im le nu rf ln nn vp xn xc vs _ _ _ _ hA hB hC hD hR hK.2.1 x hx hw, (he, ke, ki, fi, fa, or, mi, a, g, l, w, s), (kr (kwaK 60 (he, ke, ki, fi, fa, or, mi, a, g, l, w, s) x)), kk, im, le, ln, ys, vt, nu, nn, rf, vw, vq, yc, yh, yg, (er (kwaR 60 (he, ke, ki, fi, fa, or, mi, a, g, l, w, s) x)), xi, xw, vp, xn, xc, vs, rfl, hA, hB, hC, hD, ⟨kSh_r (kV_waK 60 x hV), j1, j2, j3, j4⟩, ⟨er_len (kV_waR 60 x hV), r2, r3, r4⟩, hK⟩
set_option maxRecDepth 100000 in
theorem oc_comes_5 (he ke ki fi fa or : List Nat) (mi a g l w s : Nat) (im : Nat) (le : List Nat) (ln : Nat) (ys : List Int32) (vt : Int32) (nu : List Nat) (nn : Nat) (rf : List Nat) (vw vq : Int32) (yc yh yg : List Int32) (m kk : kG) (q : cR) (hA : iA (he, ke, ki, fi, fa, or, mi, a, g, l, w, s)) (hB : iB le ln) (hC : iC nu nn) (hD : iD rf) (hJ : iJ m ys yc yh yg) (k0 : kSh kk) (x : Nat) (hx : x < 25) (v : Nat) (hw : kwa 60 0 (he, ke, ki, fi, fa, or, mi, a, g, l, w, s) x = some v) : mm_R 79 0 [some (.ref 100), some (.int (nI x)), none] [] (mk_M (cT im le ln ys vt nu nn rf vw vq yc yh yg) (kr (he, ke, ki, fi, fa, or, mi, a, g, l, w, s)) m kk q) (some (.int (nI v)), (mk_M (cT im le ln ys vt nu nn rf vw vq yc yh yg) (kr (he, ke, ki, fi, fa, or, mi, a, g, l, w, s)) (kr (kwaK 60 (he, ke, ki, fi, fa, or, mi, a, g, l, w, s) x)) kk q)) := by
  obtain ⟨hV, hst⟩ := id hA
  have hst2 : s ≤ 999 := hst
  obtain ⟨v1, v2, v3, v4, v5, v6, v7, v8, v9, v10, v11, v12, v13, v14, v15, v16⟩ := id hV
  have v6l := kO_len mi v7 or v6
  obtain ⟨b1, b2, b3⟩ := id hB
  obtain ⟨c1, c2, c3⟩ := id hC
  have d1 : rf.length = 7 := hD
  obtain ⟨j0, j1, j2, j3, j4⟩ := id hJ
  have hv := kwa_le 60 0 _ _ v hw
  refine mr_seg 2 (pc1 := 2) (ls1 := [some (.ref 100), some (.int (nI x)), none]) (st1 := [.int (-1), .int (nI x)]) (M1 := (mk_M (cT im le ln ys vt nu nn rf vw vq yc yh yg) (kr (he, ke, ki, fi, fa, or, mi, a, g, l, w, s)) m kk q)) (fun f => rfl) ?_
  refine mr_f (C := (nI x) = (-1)) (k_nc (by omega) (by decide)) (fun f => rfl) ?_
  refine mr_seg 1 (pc1 := 6) (ls1 := [some (.ref 100), some (.int (nI x)), none]) (st1 := [.int (nI x)]) (M1 := (mk_M (cT im le ln ys vt nu nn rf vw vq yc yh yg) (kr (he, ke, ki, fi, fa, or, mi, a, g, l, w, s)) m kk q)) (fun f => rfl) ?_
  refine mr_call (y := 37) (y0 := 9) (L := [some (.int (nI x))]) (rest := []) (rr := some (.int 1)) (M1 := (mk_M (cT im le ln ys vt nu nn rf vw vq yc yh yg) (kr (he, ke, ki, fi, fa, or, mi, a, g, l, w, s)) m kk q)) (fun f => rfl) (ms_c1_ok (x := (nI x)) (nI_ltf (a := x) (b := 0) (by omega)) (nI_lef (a := 25) (b := x) (by omega))) ?_
  refine mr_seg 2 (pc1 := 19) (ls1 := [some (.ref 100), some (.int (nI x)), none]) (st1 := [.ref 100]) (M1 := (mk_M (cT im le ln ys vt nu nn rf vw vq yc yh yg) (kr (he, ke, ki, fi, fa, or, mi, a, g, l, w, s)) m kk q)) (fun f => rfl) ?_
  refine mr_call (y := 75) (y0 := 22) (L := [some (.ref 100)]) (rest := []) (rr := some (.ref 124)) (M1 := (mk_M (cT im le ln ys vt nu nn rf vw vq yc yh yg) (kr (he, ke, ki, fi, fa, or, mi, a, g, l, w, s)) (kr (he, ke, ki, fi, fa, or, mi, a, g, l, w, s)) kk q)) (fun f => rfl) (cc_now (he, ke, ki, fi, fa, or, mi, a, g, l, w, s) (cT im le ln ys vt nu nn rf vw vq yc yh yg) m kk q hV j0) ?_
  refine mr_seg 2 (pc1 := 24) (ls1 := [some (.ref 100), some (.int (nI x)), none]) (st1 := [.int (-1), .int (nI x), .ref 124]) (M1 := (mk_M (cT im le ln ys vt nu nn rf vw vq yc yh yg) (kr (he, ke, ki, fi, fa, or, mi, a, g, l, w, s)) (kr (he, ke, ki, fi, fa, or, mi, a, g, l, w, s)) kk q)) (fun f => rfl) ?_
  refine mr_f (C := (nI x) = (-1)) (k_nc (by omega) (by decide)) (fun f => rfl) ?_
  refine mr_seg 1 (pc1 := 38) (ls1 := [some (.ref 100), some (.int (nI x)), none]) (st1 := [.int (nI x), .ref 124]) (M1 := (mk_M (cT im le ln ys vt nu nn rf vw vq yc yh yg) (kr (he, ke, ki, fi, fa, or, mi, a, g, l, w, s)) (kr (he, ke, ki, fi, fa, or, mi, a, g, l, w, s)) kk q)) (fun f => rfl) ?_
  refine mr_call (y := 80) (y0 := 41) (L := [some (.ref 124), some (.int (nI x)), none]) (rest := []) (rr := some (.int (nI v))) (M1 := (mk_M (cT im le ln ys vt nu nn rf vw vq yc yh yg) (kr (he, ke, ki, fi, fa, or, mi, a, g, l, w, s)) (kr (kwaK 60 (he, ke, ki, fi, fa, or, mi, a, g, l, w, s) x)) kk q)) (fun f => rfl) (mr_eq (kl_m (cT im le ln ys vt nu nn rf vw vq yc yh yg) (kr (he, ke, ki, fi, fa, or, mi, a, g, l, w, s)) kk q (kc_wa x (by omega) (he, ke, ki, fi, fa, or, mi, a, g, l, w, s) hV (show s < 2 ^ 20 by omega))) (by rw [hw] <;> rfl)) ?_
  refine mr_seg 3 (pc1 := 45) (ls1 := [some (.ref 100), some (.int (nI x)), some (.int (nI v))]) (st1 := [.int 1000000, .int (nI v)]) (M1 := (mk_M (cT im le ln ys vt nu nn rf vw vq yc yh yg) (kr (he, ke, ki, fi, fa, or, mi, a, g, l, w, s)) (kr (kwaK 60 (he, ke, ki, fi, fa, or, mi, a, g, l, w, s) x)) kk q)) (fun f => rfl) ?_
  refine mr_f (C := (nI v) = 1000000) (nI_eqf (a := v) (b := 1000000) (by omega)) (fun f => rfl) ?_
  exact mr_ret 2 (fun f => rfl)
set_option maxRecDepth 100000 in
theorem om_comes_5 (he ke ki fi fa or : List Nat) (mi a g l w s : Nat) (xm xi xw : List Int32) (im : Nat) (le nu rf : List Nat) (ln nn : Nat) (vp : Int32) (xn xc : List Int32) (vs : Int32) (c : cC) (n m kk : kG) (hA : iA (he, ke, ki, fi, fa, or, mi, a, g, l, w, s)) (hB : iB le ln) (hC : iC nu nn) (hD : iD rf) (hR : iR xm xw xn xc) (k1 : xi.length = 52) (x : Nat) (hx : x < 25) (v : Nat) (hw : kwa 60 0 (he, ke, ki, fi, fa, or, mi, a, g, l, w, s) x = some v) : mm_R 172 0 [some (.ref 138), some (.int (nI x))] [] (mk_M c n m kk (rT (he, ke, ki, fi, fa, or, mi, a, g, l, w, s) xm xi xw im le nu rf ln nn vp xn xc vs)) (some (.int (nI v)), (mk_M c n m kk (rT (he, ke, ki, fi, fa, or, mi, a, g, l, w, s) (er (kwaR 60 (he, ke, ki, fi, fa, or, mi, a, g, l, w, s) x)) xi xw im le nu rf ln nn vp xn xc vs))) := by
  obtain ⟨hV, hst⟩ := id hA
  have hst2 : s ≤ 999 := hst
  obtain ⟨v1, v2, v3, v4, v5, v6, v7, v8, v9, v10, v11, v12, v13, v14, v15, v16⟩ := id hV
  have v6l := kO_len mi v7 or v6
  obtain ⟨b1, b2, b3⟩ := id hB
  obtain ⟨c1, c2, c3⟩ := id hC
  have d1 : rf.length = 7 := hD
  obtain ⟨r1, r2, r3, r4⟩ := id hR
  have hv := kwa_le 60 0 _ _ v hw
  refine mr_seg 2 (pc1 := 2) (ls1 := [some (.ref 138), some (.int (nI x))]) (st1 := [.int (-1), .int (nI x)]) (M1 := (mk_M c n m kk (rT (he, ke, ki, fi, fa, or, mi, a, g, l, w, s) xm xi xw im le nu rf ln nn vp xn xc vs))) (fun f => rfl) ?_
  refine mr_f (C := (nI x) = (-1)) (k_nc (by omega) (by decide)) (fun f => rfl) ?_
  refine mr_seg 1 (pc1 := 6) (ls1 := [some (.ref 138), some (.int (nI x))]) (st1 := [.int (nI x)]) (M1 := (mk_M c n m kk (rT (he, ke, ki, fi, fa, or, mi, a, g, l, w, s) xm xi xw im le nu rf ln nn vp xn xc vs))) (fun f => rfl) ?_
  refine mr_call (y := 140) (y0 := 9) (L := [some (.int (nI x))]) (rest := []) (rr := some (.int 1)) (M1 := (mk_M c n m kk (rT (he, ke, ki, fi, fa, or, mi, a, g, l, w, s) xm xi xw im le nu rf ln nn vp xn xc vs))) (fun f => rfl) (ms_c2_ok (x := (nI x)) (nI_ltf (a := x) (b := 0) (by omega)) (nI_ltf (a := 24) (b := x) (by omega))) ?_
  refine mr_seg 5 (pc1 := 26) (ls1 := [some (.ref 138), some (.int (nI x))]) (st1 := [.ref 140, .ref 139]) (M1 := (mk_M c n m kk (rT (he, ke, ki, fi, fa, or, mi, a, g, l, w, s) xm xi xw im le nu rf ln nn vp xn xc vs))) (fun f => rfl) ?_
  refine mr_call (y := 138) (y0 := 29) (L := [some (.ref 139), some (.ref 140), none]) (rest := []) (rr := none) (M1 := (mk_M c n m kk (rT (he, ke, ki, fi, fa, or, mi, a, g, l, w, s) (er (he, ke, ki, fi, fa, or, mi, a, g, l, w, s)) xi xw im le nu rf ln nn vp xn xc vs))) (fun f => rfl) (rc_copies (a := 140) (b := 139) (by decide) rfl rfl (er_len hV) r1) ?_
  refine mr_seg 2 (pc1 := 31) (ls1 := [some (.ref 138), some (.int (nI x))]) (st1 := [.int (nI x), .ref 138]) (M1 := (mk_M c n m kk (rT (he, ke, ki, fi, fa, or, mi, a, g, l, w, s) (er (he, ke, ki, fi, fa, or, mi, a, g, l, w, s)) xi xw im le nu rf ln nn vp xn xc vs))) (fun f => rfl) ?_
  refine mr_t (C := 0 ≤ (nI x)) (nI_let (a := 0) (b := x) (by omega)) (fun f => rfl) ?_
  refine mr_seg 1 (pc1 := 44) (ls1 := [some (.ref 138), some (.int (nI x))]) (st1 := [.int (nI x), .ref 138]) (M1 := (mk_M c n m kk (rT (he, ke, ki, fi, fa, or, mi, a, g, l, w, s) (er (he, ke, ki, fi, fa, or, mi, a, g, l, w, s)) xi xw im le nu rf ln nn vp xn xc vs))) (fun f => rfl) ?_
  refine mr_call (y := 173) (y0 := 47) (L := [some (.ref 138), some (.int (nI x)), none]) (rest := []) (rr := some (.int (nI v))) (M1 := (mk_M c n m kk (rT (he, ke, ki, fi, fa, or, mi, a, g, l, w, s) (er (kwaR 60 (he, ke, ki, fi, fa, or, mi, a, g, l, w, s) x)) xi xw im le nu rf ln nn vp xn xc vs))) (fun f => rfl) (mr_eq (rc_wa c n m kk (rT (he, ke, ki, fi, fa, or, mi, a, g, l, w, s) (er (he, ke, ki, fi, fa, or, mi, a, g, l, w, s)) xi xw im le nu rf ln nn vp xn xc vs) x (by omega) (he, ke, ki, fi, fa, or, mi, a, g, l, w, s) hV (show s < 2 ^ 20 by omega)) (by rw [hw] <;> rfl)) ?_
  exact mr_ret 1 (fun f => rfl)
theorem oe_comes_5 (he ke ki fi fa or : List Nat) (mi a g l w s : Nat) (m : kG) (kk : kG) (im : Nat) (le : List Nat) (ln : Nat) (ys : List Int32) (vt : Int32) (nu : List Nat) (nn : Nat) (rf : List Nat) (vw : Int32) (vq : Int32) (yc : List Int32) (yh : List Int32) (yg : List Int32) (xm : List Int32) (xi : List Int32) (xw : List Int32) (vp : Int32) (xn : List Int32) (xc : List Int32) (vs : Int32) (hA : iA (he, ke, ki, fi, fa, or, mi, a, g, l, w, s)) (hB : iB le ln) (hC : iC nu nn) (hD : iD rf) (hJ : iJ m ys yc yh yg) (hR : iR xm xw xn xc) (hK : iK im kk xi) (x : Nat) (hx : x < 25) (v : Nat) (hw : kwa 60 0 (he, ke, ki, fi, fa, or, mi, a, g, l, w, s) x = some v) : oI 79 172 [some (.ref 100), some (.int (nI x)), none] [some (.ref 138), some (.int (nI x))] (mk_M (cT im le ln ys vt nu nn rf vw vq yc yh yg) (kr (he, ke, ki, fi, fa, or, mi, a, g, l, w, s)) m kk (rT (he, ke, ki, fi, fa, or, mi, a, g, l, w, s) xm xi xw im le nu rf ln nn vp xn xc vs)) := by
  obtain ⟨hV, hst⟩ := id hA
  have hst2 : s ≤ 999 := hst
  obtain ⟨v1, v2, v3, v4, v5, v6, v7, v8, v9, v10, v11, v12, v13, v14, v15, v16⟩ := id hV
  have v6l := kO_len mi v7 or v6
  obtain ⟨b1, b2, b3⟩ := id hB
  obtain ⟨c1, c2, c3⟩ := id hC
  have d1 : rf.length = 7 := hD
  obtain ⟨j0, j1, j2, j3, j4⟩ := id hJ
  obtain ⟨r1, r2, r3, r4⟩ := id hR
  obtain ⟨k0, k1, k2, k3⟩ := id hK
  have hv := kwa_le 60 0 _ _ v hw
  exact ⟨(nI v), _, _, oc_comes_5 he ke ki fi fa or mi a g l w s im le ln ys vt nu nn rf vw vq yc yh yg m kk _ hA hB hC hD hJ hK.1 x hx v hw, om_comes_5 he ke ki fi fa or mi a g l w s xm xi xw im le nu rf ln nn vp xn xc vs _ _ _ _ hA hB hC hD hR hK.2.1 x hx v hw, (he, ke, ki, fi, fa, or, mi, a, g, l, w, s), (kr (kwaK 60 (he, ke, ki, fi, fa, or, mi, a, g, l, w, s) x)), kk, im, le, ln, ys, vt, nu, nn, rf, vw, vq, yc, yh, yg, (er (kwaR 60 (he, ke, ki, fi, fa, or, mi, a, g, l, w, s) x)), xi, xw, vp, xn, xc, vs, rfl, hA, hB, hC, hD, ⟨kSh_r (kV_waK 60 x hV), j1, j2, j3, j4⟩, ⟨er_len (kV_waR 60 x hV), r2, r3, r4⟩, hK⟩
set_option maxRecDepth 100000 in
theorem oc_on_0 (he ke ki fi fa or : List Nat) (mi a g l w s : Nat) (im : Nat) (le : List Nat) (ln : Nat) (ys : List Int32) (vt : Int32) (nu : List Nat) (nn : Nat) (rf : List Nat) (vw vq : Int32) (yc yh yg : List Int32) (m kk : kG) (q : cR) (hA : iA (he, ke, ki, fi, fa, or, mi, a, g, l, w, s)) (hB : iB le ln) (hC : iC nu nn) (hD : iD rf) (hJ : iJ m ys yc yh yg) (k0 : kSh kk) (hq : im = 0) : mm_R 126 0 [some (.ref 100)] [] (mk_M (cT im le ln ys vt nu nn rf vw vq yc yh yg) (kr (he, ke, ki, fi, fa, or, mi, a, g, l, w, s)) m kk q) (some (.int (-3)), (mk_M (cT im le ln ys vt nu nn (rf.set 3 (kg rf 3 + 1)) vw vq yc yh yg) (kr (he, ke, ki, fi, fa, or, mi, a, g, l, w, s)) m kk q)) := by
  have hst2 : s ≤ 999 := hA.2
  have v7 : mi ≤ 5 := hA.1.2.2.2.2.2.2.1
  have b3 : ln ≤ 96 := hB.2.2
  have c3 : nn ≤ 16 := hC.2.2
  refine mr_seg 2 (pc1 := 4) (ls1 := [some (.ref 100)]) (st1 := [.int (nI im)]) (M1 := (mk_M (cT im le ln ys vt nu nn rf vw vq yc yh yg) (kr (he, ke, ki, fi, fa, or, mi, a, g, l, w, s)) m kk q)) (fun f => rfl) ?_
  refine mr_t (C := (nI im) = 0) (nI_eqt (a := im) (b := 0) (by omega)) (fun f => rfl) ?_
  refine mr_seg 2 (pc1 := 10) (ls1 := [some (.ref 100)]) (st1 := [.int (-3), .ref 100]) (M1 := (mk_M (cT im le ln ys vt nu nn rf vw vq yc yh yg) (kr (he, ke, ki, fi, fa, or, mi, a, g, l, w, s)) m kk q)) (fun f => rfl) ?_
  refine mr_call (y := 12) (y0 := 13) (L := [some (.ref 100), some (.int (-3))]) (rest := []) (rr := some (.int (-3))) (M1 := (mk_M (cT im le ln ys vt nu nn (rf.set 3 (kg rf 3 + 1)) vw vq yc yh yg) (kr (he, ke, ki, fi, fa, or, mi, a, g, l, w, s)) m kk q)) (fun f => rfl) (ms_re3 hD) ?_
  exact mr_ret 1 (fun f => rfl)
set_option maxRecDepth 100000 in
theorem om_on_0 (he ke ki fi fa or : List Nat) (mi a g l w s : Nat) (xm xi xw : List Int32) (im : Nat) (le nu rf : List Nat) (ln nn : Nat) (vp : Int32) (xn xc : List Int32) (vs : Int32) (c : cC) (n m kk : kG) (hA : iA (he, ke, ki, fi, fa, or, mi, a, g, l, w, s)) (hB : iB le ln) (hC : iC nu nn) (hD : iD rf) (hR : iR xm xw xn xc) (k1 : xi.length = 52) (hq : im = 0) : mm_R 210 0 [some (.ref 138)] [] (mk_M c n m kk (rT (he, ke, ki, fi, fa, or, mi, a, g, l, w, s) xm xi xw im le nu rf ln nn vp xn xc vs)) (some (.int (-3)), (mk_M c n m kk (rT (he, ke, ki, fi, fa, or, mi, a, g, l, w, s) xm xi xw im le nu (rf.set 3 (kg rf 3 + 1)) ln nn vp xn xc vs))) := by
  have hst2 : s ≤ 999 := hA.2
  have v7 : mi ≤ 5 := hA.1.2.2.2.2.2.2.1
  have b3 : ln ≤ 96 := hB.2.2
  have c3 : nn ≤ 16 := hC.2.2
  refine mr_seg 2 (pc1 := 4) (ls1 := [some (.ref 138)]) (st1 := [.int (nI im)]) (M1 := (mk_M c n m kk (rT (he, ke, ki, fi, fa, or, mi, a, g, l, w, s) xm xi xw im le nu rf ln nn vp xn xc vs))) (fun f => rfl) ?_
  refine mr_t (C := (nI im) = 0) (nI_eqt (a := im) (b := 0) (by omega)) (fun f => rfl) ?_
  refine mr_seg 2 (pc1 := 10) (ls1 := [some (.ref 138)]) (st1 := [.int (-3), .ref 138]) (M1 := (mk_M c n m kk (rT (he, ke, ki, fi, fa, or, mi, a, g, l, w, s) xm xi xw im le nu rf ln nn vp xn xc vs))) (fun f => rfl) ?_
  refine mr_call (y := 130) (y0 := 13) (L := [some (.ref 138), some (.int (-3))]) (rest := []) (rr := some (.int (-3))) (M1 := (mk_M c n m kk (rT (he, ke, ki, fi, fa, or, mi, a, g, l, w, s) xm xi xw im le nu (rf.set 3 (kg rf 3 + 1)) ln nn vp xn xc vs))) (fun f => rfl) (ms_no3 hD) ?_
  exact mr_ret 1 (fun f => rfl)
theorem oe_on_0 (he ke ki fi fa or : List Nat) (mi a g l w s : Nat) (m : kG) (kk : kG) (im : Nat) (le : List Nat) (ln : Nat) (ys : List Int32) (vt : Int32) (nu : List Nat) (nn : Nat) (rf : List Nat) (vw : Int32) (vq : Int32) (yc : List Int32) (yh : List Int32) (yg : List Int32) (xm : List Int32) (xi : List Int32) (xw : List Int32) (vp : Int32) (xn : List Int32) (xc : List Int32) (vs : Int32) (hA : iA (he, ke, ki, fi, fa, or, mi, a, g, l, w, s)) (hB : iB le ln) (hC : iC nu nn) (hD : iD rf) (hJ : iJ m ys yc yh yg) (hR : iR xm xw xn xc) (hK : iK im kk xi) (hq : im = 0) : oI 126 210 [some (.ref 100)] [some (.ref 138)] (mk_M (cT im le ln ys vt nu nn rf vw vq yc yh yg) (kr (he, ke, ki, fi, fa, or, mi, a, g, l, w, s)) m kk (rT (he, ke, ki, fi, fa, or, mi, a, g, l, w, s) xm xi xw im le nu rf ln nn vp xn xc vs)) := by
  exact ⟨(-3), _, _, oc_on_0 he ke ki fi fa or mi a g l w s im le ln ys vt nu nn rf vw vq yc yh yg m kk _ hA hB hC hD hJ hK.1 hq, om_on_0 he ke ki fi fa or mi a g l w s xm xi xw im le nu rf ln nn vp xn xc vs _ _ _ _ hA hB hC hD hR hK.2.1 hq, (he, ke, ki, fi, fa, or, mi, a, g, l, w, s), m, kk, im, le, ln, ys, vt, nu, nn, (rf.set 3 (kg rf 3 + 1)), vw, vq, yc, yh, yg, xm, xi, xw, vp, xn, xc, vs, rfl, hA, hB, hC, iD_s hD, hJ, hR, hK⟩
set_option maxRecDepth 100000 in
theorem oc_on_1 (he ke ki fi fa or : List Nat) (mi a g l w s : Nat) (im : Nat) (le : List Nat) (ln : Nat) (ys : List Int32) (vt : Int32) (nu : List Nat) (nn : Nat) (rf : List Nat) (vw vq : Int32) (yc yh yg : List Int32) (n m : kG) (q : cR) (hV : kV (he, ke, ki, fi, fa, or, mi, a, g, l, w, s)) (hn : kSh n) (hq : im = 1) : mm_R 126 0 [some (.ref 100)] [] (mk_M (cT im le ln ys vt nu nn rf vw vq yc yh yg) n m (kr (he, ke, ki, fi, fa, or, mi, a, g, l, w, s)) q) (some (.int (nI s)), mk_M (cT im le ln ys vt nu nn rf vw vq yc yh yg) (kr (he, ke, ki, fi, fa, or, mi, a, g, l, w, s)) m (kr (he, ke, ki, fi, fa, or, mi, a, g, l, w, s)) q) := by
  refine mr_seg 2 (pc1 := 4) (ls1 := [some (.ref 100)]) (st1 := [.int (nI im)]) (M1 := (mk_M (cT im le ln ys vt nu nn rf vw vq yc yh yg) n m (kr (he, ke, ki, fi, fa, or, mi, a, g, l, w, s)) q)) (fun f => rfl) ?_
  refine mr_f (C := (nI im) = 0) (nI_eqf (a := im) (b := 0) (by omega)) (fun f => rfl) ?_
  refine mr_seg 4 (pc1 := 22) (ls1 := [some (.ref 100)]) (st1 := [.ref 131, .ref 117]) (M1 := (mk_M (cT im le ln ys vt nu nn rf vw vq yc yh yg) n m (kr (he, ke, ki, fi, fa, or, mi, a, g, l, w, s)) q)) (fun f => rfl) ?_
  refine mr_call (y := 76) (y0 := 25) (L := [some (.ref 117), some (.ref 131)]) (rest := []) (rr := none) (M1 := (mk_M (cT im le ln ys vt nu nn rf vw vq yc yh yg) (kr (he, ke, ki, fi, fa, or, mi, a, g, l, w, s)) m (kr (he, ke, ki, fi, fa, or, mi, a, g, l, w, s)) q)) (fun f => rfl) (cc_be_nk he ke ki fi fa or mi a g l w s (cT im le ln ys vt nu nn rf vw vq yc yh yg) n m q hV hn) ?_
  exact mr_ret 4 (fun f => rfl)
set_option maxRecDepth 100000 in
theorem om_on_1 (he ke ki fi fa or : List Nat) (mi a g l w s : Nat) (xs xm xw : List Int32) (im : Nat) (le nu rf : List Nat) (ln nn : Nat) (vp : Int32) (xn xc : List Int32) (vs : Int32) (c : cC) (n m kk : kG) (hV : kV (he, ke, ki, fi, fa, or, mi, a, g, l, w, s)) (hx : xs.length = 52) (hq : im = 1) : mm_R 210 0 [some (.ref 138)] [] (mk_M c n m kk (xs, xm, (er (he, ke, ki, fi, fa, or, mi, a, g, l, w, s)), xw, (nI im), (le.map nI), (nu.map nI), (rf.map nI), (nI ln), (nI nn), vp, xn, xc, vs)) (some (.int (nI s)), mk_M c n m kk (rT (he, ke, ki, fi, fa, or, mi, a, g, l, w, s) xm (er (he, ke, ki, fi, fa, or, mi, a, g, l, w, s)) xw im le nu rf ln nn vp xn xc vs)) := by
  refine mr_seg 2 (pc1 := 4) (ls1 := [some (.ref 138)]) (st1 := [.int (nI im)]) (M1 := (mk_M c n m kk (xs, xm, (er (he, ke, ki, fi, fa, or, mi, a, g, l, w, s)), xw, (nI im), (le.map nI), (nu.map nI), (rf.map nI), (nI ln), (nI nn), vp, xn, xc, vs))) (fun f => rfl) ?_
  refine mr_f (C := (nI im) = 0) (nI_eqf (a := im) (b := 0) (by omega)) (fun f => rfl) ?_
  refine mr_seg 4 (pc1 := 22) (ls1 := [some (.ref 138)]) (st1 := [.ref 139, .ref 141]) (M1 := (mk_M c n m kk (xs, xm, (er (he, ke, ki, fi, fa, or, mi, a, g, l, w, s)), xw, (nI im), (le.map nI), (nu.map nI), (rf.map nI), (nI ln), (nI nn), vp, xn, xc, vs))) (fun f => rfl) ?_
  refine mr_call (y := 138) (y0 := 25) (L := [some (.ref 141), some (.ref 139), none]) (rest := []) (rr := none) (M1 := (mk_M c n m kk ((er (he, ke, ki, fi, fa, or, mi, a, g, l, w, s)), xm, (er (he, ke, ki, fi, fa, or, mi, a, g, l, w, s)), xw, (nI im), (le.map nI), (nu.map nI), (rf.map nI), (nI ln), (nI nn), vp, xn, xc, vs))) (fun f => rfl) (rc_copies (a := 139) (b := 141) (by decide) rfl rfl (er_len hV) hx) ?_
  refine mr_seg 3 (pc1 := 30) (ls1 := [some (.ref 138)]) (st1 := [.int 1, .ref 139]) (M1 := (mk_M c n m kk ((er (he, ke, ki, fi, fa, or, mi, a, g, l, w, s)), xm, (er (he, ke, ki, fi, fa, or, mi, a, g, l, w, s)), xw, (nI im), (le.map nI), (nu.map nI), (rf.map nI), (nI ln), (nI nn), vp, xn, xc, vs))) (fun f => rfl) ?_
  refine mr_ldn (xs := (er (he, ke, ki, fi, fa, or, mi, a, g, l, w, s))) rfl rfl (k := 1) (by decide) rfl ?_
  exact mr_ret 1 (fun f => rfl)
theorem oe_on_1 (he ke ki fi fa or : List Nat) (mi a g l w s : Nat) (m : kG) (kk : kG) (im : Nat) (le : List Nat) (ln : Nat) (ys : List Int32) (vt : Int32) (nu : List Nat) (nn : Nat) (rf : List Nat) (vw : Int32) (vq : Int32) (yc : List Int32) (yh : List Int32) (yg : List Int32) (xm : List Int32) (xi : List Int32) (xw : List Int32) (vp : Int32) (xn : List Int32) (xc : List Int32) (vs : Int32) (hA : iA (he, ke, ki, fi, fa, or, mi, a, g, l, w, s)) (hB : iB le ln) (hC : iC nu nn) (hD : iD rf) (hJ : iJ m ys yc yh yg) (hR : iR xm xw xn xc) (hK : iK im kk xi) (hq : im = 1) : oI 126 210 [some (.ref 100)] [some (.ref 138)] (mk_M (cT im le ln ys vt nu nn rf vw vq yc yh yg) (kr (he, ke, ki, fi, fa, or, mi, a, g, l, w, s)) m kk (rT (he, ke, ki, fi, fa, or, mi, a, g, l, w, s) xm xi xw im le nu rf ln nn vp xn xc vs)) := by
  obtain ⟨hV, hst⟩ := id hA
  obtain ⟨k0, k1, k2, k3⟩ := id hK
  obtain ⟨K, hAK, e1, e2⟩ := k3 hq
  subst e1
  subst e2
  have hn := kSh_r hV
  have hx := er_len hV
  have hVK : kV K := hAK.1
  obtain ⟨he2, ke2, ki2, fi2, fa2, or2, mi2, a2, g2, l2, w2, s2⟩ := K
  exact ⟨nI s2, _, _, oc_on_1 he2 ke2 ki2 fi2 fa2 or2 mi2 a2 g2 l2 w2 s2 im le ln ys vt nu nn rf vw vq yc yh yg _ m _ hVK hn hq, om_on_1 he2 ke2 ki2 fi2 fa2 or2 mi2 a2 g2 l2 w2 s2 _ xm xw im le nu rf ln nn vp xn xc vs _ _ _ _ hVK hx hq, (he2, ke2, ki2, fi2, fa2, or2, mi2, a2, g2, l2, w2, s2), m, kr (he2, ke2, ki2, fi2, fa2, or2, mi2, a2, g2, l2, w2, s2), im, le, ln, ys, vt, nu, nn, rf, vw, vq, yc, yh, yg, xm, er (he2, ke2, ki2, fi2, fa2, or2, mi2, a2, g2, l2, w2, s2), xw, vp, xn, xc, vs, rfl, hAK, hB, hC, hD, hJ, hR, ⟨kSh_r hVK, er_len hVK, k2, fun _ => ⟨_, hAK, rfl, rfl⟩⟩⟩
