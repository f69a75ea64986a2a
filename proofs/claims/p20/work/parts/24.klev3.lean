/-! ===== the state of both, between calls ===== -/
def kSh (g : kG) : Prop := g.1.length = 25 ∧ g.2.1.length = 25 ∧ g.2.2.1.length = 5 ∧ g.2.2.2.1.length = 5 ∧ g.2.2.2.2.1.length = 5 ∧ g.2.2.2.2.2.1.length = 5
theorem kSh_r {k : kK} (h : kV k) : kSh (kr k) := by
  obtain ⟨he, ke, ki, fi, fa, or, mi, a, g, l, w, s⟩ := k
  obtain ⟨v1, v2, v3, v4, v5, v6, v7, -⟩ := h
  have h6 := kO_len mi v7 or v6
  refine ⟨?_, ?_, ?_, ?_, ?_, ?_⟩ <;> (show (List.map nI _).length = _; rw [List.length_map]; assumption)
def cT (im : Nat) (le : List Nat) (ln : Nat) (ys : List Int32) (vt : Int32) (nu : List Nat) (nn : Nat) (rf : List Nat) (vw vq : Int32) (yc yh yg : List Int32) : cC := (nI im, le.map nI, nI ln, ys, vt, nu.map nI, nI nn, rf.map nI, vw, vq, yc, yh, yg)
def rT (K : kK) (xm xi xw : List Int32) (im : Nat) (le nu rf : List Nat) (ln nn : Nat) (vp : Int32) (xn xc : List Int32) (vs : Int32) : cR := (er K, xm, xi, xw, nI im, le.map nI, nu.map nI, rf.map nI, nI ln, nI nn, vp, xn, xc, vs)
def iA (K : kK) : Prop := kV K ∧ k_st K ≤ 999
def iB (le : List Nat) (ln : Nat) : Prop := le.length = 96 ∧ (∀ i, kg le i < 256) ∧ ln ≤ 96
def iC (nu : List Nat) (nn : Nat) : Prop := nu.length = 16 ∧ (∀ i, kg nu i ≤ 99) ∧ nn ≤ 16
def iD (rf : List Nat) : Prop := rf.length = 7
def iJ (m : kG) (ys yc yh yg : List Int32) : Prop := kSh m ∧ ys.length = 96 ∧ yc.length = 25 ∧ yh.length = 4 ∧ yg.length = 4
def iR (xm xw xn xc : List Int32) : Prop := xm.length = 52 ∧ xw.length = 52 ∧ xn.length = 2 ∧ xc.length = 25
def iK (im : Nat) (kk : kG) (xi : List Int32) : Prop := kSh kk ∧ xi.length = 52 ∧ im ≤ 1 ∧ (im = 1 → ∃ K : kK, iA K ∧ kk = kr K ∧ xi = er K)
def kInv (M : mm_H) : Prop := ∃ (K : kK) (m : kG) (kk : kG) (im : Nat) (le : List Nat) (ln : Nat) (ys : List Int32) (vt : Int32) (nu : List Nat) (nn : Nat) (rf : List Nat) (vw : Int32) (vq : Int32) (yc : List Int32) (yh : List Int32) (yg : List Int32) (xm : List Int32) (xi : List Int32) (xw : List Int32) (vp : Int32) (xn : List Int32) (xc : List Int32) (vs : Int32), M = mk_M (cT im le ln ys vt nu nn rf vw vq yc yh yg) (kr K) m kk (rT K xm xi xw im le nu rf ln nn vp xn xc vs) ∧ iA K ∧ iB le ln ∧ iC nu nn ∧ iD rf ∧ iJ m ys yc yh yg ∧ iR xm xw xn xc ∧ iK im kk xi
def oI (zc zm : Nat) (lc lm : mm_L) (M : mm_H) : Prop := ∃ (w : Int32) (M1 M2 : mm_H), mm_R zc 0 lc [] M (some (.int w), M1) ∧ mm_R zm 0 lm [] M1 (some (.int w), M2) ∧ kInv M2
def oL (zc zm : Nat) (lc lm : mm_L) (M : mm_H) : Prop := ∃ (w : Int64) (M1 M2 : mm_H), mm_R zc 0 lc [] M (some (.long w), M1) ∧ mm_R zm 0 lm [] M1 (some (.long w), M2) ∧ kInv M2
theorem iD_s {rf : List Nat} {i v : Nat} (h : iD rf) : iD (rf.set i v) := by
  unfold iD
  rw [List.length_set]
  exact h
set_option maxRecDepth 100000 in
theorem ms_in_lo {x a b : Int32} {M : mm_H} (h1 : x < a) : mm_R 135 0 [some (.int x), some (.int a), some (.int b)] [] M (some (.int 0), M) := by
  refine mr_seg 2 (pc1 := 2) (ls1 := [some (.int x), some (.int a), some (.int b)]) (st1 := [.int a, .int x]) (M1 := M) (fun f => rfl) ?_
  refine mr_t (C := x < a) (h1) (fun f => rfl) ?_
  exact mr_ret 2 (fun f => rfl)
set_option maxRecDepth 100000 in
theorem ms_in_hi {x a b : Int32} {M : mm_H} (h1 : ¬ x < a) (h2 : b < x) : mm_R 135 0 [some (.int x), some (.int a), some (.int b)] [] M (some (.int 0), M) := by
  refine mr_seg 2 (pc1 := 2) (ls1 := [some (.int x), some (.int a), some (.int b)]) (st1 := [.int a, .int x]) (M1 := M) (fun f => rfl) ?_
  refine mr_f (C := x < a) (h1) (fun f => rfl) ?_
  refine mr_seg 2 (pc1 := 7) (ls1 := [some (.int x), some (.int a), some (.int b)]) (st1 := [.int b, .int x]) (M1 := M) (fun f => rfl) ?_
  refine mr_t (C := b < x) (h2) (fun f => rfl) ?_
  exact mr_ret 2 (fun f => rfl)
set_option maxRecDepth 100000 in
theorem ms_in_ok {x a b : Int32} {M : mm_H} (h1 : ¬ x < a) (h2 : ¬ b < x) : mm_R 135 0 [some (.int x), some (.int a), some (.int b)] [] M (some (.int 1), M) := by
  refine mr_seg 2 (pc1 := 2) (ls1 := [some (.int x), some (.int a), some (.int b)]) (st1 := [.int a, .int x]) (M1 := M) (fun f => rfl) ?_
  refine mr_f (C := x < a) (h1) (fun f => rfl) ?_
  refine mr_seg 2 (pc1 := 7) (ls1 := [some (.int x), some (.int a), some (.int b)]) (st1 := [.int b, .int x]) (M1 := M) (fun f => rfl) ?_
  refine mr_f (C := b < x) (h2) (fun f => rfl) ?_
  exact mr_ret 3 (fun f => rfl)
set_option maxRecDepth 100000 in
theorem ms_c1_lo {x : Int32} {M : mm_H} (h1 : x < 0) : mm_R 37 0 [some (.int x)] [] M (some (.int 0), M) := by
  refine mr_seg 1 (pc1 := 1) (ls1 := [some (.int x)]) (st1 := [.int x]) (M1 := M) (fun f => rfl) ?_
  refine mr_t (C := x < 0) (h1) (fun f => rfl) ?_
  exact mr_ret 2 (fun f => rfl)
set_option maxRecDepth 100000 in
theorem ms_c1_hi {x : Int32} {M : mm_H} (h1 : ¬ x < 0) (h2 : 25 ≤ x) : mm_R 37 0 [some (.int x)] [] M (some (.int 0), M) := by
  refine mr_seg 1 (pc1 := 1) (ls1 := [some (.int x)]) (st1 := [.int x]) (M1 := M) (fun f => rfl) ?_
  refine mr_f (C := x < 0) (h1) (fun f => rfl) ?_
  refine mr_seg 2 (pc1 := 7) (ls1 := [some (.int x)]) (st1 := [.int 25, .int x]) (M1 := M) (fun f => rfl) ?_
  refine mr_t (C := 25 ≤ x) (h2) (fun f => rfl) ?_
  exact mr_ret 2 (fun f => rfl)
set_option maxRecDepth 100000 in
theorem ms_c1_ok {x : Int32} {M : mm_H} (h1 : ¬ x < 0) (h2 : ¬ 25 ≤ x) : mm_R 37 0 [some (.int x)] [] M (some (.int 1), M) := by
  refine mr_seg 1 (pc1 := 1) (ls1 := [some (.int x)]) (st1 := [.int x]) (M1 := M) (fun f => rfl) ?_
  refine mr_f (C := x < 0) (h1) (fun f => rfl) ?_
  refine mr_seg 2 (pc1 := 7) (ls1 := [some (.int x)]) (st1 := [.int 25, .int x]) (M1 := M) (fun f => rfl) ?_
  refine mr_f (C := 25 ≤ x) (h2) (fun f => rfl) ?_
  exact mr_ret 3 (fun f => rfl)
set_option maxRecDepth 100000 in
theorem ms_c2_lo {x : Int32} {M : mm_H} (h1 : x < 0) : mm_R 140 0 [some (.int x)] [] M (some (.int 0), M) := by
  refine mr_seg 3 (pc1 := 4) (ls1 := [some (.int x)]) (st1 := [.int 24, .int 0, .int x]) (M1 := M) (fun f => rfl) ?_
  refine mr_call (y := 135) (y0 := 7) (L := [some (.int x), some (.int 0), some (.int 24)]) (rest := []) (rr := some (.int 0)) (M1 := M) (fun f => rfl) (by
      refine mr_seg 2 (pc1 := 2) (ls1 := [some (.int x), some (.int 0), some (.int 24)]) (st1 := [.int 0, .int x]) (M1 := M) (fun f => rfl) ?_
      refine mr_t (C := x < 0) (h1) (fun f => rfl) ?_
      exact mr_ret 2 (fun f => rfl)) ?_
  exact mr_ret 1 (fun f => rfl)
set_option maxRecDepth 100000 in
theorem ms_c2_hi {x : Int32} {M : mm_H} (h1 : ¬ x < 0) (h2 : 24 < x) : mm_R 140 0 [some (.int x)] [] M (some (.int 0), M) := by
  refine mr_seg 3 (pc1 := 4) (ls1 := [some (.int x)]) (st1 := [.int 24, .int 0, .int x]) (M1 := M) (fun f => rfl) ?_
  refine mr_call (y := 135) (y0 := 7) (L := [some (.int x), some (.int 0), some (.int 24)]) (rest := []) (rr := some (.int 0)) (M1 := M) (fun f => rfl) (by
      refine mr_seg 2 (pc1 := 2) (ls1 := [some (.int x), some (.int 0), some (.int 24)]) (st1 := [.int 0, .int x]) (M1 := M) (fun f => rfl) ?_
      refine mr_f (C := x < 0) (h1) (fun f => rfl) ?_
      refine mr_seg 2 (pc1 := 7) (ls1 := [some (.int x), some (.int 0), some (.int 24)]) (st1 := [.int 24, .int x]) (M1 := M) (fun f => rfl) ?_
      refine mr_t (C := 24 < x) (h2) (fun f => rfl) ?_
      exact mr_ret 2 (fun f => rfl)) ?_
  exact mr_ret 1 (fun f => rfl)
set_option maxRecDepth 100000 in
theorem ms_c2_ok {x : Int32} {M : mm_H} (h1 : ¬ x < 0) (h2 : ¬ 24 < x) : mm_R 140 0 [some (.int x)] [] M (some (.int 1), M) := by
  refine mr_seg 3 (pc1 := 4) (ls1 := [some (.int x)]) (st1 := [.int 24, .int 0, .int x]) (M1 := M) (fun f => rfl) ?_
  refine mr_call (y := 135) (y0 := 7) (L := [some (.int x), some (.int 0), some (.int 24)]) (rest := []) (rr := some (.int 1)) (M1 := M) (fun f => rfl) (by
      refine mr_seg 2 (pc1 := 2) (ls1 := [some (.int x), some (.int 0), some (.int 24)]) (st1 := [.int 0, .int x]) (M1 := M) (fun f => rfl) ?_
      refine mr_f (C := x < 0) (h1) (fun f => rfl) ?_
      refine mr_seg 2 (pc1 := 7) (ls1 := [some (.int x), some (.int 0), some (.int 24)]) (st1 := [.int 24, .int x]) (M1 := M) (fun f => rfl) ?_
      refine mr_f (C := 24 < x) (h2) (fun f => rfl) ?_
      exact mr_ret 3 (fun f => rfl)) ?_
  exact mr_ret 1 (fun f => rfl)
set_option maxRecDepth 100000 in
theorem ms_wb_lo {x a b : Int32} {M : mm_H} (h1 : ¬ a ≤ x) : mm_R 159 0 [some (.int x), some (.int a), some (.int b)] [] M (some (.int (-4)), M) := by
  refine mr_seg 2 (pc1 := 2) (ls1 := [some (.int x), some (.int a), some (.int b)]) (st1 := [.int a, .int x]) (M1 := M) (fun f => rfl) ?_
  refine mr_f (C := a ≤ x) (h1) (fun f => rfl) ?_
  exact mr_ret 3 (fun f => rfl)
set_option maxRecDepth 100000 in
theorem ms_wb_hi {x a b : Int32} {M : mm_H} (h1 : a ≤ x) (h2 : ¬ x ≤ b) : mm_R 159 0 [some (.int x), some (.int a), some (.int b)] [] M (some (.int (-6)), M) := by
  refine mr_seg 2 (pc1 := 2) (ls1 := [some (.int x), some (.int a), some (.int b)]) (st1 := [.int a, .int x]) (M1 := M) (fun f => rfl) ?_
  refine mr_t (C := a ≤ x) (h1) (fun f => rfl) ?_
  refine mr_seg 2 (pc1 := 12) (ls1 := [some (.int x), some (.int a), some (.int b)]) (st1 := [.int b, .int x]) (M1 := M) (fun f => rfl) ?_
  refine mr_f (C := x ≤ b) (h2) (fun f => rfl) ?_
  exact mr_ret 3 (fun f => rfl)
set_option maxRecDepth 100000 in
theorem ms_wb_ok {x a b : Int32} {M : mm_H} (h1 : a ≤ x) (h2 : x ≤ b) : mm_R 159 0 [some (.int x), some (.int a), some (.int b)] [] M (some (.int 0), M) := by
  refine mr_seg 2 (pc1 := 2) (ls1 := [some (.int x), some (.int a), some (.int b)]) (st1 := [.int a, .int x]) (M1 := M) (fun f => rfl) ?_
  refine mr_t (C := a ≤ x) (h1) (fun f => rfl) ?_
  refine mr_seg 2 (pc1 := 12) (ls1 := [some (.int x), some (.int a), some (.int b)]) (st1 := [.int b, .int x]) (M1 := M) (fun f => rfl) ?_
  refine mr_t (C := x ≤ b) (h2) (fun f => rfl) ?_
  exact mr_ret 2 (fun f => rfl)
set_option maxRecDepth 100000 in
theorem ms_re1 {im : Nat} {le : List Nat} {ln : Nat} {ys : List Int32} {vt : Int32} {nu : List Nat} {nn : Nat} {rf : List Nat} {vw vq : Int32} {yc yh yg : List Int32} {n m kk : kG} {q : cR} (hD : iD rf) : mm_R 12 0 [some (.ref 100), some (.int (-1))] [] (mk_M (cT im le ln ys vt nu nn rf vw vq yc yh yg) n m kk q) (some (.int (-1)), (mk_M (cT im le ln ys vt nu nn (rf.set 1 (kg rf 1 + 1)) vw vq yc yh yg) n m kk q)) := by
  have d1 : rf.length = 7 := hD
  refine mr_seg 5 (pc1 := 7) (ls1 := [some (.ref 100), some (.int (-1))]) (st1 := [.int 1, .ref 105, .int 1, .ref 105]) (M1 := (mk_M (cT im le ln ys vt nu nn rf vw vq yc yh yg) n m kk q)) (fun f => rfl) ?_
  refine mr_ldk (l0 := rf) rfl rfl (k := 1) (by omega) ?_
  refine mr_seg 2 (pc1 := 10) (ls1 := [some (.ref 100), some (.int (-1))]) (st1 := [.int ((nI (kg rf 1)) + 1), .int 1, .ref 105]) (M1 := (mk_M (cT im le ln ys vt nu nn rf vw vq yc yh yg) n m kk q)) (fun f => rfl) ?_
  refine mr_v (nI_add (kg rf 1) 1) ?_
  refine mr_stk (l0 := rf) (M2 := (mk_M (cT im le ln ys vt nu nn (rf.set 1 (kg rf 1 + 1)) vw vq yc yh yg) n m kk q)) rfl rfl (k := 1) (v := (kg rf 1 + 1)) (by omega) rfl ?_
  exact mr_ret 2 (fun f => rfl)
set_option maxRecDepth 100000 in
theorem ms_no1 {he ke ki fi fa or : List Nat} {mi a g l w s : Nat} {xm xi xw : List Int32} {im : Nat} {le nu rf : List Nat} {ln nn : Nat} {vp : Int32} {xn xc : List Int32} {vs : Int32} {c : cC} {n m kk : kG} (hD : iD rf) : mm_R 130 0 [some (.ref 138), some (.int (-1))] [] (mk_M c n m kk (rT (he, ke, ki, fi, fa, or, mi, a, g, l, w, s) xm xi xw im le nu rf ln nn vp xn xc vs)) (some (.int (-1)), (mk_M c n m kk (rT (he, ke, ki, fi, fa, or, mi, a, g, l, w, s) xm xi xw im le nu (rf.set 1 (kg rf 1 + 1)) ln nn vp xn xc vs))) := by
  have d1 : rf.length = 7 := hD
  refine mr_seg 5 (pc1 := 7) (ls1 := [some (.ref 138), some (.int (-1))]) (st1 := [.int 1, .ref 145, .int 1, .ref 145]) (M1 := (mk_M c n m kk (rT (he, ke, ki, fi, fa, or, mi, a, g, l, w, s) xm xi xw im le nu rf ln nn vp xn xc vs))) (fun f => rfl) ?_
  refine mr_ldk (l0 := rf) rfl rfl (k := 1) (by omega) ?_
  refine mr_seg 2 (pc1 := 10) (ls1 := [some (.ref 138), some (.int (-1))]) (st1 := [.int ((nI (kg rf 1)) + 1), .int 1, .ref 145]) (M1 := (mk_M c n m kk (rT (he, ke, ki, fi, fa, or, mi, a, g, l, w, s) xm xi xw im le nu rf ln nn vp xn xc vs))) (fun f => rfl) ?_
  refine mr_v (nI_add (kg rf 1) 1) ?_
  refine mr_stk (l0 := rf) (M2 := (mk_M c n m kk (rT (he, ke, ki, fi, fa, or, mi, a, g, l, w, s) xm xi xw im le nu (rf.set 1 (kg rf 1 + 1)) ln nn vp xn xc vs))) rfl rfl (k := 1) (v := (kg rf 1 + 1)) (by omega) rfl ?_
  exact mr_ret 2 (fun f => rfl)
set_option maxRecDepth 100000 in
theorem ms_re2 {im : Nat} {le : List Nat} {ln : Nat} {ys : List Int32} {vt : Int32} {nu : List Nat} {nn : Nat} {rf : List Nat} {vw vq : Int32} {yc yh yg : List Int32} {n m kk : kG} {q : cR} (hD : iD rf) : mm_R 12 0 [some (.ref 100), some (.int (-2))] [] (mk_M (cT im le ln ys vt nu nn rf vw vq yc yh yg) n m kk q) (some (.int (-2)), (mk_M (cT im le ln ys vt nu nn (rf.set 2 (kg rf 2 + 1)) vw vq yc yh yg) n m kk q)) := by
  have d1 : rf.length = 7 := hD
  refine mr_seg 5 (pc1 := 7) (ls1 := [some (.ref 100), some (.int (-2))]) (st1 := [.int 2, .ref 105, .int 2, .ref 105]) (M1 := (mk_M (cT im le ln ys vt nu nn rf vw vq yc yh yg) n m kk q)) (fun f => rfl) ?_
  refine mr_ldk (l0 := rf) rfl rfl (k := 2) (by omega) ?_
  refine mr_seg 2 (pc1 := 10) (ls1 := [some (.ref 100), some (.int (-2))]) (st1 := [.int ((nI (kg rf 2)) + 1), .int 2, .ref 105]) (M1 := (mk_M (cT im le ln ys vt nu nn rf vw vq yc yh yg) n m kk q)) (fun f => rfl) ?_
  refine mr_v (nI_add (kg rf 2) 1) ?_
  refine mr_stk (l0 := rf) (M2 := (mk_M (cT im le ln ys vt nu nn (rf.set 2 (kg rf 2 + 1)) vw vq yc yh yg) n m kk q)) rfl rfl (k := 2) (v := (kg rf 2 + 1)) (by omega) rfl ?_
  exact mr_ret 2 (fun f => rfl)
set_option maxRecDepth 100000 in
theorem ms_no2 {he ke ki fi fa or : List Nat} {mi a g l w s : Nat} {xm xi xw : List Int32} {im : Nat} {le nu rf : List Nat} {ln nn : Nat} {vp : Int32} {xn xc : List Int32} {vs : Int32} {c : cC} {n m kk : kG} (hD : iD rf) : mm_R 130 0 [some (.ref 138), some (.int (-2))] [] (mk_M c n m kk (rT (he, ke, ki, fi, fa, or, mi, a, g, l, w, s) xm xi xw im le nu rf ln nn vp xn xc vs)) (some (.int (-2)), (mk_M c n m kk (rT (he, ke, ki, fi, fa, or, mi, a, g, l, w, s) xm xi xw im le nu (rf.set 2 (kg rf 2 + 1)) ln nn vp xn xc vs))) := by
  have d1 : rf.length = 7 := hD
  refine mr_seg 5 (pc1 := 7) (ls1 := [some (.ref 138), some (.int (-2))]) (st1 := [.int 2, .ref 145, .int 2, .ref 145]) (M1 := (mk_M c n m kk (rT (he, ke, ki, fi, fa, or, mi, a, g, l, w, s) xm xi xw im le nu rf ln nn vp xn xc vs))) (fun f => rfl) ?_
  refine mr_ldk (l0 := rf) rfl rfl (k := 2) (by omega) ?_
  refine mr_seg 2 (pc1 := 10) (ls1 := [some (.ref 138), some (.int (-2))]) (st1 := [.int ((nI (kg rf 2)) + 1), .int 2, .ref 145]) (M1 := (mk_M c n m kk (rT (he, ke, ki, fi, fa, or, mi, a, g, l, w, s) xm xi xw im le nu rf ln nn vp xn xc vs))) (fun f => rfl) ?_
  refine mr_v (nI_add (kg rf 2) 1) ?_
  refine mr_stk (l0 := rf) (M2 := (mk_M c n m kk (rT (he, ke, ki, fi, fa, or, mi, a, g, l, w, s) xm xi xw im le nu (rf.set 2 (kg rf 2 + 1)) ln nn vp xn xc vs))) rfl rfl (k := 2) (v := (kg rf 2 + 1)) (by omega) rfl ?_
  exact mr_ret 2 (fun f => rfl)
set_option maxRecDepth 100000 in
theorem ms_re3 {im : Nat} {le : List Nat} {ln : Nat} {ys : List Int32} {vt : Int32} {nu : List Nat} {nn : Nat} {rf : List Nat} {vw vq : Int32} {yc yh yg : List Int32} {n m kk : kG} {q : cR} (hD : iD rf) : mm_R 12 0 [some (.ref 100), some (.int (-3))] [] (mk_M (cT im le ln ys vt nu nn rf vw vq yc yh yg) n m kk q) (some (.int (-3)), (mk_M (cT im le ln ys vt nu nn (rf.set 3 (kg rf 3 + 1)) vw vq yc yh yg) n m kk q)) := by
  have d1 : rf.length = 7 := hD
  refine mr_seg 5 (pc1 := 7) (ls1 := [some (.ref 100), some (.int (-3))]) (st1 := [.int 3, .ref 105, .int 3, .ref 105]) (M1 := (mk_M (cT im le ln ys vt nu nn rf vw vq yc yh yg) n m kk q)) (fun f => rfl) ?_
  refine mr_ldk (l0 := rf) rfl rfl (k := 3) (by omega) ?_
  refine mr_seg 2 (pc1 := 10) (ls1 := [some (.ref 100), some (.int (-3))]) (st1 := [.int ((nI (kg rf 3)) + 1), .int 3, .ref 105]) (M1 := (mk_M (cT im le ln ys vt nu nn rf vw vq yc yh yg) n m kk q)) (fun f => rfl) ?_
  refine mr_v (nI_add (kg rf 3) 1) ?_
  refine mr_stk (l0 := rf) (M2 := (mk_M (cT im le ln ys vt nu nn (rf.set 3 (kg rf 3 + 1)) vw vq yc yh yg) n m kk q)) rfl rfl (k := 3) (v := (kg rf 3 + 1)) (by omega) rfl ?_
  exact mr_ret 2 (fun f => rfl)
set_option maxRecDepth 100000 in
theorem ms_no3 {he ke ki fi fa or : List Nat} {mi a g l w s : Nat} {xm xi xw : List Int32} {im : Nat} {le nu rf : List Nat} {ln nn : Nat} {vp : Int32} {xn xc : List Int32} {vs : Int32} {c : cC} {n m kk : kG} (hD : iD rf) : mm_R 130 0 [some (.ref 138), some (.int (-3))] [] (mk_M c n m kk (rT (he, ke, ki, fi, fa, or, mi, a, g, l, w, s) xm xi xw im le nu rf ln nn vp xn xc vs)) (some (.int (-3)), (mk_M c n m kk (rT (he, ke, ki, fi, fa, or, mi, a, g, l, w, s) xm xi xw im le nu (rf.set 3 (kg rf 3 + 1)) ln nn vp xn xc vs))) := by
  have d1 : rf.length = 7 := hD
  refine mr_seg 5 (pc1 := 7) (ls1 := [some (.ref 138), some (.int (-3))]) (st1 := [.int 3, .ref 145, .int 3, .ref 145]) (M1 := (mk_M c n m kk (rT (he, ke, ki, fi, fa, or, mi, a, g, l, w, s) xm xi xw im le nu rf ln nn vp xn xc vs))) (fun f => rfl) ?_
  refine mr_ldk (l0 := rf) rfl rfl (k := 3) (by omega) ?_
  refine mr_seg 2 (pc1 := 10) (ls1 := [some (.ref 138), some (.int (-3))]) (st1 := [.int ((nI (kg rf 3)) + 1), .int 3, .ref 145]) (M1 := (mk_M c n m kk (rT (he, ke, ki, fi, fa, or, mi, a, g, l, w, s) xm xi xw im le nu rf ln nn vp xn xc vs))) (fun f => rfl) ?_
  refine mr_v (nI_add (kg rf 3) 1) ?_
  refine mr_stk (l0 := rf) (M2 := (mk_M c n m kk (rT (he, ke, ki, fi, fa, or, mi, a, g, l, w, s) xm xi xw im le nu (rf.set 3 (kg rf 3 + 1)) ln nn vp xn xc vs))) rfl rfl (k := 3) (v := (kg rf 3 + 1)) (by omega) rfl ?_
  exact mr_ret 2 (fun f => rfl)
set_option maxRecDepth 100000 in
theorem ms_re4 {im : Nat} {le : List Nat} {ln : Nat} {ys : List Int32} {vt : Int32} {nu : List Nat} {nn : Nat} {rf : List Nat} {vw vq : Int32} {yc yh yg : List Int32} {n m kk : kG} {q : cR} (hD : iD rf) : mm_R 12 0 [some (.ref 100), some (.int (-4))] [] (mk_M (cT im le ln ys vt nu nn rf vw vq yc yh yg) n m kk q) (some (.int (-4)), (mk_M (cT im le ln ys vt nu nn (rf.set 4 (kg rf 4 + 1)) vw vq yc yh yg) n m kk q)) := by
  have d1 : rf.length = 7 := hD
  refine mr_seg 5 (pc1 := 7) (ls1 := [some (.ref 100), some (.int (-4))]) (st1 := [.int 4, .ref 105, .int 4, .ref 105]) (M1 := (mk_M (cT im le ln ys vt nu nn rf vw vq yc yh yg) n m kk q)) (fun f => rfl) ?_
  refine mr_ldk (l0 := rf) rfl rfl (k := 4) (by omega) ?_
  refine mr_seg 2 (pc1 := 10) (ls1 := [some (.ref 100), some (.int (-4))]) (st1 := [.int ((nI (kg rf 4)) + 1), .int 4, .ref 105]) (M1 := (mk_M (cT im le ln ys vt nu nn rf vw vq yc yh yg) n m kk q)) (fun f => rfl) ?_
  refine mr_v (nI_add (kg rf 4) 1) ?_
  refine mr_stk (l0 := rf) (M2 := (mk_M (cT im le ln ys vt nu nn (rf.set 4 (kg rf 4 + 1)) vw vq yc yh yg) n m kk q)) rfl rfl (k := 4) (v := (kg rf 4 + 1)) (by omega) rfl ?_
  exact mr_ret 2 (fun f => rfl)
set_option maxRecDepth 100000 in
theorem ms_no4 {he ke ki fi fa or : List Nat} {mi a g l w s : Nat} {xm xi xw : List Int32} {im : Nat} {le nu rf : List Nat} {ln nn : Nat} {vp : Int32} {xn xc : List Int32} {vs : Int32} {c : cC} {n m kk : kG} (hD : iD rf) : mm_R 130 0 [some (.ref 138), some (.int (-4))] [] (mk_M c n m kk (rT (he, ke, ki, fi, fa, or, mi, a, g, l, w, s) xm xi xw im le nu rf ln nn vp xn xc vs)) (some (.int (-4)), (mk_M c n m kk (rT (he, ke, ki, fi, fa, or, mi, a, g, l, w, s) xm xi xw im le nu (rf.set 4 (kg rf 4 + 1)) ln nn vp xn xc vs))) := by
  have d1 : rf.length = 7 := hD
  refine mr_seg 5 (pc1 := 7) (ls1 := [some (.ref 138), some (.int (-4))]) (st1 := [.int 4, .ref 145, .int 4, .ref 145]) (M1 := (mk_M c n m kk (rT (he, ke, ki, fi, fa, or, mi, a, g, l, w, s) xm xi xw im le nu rf ln nn vp xn xc vs))) (fun f => rfl) ?_
  refine mr_ldk (l0 := rf) rfl rfl (k := 4) (by omega) ?_
  refine mr_seg 2 (pc1 := 10) (ls1 := [some (.ref 138), some (.int (-4))]) (st1 := [.int ((nI (kg rf 4)) + 1), .int 4, .ref 145]) (M1 := (mk_M c n m kk (rT (he, ke, ki, fi, fa, or, mi, a, g, l, w, s) xm xi xw im le nu rf ln nn vp xn xc vs))) (fun f => rfl) ?_
  refine mr_v (nI_add (kg rf 4) 1) ?_
  refine mr_stk (l0 := rf) (M2 := (mk_M c n m kk (rT (he, ke, ki, fi, fa, or, mi, a, g, l, w, s) xm xi xw im le nu (rf.set 4 (kg rf 4 + 1)) ln nn vp xn xc vs))) rfl rfl (k := 4) (v := (kg rf 4 + 1)) (by omega) rfl ?_
  exact mr_ret 2 (fun f => rfl)
set_option maxRecDepth 100000 in
theorem ms_re6 {im : Nat} {le : List Nat} {ln : Nat} {ys : List Int32} {vt : Int32} {nu : List Nat} {nn : Nat} {rf : List Nat} {vw vq : Int32} {yc yh yg : List Int32} {n m kk : kG} {q : cR} (hD : iD rf) : mm_R 12 0 [some (.ref 100), some (.int (-6))] [] (mk_M (cT im le ln ys vt nu nn rf vw vq yc yh yg) n m kk q) (some (.int (-6)), (mk_M (cT im le ln ys vt nu nn (rf.set 6 (kg rf 6 + 1)) vw vq yc yh yg) n m kk q)) := by
  have d1 : rf.length = 7 := hD
  refine mr_seg 5 (pc1 := 7) (ls1 := [some (.ref 100), some (.int (-6))]) (st1 := [.int 6, .ref 105, .int 6, .ref 105]) (M1 := (mk_M (cT im le ln ys vt nu nn rf vw vq yc yh yg) n m kk q)) (fun f => rfl) ?_
  refine mr_ldk (l0 := rf) rfl rfl (k := 6) (by omega) ?_
  refine mr_seg 2 (pc1 := 10) (ls1 := [some (.ref 100), some (.int (-6))]) (st1 := [.int ((nI (kg rf 6)) + 1), .int 6, .ref 105]) (M1 := (mk_M (cT im le ln ys vt nu nn rf vw vq yc yh yg) n m kk q)) (fun f => rfl) ?_
  refine mr_v (nI_add (kg rf 6) 1) ?_
  refine mr_stk (l0 := rf) (M2 := (mk_M (cT im le ln ys vt nu nn (rf.set 6 (kg rf 6 + 1)) vw vq yc yh yg) n m kk q)) rfl rfl (k := 6) (v := (kg rf 6 + 1)) (by omega) rfl ?_
  exact mr_ret 2 (fun f => rfl)
set_option maxRecDepth 100000 in
theorem ms_no6 {he ke ki fi fa or : List Nat} {mi a g l w s : Nat} {xm xi xw : List Int32} {im : Nat} {le nu rf : List Nat} {ln nn : Nat} {vp : Int32} {xn xc : List Int32} {vs : Int32} {c : cC} {n m kk : kG} (hD : iD rf) : mm_R 130 0 [some (.ref 138), some (.int (-6))] [] (mk_M c n m kk (rT (he, ke, ki, fi, fa, or, mi, a, g, l, w, s) xm xi xw im le nu rf ln nn vp xn xc vs)) (some (.int (-6)), (mk_M c n m kk (rT (he, ke, ki, fi, fa, or, mi, a, g, l, w, s) xm xi xw im le nu (rf.set 6 (kg rf 6 + 1)) ln nn vp xn xc vs))) := by
  have d1 : rf.length = 7 := hD
  refine mr_seg 5 (pc1 := 7) (ls1 := [some (.ref 138), some (.int (-6))]) (st1 := [.int 6, .ref 145, .int 6, .ref 145]) (M1 := (mk_M c n m kk (rT (he, ke, ki, fi, fa, or, mi, a, g, l, w, s) xm xi xw im le nu rf ln nn vp xn xc vs))) (fun f => rfl) ?_
  refine mr_ldk (l0 := rf) rfl rfl (k := 6) (by omega) ?_
  refine mr_seg 2 (pc1 := 10) (ls1 := [some (.ref 138), some (.int (-6))]) (st1 := [.int ((nI (kg rf 6)) + 1), .int 6, .ref 145]) (M1 := (mk_M c n m kk (rT (he, ke, ki, fi, fa, or, mi, a, g, l, w, s) xm xi xw im le nu rf ln nn vp xn xc vs))) (fun f => rfl) ?_
  refine mr_v (nI_add (kg rf 6) 1) ?_
  refine mr_stk (l0 := rf) (M2 := (mk_M c n m kk (rT (he, ke, ki, fi, fa, or, mi, a, g, l, w, s) xm xi xw im le nu (rf.set 6 (kg rf 6 + 1)) ln nn vp xn xc vs))) rfl rfl (k := 6) (v := (kg rf 6 + 1)) (by omega) rfl ?_
  exact mr_ret 2 (fun f => rfl)
set_option maxRecDepth 100000 in
theorem ms_m1_lo {he ke ki fi fa or : List Nat} {mi a g l w s : Nat} {c : cC} {m kk : kG} {q : cR} {x : Int32} (h1 : x < 0) : mm_R 61 0 [some (.ref 100), some (.int x)] [] (mk_M c (kr (he, ke, ki, fi, fa, or, mi, a, g, l, w, s)) m kk q) (some (.int 0), (mk_M c (kr (he, ke, ki, fi, fa, or, mi, a, g, l, w, s)) m kk q)) := by
  refine mr_seg 1 (pc1 := 1) (ls1 := [some (.ref 100), some (.int x)]) (st1 := [.int x]) (M1 := (mk_M c (kr (he, ke, ki, fi, fa, or, mi, a, g, l, w, s)) m kk q)) (fun f => rfl) ?_
  refine mr_t (C := x < 0) (h1) (fun f => rfl) ?_
  exact mr_ret 2 (fun f => rfl)
set_option maxRecDepth 100000 in
theorem ms_m1_hi {he ke ki fi fa or : List Nat} {mi a g l w s : Nat} {c : cC} {m kk : kG} {q : cR} {x : Int32} (h1 : ¬ x < 0) (h2 : nI mi ≤ x) : mm_R 61 0 [some (.ref 100), some (.int x)] [] (mk_M c (kr (he, ke, ki, fi, fa, or, mi, a, g, l, w, s)) m kk q) (some (.int 0), (mk_M c (kr (he, ke, ki, fi, fa, or, mi, a, g, l, w, s)) m kk q)) := by
  refine mr_seg 1 (pc1 := 1) (ls1 := [some (.ref 100), some (.int x)]) (st1 := [.int x]) (M1 := (mk_M c (kr (he, ke, ki, fi, fa, or, mi, a, g, l, w, s)) m kk q)) (fun f => rfl) ?_
  refine mr_f (C := x < 0) (h1) (fun f => rfl) ?_
  refine mr_seg 4 (pc1 := 12) (ls1 := [some (.ref 100), some (.int x)]) (st1 := [.int (nI mi), .int x]) (M1 := (mk_M c (kr (he, ke, ki, fi, fa, or, mi, a, g, l, w, s)) m kk q)) (fun f => rfl) ?_
  refine mr_t (C := (nI mi) ≤ x) (h2) (fun f => rfl) ?_
  exact mr_ret 2 (fun f => rfl)
set_option maxRecDepth 100000 in
theorem ms_m1_ok {he ke ki fi fa or : List Nat} {mi a g l w s : Nat} {c : cC} {m kk : kG} {q : cR} {x : Int32} (h1 : ¬ x < 0) (h2 : ¬ nI mi ≤ x) : mm_R 61 0 [some (.ref 100), some (.int x)] [] (mk_M c (kr (he, ke, ki, fi, fa, or, mi, a, g, l, w, s)) m kk q) (some (.int 1), (mk_M c (kr (he, ke, ki, fi, fa, or, mi, a, g, l, w, s)) m kk q)) := by
  refine mr_seg 1 (pc1 := 1) (ls1 := [some (.ref 100), some (.int x)]) (st1 := [.int x]) (M1 := (mk_M c (kr (he, ke, ki, fi, fa, or, mi, a, g, l, w, s)) m kk q)) (fun f => rfl) ?_
  refine mr_f (C := x < 0) (h1) (fun f => rfl) ?_
  refine mr_seg 4 (pc1 := 12) (ls1 := [some (.ref 100), some (.int x)]) (st1 := [.int (nI mi), .int x]) (M1 := (mk_M c (kr (he, ke, ki, fi, fa, or, mi, a, g, l, w, s)) m kk q)) (fun f => rfl) ?_
  refine mr_f (C := (nI mi) ≤ x) (h2) (fun f => rfl) ?_
  exact mr_ret 3 (fun f => rfl)
set_option maxRecDepth 100000 in
theorem ms_m2_lo {he ke ki fi fa or : List Nat} {mi a g l w s : Nat} {xm xi xw : List Int32} {im : Nat} {le nu rf : List Nat} {ln nn : Nat} {vp : Int32} {xn xc : List Int32} {vs : Int32} {c : cC} {n m kk : kG} {x : Int32} (h1 : x < 0) : mm_R 142 0 [some (.ref 138), some (.int x)] [] (mk_M c n m kk (rT (he, ke, ki, fi, fa, or, mi, a, g, l, w, s) xm xi xw im le nu rf ln nn vp xn xc vs)) (some (.int 0), (mk_M c n m kk (rT (he, ke, ki, fi, fa, or, mi, a, g, l, w, s) xm xi xw im le nu rf ln nn vp xn xc vs))) := by
  refine mr_seg 5 (pc1 := 7) (ls1 := [some (.ref 138), some (.int x)]) (st1 := [.int 0, .ref 139, .int 0, .int x]) (M1 := (mk_M c n m kk (rT (he, ke, ki, fi, fa, or, mi, a, g, l, w, s) xm xi xw im le nu rf ln nn vp xn xc vs))) (fun f => rfl) ?_
  refine mr_ldn (xs := (er (he, ke, ki, fi, fa, or, mi, a, g, l, w, s))) rfl rfl (k := 0) (by decide) rfl ?_
  refine mr_seg 2 (pc1 := 10) (ls1 := [some (.ref 138), some (.int x)]) (st1 := [.int ((nI mi) - 1), .int 0, .int x]) (M1 := (mk_M c n m kk (rT (he, ke, ki, fi, fa, or, mi, a, g, l, w, s) xm xi xw im le nu rf ln nn vp xn xc vs))) (fun f => rfl) ?_
  refine mr_call (y := 135) (y0 := 13) (L := [some (.int x), some (.int 0), some (.int ((nI mi) - 1))]) (rest := []) (rr := some (.int 0)) (M1 := (mk_M c n m kk (rT (he, ke, ki, fi, fa, or, mi, a, g, l, w, s) xm xi xw im le nu rf ln nn vp xn xc vs))) (fun f => rfl) (by
      refine mr_seg 2 (pc1 := 2) (ls1 := [some (.int x), some (.int 0), some (.int ((nI mi) - 1))]) (st1 := [.int 0, .int x]) (M1 := (mk_M c n m kk (rT (he, ke, ki, fi, fa, or, mi, a, g, l, w, s) xm xi xw im le nu rf ln nn vp xn xc vs))) (fun f => rfl) ?_
      refine mr_t (C := x < 0) (h1) (fun f => rfl) ?_
      exact mr_ret 2 (fun f => rfl)) ?_
  exact mr_ret 1 (fun f => rfl)
set_option maxRecDepth 100000 in
theorem ms_m2_hi {he ke ki fi fa or : List Nat} {mi a g l w s : Nat} {xm xi xw : List Int32} {im : Nat} {le nu rf : List Nat} {ln nn : Nat} {vp : Int32} {xn xc : List Int32} {vs : Int32} {c : cC} {n m kk : kG} {x : Int32} {b : Int32} (e : nI mi - 1 = b) (h1 : ¬ x < 0) (h2 : b < x) : mm_R 142 0 [some (.ref 138), some (.int x)] [] (mk_M c n m kk (rT (he, ke, ki, fi, fa, or, mi, a, g, l, w, s) xm xi xw im le nu rf ln nn vp xn xc vs)) (some (.int 0), (mk_M c n m kk (rT (he, ke, ki, fi, fa, or, mi, a, g, l, w, s) xm xi xw im le nu rf ln nn vp xn xc vs))) := by
  subst e
  refine mr_seg 5 (pc1 := 7) (ls1 := [some (.ref 138), some (.int x)]) (st1 := [.int 0, .ref 139, .int 0, .int x]) (M1 := (mk_M c n m kk (rT (he, ke, ki, fi, fa, or, mi, a, g, l, w, s) xm xi xw im le nu rf ln nn vp xn xc vs))) (fun f => rfl) ?_
  refine mr_ldn (xs := (er (he, ke, ki, fi, fa, or, mi, a, g, l, w, s))) rfl rfl (k := 0) (by decide) rfl ?_
  refine mr_seg 2 (pc1 := 10) (ls1 := [some (.ref 138), some (.int x)]) (st1 := [.int ((nI mi) - 1), .int 0, .int x]) (M1 := (mk_M c n m kk (rT (he, ke, ki, fi, fa, or, mi, a, g, l, w, s) xm xi xw im le nu rf ln nn vp xn xc vs))) (fun f => rfl) ?_
  refine mr_call (y := 135) (y0 := 13) (L := [some (.int x), some (.int 0), some (.int ((nI mi) - 1))]) (rest := []) (rr := some (.int 0)) (M1 := (mk_M c n m kk (rT (he, ke, ki, fi, fa, or, mi, a, g, l, w, s) xm xi xw im le nu rf ln nn vp xn xc vs))) (fun f => rfl) (by
      refine mr_seg 2 (pc1 := 2) (ls1 := [some (.int x), some (.int 0), some (.int ((nI mi) - 1))]) (st1 := [.int 0, .int x]) (M1 := (mk_M c n m kk (rT (he, ke, ki, fi, fa, or, mi, a, g, l, w, s) xm xi xw im le nu rf ln nn vp xn xc vs))) (fun f => rfl) ?_
      refine mr_f (C := x < 0) (h1) (fun f => rfl) ?_
      refine mr_seg 2 (pc1 := 7) (ls1 := [some (.int x), some (.int 0), some (.int ((nI mi) - 1))]) (st1 := [.int ((nI mi) - 1), .int x]) (M1 := (mk_M c n m kk (rT (he, ke, ki, fi, fa, or, mi, a, g, l, w, s) xm xi xw im le nu rf ln nn vp xn xc vs))) (fun f => rfl) ?_
      refine mr_t (C := ((nI mi) - 1) < x) (h2) (fun f => rfl) ?_
      exact mr_ret 2 (fun f => rfl)) ?_
  exact mr_ret 1 (fun f => rfl)
set_option maxRecDepth 100000 in
theorem ms_m2_ok {he ke ki fi fa or : List Nat} {mi a g l w s : Nat} {xm xi xw : List Int32} {im : Nat} {le nu rf : List Nat} {ln nn : Nat} {vp : Int32} {xn xc : List Int32} {vs : Int32} {c : cC} {n m kk : kG} {x : Int32} {b : Int32} (e : nI mi - 1 = b) (h1 : ¬ x < 0) (h2 : ¬ b < x) : mm_R 142 0 [some (.ref 138), some (.int x)] [] (mk_M c n m kk (rT (he, ke, ki, fi, fa, or, mi, a, g, l, w, s) xm xi xw im le nu rf ln nn vp xn xc vs)) (some (.int 1), (mk_M c n m kk (rT (he, ke, ki, fi, fa, or, mi, a, g, l, w, s) xm xi xw im le nu rf ln nn vp xn xc vs))) := by
  subst e
  refine mr_seg 5 (pc1 := 7) (ls1 := [some (.ref 138), some (.int x)]) (st1 := [.int 0, .ref 139, .int 0, .int x]) (M1 := (mk_M c n m kk (rT (he, ke, ki, fi, fa, or, mi, a, g, l, w, s) xm xi xw im le nu rf ln nn vp xn xc vs))) (fun f => rfl) ?_
  refine mr_ldn (xs := (er (he, ke, ki, fi, fa, or, mi, a, g, l, w, s))) rfl rfl (k := 0) (by decide) rfl ?_
  refine mr_seg 2 (pc1 := 10) (ls1 := [some (.ref 138), some (.int x)]) (st1 := [.int ((nI mi) - 1), .int 0, .int x]) (M1 := (mk_M c n m kk (rT (he, ke, ki, fi, fa, or, mi, a, g, l, w, s) xm xi xw im le nu rf ln nn vp xn xc vs))) (fun f => rfl) ?_
  refine mr_call (y := 135) (y0 := 13) (L := [some (.int x), some (.int 0), some (.int ((nI mi) - 1))]) (rest := []) (rr := some (.int 1)) (M1 := (mk_M c n m kk (rT (he, ke, ki, fi, fa, or, mi, a, g, l, w, s) xm xi xw im le nu rf ln nn vp xn xc vs))) (fun f => rfl) (by
      refine mr_seg 2 (pc1 := 2) (ls1 := [some (.int x), some (.int 0), some (.int ((nI mi) - 1))]) (st1 := [.int 0, .int x]) (M1 := (mk_M c n m kk (rT (he, ke, ki, fi, fa, or, mi, a, g, l, w, s) xm xi xw im le nu rf ln nn vp xn xc vs))) (fun f => rfl) ?_
      refine mr_f (C := x < 0) (h1) (fun f => rfl) ?_
      refine mr_seg 2 (pc1 := 7) (ls1 := [some (.int x), some (.int 0), some (.int ((nI mi) - 1))]) (st1 := [.int ((nI mi) - 1), .int x]) (M1 := (mk_M c n m kk (rT (he, ke, ki, fi, fa, or, mi, a, g, l, w, s) xm xi xw im le nu rf ln nn vp xn xc vs))) (fun f => rfl) ?_
      refine mr_f (C := ((nI mi) - 1) < x) (h2) (fun f => rfl) ?_
      exact mr_ret 3 (fun f => rfl)) ?_
  exact mr_ret 1 (fun f => rfl)
set_option maxRecDepth 100000 in
theorem oc_row_0 (he ke ki fi fa or : List Nat) (mi a g l w s : Nat) (im : Nat) (le : List Nat) (ln : Nat) (ys : List Int32) (vt : Int32) (nu : List Nat) (nn : Nat) (rf : List Nat) (vw vq : Int32) (yc yh yg : List Int32) (m kk : kG) (q : cR) (hA : iA (he, ke, ki, fi, fa, or, mi, a, g, l, w, s)) (hB : iB le ln) (hC : iC nu nn) (hD : iD rf) (hJ : iJ m ys yc yh yg) (k0 : kSh kk) (x : Int32) (hxu : x.toInt ≤ -1) : mm_R 119 0 [some (.ref 100), some (.int x)] [] (mk_M (cT im le ln ys vt nu nn rf vw vq yc yh yg) (kr (he, ke, ki, fi, fa, or, mi, a, g, l, w, s)) m kk q) (some (.int (-4)), (mk_M (cT im le ln ys vt nu nn (rf.set 4 (kg rf 4 + 1)) vw vq yc yh yg) (kr (he, ke, ki, fi, fa, or, mi, a, g, l, w, s)) m kk q)) := by
  have hst2 : s ≤ 999 := hA.2
  have v7 : mi ≤ 5 := hA.1.2.2.2.2.2.2.1
  have b3 : ln ≤ 96 := hB.2.2
  have c3 : nn ≤ 16 := hC.2.2
  refine mr_seg 1 (pc1 := 1) (ls1 := [some (.ref 100), some (.int x)]) (st1 := [.int x]) (M1 := (mk_M (cT im le ln ys vt nu nn rf vw vq yc yh yg) (kr (he, ke, ki, fi, fa, or, mi, a, g, l, w, s)) m kk q)) (fun f => rfl) ?_
  refine mr_f (C := 0 ≤ x) (mz_ge_f 0 (by decide) (by omega)) (fun f => rfl) ?_
  refine mr_seg 2 (pc1 := 7) (ls1 := [some (.ref 100), some (.int x)]) (st1 := [.int (-4), .ref 100]) (M1 := (mk_M (cT im le ln ys vt nu nn rf vw vq yc yh yg) (kr (he, ke, ki, fi, fa, or, mi, a, g, l, w, s)) m kk q)) (fun f => rfl) ?_
  refine mr_call (y := 12) (y0 := 10) (L := [some (.ref 100), some (.int (-4))]) (rest := []) (rr := some (.int (-4))) (M1 := (mk_M (cT im le ln ys vt nu nn (rf.set 4 (kg rf 4 + 1)) vw vq yc yh yg) (kr (he, ke, ki, fi, fa, or, mi, a, g, l, w, s)) m kk q)) (fun f => rfl) (ms_re4 hD) ?_
  exact mr_ret 1 (fun f => rfl)
set_option maxRecDepth 100000 in
theorem om_row_0 (he ke ki fi fa or : List Nat) (mi a g l w s : Nat) (xm xi xw : List Int32) (im : Nat) (le nu rf : List Nat) (ln nn : Nat) (vp : Int32) (xn xc : List Int32) (vs : Int32) (c : cC) (n m kk : kG) (hA : iA (he, ke, ki, fi, fa, or, mi, a, g, l, w, s)) (hB : iB le ln) (hC : iC nu nn) (hD : iD rf) (hR : iR xm xw xn xc) (k1 : xi.length = 52) (x : Int32) (hxu : x.toInt ≤ -1) : mm_R 204 0 [some (.ref 138), some (.int x), none] [] (mk_M c n m kk (rT (he, ke, ki, fi, fa, or, mi, a, g, l, w, s) xm xi xw im le nu rf ln nn vp xn xc vs)) (some (.int (-4)), (mk_M c n m kk (rT (he, ke, ki, fi, fa, or, mi, a, g, l, w, s) xm xi xw im le nu (rf.set 4 (kg rf 4 + 1)) ln nn vp xn xc vs))) := by
  have hst2 : s ≤ 999 := hA.2
  have v7 : mi ≤ 5 := hA.1.2.2.2.2.2.2.1
  have b3 : ln ≤ 96 := hB.2.2
  have c3 : nn ≤ 16 := hC.2.2
  refine mr_seg 3 (pc1 := 4) (ls1 := [some (.ref 138), some (.int x), none]) (st1 := [.int 99, .int 0, .int x]) (M1 := (mk_M c n m kk (rT (he, ke, ki, fi, fa, or, mi, a, g, l, w, s) xm xi xw im le nu rf ln nn vp xn xc vs))) (fun f => rfl) ?_
  refine mr_call (y := 159) (y0 := 7) (L := [some (.int x), some (.int 0), some (.int 99)]) (rest := []) (rr := some (.int (-4))) (M1 := (mk_M c n m kk (rT (he, ke, ki, fi, fa, or, mi, a, g, l, w, s) xm xi xw im le nu rf ln nn vp xn xc vs))) (fun f => rfl) (ms_wb_lo (x := x) (a := 0) (b := 99) (mz_ge_f 0 (by decide) (by omega))) ?_
  refine mr_seg 7 (pc1 := 30) (ls1 := [some (.ref 138), some (.int x), some (.int (-4))]) (st1 := [.int (-4), .ref 138]) (M1 := (mk_M c n m kk (rT (he, ke, ki, fi, fa, or, mi, a, g, l, w, s) xm xi xw im le nu rf ln nn vp xn xc vs))) (fun f => rfl) ?_
  refine mr_call (y := 130) (y0 := 33) (L := [some (.ref 138), some (.int (-4))]) (rest := []) (rr := some (.int (-4))) (M1 := (mk_M c n m kk (rT (he, ke, ki, fi, fa, or, mi, a, g, l, w, s) xm xi xw im le nu (rf.set 4 (kg rf 4 + 1)) ln nn vp xn xc vs))) (fun f => rfl) (ms_no4 hD) ?_
  exact mr_ret 1 (fun f => rfl)
theorem oe_row_0 (he ke ki fi fa or : List Nat) (mi a g l w s : Nat) (m : kG) (kk : kG) (im : Nat) (le : List Nat) (ln : Nat) (ys : List Int32) (vt : Int32) (nu : List Nat) (nn : Nat) (rf : List Nat) (vw : Int32) (vq : Int32) (yc : List Int32) (yh : List Int32) (yg : List Int32) (xm : List Int32) (xi : List Int32) (xw : List Int32) (vp : Int32) (xn : List Int32) (xc : List Int32) (vs : Int32) (hA : iA (he, ke, ki, fi, fa, or, mi, a, g, l, w, s)) (hB : iB le ln) (hC : iC nu nn) (hD : iD rf) (hJ : iJ m ys yc yh yg) (hR : iR xm xw xn xc) (hK : iK im kk xi) (x : Int32) (hxu : x.toInt ≤ -1) : oI 119 204 [some (.ref 100), some (.int x)] [some (.ref 138), some (.int x), none] (mk_M (cT im le ln ys vt nu nn rf vw vq yc yh yg) (kr (he, ke, ki, fi, fa, or, mi, a, g, l, w, s)) m kk (rT (he, ke, ki, fi, fa, or, mi, a, g, l, w, s) xm xi xw im le nu rf ln nn vp xn xc vs)) := by
  exact ⟨(-4), _, _, oc_row_0 he ke ki fi fa or mi a g l w s im le ln ys vt nu nn rf vw vq yc yh yg m kk _ hA hB hC hD hJ hK.1 x hxu, om_row_0 he ke ki fi fa or mi a g l w s xm xi xw im le nu rf ln nn vp xn xc vs _ _ _ _ hA hB hC hD hR hK.2.1 x hxu, (he, ke, ki, fi, fa, or, mi, a, g, l, w, s), m, kk, im, le, ln, ys, vt, nu, nn, (rf.set 4 (kg rf 4 + 1)), vw, vq, yc, yh, yg, xm, xi, xw, vp, xn, xc, vs, rfl, hA, hB, hC, iD_s hD, hJ, hR, hK⟩
set_option maxRecDepth 100000 in
theorem oc_row_1 (he ke ki fi fa or : List Nat) (mi a g l w s : Nat) (im : Nat) (le : List Nat) (ln : Nat) (ys : List Int32) (vt : Int32) (nu : List Nat) (nn : Nat) (rf : List Nat) (vw vq : Int32) (yc yh yg : List Int32) (m kk : kG) (q : cR) (hA : iA (he, ke, ki, fi, fa, or, mi, a, g, l, w, s)) (hB : iB le ln) (hC : iC nu nn) (hD : iD rf) (hJ : iJ m ys yc yh yg) (k0 : kSh kk) (x : Int32) (hxl : 100 ≤ x.toInt) : mm_R 119 0 [some (.ref 100), some (.int x)] [] (mk_M (cT im le ln ys vt nu nn rf vw vq yc yh yg) (kr (he, ke, ki, fi, fa, or, mi, a, g, l, w, s)) m kk q) (some (.int (-6)), (mk_M (cT im le ln ys vt nu nn (rf.set 6 (kg rf 6 + 1)) vw vq yc yh yg) (kr (he, ke, ki, fi, fa, or, mi, a, g, l, w, s)) m kk q)) := by
  have hst2 : s ≤ 999 := hA.2
  have v7 : mi ≤ 5 := hA.1.2.2.2.2.2.2.1
  have b3 : ln ≤ 96 := hB.2.2
  have c3 : nn ≤ 16 := hC.2.2
  refine mr_seg 1 (pc1 := 1) (ls1 := [some (.ref 100), some (.int x)]) (st1 := [.int x]) (M1 := (mk_M (cT im le ln ys vt nu nn rf vw vq yc yh yg) (kr (he, ke, ki, fi, fa, or, mi, a, g, l, w, s)) m kk q)) (fun f => rfl) ?_
  refine mr_t (C := 0 ≤ x) (mz_ge_t 0 (by decide) (by omega)) (fun f => rfl) ?_
  refine mr_seg 2 (pc1 := 14) (ls1 := [some (.ref 100), some (.int x)]) (st1 := [.int 99, .int x]) (M1 := (mk_M (cT im le ln ys vt nu nn rf vw vq yc yh yg) (kr (he, ke, ki, fi, fa, or, mi, a, g, l, w, s)) m kk q)) (fun f => rfl) ?_
  refine mr_t (C := 99 < x) (mz_gt_t 99 (by decide) (by omega)) (fun f => rfl) ?_
  refine mr_seg 2 (pc1 := 29) (ls1 := [some (.ref 100), some (.int x)]) (st1 := [.int (-6), .ref 100]) (M1 := (mk_M (cT im le ln ys vt nu nn rf vw vq yc yh yg) (kr (he, ke, ki, fi, fa, or, mi, a, g, l, w, s)) m kk q)) (fun f => rfl) ?_
  refine mr_call (y := 12) (y0 := 32) (L := [some (.ref 100), some (.int (-6))]) (rest := []) (rr := some (.int (-6))) (M1 := (mk_M (cT im le ln ys vt nu nn (rf.set 6 (kg rf 6 + 1)) vw vq yc yh yg) (kr (he, ke, ki, fi, fa, or, mi, a, g, l, w, s)) m kk q)) (fun f => rfl) (ms_re6 hD) ?_
  exact mr_ret 1 (fun f => rfl)
set_option maxRecDepth 100000 in
theorem om_row_1 (he ke ki fi fa or : List Nat) (mi a g l w s : Nat) (xm xi xw : List Int32) (im : Nat) (le nu rf : List Nat) (ln nn : Nat) (vp : Int32) (xn xc : List Int32) (vs : Int32) (c : cC) (n m kk : kG) (hA : iA (he, ke, ki, fi, fa, or, mi, a, g, l, w, s)) (hB : iB le ln) (hC : iC nu nn) (hD : iD rf) (hR : iR xm xw xn xc) (k1 : xi.length = 52) (x : Int32) (hxl : 100 ≤ x.toInt) : mm_R 204 0 [some (.ref 138), some (.int x), none] [] (mk_M c n m kk (rT (he, ke, ki, fi, fa, or, mi, a, g, l, w, s) xm xi xw im le nu rf ln nn vp xn xc vs)) (some (.int (-6)), (mk_M c n m kk (rT (he, ke, ki, fi, fa, or, mi, a, g, l, w, s) xm xi xw im le nu (rf.set 6 (kg rf 6 + 1)) ln nn vp xn xc vs))) := by
  have hst2 : s ≤ 999 := hA.2
  have v7 : mi ≤ 5 := hA.1.2.2.2.2.2.2.1
  have b3 : ln ≤ 96 := hB.2.2
  have c3 : nn ≤ 16 := hC.2.2
  refine mr_seg 3 (pc1 := 4) (ls1 := [some (.ref 138), some (.int x), none]) (st1 := [.int 99, .int 0, .int x]) (M1 := (mk_M c n m kk (rT (he, ke, ki, fi, fa, or, mi, a, g, l, w, s) xm xi xw im le nu rf ln nn vp xn xc vs))) (fun f => rfl) ?_
  refine mr_call (y := 159) (y0 := 7) (L := [some (.int x), some (.int 0), some (.int 99)]) (rest := []) (rr := some (.int (-6))) (M1 := (mk_M c n m kk (rT (he, ke, ki, fi, fa, or, mi, a, g, l, w, s) xm xi xw im le nu rf ln nn vp xn xc vs))) (fun f => rfl) (ms_wb_hi (x := x) (a := 0) (b := 99) (mz_ge_t 0 (by decide) (by omega)) (mz_le_f 99 (by decide) (by omega))) ?_
  refine mr_seg 7 (pc1 := 30) (ls1 := [some (.ref 138), some (.int x), some (.int (-6))]) (st1 := [.int (-6), .ref 138]) (M1 := (mk_M c n m kk (rT (he, ke, ki, fi, fa, or, mi, a, g, l, w, s) xm xi xw im le nu rf ln nn vp xn xc vs))) (fun f => rfl) ?_
  refine mr_call (y := 130) (y0 := 33) (L := [some (.ref 138), some (.int (-6))]) (rest := []) (rr := some (.int (-6))) (M1 := (mk_M c n m kk (rT (he, ke, ki, fi, fa, or, mi, a, g, l, w, s) xm xi xw im le nu (rf.set 6 (kg rf 6 + 1)) ln nn vp xn xc vs))) (fun f => rfl) (ms_no6 hD) ?_
  exact mr_ret 1 (fun f => rfl)
theorem oe_row_1 (he ke ki fi fa or : List Nat) (mi a g l w s : Nat) (m : kG) (kk : kG) (im : Nat) (le : List Nat) (ln : Nat) (ys : List Int32) (vt : Int32) (nu : List Nat) (nn : Nat) (rf : List Nat) (vw : Int32) (vq : Int32) (yc : List Int32) (yh : List Int32) (yg : List Int32) (xm : List Int32) (xi : List Int32) (xw : List Int32) (vp : Int32) (xn : List Int32) (xc : List Int32) (vs : Int32) (hA : iA (he, ke, ki, fi, fa, or, mi, a, g, l, w, s)) (hB : iB le ln) (hC : iC nu nn) (hD : iD rf) (hJ : iJ m ys yc yh yg) (hR : iR xm xw xn xc) (hK : iK im kk xi) (x : Int32) (hxl : 100 ≤ x.toInt) : oI 119 204 [some (.ref 100), some (.int x)] [some (.ref 138), some (.int x), none] (mk_M (cT im le ln ys vt nu nn rf vw vq yc yh yg) (kr (he, ke, ki, fi, fa, or, mi, a, g, l, w, s)) m kk (rT (he, ke, ki, fi, fa, or, mi, a, g, l, w, s) xm xi xw im le nu rf ln nn vp xn xc vs)) := by
  exact ⟨(-6), _, _, oc_row_1 he ke ki fi fa or mi a g l w s im le ln ys vt nu nn rf vw vq yc yh yg m kk _ hA hB hC hD hJ hK.1 x hxl, om_row_1 he ke ki fi fa or mi a g l w s xm xi xw im le nu rf ln nn vp xn xc vs _ _ _ _ hA hB hC hD hR hK.2.1 x hxl, (he, ke, ki, fi, fa, or, mi, a, g, l, w, s), m, kk, im, le, ln, ys, vt, nu, nn, (rf.set 6 (kg rf 6 + 1)), vw, vq, yc, yh, yg, xm, xi, xw, vp, xn, xc, vs, rfl, hA, hB, hC, iD_s hD, hJ, hR, hK⟩
set_option maxRecDepth 100000 in
theorem oc_row_2 (he ke ki fi fa or : List Nat) (mi a g l w s : Nat) (im : Nat) (le : List Nat) (ln : Nat) (ys : List Int32) (vt : Int32) (nu : List Nat) (nn : Nat) (rf : List Nat) (vw vq : Int32) (yc yh yg : List Int32) (m kk : kG) (q : cR) (hA : iA (he, ke, ki, fi, fa, or, mi, a, g, l, w, s)) (hB : iB le ln) (hC : iC nu nn) (hD : iD rf) (hJ : iJ m ys yc yh yg) (k0 : kSh kk) (x : Nat) (hx : x < 100) (hq : nn = 16) : mm_R 119 0 [some (.ref 100), some (.int (nI x))] [] (mk_M (cT im le ln ys vt nu nn rf vw vq yc yh yg) (kr (he, ke, ki, fi, fa, or, mi, a, g, l, w, s)) m kk q) (some (.int (-6)), (mk_M (cT im le ln ys vt nu nn (rf.set 6 (kg rf 6 + 1)) vw vq yc yh yg) (kr (he, ke, ki, fi, fa, or, mi, a, g, l, w, s)) m kk q)) := by
  have hst2 : s ≤ 999 := hA.2
  have v7 : mi ≤ 5 := hA.1.2.2.2.2.2.2.1
  have b3 : ln ≤ 96 := hB.2.2
  have c3 : nn ≤ 16 := hC.2.2
  refine mr_seg 1 (pc1 := 1) (ls1 := [some (.ref 100), some (.int (nI x))]) (st1 := [.int (nI x)]) (M1 := (mk_M (cT im le ln ys vt nu nn rf vw vq yc yh yg) (kr (he, ke, ki, fi, fa, or, mi, a, g, l, w, s)) m kk q)) (fun f => rfl) ?_
  refine mr_t (C := 0 ≤ (nI x)) (nI_let (a := 0) (b := x) (by omega)) (fun f => rfl) ?_
  refine mr_seg 2 (pc1 := 14) (ls1 := [some (.ref 100), some (.int (nI x))]) (st1 := [.int 99, .int (nI x)]) (M1 := (mk_M (cT im le ln ys vt nu nn rf vw vq yc yh yg) (kr (he, ke, ki, fi, fa, or, mi, a, g, l, w, s)) m kk q)) (fun f => rfl) ?_
  refine mr_f (C := 99 < (nI x)) (nI_ltf (a := 99) (b := x) (by omega)) (fun f => rfl) ?_
  refine mr_seg 3 (pc1 := 23) (ls1 := [some (.ref 100), some (.int (nI x))]) (st1 := [.int 16, .int (nI nn)]) (M1 := (mk_M (cT im le ln ys vt nu nn rf vw vq yc yh yg) (kr (he, ke, ki, fi, fa, or, mi, a, g, l, w, s)) m kk q)) (fun f => rfl) ?_
  refine mr_f (C := (nI nn) < 16) (nI_ltf (a := nn) (b := 16) (by omega)) (fun f => rfl) ?_
  refine mr_seg 2 (pc1 := 29) (ls1 := [some (.ref 100), some (.int (nI x))]) (st1 := [.int (-6), .ref 100]) (M1 := (mk_M (cT im le ln ys vt nu nn rf vw vq yc yh yg) (kr (he, ke, ki, fi, fa, or, mi, a, g, l, w, s)) m kk q)) (fun f => rfl) ?_
  refine mr_call (y := 12) (y0 := 32) (L := [some (.ref 100), some (.int (-6))]) (rest := []) (rr := some (.int (-6))) (M1 := (mk_M (cT im le ln ys vt nu nn (rf.set 6 (kg rf 6 + 1)) vw vq yc yh yg) (kr (he, ke, ki, fi, fa, or, mi, a, g, l, w, s)) m kk q)) (fun f => rfl) (ms_re6 hD) ?_
  exact mr_ret 1 (fun f => rfl)
set_option maxRecDepth 100000 in
theorem om_row_2 (he ke ki fi fa or : List Nat) (mi a g l w s : Nat) (xm xi xw : List Int32) (im : Nat) (le nu rf : List Nat) (ln nn : Nat) (vp : Int32) (xn xc : List Int32) (vs : Int32) (c : cC) (n m kk : kG) (hA : iA (he, ke, ki, fi, fa, or, mi, a, g, l, w, s)) (hB : iB le ln) (hC : iC nu nn) (hD : iD rf) (hR : iR xm xw xn xc) (k1 : xi.length = 52) (x : Nat) (hx : x < 100) (hq : nn = 16) : mm_R 204 0 [some (.ref 138), some (.int (nI x)), none] [] (mk_M c n m kk (rT (he, ke, ki, fi, fa, or, mi, a, g, l, w, s) xm xi xw im le nu rf ln nn vp xn xc vs)) (some (.int (-6)), (mk_M c n m kk (rT (he, ke, ki, fi, fa, or, mi, a, g, l, w, s) xm xi xw im le nu (rf.set 6 (kg rf 6 + 1)) ln nn vp xn xc vs))) := by
  have hst2 : s ≤ 999 := hA.2
  have v7 : mi ≤ 5 := hA.1.2.2.2.2.2.2.1
  have b3 : ln ≤ 96 := hB.2.2
  have c3 : nn ≤ 16 := hC.2.2
  refine mr_seg 3 (pc1 := 4) (ls1 := [some (.ref 138), some (.int (nI x)), none]) (st1 := [.int 99, .int 0, .int (nI x)]) (M1 := (mk_M c n m kk (rT (he, ke, ki, fi, fa, or, mi, a, g, l, w, s) xm xi xw im le nu rf ln nn vp xn xc vs))) (fun f => rfl) ?_
  refine mr_call (y := 159) (y0 := 7) (L := [some (.int (nI x)), some (.int 0), some (.int 99)]) (rest := []) (rr := some (.int 0)) (M1 := (mk_M c n m kk (rT (he, ke, ki, fi, fa, or, mi, a, g, l, w, s) xm xi xw im le nu rf ln nn vp xn xc vs))) (fun f => rfl) (ms_wb_ok (x := (nI x)) (a := 0) (b := 99) (nI_let (a := 0) (b := x) (by omega)) (nI_let (a := x) (b := 99) (by omega))) ?_
  refine mr_seg 6 (pc1 := 18) (ls1 := [some (.ref 138), some (.int (nI x)), some (.int 0)]) (st1 := [.int 16, .int (nI nn)]) (M1 := (mk_M c n m kk (rT (he, ke, ki, fi, fa, or, mi, a, g, l, w, s) xm xi xw im le nu rf ln nn vp xn xc vs))) (fun f => rfl) ?_
  refine mr_t (C := (nI nn) = 16) (nI_eqt (a := nn) (b := 16) (by omega)) (fun f => rfl) ?_
  refine mr_seg 6 (pc1 := 30) (ls1 := [some (.ref 138), some (.int (nI x)), some (.int (-6))]) (st1 := [.int (-6), .ref 138]) (M1 := (mk_M c n m kk (rT (he, ke, ki, fi, fa, or, mi, a, g, l, w, s) xm xi xw im le nu rf ln nn vp xn xc vs))) (fun f => rfl) ?_
  refine mr_call (y := 130) (y0 := 33) (L := [some (.ref 138), some (.int (-6))]) (rest := []) (rr := some (.int (-6))) (M1 := (mk_M c n m kk (rT (he, ke, ki, fi, fa, or, mi, a, g, l, w, s) xm xi xw im le nu (rf.set 6 (kg rf 6 + 1)) ln nn vp xn xc vs))) (fun f => rfl) (ms_no6 hD) ?_
  exact mr_ret 1 (fun f => rfl)
theorem oe_row_2 (he ke ki fi fa or : List Nat) (mi a g l w s : Nat) (m : kG) (kk : kG) (im : Nat) (le : List Nat) (ln : Nat) (ys : List Int32) (vt : Int32) (nu : List Nat) (nn : Nat) (rf : List Nat) (vw : Int32) (vq : Int32) (yc : List Int32) (yh : List Int32) (yg : List Int32) (xm : List Int32) (xi : List Int32) (xw : List Int32) (vp : Int32) (xn : List Int32) (xc : List Int32) (vs : Int32) (hA : iA (he, ke, ki, fi, fa, or, mi, a, g, l, w, s)) (hB : iB le ln) (hC : iC nu nn) (hD : iD rf) (hJ : iJ m ys yc yh yg) (hR : iR xm xw xn xc) (hK : iK im kk xi) (x : Nat) (hx : x < 100) (hq : nn = 16) : oI 119 204 [some (.ref 100), some (.int (nI x))] [some (.ref 138), some (.int (nI x)), none] (mk_M (cT im le ln ys vt nu nn rf vw vq yc yh yg) (kr (he, ke, ki, fi, fa, or, mi, a, g, l, w, s)) m kk (rT (he, ke, ki, fi, fa, or, mi, a, g, l, w, s) xm xi xw im le nu rf ln nn vp xn xc vs)) := by
  exact ⟨(-6), _, _, oc_row_2 he ke ki fi fa or mi a g l w s im le ln ys vt nu nn rf vw vq yc yh yg m kk _ hA hB hC hD hJ hK.1 x hx hq, om_row_2 he ke ki fi fa or mi a g l w s xm xi xw im le nu rf ln nn vp xn xc vs _ _ _ _ hA hB hC hD hR hK.2.1 x hx hq, (he, ke, ki, fi, fa, or, mi, a, g, l, w, s), m, kk, im, le, ln, ys, vt, nu, nn, (rf.set 6 (kg rf 6 + 1)), vw, vq, yc, yh, yg, xm, xi, xw, vp, xn, xc, vs, rfl, hA, hB, hC, iD_s hD, hJ, hR, hK⟩
set_option maxRecDepth 100000 in
theorem oc_row_3 (he ke ki fi fa or : List Nat) (mi a g l w s : Nat) (im : Nat) (le : List Nat) (ln : Nat) (ys : List Int32) (vt : Int32) (nu : List Nat) (nn : Nat) (rf : List Nat) (vw vq : Int32) (yc yh yg : List Int32) (m kk : kG) (q : cR) (hA : iA (he, ke, ki, fi, fa, or, mi, a, g, l, w, s)) (hB : iB le ln) (hC : iC nu nn) (hD : iD rf) (hJ : iJ m ys yc yh yg) (k0 : kSh kk) (x : Nat) (hx : x < 100) (hq : nn < 16) : mm_R 119 0 [some (.ref 100), some (.int (nI x))] [] (mk_M (cT im le ln ys vt nu nn rf vw vq yc yh yg) (kr (he, ke, ki, fi, fa, or, mi, a, g, l, w, s)) m kk q) (some (.int (nI (nn + 1))), (mk_M (cT im le ln ys vt (nu.set nn x) (nn + 1) rf vw vq yc yh yg) (kr (he, ke, ki, fi, fa, or, mi, a, g, l, w, s)) m kk q)) := by
  obtain ⟨hV, hst⟩ := id hA
  have hst2 : s ≤ 999 := hst
  obtain ⟨v1, v2, v3, v4, v5, v6, v7, v8, v9, v10, v11, v12, v13, v14, v15, v16⟩ := id hV
  have v6l := kO_len mi v7 or v6
  obtain ⟨b1, b2, b3⟩ := id hB
  obtain ⟨c1, c2, c3⟩ := id hC
  have d1 : rf.length = 7 := hD
  obtain ⟨j0, j1, j2, j3, j4⟩ := id hJ
  refine mr_seg 1 (pc1 := 1) (ls1 := [some (.ref 100), some (.int (nI x))]) (st1 := [.int (nI x)]) (M1 := (mk_M (cT im le ln ys vt nu nn rf vw vq yc yh yg) (kr (he, ke, ki, fi, fa, or, mi, a, g, l, w, s)) m kk q)) (fun f => rfl) ?_
  refine mr_t (C := 0 ≤ (nI x)) (nI_let (a := 0) (b := x) (by omega)) (fun f => rfl) ?_
  refine mr_seg 2 (pc1 := 14) (ls1 := [some (.ref 100), some (.int (nI x))]) (st1 := [.int 99, .int (nI x)]) (M1 := (mk_M (cT im le ln ys vt nu nn rf vw vq yc yh yg) (kr (he, ke, ki, fi, fa, or, mi, a, g, l, w, s)) m kk q)) (fun f => rfl) ?_
  refine mr_f (C := 99 < (nI x)) (nI_ltf (a := 99) (b := x) (by omega)) (fun f => rfl) ?_
  refine mr_seg 3 (pc1 := 23) (ls1 := [some (.ref 100), some (.int (nI x))]) (st1 := [.int 16, .int (nI nn)]) (M1 := (mk_M (cT im le ln ys vt nu nn rf vw vq yc yh yg) (kr (he, ke, ki, fi, fa, or, mi, a, g, l, w, s)) m kk q)) (fun f => rfl) ?_
  refine mr_t (C := (nI nn) < 16) (nI_ltt (a := nn) (b := 16) (by omega)) (fun f => rfl) ?_
  refine mr_seg 5 (pc1 := 42) (ls1 := [some (.ref 100), some (.int (nI x))]) (st1 := [.int (nI x), .int (nI nn), .ref 104]) (M1 := (mk_M (cT im le ln ys vt nu nn rf vw vq yc yh yg) (kr (he, ke, ki, fi, fa, or, mi, a, g, l, w, s)) m kk q)) (fun f => rfl) ?_
  refine mr_stk (l0 := nu) (M2 := (mk_M (cT im le ln ys vt (nu.set nn x) nn rf vw vq yc yh yg) (kr (he, ke, ki, fi, fa, or, mi, a, g, l, w, s)) m kk q)) rfl rfl (k := nn) (v := x) (by omega) rfl ?_
  refine mr_seg 5 (pc1 := 50) (ls1 := [some (.ref 100), some (.int (nI x))]) (st1 := [.int ((nI nn) + 1), .ref 100]) (M1 := (mk_M (cT im le ln ys vt (nu.set nn x) nn rf vw vq yc yh yg) (kr (he, ke, ki, fi, fa, or, mi, a, g, l, w, s)) m kk q)) (fun f => rfl) ?_
  refine mr_v (nI_add nn 1) ?_
  exact mr_ret 4 (fun f => rfl)
set_option maxRecDepth 100000 in
theorem om_row_3 (he ke ki fi fa or : List Nat) (mi a g l w s : Nat) (xm xi xw : List Int32) (im : Nat) (le nu rf : List Nat) (ln nn : Nat) (vp : Int32) (xn xc : List Int32) (vs : Int32) (c : cC) (n m kk : kG) (hA : iA (he, ke, ki, fi, fa, or, mi, a, g, l, w, s)) (hB : iB le ln) (hC : iC nu nn) (hD : iD rf) (hR : iR xm xw xn xc) (k1 : xi.length = 52) (x : Nat) (hx : x < 100) (hq : nn < 16) : mm_R 204 0 [some (.ref 138), some (.int (nI x)), none] [] (mk_M c n m kk (rT (he, ke, ki, fi, fa, or, mi, a, g, l, w, s) xm xi xw im le nu rf ln nn vp xn xc vs)) (some (.int (nI (nn + 1))), (mk_M c n m kk (rT (he, ke, ki, fi, fa, or, mi, a, g, l, w, s) xm xi xw im le (nu.set nn x) rf ln (nn + 1) vp xn xc vs))) := by
  obtain ⟨hV, hst⟩ := id hA
  have hst2 : s ≤ 999 := hst
  obtain ⟨v1, v2, v3, v4, v5, v6, v7, v8, v9, v10, v11, v12, v13, v14, v15, v16⟩ := id hV
  have v6l := kO_len mi v7 or v6
  obtain ⟨b1, b2, b3⟩ := id hB
  obtain ⟨c1, c2, c3⟩ := id hC
  have d1 : rf.length = 7 := hD
  obtain ⟨r1, r2, r3, r4⟩ := id hR
  refine mr_seg 3 (pc1 := 4) (ls1 := [some (.ref 138), some (.int (nI x)), none]) (st1 := [.int 99, .int 0, .int (nI x)]) (M1 := (mk_M c n m kk (rT (he, ke, ki, fi, fa, or, mi, a, g, l, w, s) xm xi xw im le nu rf ln nn vp xn xc vs))) (fun f => rfl) ?_
  refine mr_call (y := 159) (y0 := 7) (L := [some (.int (nI x)), some (.int 0), some (.int 99)]) (rest := []) (rr := some (.int 0)) (M1 := (mk_M c n m kk (rT (he, ke, ki, fi, fa, or, mi, a, g, l, w, s) xm xi xw im le nu rf ln nn vp xn xc vs))) (fun f => rfl) (ms_wb_ok (x := (nI x)) (a := 0) (b := 99) (nI_let (a := 0) (b := x) (by omega)) (nI_let (a := x) (b := 99) (by omega))) ?_
  refine mr_seg 6 (pc1 := 18) (ls1 := [some (.ref 138), some (.int (nI x)), some (.int 0)]) (st1 := [.int 16, .int (nI nn)]) (M1 := (mk_M c n m kk (rT (he, ke, ki, fi, fa, or, mi, a, g, l, w, s) xm xi xw im le nu rf ln nn vp xn xc vs))) (fun f => rfl) ?_
  refine mr_f (C := (nI nn) = 16) (nI_eqf (a := nn) (b := 16) (by omega)) (fun f => rfl) ?_
  refine mr_seg 7 (pc1 := 43) (ls1 := [some (.ref 138), some (.int (nI x)), some (.int 0)]) (st1 := [.int (nI x), .int (nI nn), .ref 144]) (M1 := (mk_M c n m kk (rT (he, ke, ki, fi, fa, or, mi, a, g, l, w, s) xm xi xw im le nu rf ln nn vp xn xc vs))) (fun f => rfl) ?_
  refine mr_stk (l0 := nu) (M2 := (mk_M c n m kk (rT (he, ke, ki, fi, fa, or, mi, a, g, l, w, s) xm xi xw im le (nu.set nn x) rf ln nn vp xn xc vs))) rfl rfl (k := nn) (v := x) (by omega) rfl ?_
  refine mr_seg 5 (pc1 := 51) (ls1 := [some (.ref 138), some (.int (nI x)), some (.int 0)]) (st1 := [.int ((nI nn) + 1), .ref 138]) (M1 := (mk_M c n m kk (rT (he, ke, ki, fi, fa, or, mi, a, g, l, w, s) xm xi xw im le (nu.set nn x) rf ln nn vp xn xc vs))) (fun f => rfl) ?_
  refine mr_v (nI_add nn 1) ?_
  exact mr_ret 4 (fun f => rfl)
theorem oe_row_3 (he ke ki fi fa or : List Nat) (mi a g l w s : Nat) (m : kG) (kk : kG) (im : Nat) (le : List Nat) (ln : Nat) (ys : List Int32) (vt : Int32) (nu : List Nat) (nn : Nat) (rf : List Nat) (vw : Int32) (vq : Int32) (yc : List Int32) (yh : List Int32) (yg : List Int32) (xm : List Int32) (xi : List Int32) (xw : List Int32) (vp : Int32) (xn : List Int32) (xc : List Int32) (vs : Int32) (hA : iA (he, ke, ki, fi, fa, or, mi, a, g, l, w, s)) (hB : iB le ln) (hC : iC nu nn) (hD : iD rf) (hJ : iJ m ys yc yh yg) (hR : iR xm xw xn xc) (hK : iK im kk xi) (x : Nat) (hx : x < 100) (hq : nn < 16) : oI 119 204 [some (.ref 100), some (.int (nI x))] [some (.ref 138), some (.int (nI x)), none] (mk_M (cT im le ln ys vt nu nn rf vw vq yc yh yg) (kr (he, ke, ki, fi, fa, or, mi, a, g, l, w, s)) m kk (rT (he, ke, ki, fi, fa, or, mi, a, g, l, w, s) xm xi xw im le nu rf ln nn vp xn xc vs)) := by
  obtain ⟨hV, hst⟩ := id hA
  have hst2 : s ≤ 999 := hst
  obtain ⟨v1, v2, v3, v4, v5, v6, v7, v8, v9, v10, v11, v12, v13, v14, v15, v16⟩ := id hV
  have v6l := kO_len mi v7 or v6
  obtain ⟨b1, b2, b3⟩ := id hB
  obtain ⟨c1, c2, c3⟩ := id hC
  have d1 : rf.length = 7 := hD
  obtain ⟨j0, j1, j2, j3, j4⟩ := id hJ
  obtain ⟨r1, r2, r3, r4⟩ := id hR
  obtain ⟨k0, k1, k2, k3⟩ := id hK
  exact ⟨(nI (nn + 1)), _, _, oc_row_3 he ke ki fi fa or mi a g l w s im le ln ys vt nu nn rf vw vq yc yh yg m kk _ hA hB hC hD hJ hK.1 x hx hq, om_row_3 he ke ki fi fa or mi a g l w s xm xi xw im le nu rf ln nn vp xn xc vs _ _ _ _ hA hB hC hD hR hK.2.1 x hx hq, (he, ke, ki, fi, fa, or, mi, a, g, l, w, s), m, kk, im, le, ln, ys, vt, (nu.set nn x), (nn + 1), rf, vw, vq, yc, yh, yg, xm, xi, xw, vp, xn, xc, vs, rfl, hA, hB, ⟨by rw [List.length_set]; exact c1, fun i => by rw [kg_setc]; split; omega; exact c2 i, by omega⟩, hD, hJ, hR, hK⟩
set_option maxRecDepth 100000 in
theorem oc_clear_0 (he ke ki fi fa or : List Nat) (mi a g l w s : Nat) (im : Nat) (le : List Nat) (ln : Nat) (ys : List Int32) (vt : Int32) (nu : List Nat) (nn : Nat) (rf : List Nat) (vw vq : Int32) (yc yh yg : List Int32) (m kk : kG) (q : cR) (hA : iA (he, ke, ki, fi, fa, or, mi, a, g, l, w, s)) (hB : iB le ln) (hC : iC nu nn) (hD : iD rf) (hJ : iJ m ys yc yh yg) (k0 : kSh kk) : mm_R 121 0 [some (.ref 100), none] [] (mk_M (cT im le ln ys vt nu nn rf vw vq yc yh yg) (kr (he, ke, ki, fi, fa, or, mi, a, g, l, w, s)) m kk q) (some (.int (nI nn)), (mk_M (cT im le ln ys vt nu 0 rf vw vq yc yh yg) (kr (he, ke, ki, fi, fa, or, mi, a, g, l, w, s)) m kk q)) := by
  obtain ⟨hV, hst⟩ := id hA
  have hst2 : s ≤ 999 := hst
  obtain ⟨v1, v2, v3, v4, v5, v6, v7, v8, v9, v10, v11, v12, v13, v14, v15, v16⟩ := id hV
  have v6l := kO_len mi v7 or v6
  obtain ⟨b1, b2, b3⟩ := id hB
  obtain ⟨c1, c2, c3⟩ := id hC
  have d1 : rf.length = 7 := hD
  obtain ⟨j0, j1, j2, j3, j4⟩ := id hJ
  exact mr_ret 8 (fun f => rfl)
set_option maxRecDepth 100000 in
theorem om_clear_0 (he ke ki fi fa or : List Nat) (mi a g l w s : Nat) (xm xi xw : List Int32) (im : Nat) (le nu rf : List Nat) (ln nn : Nat) (vp : Int32) (xn xc : List Int32) (vs : Int32) (c : cC) (n m kk : kG) (hA : iA (he, ke, ki, fi, fa, or, mi, a, g, l, w, s)) (hB : iB le ln) (hC : iC nu nn) (hD : iD rf) (hR : iR xm xw xn xc) (k1 : xi.length = 52) : mm_R 206 0 [some (.ref 138), none] [] (mk_M c n m kk (rT (he, ke, ki, fi, fa, or, mi, a, g, l, w, s) xm xi xw im le nu rf ln nn vp xn xc vs)) (some (.int (nI nn)), (mk_M c n m kk (rT (he, ke, ki, fi, fa, or, mi, a, g, l, w, s) xm xi xw im le nu rf ln 0 vp xn xc vs))) := by
  obtain ⟨hV, hst⟩ := id hA
  have hst2 : s ≤ 999 := hst
  obtain ⟨v1, v2, v3, v4, v5, v6, v7, v8, v9, v10, v11, v12, v13, v14, v15, v16⟩ := id hV
  have v6l := kO_len mi v7 or v6
  obtain ⟨b1, b2, b3⟩ := id hB
  obtain ⟨c1, c2, c3⟩ := id hC
  have d1 : rf.length = 7 := hD
  obtain ⟨r1, r2, r3, r4⟩ := id hR
  exact mr_ret 8 (fun f => rfl)
theorem oe_clear_0 (he ke ki fi fa or : List Nat) (mi a g l w s : Nat) (m : kG) (kk : kG) (im : Nat) (le : List Nat) (ln : Nat) (ys : List Int32) (vt : Int32) (nu : List Nat) (nn : Nat) (rf : List Nat) (vw : Int32) (vq : Int32) (yc : List Int32) (yh : List Int32) (yg : List Int32) (xm : List Int32) (xi : List Int32) (xw : List Int32) (vp : Int32) (xn : List Int32) (xc : List Int32) (vs : Int32) (hA : iA (he, ke, ki, fi, fa, or, mi, a, g, l, w, s)) (hB : iB le ln) (hC : iC nu nn) (hD : iD rf) (hJ : iJ m ys yc yh yg) (hR : iR xm xw xn xc) (hK : iK im kk xi) : oI 121 206 [some (.ref 100), none] [some (.ref 138), none] (mk_M (cT im le ln ys vt nu nn rf vw vq yc yh yg) (kr (he, ke, ki, fi, fa, or, mi, a, g, l, w, s)) m kk (rT (he, ke, ki, fi, fa, or, mi, a, g, l, w, s) xm xi xw im le nu rf ln nn vp xn xc vs)) := by
  obtain ⟨hV, hst⟩ := id hA
  have hst2 : s ≤ 999 := hst
  obtain ⟨v1, v2, v3, v4, v5, v6, v7, v8, v9, v10, v11, v12, v13, v14, v15, v16⟩ := id hV
  have v6l := kO_len mi v7 or v6
  obtain ⟨b1, b2, b3⟩ := id hB
  obtain ⟨c1, c2, c3⟩ := id hC
  have d1 : rf.length = 7 := hD
  obtain ⟨j0, j1, j2, j3, j4⟩ := id hJ
  obtain ⟨r1, r2, r3, r4⟩ := id hR
  obtain ⟨k0, k1, k2, k3⟩ := id hK
  exact ⟨(nI nn), _, _, oc_clear_0 he ke ki fi fa or mi a g l w s im le ln ys vt nu nn rf vw vq yc yh yg m kk _ hA hB hC hD hJ hK.1, om_clear_0 he ke ki fi fa or mi a g l w s xm xi xw im le nu rf ln nn vp xn xc vs _ _ _ _ hA hB hC hD hR hK.2.1, (he, ke, ki, fi, fa, or, mi, a, g, l, w, s), m, kk, im, le, ln, ys, vt, nu, 0, rf, vw, vq, yc, yh, yg, xm, xi, xw, vp, xn, xc, vs, rfl, hA, hB, ⟨c1, c2, by omega⟩, hD, hJ, hR, hK⟩
set_option maxRecDepth 100000 in
theorem oc_letter_0 (he ke ki fi fa or : List Nat) (mi a g l w s : Nat) (im : Nat) (le : List Nat) (ln : Nat) (ys : List Int32) (vt : Int32) (nu : List Nat) (nn : Nat) (rf : List Nat) (vw vq : Int32) (yc yh yg : List Int32) (m kk : kG) (q : cR) (hA : iA (he, ke, ki, fi, fa, or, mi, a, g, l, w, s)) (hB : iB le ln) (hC : iC nu nn) (hD : iD rf) (hJ : iJ m ys yc yh yg) (k0 : kSh kk) (x : Int32) (hxu : x.toInt ≤ -1) : mm_R 11 0 [some (.ref 100), some (.int x)] [] (mk_M (cT im le ln ys vt nu nn rf vw vq yc yh yg) (kr (he, ke, ki, fi, fa, or, mi, a, g, l, w, s)) m kk q) (some (.int (-4)), (mk_M (cT im le ln ys vt nu nn (rf.set 4 (kg rf 4 + 1)) vw vq yc yh yg) (kr (he, ke, ki, fi, fa, or, mi, a, g, l, w, s)) m kk q)) := by
  have hst2 : s ≤ 999 := hA.2
  have v7 : mi ≤ 5 := hA.1.2.2.2.2.2.2.1
  have b3 : ln ≤ 96 := hB.2.2
  have c3 : nn ≤ 16 := hC.2.2
  refine mr_seg 1 (pc1 := 1) (ls1 := [some (.ref 100), some (.int x)]) (st1 := [.int x]) (M1 := (mk_M (cT im le ln ys vt nu nn rf vw vq yc yh yg) (kr (he, ke, ki, fi, fa, or, mi, a, g, l, w, s)) m kk q)) (fun f => rfl) ?_
  refine mr_f (C := 0 ≤ x) (mz_ge_f 0 (by decide) (by omega)) (fun f => rfl) ?_
  refine mr_seg 2 (pc1 := 7) (ls1 := [some (.ref 100), some (.int x)]) (st1 := [.int (-4), .ref 100]) (M1 := (mk_M (cT im le ln ys vt nu nn rf vw vq yc yh yg) (kr (he, ke, ki, fi, fa, or, mi, a, g, l, w, s)) m kk q)) (fun f => rfl) ?_
  refine mr_call (y := 12) (y0 := 10) (L := [some (.ref 100), some (.int (-4))]) (rest := []) (rr := some (.int (-4))) (M1 := (mk_M (cT im le ln ys vt nu nn (rf.set 4 (kg rf 4 + 1)) vw vq yc yh yg) (kr (he, ke, ki, fi, fa, or, mi, a, g, l, w, s)) m kk q)) (fun f => rfl) (ms_re4 hD) ?_
  exact mr_ret 1 (fun f => rfl)
set_option maxRecDepth 100000 in
theorem om_letter_0 (he ke ki fi fa or : List Nat) (mi a g l w s : Nat) (xm xi xw : List Int32) (im : Nat) (le nu rf : List Nat) (ln nn : Nat) (vp : Int32) (xn xc : List Int32) (vs : Int32) (c : cC) (n m kk : kG) (hA : iA (he, ke, ki, fi, fa, or, mi, a, g, l, w, s)) (hB : iB le ln) (hC : iC nu nn) (hD : iD rf) (hR : iR xm xw xn xc) (k1 : xi.length = 52) (x : Int32) (hxu : x.toInt ≤ -1) : mm_R 129 0 [some (.ref 138), some (.int x)] [] (mk_M c n m kk (rT (he, ke, ki, fi, fa, or, mi, a, g, l, w, s) xm xi xw im le nu rf ln nn vp xn xc vs)) (some (.int (-4)), (mk_M c n m kk (rT (he, ke, ki, fi, fa, or, mi, a, g, l, w, s) xm xi xw im le nu (rf.set 4 (kg rf 4 + 1)) ln nn vp xn xc vs))) := by
  have hst2 : s ≤ 999 := hA.2
  have v7 : mi ≤ 5 := hA.1.2.2.2.2.2.2.1
  have b3 : ln ≤ 96 := hB.2.2
  have c3 : nn ≤ 16 := hC.2.2
  refine mr_seg 1 (pc1 := 1) (ls1 := [some (.ref 138), some (.int x)]) (st1 := [.int x]) (M1 := (mk_M c n m kk (rT (he, ke, ki, fi, fa, or, mi, a, g, l, w, s) xm xi xw im le nu rf ln nn vp xn xc vs))) (fun f => rfl) ?_
  refine mr_f (C := 0 ≤ x) (mz_ge_f 0 (by decide) (by omega)) (fun f => rfl) ?_
  refine mr_seg 2 (pc1 := 7) (ls1 := [some (.ref 138), some (.int x)]) (st1 := [.int (-4), .ref 138]) (M1 := (mk_M c n m kk (rT (he, ke, ki, fi, fa, or, mi, a, g, l, w, s) xm xi xw im le nu rf ln nn vp xn xc vs))) (fun f => rfl) ?_
  refine mr_call (y := 130) (y0 := 10) (L := [some (.ref 138), some (.int (-4))]) (rest := []) (rr := some (.int (-4))) (M1 := (mk_M c n m kk (rT (he, ke, ki, fi, fa, or, mi, a, g, l, w, s) xm xi xw im le nu (rf.set 4 (kg rf 4 + 1)) ln nn vp xn xc vs))) (fun f => rfl) (ms_no4 hD) ?_
  exact mr_ret 1 (fun f => rfl)
theorem oe_letter_0 (he ke ki fi fa or : List Nat) (mi a g l w s : Nat) (m : kG) (kk : kG) (im : Nat) (le : List Nat) (ln : Nat) (ys : List Int32) (vt : Int32) (nu : List Nat) (nn : Nat) (rf : List Nat) (vw : Int32) (vq : Int32) (yc : List Int32) (yh : List Int32) (yg : List Int32) (xm : List Int32) (xi : List Int32) (xw : List Int32) (vp : Int32) (xn : List Int32) (xc : List Int32) (vs : Int32) (hA : iA (he, ke, ki, fi, fa, or, mi, a, g, l, w, s)) (hB : iB le ln) (hC : iC nu nn) (hD : iD rf) (hJ : iJ m ys yc yh yg) (hR : iR xm xw xn xc) (hK : iK im kk xi) (x : Int32) (hxu : x.toInt ≤ -1) : oI 11 129 [some (.ref 100), some (.int x)] [some (.ref 138), some (.int x)] (mk_M (cT im le ln ys vt nu nn rf vw vq yc yh yg) (kr (he, ke, ki, fi, fa, or, mi, a, g, l, w, s)) m kk (rT (he, ke, ki, fi, fa, or, mi, a, g, l, w, s) xm xi xw im le nu rf ln nn vp xn xc vs)) := by
  exact ⟨(-4), _, _, oc_letter_0 he ke ki fi fa or mi a g l w s im le ln ys vt nu nn rf vw vq yc yh yg m kk _ hA hB hC hD hJ hK.1 x hxu, om_letter_0 he ke ki fi fa or mi a g l w s xm xi xw im le nu rf ln nn vp xn xc vs _ _ _ _ hA hB hC hD hR hK.2.1 x hxu, (he, ke, ki, fi, fa, or, mi, a, g, l, w, s), m, kk, im, le, ln, ys, vt, nu, nn, (rf.set 4 (kg rf 4 + 1)), vw, vq, yc, yh, yg, xm, xi, xw, vp, xn, xc, vs, rfl, hA, hB, hC, iD_s hD, hJ, hR, hK⟩
set_option maxRecDepth 100000 in
theorem oc_letter_1 (he ke ki fi fa or : List Nat) (mi a g l w s : Nat) (im : Nat) (le : List Nat) (ln : Nat) (ys : List Int32) (vt : Int32) (nu : List Nat) (nn : Nat) (rf : List Nat) (vw vq : Int32) (yc yh yg : List Int32) (m kk : kG) (q : cR) (hA : iA (he, ke, ki, fi, fa, or, mi, a, g, l, w, s)) (hB : iB le ln) (hC : iC nu nn) (hD : iD rf) (hJ : iJ m ys yc yh yg) (k0 : kSh kk) (x : Int32) (hxl : 256 ≤ x.toInt) : mm_R 11 0 [some (.ref 100), some (.int x)] [] (mk_M (cT im le ln ys vt nu nn rf vw vq yc yh yg) (kr (he, ke, ki, fi, fa, or, mi, a, g, l, w, s)) m kk q) (some (.int (-6)), (mk_M (cT im le ln ys vt nu nn (rf.set 6 (kg rf 6 + 1)) vw vq yc yh yg) (kr (he, ke, ki, fi, fa, or, mi, a, g, l, w, s)) m kk q)) := by
  have hst2 : s ≤ 999 := hA.2
  have v7 : mi ≤ 5 := hA.1.2.2.2.2.2.2.1
  have b3 : ln ≤ 96 := hB.2.2
  have c3 : nn ≤ 16 := hC.2.2
  refine mr_seg 1 (pc1 := 1) (ls1 := [some (.ref 100), some (.int x)]) (st1 := [.int x]) (M1 := (mk_M (cT im le ln ys vt nu nn rf vw vq yc yh yg) (kr (he, ke, ki, fi, fa, or, mi, a, g, l, w, s)) m kk q)) (fun f => rfl) ?_
  refine mr_t (C := 0 ≤ x) (mz_ge_t 0 (by decide) (by omega)) (fun f => rfl) ?_
  refine mr_seg 2 (pc1 := 15) (ls1 := [some (.ref 100), some (.int x)]) (st1 := [.int 255, .int x]) (M1 := (mk_M (cT im le ln ys vt nu nn rf vw vq yc yh yg) (kr (he, ke, ki, fi, fa, or, mi, a, g, l, w, s)) m kk q)) (fun f => rfl) ?_
  refine mr_t (C := 255 < x) (mz_gt_t 255 (by decide) (by omega)) (fun f => rfl) ?_
  refine mr_seg 2 (pc1 := 33) (ls1 := [some (.ref 100), some (.int x)]) (st1 := [.int (-6), .ref 100]) (M1 := (mk_M (cT im le ln ys vt nu nn rf vw vq yc yh yg) (kr (he, ke, ki, fi, fa, or, mi, a, g, l, w, s)) m kk q)) (fun f => rfl) ?_
  refine mr_call (y := 12) (y0 := 36) (L := [some (.ref 100), some (.int (-6))]) (rest := []) (rr := some (.int (-6))) (M1 := (mk_M (cT im le ln ys vt nu nn (rf.set 6 (kg rf 6 + 1)) vw vq yc yh yg) (kr (he, ke, ki, fi, fa, or, mi, a, g, l, w, s)) m kk q)) (fun f => rfl) (ms_re6 hD) ?_
  exact mr_ret 1 (fun f => rfl)
set_option maxRecDepth 100000 in
theorem om_letter_1 (he ke ki fi fa or : List Nat) (mi a g l w s : Nat) (xm xi xw : List Int32) (im : Nat) (le nu rf : List Nat) (ln nn : Nat) (vp : Int32) (xn xc : List Int32) (vs : Int32) (c : cC) (n m kk : kG) (hA : iA (he, ke, ki, fi, fa, or, mi, a, g, l, w, s)) (hB : iB le ln) (hC : iC nu nn) (hD : iD rf) (hR : iR xm xw xn xc) (k1 : xi.length = 52) (x : Int32) (hxl : 256 ≤ x.toInt) : mm_R 129 0 [some (.ref 138), some (.int x)] [] (mk_M c n m kk (rT (he, ke, ki, fi, fa, or, mi, a, g, l, w, s) xm xi xw im le nu rf ln nn vp xn xc vs)) (some (.int (-6)), (mk_M c n m kk (rT (he, ke, ki, fi, fa, or, mi, a, g, l, w, s) xm xi xw im le nu (rf.set 6 (kg rf 6 + 1)) ln nn vp xn xc vs))) := by
  have hst2 : s ≤ 999 := hA.2
  have v7 : mi ≤ 5 := hA.1.2.2.2.2.2.2.1
  have b3 : ln ≤ 96 := hB.2.2
  have c3 : nn ≤ 16 := hC.2.2
  refine mr_seg 1 (pc1 := 1) (ls1 := [some (.ref 138), some (.int x)]) (st1 := [.int x]) (M1 := (mk_M c n m kk (rT (he, ke, ki, fi, fa, or, mi, a, g, l, w, s) xm xi xw im le nu rf ln nn vp xn xc vs))) (fun f => rfl) ?_
  refine mr_t (C := 0 ≤ x) (mz_ge_t 0 (by decide) (by omega)) (fun f => rfl) ?_
  refine mr_seg 2 (pc1 := 15) (ls1 := [some (.ref 138), some (.int x)]) (st1 := [.int 255, .int x]) (M1 := (mk_M c n m kk (rT (he, ke, ki, fi, fa, or, mi, a, g, l, w, s) xm xi xw im le nu rf ln nn vp xn xc vs))) (fun f => rfl) ?_
  refine mr_t (C := 255 < x) (mz_gt_t 255 (by decide) (by omega)) (fun f => rfl) ?_
  refine mr_seg 2 (pc1 := 30) (ls1 := [some (.ref 138), some (.int x)]) (st1 := [.int (-6), .ref 138]) (M1 := (mk_M c n m kk (rT (he, ke, ki, fi, fa, or, mi, a, g, l, w, s) xm xi xw im le nu rf ln nn vp xn xc vs))) (fun f => rfl) ?_
  refine mr_call (y := 130) (y0 := 33) (L := [some (.ref 138), some (.int (-6))]) (rest := []) (rr := some (.int (-6))) (M1 := (mk_M c n m kk (rT (he, ke, ki, fi, fa, or, mi, a, g, l, w, s) xm xi xw im le nu (rf.set 6 (kg rf 6 + 1)) ln nn vp xn xc vs))) (fun f => rfl) (ms_no6 hD) ?_
  exact mr_ret 1 (fun f => rfl)
theorem oe_letter_1 (he ke ki fi fa or : List Nat) (mi a g l w s : Nat) (m : kG) (kk : kG) (im : Nat) (le : List Nat) (ln : Nat) (ys : List Int32) (vt : Int32) (nu : List Nat) (nn : Nat) (rf : List Nat) (vw : Int32) (vq : Int32) (yc : List Int32) (yh : List Int32) (yg : List Int32) (xm : List Int32) (xi : List Int32) (xw : List Int32) (vp : Int32) (xn : List Int32) (xc : List Int32) (vs : Int32) (hA : iA (he, ke, ki, fi, fa, or, mi, a, g, l, w, s)) (hB : iB le ln) (hC : iC nu nn) (hD : iD rf) (hJ : iJ m ys yc yh yg) (hR : iR xm xw xn xc) (hK : iK im kk xi) (x : Int32) (hxl : 256 ≤ x.toInt) : oI 11 129 [some (.ref 100), some (.int x)] [some (.ref 138), some (.int x)] (mk_M (cT im le ln ys vt nu nn rf vw vq yc yh yg) (kr (he, ke, ki, fi, fa, or, mi, a, g, l, w, s)) m kk (rT (he, ke, ki, fi, fa, or, mi, a, g, l, w, s) xm xi xw im le nu rf ln nn vp xn xc vs)) := by
  exact ⟨(-6), _, _, oc_letter_1 he ke ki fi fa or mi a g l w s im le ln ys vt nu nn rf vw vq yc yh yg m kk _ hA hB hC hD hJ hK.1 x hxl, om_letter_1 he ke ki fi fa or mi a g l w s xm xi xw im le nu rf ln nn vp xn xc vs _ _ _ _ hA hB hC hD hR hK.2.1 x hxl, (he, ke, ki, fi, fa, or, mi, a, g, l, w, s), m, kk, im, le, ln, ys, vt, nu, nn, (rf.set 6 (kg rf 6 + 1)), vw, vq, yc, yh, yg, xm, xi, xw, vp, xn, xc, vs, rfl, hA, hB, hC, iD_s hD, hJ, hR, hK⟩
set_option maxRecDepth 100000 in
theorem oc_letter_2 (he ke ki fi fa or : List Nat) (mi a g l w s : Nat) (im : Nat) (le : List Nat) (ln : Nat) (ys : List Int32) (vt : Int32) (nu : List Nat) (nn : Nat) (rf : List Nat) (vw vq : Int32) (yc yh yg : List Int32) (m kk : kG) (q : cR) (hA : iA (he, ke, ki, fi, fa, or, mi, a, g, l, w, s)) (hB : iB le ln) (hC : iC nu nn) (hD : iD rf) (hJ : iJ m ys yc yh yg) (k0 : kSh kk) (x : Nat) (hx : x < 256) (hq : ln = 96) : mm_R 11 0 [some (.ref 100), some (.int (nI x))] [] (mk_M (cT im le ln ys vt nu nn rf vw vq yc yh yg) (kr (he, ke, ki, fi, fa, or, mi, a, g, l, w, s)) m kk q) (some (.int (-6)), (mk_M (cT im le ln ys vt nu nn (rf.set 6 (kg rf 6 + 1)) vw vq yc yh yg) (kr (he, ke, ki, fi, fa, or, mi, a, g, l, w, s)) m kk q)) := by
  have hst2 : s ≤ 999 := hA.2
  have v7 : mi ≤ 5 := hA.1.2.2.2.2.2.2.1
  have b3 : ln ≤ 96 := hB.2.2
  have c3 : nn ≤ 16 := hC.2.2
  refine mr_seg 1 (pc1 := 1) (ls1 := [some (.ref 100), some (.int (nI x))]) (st1 := [.int (nI x)]) (M1 := (mk_M (cT im le ln ys vt nu nn rf vw vq yc yh yg) (kr (he, ke, ki, fi, fa, or, mi, a, g, l, w, s)) m kk q)) (fun f => rfl) ?_
  refine mr_t (C := 0 ≤ (nI x)) (nI_let (a := 0) (b := x) (by omega)) (fun f => rfl) ?_
  refine mr_seg 2 (pc1 := 15) (ls1 := [some (.ref 100), some (.int (nI x))]) (st1 := [.int 255, .int (nI x)]) (M1 := (mk_M (cT im le ln ys vt nu nn rf vw vq yc yh yg) (kr (he, ke, ki, fi, fa, or, mi, a, g, l, w, s)) m kk q)) (fun f => rfl) ?_
  refine mr_f (C := 255 < (nI x)) (nI_ltf (a := 255) (b := x) (by omega)) (fun f => rfl) ?_
  refine mr_seg 4 (pc1 := 27) (ls1 := [some (.ref 100), some (.int (nI x))]) (st1 := [.int 96, .int (nI ln)]) (M1 := (mk_M (cT im le ln ys vt nu nn rf vw vq yc yh yg) (kr (he, ke, ki, fi, fa, or, mi, a, g, l, w, s)) m kk q)) (fun f => rfl) ?_
  refine mr_f (C := (nI ln) < 96) (nI_ltf (a := ln) (b := 96) (by omega)) (fun f => rfl) ?_
  refine mr_seg 2 (pc1 := 33) (ls1 := [some (.ref 100), some (.int (nI x))]) (st1 := [.int (-6), .ref 100]) (M1 := (mk_M (cT im le ln ys vt nu nn rf vw vq yc yh yg) (kr (he, ke, ki, fi, fa, or, mi, a, g, l, w, s)) m kk q)) (fun f => rfl) ?_
  refine mr_call (y := 12) (y0 := 36) (L := [some (.ref 100), some (.int (-6))]) (rest := []) (rr := some (.int (-6))) (M1 := (mk_M (cT im le ln ys vt nu nn (rf.set 6 (kg rf 6 + 1)) vw vq yc yh yg) (kr (he, ke, ki, fi, fa, or, mi, a, g, l, w, s)) m kk q)) (fun f => rfl) (ms_re6 hD) ?_
  exact mr_ret 1 (fun f => rfl)
set_option maxRecDepth 100000 in
theorem om_letter_2 (he ke ki fi fa or : List Nat) (mi a g l w s : Nat) (xm xi xw : List Int32) (im : Nat) (le nu rf : List Nat) (ln nn : Nat) (vp : Int32) (xn xc : List Int32) (vs : Int32) (c : cC) (n m kk : kG) (hA : iA (he, ke, ki, fi, fa, or, mi, a, g, l, w, s)) (hB : iB le ln) (hC : iC nu nn) (hD : iD rf) (hR : iR xm xw xn xc) (k1 : xi.length = 52) (x : Nat) (hx : x < 256) (hq : ln = 96) : mm_R 129 0 [some (.ref 138), some (.int (nI x))] [] (mk_M c n m kk (rT (he, ke, ki, fi, fa, or, mi, a, g, l, w, s) xm xi xw im le nu rf ln nn vp xn xc vs)) (some (.int (-6)), (mk_M c n m kk (rT (he, ke, ki, fi, fa, or, mi, a, g, l, w, s) xm xi xw im le nu (rf.set 6 (kg rf 6 + 1)) ln nn vp xn xc vs))) := by
  have hst2 : s ≤ 999 := hA.2
  have v7 : mi ≤ 5 := hA.1.2.2.2.2.2.2.1
  have b3 : ln ≤ 96 := hB.2.2
  have c3 : nn ≤ 16 := hC.2.2
  refine mr_seg 1 (pc1 := 1) (ls1 := [some (.ref 138), some (.int (nI x))]) (st1 := [.int (nI x)]) (M1 := (mk_M c n m kk (rT (he, ke, ki, fi, fa, or, mi, a, g, l, w, s) xm xi xw im le nu rf ln nn vp xn xc vs))) (fun f => rfl) ?_
  refine mr_t (C := 0 ≤ (nI x)) (nI_let (a := 0) (b := x) (by omega)) (fun f => rfl) ?_
  refine mr_seg 2 (pc1 := 15) (ls1 := [some (.ref 138), some (.int (nI x))]) (st1 := [.int 255, .int (nI x)]) (M1 := (mk_M c n m kk (rT (he, ke, ki, fi, fa, or, mi, a, g, l, w, s) xm xi xw im le nu rf ln nn vp xn xc vs))) (fun f => rfl) ?_
  refine mr_f (C := 255 < (nI x)) (nI_ltf (a := 255) (b := x) (by omega)) (fun f => rfl) ?_
  refine mr_seg 3 (pc1 := 24) (ls1 := [some (.ref 138), some (.int (nI x))]) (st1 := [.int 96, .int (nI ln)]) (M1 := (mk_M c n m kk (rT (he, ke, ki, fi, fa, or, mi, a, g, l, w, s) xm xi xw im le nu rf ln nn vp xn xc vs))) (fun f => rfl) ?_
  refine mr_t (C := (nI ln) = 96) (nI_eqt (a := ln) (b := 96) (by omega)) (fun f => rfl) ?_
  refine mr_seg 2 (pc1 := 30) (ls1 := [some (.ref 138), some (.int (nI x))]) (st1 := [.int (-6), .ref 138]) (M1 := (mk_M c n m kk (rT (he, ke, ki, fi, fa, or, mi, a, g, l, w, s) xm xi xw im le nu rf ln nn vp xn xc vs))) (fun f => rfl) ?_
  refine mr_call (y := 130) (y0 := 33) (L := [some (.ref 138), some (.int (-6))]) (rest := []) (rr := some (.int (-6))) (M1 := (mk_M c n m kk (rT (he, ke, ki, fi, fa, or, mi, a, g, l, w, s) xm xi xw im le nu (rf.set 6 (kg rf 6 + 1)) ln nn vp xn xc vs))) (fun f => rfl) (ms_no6 hD) ?_
  exact mr_ret 1 (fun f => rfl)
theorem oe_letter_2 (he ke ki fi fa or : List Nat) (mi a g l w s : Nat) (m : kG) (kk : kG) (im : Nat) (le : List Nat) (ln : Nat) (ys : List Int32) (vt : Int32) (nu : List Nat) (nn : Nat) (rf : List Nat) (vw : Int32) (vq : Int32) (yc : List Int32) (yh : List Int32) (yg : List Int32) (xm : List Int32) (xi : List Int32) (xw : List Int32) (vp : Int32) (xn : List Int32) (xc : List Int32) (vs : Int32) (hA : iA (he, ke, ki, fi, fa, or, mi, a, g, l, w, s)) (hB : iB le ln) (hC : iC nu nn) (hD : iD rf) (hJ : iJ m ys yc yh yg) (hR : iR xm xw xn xc) (hK : iK im kk xi) (x : Nat) (hx : x < 256) (hq : ln = 96) : oI 11 129 [some (.ref 100), some (.int (nI x))] [some (.ref 138), some (.int (nI x))] (mk_M (cT im le ln ys vt nu nn rf vw vq yc yh yg) (kr (he, ke, ki, fi, fa, or, mi, a, g, l, w, s)) m kk (rT (he, ke, ki, fi, fa, or, mi, a, g, l, w, s) xm xi xw im le nu rf ln nn vp xn xc vs)) := by
  exact ⟨(-6), _, _, oc_letter_2 he ke ki fi fa or mi a g l w s im le ln ys vt nu nn rf vw vq yc yh yg m kk _ hA hB hC hD hJ hK.1 x hx hq, om_letter_2 he ke ki fi fa or mi a g l w s xm xi xw im le nu rf ln nn vp xn xc vs _ _ _ _ hA hB hC hD hR hK.2.1 x hx hq, (he, ke, ki, fi, fa, or, mi, a, g, l, w, s), m, kk, im, le, ln, ys, vt, nu, nn, (rf.set 6 (kg rf 6 + 1)), vw, vq, yc, yh, yg, xm, xi, xw, vp, xn, xc, vs, rfl, hA, hB, hC, iD_s hD, hJ, hR, hK⟩
set_option maxRecDepth 100000 in
theorem oc_letter_3 (he ke ki fi fa or : List Nat) (mi a g l w s : Nat) (im : Nat) (le : List Nat) (ln : Nat) (ys : List Int32) (vt : Int32) (nu : List Nat) (nn : Nat) (rf : List Nat) (vw vq : Int32) (yc yh yg : List Int32) (m kk : kG) (q : cR) (hA : iA (he, ke, ki, fi, fa, or, mi, a, g, l, w, s)) (hB : iB le ln) (hC : iC nu nn) (hD : iD rf) (hJ : iJ m ys yc yh yg) (k0 : kSh kk) (x : Nat) (hx : x < 256) (hq : ln < 96) : mm_R 11 0 [some (.ref 100), some (.int (nI x))] [] (mk_M (cT im le ln ys vt nu nn rf vw vq yc yh yg) (kr (he, ke, ki, fi, fa, or, mi, a, g, l, w, s)) m kk q) (some (.int (nI (ln + 1))), (mk_M (cT im (le.set ln x) (ln + 1) ys vt nu nn rf vw vq yc yh yg) (kr (he, ke, ki, fi, fa, or, mi, a, g, l, w, s)) m kk q)) := by
  obtain ⟨hV, hst⟩ := id hA
  have hst2 : s ≤ 999 := hst
  obtain ⟨v1, v2, v3, v4, v5, v6, v7, v8, v9, v10, v11, v12, v13, v14, v15, v16⟩ := id hV
  have v6l := kO_len mi v7 or v6
  obtain ⟨b1, b2, b3⟩ := id hB
  obtain ⟨c1, c2, c3⟩ := id hC
  have d1 : rf.length = 7 := hD
  obtain ⟨j0, j1, j2, j3, j4⟩ := id hJ
  refine mr_seg 1 (pc1 := 1) (ls1 := [some (.ref 100), some (.int (nI x))]) (st1 := [.int (nI x)]) (M1 := (mk_M (cT im le ln ys vt nu nn rf vw vq yc yh yg) (kr (he, ke, ki, fi, fa, or, mi, a, g, l, w, s)) m kk q)) (fun f => rfl) ?_
  refine mr_t (C := 0 ≤ (nI x)) (nI_let (a := 0) (b := x) (by omega)) (fun f => rfl) ?_
  refine mr_seg 2 (pc1 := 15) (ls1 := [some (.ref 100), some (.int (nI x))]) (st1 := [.int 255, .int (nI x)]) (M1 := (mk_M (cT im le ln ys vt nu nn rf vw vq yc yh yg) (kr (he, ke, ki, fi, fa, or, mi, a, g, l, w, s)) m kk q)) (fun f => rfl) ?_
  refine mr_f (C := 255 < (nI x)) (nI_ltf (a := 255) (b := x) (by omega)) (fun f => rfl) ?_
  refine mr_seg 4 (pc1 := 27) (ls1 := [some (.ref 100), some (.int (nI x))]) (st1 := [.int 96, .int (nI ln)]) (M1 := (mk_M (cT im le ln ys vt nu nn rf vw vq yc yh yg) (kr (he, ke, ki, fi, fa, or, mi, a, g, l, w, s)) m kk q)) (fun f => rfl) ?_
  refine mr_t (C := (nI ln) < 96) (nI_ltt (a := ln) (b := 96) (by omega)) (fun f => rfl) ?_
  refine mr_seg 3 (pc1 := 42) (ls1 := [some (.ref 100), some (.int (nI x))]) (st1 := [.int (nI x), .ref 101]) (M1 := (mk_M (cT im le ln ys vt nu nn rf vw vq yc yh yg) (kr (he, ke, ki, fi, fa, or, mi, a, g, l, w, s)) m kk q)) (fun f => rfl) ?_
  refine mr_call (y := 13) (y0 := 45) (L := [some (.ref 101), some (.int (nI x))]) (rest := []) (rr := none) (M1 := (mk_M (cT im (le.set ln x) (ln + 1) ys vt nu nn rf vw vq yc yh yg) (kr (he, ke, ki, fi, fa, or, mi, a, g, l, w, s)) m kk q)) (fun f => rfl) (by
      refine mr_seg 3 (pc1 := 6) (ls1 := [some (.ref 101), some (.int (nI x))]) (st1 := [.int 96, .int (nI ln)]) (M1 := (mk_M (cT im le ln ys vt nu nn rf vw vq yc yh yg) (kr (he, ke, ki, fi, fa, or, mi, a, g, l, w, s)) m kk q)) (fun f => rfl) ?_
      refine mr_f (C := 96 ≤ (nI ln)) (nI_lef (a := 96) (b := ln) (by omega)) (fun f => rfl) ?_
      refine mr_seg 5 (pc1 := 18) (ls1 := [some (.ref 101), some (.int (nI x))]) (st1 := [.int (nI x), .int (nI ln), .ref 102]) (M1 := (mk_M (cT im le ln ys vt nu nn rf vw vq yc yh yg) (kr (he, ke, ki, fi, fa, or, mi, a, g, l, w, s)) m kk q)) (fun f => rfl) ?_
      refine mr_stk (l0 := le) (M2 := (mk_M (cT im (le.set ln x) ln ys vt nu nn rf vw vq yc yh yg) (kr (he, ke, ki, fi, fa, or, mi, a, g, l, w, s)) m kk q)) rfl rfl (k := ln) (v := x) (by omega) rfl ?_
      refine mr_seg 5 (pc1 := 26) (ls1 := [some (.ref 101), some (.int (nI x))]) (st1 := [.int ((nI ln) + 1), .ref 101]) (M1 := (mk_M (cT im (le.set ln x) ln ys vt nu nn rf vw vq yc yh yg) (kr (he, ke, ki, fi, fa, or, mi, a, g, l, w, s)) m kk q)) (fun f => rfl) ?_
      refine mr_v (nI_add ln 1) ?_
      exact mr_ret 2 (fun f => rfl)) ?_
  exact mr_ret 4 (fun f => rfl)
set_option maxRecDepth 100000 in
theorem om_letter_3 (he ke ki fi fa or : List Nat) (mi a g l w s : Nat) (xm xi xw : List Int32) (im : Nat) (le nu rf : List Nat) (ln nn : Nat) (vp : Int32) (xn xc : List Int32) (vs : Int32) (c : cC) (n m kk : kG) (hA : iA (he, ke, ki, fi, fa, or, mi, a, g, l, w, s)) (hB : iB le ln) (hC : iC nu nn) (hD : iD rf) (hR : iR xm xw xn xc) (k1 : xi.length = 52) (x : Nat) (hx : x < 256) (hq : ln < 96) : mm_R 129 0 [some (.ref 138), some (.int (nI x))] [] (mk_M c n m kk (rT (he, ke, ki, fi, fa, or, mi, a, g, l, w, s) xm xi xw im le nu rf ln nn vp xn xc vs)) (some (.int (nI (ln + 1))), (mk_M c n m kk (rT (he, ke, ki, fi, fa, or, mi, a, g, l, w, s) xm xi xw im (le.set ln x) nu rf (ln + 1) nn vp xn xc vs))) := by
  obtain ⟨hV, hst⟩ := id hA
  have hst2 : s ≤ 999 := hst
  obtain ⟨v1, v2, v3, v4, v5, v6, v7, v8, v9, v10, v11, v12, v13, v14, v15, v16⟩ := id hV
  have v6l := kO_len mi v7 or v6
  obtain ⟨b1, b2, b3⟩ := id hB
  obtain ⟨c1, c2, c3⟩ := id hC
  have d1 : rf.length = 7 := hD
  obtain ⟨r1, r2, r3, r4⟩ := id hR
  refine mr_seg 1 (pc1 := 1) (ls1 := [some (.ref 138), some (.int (nI x))]) (st1 := [.int (nI x)]) (M1 := (mk_M c n m kk (rT (he, ke, ki, fi, fa, or, mi, a, g, l, w, s) xm xi xw im le nu rf ln nn vp xn xc vs))) (fun f => rfl) ?_
  refine mr_t (C := 0 ≤ (nI x)) (nI_let (a := 0) (b := x) (by omega)) (fun f => rfl) ?_
  refine mr_seg 2 (pc1 := 15) (ls1 := [some (.ref 138), some (.int (nI x))]) (st1 := [.int 255, .int (nI x)]) (M1 := (mk_M c n m kk (rT (he, ke, ki, fi, fa, or, mi, a, g, l, w, s) xm xi xw im le nu rf ln nn vp xn xc vs))) (fun f => rfl) ?_
  refine mr_f (C := 255 < (nI x)) (nI_ltf (a := 255) (b := x) (by omega)) (fun f => rfl) ?_
  refine mr_seg 3 (pc1 := 24) (ls1 := [some (.ref 138), some (.int (nI x))]) (st1 := [.int 96, .int (nI ln)]) (M1 := (mk_M c n m kk (rT (he, ke, ki, fi, fa, or, mi, a, g, l, w, s) xm xi xw im le nu rf ln nn vp xn xc vs))) (fun f => rfl) ?_
  refine mr_f (C := (nI ln) = 96) (nI_eqf (a := ln) (b := 96) (by omega)) (fun f => rfl) ?_
  refine mr_seg 5 (pc1 := 43) (ls1 := [some (.ref 138), some (.int (nI x))]) (st1 := [.int (nI x), .int (nI ln), .ref 143]) (M1 := (mk_M c n m kk (rT (he, ke, ki, fi, fa, or, mi, a, g, l, w, s) xm xi xw im le nu rf ln nn vp xn xc vs))) (fun f => rfl) ?_
  refine mr_stk (l0 := le) (M2 := (mk_M c n m kk (rT (he, ke, ki, fi, fa, or, mi, a, g, l, w, s) xm xi xw im (le.set ln x) nu rf ln nn vp xn xc vs))) rfl rfl (k := ln) (v := x) (by omega) rfl ?_
  refine mr_seg 5 (pc1 := 51) (ls1 := [some (.ref 138), some (.int (nI x))]) (st1 := [.int ((nI ln) + 1), .ref 138]) (M1 := (mk_M c n m kk (rT (he, ke, ki, fi, fa, or, mi, a, g, l, w, s) xm xi xw im (le.set ln x) nu rf ln nn vp xn xc vs))) (fun f => rfl) ?_
  refine mr_v (nI_add ln 1) ?_
  exact mr_ret 4 (fun f => rfl)
theorem oe_letter_3 (he ke ki fi fa or : List Nat) (mi a g l w s : Nat) (m : kG) (kk : kG) (im : Nat) (le : List Nat) (ln : Nat) (ys : List Int32) (vt : Int32) (nu : List Nat) (nn : Nat) (rf : List Nat) (vw : Int32) (vq : Int32) (yc : List Int32) (yh : List Int32) (yg : List Int32) (xm : List Int32) (xi : List Int32) (xw : List Int32) (vp : Int32) (xn : List Int32) (xc : List Int32) (vs : Int32) (hA : iA (he, ke, ki, fi, fa, or, mi, a, g, l, w, s)) (hB : iB le ln) (hC : iC nu nn) (hD : iD rf) (hJ : iJ m ys yc yh yg) (hR : iR xm xw xn xc) (hK : iK im kk xi) (x : Nat) (hx : x < 256) (hq : ln < 96) : oI 11 129 [some (.ref 100), some (.int (nI x))] [some (.ref 138), some (.int (nI x))] (mk_M (cT im le ln ys vt nu nn rf vw vq yc yh yg) (kr (he, ke, ki, fi, fa, or, mi, a, g, l, w, s)) m kk (rT (he, ke, ki, fi, fa, or, mi, a, g, l, w, s) xm xi xw im le nu rf ln nn vp xn xc vs)) := by
  obtain ⟨hV, hst⟩ := id hA
  have hst2 : s ≤ 999 := hst
  obtain ⟨v1, v2, v3, v4, v5, v6, v7, v8, v9, v10, v11, v12, v13, v14, v15, v16⟩ := id hV
  have v6l := kO_len mi v7 or v6
  obtain ⟨b1, b2, b3⟩ := id hB
  obtain ⟨c1, c2, c3⟩ := id hC
  have d1 : rf.length = 7 := hD
  obtain ⟨j0, j1, j2, j3, j4⟩ := id hJ
  obtain ⟨r1, r2, r3, r4⟩ := id hR
  obtain ⟨k0, k1, k2, k3⟩ := id hK
  exact ⟨(nI (ln + 1)), _, _, oc_letter_3 he ke ki fi fa or mi a g l w s im le ln ys vt nu nn rf vw vq yc yh yg m kk _ hA hB hC hD hJ hK.1 x hx hq, om_letter_3 he ke ki fi fa or mi a g l w s xm xi xw im le nu rf ln nn vp xn xc vs _ _ _ _ hA hB hC hD hR hK.2.1 x hx hq, (he, ke, ki, fi, fa, or, mi, a, g, l, w, s), m, kk, im, (le.set ln x), (ln + 1), ys, vt, nu, nn, rf, vw, vq, yc, yh, yg, xm, xi, xw, vp, xn, xc, vs, rfl, hA, ⟨by rw [List.length_set]; exact b1, fun i => by rw [kg_setc]; split; omega; exact b2 i, by omega⟩, hC, hD, hJ, hR, hK⟩
set_option maxRecDepth 100000 in
theorem oc_stands_0 (he ke ki fi fa or : List Nat) (mi a g l w s : Nat) (im : Nat) (le : List Nat) (ln : Nat) (ys : List Int32) (vt : Int32) (nu : List Nat) (nn : Nat) (rf : List Nat) (vw vq : Int32) (yc yh yg : List Int32) (m kk : kG) (q : cR) (hA : iA (he, ke, ki, fi, fa, or, mi, a, g, l, w, s)) (hB : iB le ln) (hC : iC nu nn) (hD : iD rf) (hJ : iJ m ys yc yh yg) (k0 : kSh kk) (x : Int32) (hxu : x.toInt ≤ -1) : mm_R 67 0 [some (.ref 100), some (.int x), none] [] (mk_M (cT im le ln ys vt nu nn rf vw vq yc yh yg) (kr (he, ke, ki, fi, fa, or, mi, a, g, l, w, s)) m kk q) (some (.int (-1)), (mk_M (cT im le ln ys vt nu nn (rf.set 1 (kg rf 1 + 1)) vw vq yc yh yg) (kr (he, ke, ki, fi, fa, or, mi, a, g, l, w, s)) m kk q)) := by
  have hst2 : s ≤ 999 := hA.2
  have v7 : mi ≤ 5 := hA.1.2.2.2.2.2.2.1
  have b3 : ln ≤ 96 := hB.2.2
  have c3 : nn ≤ 16 := hC.2.2
  refine mr_seg 1 (pc1 := 1) (ls1 := [some (.ref 100), some (.int x), none]) (st1 := [.int x]) (M1 := (mk_M (cT im le ln ys vt nu nn rf vw vq yc yh yg) (kr (he, ke, ki, fi, fa, or, mi, a, g, l, w, s)) m kk q)) (fun f => rfl) ?_
  refine mr_call (y := 37) (y0 := 4) (L := [some (.int x)]) (rest := []) (rr := some (.int 0)) (M1 := (mk_M (cT im le ln ys vt nu nn rf vw vq yc yh yg) (kr (he, ke, ki, fi, fa, or, mi, a, g, l, w, s)) m kk q)) (fun f => rfl) (ms_c1_lo (x := x) (mz_lt_t 0 (by decide) (by omega))) ?_
  refine mr_seg 3 (pc1 := 9) (ls1 := [some (.ref 100), some (.int x), none]) (st1 := [.int (-1), .ref 100]) (M1 := (mk_M (cT im le ln ys vt nu nn rf vw vq yc yh yg) (kr (he, ke, ki, fi, fa, or, mi, a, g, l, w, s)) m kk q)) (fun f => rfl) ?_
  refine mr_call (y := 12) (y0 := 12) (L := [some (.ref 100), some (.int (-1))]) (rest := []) (rr := some (.int (-1))) (M1 := (mk_M (cT im le ln ys vt nu nn (rf.set 1 (kg rf 1 + 1)) vw vq yc yh yg) (kr (he, ke, ki, fi, fa, or, mi, a, g, l, w, s)) m kk q)) (fun f => rfl) (ms_re1 hD) ?_
  exact mr_ret 1 (fun f => rfl)
set_option maxRecDepth 100000 in
theorem om_stands_0 (he ke ki fi fa or : List Nat) (mi a g l w s : Nat) (xm xi xw : List Int32) (im : Nat) (le nu rf : List Nat) (ln nn : Nat) (vp : Int32) (xn xc : List Int32) (vs : Int32) (c : cC) (n m kk : kG) (hA : iA (he, ke, ki, fi, fa, or, mi, a, g, l, w, s)) (hB : iB le ln) (hC : iC nu nn) (hD : iD rf) (hR : iR xm xw xn xc) (k1 : xi.length = 52) (x : Int32) (hxu : x.toInt ≤ -1) : mm_R 162 0 [some (.ref 138), some (.int x)] [] (mk_M c n m kk (rT (he, ke, ki, fi, fa, or, mi, a, g, l, w, s) xm xi xw im le nu rf ln nn vp xn xc vs)) (some (.int (-1)), (mk_M c n m kk (rT (he, ke, ki, fi, fa, or, mi, a, g, l, w, s) xm xi xw im le nu (rf.set 1 (kg rf 1 + 1)) ln nn vp xn xc vs))) := by
  have hst2 : s ≤ 999 := hA.2
  have v7 : mi ≤ 5 := hA.1.2.2.2.2.2.2.1
  have b3 : ln ≤ 96 := hB.2.2
  have c3 : nn ≤ 16 := hC.2.2
  refine mr_seg 1 (pc1 := 1) (ls1 := [some (.ref 138), some (.int x)]) (st1 := [.int x]) (M1 := (mk_M c n m kk (rT (he, ke, ki, fi, fa, or, mi, a, g, l, w, s) xm xi xw im le nu rf ln nn vp xn xc vs))) (fun f => rfl) ?_
  refine mr_call (y := 140) (y0 := 4) (L := [some (.int x)]) (rest := []) (rr := some (.int 0)) (M1 := (mk_M c n m kk (rT (he, ke, ki, fi, fa, or, mi, a, g, l, w, s) xm xi xw im le nu rf ln nn vp xn xc vs))) (fun f => rfl) (ms_c2_lo (x := x) (mz_lt_t 0 (by decide) (by omega))) ?_
  refine mr_seg 3 (pc1 := 18) (ls1 := [some (.ref 138), some (.int x)]) (st1 := [.int (-1), .ref 138]) (M1 := (mk_M c n m kk (rT (he, ke, ki, fi, fa, or, mi, a, g, l, w, s) xm xi xw im le nu rf ln nn vp xn xc vs))) (fun f => rfl) ?_
  refine mr_call (y := 130) (y0 := 21) (L := [some (.ref 138), some (.int (-1))]) (rest := []) (rr := some (.int (-1))) (M1 := (mk_M c n m kk (rT (he, ke, ki, fi, fa, or, mi, a, g, l, w, s) xm xi xw im le nu (rf.set 1 (kg rf 1 + 1)) ln nn vp xn xc vs))) (fun f => rfl) (ms_no1 hD) ?_
  exact mr_ret 1 (fun f => rfl)
theorem oe_stands_0 (he ke ki fi fa or : List Nat) (mi a g l w s : Nat) (m : kG) (kk : kG) (im : Nat) (le : List Nat) (ln : Nat) (ys : List Int32) (vt : Int32) (nu : List Nat) (nn : Nat) (rf : List Nat) (vw : Int32) (vq : Int32) (yc : List Int32) (yh : List Int32) (yg : List Int32) (xm : List Int32) (xi : List Int32) (xw : List Int32) (vp : Int32) (xn : List Int32) (xc : List Int32) (vs : Int32) (hA : iA (he, ke, ki, fi, fa, or, mi, a, g, l, w, s)) (hB : iB le ln) (hC : iC nu nn) (hD : iD rf) (hJ : iJ m ys yc yh yg) (hR : iR xm xw xn xc) (hK : iK im kk xi) (x : Int32) (hxu : x.toInt ≤ -1) : oI 67 162 [some (.ref 100), some (.int x), none] [some (.ref 138), some (.int x)] (mk_M (cT im le ln ys vt nu nn rf vw vq yc yh yg) (kr (he, ke, ki, fi, fa, or, mi, a, g, l, w, s)) m kk (rT (he, ke, ki, fi, fa, or, mi, a, g, l, w, s) xm xi xw im le nu rf ln nn vp xn xc vs)) := by
  exact ⟨(-1), _, _, oc_stands_0 he ke ki fi fa or mi a g l w s im le ln ys vt nu nn rf vw vq yc yh yg m kk _ hA hB hC hD hJ hK.1 x hxu, om_stands_0 he ke ki fi fa or mi a g l w s xm xi xw im le nu rf ln nn vp xn xc vs _ _ _ _ hA hB hC hD hR hK.2.1 x hxu, (he, ke, ki, fi, fa, or, mi, a, g, l, w, s), m, kk, im, le, ln, ys, vt, nu, nn, (rf.set 1 (kg rf 1 + 1)), vw, vq, yc, yh, yg, xm, xi, xw, vp, xn, xc, vs, rfl, hA, hB, hC, iD_s hD, hJ, hR, hK⟩
set_option maxRecDepth 100000 in
theorem oc_stands_1 (he ke ki fi fa or : List Nat) (mi a g l w s : Nat) (im : Nat) (le : List Nat) (ln : Nat) (ys : List Int32) (vt : Int32) (nu : List Nat) (nn : Nat) (rf : List Nat) (vw vq : Int32) (yc yh yg : List Int32) (m kk : kG) (q : cR) (hA : iA (he, ke, ki, fi, fa, or, mi, a, g, l, w, s)) (hB : iB le ln) (hC : iC nu nn) (hD : iD rf) (hJ : iJ m ys yc yh yg) (k0 : kSh kk) (x : Int32) (hxl : 25 ≤ x.toInt) : mm_R 67 0 [some (.ref 100), some (.int x), none] [] (mk_M (cT im le ln ys vt nu nn rf vw vq yc yh yg) (kr (he, ke, ki, fi, fa, or, mi, a, g, l, w, s)) m kk q) (some (.int (-1)), (mk_M (cT im le ln ys vt nu nn (rf.set 1 (kg rf 1 + 1)) vw vq yc yh yg) (kr (he, ke, ki, fi, fa, or, mi, a, g, l, w, s)) m kk q)) := by
  have hst2 : s ≤ 999 := hA.2
  have v7 : mi ≤ 5 := hA.1.2.2.2.2.2.2.1
  have b3 : ln ≤ 96 := hB.2.2
  have c3 : nn ≤ 16 := hC.2.2
  refine mr_seg 1 (pc1 := 1) (ls1 := [some (.ref 100), some (.int x), none]) (st1 := [.int x]) (M1 := (mk_M (cT im le ln ys vt nu nn rf vw vq yc yh yg) (kr (he, ke, ki, fi, fa, or, mi, a, g, l, w, s)) m kk q)) (fun f => rfl) ?_
  refine mr_call (y := 37) (y0 := 4) (L := [some (.int x)]) (rest := []) (rr := some (.int 0)) (M1 := (mk_M (cT im le ln ys vt nu nn rf vw vq yc yh yg) (kr (he, ke, ki, fi, fa, or, mi, a, g, l, w, s)) m kk q)) (fun f => rfl) (ms_c1_hi (x := x) (mz_lt_f 0 (by decide) (by omega)) (mz_ge_t 25 (by decide) (by omega))) ?_
  refine mr_seg 3 (pc1 := 9) (ls1 := [some (.ref 100), some (.int x), none]) (st1 := [.int (-1), .ref 100]) (M1 := (mk_M (cT im le ln ys vt nu nn rf vw vq yc yh yg) (kr (he, ke, ki, fi, fa, or, mi, a, g, l, w, s)) m kk q)) (fun f => rfl) ?_
  refine mr_call (y := 12) (y0 := 12) (L := [some (.ref 100), some (.int (-1))]) (rest := []) (rr := some (.int (-1))) (M1 := (mk_M (cT im le ln ys vt nu nn (rf.set 1 (kg rf 1 + 1)) vw vq yc yh yg) (kr (he, ke, ki, fi, fa, or, mi, a, g, l, w, s)) m kk q)) (fun f => rfl) (ms_re1 hD) ?_
  exact mr_ret 1 (fun f => rfl)
set_option maxRecDepth 100000 in
theorem om_stands_1 (he ke ki fi fa or : List Nat) (mi a g l w s : Nat) (xm xi xw : List Int32) (im : Nat) (le nu rf : List Nat) (ln nn : Nat) (vp : Int32) (xn xc : List Int32) (vs : Int32) (c : cC) (n m kk : kG) (hA : iA (he, ke, ki, fi, fa, or, mi, a, g, l, w, s)) (hB : iB le ln) (hC : iC nu nn) (hD : iD rf) (hR : iR xm xw xn xc) (k1 : xi.length = 52) (x : Int32) (hxl : 25 ≤ x.toInt) : mm_R 162 0 [some (.ref 138), some (.int x)] [] (mk_M c n m kk (rT (he, ke, ki, fi, fa, or, mi, a, g, l, w, s) xm xi xw im le nu rf ln nn vp xn xc vs)) (some (.int (-1)), (mk_M c n m kk (rT (he, ke, ki, fi, fa, or, mi, a, g, l, w, s) xm xi xw im le nu (rf.set 1 (kg rf 1 + 1)) ln nn vp xn xc vs))) := by
  have hst2 : s ≤ 999 := hA.2
  have v7 : mi ≤ 5 := hA.1.2.2.2.2.2.2.1
  have b3 : ln ≤ 96 := hB.2.2
  have c3 : nn ≤ 16 := hC.2.2
  refine mr_seg 1 (pc1 := 1) (ls1 := [some (.ref 138), some (.int x)]) (st1 := [.int x]) (M1 := (mk_M c n m kk (rT (he, ke, ki, fi, fa, or, mi, a, g, l, w, s) xm xi xw im le nu rf ln nn vp xn xc vs))) (fun f => rfl) ?_
  refine mr_call (y := 140) (y0 := 4) (L := [some (.int x)]) (rest := []) (rr := some (.int 0)) (M1 := (mk_M c n m kk (rT (he, ke, ki, fi, fa, or, mi, a, g, l, w, s) xm xi xw im le nu rf ln nn vp xn xc vs))) (fun f => rfl) (ms_c2_hi (x := x) (mz_lt_f 0 (by decide) (by omega)) (mz_gt_t 24 (by decide) (by omega))) ?_
  refine mr_seg 3 (pc1 := 18) (ls1 := [some (.ref 138), some (.int x)]) (st1 := [.int (-1), .ref 138]) (M1 := (mk_M c n m kk (rT (he, ke, ki, fi, fa, or, mi, a, g, l, w, s) xm xi xw im le nu rf ln nn vp xn xc vs))) (fun f => rfl) ?_
  refine mr_call (y := 130) (y0 := 21) (L := [some (.ref 138), some (.int (-1))]) (rest := []) (rr := some (.int (-1))) (M1 := (mk_M c n m kk (rT (he, ke, ki, fi, fa, or, mi, a, g, l, w, s) xm xi xw im le nu (rf.set 1 (kg rf 1 + 1)) ln nn vp xn xc vs))) (fun f => rfl) (ms_no1 hD) ?_
  exact mr_ret 1 (fun f => rfl)
theorem oe_stands_1 (he ke ki fi fa or : List Nat) (mi a g l w s : Nat) (m : kG) (kk : kG) (im : Nat) (le : List Nat) (ln : Nat) (ys : List Int32) (vt : Int32) (nu : List Nat) (nn : Nat) (rf : List Nat) (vw : Int32) (vq : Int32) (yc : List Int32) (yh : List Int32) (yg : List Int32) (xm : List Int32) (xi : List Int32) (xw : List Int32) (vp : Int32) (xn : List Int32) (xc : List Int32) (vs : Int32) (hA : iA (he, ke, ki, fi, fa, or, mi, a, g, l, w, s)) (hB : iB le ln) (hC : iC nu nn) (hD : iD rf) (hJ : iJ m ys yc yh yg) (hR : iR xm xw xn xc) (hK : iK im kk xi) (x : Int32) (hxl : 25 ≤ x.toInt) : oI 67 162 [some (.ref 100), some (.int x), none] [some (.ref 138), some (.int x)] (mk_M (cT im le ln ys vt nu nn rf vw vq yc yh yg) (kr (he, ke, ki, fi, fa, or, mi, a, g, l, w, s)) m kk (rT (he, ke, ki, fi, fa, or, mi, a, g, l, w, s) xm xi xw im le nu rf ln nn vp xn xc vs)) := by
  exact ⟨(-1), _, _, oc_stands_1 he ke ki fi fa or mi a g l w s im le ln ys vt nu nn rf vw vq yc yh yg m kk _ hA hB hC hD hJ hK.1 x hxl, om_stands_1 he ke ki fi fa or mi a g l w s xm xi xw im le nu rf ln nn vp xn xc vs _ _ _ _ hA hB hC hD hR hK.2.1 x hxl, (he, ke, ki, fi, fa, or, mi, a, g, l, w, s), m, kk, im, le, ln, ys, vt, nu, nn, (rf.set 1 (kg rf 1 + 1)), vw, vq, yc, yh, yg, xm, xi, xw, vp, xn, xc, vs, rfl, hA, hB, hC, iD_s hD, hJ, hR, hK⟩
set_option maxRecDepth 100000 in
theorem oc_stands_2 (he ke ki fi fa or : List Nat) (mi a g l w s : Nat) (im : Nat) (le : List Nat) (ln : Nat) (ys : List Int32) (vt : Int32) (nu : List Nat) (nn : Nat) (rf : List Nat) (vw vq : Int32) (yc yh yg : List Int32) (m kk : kG) (q : cR) (hA : iA (he, ke, ki, fi, fa, or, mi, a, g, l, w, s)) (hB : iB le ln) (hC : iC nu nn) (hD : iD rf) (hJ : iJ m ys yc yh yg) (k0 : kSh kk) (x : Nat) (hx : x < 25) : mm_R 67 0 [some (.ref 100), some (.int (nI x)), none] [] (mk_M (cT im le ln ys vt nu nn rf vw vq yc yh yg) (kr (he, ke, ki, fi, fa, or, mi, a, g, l, w, s)) m kk q) (some (.int (nI a)), (mk_M (cT im le ln ys vt nu nn rf vw vq yc yh yg) (kr (he, ke, ki, fi, fa, or, mi, x, g, l, w, s)) m kk q)) := by
  obtain ⟨hV, hst⟩ := id hA
  have hst2 : s ≤ 999 := hst
  obtain ⟨v1, v2, v3, v4, v5, v6, v7, v8, v9, v10, v11, v12, v13, v14, v15, v16⟩ := id hV
  have v6l := kO_len mi v7 or v6
  obtain ⟨b1, b2, b3⟩ := id hB
  obtain ⟨c1, c2, c3⟩ := id hC
  have d1 : rf.length = 7 := hD
  obtain ⟨j0, j1, j2, j3, j4⟩ := id hJ
  refine mr_seg 1 (pc1 := 1) (ls1 := [some (.ref 100), some (.int (nI x)), none]) (st1 := [.int (nI x)]) (M1 := (mk_M (cT im le ln ys vt nu nn rf vw vq yc yh yg) (kr (he, ke, ki, fi, fa, or, mi, a, g, l, w, s)) m kk q)) (fun f => rfl) ?_
  refine mr_call (y := 37) (y0 := 4) (L := [some (.int (nI x))]) (rest := []) (rr := some (.int 1)) (M1 := (mk_M (cT im le ln ys vt nu nn rf vw vq yc yh yg) (kr (he, ke, ki, fi, fa, or, mi, a, g, l, w, s)) m kk q)) (fun f => rfl) (ms_c1_ok (x := (nI x)) (nI_ltf (a := x) (b := 0) (by omega)) (nI_lef (a := 25) (b := x) (by omega))) ?_
  exact mr_ret 11 (fun f => rfl)
set_option maxRecDepth 100000 in
theorem om_stands_2 (he ke ki fi fa or : List Nat) (mi a g l w s : Nat) (xm xi xw : List Int32) (im : Nat) (le nu rf : List Nat) (ln nn : Nat) (vp : Int32) (xn xc : List Int32) (vs : Int32) (c : cC) (n m kk : kG) (hA : iA (he, ke, ki, fi, fa, or, mi, a, g, l, w, s)) (hB : iB le ln) (hC : iC nu nn) (hD : iD rf) (hR : iR xm xw xn xc) (k1 : xi.length = 52) (x : Nat) (hx : x < 25) : mm_R 162 0 [some (.ref 138), some (.int (nI x))] [] (mk_M c n m kk (rT (he, ke, ki, fi, fa, or, mi, a, g, l, w, s) xm xi xw im le nu rf ln nn vp xn xc vs)) (some (.int (nI a)), (mk_M c n m kk (rT (he, ke, ki, fi, fa, or, mi, x, g, l, w, s) xm xi xw im le nu rf ln nn vp xn xc vs))) := by
  obtain ⟨hV, hst⟩ := id hA
  have hst2 : s ≤ 999 := hst
  obtain ⟨v1, v2, v3, v4, v5, v6, v7, v8, v9, v10, v11, v12, v13, v14, v15, v16⟩ := id hV
  have v6l := kO_len mi v7 or v6
  obtain ⟨b1, b2, b3⟩ := id hB
  obtain ⟨c1, c2, c3⟩ := id hC
  have d1 : rf.length = 7 := hD
  obtain ⟨r1, r2, r3, r4⟩ := id hR
  refine mr_seg 1 (pc1 := 1) (ls1 := [some (.ref 138), some (.int (nI x))]) (st1 := [.int (nI x)]) (M1 := (mk_M c n m kk (rT (he, ke, ki, fi, fa, or, mi, a, g, l, w, s) xm xi xw im le nu rf ln nn vp xn xc vs))) (fun f => rfl) ?_
  refine mr_call (y := 140) (y0 := 4) (L := [some (.int (nI x))]) (rest := []) (rr := some (.int 1)) (M1 := (mk_M c n m kk (rT (he, ke, ki, fi, fa, or, mi, a, g, l, w, s) xm xi xw im le nu rf ln nn vp xn xc vs))) (fun f => rfl) (ms_c2_ok (x := (nI x)) (nI_ltf (a := x) (b := 0) (by omega)) (nI_ltf (a := 24) (b := x) (by omega))) ?_
  refine mr_seg 4 (pc1 := 10) (ls1 := [some (.ref 138), some (.int (nI x))]) (st1 := [.int (nI x), .int 2, .ref 138]) (M1 := (mk_M c n m kk (rT (he, ke, ki, fi, fa, or, mi, a, g, l, w, s) xm xi xw im le nu rf ln nn vp xn xc vs))) (fun f => rfl) ?_
  refine mr_call (y := 160) (y0 := 13) (L := [some (.ref 138), some (.int 2), some (.int (nI x)), none]) (rest := []) (rr := some (.int (nI a))) (M1 := (mk_M c n m kk (rT (he, ke, ki, fi, fa, or, mi, x, g, l, w, s) xm xi xw im le nu rf ln nn vp xn xc vs))) (fun f => rfl) (by
      refine mr_seg 3 (pc1 := 5) (ls1 := [some (.ref 138), some (.int 2), some (.int (nI x)), none]) (st1 := [.int 2, .ref 139]) (M1 := (mk_M c n m kk (rT (he, ke, ki, fi, fa, or, mi, a, g, l, w, s) xm xi xw im le nu rf ln nn vp xn xc vs))) (fun f => rfl) ?_
      refine mr_ldn (xs := (er (he, ke, ki, fi, fa, or, mi, a, g, l, w, s))) rfl rfl (k := 2) (by decide) rfl ?_
      refine mr_seg 5 (pc1 := 13) (ls1 := [some (.ref 138), some (.int 2), some (.int (nI x)), some (.int (nI a))]) (st1 := [.int (nI x), .int 2, .ref 139]) (M1 := (mk_M c n m kk (rT (he, ke, ki, fi, fa, or, mi, a, g, l, w, s) xm xi xw im le nu rf ln nn vp xn xc vs))) (fun f => rfl) ?_
      refine mr_stn (xs := (er (he, ke, ki, fi, fa, or, mi, a, g, l, w, s))) (ys := (er (he, ke, ki, fi, fa, or, mi, x, g, l, w, s))) (M2 := (mk_M c n m kk (rT (he, ke, ki, fi, fa, or, mi, x, g, l, w, s) xm xi xw im le nu rf ln nn vp xn xc vs))) rfl rfl (k := 2) (by decide) (by rw [er_leq (K := (he, ke, ki, fi, fa, or, mi, a, g, l, w, s)) v1 v6l]; decide) (er_s2 (v := x)) rfl ?_
      exact mr_ret 2 (fun f => rfl)) ?_
  exact mr_ret 2 (fun f => rfl)
theorem oe_stands_2 (he ke ki fi fa or : List Nat) (mi a g l w s : Nat) (m : kG) (kk : kG) (im : Nat) (le : List Nat) (ln : Nat) (ys : List Int32) (vt : Int32) (nu : List Nat) (nn : Nat) (rf : List Nat) (vw : Int32) (vq : Int32) (yc : List Int32) (yh : List Int32) (yg : List Int32) (xm : List Int32) (xi : List Int32) (xw : List Int32) (vp : Int32) (xn : List Int32) (xc : List Int32) (vs : Int32) (hA : iA (he, ke, ki, fi, fa, or, mi, a, g, l, w, s)) (hB : iB le ln) (hC : iC nu nn) (hD : iD rf) (hJ : iJ m ys yc yh yg) (hR : iR xm xw xn xc) (hK : iK im kk xi) (x : Nat) (hx : x < 25) : oI 67 162 [some (.ref 100), some (.int (nI x)), none] [some (.ref 138), some (.int (nI x))] (mk_M (cT im le ln ys vt nu nn rf vw vq yc yh yg) (kr (he, ke, ki, fi, fa, or, mi, a, g, l, w, s)) m kk (rT (he, ke, ki, fi, fa, or, mi, a, g, l, w, s) xm xi xw im le nu rf ln nn vp xn xc vs)) := by
  obtain ⟨hV, hst⟩ := id hA
  have hst2 : s ≤ 999 := hst
  obtain ⟨v1, v2, v3, v4, v5, v6, v7, v8, v9, v10, v11, v12, v13, v14, v15, v16⟩ := id hV
  have v6l := kO_len mi v7 or v6
  obtain ⟨b1, b2, b3⟩ := id hB
  obtain ⟨c1, c2, c3⟩ := id hC
  have d1 : rf.length = 7 := hD
  obtain ⟨j0, j1, j2, j3, j4⟩ := id hJ
  obtain ⟨r1, r2, r3, r4⟩ := id hR
  obtain ⟨k0, k1, k2, k3⟩ := id hK
  exact ⟨(nI a), _, _, oc_stands_2 he ke ki fi fa or mi a g l w s im le ln ys vt nu nn rf vw vq yc yh yg m kk _ hA hB hC hD hJ hK.1 x hx, om_stands_2 he ke ki fi fa or mi a g l w s xm xi xw im le nu rf ln nn vp xn xc vs _ _ _ _ hA hB hC hD hR hK.2.1 x hx, (he, ke, ki, fi, fa, or, mi, x, g, l, w, s), m, kk, im, le, ln, ys, vt, nu, nn, rf, vw, vq, yc, yh, yg, xm, xi, xw, vp, xn, xc, vs, rfl, ⟨⟨v1, v2, v3, v4, v5, v6, v7, hx, v9, v10, v11, v12, v13, v14, v15, v16⟩, hst⟩, hB, hC, hD, hJ, hR, hK⟩
set_option maxRecDepth 100000 in
theorem oc_goal_0 (he ke ki fi fa or : List Nat) (mi a g l w s : Nat) (im : Nat) (le : List Nat) (ln : Nat) (ys : List Int32) (vt : Int32) (nu : List Nat) (nn : Nat) (rf : List Nat) (vw vq : Int32) (yc yh yg : List Int32) (m kk : kG) (q : cR) (hA : iA (he, ke, ki, fi, fa, or, mi, a, g, l, w, s)) (hB : iB le ln) (hC : iC nu nn) (hD : iD rf) (hJ : iJ m ys yc yh yg) (k0 : kSh kk) (x : Int32) (hxu : x.toInt ≤ -1) : mm_R 68 0 [some (.ref 100), some (.int x), none] [] (mk_M (cT im le ln ys vt nu nn rf vw vq yc yh yg) (kr (he, ke, ki, fi, fa, or, mi, a, g, l, w, s)) m kk q) (some (.int (-1)), (mk_M (cT im le ln ys vt nu nn (rf.set 1 (kg rf 1 + 1)) vw vq yc yh yg) (kr (he, ke, ki, fi, fa, or, mi, a, g, l, w, s)) m kk q)) := by
  have hst2 : s ≤ 999 := hA.2
  have v7 : mi ≤ 5 := hA.1.2.2.2.2.2.2.1
  have b3 : ln ≤ 96 := hB.2.2
  have c3 : nn ≤ 16 := hC.2.2
  refine mr_seg 1 (pc1 := 1) (ls1 := [some (.ref 100), some (.int x), none]) (st1 := [.int x]) (M1 := (mk_M (cT im le ln ys vt nu nn rf vw vq yc yh yg) (kr (he, ke, ki, fi, fa, or, mi, a, g, l, w, s)) m kk q)) (fun f => rfl) ?_
  refine mr_call (y := 37) (y0 := 4) (L := [some (.int x)]) (rest := []) (rr := some (.int 0)) (M1 := (mk_M (cT im le ln ys vt nu nn rf vw vq yc yh yg) (kr (he, ke, ki, fi, fa, or, mi, a, g, l, w, s)) m kk q)) (fun f => rfl) (ms_c1_lo (x := x) (mz_lt_t 0 (by decide) (by omega))) ?_
  refine mr_seg 3 (pc1 := 9) (ls1 := [some (.ref 100), some (.int x), none]) (st1 := [.int (-1), .ref 100]) (M1 := (mk_M (cT im le ln ys vt nu nn rf vw vq yc yh yg) (kr (he, ke, ki, fi, fa, or, mi, a, g, l, w, s)) m kk q)) (fun f => rfl) ?_
  refine mr_call (y := 12) (y0 := 12) (L := [some (.ref 100), some (.int (-1))]) (rest := []) (rr := some (.int (-1))) (M1 := (mk_M (cT im le ln ys vt nu nn (rf.set 1 (kg rf 1 + 1)) vw vq yc yh yg) (kr (he, ke, ki, fi, fa, or, mi, a, g, l, w, s)) m kk q)) (fun f => rfl) (ms_re1 hD) ?_
  exact mr_ret 1 (fun f => rfl)
set_option maxRecDepth 100000 in
theorem om_goal_0 (he ke ki fi fa or : List Nat) (mi a g l w s : Nat) (xm xi xw : List Int32) (im : Nat) (le nu rf : List Nat) (ln nn : Nat) (vp : Int32) (xn xc : List Int32) (vs : Int32) (c : cC) (n m kk : kG) (hA : iA (he, ke, ki, fi, fa, or, mi, a, g, l, w, s)) (hB : iB le ln) (hC : iC nu nn) (hD : iD rf) (hR : iR xm xw xn xc) (k1 : xi.length = 52) (x : Int32) (hxu : x.toInt ≤ -1) : mm_R 163 0 [some (.ref 138), some (.int x)] [] (mk_M c n m kk (rT (he, ke, ki, fi, fa, or, mi, a, g, l, w, s) xm xi xw im le nu rf ln nn vp xn xc vs)) (some (.int (-1)), (mk_M c n m kk (rT (he, ke, ki, fi, fa, or, mi, a, g, l, w, s) xm xi xw im le nu (rf.set 1 (kg rf 1 + 1)) ln nn vp xn xc vs))) := by
  have hst2 : s ≤ 999 := hA.2
  have v7 : mi ≤ 5 := hA.1.2.2.2.2.2.2.1
  have b3 : ln ≤ 96 := hB.2.2
  have c3 : nn ≤ 16 := hC.2.2
  refine mr_seg 1 (pc1 := 1) (ls1 := [some (.ref 138), some (.int x)]) (st1 := [.int x]) (M1 := (mk_M c n m kk (rT (he, ke, ki, fi, fa, or, mi, a, g, l, w, s) xm xi xw im le nu rf ln nn vp xn xc vs))) (fun f => rfl) ?_
  refine mr_call (y := 140) (y0 := 4) (L := [some (.int x)]) (rest := []) (rr := some (.int 0)) (M1 := (mk_M c n m kk (rT (he, ke, ki, fi, fa, or, mi, a, g, l, w, s) xm xi xw im le nu rf ln nn vp xn xc vs))) (fun f => rfl) (ms_c2_lo (x := x) (mz_lt_t 0 (by decide) (by omega))) ?_
  refine mr_seg 3 (pc1 := 18) (ls1 := [some (.ref 138), some (.int x)]) (st1 := [.int (-1), .ref 138]) (M1 := (mk_M c n m kk (rT (he, ke, ki, fi, fa, or, mi, a, g, l, w, s) xm xi xw im le nu rf ln nn vp xn xc vs))) (fun f => rfl) ?_
  refine mr_call (y := 130) (y0 := 21) (L := [some (.ref 138), some (.int (-1))]) (rest := []) (rr := some (.int (-1))) (M1 := (mk_M c n m kk (rT (he, ke, ki, fi, fa, or, mi, a, g, l, w, s) xm xi xw im le nu (rf.set 1 (kg rf 1 + 1)) ln nn vp xn xc vs))) (fun f => rfl) (ms_no1 hD) ?_
  exact mr_ret 1 (fun f => rfl)
theorem oe_goal_0 (he ke ki fi fa or : List Nat) (mi a g l w s : Nat) (m : kG) (kk : kG) (im : Nat) (le : List Nat) (ln : Nat) (ys : List Int32) (vt : Int32) (nu : List Nat) (nn : Nat) (rf : List Nat) (vw : Int32) (vq : Int32) (yc : List Int32) (yh : List Int32) (yg : List Int32) (xm : List Int32) (xi : List Int32) (xw : List Int32) (vp : Int32) (xn : List Int32) (xc : List Int32) (vs : Int32) (hA : iA (he, ke, ki, fi, fa, or, mi, a, g, l, w, s)) (hB : iB le ln) (hC : iC nu nn) (hD : iD rf) (hJ : iJ m ys yc yh yg) (hR : iR xm xw xn xc) (hK : iK im kk xi) (x : Int32) (hxu : x.toInt ≤ -1) : oI 68 163 [some (.ref 100), some (.int x), none] [some (.ref 138), some (.int x)] (mk_M (cT im le ln ys vt nu nn rf vw vq yc yh yg) (kr (he, ke, ki, fi, fa, or, mi, a, g, l, w, s)) m kk (rT (he, ke, ki, fi, fa, or, mi, a, g, l, w, s) xm xi xw im le nu rf ln nn vp xn xc vs)) := by
  exact ⟨(-1), _, _, oc_goal_0 he ke ki fi fa or mi a g l w s im le ln ys vt nu nn rf vw vq yc yh yg m kk _ hA hB hC hD hJ hK.1 x hxu, om_goal_0 he ke ki fi fa or mi a g l w s xm xi xw im le nu rf ln nn vp xn xc vs _ _ _ _ hA hB hC hD hR hK.2.1 x hxu, (he, ke, ki, fi, fa, or, mi, a, g, l, w, s), m, kk, im, le, ln, ys, vt, nu, nn, (rf.set 1 (kg rf 1 + 1)), vw, vq, yc, yh, yg, xm, xi, xw, vp, xn, xc, vs, rfl, hA, hB, hC, iD_s hD, hJ, hR, hK⟩
set_option maxRecDepth 100000 in
theorem oc_goal_1 (he ke ki fi fa or : List Nat) (mi a g l w s : Nat) (im : Nat) (le : List Nat) (ln : Nat) (ys : List Int32) (vt : Int32) (nu : List Nat) (nn : Nat) (rf : List Nat) (vw vq : Int32) (yc yh yg : List Int32) (m kk : kG) (q : cR) (hA : iA (he, ke, ki, fi, fa, or, mi, a, g, l, w, s)) (hB : iB le ln) (hC : iC nu nn) (hD : iD rf) (hJ : iJ m ys yc yh yg) (k0 : kSh kk) (x : Int32) (hxl : 25 ≤ x.toInt) : mm_R 68 0 [some (.ref 100), some (.int x), none] [] (mk_M (cT im le ln ys vt nu nn rf vw vq yc yh yg) (kr (he, ke, ki, fi, fa, or, mi, a, g, l, w, s)) m kk q) (some (.int (-1)), (mk_M (cT im le ln ys vt nu nn (rf.set 1 (kg rf 1 + 1)) vw vq yc yh yg) (kr (he, ke, ki, fi, fa, or, mi, a, g, l, w, s)) m kk q)) := by
  have hst2 : s ≤ 999 := hA.2
  have v7 : mi ≤ 5 := hA.1.2.2.2.2.2.2.1
  have b3 : ln ≤ 96 := hB.2.2
  have c3 : nn ≤ 16 := hC.2.2
  refine mr_seg 1 (pc1 := 1) (ls1 := [some (.ref 100), some (.int x), none]) (st1 := [.int x]) (M1 := (mk_M (cT im le ln ys vt nu nn rf vw vq yc yh yg) (kr (he, ke, ki, fi, fa, or, mi, a, g, l, w, s)) m kk q)) (fun f => rfl) ?_
  refine mr_call (y := 37) (y0 := 4) (L := [some (.int x)]) (rest := []) (rr := some (.int 0)) (M1 := (mk_M (cT im le ln ys vt nu nn rf vw vq yc yh yg) (kr (he, ke, ki, fi, fa, or, mi, a, g, l, w, s)) m kk q)) (fun f => rfl) (ms_c1_hi (x := x) (mz_lt_f 0 (by decide) (by omega)) (mz_ge_t 25 (by decide) (by omega))) ?_
  refine mr_seg 3 (pc1 := 9) (ls1 := [some (.ref 100), some (.int x), none]) (st1 := [.int (-1), .ref 100]) (M1 := (mk_M (cT im le ln ys vt nu nn rf vw vq yc yh yg) (kr (he, ke, ki, fi, fa, or, mi, a, g, l, w, s)) m kk q)) (fun f => rfl) ?_
  refine mr_call (y := 12) (y0 := 12) (L := [some (.ref 100), some (.int (-1))]) (rest := []) (rr := some (.int (-1))) (M1 := (mk_M (cT im le ln ys vt nu nn (rf.set 1 (kg rf 1 + 1)) vw vq yc yh yg) (kr (he, ke, ki, fi, fa, or, mi, a, g, l, w, s)) m kk q)) (fun f => rfl) (ms_re1 hD) ?_
  exact mr_ret 1 (fun f => rfl)
set_option maxRecDepth 100000 in
theorem om_goal_1 (he ke ki fi fa or : List Nat) (mi a g l w s : Nat) (xm xi xw : List Int32) (im : Nat) (le nu rf : List Nat) (ln nn : Nat) (vp : Int32) (xn xc : List Int32) (vs : Int32) (c : cC) (n m kk : kG) (hA : iA (he, ke, ki, fi, fa, or, mi, a, g, l, w, s)) (hB : iB le ln) (hC : iC nu nn) (hD : iD rf) (hR : iR xm xw xn xc) (k1 : xi.length = 52) (x : Int32) (hxl : 25 ≤ x.toInt) : mm_R 163 0 [some (.ref 138), some (.int x)] [] (mk_M c n m kk (rT (he, ke, ki, fi, fa, or, mi, a, g, l, w, s) xm xi xw im le nu rf ln nn vp xn xc vs)) (some (.int (-1)), (mk_M c n m kk (rT (he, ke, ki, fi, fa, or, mi, a, g, l, w, s) xm xi xw im le nu (rf.set 1 (kg rf 1 + 1)) ln nn vp xn xc vs))) := by
  have hst2 : s ≤ 999 := hA.2
  have v7 : mi ≤ 5 := hA.1.2.2.2.2.2.2.1
  have b3 : ln ≤ 96 := hB.2.2
  have c3 : nn ≤ 16 := hC.2.2
  refine mr_seg 1 (pc1 := 1) (ls1 := [some (.ref 138), some (.int x)]) (st1 := [.int x]) (M1 := (mk_M c n m kk (rT (he, ke, ki, fi, fa, or, mi, a, g, l, w, s) xm xi xw im le nu rf ln nn vp xn xc vs))) (fun f => rfl) ?_
  refine mr_call (y := 140) (y0 := 4) (L := [some (.int x)]) (rest := []) (rr := some (.int 0)) (M1 := (mk_M c n m kk (rT (he, ke, ki, fi, fa, or, mi, a, g, l, w, s) xm xi xw im le nu rf ln nn vp xn xc vs))) (fun f => rfl) (ms_c2_hi (x := x) (mz_lt_f 0 (by decide) (by omega)) (mz_gt_t 24 (by decide) (by omega))) ?_
  refine mr_seg 3 (pc1 := 18) (ls1 := [some (.ref 138), some (.int x)]) (st1 := [.int (-1), .ref 138]) (M1 := (mk_M c n m kk (rT (he, ke, ki, fi, fa, or, mi, a, g, l, w, s) xm xi xw im le nu rf ln nn vp xn xc vs))) (fun f => rfl) ?_
  refine mr_call (y := 130) (y0 := 21) (L := [some (.ref 138), some (.int (-1))]) (rest := []) (rr := some (.int (-1))) (M1 := (mk_M c n m kk (rT (he, ke, ki, fi, fa, or, mi, a, g, l, w, s) xm xi xw im le nu (rf.set 1 (kg rf 1 + 1)) ln nn vp xn xc vs))) (fun f => rfl) (ms_no1 hD) ?_
  exact mr_ret 1 (fun f => rfl)
theorem oe_goal_1 (he ke ki fi fa or : List Nat) (mi a g l w s : Nat) (m : kG) (kk : kG) (im : Nat) (le : List Nat) (ln : Nat) (ys : List Int32) (vt : Int32) (nu : List Nat) (nn : Nat) (rf : List Nat) (vw : Int32) (vq : Int32) (yc : List Int32) (yh : List Int32) (yg : List Int32) (xm : List Int32) (xi : List Int32) (xw : List Int32) (vp : Int32) (xn : List Int32) (xc : List Int32) (vs : Int32) (hA : iA (he, ke, ki, fi, fa, or, mi, a, g, l, w, s)) (hB : iB le ln) (hC : iC nu nn) (hD : iD rf) (hJ : iJ m ys yc yh yg) (hR : iR xm xw xn xc) (hK : iK im kk xi) (x : Int32) (hxl : 25 ≤ x.toInt) : oI 68 163 [some (.ref 100), some (.int x), none] [some (.ref 138), some (.int x)] (mk_M (cT im le ln ys vt nu nn rf vw vq yc yh yg) (kr (he, ke, ki, fi, fa, or, mi, a, g, l, w, s)) m kk (rT (he, ke, ki, fi, fa, or, mi, a, g, l, w, s) xm xi xw im le nu rf ln nn vp xn xc vs)) := by
  exact ⟨(-1), _, _, oc_goal_1 he ke ki fi fa or mi a g l w s im le ln ys vt nu nn rf vw vq yc yh yg m kk _ hA hB hC hD hJ hK.1 x hxl, om_goal_1 he ke ki fi fa or mi a g l w s xm xi xw im le nu rf ln nn vp xn xc vs _ _ _ _ hA hB hC hD hR hK.2.1 x hxl, (he, ke, ki, fi, fa, or, mi, a, g, l, w, s), m, kk, im, le, ln, ys, vt, nu, nn, (rf.set 1 (kg rf 1 + 1)), vw, vq, yc, yh, yg, xm, xi, xw, vp, xn, xc, vs, rfl, hA, hB, hC, iD_s hD, hJ, hR, hK⟩
set_option maxRecDepth 100000 in
theorem oc_goal_2 (he ke ki fi fa or : List Nat) (mi a g l w s : Nat) (im : Nat) (le : List Nat) (ln : Nat) (ys : List Int32) (vt : Int32) (nu : List Nat) (nn : Nat) (rf : List Nat) (vw vq : Int32) (yc yh yg : List Int32) (m kk : kG) (q : cR) (hA : iA (he, ke, ki, fi, fa, or, mi, a, g, l, w, s)) (hB : iB le ln) (hC : iC nu nn) (hD : iD rf) (hJ : iJ m ys yc yh yg) (k0 : kSh kk) (x : Nat) (hx : x < 25) : mm_R 68 0 [some (.ref 100), some (.int (nI x)), none] [] (mk_M (cT im le ln ys vt nu nn rf vw vq yc yh yg) (kr (he, ke, ki, fi, fa, or, mi, a, g, l, w, s)) m kk q) (some (.int (nI g)), (mk_M (cT im le ln ys vt nu nn rf vw vq yc yh yg) (kr (he, ke, ki, fi, fa, or, mi, a, x, l, w, s)) m kk q)) := by
  obtain ⟨hV, hst⟩ := id hA
  have hst2 : s ≤ 999 := hst
  obtain ⟨v1, v2, v3, v4, v5, v6, v7, v8, v9, v10, v11, v12, v13, v14, v15, v16⟩ := id hV
  have v6l := kO_len mi v7 or v6
  obtain ⟨b1, b2, b3⟩ := id hB
  obtain ⟨c1, c2, c3⟩ := id hC
  have d1 : rf.length = 7 := hD
  obtain ⟨j0, j1, j2, j3, j4⟩ := id hJ
  refine mr_seg 1 (pc1 := 1) (ls1 := [some (.ref 100), some (.int (nI x)), none]) (st1 := [.int (nI x)]) (M1 := (mk_M (cT im le ln ys vt nu nn rf vw vq yc yh yg) (kr (he, ke, ki, fi, fa, or, mi, a, g, l, w, s)) m kk q)) (fun f => rfl) ?_
  refine mr_call (y := 37) (y0 := 4) (L := [some (.int (nI x))]) (rest := []) (rr := some (.int 1)) (M1 := (mk_M (cT im le ln ys vt nu nn rf vw vq yc yh yg) (kr (he, ke, ki, fi, fa, or, mi, a, g, l, w, s)) m kk q)) (fun f => rfl) (ms_c1_ok (x := (nI x)) (nI_ltf (a := x) (b := 0) (by omega)) (nI_lef (a := 25) (b := x) (by omega))) ?_
  exact mr_ret 11 (fun f => rfl)
set_option maxRecDepth 100000 in
theorem om_goal_2 (he ke ki fi fa or : List Nat) (mi a g l w s : Nat) (xm xi xw : List Int32) (im : Nat) (le nu rf : List Nat) (ln nn : Nat) (vp : Int32) (xn xc : List Int32) (vs : Int32) (c : cC) (n m kk : kG) (hA : iA (he, ke, ki, fi, fa, or, mi, a, g, l, w, s)) (hB : iB le ln) (hC : iC nu nn) (hD : iD rf) (hR : iR xm xw xn xc) (k1 : xi.length = 52) (x : Nat) (hx : x < 25) : mm_R 163 0 [some (.ref 138), some (.int (nI x))] [] (mk_M c n m kk (rT (he, ke, ki, fi, fa, or, mi, a, g, l, w, s) xm xi xw im le nu rf ln nn vp xn xc vs)) (some (.int (nI g)), (mk_M c n m kk (rT (he, ke, ki, fi, fa, or, mi, a, x, l, w, s) xm xi xw im le nu rf ln nn vp xn xc vs))) := by
  obtain ⟨hV, hst⟩ := id hA
  have hst2 : s ≤ 999 := hst
  obtain ⟨v1, v2, v3, v4, v5, v6, v7, v8, v9, v10, v11, v12, v13, v14, v15, v16⟩ := id hV
  have v6l := kO_len mi v7 or v6
  obtain ⟨b1, b2, b3⟩ := id hB
  obtain ⟨c1, c2, c3⟩ := id hC
  have d1 : rf.length = 7 := hD
  obtain ⟨r1, r2, r3, r4⟩ := id hR
  refine mr_seg 1 (pc1 := 1) (ls1 := [some (.ref 138), some (.int (nI x))]) (st1 := [.int (nI x)]) (M1 := (mk_M c n m kk (rT (he, ke, ki, fi, fa, or, mi, a, g, l, w, s) xm xi xw im le nu rf ln nn vp xn xc vs))) (fun f => rfl) ?_
  refine mr_call (y := 140) (y0 := 4) (L := [some (.int (nI x))]) (rest := []) (rr := some (.int 1)) (M1 := (mk_M c n m kk (rT (he, ke, ki, fi, fa, or, mi, a, g, l, w, s) xm xi xw im le nu rf ln nn vp xn xc vs))) (fun f => rfl) (ms_c2_ok (x := (nI x)) (nI_ltf (a := x) (b := 0) (by omega)) (nI_ltf (a := 24) (b := x) (by omega))) ?_
  refine mr_seg 4 (pc1 := 10) (ls1 := [some (.ref 138), some (.int (nI x))]) (st1 := [.int (nI x), .int 3, .ref 138]) (M1 := (mk_M c n m kk (rT (he, ke, ki, fi, fa, or, mi, a, g, l, w, s) xm xi xw im le nu rf ln nn vp xn xc vs))) (fun f => rfl) ?_
  refine mr_call (y := 160) (y0 := 13) (L := [some (.ref 138), some (.int 3), some (.int (nI x)), none]) (rest := []) (rr := some (.int (nI g))) (M1 := (mk_M c n m kk (rT (he, ke, ki, fi, fa, or, mi, a, x, l, w, s) xm xi xw im le nu rf ln nn vp xn xc vs))) (fun f => rfl) (by
      refine mr_seg 3 (pc1 := 5) (ls1 := [some (.ref 138), some (.int 3), some (.int (nI x)), none]) (st1 := [.int 3, .ref 139]) (M1 := (mk_M c n m kk (rT (he, ke, ki, fi, fa, or, mi, a, g, l, w, s) xm xi xw im le nu rf ln nn vp xn xc vs))) (fun f => rfl) ?_
      refine mr_ldn (xs := (er (he, ke, ki, fi, fa, or, mi, a, g, l, w, s))) rfl rfl (k := 3) (by decide) rfl ?_
      refine mr_seg 5 (pc1 := 13) (ls1 := [some (.ref 138), some (.int 3), some (.int (nI x)), some (.int (nI g))]) (st1 := [.int (nI x), .int 3, .ref 139]) (M1 := (mk_M c n m kk (rT (he, ke, ki, fi, fa, or, mi, a, g, l, w, s) xm xi xw im le nu rf ln nn vp xn xc vs))) (fun f => rfl) ?_
      refine mr_stn (xs := (er (he, ke, ki, fi, fa, or, mi, a, g, l, w, s))) (ys := (er (he, ke, ki, fi, fa, or, mi, a, x, l, w, s))) (M2 := (mk_M c n m kk (rT (he, ke, ki, fi, fa, or, mi, a, x, l, w, s) xm xi xw im le nu rf ln nn vp xn xc vs))) rfl rfl (k := 3) (by decide) (by rw [er_leq (K := (he, ke, ki, fi, fa, or, mi, a, g, l, w, s)) v1 v6l]; decide) (er_s3 (v := x)) rfl ?_
      exact mr_ret 2 (fun f => rfl)) ?_
  exact mr_ret 2 (fun f => rfl)
theorem oe_goal_2 (he ke ki fi fa or : List Nat) (mi a g l w s : Nat) (m : kG) (kk : kG) (im : Nat) (le : List Nat) (ln : Nat) (ys : List Int32) (vt : Int32) (nu : List Nat) (nn : Nat) (rf : List Nat) (vw : Int32) (vq : Int32) (yc : List Int32) (yh : List Int32) (yg : List Int32) (xm : List Int32) (xi : List Int32) (xw : List Int32) (vp : Int32) (xn : List Int32) (xc : List Int32) (vs : Int32) (hA : iA (he, ke, ki, fi, fa, or, mi, a, g, l, w, s)) (hB : iB le ln) (hC : iC nu nn) (hD : iD rf) (hJ : iJ m ys yc yh yg) (hR : iR xm xw xn xc) (hK : iK im kk xi) (x : Nat) (hx : x < 25) : oI 68 163 [some (.ref 100), some (.int (nI x)), none] [some (.ref 138), some (.int (nI x))] (mk_M (cT im le ln ys vt nu nn rf vw vq yc yh yg) (kr (he, ke, ki, fi, fa, or, mi, a, g, l, w, s)) m kk (rT (he, ke, ki, fi, fa, or, mi, a, g, l, w, s) xm xi xw im le nu rf ln nn vp xn xc vs)) := by
  obtain ⟨hV, hst⟩ := id hA
  have hst2 : s ≤ 999 := hst
  obtain ⟨v1, v2, v3, v4, v5, v6, v7, v8, v9, v10, v11, v12, v13, v14, v15, v16⟩ := id hV
  have v6l := kO_len mi v7 or v6
  obtain ⟨b1, b2, b3⟩ := id hB
  obtain ⟨c1, c2, c3⟩ := id hC
  have d1 : rf.length = 7 := hD
  obtain ⟨j0, j1, j2, j3, j4⟩ := id hJ
  obtain ⟨r1, r2, r3, r4⟩ := id hR
  obtain ⟨k0, k1, k2, k3⟩ := id hK
  exact ⟨(nI g), _, _, oc_goal_2 he ke ki fi fa or mi a g l w s im le ln ys vt nu nn rf vw vq yc yh yg m kk _ hA hB hC hD hJ hK.1 x hx, om_goal_2 he ke ki fi fa or mi a g l w s xm xi xw im le nu rf ln nn vp xn xc vs _ _ _ _ hA hB hC hD hR hK.2.1 x hx, (he, ke, ki, fi, fa, or, mi, a, x, l, w, s), m, kk, im, le, ln, ys, vt, nu, nn, rf, vw, vq, yc, yh, yg, xm, xi, xw, vp, xn, xc, vs, rfl, ⟨⟨v1, v2, v3, v4, v5, v6, v7, v8, hx, v10, v11, v12, v13, v14, v15, v16⟩, hst⟩, hB, hC, hD, hJ, hR, hK⟩
set_option maxRecDepth 100000 in
theorem oc_weighs_0 (he ke ki fi fa or : List Nat) (mi a g l w s : Nat) (im : Nat) (le : List Nat) (ln : Nat) (ys : List Int32) (vt : Int32) (nu : List Nat) (nn : Nat) (rf : List Nat) (vw vq : Int32) (yc yh yg : List Int32) (m kk : kG) (q : cR) (hA : iA (he, ke, ki, fi, fa, or, mi, a, g, l, w, s)) (hB : iB le ln) (hC : iC nu nn) (hD : iD rf) (hJ : iJ m ys yc yh yg) (k0 : kSh kk) (x : Int32) (hxu : x.toInt ≤ -1) : mm_R 69 0 [some (.ref 100), some (.int x), none] [] (mk_M (cT im le ln ys vt nu nn rf vw vq yc yh yg) (kr (he, ke, ki, fi, fa, or, mi, a, g, l, w, s)) m kk q) (some (.int (-4)), (mk_M (cT im le ln ys vt nu nn (rf.set 4 (kg rf 4 + 1)) vw vq yc yh yg) (kr (he, ke, ki, fi, fa, or, mi, a, g, l, w, s)) m kk q)) := by
  have hst2 : s ≤ 999 := hA.2
  have v7 : mi ≤ 5 := hA.1.2.2.2.2.2.2.1
  have b3 : ln ≤ 96 := hB.2.2
  have c3 : nn ≤ 16 := hC.2.2
  refine mr_seg 1 (pc1 := 1) (ls1 := [some (.ref 100), some (.int x), none]) (st1 := [.int x]) (M1 := (mk_M (cT im le ln ys vt nu nn rf vw vq yc yh yg) (kr (he, ke, ki, fi, fa, or, mi, a, g, l, w, s)) m kk q)) (fun f => rfl) ?_
  refine mr_f (C := 0 ≤ x) (mz_ge_f 0 (by decide) (by omega)) (fun f => rfl) ?_
  refine mr_seg 2 (pc1 := 7) (ls1 := [some (.ref 100), some (.int x), none]) (st1 := [.int (-4), .ref 100]) (M1 := (mk_M (cT im le ln ys vt nu nn rf vw vq yc yh yg) (kr (he, ke, ki, fi, fa, or, mi, a, g, l, w, s)) m kk q)) (fun f => rfl) ?_
  refine mr_call (y := 12) (y0 := 10) (L := [some (.ref 100), some (.int (-4))]) (rest := []) (rr := some (.int (-4))) (M1 := (mk_M (cT im le ln ys vt nu nn (rf.set 4 (kg rf 4 + 1)) vw vq yc yh yg) (kr (he, ke, ki, fi, fa, or, mi, a, g, l, w, s)) m kk q)) (fun f => rfl) (ms_re4 hD) ?_
  exact mr_ret 1 (fun f => rfl)
set_option maxRecDepth 100000 in
theorem om_weighs_0 (he ke ki fi fa or : List Nat) (mi a g l w s : Nat) (xm xi xw : List Int32) (im : Nat) (le nu rf : List Nat) (ln nn : Nat) (vp : Int32) (xn xc : List Int32) (vs : Int32) (c : cC) (n m kk : kG) (hA : iA (he, ke, ki, fi, fa, or, mi, a, g, l, w, s)) (hB : iB le ln) (hC : iC nu nn) (hD : iD rf) (hR : iR xm xw xn xc) (k1 : xi.length = 52) (x : Int32) (hxu : x.toInt ≤ -1) : mm_R 164 0 [some (.ref 138), some (.int x), none] [] (mk_M c n m kk (rT (he, ke, ki, fi, fa, or, mi, a, g, l, w, s) xm xi xw im le nu rf ln nn vp xn xc vs)) (some (.int (-4)), (mk_M c n m kk (rT (he, ke, ki, fi, fa, or, mi, a, g, l, w, s) xm xi xw im le nu (rf.set 4 (kg rf 4 + 1)) ln nn vp xn xc vs))) := by
  have hst2 : s ≤ 999 := hA.2
  have v7 : mi ≤ 5 := hA.1.2.2.2.2.2.2.1
  have b3 : ln ≤ 96 := hB.2.2
  have c3 : nn ≤ 16 := hC.2.2
  refine mr_seg 3 (pc1 := 4) (ls1 := [some (.ref 138), some (.int x), none]) (st1 := [.int 20, .int 0, .int x]) (M1 := (mk_M c n m kk (rT (he, ke, ki, fi, fa, or, mi, a, g, l, w, s) xm xi xw im le nu rf ln nn vp xn xc vs))) (fun f => rfl) ?_
  refine mr_call (y := 159) (y0 := 7) (L := [some (.int x), some (.int 0), some (.int 20)]) (rest := []) (rr := some (.int (-4))) (M1 := (mk_M c n m kk (rT (he, ke, ki, fi, fa, or, mi, a, g, l, w, s) xm xi xw im le nu rf ln nn vp xn xc vs))) (fun f => rfl) (ms_wb_lo (x := x) (a := 0) (b := 20) (mz_ge_f 0 (by decide) (by omega))) ?_
  refine mr_seg 5 (pc1 := 14) (ls1 := [some (.ref 138), some (.int x), some (.int (-4))]) (st1 := [.int (-4), .ref 138]) (M1 := (mk_M c n m kk (rT (he, ke, ki, fi, fa, or, mi, a, g, l, w, s) xm xi xw im le nu rf ln nn vp xn xc vs))) (fun f => rfl) ?_
  refine mr_call (y := 130) (y0 := 17) (L := [some (.ref 138), some (.int (-4))]) (rest := []) (rr := some (.int (-4))) (M1 := (mk_M c n m kk (rT (he, ke, ki, fi, fa, or, mi, a, g, l, w, s) xm xi xw im le nu (rf.set 4 (kg rf 4 + 1)) ln nn vp xn xc vs))) (fun f => rfl) (ms_no4 hD) ?_
  exact mr_ret 2 (fun f => rfl)
theorem oe_weighs_0 (he ke ki fi fa or : List Nat) (mi a g l w s : Nat) (m : kG) (kk : kG) (im : Nat) (le : List Nat) (ln : Nat) (ys : List Int32) (vt : Int32) (nu : List Nat) (nn : Nat) (rf : List Nat) (vw : Int32) (vq : Int32) (yc : List Int32) (yh : List Int32) (yg : List Int32) (xm : List Int32) (xi : List Int32) (xw : List Int32) (vp : Int32) (xn : List Int32) (xc : List Int32) (vs : Int32) (hA : iA (he, ke, ki, fi, fa, or, mi, a, g, l, w, s)) (hB : iB le ln) (hC : iC nu nn) (hD : iD rf) (hJ : iJ m ys yc yh yg) (hR : iR xm xw xn xc) (hK : iK im kk xi) (x : Int32) (hxu : x.toInt ≤ -1) : oI 69 164 [some (.ref 100), some (.int x), none] [some (.ref 138), some (.int x), none] (mk_M (cT im le ln ys vt nu nn rf vw vq yc yh yg) (kr (he, ke, ki, fi, fa, or, mi, a, g, l, w, s)) m kk (rT (he, ke, ki, fi, fa, or, mi, a, g, l, w, s) xm xi xw im le nu rf ln nn vp xn xc vs)) := by
  exact ⟨(-4), _, _, oc_weighs_0 he ke ki fi fa or mi a g l w s im le ln ys vt nu nn rf vw vq yc yh yg m kk _ hA hB hC hD hJ hK.1 x hxu, om_weighs_0 he ke ki fi fa or mi a g l w s xm xi xw im le nu rf ln nn vp xn xc vs _ _ _ _ hA hB hC hD hR hK.2.1 x hxu, (he, ke, ki, fi, fa, or, mi, a, g, l, w, s), m, kk, im, le, ln, ys, vt, nu, nn, (rf.set 4 (kg rf 4 + 1)), vw, vq, yc, yh, yg, xm, xi, xw, vp, xn, xc, vs, rfl, hA, hB, hC, iD_s hD, hJ, hR, hK⟩
set_option maxRecDepth 100000 in
theorem oc_weighs_1 (he ke ki fi fa or : List Nat) (mi a g l w s : Nat) (im : Nat) (le : List Nat) (ln : Nat) (ys : List Int32) (vt : Int32) (nu : List Nat) (nn : Nat) (rf : List Nat) (vw vq : Int32) (yc yh yg : List Int32) (m kk : kG) (q : cR) (hA : iA (he, ke, ki, fi, fa, or, mi, a, g, l, w, s)) (hB : iB le ln) (hC : iC nu nn) (hD : iD rf) (hJ : iJ m ys yc yh yg) (k0 : kSh kk) (x : Int32) (hxl : 21 ≤ x.toInt) : mm_R 69 0 [some (.ref 100), some (.int x), none] [] (mk_M (cT im le ln ys vt nu nn rf vw vq yc yh yg) (kr (he, ke, ki, fi, fa, or, mi, a, g, l, w, s)) m kk q) (some (.int (-6)), (mk_M (cT im le ln ys vt nu nn (rf.set 6 (kg rf 6 + 1)) vw vq yc yh yg) (kr (he, ke, ki, fi, fa, or, mi, a, g, l, w, s)) m kk q)) := by
  have hst2 : s ≤ 999 := hA.2
  have v7 : mi ≤ 5 := hA.1.2.2.2.2.2.2.1
  have b3 : ln ≤ 96 := hB.2.2
  have c3 : nn ≤ 16 := hC.2.2
  refine mr_seg 1 (pc1 := 1) (ls1 := [some (.ref 100), some (.int x), none]) (st1 := [.int x]) (M1 := (mk_M (cT im le ln ys vt nu nn rf vw vq yc yh yg) (kr (he, ke, ki, fi, fa, or, mi, a, g, l, w, s)) m kk q)) (fun f => rfl) ?_
  refine mr_t (C := 0 ≤ x) (mz_ge_t 0 (by decide) (by omega)) (fun f => rfl) ?_
  refine mr_seg 2 (pc1 := 14) (ls1 := [some (.ref 100), some (.int x), none]) (st1 := [.int 20, .int x]) (M1 := (mk_M (cT im le ln ys vt nu nn rf vw vq yc yh yg) (kr (he, ke, ki, fi, fa, or, mi, a, g, l, w, s)) m kk q)) (fun f => rfl) ?_
  refine mr_f (C := x ≤ 20) (mz_le_f 20 (by decide) (by omega)) (fun f => rfl) ?_
  refine mr_seg 2 (pc1 := 20) (ls1 := [some (.ref 100), some (.int x), none]) (st1 := [.int (-6), .ref 100]) (M1 := (mk_M (cT im le ln ys vt nu nn rf vw vq yc yh yg) (kr (he, ke, ki, fi, fa, or, mi, a, g, l, w, s)) m kk q)) (fun f => rfl) ?_
  refine mr_call (y := 12) (y0 := 23) (L := [some (.ref 100), some (.int (-6))]) (rest := []) (rr := some (.int (-6))) (M1 := (mk_M (cT im le ln ys vt nu nn (rf.set 6 (kg rf 6 + 1)) vw vq yc yh yg) (kr (he, ke, ki, fi, fa, or, mi, a, g, l, w, s)) m kk q)) (fun f => rfl) (ms_re6 hD) ?_
  exact mr_ret 1 (fun f => rfl)
set_option maxRecDepth 100000 in
theorem om_weighs_1 (he ke ki fi fa or : List Nat) (mi a g l w s : Nat) (xm xi xw : List Int32) (im : Nat) (le nu rf : List Nat) (ln nn : Nat) (vp : Int32) (xn xc : List Int32) (vs : Int32) (c : cC) (n m kk : kG) (hA : iA (he, ke, ki, fi, fa, or, mi, a, g, l, w, s)) (hB : iB le ln) (hC : iC nu nn) (hD : iD rf) (hR : iR xm xw xn xc) (k1 : xi.length = 52) (x : Int32) (hxl : 21 ≤ x.toInt) : mm_R 164 0 [some (.ref 138), some (.int x), none] [] (mk_M c n m kk (rT (he, ke, ki, fi, fa, or, mi, a, g, l, w, s) xm xi xw im le nu rf ln nn vp xn xc vs)) (some (.int (-6)), (mk_M c n m kk (rT (he, ke, ki, fi, fa, or, mi, a, g, l, w, s) xm xi xw im le nu (rf.set 6 (kg rf 6 + 1)) ln nn vp xn xc vs))) := by
  have hst2 : s ≤ 999 := hA.2
  have v7 : mi ≤ 5 := hA.1.2.2.2.2.2.2.1
  have b3 : ln ≤ 96 := hB.2.2
  have c3 : nn ≤ 16 := hC.2.2
  refine mr_seg 3 (pc1 := 4) (ls1 := [some (.ref 138), some (.int x), none]) (st1 := [.int 20, .int 0, .int x]) (M1 := (mk_M c n m kk (rT (he, ke, ki, fi, fa, or, mi, a, g, l, w, s) xm xi xw im le nu rf ln nn vp xn xc vs))) (fun f => rfl) ?_
  refine mr_call (y := 159) (y0 := 7) (L := [some (.int x), some (.int 0), some (.int 20)]) (rest := []) (rr := some (.int (-6))) (M1 := (mk_M c n m kk (rT (he, ke, ki, fi, fa, or, mi, a, g, l, w, s) xm xi xw im le nu rf ln nn vp xn xc vs))) (fun f => rfl) (ms_wb_hi (x := x) (a := 0) (b := 20) (mz_ge_t 0 (by decide) (by omega)) (mz_le_f 20 (by decide) (by omega))) ?_
  refine mr_seg 5 (pc1 := 14) (ls1 := [some (.ref 138), some (.int x), some (.int (-6))]) (st1 := [.int (-6), .ref 138]) (M1 := (mk_M c n m kk (rT (he, ke, ki, fi, fa, or, mi, a, g, l, w, s) xm xi xw im le nu rf ln nn vp xn xc vs))) (fun f => rfl) ?_
  refine mr_call (y := 130) (y0 := 17) (L := [some (.ref 138), some (.int (-6))]) (rest := []) (rr := some (.int (-6))) (M1 := (mk_M c n m kk (rT (he, ke, ki, fi, fa, or, mi, a, g, l, w, s) xm xi xw im le nu (rf.set 6 (kg rf 6 + 1)) ln nn vp xn xc vs))) (fun f => rfl) (ms_no6 hD) ?_
  exact mr_ret 2 (fun f => rfl)
theorem oe_weighs_1 (he ke ki fi fa or : List Nat) (mi a g l w s : Nat) (m : kG) (kk : kG) (im : Nat) (le : List Nat) (ln : Nat) (ys : List Int32) (vt : Int32) (nu : List Nat) (nn : Nat) (rf : List Nat) (vw : Int32) (vq : Int32) (yc : List Int32) (yh : List Int32) (yg : List Int32) (xm : List Int32) (xi : List Int32) (xw : List Int32) (vp : Int32) (xn : List Int32) (xc : List Int32) (vs : Int32) (hA : iA (he, ke, ki, fi, fa, or, mi, a, g, l, w, s)) (hB : iB le ln) (hC : iC nu nn) (hD : iD rf) (hJ : iJ m ys yc yh yg) (hR : iR xm xw xn xc) (hK : iK im kk xi) (x : Int32) (hxl : 21 ≤ x.toInt) : oI 69 164 [some (.ref 100), some (.int x), none] [some (.ref 138), some (.int x), none] (mk_M (cT im le ln ys vt nu nn rf vw vq yc yh yg) (kr (he, ke, ki, fi, fa, or, mi, a, g, l, w, s)) m kk (rT (he, ke, ki, fi, fa, or, mi, a, g, l, w, s) xm xi xw im le nu rf ln nn vp xn xc vs)) := by
  exact ⟨(-6), _, _, oc_weighs_1 he ke ki fi fa or mi a g l w s im le ln ys vt nu nn rf vw vq yc yh yg m kk _ hA hB hC hD hJ hK.1 x hxl, om_weighs_1 he ke ki fi fa or mi a g l w s xm xi xw im le nu rf ln nn vp xn xc vs _ _ _ _ hA hB hC hD hR hK.2.1 x hxl, (he, ke, ki, fi, fa, or, mi, a, g, l, w, s), m, kk, im, le, ln, ys, vt, nu, nn, (rf.set 6 (kg rf 6 + 1)), vw, vq, yc, yh, yg, xm, xi, xw, vp, xn, xc, vs, rfl, hA, hB, hC, iD_s hD, hJ, hR, hK⟩
set_option maxRecDepth 100000 in
theorem oc_weighs_2 (he ke ki fi fa or : List Nat) (mi a g l w s : Nat) (im : Nat) (le : List Nat) (ln : Nat) (ys : List Int32) (vt : Int32) (nu : List Nat) (nn : Nat) (rf : List Nat) (vw vq : Int32) (yc yh yg : List Int32) (m kk : kG) (q : cR) (hA : iA (he, ke, ki, fi, fa, or, mi, a, g, l, w, s)) (hB : iB le ln) (hC : iC nu nn) (hD : iD rf) (hJ : iJ m ys yc yh yg) (k0 : kSh kk) (x : Nat) (hx : x < 21) : mm_R 69 0 [some (.ref 100), some (.int (nI x)), none] [] (mk_M (cT im le ln ys vt nu nn rf vw vq yc yh yg) (kr (he, ke, ki, fi, fa, or, mi, a, g, l, w, s)) m kk q) (some (.int (nI w)), (mk_M (cT im le ln ys vt nu nn rf vw vq yc yh yg) (kr (he, ke, ki, fi, fa, or, mi, a, g, l, x, s)) m kk q)) := by
  obtain ⟨hV, hst⟩ := id hA
  have hst2 : s ≤ 999 := hst
  obtain ⟨v1, v2, v3, v4, v5, v6, v7, v8, v9, v10, v11, v12, v13, v14, v15, v16⟩ := id hV
  have v6l := kO_len mi v7 or v6
  obtain ⟨b1, b2, b3⟩ := id hB
  obtain ⟨c1, c2, c3⟩ := id hC
  have d1 : rf.length = 7 := hD
  obtain ⟨j0, j1, j2, j3, j4⟩ := id hJ
  refine mr_seg 1 (pc1 := 1) (ls1 := [some (.ref 100), some (.int (nI x)), none]) (st1 := [.int (nI x)]) (M1 := (mk_M (cT im le ln ys vt nu nn rf vw vq yc yh yg) (kr (he, ke, ki, fi, fa, or, mi, a, g, l, w, s)) m kk q)) (fun f => rfl) ?_
  refine mr_t (C := 0 ≤ (nI x)) (nI_let (a := 0) (b := x) (by omega)) (fun f => rfl) ?_
  refine mr_seg 2 (pc1 := 14) (ls1 := [some (.ref 100), some (.int (nI x)), none]) (st1 := [.int 20, .int (nI x)]) (M1 := (mk_M (cT im le ln ys vt nu nn rf vw vq yc yh yg) (kr (he, ke, ki, fi, fa, or, mi, a, g, l, w, s)) m kk q)) (fun f => rfl) ?_
  refine mr_t (C := (nI x) ≤ 20) (nI_let (a := x) (b := 20) (by omega)) (fun f => rfl) ?_
  exact mr_ret 10 (fun f => rfl)
set_option maxRecDepth 100000 in
theorem om_weighs_2 (he ke ki fi fa or : List Nat) (mi a g l w s : Nat) (xm xi xw : List Int32) (im : Nat) (le nu rf : List Nat) (ln nn : Nat) (vp : Int32) (xn xc : List Int32) (vs : Int32) (c : cC) (n m kk : kG) (hA : iA (he, ke, ki, fi, fa, or, mi, a, g, l, w, s)) (hB : iB le ln) (hC : iC nu nn) (hD : iD rf) (hR : iR xm xw xn xc) (k1 : xi.length = 52) (x : Nat) (hx : x < 21) : mm_R 164 0 [some (.ref 138), some (.int (nI x)), none] [] (mk_M c n m kk (rT (he, ke, ki, fi, fa, or, mi, a, g, l, w, s) xm xi xw im le nu rf ln nn vp xn xc vs)) (some (.int (nI w)), (mk_M c n m kk (rT (he, ke, ki, fi, fa, or, mi, a, g, l, x, s) xm xi xw im le nu rf ln nn vp xn xc vs))) := by
  obtain ⟨hV, hst⟩ := id hA
  have hst2 : s ≤ 999 := hst
  obtain ⟨v1, v2, v3, v4, v5, v6, v7, v8, v9, v10, v11, v12, v13, v14, v15, v16⟩ := id hV
  have v6l := kO_len mi v7 or v6
  obtain ⟨b1, b2, b3⟩ := id hB
  obtain ⟨c1, c2, c3⟩ := id hC
  have d1 : rf.length = 7 := hD
  obtain ⟨r1, r2, r3, r4⟩ := id hR
  refine mr_seg 3 (pc1 := 4) (ls1 := [some (.ref 138), some (.int (nI x)), none]) (st1 := [.int 20, .int 0, .int (nI x)]) (M1 := (mk_M c n m kk (rT (he, ke, ki, fi, fa, or, mi, a, g, l, w, s) xm xi xw im le nu rf ln nn vp xn xc vs))) (fun f => rfl) ?_
  refine mr_call (y := 159) (y0 := 7) (L := [some (.int (nI x)), some (.int 0), some (.int 20)]) (rest := []) (rr := some (.int 0)) (M1 := (mk_M c n m kk (rT (he, ke, ki, fi, fa, or, mi, a, g, l, w, s) xm xi xw im le nu rf ln nn vp xn xc vs))) (fun f => rfl) (ms_wb_ok (x := (nI x)) (a := 0) (b := 20) (nI_let (a := 0) (b := x) (by omega)) (nI_let (a := x) (b := 20) (by omega))) ?_
  refine mr_seg 6 (pc1 := 23) (ls1 := [some (.ref 138), some (.int (nI x)), some (.int 0)]) (st1 := [.int (nI x), .int 5, .ref 138]) (M1 := (mk_M c n m kk (rT (he, ke, ki, fi, fa, or, mi, a, g, l, w, s) xm xi xw im le nu rf ln nn vp xn xc vs))) (fun f => rfl) ?_
  refine mr_call (y := 160) (y0 := 26) (L := [some (.ref 138), some (.int 5), some (.int (nI x)), none]) (rest := []) (rr := some (.int (nI w))) (M1 := (mk_M c n m kk (rT (he, ke, ki, fi, fa, or, mi, a, g, l, x, s) xm xi xw im le nu rf ln nn vp xn xc vs))) (fun f => rfl) (by
      refine mr_seg 3 (pc1 := 5) (ls1 := [some (.ref 138), some (.int 5), some (.int (nI x)), none]) (st1 := [.int 5, .ref 139]) (M1 := (mk_M c n m kk (rT (he, ke, ki, fi, fa, or, mi, a, g, l, w, s) xm xi xw im le nu rf ln nn vp xn xc vs))) (fun f => rfl) ?_
      refine mr_ldn (xs := (er (he, ke, ki, fi, fa, or, mi, a, g, l, w, s))) rfl rfl (k := 5) (by decide) rfl ?_
      refine mr_seg 5 (pc1 := 13) (ls1 := [some (.ref 138), some (.int 5), some (.int (nI x)), some (.int (nI w))]) (st1 := [.int (nI x), .int 5, .ref 139]) (M1 := (mk_M c n m kk (rT (he, ke, ki, fi, fa, or, mi, a, g, l, w, s) xm xi xw im le nu rf ln nn vp xn xc vs))) (fun f => rfl) ?_
      refine mr_stn (xs := (er (he, ke, ki, fi, fa, or, mi, a, g, l, w, s))) (ys := (er (he, ke, ki, fi, fa, or, mi, a, g, l, x, s))) (M2 := (mk_M c n m kk (rT (he, ke, ki, fi, fa, or, mi, a, g, l, x, s) xm xi xw im le nu rf ln nn vp xn xc vs))) rfl rfl (k := 5) (by decide) (by rw [er_leq (K := (he, ke, ki, fi, fa, or, mi, a, g, l, w, s)) v1 v6l]; decide) (er_s5 (v := x)) rfl ?_
      exact mr_ret 2 (fun f => rfl)) ?_
  exact mr_ret 1 (fun f => rfl)
theorem oe_weighs_2 (he ke ki fi fa or : List Nat) (mi a g l w s : Nat) (m : kG) (kk : kG) (im : Nat) (le : List Nat) (ln : Nat) (ys : List Int32) (vt : Int32) (nu : List Nat) (nn : Nat) (rf : List Nat) (vw : Int32) (vq : Int32) (yc : List Int32) (yh : List Int32) (yg : List Int32) (xm : List Int32) (xi : List Int32) (xw : List Int32) (vp : Int32) (xn : List Int32) (xc : List Int32) (vs : Int32) (hA : iA (he, ke, ki, fi, fa, or, mi, a, g, l, w, s)) (hB : iB le ln) (hC : iC nu nn) (hD : iD rf) (hJ : iJ m ys yc yh yg) (hR : iR xm xw xn xc) (hK : iK im kk xi) (x : Nat) (hx : x < 21) : oI 69 164 [some (.ref 100), some (.int (nI x)), none] [some (.ref 138), some (.int (nI x)), none] (mk_M (cT im le ln ys vt nu nn rf vw vq yc yh yg) (kr (he, ke, ki, fi, fa, or, mi, a, g, l, w, s)) m kk (rT (he, ke, ki, fi, fa, or, mi, a, g, l, w, s) xm xi xw im le nu rf ln nn vp xn xc vs)) := by
  obtain ⟨hV, hst⟩ := id hA
  have hst2 : s ≤ 999 := hst
  obtain ⟨v1, v2, v3, v4, v5, v6, v7, v8, v9, v10, v11, v12, v13, v14, v15, v16⟩ := id hV
  have v6l := kO_len mi v7 or v6
  obtain ⟨b1, b2, b3⟩ := id hB
  obtain ⟨c1, c2, c3⟩ := id hC
  have d1 : rf.length = 7 := hD
  obtain ⟨j0, j1, j2, j3, j4⟩ := id hJ
  obtain ⟨r1, r2, r3, r4⟩ := id hR
  obtain ⟨k0, k1, k2, k3⟩ := id hK
  exact ⟨(nI w), _, _, oc_weighs_2 he ke ki fi fa or mi a g l w s im le ln ys vt nu nn rf vw vq yc yh yg m kk _ hA hB hC hD hJ hK.1 x hx, om_weighs_2 he ke ki fi fa or mi a g l w s xm xi xw im le nu rf ln nn vp xn xc vs _ _ _ _ hA hB hC hD hR hK.2.1 x hx, (he, ke, ki, fi, fa, or, mi, a, g, l, x, s), m, kk, im, le, ln, ys, vt, nu, nn, rf, vw, vq, yc, yh, yg, xm, xi, xw, vp, xn, xc, vs, rfl, ⟨⟨v1, v2, v3, v4, v5, v6, v7, v8, v9, v10, by omega, v12, v13, v14, v15, v16⟩, hst⟩, hB, hC, hD, hJ, hR, hK⟩
set_option maxRecDepth 100000 in
theorem oc_heaps_0 (he ke ki fi fa or : List Nat) (mi a g l w s : Nat) (im : Nat) (le : List Nat) (ln : Nat) (ys : List Int32) (vt : Int32) (nu : List Nat) (nn : Nat) (rf : List Nat) (vw vq : Int32) (yc yh yg : List Int32) (m kk : kG) (q : cR) (hA : iA (he, ke, ki, fi, fa, or, mi, a, g, l, w, s)) (hB : iB le ln) (hC : iC nu nn) (hD : iD rf) (hJ : iJ m ys yc yh yg) (k0 : kSh kk) (x : Int32) (hxu : x.toInt ≤ -1) (y : Int32) : mm_R 65 0 [some (.ref 100), some (.int x), some (.int y), none] [] (mk_M (cT im le ln ys vt nu nn rf vw vq yc yh yg) (kr (he, ke, ki, fi, fa, or, mi, a, g, l, w, s)) m kk q) (some (.int (-1)), (mk_M (cT im le ln ys vt nu nn (rf.set 1 (kg rf 1 + 1)) vw vq yc yh yg) (kr (he, ke, ki, fi, fa, or, mi, a, g, l, w, s)) m kk q)) := by
  have hst2 : s ≤ 999 := hA.2
  have v7 : mi ≤ 5 := hA.1.2.2.2.2.2.2.1
  have b3 : ln ≤ 96 := hB.2.2
  have c3 : nn ≤ 16 := hC.2.2
  refine mr_seg 1 (pc1 := 1) (ls1 := [some (.ref 100), some (.int x), some (.int y), none]) (st1 := [.int x]) (M1 := (mk_M (cT im le ln ys vt nu nn rf vw vq yc yh yg) (kr (he, ke, ki, fi, fa, or, mi, a, g, l, w, s)) m kk q)) (fun f => rfl) ?_
  refine mr_call (y := 37) (y0 := 4) (L := [some (.int x)]) (rest := []) (rr := some (.int 0)) (M1 := (mk_M (cT im le ln ys vt nu nn rf vw vq yc yh yg) (kr (he, ke, ki, fi, fa, or, mi, a, g, l, w, s)) m kk q)) (fun f => rfl) (ms_c1_lo (x := x) (mz_lt_t 0 (by decide) (by omega))) ?_
  refine mr_seg 3 (pc1 := 9) (ls1 := [some (.ref 100), some (.int x), some (.int y), none]) (st1 := [.int (-1), .ref 100]) (M1 := (mk_M (cT im le ln ys vt nu nn rf vw vq yc yh yg) (kr (he, ke, ki, fi, fa, or, mi, a, g, l, w, s)) m kk q)) (fun f => rfl) ?_
  refine mr_call (y := 12) (y0 := 12) (L := [some (.ref 100), some (.int (-1))]) (rest := []) (rr := some (.int (-1))) (M1 := (mk_M (cT im le ln ys vt nu nn (rf.set 1 (kg rf 1 + 1)) vw vq yc yh yg) (kr (he, ke, ki, fi, fa, or, mi, a, g, l, w, s)) m kk q)) (fun f => rfl) (ms_re1 hD) ?_
  exact mr_ret 1 (fun f => rfl)
set_option maxRecDepth 100000 in
theorem om_heaps_0 (he ke ki fi fa or : List Nat) (mi a g l w s : Nat) (xm xi xw : List Int32) (im : Nat) (le nu rf : List Nat) (ln nn : Nat) (vp : Int32) (xn xc : List Int32) (vs : Int32) (c : cC) (n m kk : kG) (hA : iA (he, ke, ki, fi, fa, or, mi, a, g, l, w, s)) (hB : iB le ln) (hC : iC nu nn) (hD : iD rf) (hR : iR xm xw xn xc) (k1 : xi.length = 52) (x : Int32) (hxu : x.toInt ≤ -1) (y : Int32) : mm_R 158 0 [some (.ref 138), some (.int x), some (.int y), none] [] (mk_M c n m kk (rT (he, ke, ki, fi, fa, or, mi, a, g, l, w, s) xm xi xw im le nu rf ln nn vp xn xc vs)) (some (.int (-1)), (mk_M c n m kk (rT (he, ke, ki, fi, fa, or, mi, a, g, l, w, s) xm xi xw im le nu (rf.set 1 (kg rf 1 + 1)) ln nn vp xn xc vs))) := by
  have hst2 : s ≤ 999 := hA.2
  have v7 : mi ≤ 5 := hA.1.2.2.2.2.2.2.1
  have b3 : ln ≤ 96 := hB.2.2
  have c3 : nn ≤ 16 := hC.2.2
  refine mr_seg 1 (pc1 := 1) (ls1 := [some (.ref 138), some (.int x), some (.int y), none]) (st1 := [.int x]) (M1 := (mk_M c n m kk (rT (he, ke, ki, fi, fa, or, mi, a, g, l, w, s) xm xi xw im le nu rf ln nn vp xn xc vs))) (fun f => rfl) ?_
  refine mr_call (y := 140) (y0 := 4) (L := [some (.int x)]) (rest := []) (rr := some (.int 0)) (M1 := (mk_M c n m kk (rT (he, ke, ki, fi, fa, or, mi, a, g, l, w, s) xm xi xw im le nu rf ln nn vp xn xc vs))) (fun f => rfl) (ms_c2_lo (x := x) (mz_lt_t 0 (by decide) (by omega))) ?_
  refine mr_seg 7 (pc1 := 25) (ls1 := [some (.ref 138), some (.int x), some (.int y), some (.int (-1))]) (st1 := [.int (-1), .ref 138]) (M1 := (mk_M c n m kk (rT (he, ke, ki, fi, fa, or, mi, a, g, l, w, s) xm xi xw im le nu rf ln nn vp xn xc vs))) (fun f => rfl) ?_
  refine mr_call (y := 130) (y0 := 28) (L := [some (.ref 138), some (.int (-1))]) (rest := []) (rr := some (.int (-1))) (M1 := (mk_M c n m kk (rT (he, ke, ki, fi, fa, or, mi, a, g, l, w, s) xm xi xw im le nu (rf.set 1 (kg rf 1 + 1)) ln nn vp xn xc vs))) (fun f => rfl) (ms_no1 hD) ?_
  exact mr_ret 2 (fun f => rfl)
theorem oe_heaps_0 (he ke ki fi fa or : List Nat) (mi a g l w s : Nat) (m : kG) (kk : kG) (im : Nat) (le : List Nat) (ln : Nat) (ys : List Int32) (vt : Int32) (nu : List Nat) (nn : Nat) (rf : List Nat) (vw : Int32) (vq : Int32) (yc : List Int32) (yh : List Int32) (yg : List Int32) (xm : List Int32) (xi : List Int32) (xw : List Int32) (vp : Int32) (xn : List Int32) (xc : List Int32) (vs : Int32) (hA : iA (he, ke, ki, fi, fa, or, mi, a, g, l, w, s)) (hB : iB le ln) (hC : iC nu nn) (hD : iD rf) (hJ : iJ m ys yc yh yg) (hR : iR xm xw xn xc) (hK : iK im kk xi) (x : Int32) (hxu : x.toInt ≤ -1) (y : Int32) : oI 65 158 [some (.ref 100), some (.int x), some (.int y), none] [some (.ref 138), some (.int x), some (.int y), none] (mk_M (cT im le ln ys vt nu nn rf vw vq yc yh yg) (kr (he, ke, ki, fi, fa, or, mi, a, g, l, w, s)) m kk (rT (he, ke, ki, fi, fa, or, mi, a, g, l, w, s) xm xi xw im le nu rf ln nn vp xn xc vs)) := by
  exact ⟨(-1), _, _, oc_heaps_0 he ke ki fi fa or mi a g l w s im le ln ys vt nu nn rf vw vq yc yh yg m kk _ hA hB hC hD hJ hK.1 x hxu y, om_heaps_0 he ke ki fi fa or mi a g l w s xm xi xw im le nu rf ln nn vp xn xc vs _ _ _ _ hA hB hC hD hR hK.2.1 x hxu y, (he, ke, ki, fi, fa, or, mi, a, g, l, w, s), m, kk, im, le, ln, ys, vt, nu, nn, (rf.set 1 (kg rf 1 + 1)), vw, vq, yc, yh, yg, xm, xi, xw, vp, xn, xc, vs, rfl, hA, hB, hC, iD_s hD, hJ, hR, hK⟩
set_option maxRecDepth 100000 in
theorem oc_heaps_1 (he ke ki fi fa or : List Nat) (mi a g l w s : Nat) (im : Nat) (le : List Nat) (ln : Nat) (ys : List Int32) (vt : Int32) (nu : List Nat) (nn : Nat) (rf : List Nat) (vw vq : Int32) (yc yh yg : List Int32) (m kk : kG) (q : cR) (hA : iA (he, ke, ki, fi, fa, or, mi, a, g, l, w, s)) (hB : iB le ln) (hC : iC nu nn) (hD : iD rf) (hJ : iJ m ys yc yh yg) (k0 : kSh kk) (x : Int32) (hxl : 25 ≤ x.toInt) (y : Int32) : mm_R 65 0 [some (.ref 100), some (.int x), some (.int y), none] [] (mk_M (cT im le ln ys vt nu nn rf vw vq yc yh yg) (kr (he, ke, ki, fi, fa, or, mi, a, g, l, w, s)) m kk q) (some (.int (-1)), (mk_M (cT im le ln ys vt nu nn (rf.set 1 (kg rf 1 + 1)) vw vq yc yh yg) (kr (he, ke, ki, fi, fa, or, mi, a, g, l, w, s)) m kk q)) := by
  have hst2 : s ≤ 999 := hA.2
  have v7 : mi ≤ 5 := hA.1.2.2.2.2.2.2.1
  have b3 : ln ≤ 96 := hB.2.2
  have c3 : nn ≤ 16 := hC.2.2
  refine mr_seg 1 (pc1 := 1) (ls1 := [some (.ref 100), some (.int x), some (.int y), none]) (st1 := [.int x]) (M1 := (mk_M (cT im le ln ys vt nu nn rf vw vq yc yh yg) (kr (he, ke, ki, fi, fa, or, mi, a, g, l, w, s)) m kk q)) (fun f => rfl) ?_
  refine mr_call (y := 37) (y0 := 4) (L := [some (.int x)]) (rest := []) (rr := some (.int 0)) (M1 := (mk_M (cT im le ln ys vt nu nn rf vw vq yc yh yg) (kr (he, ke, ki, fi, fa, or, mi, a, g, l, w, s)) m kk q)) (fun f => rfl) (ms_c1_hi (x := x) (mz_lt_f 0 (by decide) (by omega)) (mz_ge_t 25 (by decide) (by omega))) ?_
  refine mr_seg 3 (pc1 := 9) (ls1 := [some (.ref 100), some (.int x), some (.int y), none]) (st1 := [.int (-1), .ref 100]) (M1 := (mk_M (cT im le ln ys vt nu nn rf vw vq yc yh yg) (kr (he, ke, ki, fi, fa, or, mi, a, g, l, w, s)) m kk q)) (fun f => rfl) ?_
  refine mr_call (y := 12) (y0 := 12) (L := [some (.ref 100), some (.int (-1))]) (rest := []) (rr := some (.int (-1))) (M1 := (mk_M (cT im le ln ys vt nu nn (rf.set 1 (kg rf 1 + 1)) vw vq yc yh yg) (kr (he, ke, ki, fi, fa, or, mi, a, g, l, w, s)) m kk q)) (fun f => rfl) (ms_re1 hD) ?_
  exact mr_ret 1 (fun f => rfl)
set_option maxRecDepth 100000 in
theorem om_heaps_1 (he ke ki fi fa or : List Nat) (mi a g l w s : Nat) (xm xi xw : List Int32) (im : Nat) (le nu rf : List Nat) (ln nn : Nat) (vp : Int32) (xn xc : List Int32) (vs : Int32) (c : cC) (n m kk : kG) (hA : iA (he, ke, ki, fi, fa, or, mi, a, g, l, w, s)) (hB : iB le ln) (hC : iC nu nn) (hD : iD rf) (hR : iR xm xw xn xc) (k1 : xi.length = 52) (x : Int32) (hxl : 25 ≤ x.toInt) (y : Int32) : mm_R 158 0 [some (.ref 138), some (.int x), some (.int y), none] [] (mk_M c n m kk (rT (he, ke, ki, fi, fa, or, mi, a, g, l, w, s) xm xi xw im le nu rf ln nn vp xn xc vs)) (some (.int (-1)), (mk_M c n m kk (rT (he, ke, ki, fi, fa, or, mi, a, g, l, w, s) xm xi xw im le nu (rf.set 1 (kg rf 1 + 1)) ln nn vp xn xc vs))) := by
  have hst2 : s ≤ 999 := hA.2
  have v7 : mi ≤ 5 := hA.1.2.2.2.2.2.2.1
  have b3 : ln ≤ 96 := hB.2.2
  have c3 : nn ≤ 16 := hC.2.2
  refine mr_seg 1 (pc1 := 1) (ls1 := [some (.ref 138), some (.int x), some (.int y), none]) (st1 := [.int x]) (M1 := (mk_M c n m kk (rT (he, ke, ki, fi, fa, or, mi, a, g, l, w, s) xm xi xw im le nu rf ln nn vp xn xc vs))) (fun f => rfl) ?_
  refine mr_call (y := 140) (y0 := 4) (L := [some (.int x)]) (rest := []) (rr := some (.int 0)) (M1 := (mk_M c n m kk (rT (he, ke, ki, fi, fa, or, mi, a, g, l, w, s) xm xi xw im le nu rf ln nn vp xn xc vs))) (fun f => rfl) (ms_c2_hi (x := x) (mz_lt_f 0 (by decide) (by omega)) (mz_gt_t 24 (by decide) (by omega))) ?_
  refine mr_seg 7 (pc1 := 25) (ls1 := [some (.ref 138), some (.int x), some (.int y), some (.int (-1))]) (st1 := [.int (-1), .ref 138]) (M1 := (mk_M c n m kk (rT (he, ke, ki, fi, fa, or, mi, a, g, l, w, s) xm xi xw im le nu rf ln nn vp xn xc vs))) (fun f => rfl) ?_
  refine mr_call (y := 130) (y0 := 28) (L := [some (.ref 138), some (.int (-1))]) (rest := []) (rr := some (.int (-1))) (M1 := (mk_M c n m kk (rT (he, ke, ki, fi, fa, or, mi, a, g, l, w, s) xm xi xw im le nu (rf.set 1 (kg rf 1 + 1)) ln nn vp xn xc vs))) (fun f => rfl) (ms_no1 hD) ?_
  exact mr_ret 2 (fun f => rfl)
theorem oe_heaps_1 (he ke ki fi fa or : List Nat) (mi a g l w s : Nat) (m : kG) (kk : kG) (im : Nat) (le : List Nat) (ln : Nat) (ys : List Int32) (vt : Int32) (nu : List Nat) (nn : Nat) (rf : List Nat) (vw : Int32) (vq : Int32) (yc : List Int32) (yh : List Int32) (yg : List Int32) (xm : List Int32) (xi : List Int32) (xw : List Int32) (vp : Int32) (xn : List Int32) (xc : List Int32) (vs : Int32) (hA : iA (he, ke, ki, fi, fa, or, mi, a, g, l, w, s)) (hB : iB le ln) (hC : iC nu nn) (hD : iD rf) (hJ : iJ m ys yc yh yg) (hR : iR xm xw xn xc) (hK : iK im kk xi) (x : Int32) (hxl : 25 ≤ x.toInt) (y : Int32) : oI 65 158 [some (.ref 100), some (.int x), some (.int y), none] [some (.ref 138), some (.int x), some (.int y), none] (mk_M (cT im le ln ys vt nu nn rf vw vq yc yh yg) (kr (he, ke, ki, fi, fa, or, mi, a, g, l, w, s)) m kk (rT (he, ke, ki, fi, fa, or, mi, a, g, l, w, s) xm xi xw im le nu rf ln nn vp xn xc vs)) := by
  exact ⟨(-1), _, _, oc_heaps_1 he ke ki fi fa or mi a g l w s im le ln ys vt nu nn rf vw vq yc yh yg m kk _ hA hB hC hD hJ hK.1 x hxl y, om_heaps_1 he ke ki fi fa or mi a g l w s xm xi xw im le nu rf ln nn vp xn xc vs _ _ _ _ hA hB hC hD hR hK.2.1 x hxl y, (he, ke, ki, fi, fa, or, mi, a, g, l, w, s), m, kk, im, le, ln, ys, vt, nu, nn, (rf.set 1 (kg rf 1 + 1)), vw, vq, yc, yh, yg, xm, xi, xw, vp, xn, xc, vs, rfl, hA, hB, hC, iD_s hD, hJ, hR, hK⟩
set_option maxRecDepth 100000 in
theorem oc_heaps_2 (he ke ki fi fa or : List Nat) (mi a g l w s : Nat) (im : Nat) (le : List Nat) (ln : Nat) (ys : List Int32) (vt : Int32) (nu : List Nat) (nn : Nat) (rf : List Nat) (vw vq : Int32) (yc yh yg : List Int32) (m kk : kG) (q : cR) (hA : iA (he, ke, ki, fi, fa, or, mi, a, g, l, w, s)) (hB : iB le ln) (hC : iC nu nn) (hD : iD rf) (hJ : iJ m ys yc yh yg) (k0 : kSh kk) (x : Nat) (hx : x < 25) (y : Int32) (hyu : y.toInt ≤ -1) : mm_R 65 0 [some (.ref 100), some (.int (nI x)), some (.int y), none] [] (mk_M (cT im le ln ys vt nu nn rf vw vq yc yh yg) (kr (he, ke, ki, fi, fa, or, mi, a, g, l, w, s)) m kk q) (some (.int (-4)), (mk_M (cT im le ln ys vt nu nn (rf.set 4 (kg rf 4 + 1)) vw vq yc yh yg) (kr (he, ke, ki, fi, fa, or, mi, a, g, l, w, s)) m kk q)) := by
  have hst2 : s ≤ 999 := hA.2
  have v7 : mi ≤ 5 := hA.1.2.2.2.2.2.2.1
  have b3 : ln ≤ 96 := hB.2.2
  have c3 : nn ≤ 16 := hC.2.2
  refine mr_seg 1 (pc1 := 1) (ls1 := [some (.ref 100), some (.int (nI x)), some (.int y), none]) (st1 := [.int (nI x)]) (M1 := (mk_M (cT im le ln ys vt nu nn rf vw vq yc yh yg) (kr (he, ke, ki, fi, fa, or, mi, a, g, l, w, s)) m kk q)) (fun f => rfl) ?_
  refine mr_call (y := 37) (y0 := 4) (L := [some (.int (nI x))]) (rest := []) (rr := some (.int 1)) (M1 := (mk_M (cT im le ln ys vt nu nn rf vw vq yc yh yg) (kr (he, ke, ki, fi, fa, or, mi, a, g, l, w, s)) m kk q)) (fun f => rfl) (ms_c1_ok (x := (nI x)) (nI_ltf (a := x) (b := 0) (by omega)) (nI_lef (a := 25) (b := x) (by omega))) ?_
  refine mr_seg 2 (pc1 := 14) (ls1 := [some (.ref 100), some (.int (nI x)), some (.int y), none]) (st1 := [.int y]) (M1 := (mk_M (cT im le ln ys vt nu nn rf vw vq yc yh yg) (kr (he, ke, ki, fi, fa, or, mi, a, g, l, w, s)) m kk q)) (fun f => rfl) ?_
  refine mr_f (C := 0 ≤ y) (mz_ge_f 0 (by decide) (by omega)) (fun f => rfl) ?_
  refine mr_seg 2 (pc1 := 20) (ls1 := [some (.ref 100), some (.int (nI x)), some (.int y), none]) (st1 := [.int (-4), .ref 100]) (M1 := (mk_M (cT im le ln ys vt nu nn rf vw vq yc yh yg) (kr (he, ke, ki, fi, fa, or, mi, a, g, l, w, s)) m kk q)) (fun f => rfl) ?_
  refine mr_call (y := 12) (y0 := 23) (L := [some (.ref 100), some (.int (-4))]) (rest := []) (rr := some (.int (-4))) (M1 := (mk_M (cT im le ln ys vt nu nn (rf.set 4 (kg rf 4 + 1)) vw vq yc yh yg) (kr (he, ke, ki, fi, fa, or, mi, a, g, l, w, s)) m kk q)) (fun f => rfl) (ms_re4 hD) ?_
  exact mr_ret 1 (fun f => rfl)
set_option maxRecDepth 100000 in
theorem om_heaps_2 (he ke ki fi fa or : List Nat) (mi a g l w s : Nat) (xm xi xw : List Int32) (im : Nat) (le nu rf : List Nat) (ln nn : Nat) (vp : Int32) (xn xc : List Int32) (vs : Int32) (c : cC) (n m kk : kG) (hA : iA (he, ke, ki, fi, fa, or, mi, a, g, l, w, s)) (hB : iB le ln) (hC : iC nu nn) (hD : iD rf) (hR : iR xm xw xn xc) (k1 : xi.length = 52) (x : Nat) (hx : x < 25) (y : Int32) (hyu : y.toInt ≤ -1) : mm_R 158 0 [some (.ref 138), some (.int (nI x)), some (.int y), none] [] (mk_M c n m kk (rT (he, ke, ki, fi, fa, or, mi, a, g, l, w, s) xm xi xw im le nu rf ln nn vp xn xc vs)) (some (.int (-4)), (mk_M c n m kk (rT (he, ke, ki, fi, fa, or, mi, a, g, l, w, s) xm xi xw im le nu (rf.set 4 (kg rf 4 + 1)) ln nn vp xn xc vs))) := by
  have hst2 : s ≤ 999 := hA.2
  have v7 : mi ≤ 5 := hA.1.2.2.2.2.2.2.1
  have b3 : ln ≤ 96 := hB.2.2
  have c3 : nn ≤ 16 := hC.2.2
  refine mr_seg 1 (pc1 := 1) (ls1 := [some (.ref 138), some (.int (nI x)), some (.int y), none]) (st1 := [.int (nI x)]) (M1 := (mk_M c n m kk (rT (he, ke, ki, fi, fa, or, mi, a, g, l, w, s) xm xi xw im le nu rf ln nn vp xn xc vs))) (fun f => rfl) ?_
  refine mr_call (y := 140) (y0 := 4) (L := [some (.int (nI x))]) (rest := []) (rr := some (.int 1)) (M1 := (mk_M c n m kk (rT (he, ke, ki, fi, fa, or, mi, a, g, l, w, s) xm xi xw im le nu rf ln nn vp xn xc vs))) (fun f => rfl) (ms_c2_ok (x := (nI x)) (nI_ltf (a := x) (b := 0) (by omega)) (nI_ltf (a := 24) (b := x) (by omega))) ?_
  refine mr_seg 4 (pc1 := 11) (ls1 := [some (.ref 138), some (.int (nI x)), some (.int y), none]) (st1 := [.int 9, .int 0, .int y]) (M1 := (mk_M c n m kk (rT (he, ke, ki, fi, fa, or, mi, a, g, l, w, s) xm xi xw im le nu rf ln nn vp xn xc vs))) (fun f => rfl) ?_
  refine mr_call (y := 159) (y0 := 14) (L := [some (.int y), some (.int 0), some (.int 9)]) (rest := []) (rr := some (.int (-4))) (M1 := (mk_M c n m kk (rT (he, ke, ki, fi, fa, or, mi, a, g, l, w, s) xm xi xw im le nu rf ln nn vp xn xc vs))) (fun f => rfl) (ms_wb_lo (x := y) (a := 0) (b := 9) (mz_ge_f 0 (by decide) (by omega))) ?_
  refine mr_seg 6 (pc1 := 25) (ls1 := [some (.ref 138), some (.int (nI x)), some (.int y), some (.int (-4))]) (st1 := [.int (-4), .ref 138]) (M1 := (mk_M c n m kk (rT (he, ke, ki, fi, fa, or, mi, a, g, l, w, s) xm xi xw im le nu rf ln nn vp xn xc vs))) (fun f => rfl) ?_
  refine mr_call (y := 130) (y0 := 28) (L := [some (.ref 138), some (.int (-4))]) (rest := []) (rr := some (.int (-4))) (M1 := (mk_M c n m kk (rT (he, ke, ki, fi, fa, or, mi, a, g, l, w, s) xm xi xw im le nu (rf.set 4 (kg rf 4 + 1)) ln nn vp xn xc vs))) (fun f => rfl) (ms_no4 hD) ?_
  exact mr_ret 2 (fun f => rfl)
theorem oe_heaps_2 (he ke ki fi fa or : List Nat) (mi a g l w s : Nat) (m : kG) (kk : kG) (im : Nat) (le : List Nat) (ln : Nat) (ys : List Int32) (vt : Int32) (nu : List Nat) (nn : Nat) (rf : List Nat) (vw : Int32) (vq : Int32) (yc : List Int32) (yh : List Int32) (yg : List Int32) (xm : List Int32) (xi : List Int32) (xw : List Int32) (vp : Int32) (xn : List Int32) (xc : List Int32) (vs : Int32) (hA : iA (he, ke, ki, fi, fa, or, mi, a, g, l, w, s)) (hB : iB le ln) (hC : iC nu nn) (hD : iD rf) (hJ : iJ m ys yc yh yg) (hR : iR xm xw xn xc) (hK : iK im kk xi) (x : Nat) (hx : x < 25) (y : Int32) (hyu : y.toInt ≤ -1) : oI 65 158 [some (.ref 100), some (.int (nI x)), some (.int y), none] [some (.ref 138), some (.int (nI x)), some (.int y), none] (mk_M (cT im le ln ys vt nu nn rf vw vq yc yh yg) (kr (he, ke, ki, fi, fa, or, mi, a, g, l, w, s)) m kk (rT (he, ke, ki, fi, fa, or, mi, a, g, l, w, s) xm xi xw im le nu rf ln nn vp xn xc vs)) := by
  exact ⟨(-4), _, _, oc_heaps_2 he ke ki fi fa or mi a g l w s im le ln ys vt nu nn rf vw vq yc yh yg m kk _ hA hB hC hD hJ hK.1 x hx y hyu, om_heaps_2 he ke ki fi fa or mi a g l w s xm xi xw im le nu rf ln nn vp xn xc vs _ _ _ _ hA hB hC hD hR hK.2.1 x hx y hyu, (he, ke, ki, fi, fa, or, mi, a, g, l, w, s), m, kk, im, le, ln, ys, vt, nu, nn, (rf.set 4 (kg rf 4 + 1)), vw, vq, yc, yh, yg, xm, xi, xw, vp, xn, xc, vs, rfl, hA, hB, hC, iD_s hD, hJ, hR, hK⟩
set_option maxRecDepth 100000 in
theorem oc_heaps_3 (he ke ki fi fa or : List Nat) (mi a g l w s : Nat) (im : Nat) (le : List Nat) (ln : Nat) (ys : List Int32) (vt : Int32) (nu : List Nat) (nn : Nat) (rf : List Nat) (vw vq : Int32) (yc yh yg : List Int32) (m kk : kG) (q : cR) (hA : iA (he, ke, ki, fi, fa, or, mi, a, g, l, w, s)) (hB : iB le ln) (hC : iC nu nn) (hD : iD rf) (hJ : iJ m ys yc yh yg) (k0 : kSh kk) (x : Nat) (hx : x < 25) (y : Int32) (hyl : 10 ≤ y.toInt) : mm_R 65 0 [some (.ref 100), some (.int (nI x)), some (.int y), none] [] (mk_M (cT im le ln ys vt nu nn rf vw vq yc yh yg) (kr (he, ke, ki, fi, fa, or, mi, a, g, l, w, s)) m kk q) (some (.int (-6)), (mk_M (cT im le ln ys vt nu nn (rf.set 6 (kg rf 6 + 1)) vw vq yc yh yg) (kr (he, ke, ki, fi, fa, or, mi, a, g, l, w, s)) m kk q)) := by
  have hst2 : s ≤ 999 := hA.2
  have v7 : mi ≤ 5 := hA.1.2.2.2.2.2.2.1
  have b3 : ln ≤ 96 := hB.2.2
  have c3 : nn ≤ 16 := hC.2.2
  refine mr_seg 1 (pc1 := 1) (ls1 := [some (.ref 100), some (.int (nI x)), some (.int y), none]) (st1 := [.int (nI x)]) (M1 := (mk_M (cT im le ln ys vt nu nn rf vw vq yc yh yg) (kr (he, ke, ki, fi, fa, or, mi, a, g, l, w, s)) m kk q)) (fun f => rfl) ?_
  refine mr_call (y := 37) (y0 := 4) (L := [some (.int (nI x))]) (rest := []) (rr := some (.int 1)) (M1 := (mk_M (cT im le ln ys vt nu nn rf vw vq yc yh yg) (kr (he, ke, ki, fi, fa, or, mi, a, g, l, w, s)) m kk q)) (fun f => rfl) (ms_c1_ok (x := (nI x)) (nI_ltf (a := x) (b := 0) (by omega)) (nI_lef (a := 25) (b := x) (by omega))) ?_
  refine mr_seg 2 (pc1 := 14) (ls1 := [some (.ref 100), some (.int (nI x)), some (.int y), none]) (st1 := [.int y]) (M1 := (mk_M (cT im le ln ys vt nu nn rf vw vq yc yh yg) (kr (he, ke, ki, fi, fa, or, mi, a, g, l, w, s)) m kk q)) (fun f => rfl) ?_
  refine mr_t (C := 0 ≤ y) (mz_ge_t 0 (by decide) (by omega)) (fun f => rfl) ?_
  refine mr_seg 2 (pc1 := 27) (ls1 := [some (.ref 100), some (.int (nI x)), some (.int y), none]) (st1 := [.int 9, .int y]) (M1 := (mk_M (cT im le ln ys vt nu nn rf vw vq yc yh yg) (kr (he, ke, ki, fi, fa, or, mi, a, g, l, w, s)) m kk q)) (fun f => rfl) ?_
  refine mr_f (C := y ≤ 9) (mz_le_f 9 (by decide) (by omega)) (fun f => rfl) ?_
  refine mr_seg 2 (pc1 := 33) (ls1 := [some (.ref 100), some (.int (nI x)), some (.int y), none]) (st1 := [.int (-6), .ref 100]) (M1 := (mk_M (cT im le ln ys vt nu nn rf vw vq yc yh yg) (kr (he, ke, ki, fi, fa, or, mi, a, g, l, w, s)) m kk q)) (fun f => rfl) ?_
  refine mr_call (y := 12) (y0 := 36) (L := [some (.ref 100), some (.int (-6))]) (rest := []) (rr := some (.int (-6))) (M1 := (mk_M (cT im le ln ys vt nu nn (rf.set 6 (kg rf 6 + 1)) vw vq yc yh yg) (kr (he, ke, ki, fi, fa, or, mi, a, g, l, w, s)) m kk q)) (fun f => rfl) (ms_re6 hD) ?_
  exact mr_ret 1 (fun f => rfl)
set_option maxRecDepth 100000 in
theorem om_heaps_3 (he ke ki fi fa or : List Nat) (mi a g l w s : Nat) (xm xi xw : List Int32) (im : Nat) (le nu rf : List Nat) (ln nn : Nat) (vp : Int32) (xn xc : List Int32) (vs : Int32) (c : cC) (n m kk : kG) (hA : iA (he, ke, ki, fi, fa, or, mi, a, g, l, w, s)) (hB : iB le ln) (hC : iC nu nn) (hD : iD rf) (hR : iR xm xw xn xc) (k1 : xi.length = 52) (x : Nat) (hx : x < 25) (y : Int32) (hyl : 10 ≤ y.toInt) : mm_R 158 0 [some (.ref 138), some (.int (nI x)), some (.int y), none] [] (mk_M c n m kk (rT (he, ke, ki, fi, fa, or, mi, a, g, l, w, s) xm xi xw im le nu rf ln nn vp xn xc vs)) (some (.int (-6)), (mk_M c n m kk (rT (he, ke, ki, fi, fa, or, mi, a, g, l, w, s) xm xi xw im le nu (rf.set 6 (kg rf 6 + 1)) ln nn vp xn xc vs))) := by
  have hst2 : s ≤ 999 := hA.2
  have v7 : mi ≤ 5 := hA.1.2.2.2.2.2.2.1
  have b3 : ln ≤ 96 := hB.2.2
  have c3 : nn ≤ 16 := hC.2.2
  refine mr_seg 1 (pc1 := 1) (ls1 := [some (.ref 138), some (.int (nI x)), some (.int y), none]) (st1 := [.int (nI x)]) (M1 := (mk_M c n m kk (rT (he, ke, ki, fi, fa, or, mi, a, g, l, w, s) xm xi xw im le nu rf ln nn vp xn xc vs))) (fun f => rfl) ?_
  refine mr_call (y := 140) (y0 := 4) (L := [some (.int (nI x))]) (rest := []) (rr := some (.int 1)) (M1 := (mk_M c n m kk (rT (he, ke, ki, fi, fa, or, mi, a, g, l, w, s) xm xi xw im le nu rf ln nn vp xn xc vs))) (fun f => rfl) (ms_c2_ok (x := (nI x)) (nI_ltf (a := x) (b := 0) (by omega)) (nI_ltf (a := 24) (b := x) (by omega))) ?_
  refine mr_seg 4 (pc1 := 11) (ls1 := [some (.ref 138), some (.int (nI x)), some (.int y), none]) (st1 := [.int 9, .int 0, .int y]) (M1 := (mk_M c n m kk (rT (he, ke, ki, fi, fa, or, mi, a, g, l, w, s) xm xi xw im le nu rf ln nn vp xn xc vs))) (fun f => rfl) ?_
  refine mr_call (y := 159) (y0 := 14) (L := [some (.int y), some (.int 0), some (.int 9)]) (rest := []) (rr := some (.int (-6))) (M1 := (mk_M c n m kk (rT (he, ke, ki, fi, fa, or, mi, a, g, l, w, s) xm xi xw im le nu rf ln nn vp xn xc vs))) (fun f => rfl) (ms_wb_hi (x := y) (a := 0) (b := 9) (mz_ge_t 0 (by decide) (by omega)) (mz_le_f 9 (by decide) (by omega))) ?_
  refine mr_seg 6 (pc1 := 25) (ls1 := [some (.ref 138), some (.int (nI x)), some (.int y), some (.int (-6))]) (st1 := [.int (-6), .ref 138]) (M1 := (mk_M c n m kk (rT (he, ke, ki, fi, fa, or, mi, a, g, l, w, s) xm xi xw im le nu rf ln nn vp xn xc vs))) (fun f => rfl) ?_
  refine mr_call (y := 130) (y0 := 28) (L := [some (.ref 138), some (.int (-6))]) (rest := []) (rr := some (.int (-6))) (M1 := (mk_M c n m kk (rT (he, ke, ki, fi, fa, or, mi, a, g, l, w, s) xm xi xw im le nu (rf.set 6 (kg rf 6 + 1)) ln nn vp xn xc vs))) (fun f => rfl) (ms_no6 hD) ?_
  exact mr_ret 2 (fun f => rfl)
theorem oe_heaps_3 (he ke ki fi fa or : List Nat) (mi a g l w s : Nat) (m : kG) (kk : kG) (im : Nat) (le : List Nat) (ln : Nat) (ys : List Int32) (vt : Int32) (nu : List Nat) (nn : Nat) (rf : List Nat) (vw : Int32) (vq : Int32) (yc : List Int32) (yh : List Int32) (yg : List Int32) (xm : List Int32) (xi : List Int32) (xw : List Int32) (vp : Int32) (xn : List Int32) (xc : List Int32) (vs : Int32) (hA : iA (he, ke, ki, fi, fa, or, mi, a, g, l, w, s)) (hB : iB le ln) (hC : iC nu nn) (hD : iD rf) (hJ : iJ m ys yc yh yg) (hR : iR xm xw xn xc) (hK : iK im kk xi) (x : Nat) (hx : x < 25) (y : Int32) (hyl : 10 ≤ y.toInt) : oI 65 158 [some (.ref 100), some (.int (nI x)), some (.int y), none] [some (.ref 138), some (.int (nI x)), some (.int y), none] (mk_M (cT im le ln ys vt nu nn rf vw vq yc yh yg) (kr (he, ke, ki, fi, fa, or, mi, a, g, l, w, s)) m kk (rT (he, ke, ki, fi, fa, or, mi, a, g, l, w, s) xm xi xw im le nu rf ln nn vp xn xc vs)) := by
  exact ⟨(-6), _, _, oc_heaps_3 he ke ki fi fa or mi a g l w s im le ln ys vt nu nn rf vw vq yc yh yg m kk _ hA hB hC hD hJ hK.1 x hx y hyl, om_heaps_3 he ke ki fi fa or mi a g l w s xm xi xw im le nu rf ln nn vp xn xc vs _ _ _ _ hA hB hC hD hR hK.2.1 x hx y hyl, (he, ke, ki, fi, fa, or, mi, a, g, l, w, s), m, kk, im, le, ln, ys, vt, nu, nn, (rf.set 6 (kg rf 6 + 1)), vw, vq, yc, yh, yg, xm, xi, xw, vp, xn, xc, vs, rfl, hA, hB, hC, iD_s hD, hJ, hR, hK⟩
set_option maxRecDepth 100000 in
theorem oc_heaps_4 (he ke ki fi fa or : List Nat) (mi a g l w s : Nat) (im : Nat) (le : List Nat) (ln : Nat) (ys : List Int32) (vt : Int32) (nu : List Nat) (nn : Nat) (rf : List Nat) (vw vq : Int32) (yc yh yg : List Int32) (m kk : kG) (q : cR) (hA : iA (he, ke, ki, fi, fa, or, mi, a, g, l, w, s)) (hB : iB le ln) (hC : iC nu nn) (hD : iD rf) (hJ : iJ m ys yc yh yg) (k0 : kSh kk) (x : Nat) (hx : x < 25) (y : Nat) (hy : y < 10) : mm_R 65 0 [some (.ref 100), some (.int (nI x)), some (.int (nI y)), none] [] (mk_M (cT im le ln ys vt nu nn rf vw vq yc yh yg) (kr (he, ke, ki, fi, fa, or, mi, a, g, l, w, s)) m kk q) (some (.int (nI (kg he x))), (mk_M (cT im le ln ys vt nu nn rf vw vq yc yh yg) (kr (he.set x y, ke, ki, fi, fa, or, mi, a, g, l, w, s)) m kk q)) := by
  obtain ⟨hV, hst⟩ := id hA
  have hst2 : s ≤ 999 := hst
  obtain ⟨v1, v2, v3, v4, v5, v6, v7, v8, v9, v10, v11, v12, v13, v14, v15, v16⟩ := id hV
  have v6l := kO_len mi v7 or v6
  obtain ⟨b1, b2, b3⟩ := id hB
  obtain ⟨c1, c2, c3⟩ := id hC
  have d1 : rf.length = 7 := hD
  obtain ⟨j0, j1, j2, j3, j4⟩ := id hJ
  refine mr_seg 1 (pc1 := 1) (ls1 := [some (.ref 100), some (.int (nI x)), some (.int (nI y)), none]) (st1 := [.int (nI x)]) (M1 := (mk_M (cT im le ln ys vt nu nn rf vw vq yc yh yg) (kr (he, ke, ki, fi, fa, or, mi, a, g, l, w, s)) m kk q)) (fun f => rfl) ?_
  refine mr_call (y := 37) (y0 := 4) (L := [some (.int (nI x))]) (rest := []) (rr := some (.int 1)) (M1 := (mk_M (cT im le ln ys vt nu nn rf vw vq yc yh yg) (kr (he, ke, ki, fi, fa, or, mi, a, g, l, w, s)) m kk q)) (fun f => rfl) (ms_c1_ok (x := (nI x)) (nI_ltf (a := x) (b := 0) (by omega)) (nI_lef (a := 25) (b := x) (by omega))) ?_
  refine mr_seg 2 (pc1 := 14) (ls1 := [some (.ref 100), some (.int (nI x)), some (.int (nI y)), none]) (st1 := [.int (nI y)]) (M1 := (mk_M (cT im le ln ys vt nu nn rf vw vq yc yh yg) (kr (he, ke, ki, fi, fa, or, mi, a, g, l, w, s)) m kk q)) (fun f => rfl) ?_
  refine mr_t (C := 0 ≤ (nI y)) (nI_let (a := 0) (b := y) (by omega)) (fun f => rfl) ?_
  refine mr_seg 2 (pc1 := 27) (ls1 := [some (.ref 100), some (.int (nI x)), some (.int (nI y)), none]) (st1 := [.int 9, .int (nI y)]) (M1 := (mk_M (cT im le ln ys vt nu nn rf vw vq yc yh yg) (kr (he, ke, ki, fi, fa, or, mi, a, g, l, w, s)) m kk q)) (fun f => rfl) ?_
  refine mr_t (C := (nI y) ≤ 9) (nI_let (a := y) (b := 9) (by omega)) (fun f => rfl) ?_
  refine mr_seg 4 (pc1 := 45) (ls1 := [some (.ref 100), some (.int (nI x)), some (.int (nI y)), none]) (st1 := [.int (nI x), .ref 118]) (M1 := (mk_M (cT im le ln ys vt nu nn rf vw vq yc yh yg) (kr (he, ke, ki, fi, fa, or, mi, a, g, l, w, s)) m kk q)) (fun f => rfl) ?_
  refine mr_ldk (l0 := he) rfl rfl (k := x) (by omega) ?_
  refine mr_seg 6 (pc1 := 56) (ls1 := [some (.ref 100), some (.int (nI x)), some (.int (nI y)), some (.int (nI (kg he x)))]) (st1 := [.int (nI y), .int (nI x), .ref 118]) (M1 := (mk_M (cT im le ln ys vt nu nn rf vw vq yc yh yg) (kr (he, ke, ki, fi, fa, or, mi, a, g, l, w, s)) m kk q)) (fun f => rfl) ?_
  refine mr_stk (l0 := he) (M2 := (mk_M (cT im le ln ys vt nu nn rf vw vq yc yh yg) (kr (he.set x y, ke, ki, fi, fa, or, mi, a, g, l, w, s)) m kk q)) rfl rfl (k := x) (v := y) (by omega) rfl ?_
  exact mr_ret 2 (fun f => rfl)
set_option maxRecDepth 100000 in
theorem om_heaps_4 (he ke ki fi fa or : List Nat) (mi a g l w s : Nat) (xm xi xw : List Int32) (im : Nat) (le nu rf : List Nat) (ln nn : Nat) (vp : Int32) (xn xc : List Int32) (vs : Int32) (c : cC) (n m kk : kG) (hA : iA (he, ke, ki, fi, fa, or, mi, a, g, l, w, s)) (hB : iB le ln) (hC : iC nu nn) (hD : iD rf) (hR : iR xm xw xn xc) (k1 : xi.length = 52) (x : Nat) (hx : x < 25) (y : Nat) (hy : y < 10) : mm_R 158 0 [some (.ref 138), some (.int (nI x)), some (.int (nI y)), none] [] (mk_M c n m kk (rT (he, ke, ki, fi, fa, or, mi, a, g, l, w, s) xm xi xw im le nu rf ln nn vp xn xc vs)) (some (.int (nI (kg he x))), (mk_M c n m kk (rT (he.set x y, ke, ki, fi, fa, or, mi, a, g, l, w, s) xm xi xw im le nu rf ln nn vp xn xc vs))) := by
  obtain ⟨hV, hst⟩ := id hA
  have hst2 : s ≤ 999 := hst
  obtain ⟨v1, v2, v3, v4, v5, v6, v7, v8, v9, v10, v11, v12, v13, v14, v15, v16⟩ := id hV
  have v6l := kO_len mi v7 or v6
  obtain ⟨b1, b2, b3⟩ := id hB
  obtain ⟨c1, c2, c3⟩ := id hC
  have d1 : rf.length = 7 := hD
  obtain ⟨r1, r2, r3, r4⟩ := id hR
  refine mr_seg 1 (pc1 := 1) (ls1 := [some (.ref 138), some (.int (nI x)), some (.int (nI y)), none]) (st1 := [.int (nI x)]) (M1 := (mk_M c n m kk (rT (he, ke, ki, fi, fa, or, mi, a, g, l, w, s) xm xi xw im le nu rf ln nn vp xn xc vs))) (fun f => rfl) ?_
  refine mr_call (y := 140) (y0 := 4) (L := [some (.int (nI x))]) (rest := []) (rr := some (.int 1)) (M1 := (mk_M c n m kk (rT (he, ke, ki, fi, fa, or, mi, a, g, l, w, s) xm xi xw im le nu rf ln nn vp xn xc vs))) (fun f => rfl) (ms_c2_ok (x := (nI x)) (nI_ltf (a := x) (b := 0) (by omega)) (nI_ltf (a := 24) (b := x) (by omega))) ?_
  refine mr_seg 4 (pc1 := 11) (ls1 := [some (.ref 138), some (.int (nI x)), some (.int (nI y)), none]) (st1 := [.int 9, .int 0, .int (nI y)]) (M1 := (mk_M c n m kk (rT (he, ke, ki, fi, fa, or, mi, a, g, l, w, s) xm xi xw im le nu rf ln nn vp xn xc vs))) (fun f => rfl) ?_
  refine mr_call (y := 159) (y0 := 14) (L := [some (.int (nI y)), some (.int 0), some (.int 9)]) (rest := []) (rr := some (.int 0)) (M1 := (mk_M c n m kk (rT (he, ke, ki, fi, fa, or, mi, a, g, l, w, s) xm xi xw im le nu rf ln nn vp xn xc vs))) (fun f => rfl) (ms_wb_ok (x := (nI y)) (a := 0) (b := 9) (nI_let (a := 0) (b := y) (by omega)) (nI_let (a := y) (b := 9) (by omega))) ?_
  refine mr_seg 8 (pc1 := 36) (ls1 := [some (.ref 138), some (.int (nI x)), some (.int (nI y)), some (.int 0)]) (st1 := [.int (7 + (nI x)), .ref 138]) (M1 := (mk_M c n m kk (rT (he, ke, ki, fi, fa, or, mi, a, g, l, w, s) xm xi xw im le nu rf ln nn vp xn xc vs))) (fun f => rfl) ?_
  refine mr_v (nI_add 7 x) ?_
  refine mr_seg 1 (pc1 := 37) (ls1 := [some (.ref 138), some (.int (nI x)), some (.int (nI y)), some (.int 0)]) (st1 := [.int (nI y), .int (nI (7 + x)), .ref 138]) (M1 := (mk_M c n m kk (rT (he, ke, ki, fi, fa, or, mi, a, g, l, w, s) xm xi xw im le nu rf ln nn vp xn xc vs))) (fun f => rfl) ?_
  refine mr_call (y := 160) (y0 := 40) (L := [some (.ref 138), some (.int (nI (7 + x))), some (.int (nI y)), none]) (rest := []) (rr := some (.int (nI (kg he x)))) (M1 := (mk_M c n m kk (rT (he.set x y, ke, ki, fi, fa, or, mi, a, g, l, w, s) xm xi xw im le nu rf ln nn vp xn xc vs))) (fun f => rfl) (by
      refine mr_seg 3 (pc1 := 5) (ls1 := [some (.ref 138), some (.int (nI (7 + x))), some (.int (nI y)), none]) (st1 := [.int (nI (7 + x)), .ref 139]) (M1 := (mk_M c n m kk (rT (he, ke, ki, fi, fa, or, mi, a, g, l, w, s) xm xi xw im le nu rf ln nn vp xn xc vs))) (fun f => rfl) ?_
      refine mr_ldn (xs := (er (he, ke, ki, fi, fa, or, mi, a, g, l, w, s))) rfl rfl (k := 7 + x) (by omega) (er_h (K := (he, ke, ki, fi, fa, or, mi, a, g, l, w, s)) v1 (by omega)) ?_
      refine mr_seg 5 (pc1 := 13) (ls1 := [some (.ref 138), some (.int (nI (7 + x))), some (.int (nI y)), some (.int (nI (kg he x)))]) (st1 := [.int (nI y), .int (nI (7 + x)), .ref 139]) (M1 := (mk_M c n m kk (rT (he, ke, ki, fi, fa, or, mi, a, g, l, w, s) xm xi xw im le nu rf ln nn vp xn xc vs))) (fun f => rfl) ?_
      refine mr_stn (xs := (er (he, ke, ki, fi, fa, or, mi, a, g, l, w, s))) (ys := (er (he.set x y, ke, ki, fi, fa, or, mi, a, g, l, w, s))) (M2 := (mk_M c n m kk (rT (he.set x y, ke, ki, fi, fa, or, mi, a, g, l, w, s) xm xi xw im le nu rf ln nn vp xn xc vs))) rfl rfl (k := 7 + x) (by omega) (by rw [er_leq (K := (he, ke, ki, fi, fa, or, mi, a, g, l, w, s)) v1 v6l]; omega) (er_hs (K := (he, ke, ki, fi, fa, or, mi, a, g, l, w, s)) v1 (by omega)) rfl ?_
      exact mr_ret 2 (fun f => rfl)) ?_
  exact mr_ret 1 (fun f => rfl)
theorem oe_heaps_4 (he ke ki fi fa or : List Nat) (mi a g l w s : Nat) (m : kG) (kk : kG) (im : Nat) (le : List Nat) (ln : Nat) (ys : List Int32) (vt : Int32) (nu : List Nat) (nn : Nat) (rf : List Nat) (vw : Int32) (vq : Int32) (yc : List Int32) (yh : List Int32) (yg : List Int32) (xm : List Int32) (xi : List Int32) (xw : List Int32) (vp : Int32) (xn : List Int32) (xc : List Int32) (vs : Int32) (hA : iA (he, ke, ki, fi, fa, or, mi, a, g, l, w, s)) (hB : iB le ln) (hC : iC nu nn) (hD : iD rf) (hJ : iJ m ys yc yh yg) (hR : iR xm xw xn xc) (hK : iK im kk xi) (x : Nat) (hx : x < 25) (y : Nat) (hy : y < 10) : oI 65 158 [some (.ref 100), some (.int (nI x)), some (.int (nI y)), none] [some (.ref 138), some (.int (nI x)), some (.int (nI y)), none] (mk_M (cT im le ln ys vt nu nn rf vw vq yc yh yg) (kr (he, ke, ki, fi, fa, or, mi, a, g, l, w, s)) m kk (rT (he, ke, ki, fi, fa, or, mi, a, g, l, w, s) xm xi xw im le nu rf ln nn vp xn xc vs)) := by
  obtain ⟨hV, hst⟩ := id hA
  have hst2 : s ≤ 999 := hst
  obtain ⟨v1, v2, v3, v4, v5, v6, v7, v8, v9, v10, v11, v12, v13, v14, v15, v16⟩ := id hV
  have v6l := kO_len mi v7 or v6
  obtain ⟨b1, b2, b3⟩ := id hB
  obtain ⟨c1, c2, c3⟩ := id hC
  have d1 : rf.length = 7 := hD
  obtain ⟨j0, j1, j2, j3, j4⟩ := id hJ
  obtain ⟨r1, r2, r3, r4⟩ := id hR
  obtain ⟨k0, k1, k2, k3⟩ := id hK
  exact ⟨(nI (kg he x)), _, _, oc_heaps_4 he ke ki fi fa or mi a g l w s im le ln ys vt nu nn rf vw vq yc yh yg m kk _ hA hB hC hD hJ hK.1 x hx y hy, om_heaps_4 he ke ki fi fa or mi a g l w s xm xi xw im le nu rf ln nn vp xn xc vs _ _ _ _ hA hB hC hD hR hK.2.1 x hx y hy, (he.set x y, ke, ki, fi, fa, or, mi, a, g, l, w, s), m, kk, im, le, ln, ys, vt, nu, nn, rf, vw, vq, yc, yh, yg, xm, xi, xw, vp, xn, xc, vs, rfl, ⟨⟨by rw [List.length_set]; exact v1, v2, v3, v4, v5, v6, v7, v8, v9, v10, v11, fun i => by rw [kg_setc]; split; omega; exact v12 i, v13, v14, v15, v16⟩, hst⟩, hB, hC, hD, hJ, hR, hK⟩
set_option maxRecDepth 100000 in
theorem oc_cell_0 (he ke ki fi fa or : List Nat) (mi a g l w s : Nat) (im : Nat) (le : List Nat) (ln : Nat) (ys : List Int32) (vt : Int32) (nu : List Nat) (nn : Nat) (rf : List Nat) (vw vq : Int32) (yc yh yg : List Int32) (m kk : kG) (q : cR) (hA : iA (he, ke, ki, fi, fa, or, mi, a, g, l, w, s)) (hB : iB le ln) (hC : iC nu nn) (hD : iD rf) (hJ : iJ m ys yc yh yg) (k0 : kSh kk) (x : Int32) (hxu : x.toInt ≤ -1) (y : Int32) : mm_R 63 0 [some (.ref 100), some (.int x), some (.int y)] [] (mk_M (cT im le ln ys vt nu nn rf vw vq yc yh yg) (kr (he, ke, ki, fi, fa, or, mi, a, g, l, w, s)) m kk q) (some (.int (-1)), (mk_M (cT im le ln ys vt nu nn (rf.set 1 (kg rf 1 + 1)) vw vq yc yh yg) (kr (he, ke, ki, fi, fa, or, mi, a, g, l, w, s)) m kk q)) := by
  have hst2 : s ≤ 999 := hA.2
  have v7 : mi ≤ 5 := hA.1.2.2.2.2.2.2.1
  have b3 : ln ≤ 96 := hB.2.2
  have c3 : nn ≤ 16 := hC.2.2
  refine mr_seg 1 (pc1 := 1) (ls1 := [some (.ref 100), some (.int x), some (.int y)]) (st1 := [.int x]) (M1 := (mk_M (cT im le ln ys vt nu nn rf vw vq yc yh yg) (kr (he, ke, ki, fi, fa, or, mi, a, g, l, w, s)) m kk q)) (fun f => rfl) ?_
  refine mr_call (y := 37) (y0 := 4) (L := [some (.int x)]) (rest := []) (rr := some (.int 0)) (M1 := (mk_M (cT im le ln ys vt nu nn rf vw vq yc yh yg) (kr (he, ke, ki, fi, fa, or, mi, a, g, l, w, s)) m kk q)) (fun f => rfl) (ms_c1_lo (x := x) (mz_lt_t 0 (by decide) (by omega))) ?_
  refine mr_seg 3 (pc1 := 9) (ls1 := [some (.ref 100), some (.int x), some (.int y)]) (st1 := [.int (-1), .ref 100]) (M1 := (mk_M (cT im le ln ys vt nu nn rf vw vq yc yh yg) (kr (he, ke, ki, fi, fa, or, mi, a, g, l, w, s)) m kk q)) (fun f => rfl) ?_
  refine mr_call (y := 12) (y0 := 12) (L := [some (.ref 100), some (.int (-1))]) (rest := []) (rr := some (.int (-1))) (M1 := (mk_M (cT im le ln ys vt nu nn (rf.set 1 (kg rf 1 + 1)) vw vq yc yh yg) (kr (he, ke, ki, fi, fa, or, mi, a, g, l, w, s)) m kk q)) (fun f => rfl) (ms_re1 hD) ?_
  exact mr_ret 1 (fun f => rfl)
set_option maxRecDepth 100000 in
theorem om_cell_0 (he ke ki fi fa or : List Nat) (mi a g l w s : Nat) (xm xi xw : List Int32) (im : Nat) (le nu rf : List Nat) (ln nn : Nat) (vp : Int32) (xn xc : List Int32) (vs : Int32) (c : cC) (n m kk : kG) (hA : iA (he, ke, ki, fi, fa, or, mi, a, g, l, w, s)) (hB : iB le ln) (hC : iC nu nn) (hD : iD rf) (hR : iR xm xw xn xc) (k1 : xi.length = 52) (x : Int32) (hxu : x.toInt ≤ -1) (y : Int32) : mm_R 156 0 [some (.ref 138), some (.int x), some (.int y)] [] (mk_M c n m kk (rT (he, ke, ki, fi, fa, or, mi, a, g, l, w, s) xm xi xw im le nu rf ln nn vp xn xc vs)) (some (.int (-1)), (mk_M c n m kk (rT (he, ke, ki, fi, fa, or, mi, a, g, l, w, s) xm xi xw im le nu (rf.set 1 (kg rf 1 + 1)) ln nn vp xn xc vs))) := by
  have hst2 : s ≤ 999 := hA.2
  have v7 : mi ≤ 5 := hA.1.2.2.2.2.2.2.1
  have b3 : ln ≤ 96 := hB.2.2
  have c3 : nn ≤ 16 := hC.2.2
  refine mr_seg 1 (pc1 := 1) (ls1 := [some (.ref 138), some (.int x), some (.int y)]) (st1 := [.int x]) (M1 := (mk_M c n m kk (rT (he, ke, ki, fi, fa, or, mi, a, g, l, w, s) xm xi xw im le nu rf ln nn vp xn xc vs))) (fun f => rfl) ?_
  refine mr_call (y := 140) (y0 := 4) (L := [some (.int x)]) (rest := []) (rr := some (.int 0)) (M1 := (mk_M c n m kk (rT (he, ke, ki, fi, fa, or, mi, a, g, l, w, s) xm xi xw im le nu rf ln nn vp xn xc vs))) (fun f => rfl) (ms_c2_lo (x := x) (mz_lt_t 0 (by decide) (by omega))) ?_
  refine mr_seg 3 (pc1 := 9) (ls1 := [some (.ref 138), some (.int x), some (.int y)]) (st1 := [.int (-1), .ref 138]) (M1 := (mk_M c n m kk (rT (he, ke, ki, fi, fa, or, mi, a, g, l, w, s) xm xi xw im le nu rf ln nn vp xn xc vs))) (fun f => rfl) ?_
  refine mr_call (y := 130) (y0 := 12) (L := [some (.ref 138), some (.int (-1))]) (rest := []) (rr := some (.int (-1))) (M1 := (mk_M c n m kk (rT (he, ke, ki, fi, fa, or, mi, a, g, l, w, s) xm xi xw im le nu (rf.set 1 (kg rf 1 + 1)) ln nn vp xn xc vs))) (fun f => rfl) (ms_no1 hD) ?_
  exact mr_ret 1 (fun f => rfl)
theorem oe_cell_0 (he ke ki fi fa or : List Nat) (mi a g l w s : Nat) (m : kG) (kk : kG) (im : Nat) (le : List Nat) (ln : Nat) (ys : List Int32) (vt : Int32) (nu : List Nat) (nn : Nat) (rf : List Nat) (vw : Int32) (vq : Int32) (yc : List Int32) (yh : List Int32) (yg : List Int32) (xm : List Int32) (xi : List Int32) (xw : List Int32) (vp : Int32) (xn : List Int32) (xc : List Int32) (vs : Int32) (hA : iA (he, ke, ki, fi, fa, or, mi, a, g, l, w, s)) (hB : iB le ln) (hC : iC nu nn) (hD : iD rf) (hJ : iJ m ys yc yh yg) (hR : iR xm xw xn xc) (hK : iK im kk xi) (x : Int32) (hxu : x.toInt ≤ -1) (y : Int32) : oI 63 156 [some (.ref 100), some (.int x), some (.int y)] [some (.ref 138), some (.int x), some (.int y)] (mk_M (cT im le ln ys vt nu nn rf vw vq yc yh yg) (kr (he, ke, ki, fi, fa, or, mi, a, g, l, w, s)) m kk (rT (he, ke, ki, fi, fa, or, mi, a, g, l, w, s) xm xi xw im le nu rf ln nn vp xn xc vs)) := by
  exact ⟨(-1), _, _, oc_cell_0 he ke ki fi fa or mi a g l w s im le ln ys vt nu nn rf vw vq yc yh yg m kk _ hA hB hC hD hJ hK.1 x hxu y, om_cell_0 he ke ki fi fa or mi a g l w s xm xi xw im le nu rf ln nn vp xn xc vs _ _ _ _ hA hB hC hD hR hK.2.1 x hxu y, (he, ke, ki, fi, fa, or, mi, a, g, l, w, s), m, kk, im, le, ln, ys, vt, nu, nn, (rf.set 1 (kg rf 1 + 1)), vw, vq, yc, yh, yg, xm, xi, xw, vp, xn, xc, vs, rfl, hA, hB, hC, iD_s hD, hJ, hR, hK⟩
set_option maxRecDepth 100000 in
theorem oc_cell_1 (he ke ki fi fa or : List Nat) (mi a g l w s : Nat) (im : Nat) (le : List Nat) (ln : Nat) (ys : List Int32) (vt : Int32) (nu : List Nat) (nn : Nat) (rf : List Nat) (vw vq : Int32) (yc yh yg : List Int32) (m kk : kG) (q : cR) (hA : iA (he, ke, ki, fi, fa, or, mi, a, g, l, w, s)) (hB : iB le ln) (hC : iC nu nn) (hD : iD rf) (hJ : iJ m ys yc yh yg) (k0 : kSh kk) (x : Int32) (hxl : 25 ≤ x.toInt) (y : Int32) : mm_R 63 0 [some (.ref 100), some (.int x), some (.int y)] [] (mk_M (cT im le ln ys vt nu nn rf vw vq yc yh yg) (kr (he, ke, ki, fi, fa, or, mi, a, g, l, w, s)) m kk q) (some (.int (-1)), (mk_M (cT im le ln ys vt nu nn (rf.set 1 (kg rf 1 + 1)) vw vq yc yh yg) (kr (he, ke, ki, fi, fa, or, mi, a, g, l, w, s)) m kk q)) := by
  have hst2 : s ≤ 999 := hA.2
  have v7 : mi ≤ 5 := hA.1.2.2.2.2.2.2.1
  have b3 : ln ≤ 96 := hB.2.2
  have c3 : nn ≤ 16 := hC.2.2
  refine mr_seg 1 (pc1 := 1) (ls1 := [some (.ref 100), some (.int x), some (.int y)]) (st1 := [.int x]) (M1 := (mk_M (cT im le ln ys vt nu nn rf vw vq yc yh yg) (kr (he, ke, ki, fi, fa, or, mi, a, g, l, w, s)) m kk q)) (fun f => rfl) ?_
  refine mr_call (y := 37) (y0 := 4) (L := [some (.int x)]) (rest := []) (rr := some (.int 0)) (M1 := (mk_M (cT im le ln ys vt nu nn rf vw vq yc yh yg) (kr (he, ke, ki, fi, fa, or, mi, a, g, l, w, s)) m kk q)) (fun f => rfl) (ms_c1_hi (x := x) (mz_lt_f 0 (by decide) (by omega)) (mz_ge_t 25 (by decide) (by omega))) ?_
  refine mr_seg 3 (pc1 := 9) (ls1 := [some (.ref 100), some (.int x), some (.int y)]) (st1 := [.int (-1), .ref 100]) (M1 := (mk_M (cT im le ln ys vt nu nn rf vw vq yc yh yg) (kr (he, ke, ki, fi, fa, or, mi, a, g, l, w, s)) m kk q)) (fun f => rfl) ?_
  refine mr_call (y := 12) (y0 := 12) (L := [some (.ref 100), some (.int (-1))]) (rest := []) (rr := some (.int (-1))) (M1 := (mk_M (cT im le ln ys vt nu nn (rf.set 1 (kg rf 1 + 1)) vw vq yc yh yg) (kr (he, ke, ki, fi, fa, or, mi, a, g, l, w, s)) m kk q)) (fun f => rfl) (ms_re1 hD) ?_
  exact mr_ret 1 (fun f => rfl)
set_option maxRecDepth 100000 in
theorem om_cell_1 (he ke ki fi fa or : List Nat) (mi a g l w s : Nat) (xm xi xw : List Int32) (im : Nat) (le nu rf : List Nat) (ln nn : Nat) (vp : Int32) (xn xc : List Int32) (vs : Int32) (c : cC) (n m kk : kG) (hA : iA (he, ke, ki, fi, fa, or, mi, a, g, l, w, s)) (hB : iB le ln) (hC : iC nu nn) (hD : iD rf) (hR : iR xm xw xn xc) (k1 : xi.length = 52) (x : Int32) (hxl : 25 ≤ x.toInt) (y : Int32) : mm_R 156 0 [some (.ref 138), some (.int x), some (.int y)] [] (mk_M c n m kk (rT (he, ke, ki, fi, fa, or, mi, a, g, l, w, s) xm xi xw im le nu rf ln nn vp xn xc vs)) (some (.int (-1)), (mk_M c n m kk (rT (he, ke, ki, fi, fa, or, mi, a, g, l, w, s) xm xi xw im le nu (rf.set 1 (kg rf 1 + 1)) ln nn vp xn xc vs))) := by
  have hst2 : s ≤ 999 := hA.2
  have v7 : mi ≤ 5 := hA.1.2.2.2.2.2.2.1
  have b3 : ln ≤ 96 := hB.2.2
  have c3 : nn ≤ 16 := hC.2.2
  refine mr_seg 1 (pc1 := 1) (ls1 := [some (.ref 138), some (.int x), some (.int y)]) (st1 := [.int x]) (M1 := (mk_M c n m kk (rT (he, ke, ki, fi, fa, or, mi, a, g, l, w, s) xm xi xw im le nu rf ln nn vp xn xc vs))) (fun f => rfl) ?_
  refine mr_call (y := 140) (y0 := 4) (L := [some (.int x)]) (rest := []) (rr := some (.int 0)) (M1 := (mk_M c n m kk (rT (he, ke, ki, fi, fa, or, mi, a, g, l, w, s) xm xi xw im le nu rf ln nn vp xn xc vs))) (fun f => rfl) (ms_c2_hi (x := x) (mz_lt_f 0 (by decide) (by omega)) (mz_gt_t 24 (by decide) (by omega))) ?_
  refine mr_seg 3 (pc1 := 9) (ls1 := [some (.ref 138), some (.int x), some (.int y)]) (st1 := [.int (-1), .ref 138]) (M1 := (mk_M c n m kk (rT (he, ke, ki, fi, fa, or, mi, a, g, l, w, s) xm xi xw im le nu rf ln nn vp xn xc vs))) (fun f => rfl) ?_
  refine mr_call (y := 130) (y0 := 12) (L := [some (.ref 138), some (.int (-1))]) (rest := []) (rr := some (.int (-1))) (M1 := (mk_M c n m kk (rT (he, ke, ki, fi, fa, or, mi, a, g, l, w, s) xm xi xw im le nu (rf.set 1 (kg rf 1 + 1)) ln nn vp xn xc vs))) (fun f => rfl) (ms_no1 hD) ?_
  exact mr_ret 1 (fun f => rfl)
theorem oe_cell_1 (he ke ki fi fa or : List Nat) (mi a g l w s : Nat) (m : kG) (kk : kG) (im : Nat) (le : List Nat) (ln : Nat) (ys : List Int32) (vt : Int32) (nu : List Nat) (nn : Nat) (rf : List Nat) (vw : Int32) (vq : Int32) (yc : List Int32) (yh : List Int32) (yg : List Int32) (xm : List Int32) (xi : List Int32) (xw : List Int32) (vp : Int32) (xn : List Int32) (xc : List Int32) (vs : Int32) (hA : iA (he, ke, ki, fi, fa, or, mi, a, g, l, w, s)) (hB : iB le ln) (hC : iC nu nn) (hD : iD rf) (hJ : iJ m ys yc yh yg) (hR : iR xm xw xn xc) (hK : iK im kk xi) (x : Int32) (hxl : 25 ≤ x.toInt) (y : Int32) : oI 63 156 [some (.ref 100), some (.int x), some (.int y)] [some (.ref 138), some (.int x), some (.int y)] (mk_M (cT im le ln ys vt nu nn rf vw vq yc yh yg) (kr (he, ke, ki, fi, fa, or, mi, a, g, l, w, s)) m kk (rT (he, ke, ki, fi, fa, or, mi, a, g, l, w, s) xm xi xw im le nu rf ln nn vp xn xc vs)) := by
  exact ⟨(-1), _, _, oc_cell_1 he ke ki fi fa or mi a g l w s im le ln ys vt nu nn rf vw vq yc yh yg m kk _ hA hB hC hD hJ hK.1 x hxl y, om_cell_1 he ke ki fi fa or mi a g l w s xm xi xw im le nu rf ln nn vp xn xc vs _ _ _ _ hA hB hC hD hR hK.2.1 x hxl y, (he, ke, ki, fi, fa, or, mi, a, g, l, w, s), m, kk, im, le, ln, ys, vt, nu, nn, (rf.set 1 (kg rf 1 + 1)), vw, vq, yc, yh, yg, xm, xi, xw, vp, xn, xc, vs, rfl, hA, hB, hC, iD_s hD, hJ, hR, hK⟩
set_option maxRecDepth 100000 in
theorem oc_cell_2 (he ke ki fi fa or : List Nat) (mi a g l w s : Nat) (im : Nat) (le : List Nat) (ln : Nat) (ys : List Int32) (vt : Int32) (nu : List Nat) (nn : Nat) (rf : List Nat) (vw vq : Int32) (yc yh yg : List Int32) (m kk : kG) (q : cR) (hA : iA (he, ke, ki, fi, fa, or, mi, a, g, l, w, s)) (hB : iB le ln) (hC : iC nu nn) (hD : iD rf) (hJ : iJ m ys yc yh yg) (k0 : kSh kk) (x : Nat) (hx : x < 25) (y : Int32) (hyu : y.toInt ≤ -1) : mm_R 63 0 [some (.ref 100), some (.int (nI x)), some (.int y)] [] (mk_M (cT im le ln ys vt nu nn rf vw vq yc yh yg) (kr (he, ke, ki, fi, fa, or, mi, a, g, l, w, s)) m kk q) (some (.int (-2)), (mk_M (cT im le ln ys vt nu nn (rf.set 2 (kg rf 2 + 1)) vw vq yc yh yg) (kr (he, ke, ki, fi, fa, or, mi, a, g, l, w, s)) m kk q)) := by
  have hst2 : s ≤ 999 := hA.2
  have v7 : mi ≤ 5 := hA.1.2.2.2.2.2.2.1
  have b3 : ln ≤ 96 := hB.2.2
  have c3 : nn ≤ 16 := hC.2.2
  refine mr_seg 1 (pc1 := 1) (ls1 := [some (.ref 100), some (.int (nI x)), some (.int y)]) (st1 := [.int (nI x)]) (M1 := (mk_M (cT im le ln ys vt nu nn rf vw vq yc yh yg) (kr (he, ke, ki, fi, fa, or, mi, a, g, l, w, s)) m kk q)) (fun f => rfl) ?_
  refine mr_call (y := 37) (y0 := 4) (L := [some (.int (nI x))]) (rest := []) (rr := some (.int 1)) (M1 := (mk_M (cT im le ln ys vt nu nn rf vw vq yc yh yg) (kr (he, ke, ki, fi, fa, or, mi, a, g, l, w, s)) m kk q)) (fun f => rfl) (ms_c1_ok (x := (nI x)) (nI_ltf (a := x) (b := 0) (by omega)) (nI_lef (a := 25) (b := x) (by omega))) ?_
  refine mr_seg 2 (pc1 := 14) (ls1 := [some (.ref 100), some (.int (nI x)), some (.int y)]) (st1 := [.int y]) (M1 := (mk_M (cT im le ln ys vt nu nn rf vw vq yc yh yg) (kr (he, ke, ki, fi, fa, or, mi, a, g, l, w, s)) m kk q)) (fun f => rfl) ?_
  refine mr_lsw (t1 := 60) rfl (by show Op.lookupswitch.offset [(0, 26), (1, 36)] 46 y.toInt = 46; rw [Op.lookupswitch.offset_cons, if_neg (by omega), Op.lookupswitch.offset_cons, if_neg (by omega)]; rfl) (by decide) ?_
  refine mr_seg 2 (pc1 := 63) (ls1 := [some (.ref 100), some (.int (nI x)), some (.int y)]) (st1 := [.int (-2), .ref 100]) (M1 := (mk_M (cT im le ln ys vt nu nn rf vw vq yc yh yg) (kr (he, ke, ki, fi, fa, or, mi, a, g, l, w, s)) m kk q)) (fun f => rfl) ?_
  refine mr_call (y := 12) (y0 := 66) (L := [some (.ref 100), some (.int (-2))]) (rest := []) (rr := some (.int (-2))) (M1 := (mk_M (cT im le ln ys vt nu nn (rf.set 2 (kg rf 2 + 1)) vw vq yc yh yg) (kr (he, ke, ki, fi, fa, or, mi, a, g, l, w, s)) m kk q)) (fun f => rfl) (ms_re2 hD) ?_
  exact mr_ret 1 (fun f => rfl)
set_option maxRecDepth 100000 in
theorem om_cell_2 (he ke ki fi fa or : List Nat) (mi a g l w s : Nat) (xm xi xw : List Int32) (im : Nat) (le nu rf : List Nat) (ln nn : Nat) (vp : Int32) (xn xc : List Int32) (vs : Int32) (c : cC) (n m kk : kG) (hA : iA (he, ke, ki, fi, fa, or, mi, a, g, l, w, s)) (hB : iB le ln) (hC : iC nu nn) (hD : iD rf) (hR : iR xm xw xn xc) (k1 : xi.length = 52) (x : Nat) (hx : x < 25) (y : Int32) (hyu : y.toInt ≤ -1) : mm_R 156 0 [some (.ref 138), some (.int (nI x)), some (.int y)] [] (mk_M c n m kk (rT (he, ke, ki, fi, fa, or, mi, a, g, l, w, s) xm xi xw im le nu rf ln nn vp xn xc vs)) (some (.int (-2)), (mk_M c n m kk (rT (he, ke, ki, fi, fa, or, mi, a, g, l, w, s) xm xi xw im le nu (rf.set 2 (kg rf 2 + 1)) ln nn vp xn xc vs))) := by
  have hst2 : s ≤ 999 := hA.2
  have v7 : mi ≤ 5 := hA.1.2.2.2.2.2.2.1
  have b3 : ln ≤ 96 := hB.2.2
  have c3 : nn ≤ 16 := hC.2.2
  refine mr_seg 1 (pc1 := 1) (ls1 := [some (.ref 138), some (.int (nI x)), some (.int y)]) (st1 := [.int (nI x)]) (M1 := (mk_M c n m kk (rT (he, ke, ki, fi, fa, or, mi, a, g, l, w, s) xm xi xw im le nu rf ln nn vp xn xc vs))) (fun f => rfl) ?_
  refine mr_call (y := 140) (y0 := 4) (L := [some (.int (nI x))]) (rest := []) (rr := some (.int 1)) (M1 := (mk_M c n m kk (rT (he, ke, ki, fi, fa, or, mi, a, g, l, w, s) xm xi xw im le nu rf ln nn vp xn xc vs))) (fun f => rfl) (ms_c2_ok (x := (nI x)) (nI_ltf (a := x) (b := 0) (by omega)) (nI_ltf (a := 24) (b := x) (by omega))) ?_
  refine mr_seg 2 (pc1 := 14) (ls1 := [some (.ref 138), some (.int (nI x)), some (.int y)]) (st1 := [.int y]) (M1 := (mk_M c n m kk (rT (he, ke, ki, fi, fa, or, mi, a, g, l, w, s) xm xi xw im le nu rf ln nn vp xn xc vs))) (fun f => rfl) ?_
  refine mr_f (C := y = 0) (mz_eq_f 0 (by decide) (by omega)) (fun f => rfl) ?_
  refine mr_seg 2 (pc1 := 31) (ls1 := [some (.ref 138), some (.int (nI x)), some (.int y)]) (st1 := [.int 1, .int y]) (M1 := (mk_M c n m kk (rT (he, ke, ki, fi, fa, or, mi, a, g, l, w, s) xm xi xw im le nu rf ln nn vp xn xc vs))) (fun f => rfl) ?_
  refine mr_f (C := y = 1) (mz_eq_f 1 (by decide) (by omega)) (fun f => rfl) ?_
  refine mr_seg 2 (pc1 := 51) (ls1 := [some (.ref 138), some (.int (nI x)), some (.int y)]) (st1 := [.int (-2), .ref 138]) (M1 := (mk_M c n m kk (rT (he, ke, ki, fi, fa, or, mi, a, g, l, w, s) xm xi xw im le nu rf ln nn vp xn xc vs))) (fun f => rfl) ?_
  refine mr_call (y := 130) (y0 := 54) (L := [some (.ref 138), some (.int (-2))]) (rest := []) (rr := some (.int (-2))) (M1 := (mk_M c n m kk (rT (he, ke, ki, fi, fa, or, mi, a, g, l, w, s) xm xi xw im le nu (rf.set 2 (kg rf 2 + 1)) ln nn vp xn xc vs))) (fun f => rfl) (ms_no2 hD) ?_
  exact mr_ret 1 (fun f => rfl)
theorem oe_cell_2 (he ke ki fi fa or : List Nat) (mi a g l w s : Nat) (m : kG) (kk : kG) (im : Nat) (le : List Nat) (ln : Nat) (ys : List Int32) (vt : Int32) (nu : List Nat) (nn : Nat) (rf : List Nat) (vw : Int32) (vq : Int32) (yc : List Int32) (yh : List Int32) (yg : List Int32) (xm : List Int32) (xi : List Int32) (xw : List Int32) (vp : Int32) (xn : List Int32) (xc : List Int32) (vs : Int32) (hA : iA (he, ke, ki, fi, fa, or, mi, a, g, l, w, s)) (hB : iB le ln) (hC : iC nu nn) (hD : iD rf) (hJ : iJ m ys yc yh yg) (hR : iR xm xw xn xc) (hK : iK im kk xi) (x : Nat) (hx : x < 25) (y : Int32) (hyu : y.toInt ≤ -1) : oI 63 156 [some (.ref 100), some (.int (nI x)), some (.int y)] [some (.ref 138), some (.int (nI x)), some (.int y)] (mk_M (cT im le ln ys vt nu nn rf vw vq yc yh yg) (kr (he, ke, ki, fi, fa, or, mi, a, g, l, w, s)) m kk (rT (he, ke, ki, fi, fa, or, mi, a, g, l, w, s) xm xi xw im le nu rf ln nn vp xn xc vs)) := by
  exact ⟨(-2), _, _, oc_cell_2 he ke ki fi fa or mi a g l w s im le ln ys vt nu nn rf vw vq yc yh yg m kk _ hA hB hC hD hJ hK.1 x hx y hyu, om_cell_2 he ke ki fi fa or mi a g l w s xm xi xw im le nu rf ln nn vp xn xc vs _ _ _ _ hA hB hC hD hR hK.2.1 x hx y hyu, (he, ke, ki, fi, fa, or, mi, a, g, l, w, s), m, kk, im, le, ln, ys, vt, nu, nn, (rf.set 2 (kg rf 2 + 1)), vw, vq, yc, yh, yg, xm, xi, xw, vp, xn, xc, vs, rfl, hA, hB, hC, iD_s hD, hJ, hR, hK⟩
set_option maxRecDepth 100000 in
theorem oc_cell_3 (he ke ki fi fa or : List Nat) (mi a g l w s : Nat) (im : Nat) (le : List Nat) (ln : Nat) (ys : List Int32) (vt : Int32) (nu : List Nat) (nn : Nat) (rf : List Nat) (vw vq : Int32) (yc yh yg : List Int32) (m kk : kG) (q : cR) (hA : iA (he, ke, ki, fi, fa, or, mi, a, g, l, w, s)) (hB : iB le ln) (hC : iC nu nn) (hD : iD rf) (hJ : iJ m ys yc yh yg) (k0 : kSh kk) (x : Nat) (hx : x < 25) (y : Int32) (hyl : 2 ≤ y.toInt) : mm_R 63 0 [some (.ref 100), some (.int (nI x)), some (.int y)] [] (mk_M (cT im le ln ys vt nu nn rf vw vq yc yh yg) (kr (he, ke, ki, fi, fa, or, mi, a, g, l, w, s)) m kk q) (some (.int (-2)), (mk_M (cT im le ln ys vt nu nn (rf.set 2 (kg rf 2 + 1)) vw vq yc yh yg) (kr (he, ke, ki, fi, fa, or, mi, a, g, l, w, s)) m kk q)) := by
  have hst2 : s ≤ 999 := hA.2
  have v7 : mi ≤ 5 := hA.1.2.2.2.2.2.2.1
  have b3 : ln ≤ 96 := hB.2.2
  have c3 : nn ≤ 16 := hC.2.2
  refine mr_seg 1 (pc1 := 1) (ls1 := [some (.ref 100), some (.int (nI x)), some (.int y)]) (st1 := [.int (nI x)]) (M1 := (mk_M (cT im le ln ys vt nu nn rf vw vq yc yh yg) (kr (he, ke, ki, fi, fa, or, mi, a, g, l, w, s)) m kk q)) (fun f => rfl) ?_
  refine mr_call (y := 37) (y0 := 4) (L := [some (.int (nI x))]) (rest := []) (rr := some (.int 1)) (M1 := (mk_M (cT im le ln ys vt nu nn rf vw vq yc yh yg) (kr (he, ke, ki, fi, fa, or, mi, a, g, l, w, s)) m kk q)) (fun f => rfl) (ms_c1_ok (x := (nI x)) (nI_ltf (a := x) (b := 0) (by omega)) (nI_lef (a := 25) (b := x) (by omega))) ?_
  refine mr_seg 2 (pc1 := 14) (ls1 := [some (.ref 100), some (.int (nI x)), some (.int y)]) (st1 := [.int y]) (M1 := (mk_M (cT im le ln ys vt nu nn rf vw vq yc yh yg) (kr (he, ke, ki, fi, fa, or, mi, a, g, l, w, s)) m kk q)) (fun f => rfl) ?_
  refine mr_lsw (t1 := 60) rfl (by show Op.lookupswitch.offset [(0, 26), (1, 36)] 46 y.toInt = 46; rw [Op.lookupswitch.offset_cons, if_neg (by omega), Op.lookupswitch.offset_cons, if_neg (by omega)]; rfl) (by decide) ?_
  refine mr_seg 2 (pc1 := 63) (ls1 := [some (.ref 100), some (.int (nI x)), some (.int y)]) (st1 := [.int (-2), .ref 100]) (M1 := (mk_M (cT im le ln ys vt nu nn rf vw vq yc yh yg) (kr (he, ke, ki, fi, fa, or, mi, a, g, l, w, s)) m kk q)) (fun f => rfl) ?_
  refine mr_call (y := 12) (y0 := 66) (L := [some (.ref 100), some (.int (-2))]) (rest := []) (rr := some (.int (-2))) (M1 := (mk_M (cT im le ln ys vt nu nn (rf.set 2 (kg rf 2 + 1)) vw vq yc yh yg) (kr (he, ke, ki, fi, fa, or, mi, a, g, l, w, s)) m kk q)) (fun f => rfl) (ms_re2 hD) ?_
  exact mr_ret 1 (fun f => rfl)
set_option maxRecDepth 100000 in
theorem om_cell_3 (he ke ki fi fa or : List Nat) (mi a g l w s : Nat) (xm xi xw : List Int32) (im : Nat) (le nu rf : List Nat) (ln nn : Nat) (vp : Int32) (xn xc : List Int32) (vs : Int32) (c : cC) (n m kk : kG) (hA : iA (he, ke, ki, fi, fa, or, mi, a, g, l, w, s)) (hB : iB le ln) (hC : iC nu nn) (hD : iD rf) (hR : iR xm xw xn xc) (k1 : xi.length = 52) (x : Nat) (hx : x < 25) (y : Int32) (hyl : 2 ≤ y.toInt) : mm_R 156 0 [some (.ref 138), some (.int (nI x)), some (.int y)] [] (mk_M c n m kk (rT (he, ke, ki, fi, fa, or, mi, a, g, l, w, s) xm xi xw im le nu rf ln nn vp xn xc vs)) (some (.int (-2)), (mk_M c n m kk (rT (he, ke, ki, fi, fa, or, mi, a, g, l, w, s) xm xi xw im le nu (rf.set 2 (kg rf 2 + 1)) ln nn vp xn xc vs))) := by
  have hst2 : s ≤ 999 := hA.2
  have v7 : mi ≤ 5 := hA.1.2.2.2.2.2.2.1
  have b3 : ln ≤ 96 := hB.2.2
  have c3 : nn ≤ 16 := hC.2.2
  refine mr_seg 1 (pc1 := 1) (ls1 := [some (.ref 138), some (.int (nI x)), some (.int y)]) (st1 := [.int (nI x)]) (M1 := (mk_M c n m kk (rT (he, ke, ki, fi, fa, or, mi, a, g, l, w, s) xm xi xw im le nu rf ln nn vp xn xc vs))) (fun f => rfl) ?_
  refine mr_call (y := 140) (y0 := 4) (L := [some (.int (nI x))]) (rest := []) (rr := some (.int 1)) (M1 := (mk_M c n m kk (rT (he, ke, ki, fi, fa, or, mi, a, g, l, w, s) xm xi xw im le nu rf ln nn vp xn xc vs))) (fun f => rfl) (ms_c2_ok (x := (nI x)) (nI_ltf (a := x) (b := 0) (by omega)) (nI_ltf (a := 24) (b := x) (by omega))) ?_
  refine mr_seg 2 (pc1 := 14) (ls1 := [some (.ref 138), some (.int (nI x)), some (.int y)]) (st1 := [.int y]) (M1 := (mk_M c n m kk (rT (he, ke, ki, fi, fa, or, mi, a, g, l, w, s) xm xi xw im le nu rf ln nn vp xn xc vs))) (fun f => rfl) ?_
  refine mr_f (C := y = 0) (mz_eq_f 0 (by decide) (by omega)) (fun f => rfl) ?_
  refine mr_seg 2 (pc1 := 31) (ls1 := [some (.ref 138), some (.int (nI x)), some (.int y)]) (st1 := [.int 1, .int y]) (M1 := (mk_M c n m kk (rT (he, ke, ki, fi, fa, or, mi, a, g, l, w, s) xm xi xw im le nu rf ln nn vp xn xc vs))) (fun f => rfl) ?_
  refine mr_f (C := y = 1) (mz_eq_f 1 (by decide) (by omega)) (fun f => rfl) ?_
  refine mr_seg 2 (pc1 := 51) (ls1 := [some (.ref 138), some (.int (nI x)), some (.int y)]) (st1 := [.int (-2), .ref 138]) (M1 := (mk_M c n m kk (rT (he, ke, ki, fi, fa, or, mi, a, g, l, w, s) xm xi xw im le nu rf ln nn vp xn xc vs))) (fun f => rfl) ?_
  refine mr_call (y := 130) (y0 := 54) (L := [some (.ref 138), some (.int (-2))]) (rest := []) (rr := some (.int (-2))) (M1 := (mk_M c n m kk (rT (he, ke, ki, fi, fa, or, mi, a, g, l, w, s) xm xi xw im le nu (rf.set 2 (kg rf 2 + 1)) ln nn vp xn xc vs))) (fun f => rfl) (ms_no2 hD) ?_
  exact mr_ret 1 (fun f => rfl)
theorem oe_cell_3 (he ke ki fi fa or : List Nat) (mi a g l w s : Nat) (m : kG) (kk : kG) (im : Nat) (le : List Nat) (ln : Nat) (ys : List Int32) (vt : Int32) (nu : List Nat) (nn : Nat) (rf : List Nat) (vw : Int32) (vq : Int32) (yc : List Int32) (yh : List Int32) (yg : List Int32) (xm : List Int32) (xi : List Int32) (xw : List Int32) (vp : Int32) (xn : List Int32) (xc : List Int32) (vs : Int32) (hA : iA (he, ke, ki, fi, fa, or, mi, a, g, l, w, s)) (hB : iB le ln) (hC : iC nu nn) (hD : iD rf) (hJ : iJ m ys yc yh yg) (hR : iR xm xw xn xc) (hK : iK im kk xi) (x : Nat) (hx : x < 25) (y : Int32) (hyl : 2 ≤ y.toInt) : oI 63 156 [some (.ref 100), some (.int (nI x)), some (.int y)] [some (.ref 138), some (.int (nI x)), some (.int y)] (mk_M (cT im le ln ys vt nu nn rf vw vq yc yh yg) (kr (he, ke, ki, fi, fa, or, mi, a, g, l, w, s)) m kk (rT (he, ke, ki, fi, fa, or, mi, a, g, l, w, s) xm xi xw im le nu rf ln nn vp xn xc vs)) := by
  exact ⟨(-2), _, _, oc_cell_3 he ke ki fi fa or mi a g l w s im le ln ys vt nu nn rf vw vq yc yh yg m kk _ hA hB hC hD hJ hK.1 x hx y hyl, om_cell_3 he ke ki fi fa or mi a g l w s xm xi xw im le nu rf ln nn vp xn xc vs _ _ _ _ hA hB hC hD hR hK.2.1 x hx y hyl, (he, ke, ki, fi, fa, or, mi, a, g, l, w, s), m, kk, im, le, ln, ys, vt, nu, nn, (rf.set 2 (kg rf 2 + 1)), vw, vq, yc, yh, yg, xm, xi, xw, vp, xn, xc, vs, rfl, hA, hB, hC, iD_s hD, hJ, hR, hK⟩
set_option maxRecDepth 100000 in
theorem oc_cell_4 (he ke ki fi fa or : List Nat) (mi a g l w s : Nat) (im : Nat) (le : List Nat) (ln : Nat) (ys : List Int32) (vt : Int32) (nu : List Nat) (nn : Nat) (rf : List Nat) (vw vq : Int32) (yc yh yg : List Int32) (m kk : kG) (q : cR) (hA : iA (he, ke, ki, fi, fa, or, mi, a, g, l, w, s)) (hB : iB le ln) (hC : iC nu nn) (hD : iD rf) (hJ : iJ m ys yc yh yg) (k0 : kSh kk) (x : Nat) (hx : x < 25) : mm_R 63 0 [some (.ref 100), some (.int (nI x)), some (.int 0)] [] (mk_M (cT im le ln ys vt nu nn rf vw vq yc yh yg) (kr (he, ke, ki, fi, fa, or, mi, a, g, l, w, s)) m kk q) (some (.int (nI (kg he x))), (mk_M (cT im le ln ys vt nu nn rf vw vq yc yh yg) (kr (he, ke, ki, fi, fa, or, mi, a, g, l, w, s)) m kk q)) := by
  obtain ⟨hV, hst⟩ := id hA
  have hst2 : s ≤ 999 := hst
  obtain ⟨v1, v2, v3, v4, v5, v6, v7, v8, v9, v10, v11, v12, v13, v14, v15, v16⟩ := id hV
  have v6l := kO_len mi v7 or v6
  obtain ⟨b1, b2, b3⟩ := id hB
  obtain ⟨c1, c2, c3⟩ := id hC
  have d1 : rf.length = 7 := hD
  obtain ⟨j0, j1, j2, j3, j4⟩ := id hJ
  refine mr_seg 1 (pc1 := 1) (ls1 := [some (.ref 100), some (.int (nI x)), some (.int 0)]) (st1 := [.int (nI x)]) (M1 := (mk_M (cT im le ln ys vt nu nn rf vw vq yc yh yg) (kr (he, ke, ki, fi, fa, or, mi, a, g, l, w, s)) m kk q)) (fun f => rfl) ?_
  refine mr_call (y := 37) (y0 := 4) (L := [some (.int (nI x))]) (rest := []) (rr := some (.int 1)) (M1 := (mk_M (cT im le ln ys vt nu nn rf vw vq yc yh yg) (kr (he, ke, ki, fi, fa, or, mi, a, g, l, w, s)) m kk q)) (fun f => rfl) (ms_c1_ok (x := (nI x)) (nI_ltf (a := x) (b := 0) (by omega)) (nI_lef (a := 25) (b := x) (by omega))) ?_
  refine mr_seg 7 (pc1 := 48) (ls1 := [some (.ref 100), some (.int (nI x)), some (.int 0)]) (st1 := [.int (nI x), .ref 118]) (M1 := (mk_M (cT im le ln ys vt nu nn rf vw vq yc yh yg) (kr (he, ke, ki, fi, fa, or, mi, a, g, l, w, s)) m kk q)) (fun f => rfl) ?_
  refine mr_ldk (l0 := he) rfl rfl (k := x) (by omega) ?_
  exact mr_ret 1 (fun f => rfl)
set_option maxRecDepth 100000 in
theorem om_cell_4 (he ke ki fi fa or : List Nat) (mi a g l w s : Nat) (xm xi xw : List Int32) (im : Nat) (le nu rf : List Nat) (ln nn : Nat) (vp : Int32) (xn xc : List Int32) (vs : Int32) (c : cC) (n m kk : kG) (hA : iA (he, ke, ki, fi, fa, or, mi, a, g, l, w, s)) (hB : iB le ln) (hC : iC nu nn) (hD : iD rf) (hR : iR xm xw xn xc) (k1 : xi.length = 52) (x : Nat) (hx : x < 25) : mm_R 156 0 [some (.ref 138), some (.int (nI x)), some (.int 0)] [] (mk_M c n m kk (rT (he, ke, ki, fi, fa, or, mi, a, g, l, w, s) xm xi xw im le nu rf ln nn vp xn xc vs)) (some (.int (nI (kg he x))), (mk_M c n m kk (rT (he, ke, ki, fi, fa, or, mi, a, g, l, w, s) xm xi xw im le nu rf ln nn vp xn xc vs))) := by
  obtain ⟨hV, hst⟩ := id hA
  have hst2 : s ≤ 999 := hst
  obtain ⟨v1, v2, v3, v4, v5, v6, v7, v8, v9, v10, v11, v12, v13, v14, v15, v16⟩ := id hV
  have v6l := kO_len mi v7 or v6
  obtain ⟨b1, b2, b3⟩ := id hB
  obtain ⟨c1, c2, c3⟩ := id hC
  have d1 : rf.length = 7 := hD
  obtain ⟨r1, r2, r3, r4⟩ := id hR
  refine mr_seg 1 (pc1 := 1) (ls1 := [some (.ref 138), some (.int (nI x)), some (.int 0)]) (st1 := [.int (nI x)]) (M1 := (mk_M c n m kk (rT (he, ke, ki, fi, fa, or, mi, a, g, l, w, s) xm xi xw im le nu rf ln nn vp xn xc vs))) (fun f => rfl) ?_
  refine mr_call (y := 140) (y0 := 4) (L := [some (.int (nI x))]) (rest := []) (rr := some (.int 1)) (M1 := (mk_M c n m kk (rT (he, ke, ki, fi, fa, or, mi, a, g, l, w, s) xm xi xw im le nu rf ln nn vp xn xc vs))) (fun f => rfl) (ms_c2_ok (x := (nI x)) (nI_ltf (a := x) (b := 0) (by omega)) (nI_ltf (a := 24) (b := x) (by omega))) ?_
  refine mr_seg 8 (pc1 := 25) (ls1 := [some (.ref 138), some (.int (nI x)), some (.int 0)]) (st1 := [.int (7 + (nI x)), .ref 139]) (M1 := (mk_M c n m kk (rT (he, ke, ki, fi, fa, or, mi, a, g, l, w, s) xm xi xw im le nu rf ln nn vp xn xc vs))) (fun f => rfl) ?_
  refine mr_v (nI_add 7 x) ?_
  refine mr_ldn (xs := (er (he, ke, ki, fi, fa, or, mi, a, g, l, w, s))) rfl rfl (k := 7 + x) (by omega) (er_h (K := (he, ke, ki, fi, fa, or, mi, a, g, l, w, s)) v1 (by omega)) ?_
  exact mr_ret 2 (fun f => rfl)
theorem oe_cell_4 (he ke ki fi fa or : List Nat) (mi a g l w s : Nat) (m : kG) (kk : kG) (im : Nat) (le : List Nat) (ln : Nat) (ys : List Int32) (vt : Int32) (nu : List Nat) (nn : Nat) (rf : List Nat) (vw : Int32) (vq : Int32) (yc : List Int32) (yh : List Int32) (yg : List Int32) (xm : List Int32) (xi : List Int32) (xw : List Int32) (vp : Int32) (xn : List Int32) (xc : List Int32) (vs : Int32) (hA : iA (he, ke, ki, fi, fa, or, mi, a, g, l, w, s)) (hB : iB le ln) (hC : iC nu nn) (hD : iD rf) (hJ : iJ m ys yc yh yg) (hR : iR xm xw xn xc) (hK : iK im kk xi) (x : Nat) (hx : x < 25) : oI 63 156 [some (.ref 100), some (.int (nI x)), some (.int 0)] [some (.ref 138), some (.int (nI x)), some (.int 0)] (mk_M (cT im le ln ys vt nu nn rf vw vq yc yh yg) (kr (he, ke, ki, fi, fa, or, mi, a, g, l, w, s)) m kk (rT (he, ke, ki, fi, fa, or, mi, a, g, l, w, s) xm xi xw im le nu rf ln nn vp xn xc vs)) := by
  exact ⟨(nI (kg he x)), _, _, oc_cell_4 he ke ki fi fa or mi a g l w s im le ln ys vt nu nn rf vw vq yc yh yg m kk _ hA hB hC hD hJ hK.1 x hx, om_cell_4 he ke ki fi fa or mi a g l w s xm xi xw im le nu rf ln nn vp xn xc vs _ _ _ _ hA hB hC hD hR hK.2.1 x hx, (he, ke, ki, fi, fa, or, mi, a, g, l, w, s), m, kk, im, le, ln, ys, vt, nu, nn, rf, vw, vq, yc, yh, yg, xm, xi, xw, vp, xn, xc, vs, rfl, hA, hB, hC, hD, hJ, hR, hK⟩
set_option maxRecDepth 100000 in
theorem oc_cell_5 (he ke ki fi fa or : List Nat) (mi a g l w s : Nat) (im : Nat) (le : List Nat) (ln : Nat) (ys : List Int32) (vt : Int32) (nu : List Nat) (nn : Nat) (rf : List Nat) (vw vq : Int32) (yc yh yg : List Int32) (m kk : kG) (q : cR) (hA : iA (he, ke, ki, fi, fa, or, mi, a, g, l, w, s)) (hB : iB le ln) (hC : iC nu nn) (hD : iD rf) (hJ : iJ m ys yc yh yg) (k0 : kSh kk) (x : Nat) (hx : x < 25) : mm_R 63 0 [some (.ref 100), some (.int (nI x)), some (.int 1)] [] (mk_M (cT im le ln ys vt nu nn rf vw vq yc yh yg) (kr (he, ke, ki, fi, fa, or, mi, a, g, l, w, s)) m kk q) (some (.int (nI (kg ke x))), (mk_M (cT im le ln ys vt nu nn rf vw vq yc yh yg) (kr (he, ke, ki, fi, fa, or, mi, a, g, l, w, s)) m kk q)) := by
  obtain ⟨hV, hst⟩ := id hA
  have hst2 : s ≤ 999 := hst
  obtain ⟨v1, v2, v3, v4, v5, v6, v7, v8, v9, v10, v11, v12, v13, v14, v15, v16⟩ := id hV
  have v6l := kO_len mi v7 or v6
  obtain ⟨b1, b2, b3⟩ := id hB
  obtain ⟨c1, c2, c3⟩ := id hC
  have d1 : rf.length = 7 := hD
  obtain ⟨j0, j1, j2, j3, j4⟩ := id hJ
  refine mr_seg 1 (pc1 := 1) (ls1 := [some (.ref 100), some (.int (nI x)), some (.int 1)]) (st1 := [.int (nI x)]) (M1 := (mk_M (cT im le ln ys vt nu nn rf vw vq yc yh yg) (kr (he, ke, ki, fi, fa, or, mi, a, g, l, w, s)) m kk q)) (fun f => rfl) ?_
  refine mr_call (y := 37) (y0 := 4) (L := [some (.int (nI x))]) (rest := []) (rr := some (.int 1)) (M1 := (mk_M (cT im le ln ys vt nu nn rf vw vq yc yh yg) (kr (he, ke, ki, fi, fa, or, mi, a, g, l, w, s)) m kk q)) (fun f => rfl) (ms_c1_ok (x := (nI x)) (nI_ltf (a := x) (b := 0) (by omega)) (nI_lef (a := 25) (b := x) (by omega))) ?_
  refine mr_seg 7 (pc1 := 58) (ls1 := [some (.ref 100), some (.int (nI x)), some (.int 1)]) (st1 := [.int (nI x), .ref 119]) (M1 := (mk_M (cT im le ln ys vt nu nn rf vw vq yc yh yg) (kr (he, ke, ki, fi, fa, or, mi, a, g, l, w, s)) m kk q)) (fun f => rfl) ?_
  refine mr_ldk (l0 := ke) rfl rfl (k := x) (by omega) ?_
  exact mr_ret 1 (fun f => rfl)
set_option maxRecDepth 100000 in
theorem om_cell_5 (he ke ki fi fa or : List Nat) (mi a g l w s : Nat) (xm xi xw : List Int32) (im : Nat) (le nu rf : List Nat) (ln nn : Nat) (vp : Int32) (xn xc : List Int32) (vs : Int32) (c : cC) (n m kk : kG) (hA : iA (he, ke, ki, fi, fa, or, mi, a, g, l, w, s)) (hB : iB le ln) (hC : iC nu nn) (hD : iD rf) (hR : iR xm xw xn xc) (k1 : xi.length = 52) (x : Nat) (hx : x < 25) : mm_R 156 0 [some (.ref 138), some (.int (nI x)), some (.int 1)] [] (mk_M c n m kk (rT (he, ke, ki, fi, fa, or, mi, a, g, l, w, s) xm xi xw im le nu rf ln nn vp xn xc vs)) (some (.int (nI (kg ke x))), (mk_M c n m kk (rT (he, ke, ki, fi, fa, or, mi, a, g, l, w, s) xm xi xw im le nu rf ln nn vp xn xc vs))) := by
  obtain ⟨hV, hst⟩ := id hA
  have hst2 : s ≤ 999 := hst
  obtain ⟨v1, v2, v3, v4, v5, v6, v7, v8, v9, v10, v11, v12, v13, v14, v15, v16⟩ := id hV
  have v6l := kO_len mi v7 or v6
  obtain ⟨b1, b2, b3⟩ := id hB
  obtain ⟨c1, c2, c3⟩ := id hC
  have d1 : rf.length = 7 := hD
  obtain ⟨r1, r2, r3, r4⟩ := id hR
  refine mr_seg 1 (pc1 := 1) (ls1 := [some (.ref 138), some (.int (nI x)), some (.int 1)]) (st1 := [.int (nI x)]) (M1 := (mk_M c n m kk (rT (he, ke, ki, fi, fa, or, mi, a, g, l, w, s) xm xi xw im le nu rf ln nn vp xn xc vs))) (fun f => rfl) ?_
  refine mr_call (y := 140) (y0 := 4) (L := [some (.int (nI x))]) (rest := []) (rr := some (.int 1)) (M1 := (mk_M c n m kk (rT (he, ke, ki, fi, fa, or, mi, a, g, l, w, s) xm xi xw im le nu rf ln nn vp xn xc vs))) (fun f => rfl) (ms_c2_ok (x := (nI x)) (nI_ltf (a := x) (b := 0) (by omega)) (nI_ltf (a := 24) (b := x) (by omega))) ?_
  refine mr_seg 9 (pc1 := 40) (ls1 := [some (.ref 138), some (.int (nI x)), some (.int 1)]) (st1 := [.int 6, .ref 139]) (M1 := (mk_M c n m kk (rT (he, ke, ki, fi, fa, or, mi, a, g, l, w, s) xm xi xw im le nu rf ln nn vp xn xc vs))) (fun f => rfl) ?_
  refine mr_ldn (xs := (er (he, ke, ki, fi, fa, or, mi, a, g, l, w, s))) rfl rfl (k := 6) (by decide) rfl ?_
  refine mr_seg 4 (pc1 := 45) (ls1 := [some (.ref 138), some (.int (nI x)), some (.int 1)]) (st1 := [.int (((nI (kbits ke)) >>> ((nI x) &&& 31)) &&& 1)]) (M1 := (mk_M c n m kk (rT (he, ke, ki, fi, fa, or, mi, a, g, l, w, s) xm xi xw im le nu rf ln nn vp xn xc vs))) (fun f => rfl) ?_
  refine mr_v (kb_has v2 v13 (by omega)) ?_
  exact mr_ret 2 (fun f => rfl)
theorem oe_cell_5 (he ke ki fi fa or : List Nat) (mi a g l w s : Nat) (m : kG) (kk : kG) (im : Nat) (le : List Nat) (ln : Nat) (ys : List Int32) (vt : Int32) (nu : List Nat) (nn : Nat) (rf : List Nat) (vw : Int32) (vq : Int32) (yc : List Int32) (yh : List Int32) (yg : List Int32) (xm : List Int32) (xi : List Int32) (xw : List Int32) (vp : Int32) (xn : List Int32) (xc : List Int32) (vs : Int32) (hA : iA (he, ke, ki, fi, fa, or, mi, a, g, l, w, s)) (hB : iB le ln) (hC : iC nu nn) (hD : iD rf) (hJ : iJ m ys yc yh yg) (hR : iR xm xw xn xc) (hK : iK im kk xi) (x : Nat) (hx : x < 25) : oI 63 156 [some (.ref 100), some (.int (nI x)), some (.int 1)] [some (.ref 138), some (.int (nI x)), some (.int 1)] (mk_M (cT im le ln ys vt nu nn rf vw vq yc yh yg) (kr (he, ke, ki, fi, fa, or, mi, a, g, l, w, s)) m kk (rT (he, ke, ki, fi, fa, or, mi, a, g, l, w, s) xm xi xw im le nu rf ln nn vp xn xc vs)) := by
  exact ⟨(nI (kg ke x)), _, _, oc_cell_5 he ke ki fi fa or mi a g l w s im le ln ys vt nu nn rf vw vq yc yh yg m kk _ hA hB hC hD hJ hK.1 x hx, om_cell_5 he ke ki fi fa or mi a g l w s xm xi xw im le nu rf ln nn vp xn xc vs _ _ _ _ hA hB hC hD hR hK.2.1 x hx, (he, ke, ki, fi, fa, or, mi, a, g, l, w, s), m, kk, im, le, ln, ys, vt, nu, nn, rf, vw, vq, yc, yh, yg, xm, xi, xw, vp, xn, xc, vs, rfl, hA, hB, hC, hD, hJ, hR, hK⟩
set_option maxRecDepth 100000 in
theorem oc_kerbs_0 (he ke ki fi fa or : List Nat) (mi a g l w s : Nat) (im : Nat) (le : List Nat) (ln : Nat) (ys : List Int32) (vt : Int32) (nu : List Nat) (nn : Nat) (rf : List Nat) (vw vq : Int32) (yc yh yg : List Int32) (m kk : kG) (q : cR) (hA : iA (he, ke, ki, fi, fa, or, mi, a, g, l, w, s)) (hB : iB le ln) (hC : iC nu nn) (hD : iD rf) (hJ : iJ m ys yc yh yg) (k0 : kSh kk) (x : Int32) (hxu : x.toInt ≤ -1) : mm_R 66 0 [some (.ref 100), some (.int x)] [] (mk_M (cT im le ln ys vt nu nn rf vw vq yc yh yg) (kr (he, ke, ki, fi, fa, or, mi, a, g, l, w, s)) m kk q) (some (.int (-1)), (mk_M (cT im le ln ys vt nu nn (rf.set 1 (kg rf 1 + 1)) vw vq yc yh yg) (kr (he, ke, ki, fi, fa, or, mi, a, g, l, w, s)) m kk q)) := by
  have hst2 : s ≤ 999 := hA.2
  have v7 : mi ≤ 5 := hA.1.2.2.2.2.2.2.1
  have b3 : ln ≤ 96 := hB.2.2
  have c3 : nn ≤ 16 := hC.2.2
  refine mr_seg 1 (pc1 := 1) (ls1 := [some (.ref 100), some (.int x)]) (st1 := [.int x]) (M1 := (mk_M (cT im le ln ys vt nu nn rf vw vq yc yh yg) (kr (he, ke, ki, fi, fa, or, mi, a, g, l, w, s)) m kk q)) (fun f => rfl) ?_
  refine mr_call (y := 37) (y0 := 4) (L := [some (.int x)]) (rest := []) (rr := some (.int 0)) (M1 := (mk_M (cT im le ln ys vt nu nn rf vw vq yc yh yg) (kr (he, ke, ki, fi, fa, or, mi, a, g, l, w, s)) m kk q)) (fun f => rfl) (ms_c1_lo (x := x) (mz_lt_t 0 (by decide) (by omega))) ?_
  refine mr_seg 3 (pc1 := 9) (ls1 := [some (.ref 100), some (.int x)]) (st1 := [.int (-1), .ref 100]) (M1 := (mk_M (cT im le ln ys vt nu nn rf vw vq yc yh yg) (kr (he, ke, ki, fi, fa, or, mi, a, g, l, w, s)) m kk q)) (fun f => rfl) ?_
  refine mr_call (y := 12) (y0 := 12) (L := [some (.ref 100), some (.int (-1))]) (rest := []) (rr := some (.int (-1))) (M1 := (mk_M (cT im le ln ys vt nu nn (rf.set 1 (kg rf 1 + 1)) vw vq yc yh yg) (kr (he, ke, ki, fi, fa, or, mi, a, g, l, w, s)) m kk q)) (fun f => rfl) (ms_re1 hD) ?_
  exact mr_ret 1 (fun f => rfl)
set_option maxRecDepth 100000 in
theorem om_kerbs_0 (he ke ki fi fa or : List Nat) (mi a g l w s : Nat) (xm xi xw : List Int32) (im : Nat) (le nu rf : List Nat) (ln nn : Nat) (vp : Int32) (xn xc : List Int32) (vs : Int32) (c : cC) (n m kk : kG) (hA : iA (he, ke, ki, fi, fa, or, mi, a, g, l, w, s)) (hB : iB le ln) (hC : iC nu nn) (hD : iD rf) (hR : iR xm xw xn xc) (k1 : xi.length = 52) (x : Int32) (hxu : x.toInt ≤ -1) : mm_R 161 0 [some (.ref 138), some (.int x)] [] (mk_M c n m kk (rT (he, ke, ki, fi, fa, or, mi, a, g, l, w, s) xm xi xw im le nu rf ln nn vp xn xc vs)) (some (.int (-1)), (mk_M c n m kk (rT (he, ke, ki, fi, fa, or, mi, a, g, l, w, s) xm xi xw im le nu (rf.set 1 (kg rf 1 + 1)) ln nn vp xn xc vs))) := by
  have hst2 : s ≤ 999 := hA.2
  have v7 : mi ≤ 5 := hA.1.2.2.2.2.2.2.1
  have b3 : ln ≤ 96 := hB.2.2
  have c3 : nn ≤ 16 := hC.2.2
  refine mr_seg 1 (pc1 := 1) (ls1 := [some (.ref 138), some (.int x)]) (st1 := [.int x]) (M1 := (mk_M c n m kk (rT (he, ke, ki, fi, fa, or, mi, a, g, l, w, s) xm xi xw im le nu rf ln nn vp xn xc vs))) (fun f => rfl) ?_
  refine mr_call (y := 140) (y0 := 4) (L := [some (.int x)]) (rest := []) (rr := some (.int 0)) (M1 := (mk_M c n m kk (rT (he, ke, ki, fi, fa, or, mi, a, g, l, w, s) xm xi xw im le nu rf ln nn vp xn xc vs))) (fun f => rfl) (ms_c2_lo (x := x) (mz_lt_t 0 (by decide) (by omega))) ?_
  refine mr_seg 3 (pc1 := 9) (ls1 := [some (.ref 138), some (.int x)]) (st1 := [.int (-1), .ref 138]) (M1 := (mk_M c n m kk (rT (he, ke, ki, fi, fa, or, mi, a, g, l, w, s) xm xi xw im le nu rf ln nn vp xn xc vs))) (fun f => rfl) ?_
  refine mr_call (y := 130) (y0 := 12) (L := [some (.ref 138), some (.int (-1))]) (rest := []) (rr := some (.int (-1))) (M1 := (mk_M c n m kk (rT (he, ke, ki, fi, fa, or, mi, a, g, l, w, s) xm xi xw im le nu (rf.set 1 (kg rf 1 + 1)) ln nn vp xn xc vs))) (fun f => rfl) (ms_no1 hD) ?_
  exact mr_ret 1 (fun f => rfl)
theorem oe_kerbs_0 (he ke ki fi fa or : List Nat) (mi a g l w s : Nat) (m : kG) (kk : kG) (im : Nat) (le : List Nat) (ln : Nat) (ys : List Int32) (vt : Int32) (nu : List Nat) (nn : Nat) (rf : List Nat) (vw : Int32) (vq : Int32) (yc : List Int32) (yh : List Int32) (yg : List Int32) (xm : List Int32) (xi : List Int32) (xw : List Int32) (vp : Int32) (xn : List Int32) (xc : List Int32) (vs : Int32) (hA : iA (he, ke, ki, fi, fa, or, mi, a, g, l, w, s)) (hB : iB le ln) (hC : iC nu nn) (hD : iD rf) (hJ : iJ m ys yc yh yg) (hR : iR xm xw xn xc) (hK : iK im kk xi) (x : Int32) (hxu : x.toInt ≤ -1) : oI 66 161 [some (.ref 100), some (.int x)] [some (.ref 138), some (.int x)] (mk_M (cT im le ln ys vt nu nn rf vw vq yc yh yg) (kr (he, ke, ki, fi, fa, or, mi, a, g, l, w, s)) m kk (rT (he, ke, ki, fi, fa, or, mi, a, g, l, w, s) xm xi xw im le nu rf ln nn vp xn xc vs)) := by
  exact ⟨(-1), _, _, oc_kerbs_0 he ke ki fi fa or mi a g l w s im le ln ys vt nu nn rf vw vq yc yh yg m kk _ hA hB hC hD hJ hK.1 x hxu, om_kerbs_0 he ke ki fi fa or mi a g l w s xm xi xw im le nu rf ln nn vp xn xc vs _ _ _ _ hA hB hC hD hR hK.2.1 x hxu, (he, ke, ki, fi, fa, or, mi, a, g, l, w, s), m, kk, im, le, ln, ys, vt, nu, nn, (rf.set 1 (kg rf 1 + 1)), vw, vq, yc, yh, yg, xm, xi, xw, vp, xn, xc, vs, rfl, hA, hB, hC, iD_s hD, hJ, hR, hK⟩
set_option maxRecDepth 100000 in
theorem oc_kerbs_1 (he ke ki fi fa or : List Nat) (mi a g l w s : Nat) (im : Nat) (le : List Nat) (ln : Nat) (ys : List Int32) (vt : Int32) (nu : List Nat) (nn : Nat) (rf : List Nat) (vw vq : Int32) (yc yh yg : List Int32) (m kk : kG) (q : cR) (hA : iA (he, ke, ki, fi, fa, or, mi, a, g, l, w, s)) (hB : iB le ln) (hC : iC nu nn) (hD : iD rf) (hJ : iJ m ys yc yh yg) (k0 : kSh kk) (x : Int32) (hxl : 25 ≤ x.toInt) : mm_R 66 0 [some (.ref 100), some (.int x)] [] (mk_M (cT im le ln ys vt nu nn rf vw vq yc yh yg) (kr (he, ke, ki, fi, fa, or, mi, a, g, l, w, s)) m kk q) (some (.int (-1)), (mk_M (cT im le ln ys vt nu nn (rf.set 1 (kg rf 1 + 1)) vw vq yc yh yg) (kr (he, ke, ki, fi, fa, or, mi, a, g, l, w, s)) m kk q)) := by
  have hst2 : s ≤ 999 := hA.2
  have v7 : mi ≤ 5 := hA.1.2.2.2.2.2.2.1
  have b3 : ln ≤ 96 := hB.2.2
  have c3 : nn ≤ 16 := hC.2.2
  refine mr_seg 1 (pc1 := 1) (ls1 := [some (.ref 100), some (.int x)]) (st1 := [.int x]) (M1 := (mk_M (cT im le ln ys vt nu nn rf vw vq yc yh yg) (kr (he, ke, ki, fi, fa, or, mi, a, g, l, w, s)) m kk q)) (fun f => rfl) ?_
  refine mr_call (y := 37) (y0 := 4) (L := [some (.int x)]) (rest := []) (rr := some (.int 0)) (M1 := (mk_M (cT im le ln ys vt nu nn rf vw vq yc yh yg) (kr (he, ke, ki, fi, fa, or, mi, a, g, l, w, s)) m kk q)) (fun f => rfl) (ms_c1_hi (x := x) (mz_lt_f 0 (by decide) (by omega)) (mz_ge_t 25 (by decide) (by omega))) ?_
  refine mr_seg 3 (pc1 := 9) (ls1 := [some (.ref 100), some (.int x)]) (st1 := [.int (-1), .ref 100]) (M1 := (mk_M (cT im le ln ys vt nu nn rf vw vq yc yh yg) (kr (he, ke, ki, fi, fa, or, mi, a, g, l, w, s)) m kk q)) (fun f => rfl) ?_
  refine mr_call (y := 12) (y0 := 12) (L := [some (.ref 100), some (.int (-1))]) (rest := []) (rr := some (.int (-1))) (M1 := (mk_M (cT im le ln ys vt nu nn (rf.set 1 (kg rf 1 + 1)) vw vq yc yh yg) (kr (he, ke, ki, fi, fa, or, mi, a, g, l, w, s)) m kk q)) (fun f => rfl) (ms_re1 hD) ?_
  exact mr_ret 1 (fun f => rfl)
set_option maxRecDepth 100000 in
theorem om_kerbs_1 (he ke ki fi fa or : List Nat) (mi a g l w s : Nat) (xm xi xw : List Int32) (im : Nat) (le nu rf : List Nat) (ln nn : Nat) (vp : Int32) (xn xc : List Int32) (vs : Int32) (c : cC) (n m kk : kG) (hA : iA (he, ke, ki, fi, fa, or, mi, a, g, l, w, s)) (hB : iB le ln) (hC : iC nu nn) (hD : iD rf) (hR : iR xm xw xn xc) (k1 : xi.length = 52) (x : Int32) (hxl : 25 ≤ x.toInt) : mm_R 161 0 [some (.ref 138), some (.int x)] [] (mk_M c n m kk (rT (he, ke, ki, fi, fa, or, mi, a, g, l, w, s) xm xi xw im le nu rf ln nn vp xn xc vs)) (some (.int (-1)), (mk_M c n m kk (rT (he, ke, ki, fi, fa, or, mi, a, g, l, w, s) xm xi xw im le nu (rf.set 1 (kg rf 1 + 1)) ln nn vp xn xc vs))) := by
  have hst2 : s ≤ 999 := hA.2
  have v7 : mi ≤ 5 := hA.1.2.2.2.2.2.2.1
  have b3 : ln ≤ 96 := hB.2.2
  have c3 : nn ≤ 16 := hC.2.2
  refine mr_seg 1 (pc1 := 1) (ls1 := [some (.ref 138), some (.int x)]) (st1 := [.int x]) (M1 := (mk_M c n m kk (rT (he, ke, ki, fi, fa, or, mi, a, g, l, w, s) xm xi xw im le nu rf ln nn vp xn xc vs))) (fun f => rfl) ?_
  refine mr_call (y := 140) (y0 := 4) (L := [some (.int x)]) (rest := []) (rr := some (.int 0)) (M1 := (mk_M c n m kk (rT (he, ke, ki, fi, fa, or, mi, a, g, l, w, s) xm xi xw im le nu rf ln nn vp xn xc vs))) (fun f => rfl) (ms_c2_hi (x := x) (mz_lt_f 0 (by decide) (by omega)) (mz_gt_t 24 (by decide) (by omega))) ?_
  refine mr_seg 3 (pc1 := 9) (ls1 := [some (.ref 138), some (.int x)]) (st1 := [.int (-1), .ref 138]) (M1 := (mk_M c n m kk (rT (he, ke, ki, fi, fa, or, mi, a, g, l, w, s) xm xi xw im le nu rf ln nn vp xn xc vs))) (fun f => rfl) ?_
  refine mr_call (y := 130) (y0 := 12) (L := [some (.ref 138), some (.int (-1))]) (rest := []) (rr := some (.int (-1))) (M1 := (mk_M c n m kk (rT (he, ke, ki, fi, fa, or, mi, a, g, l, w, s) xm xi xw im le nu (rf.set 1 (kg rf 1 + 1)) ln nn vp xn xc vs))) (fun f => rfl) (ms_no1 hD) ?_
  exact mr_ret 1 (fun f => rfl)
theorem oe_kerbs_1 (he ke ki fi fa or : List Nat) (mi a g l w s : Nat) (m : kG) (kk : kG) (im : Nat) (le : List Nat) (ln : Nat) (ys : List Int32) (vt : Int32) (nu : List Nat) (nn : Nat) (rf : List Nat) (vw : Int32) (vq : Int32) (yc : List Int32) (yh : List Int32) (yg : List Int32) (xm : List Int32) (xi : List Int32) (xw : List Int32) (vp : Int32) (xn : List Int32) (xc : List Int32) (vs : Int32) (hA : iA (he, ke, ki, fi, fa, or, mi, a, g, l, w, s)) (hB : iB le ln) (hC : iC nu nn) (hD : iD rf) (hJ : iJ m ys yc yh yg) (hR : iR xm xw xn xc) (hK : iK im kk xi) (x : Int32) (hxl : 25 ≤ x.toInt) : oI 66 161 [some (.ref 100), some (.int x)] [some (.ref 138), some (.int x)] (mk_M (cT im le ln ys vt nu nn rf vw vq yc yh yg) (kr (he, ke, ki, fi, fa, or, mi, a, g, l, w, s)) m kk (rT (he, ke, ki, fi, fa, or, mi, a, g, l, w, s) xm xi xw im le nu rf ln nn vp xn xc vs)) := by
  exact ⟨(-1), _, _, oc_kerbs_1 he ke ki fi fa or mi a g l w s im le ln ys vt nu nn rf vw vq yc yh yg m kk _ hA hB hC hD hJ hK.1 x hxl, om_kerbs_1 he ke ki fi fa or mi a g l w s xm xi xw im le nu rf ln nn vp xn xc vs _ _ _ _ hA hB hC hD hR hK.2.1 x hxl, (he, ke, ki, fi, fa, or, mi, a, g, l, w, s), m, kk, im, le, ln, ys, vt, nu, nn, (rf.set 1 (kg rf 1 + 1)), vw, vq, yc, yh, yg, xm, xi, xw, vp, xn, xc, vs, rfl, hA, hB, hC, iD_s hD, hJ, hR, hK⟩
set_option maxRecDepth 100000 in
theorem oc_kerbs_2 (he ke ki fi fa or : List Nat) (mi a g l w s : Nat) (im : Nat) (le : List Nat) (ln : Nat) (ys : List Int32) (vt : Int32) (nu : List Nat) (nn : Nat) (rf : List Nat) (vw vq : Int32) (yc yh yg : List Int32) (m kk : kG) (q : cR) (hA : iA (he, ke, ki, fi, fa, or, mi, a, g, l, w, s)) (hB : iB le ln) (hC : iC nu nn) (hD : iD rf) (hJ : iJ m ys yc yh yg) (k0 : kSh kk) (x : Nat) (hx : x < 25) : mm_R 66 0 [some (.ref 100), some (.int (nI x))] [] (mk_M (cT im le ln ys vt nu nn rf vw vq yc yh yg) (kr (he, ke, ki, fi, fa, or, mi, a, g, l, w, s)) m kk q) (some (.int (nI (kg (ke.set x (1 - (kg ke x))) x))), (mk_M (cT im le ln ys vt nu nn rf vw vq yc yh yg) (kr (he, ke.set x (1 - (kg ke x)), ki, fi, fa, or, mi, a, g, l, w, s)) m kk q)) := by
  obtain ⟨hV, hst⟩ := id hA
  have hst2 : s ≤ 999 := hst
  obtain ⟨v1, v2, v3, v4, v5, v6, v7, v8, v9, v10, v11, v12, v13, v14, v15, v16⟩ := id hV
  have v6l := kO_len mi v7 or v6
  obtain ⟨b1, b2, b3⟩ := id hB
  obtain ⟨c1, c2, c3⟩ := id hC
  have d1 : rf.length = 7 := hD
  obtain ⟨j0, j1, j2, j3, j4⟩ := id hJ
  have q1 := v13 x
  have t2 : (ke.set x (1 - kg ke x)).length = 25 := kbt_len v2
  have t13 : ∀ i, kg (ke.set x (1 - kg ke x)) i ≤ 1 := kbt_le v13 (by omega)
  refine mr_seg 1 (pc1 := 1) (ls1 := [some (.ref 100), some (.int (nI x))]) (st1 := [.int (nI x)]) (M1 := (mk_M (cT im le ln ys vt nu nn rf vw vq yc yh yg) (kr (he, ke, ki, fi, fa, or, mi, a, g, l, w, s)) m kk q)) (fun f => rfl) ?_
  refine mr_call (y := 37) (y0 := 4) (L := [some (.int (nI x))]) (rest := []) (rr := some (.int 1)) (M1 := (mk_M (cT im le ln ys vt nu nn rf vw vq yc yh yg) (kr (he, ke, ki, fi, fa, or, mi, a, g, l, w, s)) m kk q)) (fun f => rfl) (ms_c1_ok (x := (nI x)) (nI_ltf (a := x) (b := 0) (by omega)) (nI_lef (a := 25) (b := x) (by omega))) ?_
  refine mr_seg 10 (pc1 := 30) (ls1 := [some (.ref 100), some (.int (nI x))]) (st1 := [.int (nI x), .ref 119, .int 1, .int (nI x), .ref 119]) (M1 := (mk_M (cT im le ln ys vt nu nn rf vw vq yc yh yg) (kr (he, ke, ki, fi, fa, or, mi, a, g, l, w, s)) m kk q)) (fun f => rfl) ?_
  refine mr_ldk (l0 := ke) rfl rfl (k := x) (by omega) ?_
  refine mr_seg 1 (pc1 := 32) (ls1 := [some (.ref 100), some (.int (nI x))]) (st1 := [.int (1 - (nI (kg ke x))), .int (nI x), .ref 119]) (M1 := (mk_M (cT im le ln ys vt nu nn rf vw vq yc yh yg) (kr (he, ke, ki, fi, fa, or, mi, a, g, l, w, s)) m kk q)) (fun f => rfl) ?_
  refine mr_v (pk_sub (a := 1) (b := kg ke x) (by omega)) ?_
  refine mr_stk (l0 := ke) (M2 := (mk_M (cT im le ln ys vt nu nn rf vw vq yc yh yg) (kr (he, ke.set x (1 - (kg ke x)), ki, fi, fa, or, mi, a, g, l, w, s)) m kk q)) rfl rfl (k := x) (v := (1 - (kg ke x))) (by omega) rfl ?_
  refine mr_seg 4 (pc1 := 41) (ls1 := [some (.ref 100), some (.int (nI x))]) (st1 := [.int (nI x), .ref 119]) (M1 := (mk_M (cT im le ln ys vt nu nn rf vw vq yc yh yg) (kr (he, ke.set x (1 - (kg ke x)), ki, fi, fa, or, mi, a, g, l, w, s)) m kk q)) (fun f => rfl) ?_
  refine mr_ldn (xs := ((ke.set x (1 - (kg ke x))).map nI)) rfl rfl (k := x) (by omega) (kg_ok (by simp only [List.length_set]; omega)) ?_
  exact mr_ret 1 (fun f => rfl)
set_option maxRecDepth 100000 in
theorem om_kerbs_2 (he ke ki fi fa or : List Nat) (mi a g l w s : Nat) (xm xi xw : List Int32) (im : Nat) (le nu rf : List Nat) (ln nn : Nat) (vp : Int32) (xn xc : List Int32) (vs : Int32) (c : cC) (n m kk : kG) (hA : iA (he, ke, ki, fi, fa, or, mi, a, g, l, w, s)) (hB : iB le ln) (hC : iC nu nn) (hD : iD rf) (hR : iR xm xw xn xc) (k1 : xi.length = 52) (x : Nat) (hx : x < 25) : mm_R 161 0 [some (.ref 138), some (.int (nI x))] [] (mk_M c n m kk (rT (he, ke, ki, fi, fa, or, mi, a, g, l, w, s) xm xi xw im le nu rf ln nn vp xn xc vs)) (some (.int (nI (kg (ke.set x (1 - (kg ke x))) x))), (mk_M c n m kk (rT (he, ke.set x (1 - (kg ke x)), ki, fi, fa, or, mi, a, g, l, w, s) xm xi xw im le nu rf ln nn vp xn xc vs))) := by
  obtain ⟨hV, hst⟩ := id hA
  have hst2 : s ≤ 999 := hst
  obtain ⟨v1, v2, v3, v4, v5, v6, v7, v8, v9, v10, v11, v12, v13, v14, v15, v16⟩ := id hV
  have v6l := kO_len mi v7 or v6
  obtain ⟨b1, b2, b3⟩ := id hB
  obtain ⟨c1, c2, c3⟩ := id hC
  have d1 : rf.length = 7 := hD
  obtain ⟨r1, r2, r3, r4⟩ := id hR
  have q1 := v13 x
  have t2 : (ke.set x (1 - kg ke x)).length = 25 := kbt_len v2
  have t13 : ∀ i, kg (ke.set x (1 - kg ke x)) i ≤ 1 := kbt_le v13 (by omega)
  refine mr_seg 1 (pc1 := 1) (ls1 := [some (.ref 138), some (.int (nI x))]) (st1 := [.int (nI x)]) (M1 := (mk_M c n m kk (rT (he, ke, ki, fi, fa, or, mi, a, g, l, w, s) xm xi xw im le nu rf ln nn vp xn xc vs))) (fun f => rfl) ?_
  refine mr_call (y := 140) (y0 := 4) (L := [some (.int (nI x))]) (rest := []) (rr := some (.int 1)) (M1 := (mk_M c n m kk (rT (he, ke, ki, fi, fa, or, mi, a, g, l, w, s) xm xi xw im le nu rf ln nn vp xn xc vs))) (fun f => rfl) (ms_c2_ok (x := (nI x)) (nI_ltf (a := x) (b := 0) (by omega)) (nI_ltf (a := 24) (b := x) (by omega))) ?_
  refine mr_seg 5 (pc1 := 20) (ls1 := [some (.ref 138), some (.int (nI x))]) (st1 := [.int 6, .ref 139, .int 6, .ref 139]) (M1 := (mk_M c n m kk (rT (he, ke, ki, fi, fa, or, mi, a, g, l, w, s) xm xi xw im le nu rf ln nn vp xn xc vs))) (fun f => rfl) ?_
  refine mr_ldn (xs := (er (he, ke, ki, fi, fa, or, mi, a, g, l, w, s))) rfl rfl (k := 6) (by decide) rfl ?_
  refine mr_seg 4 (pc1 := 25) (ls1 := [some (.ref 138), some (.int (nI x))]) (st1 := [.int ((nI (kbits ke)) ^^^ (1 <<< ((nI x) &&& 31))), .int 6, .ref 139]) (M1 := (mk_M c n m kk (rT (he, ke, ki, fi, fa, or, mi, a, g, l, w, s) xm xi xw im le nu rf ln nn vp xn xc vs))) (fun f => rfl) ?_
  refine mr_v (kb_togI v2 v13 (by omega)) ?_
  refine mr_stn (xs := (er (he, ke, ki, fi, fa, or, mi, a, g, l, w, s))) (ys := (er (he, ke.set x (1 - (kg ke x)), ki, fi, fa, or, mi, a, g, l, w, s))) (M2 := (mk_M c n m kk (rT (he, ke.set x (1 - (kg ke x)), ki, fi, fa, or, mi, a, g, l, w, s) xm xi xw im le nu rf ln nn vp xn xc vs))) rfl rfl (k := 6) (by decide) (by rw [er_leq (K := (he, ke, ki, fi, fa, or, mi, a, g, l, w, s)) v1 v6l]; decide) rfl rfl ?_
  refine mr_seg 3 (pc1 := 32) (ls1 := [some (.ref 138), some (.int (nI x))]) (st1 := [.int 6, .ref 139]) (M1 := (mk_M c n m kk (rT (he, ke.set x (1 - (kg ke x)), ki, fi, fa, or, mi, a, g, l, w, s) xm xi xw im le nu rf ln nn vp xn xc vs))) (fun f => rfl) ?_
  refine mr_ldn (xs := (er (he, ke.set x (1 - (kg ke x)), ki, fi, fa, or, mi, a, g, l, w, s))) rfl rfl (k := 6) (by decide) rfl ?_
  refine mr_seg 4 (pc1 := 37) (ls1 := [some (.ref 138), some (.int (nI x))]) (st1 := [.int (((nI (kbits (ke.set x (1 - (kg ke x))))) >>> ((nI x) &&& 31)) &&& 1)]) (M1 := (mk_M c n m kk (rT (he, ke.set x (1 - (kg ke x)), ki, fi, fa, or, mi, a, g, l, w, s) xm xi xw im le nu rf ln nn vp xn xc vs))) (fun f => rfl) ?_
  refine mr_v (kb_has t2 t13 (by omega)) ?_
  exact mr_ret 1 (fun f => rfl)
theorem oe_kerbs_2 (he ke ki fi fa or : List Nat) (mi a g l w s : Nat) (m : kG) (kk : kG) (im : Nat) (le : List Nat) (ln : Nat) (ys : List Int32) (vt : Int32) (nu : List Nat) (nn : Nat) (rf : List Nat) (vw : Int32) (vq : Int32) (yc : List Int32) (yh : List Int32) (yg : List Int32) (xm : List Int32) (xi : List Int32) (xw : List Int32) (vp : Int32) (xn : List Int32) (xc : List Int32) (vs : Int32) (hA : iA (he, ke, ki, fi, fa, or, mi, a, g, l, w, s)) (hB : iB le ln) (hC : iC nu nn) (hD : iD rf) (hJ : iJ m ys yc yh yg) (hR : iR xm xw xn xc) (hK : iK im kk xi) (x : Nat) (hx : x < 25) : oI 66 161 [some (.ref 100), some (.int (nI x))] [some (.ref 138), some (.int (nI x))] (mk_M (cT im le ln ys vt nu nn rf vw vq yc yh yg) (kr (he, ke, ki, fi, fa, or, mi, a, g, l, w, s)) m kk (rT (he, ke, ki, fi, fa, or, mi, a, g, l, w, s) xm xi xw im le nu rf ln nn vp xn xc vs)) := by
  obtain ⟨hV, hst⟩ := id hA
  have hst2 : s ≤ 999 := hst
  obtain ⟨v1, v2, v3, v4, v5, v6, v7, v8, v9, v10, v11, v12, v13, v14, v15, v16⟩ := id hV
  have v6l := kO_len mi v7 or v6
  obtain ⟨b1, b2, b3⟩ := id hB
  obtain ⟨c1, c2, c3⟩ := id hC
  have d1 : rf.length = 7 := hD
  obtain ⟨j0, j1, j2, j3, j4⟩ := id hJ
  obtain ⟨r1, r2, r3, r4⟩ := id hR
  obtain ⟨k0, k1, k2, k3⟩ := id hK
  have q1 := v13 x
  have t2 : (ke.set x (1 - kg ke x)).length = 25 := kbt_len v2
  have t13 : ∀ i, kg (ke.set x (1 - kg ke x)) i ≤ 1 := kbt_le v13 (by omega)
  exact ⟨(nI (kg (ke.set x (1 - (kg ke x))) x)), _, _, oc_kerbs_2 he ke ki fi fa or mi a g l w s im le ln ys vt nu nn rf vw vq yc yh yg m kk _ hA hB hC hD hJ hK.1 x hx, om_kerbs_2 he ke ki fi fa or mi a g l w s xm xi xw im le nu rf ln nn vp xn xc vs _ _ _ _ hA hB hC hD hR hK.2.1 x hx, (he, ke.set x (1 - (kg ke x)), ki, fi, fa, or, mi, a, g, l, w, s), m, kk, im, le, ln, ys, vt, nu, nn, rf, vw, vq, yc, yh, yg, xm, xi, xw, vp, xn, xc, vs, rfl, ⟨⟨v1, t2, v3, v4, v5, v6, v7, v8, v9, v10, v11, v12, t13, v14, v15, v16⟩, hst⟩, hB, hC, hD, hJ, hR, hK⟩
