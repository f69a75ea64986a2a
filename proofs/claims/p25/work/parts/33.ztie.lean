/-! ===== a call, tied ===== -/
theorem oI_of {K : kK} {m kk : kG} {im : Nat} {le : List Nat} {ln : Nat} {ys : List Int32} {vt : Int32} {nu : List Nat} {nn : Nat} {rf : List Nat} {vw vq : Int32} {yc yh yg xm xi xw : List Int32} {vp : Int32} {xn xc : List Int32} {vs : Int32} {nn2 : Nat} (V : Int32) (hA : iA K) (hB : iB le ln) (hC2 : iC nu nn2) (hD : iD rf) (hK : iK im kk xi) {zc zm : Nat} {lc lm : mm_L}
    (h1 : mm_E zc 0 lc [] (mk_M (cT im le ln ys vt nu nn rf vw vq yc yh yg) (kr K) m kk (rT K xm xi xw im le nu rf ln nn vp xn xc vs)) (pC (fun r => r = some (.int V)) K im le ln ys vt nu nn2 rf kk (rT K xm xi xw im le nu rf ln nn vp xn xc vs)))
    (h2 : ∀ (c : cC) (n m kk : kG), mm_E zm 0 lm [] (mk_M c n m kk (rT K xm xi xw im le nu rf ln nn vp xn xc vs)) (pM (fun r => r = some (.int V)) K xi im le nu rf ln nn2 c n m kk)) : oI zc zm lc lm (mk_M (cT im le ln ys vt nu nn rf vw vq yc yh yg) (kr K) m kk (rT K xm xi xw im le nu rf ln nn vp xn xc vs)) := by
  obtain ⟨_, _, r1, rfl, vw2, vq2, yc2, yh2, yg2, m2, rfl, hJ2⟩ := h1
  obtain ⟨_, _, r2, rfl, xm2, xw2, vp2, xn2, xc2, vs2, rfl, hR2⟩ := h2 (cT im le ln ys vt nu nn2 rf vw2 vq2 yc2 yh2 yg2) (kr K) m2 kk
  exact ⟨V, _, _, r1, r2, K, m2, kk, im, le, ln, ys, vt, nu, nn2, rf, vw2, vq2, yc2, yh2, yg2, xm2, xi, xw2, vp2, xn2, xc2, vs2, rfl, hA, hB, hC2, hD, hJ2, hR2, hK⟩
theorem oL_of {K : kK} {m kk : kG} {im : Nat} {le : List Nat} {ln : Nat} {ys : List Int32} {vt : Int32} {nu : List Nat} {nn : Nat} {rf : List Nat} {vw vq : Int32} {yc yh yg xm xi xw : List Int32} {vp : Int32} {xn xc : List Int32} {vs : Int32} (V : Int64) (hA : iA K) (hB : iB le ln) (hC2 : iC nu nn) (hD : iD rf) (hK : iK im kk xi) {zc zm : Nat} {lc lm : mm_L}
    (h1 : mm_E zc 0 lc [] (mk_M (cT im le ln ys vt nu nn rf vw vq yc yh yg) (kr K) m kk (rT K xm xi xw im le nu rf ln nn vp xn xc vs)) (pC (fun r => r = some (.long V)) K im le ln ys vt nu nn rf kk (rT K xm xi xw im le nu rf ln nn vp xn xc vs)))
    (h2 : ∀ (c : cC) (n m kk : kG), mm_E zm 0 lm [] (mk_M c n m kk (rT K xm xi xw im le nu rf ln nn vp xn xc vs)) (pM (fun r => r = some (.long V)) K xi im le nu rf ln nn c n m kk)) : oL zc zm lc lm (mk_M (cT im le ln ys vt nu nn rf vw vq yc yh yg) (kr K) m kk (rT K xm xi xw im le nu rf ln nn vp xn xc vs)) := by
  obtain ⟨_, _, r1, rfl, vw2, vq2, yc2, yh2, yg2, m2, rfl, hJ2⟩ := h1
  obtain ⟨_, _, r2, rfl, xm2, xw2, vp2, xn2, xc2, vs2, rfl, hR2⟩ := h2 (cT im le ln ys vt nu nn rf vw2 vq2 yc2 yh2 yg2) (kr K) m2 kk
  exact ⟨V, _, _, r1, r2, K, m2, kk, im, le, ln, ys, vt, nu, nn, rf, vw2, vq2, yc2, yh2, yg2, xm2, xi, xw2, vp2, xn2, xc2, vs2, rfl, hA, hB, hC2, hD, hJ2, hR2, hK⟩
theorem k61_ge {a b : Option Nat} (ha : kle a) (hb : kle b) : k61 b ≤ k61 a ↔ ¬ klt a b = true := by
  rw [← k61_lt ha hb, Nat.not_lt]
def kpi (p : Option Nat × Option Nat) : Prop := (p.1 = none ∧ p.2 = none) ∨ ∃ c v, p.1 = some c ∧ p.2 = some v ∧ c < 1000
theorem kpi_up {j : Nat} {f : Option Nat} {p : Option Nat × Option Nat} (hj : j < 1000) (hp : kpi p) : kpi (kup j f p) := by
  unfold kup
  split
  · rename_i h
    cases f with
    | none => cases h
    | some v => exact Or.inr ⟨j, v, rfl, rfl, hj⟩
  · exact hp
theorem kpi_w {p : Option Nat × Option Nat} (hp : kpi p) : (if kI p.1 = -9 then (-9 : Int32) else kN p.2) = kI p.2 := by
  rcases hp with ⟨h1, h2⟩ | ⟨c, v, h1, h2, hc⟩
  · rw [h1, h2]
    rfl
  · rw [h1, h2]
    exact if_neg (k_n9 (by omega))
theorem tm_orN (f : Option Nat) (hf : kle f) (M : mm_H) : mm_R 182 0 [some (.int (kI f))] [] M (some (.int (nI (k61 f))), M) := by
  cases f with
  | none =>
    refine mr_l (fun q_ => [some (.int q_)]) (show kI none = (-9 : Int32) from rfl) ?_
    show mm_R 182 0 [some (.int (-9))] [] M (some (.int 61), M)
    exact mr_ret 5 (fun f => rfl)
  | some v =>
    have hv := hf v rfl
    show mm_R 182 0 [some (.int (nI v))] [] M (some (.int (nI v)), M)
    refine mr_seg 1 (pc1 := 1) (ls1 := [some (.int (nI v))]) (st1 := [.int (nI v)]) (M1 := M) (fun f => rfl) ?_
    refine mr_t (C := 0 ≤ (nI v)) (nI_let (a := 0) (b := v) (by omega)) (fun f => rfl) ?_
    exact mr_ret 2 (fun f => rfl)
set_option maxRecDepth 100000 in
theorem tm_there (he ke ki fi fa or : List Nat) (mi a g l w s : Nat) (xi : List Int32) (im : Nat) (le nu rf : List Nat) (ln nn : Nat) (c : cC) (n m kk : kG) (Q : kK) (xw : List Int32) (vp : Int32) (xn xc : List Int32) (vs : Int32) (hQ : kV Q) (hs : k_st Q < 2 ^ 20) : mm_R 181 0 [some (.ref 138)] [] (mk_M c n m kk (rT (he, ke, ki, fi, fa, or, mi, a, g, l, w, s) (er Q) xi xw im le nu rf ln nn vp xn xc vs)) (some (.int (nI (k61 (kwa 60 0 Q (k_go Q))))), (mk_M c n m kk (rT (he, ke, ki, fi, fa, or, mi, a, g, l, w, s) (er (kwaR 60 Q (k_go Q))) xi xw im le nu rf ln nn vp xn xc vs))) := by
  refine mr_seg 4 (pc1 := 6) (ls1 := [some (.ref 138)]) (st1 := [.int 3, .ref 140, .ref 138]) (M1 := (mk_M c n m kk (rT (he, ke, ki, fi, fa, or, mi, a, g, l, w, s) (er Q) xi xw im le nu rf ln nn vp xn xc vs))) (fun f => rfl) ?_
  refine mr_ldn (xs := (er Q)) rfl rfl (k := 3) (by decide) rfl ?_
  refine mr_call (y := 173) (y0 := 10) (L := [some (.ref 138), some (.int (nI (k_go Q))), none]) (rest := []) (rr := some (.int (kI (kwa 60 0 Q (k_go Q))))) (M1 := (mk_M c n m kk (rT (he, ke, ki, fi, fa, or, mi, a, g, l, w, s) (er (kwaR 60 Q (k_go Q))) xi xw im le nu rf ln nn vp xn xc vs))) (fun f => rfl) (rc_wa c n m kk (rT (he, ke, ki, fi, fa, or, mi, a, g, l, w, s) (er Q) xi xw im le nu rf ln nn vp xn xc vs) (k_go Q) (kV_go hQ) Q hQ hs) ?_
  refine mr_call (y := 182) (y0 := 13) (L := [some (.int (kI (kwa 60 0 Q (k_go Q))))]) (rest := []) (rr := some (.int (nI (k61 (kwa 60 0 Q (k_go Q)))))) (M1 := (mk_M c n m kk (rT (he, ke, ki, fi, fa, or, mi, a, g, l, w, s) (er (kwaR 60 Q (k_go Q))) xi xw im le nu rf ln nn vp xn xc vs))) (fun f => rfl) (tm_orN _ (kle_wa Q (k_go Q)) _) ?_
  exact mr_ret 1 (fun f => rfl)
set_option maxRecDepth 100000 in
theorem tm_now (he ke ki fi fa or : List Nat) (mi a g l w s : Nat) (xi : List Int32) (im : Nat) (le nu rf : List Nat) (ln nn : Nat) (c : cC) (n m kk : kG) (hA : iA (he, ke, ki, fi, fa, or, mi, a, g, l, w, s)) (hC : iC nu nn) (xm xw : List Int32) (vp : Int32) (xn xc : List Int32) (vs : Int32) (hR : iR xm xw xn xc) : mm_R 180 0 [some (.ref 138)] [] (mk_M c n m kk (rT (he, ke, ki, fi, fa, or, mi, a, g, l, w, s) xm xi xw im le nu rf ln nn vp xn xc vs)) (some (.int (nI (k61 (kwa 60 0 (he, ke, ki, fi, fa, or, mi, a, g, l, w, s) g)))), (mk_M c n m kk (rT (he, ke, ki, fi, fa, or, mi, a, g, l, w, s) (er (kwaR 60 (he, ke, ki, fi, fa, or, mi, a, g, l, w, s) g)) xi xw im le nu rf ln nn vp xn xc vs))) := by
  obtain ⟨hV, hst⟩ := id hA
  have hst2 : s ≤ 999 := hst
  obtain ⟨v1, v2, v3, v4, v5, v6, v7, v8, v9, v10, v11, v12, v13, v14, v15, v16⟩ := id hV
  have v6l := kO_len mi v7 or v6
  obtain ⟨c1, c2, c3⟩ := id hC
  obtain ⟨r1, r2, r3, r4⟩ := id hR
  refine mr_seg 4 (pc1 := 8) (ls1 := [some (.ref 138)]) (st1 := [.ref 140, .ref 139]) (M1 := (mk_M c n m kk (rT (he, ke, ki, fi, fa, or, mi, a, g, l, w, s) xm xi xw im le nu rf ln nn vp xn xc vs))) (fun f => rfl) ?_
  refine mr_call (y := 138) (y0 := 11) (L := [some (.ref 139), some (.ref 140), none]) (rest := []) (rr := none) (M1 := (mk_M c n m kk (rT (he, ke, ki, fi, fa, or, mi, a, g, l, w, s) (er (he, ke, ki, fi, fa, or, mi, a, g, l, w, s)) xi xw im le nu rf ln nn vp xn xc vs))) (fun f => rfl) (rc_copies (a := 140) (b := 139) (by decide) rfl rfl (er_len hV) (by assumption)) ?_
  refine mr_seg 1 (pc1 := 12) (ls1 := [some (.ref 138)]) (st1 := [.ref 138]) (M1 := (mk_M c n m kk (rT (he, ke, ki, fi, fa, or, mi, a, g, l, w, s) (er (he, ke, ki, fi, fa, or, mi, a, g, l, w, s)) xi xw im le nu rf ln nn vp xn xc vs))) (fun f => rfl) ?_
  refine mr_call (y := 181) (y0 := 15) (L := [some (.ref 138)]) (rest := []) (rr := some (.int (nI (k61 (kwa 60 0 (he, ke, ki, fi, fa, or, mi, a, g, l, w, s) g))))) (M1 := (mk_M c n m kk (rT (he, ke, ki, fi, fa, or, mi, a, g, l, w, s) (er (kwaR 60 (he, ke, ki, fi, fa, or, mi, a, g, l, w, s) g)) xi xw im le nu rf ln nn vp xn xc vs))) (fun f => rfl) (tm_there he ke ki fi fa or mi a g l w s xi im le nu rf ln nn c n m kk (he, ke, ki, fi, fa, or, mi, a, g, l, w, s) xw vp xn xc vs hV (show s < 2 ^ 20 by omega)) ?_
  exact mr_ret 1 (fun f => rfl)
set_option maxRecDepth 100000 in
theorem tcL_start_0 (he ke ki fi fa or : List Nat) (mi a g l w s : Nat) (im : Nat) (le : List Nat) (ln : Nat) (ys : List Int32) (vt : Int32) (nu : List Nat) (nn : Nat) (rf : List Nat) (yc yh yg : List Int32) (kk : kG) (q : cR) (hA : iA (he, ke, ki, fi, fa, or, mi, a, g, l, w, s)) (k : Nat) : ∀ (j : Nat) (p : Option Nat × Option Nat) (m : kG) (lo3 : Option Value), j + k = 25 → kle p.2 → kSh m → mm_E 94 27 [some (.ref 100), some (.int 0), some (.int (nI j)), lo3] [] (mk_M (cT im le ln ys vt nu nn rf (kI p.1) (kN p.2) yc yh yg) (kr (he, ke, ki, fi, fa, or, mi, a, g, l, w, s)) m kk q) (fun r M1 => r = some (.int (kI (ksoon (fun j => if j = g then none else kwa 60 0 (he, ke, ki, fi, fa, or, mi, j, g, l, w, s) g) k j p).1)) ∧ ∃ (v1 v2 : Int32) (m2 : kG), kSh m2 ∧ M1 = mk_M (cT im le ln ys vt nu nn rf v1 v2 yc yh yg) (kr (he, ke, ki, fi, fa, or, mi, a, g, l, w, s)) m2 kk q) := by
  obtain ⟨hV, hst⟩ := id hA
  have hst2 : s ≤ 999 := hst
  obtain ⟨v1, v2, v3, v4, v5, v6, v7, v8, v9, v10, v11, v12, v13, v14, v15, v16⟩ := id hV
  have v6l := kO_len mi v7 or v6
  induction k with
  | zero =>
    intro j p m lo3 hj hp hm
    refine me_seg 2 (pc1 := 30) (ls1 := [some (.ref 100), some (.int 0), some (.int (nI j)), lo3]) (st1 := [.int 25, .int (nI j)]) (M1 := (mk_M (cT im le ln ys vt nu nn rf (kI p.1) (kN p.2) yc yh yg) (kr (he, ke, ki, fi, fa, or, mi, a, g, l, w, s)) m kk q)) (fun f => rfl) ?_
    refine me_t (C := 25 ≤ (nI j)) (nI_let (a := 25) (b := j) (by omega)) (fun f => rfl) ?_
    refine me_ret 7 (r := some (.int (kI p.1))) (M1 := (mk_M (cT im le ln ys vt nu nn rf (kI p.1) (kN p.2) yc yh yg) (kr (he, ke, ki, fi, fa, or, mi, a, g, l, w, s)) m kk q)) (fun f => rfl) ?_
    exact ⟨rfl, _, _, m, hm, rfl⟩
  | succ k IH =>
    intro j p m lo3 hj hp hm
    refine me_seg 2 (pc1 := 30) (ls1 := [some (.ref 100), some (.int 0), some (.int (nI j)), lo3]) (st1 := [.int 25, .int (nI j)]) (M1 := (mk_M (cT im le ln ys vt nu nn rf (kI p.1) (kN p.2) yc yh yg) (kr (he, ke, ki, fi, fa, or, mi, a, g, l, w, s)) m kk q)) (fun f => rfl) ?_
    refine me_f (C := 25 ≤ (nI j)) (nI_lef (a := 25) (b := j) (by omega)) (fun f => rfl) ?_
    refine me_seg 4 (pc1 := 41) (ls1 := [some (.ref 100), some (.int 0), some (.int (nI j)), lo3]) (st1 := [.int (nI g), .int (nI j)]) (M1 := (mk_M (cT im le ln ys vt nu nn rf (kI p.1) (kN p.2) yc yh yg) (kr (he, ke, ki, fi, fa, or, mi, a, g, l, w, s)) m kk q)) (fun f => rfl) ?_
    refine me_ifN (C := (nI j) = (nI g)) (nI_eqi (a := j) (b := g) (by omega)) (fun f => rfl) (fun h1 => ?_) (fun h1 => ?_)
    · refine me_seg 1 (pc1 := 69) (ls1 := [some (.ref 100), some (.int 0), some (.int ((nI j) + 1)), lo3]) (st1 := []) (M1 := (mk_M (cT im le ln ys vt nu nn rf (kI p.1) (kN p.2) yc yh yg) (kr (he, ke, ki, fi, fa, or, mi, a, g, l, w, s)) m kk q)) (fun f => rfl) ?_
      refine me_l (fun q_ => [some (.ref 100), some (.int 0), some (.int q_), lo3]) (nI_add j 1) ?_
      refine me_seg 1 (pc1 := 27) (ls1 := [some (.ref 100), some (.int 0), some (.int (nI (j + 1))), lo3]) (st1 := []) (M1 := (mk_M (cT im le ln ys vt nu nn rf (kI p.1) (kN p.2) yc yh yg) (kr (he, ke, ki, fi, fa, or, mi, a, g, l, w, s)) m kk q)) (fun f => rfl) ?_
      have e : (fun j => if j = g then none else kwa 60 0 (he, ke, ki, fi, fa, or, mi, j, g, l, w, s) g) j = none := if_pos (show j = g by omega)
      have e2 : ksoon (fun j => if j = g then none else kwa 60 0 (he, ke, ki, fi, fa, or, mi, j, g, l, w, s) g) (k + 1) j p = ksoon (fun j => if j = g then none else kwa 60 0 (he, ke, ki, fi, fa, or, mi, j, g, l, w, s) g) k (j + 1) p := by
        show ksoon (fun j => if j = g then none else kwa 60 0 (he, ke, ki, fi, fa, or, mi, j, g, l, w, s) g) k (j + 1) (kup j ((fun j => if j = g then none else kwa 60 0 (he, ke, ki, fi, fa, or, mi, j, g, l, w, s) g) j) p) = _
        rw [e]; rfl
      rw [e2]
      exact IH (j + 1) p m (lo3) (by omega) hp hm
    · refine me_seg 1 (pc1 := 45) (ls1 := [some (.ref 100), some (.int 0), some (.int (nI j)), lo3]) (st1 := [.ref 100]) (M1 := (mk_M (cT im le ln ys vt nu nn rf (kI p.1) (kN p.2) yc yh yg) (kr (he, ke, ki, fi, fa, or, mi, a, g, l, w, s)) m kk q)) (fun f => rfl) ?_
      refine me_call (y := 75) (y0 := 48) (L := [some (.ref 100)]) (rest := []) (rr := some (.ref 124)) (M1 := (mk_M (cT im le ln ys vt nu nn rf (kI p.1) (kN p.2) yc yh yg) (kr (he, ke, ki, fi, fa, or, mi, a, g, l, w, s)) (kr (he, ke, ki, fi, fa, or, mi, a, g, l, w, s)) kk q)) (fun f => rfl) (cc_now (he, ke, ki, fi, fa, or, mi, a, g, l, w, s) (cT im le ln ys vt nu nn rf (kI p.1) (kN p.2) yc yh yg) m kk q hV hm) ?_
      refine me_seg 4 (pc1 := 54) (ls1 := [some (.ref 100), some (.int 0), some (.int (nI j)), some (.ref 124)]) (st1 := []) (M1 := (mk_Mm (cT im le ln ys vt nu nn rf (kI p.1) (kN p.2) yc yh yg) (kr (he, ke, ki, fi, fa, or, mi, a, g, l, w, s)) (he.map nI) (ke.map nI) (ki.map nI) (fi.map nI) (fa.map nI) (or.map nI) (nI mi) (nI j) (nI g) (nI l) (nI w) (nI s) kk q)) (fun f => rfl) ?_
      refine me_M (mk_Mk (cT im le ln ys vt nu nn rf (kI p.1) (kN p.2) yc yh yg) (kr (he, ke, ki, fi, fa, or, mi, a, g, l, w, s)) he ke ki fi fa or mi j g l w s kk q) ?_
      refine me_seg 4 (pc1 := 60) (ls1 := [some (.ref 100), some (.int 0), some (.int (nI j)), some (.ref 124)]) (st1 := [.ref 124, .int (nI j), .ref 106]) (M1 := (mk_M (cT im le ln ys vt nu nn rf (kI p.1) (kN p.2) yc yh yg) (kr (he, ke, ki, fi, fa, or, mi, a, g, l, w, s)) (kr (he, ke, ki, fi, fa, or, mi, j, g, l, w, s)) kk q)) (fun f => rfl) ?_
      refine me_call (y := 89) (y0 := 63) (L := [some (.ref 124)]) (rest := [.int (nI j), .ref 106]) (rr := some (.int (kN (kwa 60 0 (he, ke, ki, fi, fa, or, mi, j, g, l, w, s) g)))) (M1 := (mk_M (cT im le ln ys vt nu nn rf (kI p.1) (kN p.2) yc yh yg) (kr (he, ke, ki, fi, fa, or, mi, a, g, l, w, s)) (kr (kwaK 60 (he, ke, ki, fi, fa, or, mi, j, g, l, w, s) g)) kk q)) (fun f => rfl) (kl_m (cT im le ln ys vt nu nn rf (kI p.1) (kN p.2) yc yh yg) (kr (he, ke, ki, fi, fa, or, mi, a, g, l, w, s)) kk q (kc_wt (he, ke, ki, fi, fa, or, mi, j, g, l, w, s) ⟨v1, v2, v3, v4, v5, v6, v7, by omega, v9, v10, v11, v12, v13, v14, v15, v16⟩ (show s < 2 ^ 20 by omega))) ?_
      refine me_call (y := 84) (y0 := 66) (L := [some (.ref 106), some (.int (nI j)), some (.int (kN (kwa 60 0 (he, ke, ki, fi, fa, or, mi, j, g, l, w, s) g)))]) (rest := []) (rr := none) (M1 := (mk_M (cT im le ln ys vt nu nn rf (kI (kup j (kwa 60 0 (he, ke, ki, fi, fa, or, mi, j, g, l, w, s) g) p).1) (kN (kup j (kwa 60 0 (he, ke, ki, fi, fa, or, mi, j, g, l, w, s) g) p).2) yc yh yg) (kr (he, ke, ki, fi, fa, or, mi, a, g, l, w, s)) (kr (kwaK 60 (he, ke, ki, fi, fa, or, mi, j, g, l, w, s) g)) kk q)) (fun f => rfl) (so_l im le ln ys vt nu nn rf yc yh yg (kr (he, ke, ki, fi, fa, or, mi, a, g, l, w, s)) (kr (kwaK 60 (he, ke, ki, fi, fa, or, mi, j, g, l, w, s) g)) kk q (cc_offer j (kwa 60 0 (he, ke, ki, fi, fa, or, mi, j, g, l, w, s) g) p (kle_wa _ _) hp)) ?_
      refine me_seg 1 (pc1 := 69) (ls1 := [some (.ref 100), some (.int 0), some (.int ((nI j) + 1)), some (.ref 124)]) (st1 := []) (M1 := (mk_M (cT im le ln ys vt nu nn rf (kI (kup j (kwa 60 0 (he, ke, ki, fi, fa, or, mi, j, g, l, w, s) g) p).1) (kN (kup j (kwa 60 0 (he, ke, ki, fi, fa, or, mi, j, g, l, w, s) g) p).2) yc yh yg) (kr (he, ke, ki, fi, fa, or, mi, a, g, l, w, s)) (kr (kwaK 60 (he, ke, ki, fi, fa, or, mi, j, g, l, w, s) g)) kk q)) (fun f => rfl) ?_
      refine me_l (fun q_ => [some (.ref 100), some (.int 0), some (.int q_), some (.ref 124)]) (nI_add j 1) ?_
      refine me_seg 1 (pc1 := 27) (ls1 := [some (.ref 100), some (.int 0), some (.int (nI (j + 1))), some (.ref 124)]) (st1 := []) (M1 := (mk_M (cT im le ln ys vt nu nn rf (kI (kup j (kwa 60 0 (he, ke, ki, fi, fa, or, mi, j, g, l, w, s) g) p).1) (kN (kup j (kwa 60 0 (he, ke, ki, fi, fa, or, mi, j, g, l, w, s) g) p).2) yc yh yg) (kr (he, ke, ki, fi, fa, or, mi, a, g, l, w, s)) (kr (kwaK 60 (he, ke, ki, fi, fa, or, mi, j, g, l, w, s) g)) kk q)) (fun f => rfl) ?_
      have e : (fun j => if j = g then none else kwa 60 0 (he, ke, ki, fi, fa, or, mi, j, g, l, w, s) g) j = kwa 60 0 (he, ke, ki, fi, fa, or, mi, j, g, l, w, s) g := if_neg (show ¬ j = g by omega)
      have e2 : ksoon (fun j => if j = g then none else kwa 60 0 (he, ke, ki, fi, fa, or, mi, j, g, l, w, s) g) (k + 1) j p = ksoon (fun j => if j = g then none else kwa 60 0 (he, ke, ki, fi, fa, or, mi, j, g, l, w, s) g) k (j + 1) (kup j (kwa 60 0 (he, ke, ki, fi, fa, or, mi, j, g, l, w, s) g) p) := by
        show ksoon (fun j => if j = g then none else kwa 60 0 (he, ke, ki, fi, fa, or, mi, j, g, l, w, s) g) k (j + 1) (kup j ((fun j => if j = g then none else kwa 60 0 (he, ke, ki, fi, fa, or, mi, j, g, l, w, s) g) j) p) = _
        rw [e]
      rw [e2]
      exact IH (j + 1) (kup j (kwa 60 0 (he, ke, ki, fi, fa, or, mi, j, g, l, w, s) g) p) (kr (kwaK 60 (he, ke, ki, fi, fa, or, mi, j, g, l, w, s) g)) (some (.ref 124)) (by omega) (kle_up (kle_wa _ _) hp) (kSh_r (kV_waK 60 g ⟨v1, v2, v3, v4, v5, v6, v7, by omega, v9, v10, v11, v12, v13, v14, v15, v16⟩))
set_option maxRecDepth 100000 in
theorem tc_start_0 (he ke ki fi fa or : List Nat) (mi a g l w s : Nat) (im : Nat) (le : List Nat) (ln : Nat) (ys : List Int32) (vt : Int32) (nu : List Nat) (nn : Nat) (rf : List Nat) (kk : kG) (q : cR) (hA : iA (he, ke, ki, fi, fa, or, mi, a, g, l, w, s)) (hC : iC nu nn) (vw vq : Int32) (yc yh yg : List Int32) (m : kG) (hJ : iJ m ys yc yh yg) : mm_E 94 0 [some (.ref 100), some (.int 0), none, none] [] (mk_M (cT im le ln ys vt nu nn rf vw vq yc yh yg) (kr (he, ke, ki, fi, fa, or, mi, a, g, l, w, s)) m kk q) (pC (fun r => r = some (.int (kI (ksoon (fun j => if j = g then none else kwa 60 0 (he, ke, ki, fi, fa, or, mi, j, g, l, w, s) g) 25 0 (none, none)).1))) (he, ke, ki, fi, fa, or, mi, a, g, l, w, s) im le ln ys vt nu nn rf kk q) := by
  obtain ⟨hV, hst⟩ := id hA
  have hst2 : s ≤ 999 := hst
  obtain ⟨v1, v2, v3, v4, v5, v6, v7, v8, v9, v10, v11, v12, v13, v14, v15, v16⟩ := id hV
  have v6l := kO_len mi v7 or v6
  obtain ⟨c1, c2, c3⟩ := id hC
  obtain ⟨j0, j1, j2, j3, j4⟩ := id hJ
  refine me_seg 8 (pc1 := 22) (ls1 := [some (.ref 100), some (.int 0), none, none]) (st1 := [.int 1000000, .ref 106]) (M1 := (mk_M (cT im le ln ys vt nu nn rf vw vq yc yh yg) (kr (he, ke, ki, fi, fa, or, mi, a, g, l, w, s)) m kk q)) (fun f => rfl) ?_
  refine me_call (y := 82) (y0 := 25) (L := [some (.ref 106), some (.int 1000000)]) (rest := []) (rr := none) (M1 := (mk_M (cT im le ln ys vt nu nn rf (-9) 1000000 yc yh yg) (kr (he, ke, ki, fi, fa, or, mi, a, g, l, w, s)) m kk q)) (fun f => rfl) (by
      exact mr_ret 7 (fun f => rfl)) ?_
  refine me_seg 2 (pc1 := 27) (ls1 := [some (.ref 100), some (.int 0), some (.int 0), none]) (st1 := []) (M1 := (mk_M (cT im le ln ys vt nu nn rf (-9) 1000000 yc yh yg) (kr (he, ke, ki, fi, fa, or, mi, a, g, l, w, s)) m kk q)) (fun f => rfl) ?_
  refine me_mp (tcL_start_0 he ke ki fi fa or mi a g l w s im le ln ys vt nu nn rf yc yh yg kk q hA 25 0 (none, none) m none (by omega) kle_n (by assumption)) ?_
  rintro r M1 ⟨hr, v1, v2, m2, hm2, rfl⟩
  exact ⟨hr, v1, v2, _, _, _, m2, rfl, hm2, j1, by assumption, by assumption, by assumption⟩
set_option maxRecDepth 100000 in
theorem tmL_start_0 (he ke ki fi fa or : List Nat) (mi a g l w s : Nat) (xi : List Int32) (im : Nat) (le nu rf : List Nat) (ln nn : Nat) (c : cC) (n m kk : kG) (hA : iA (he, ke, ki, fi, fa, or, mi, a, g, l, w, s)) (hC : iC nu nn) (k : Nat) : ∀ (j : Nat) (p : Option Nat × Option Nat) (lo5 : Option Value) (xm xw : List Int32) (vp : Int32) (xn xc : List Int32) (vs : Int32), j + k = 25 → iR xm xw xn xc → kle p.2 → kpi p → mm_E 187 25 [some (.ref 138), some (.int 0), some (.int (kI p.1)), some (.int (nI (k61 p.2))), some (.int (nI j)), lo5] [] (mk_M c n m kk (rT (he, ke, ki, fi, fa, or, mi, a, g, l, w, s) xm xi xw im le nu rf ln nn vp xn xc vs)) (pM (fun r => r = some (.int (kI (ksoon (fun j => if j = g then none else kwa 60 0 (he, ke, ki, fi, fa, or, mi, j, g, l, w, s) g) k j p).1))) (he, ke, ki, fi, fa, or, mi, a, g, l, w, s) xi im le nu rf ln nn c n m kk) := by
  obtain ⟨hV, hst⟩ := id hA
  have hst2 : s ≤ 999 := hst
  obtain ⟨v1, v2, v3, v4, v5, v6, v7, v8, v9, v10, v11, v12, v13, v14, v15, v16⟩ := id hV
  have v6l := kO_len mi v7 or v6
  obtain ⟨c1, c2, c3⟩ := id hC
  induction k with
  | zero =>
    intro j p lo5 xm xw vp xn xc vs hj hR hp hpi
    obtain ⟨r1, r2, r3, r4⟩ := id hR
    have hb1 := k61_le hp
    have hpb : ∀ cq, p.1 = some cq → cq < 1000 := fun cq hq1 => by rcases hpi with ⟨h, _⟩ | ⟨c_, v_, h, _, h2⟩; rw [hq1] at h; cases h; rw [hq1] at h; cases h; exact h2
    rcases hq1 : p.1 with _ | cq
    · refine me_l (fun q_ => [some (.ref 138), some (.int 0), some (.int q_), some (.int (nI (k61 p.2))), some (.int (nI j)), lo5]) (show kI none = (-9) from rfl) ?_
      refine me_seg 2 (pc1 := 29) (ls1 := [some (.ref 138), some (.int 0), some (.int (-9)), some (.int (nI (k61 p.2))), some (.int (nI j)), lo5]) (st1 := [.int 25, .int (nI j)]) (M1 := (mk_M c n m kk (rT (he, ke, ki, fi, fa, or, mi, a, g, l, w, s) xm xi xw im le nu rf ln nn vp xn xc vs))) (fun f => rfl) ?_
      refine me_t (C := 25 ≤ (nI j)) (nI_let (a := 25) (b := j) (by omega)) (fun f => rfl) ?_
      refine me_ret 5 (r := some (.int (-9))) (M1 := (mk_M c n m kk (rT (he, ke, ki, fi, fa, or, mi, a, g, l, w, s) xm xi xw im le nu rf ln nn vp xn xc vs))) (fun f => rfl) ?_
      exact ⟨(show some (.int (-9)) = some (Value.int (kI (ksoon (fun j => if j = g then none else kwa 60 0 (he, ke, ki, fi, fa, or, mi, j, g, l, w, s) g) 0 j p).1)) by show _ = some (Value.int (kI p.1)); rw [hq1]; rfl), _, _, _, _, _, _, rfl, ⟨(by assumption), (by assumption), (by assumption), (by assumption)⟩⟩
    · have hcq : cq < 1000 := hpb cq hq1
      refine me_l (fun q_ => [some (.ref 138), some (.int 0), some (.int q_), some (.int (nI (k61 p.2))), some (.int (nI j)), lo5]) (show kI (some cq) = (nI cq) from rfl) ?_
      refine me_seg 2 (pc1 := 29) (ls1 := [some (.ref 138), some (.int 0), some (.int (nI cq)), some (.int (nI (k61 p.2))), some (.int (nI j)), lo5]) (st1 := [.int 25, .int (nI j)]) (M1 := (mk_M c n m kk (rT (he, ke, ki, fi, fa, or, mi, a, g, l, w, s) xm xi xw im le nu rf ln nn vp xn xc vs))) (fun f => rfl) ?_
      refine me_t (C := 25 ≤ (nI j)) (nI_let (a := 25) (b := j) (by omega)) (fun f => rfl) ?_
      refine me_seg 1 (pc1 := 93) (ls1 := [some (.ref 138), some (.int 0), some (.int (nI cq)), some (.int (nI (k61 p.2))), some (.int (nI j)), lo5]) (st1 := [.int (nI cq)]) (M1 := (mk_M c n m kk (rT (he, ke, ki, fi, fa, or, mi, a, g, l, w, s) xm xi xw im le nu rf ln nn vp xn xc vs))) (fun f => rfl) ?_
      refine me_f (C := (nI cq) < 0) (nI_ltf (a := cq) (b := 0) (by omega)) (fun f => rfl) ?_
      refine me_ret 5 (r := some (.int (nI cq))) (M1 := (mk_M c n m kk (rT (he, ke, ki, fi, fa, or, mi, a, g, l, w, s) xm xi xw im le nu rf ln nn vp xn xc vs))) (fun f => rfl) ?_
      exact ⟨(show some (.int (nI cq)) = some (Value.int (kI (ksoon (fun j => if j = g then none else kwa 60 0 (he, ke, ki, fi, fa, or, mi, j, g, l, w, s) g) 0 j p).1)) by show _ = some (Value.int (kI p.1)); rw [hq1]; rfl), _, _, _, _, _, _, rfl, ⟨(by assumption), (by assumption), (by assumption), (by assumption)⟩⟩
  | succ k IH =>
    intro j p lo5 xm xw vp xn xc vs hj hR hp hpi
    obtain ⟨r1, r2, r3, r4⟩ := id hR
    have hb1 := k61_le hp
    have hb2 := k61_le (kle_wa (he, ke, ki, fi, fa, or, mi, j, g, l, w, s) g)
    refine me_seg 2 (pc1 := 29) (ls1 := [some (.ref 138), some (.int 0), some (.int (kI p.1)), some (.int (nI (k61 p.2))), some (.int (nI j)), lo5]) (st1 := [.int 25, .int (nI j)]) (M1 := (mk_M c n m kk (rT (he, ke, ki, fi, fa, or, mi, a, g, l, w, s) xm xi xw im le nu rf ln nn vp xn xc vs))) (fun f => rfl) ?_
    refine me_f (C := 25 ≤ (nI j)) (nI_lef (a := 25) (b := j) (by omega)) (fun f => rfl) ?_
    refine me_seg 4 (pc1 := 39) (ls1 := [some (.ref 138), some (.int 0), some (.int (kI p.1)), some (.int (nI (k61 p.2))), some (.int (nI j)), lo5]) (st1 := [.int 3, .ref 139, .int (nI j)]) (M1 := (mk_M c n m kk (rT (he, ke, ki, fi, fa, or, mi, a, g, l, w, s) xm xi xw im le nu rf ln nn vp xn xc vs))) (fun f => rfl) ?_
    refine me_ldn (xs := (er (he, ke, ki, fi, fa, or, mi, a, g, l, w, s))) rfl rfl (k := 3) (by decide) rfl ?_
    refine me_ifN (C := (nI j) = (nI g)) (nI_eqi (a := j) (b := g) (by omega)) (fun f => rfl) (fun h1 => ?_) (fun h1 => ?_)
    · refine me_seg 2 (pc1 := 89) (ls1 := [some (.ref 138), some (.int 0), some (.int (kI p.1)), some (.int (nI (k61 p.2))), some (.int ((nI j) + 1)), lo5]) (st1 := []) (M1 := (mk_M c n m kk (rT (he, ke, ki, fi, fa, or, mi, a, g, l, w, s) xm xi xw im le nu rf ln nn vp xn xc vs))) (fun f => rfl) ?_
      refine me_l (fun q_ => [some (.ref 138), some (.int 0), some (.int (kI p.1)), some (.int (nI (k61 p.2))), some (.int q_), lo5]) (nI_add j 1) ?_
      refine me_seg 1 (pc1 := 25) (ls1 := [some (.ref 138), some (.int 0), some (.int (kI p.1)), some (.int (nI (k61 p.2))), some (.int (nI (j + 1))), lo5]) (st1 := []) (M1 := (mk_M c n m kk (rT (he, ke, ki, fi, fa, or, mi, a, g, l, w, s) xm xi xw im le nu rf ln nn vp xn xc vs))) (fun f => rfl) ?_
      have e : (fun j => if j = g then none else kwa 60 0 (he, ke, ki, fi, fa, or, mi, j, g, l, w, s) g) j = none := if_pos (show j = g by omega)
      have e2 : ksoon (fun j => if j = g then none else kwa 60 0 (he, ke, ki, fi, fa, or, mi, j, g, l, w, s) g) (k + 1) j p = ksoon (fun j => if j = g then none else kwa 60 0 (he, ke, ki, fi, fa, or, mi, j, g, l, w, s) g) k (j + 1) p := by
        show ksoon (fun j => if j = g then none else kwa 60 0 (he, ke, ki, fi, fa, or, mi, j, g, l, w, s) g) k (j + 1) (kup j ((fun j => if j = g then none else kwa 60 0 (he, ke, ki, fi, fa, or, mi, j, g, l, w, s) g) j) p) = _
        rw [e, show kup j none p = p from rfl]
      rw [e2]
      exact IH (j + 1) p (lo5) xm xw vp xn xc vs (by omega) ⟨(by assumption), (by assumption), (by assumption), (by assumption)⟩ hp hpi
    · refine me_seg 4 (pc1 := 54) (ls1 := [some (.ref 138), some (.int 0), some (.int (kI p.1)), some (.int (nI (k61 p.2))), some (.int (nI j)), lo5]) (st1 := [.ref 140, .ref 139]) (M1 := (mk_M c n m kk (rT (he, ke, ki, fi, fa, or, mi, a, g, l, w, s) xm xi xw im le nu rf ln nn vp xn xc vs))) (fun f => rfl) ?_
      refine me_call (y := 138) (y0 := 57) (L := [some (.ref 139), some (.ref 140), none]) (rest := []) (rr := none) (M1 := (mk_M c n m kk (rT (he, ke, ki, fi, fa, or, mi, a, g, l, w, s) (er (he, ke, ki, fi, fa, or, mi, a, g, l, w, s)) xi xw im le nu rf ln nn vp xn xc vs))) (fun f => rfl) (rc_copies (a := 140) (b := 139) (by decide) rfl rfl (er_len hV) (by assumption)) ?_
      refine me_seg 4 (pc1 := 64) (ls1 := [some (.ref 138), some (.int 0), some (.int (kI p.1)), some (.int (nI (k61 p.2))), some (.int (nI j)), lo5]) (st1 := [.int (nI j), .int 2, .ref 140]) (M1 := (mk_M c n m kk (rT (he, ke, ki, fi, fa, or, mi, a, g, l, w, s) (er (he, ke, ki, fi, fa, or, mi, a, g, l, w, s)) xi xw im le nu rf ln nn vp xn xc vs))) (fun f => rfl) ?_
      refine me_stn (xs := (er (he, ke, ki, fi, fa, or, mi, a, g, l, w, s))) (ys := (er (he, ke, ki, fi, fa, or, mi, j, g, l, w, s))) (M2 := (mk_MR c n m kk (er (he, ke, ki, fi, fa, or, mi, a, g, l, w, s)) (er (he, ke, ki, fi, fa, or, mi, j, g, l, w, s)) xi xw (nI im) (le.map nI) (nu.map nI) (rf.map nI) (nI ln) (nI nn) vp xn xc vs)) rfl rfl (k := 2) (by decide) (by rw [er_leq (K := (he, ke, ki, fi, fa, or, mi, a, g, l, w, s)) v1 v6l]; decide) (er_s2 (v := j)) rfl ?_
      refine me_M (mk_MRk c n m kk (he, ke, ki, fi, fa, or, mi, a, g, l, w, s) (er (he, ke, ki, fi, fa, or, mi, j, g, l, w, s)) xi xw im le nu rf ln nn vp xn xc vs) ?_
      refine me_seg 1 (pc1 := 66) (ls1 := [some (.ref 138), some (.int 0), some (.int (kI p.1)), some (.int (nI (k61 p.2))), some (.int (nI j)), lo5]) (st1 := [.ref 138]) (M1 := (mk_M c n m kk (rT (he, ke, ki, fi, fa, or, mi, a, g, l, w, s) (er (he, ke, ki, fi, fa, or, mi, j, g, l, w, s)) xi xw im le nu rf ln nn vp xn xc vs))) (fun f => rfl) ?_
      refine me_call (y := 181) (y0 := 69) (L := [some (.ref 138)]) (rest := []) (rr := some (.int (nI (k61 (kwa 60 0 (he, ke, ki, fi, fa, or, mi, j, g, l, w, s) g))))) (M1 := (mk_M c n m kk (rT (he, ke, ki, fi, fa, or, mi, a, g, l, w, s) (er (kwaR 60 (he, ke, ki, fi, fa, or, mi, j, g, l, w, s) g)) xi xw im le nu rf ln nn vp xn xc vs))) (fun f => rfl) (tm_there he ke ki fi fa or mi a g l w s xi im le nu rf ln nn c n m kk (he, ke, ki, fi, fa, or, mi, j, g, l, w, s) xw vp xn xc vs ⟨v1, v2, v3, v4, v5, v6, v7, by omega, v9, v10, v11, v12, v13, v14, v15, v16⟩ (show s < 2 ^ 20 by omega)) ?_
      refine me_seg 3 (pc1 := 74) (ls1 := [some (.ref 138), some (.int 0), some (.int (kI p.1)), some (.int (nI (k61 p.2))), some (.int (nI j)), some (.int (nI (k61 (kwa 60 0 (he, ke, ki, fi, fa, or, mi, j, g, l, w, s) g))))]) (st1 := [.int (nI (k61 p.2)), .int (nI (k61 (kwa 60 0 (he, ke, ki, fi, fa, or, mi, j, g, l, w, s) g)))]) (M1 := (mk_M c n m kk (rT (he, ke, ki, fi, fa, or, mi, a, g, l, w, s) (er (kwaR 60 (he, ke, ki, fi, fa, or, mi, j, g, l, w, s) g)) xi xw im le nu rf ln nn vp xn xc vs))) (fun f => rfl) ?_
      refine me_ifN (C := (nI (k61 (kwa 60 0 (he, ke, ki, fi, fa, or, mi, j, g, l, w, s) g))) < (nI (k61 p.2))) ((nI_lti (a := k61 (kwa 60 0 (he, ke, ki, fi, fa, or, mi, j, g, l, w, s) g)) (b := k61 p.2) (by omega)).trans (k61_lt (kle_wa _ _) hp)) (fun f => rfl) (fun h2 => ?_) (fun h2 => ?_)
      · refine me_seg 5 (pc1 := 89) (ls1 := [some (.ref 138), some (.int 0), some (.int (nI j)), some (.int (nI (k61 (kwa 60 0 (he, ke, ki, fi, fa, or, mi, j, g, l, w, s) g)))), some (.int ((nI j) + 1)), some (.int (nI (k61 (kwa 60 0 (he, ke, ki, fi, fa, or, mi, j, g, l, w, s) g))))]) (st1 := []) (M1 := (mk_M c n m kk (rT (he, ke, ki, fi, fa, or, mi, a, g, l, w, s) (er (kwaR 60 (he, ke, ki, fi, fa, or, mi, j, g, l, w, s) g)) xi xw im le nu rf ln nn vp xn xc vs))) (fun f => rfl) ?_
        refine me_l (fun q_ => [some (.ref 138), some (.int 0), some (.int (nI j)), some (.int (nI (k61 (kwa 60 0 (he, ke, ki, fi, fa, or, mi, j, g, l, w, s) g)))), some (.int q_), some (.int (nI (k61 (kwa 60 0 (he, ke, ki, fi, fa, or, mi, j, g, l, w, s) g))))]) (nI_add j 1) ?_
        refine me_seg 1 (pc1 := 25) (ls1 := [some (.ref 138), some (.int 0), some (.int (nI j)), some (.int (nI (k61 (kwa 60 0 (he, ke, ki, fi, fa, or, mi, j, g, l, w, s) g)))), some (.int (nI (j + 1))), some (.int (nI (k61 (kwa 60 0 (he, ke, ki, fi, fa, or, mi, j, g, l, w, s) g))))]) (st1 := []) (M1 := (mk_M c n m kk (rT (he, ke, ki, fi, fa, or, mi, a, g, l, w, s) (er (kwaR 60 (he, ke, ki, fi, fa, or, mi, j, g, l, w, s) g)) xi xw im le nu rf ln nn vp xn xc vs))) (fun f => rfl) ?_
        have e : (fun j => if j = g then none else kwa 60 0 (he, ke, ki, fi, fa, or, mi, j, g, l, w, s) g) j = kwa 60 0 (he, ke, ki, fi, fa, or, mi, j, g, l, w, s) g := if_neg (show ¬ j = g by omega)
        have e2 : ksoon (fun j => if j = g then none else kwa 60 0 (he, ke, ki, fi, fa, or, mi, j, g, l, w, s) g) (k + 1) j p = ksoon (fun j => if j = g then none else kwa 60 0 (he, ke, ki, fi, fa, or, mi, j, g, l, w, s) g) k (j + 1) (some j, kwa 60 0 (he, ke, ki, fi, fa, or, mi, j, g, l, w, s) g) := by
          show ksoon (fun j => if j = g then none else kwa 60 0 (he, ke, ki, fi, fa, or, mi, j, g, l, w, s) g) k (j + 1) (kup j ((fun j => if j = g then none else kwa 60 0 (he, ke, ki, fi, fa, or, mi, j, g, l, w, s) g) j) p) = _
          rw [e, show kup j (kwa 60 0 (he, ke, ki, fi, fa, or, mi, j, g, l, w, s) g) p = (some j, kwa 60 0 (he, ke, ki, fi, fa, or, mi, j, g, l, w, s) g) from if_pos h2]
        rw [e2]
        exact IH (j + 1) (some j, kwa 60 0 (he, ke, ki, fi, fa, or, mi, j, g, l, w, s) g) (some (.int (nI (k61 (kwa 60 0 (he, ke, ki, fi, fa, or, mi, j, g, l, w, s) g))))) (er (kwaR 60 (he, ke, ki, fi, fa, or, mi, j, g, l, w, s) g)) xw vp xn xc vs (by omega) ⟨(er_len (kV_waR 60 g ⟨v1, v2, v3, v4, v5, v6, v7, by omega, v9, v10, v11, v12, v13, v14, v15, v16⟩)), (by assumption), (by assumption), (by assumption)⟩ (kle_wa _ _) (by have q_ := kpi_up (j := j) (f := kwa 60 0 (he, ke, ki, fi, fa, or, mi, j, g, l, w, s) g) (by omega) hpi; rw [show kup j (kwa 60 0 (he, ke, ki, fi, fa, or, mi, j, g, l, w, s) g) p = (some j, kwa 60 0 (he, ke, ki, fi, fa, or, mi, j, g, l, w, s) g) from if_pos h2] at q_; exact q_)
      · refine me_seg 2 (pc1 := 89) (ls1 := [some (.ref 138), some (.int 0), some (.int (kI p.1)), some (.int (nI (k61 p.2))), some (.int ((nI j) + 1)), some (.int (nI (k61 (kwa 60 0 (he, ke, ki, fi, fa, or, mi, j, g, l, w, s) g))))]) (st1 := []) (M1 := (mk_M c n m kk (rT (he, ke, ki, fi, fa, or, mi, a, g, l, w, s) (er (kwaR 60 (he, ke, ki, fi, fa, or, mi, j, g, l, w, s) g)) xi xw im le nu rf ln nn vp xn xc vs))) (fun f => rfl) ?_
        refine me_l (fun q_ => [some (.ref 138), some (.int 0), some (.int (kI p.1)), some (.int (nI (k61 p.2))), some (.int q_), some (.int (nI (k61 (kwa 60 0 (he, ke, ki, fi, fa, or, mi, j, g, l, w, s) g))))]) (nI_add j 1) ?_
        refine me_seg 1 (pc1 := 25) (ls1 := [some (.ref 138), some (.int 0), some (.int (kI p.1)), some (.int (nI (k61 p.2))), some (.int (nI (j + 1))), some (.int (nI (k61 (kwa 60 0 (he, ke, ki, fi, fa, or, mi, j, g, l, w, s) g))))]) (st1 := []) (M1 := (mk_M c n m kk (rT (he, ke, ki, fi, fa, or, mi, a, g, l, w, s) (er (kwaR 60 (he, ke, ki, fi, fa, or, mi, j, g, l, w, s) g)) xi xw im le nu rf ln nn vp xn xc vs))) (fun f => rfl) ?_
        have e : (fun j => if j = g then none else kwa 60 0 (he, ke, ki, fi, fa, or, mi, j, g, l, w, s) g) j = kwa 60 0 (he, ke, ki, fi, fa, or, mi, j, g, l, w, s) g := if_neg (show ¬ j = g by omega)
        have e2 : ksoon (fun j => if j = g then none else kwa 60 0 (he, ke, ki, fi, fa, or, mi, j, g, l, w, s) g) (k + 1) j p = ksoon (fun j => if j = g then none else kwa 60 0 (he, ke, ki, fi, fa, or, mi, j, g, l, w, s) g) k (j + 1) p := by
          show ksoon (fun j => if j = g then none else kwa 60 0 (he, ke, ki, fi, fa, or, mi, j, g, l, w, s) g) k (j + 1) (kup j ((fun j => if j = g then none else kwa 60 0 (he, ke, ki, fi, fa, or, mi, j, g, l, w, s) g) j) p) = _
          rw [e, show kup j (kwa 60 0 (he, ke, ki, fi, fa, or, mi, j, g, l, w, s) g) p = p from if_neg h2]
        rw [e2]
        exact IH (j + 1) p (some (.int (nI (k61 (kwa 60 0 (he, ke, ki, fi, fa, or, mi, j, g, l, w, s) g))))) (er (kwaR 60 (he, ke, ki, fi, fa, or, mi, j, g, l, w, s) g)) xw vp xn xc vs (by omega) ⟨(er_len (kV_waR 60 g ⟨v1, v2, v3, v4, v5, v6, v7, by omega, v9, v10, v11, v12, v13, v14, v15, v16⟩)), (by assumption), (by assumption), (by assumption)⟩ hp hpi
set_option maxRecDepth 100000 in
theorem tm_start_0 (he ke ki fi fa or : List Nat) (mi a g l w s : Nat) (xi : List Int32) (im : Nat) (le nu rf : List Nat) (ln nn : Nat) (c : cC) (n m kk : kG) (hA : iA (he, ke, ki, fi, fa, or, mi, a, g, l, w, s)) (hC : iC nu nn) (xm xw : List Int32) (vp : Int32) (xn xc : List Int32) (vs : Int32) (hR : iR xm xw xn xc) : mm_E 187 0 [some (.ref 138), some (.int 0), none, none, none, none] [] (mk_M c n m kk (rT (he, ke, ki, fi, fa, or, mi, a, g, l, w, s) xm xi xw im le nu rf ln nn vp xn xc vs)) (pM (fun r => r = some (.int (kI (ksoon (fun j => if j = g then none else kwa 60 0 (he, ke, ki, fi, fa, or, mi, j, g, l, w, s) g) 25 0 (none, none)).1))) (he, ke, ki, fi, fa, or, mi, a, g, l, w, s) xi im le nu rf ln nn c n m kk) := by
  obtain ⟨hV, hst⟩ := id hA
  have hst2 : s ≤ 999 := hst
  obtain ⟨v1, v2, v3, v4, v5, v6, v7, v8, v9, v10, v11, v12, v13, v14, v15, v16⟩ := id hV
  have v6l := kO_len mi v7 or v6
  obtain ⟨c1, c2, c3⟩ := id hC
  obtain ⟨r1, r2, r3, r4⟩ := id hR
  refine me_seg 3 (pc1 := 3) (ls1 := [some (.ref 138), some (.int 0), none, none, none, none]) (st1 := [.int 1, .int 0, .int 0]) (M1 := (mk_M c n m kk (rT (he, ke, ki, fi, fa, or, mi, a, g, l, w, s) xm xi xw im le nu rf ln nn vp xn xc vs))) (fun f => rfl) ?_
  refine me_call (y := 135) (y0 := 6) (L := [some (.int 0), some (.int 0), some (.int 1)]) (rest := []) (rr := some (.int 1)) (M1 := (mk_M c n m kk (rT (he, ke, ki, fi, fa, or, mi, a, g, l, w, s) xm xi xw im le nu rf ln nn vp xn xc vs))) (fun f => rfl) (by
      exact mr_ret 9 (fun f => rfl)) ?_
  refine me_seg 7 (pc1 := 25) (ls1 := [some (.ref 138), some (.int 0), some (.int (-9)), some (.int 61), some (.int 0), none]) (st1 := []) (M1 := (mk_M c n m kk (rT (he, ke, ki, fi, fa, or, mi, a, g, l, w, s) xm xi xw im le nu rf ln nn vp xn xc vs))) (fun f => rfl) ?_
  exact tmL_start_0 he ke ki fi fa or mi a g l w s xi im le nu rf ln nn c n m kk hA hC 25 0 (none, none) none xm xw vp xn xc vs (by omega) ⟨(by assumption), (by assumption), (by assumption), (by assumption)⟩ kle_n (Or.inl ⟨rfl, rfl⟩)
set_option maxRecDepth 100000 in
theorem tcL_start_1 (he ke ki fi fa or : List Nat) (mi a g l w s : Nat) (im : Nat) (le : List Nat) (ln : Nat) (ys : List Int32) (vt : Int32) (nu : List Nat) (nn : Nat) (rf : List Nat) (yc yh yg : List Int32) (kk : kG) (q : cR) (hA : iA (he, ke, ki, fi, fa, or, mi, a, g, l, w, s)) (k : Nat) : ∀ (j : Nat) (p : Option Nat × Option Nat) (m : kG) (lo3 : Option Value), j + k = 25 → kle p.2 → kSh m → kpi p → mm_E 94 27 [some (.ref 100), some (.int 1), some (.int (nI j)), lo3] [] (mk_M (cT im le ln ys vt nu nn rf (kI p.1) (kN p.2) yc yh yg) (kr (he, ke, ki, fi, fa, or, mi, a, g, l, w, s)) m kk q) (fun r M1 => r = some (.int (kI (ksoon (fun j => if j = g then none else kwa 60 0 (he, ke, ki, fi, fa, or, mi, j, g, l, w, s) g) k j p).2)) ∧ ∃ (v1 v2 : Int32) (m2 : kG), kSh m2 ∧ M1 = mk_M (cT im le ln ys vt nu nn rf v1 v2 yc yh yg) (kr (he, ke, ki, fi, fa, or, mi, a, g, l, w, s)) m2 kk q) := by
  obtain ⟨hV, hst⟩ := id hA
  have hst2 : s ≤ 999 := hst
  obtain ⟨v1, v2, v3, v4, v5, v6, v7, v8, v9, v10, v11, v12, v13, v14, v15, v16⟩ := id hV
  have v6l := kO_len mi v7 or v6
  induction k with
  | zero =>
    intro j p m lo3 hj hp hm hpi
    refine me_seg 2 (pc1 := 30) (ls1 := [some (.ref 100), some (.int 1), some (.int (nI j)), lo3]) (st1 := [.int 25, .int (nI j)]) (M1 := (mk_M (cT im le ln ys vt nu nn rf (kI p.1) (kN p.2) yc yh yg) (kr (he, ke, ki, fi, fa, or, mi, a, g, l, w, s)) m kk q)) (fun f => rfl) ?_
    refine me_t (C := 25 ≤ (nI j)) (nI_let (a := 25) (b := j) (by omega)) (fun f => rfl) ?_
    refine me_seg 4 (pc1 := 90) (ls1 := [some (.ref 100), some (.int 1), some (.int (nI j)), lo3]) (st1 := [.ref 106]) (M1 := (mk_M (cT im le ln ys vt nu nn rf (kI p.1) (kN p.2) yc yh yg) (kr (he, ke, ki, fi, fa, or, mi, a, g, l, w, s)) m kk q)) (fun f => rfl) ?_
    refine me_call (y := 95) (y0 := 93) (L := [some (.ref 106)]) (rest := []) (rr := some (.int (if (kI p.1) = -9 then -9 else (kN p.2)))) (M1 := (mk_M (cT im le ln ys vt nu nn rf (kI p.1) (kN p.2) yc yh yg) (kr (he, ke, ki, fi, fa, or, mi, a, g, l, w, s)) m kk q)) (fun f => rfl) (so_l im le ln ys vt nu nn rf yc yh yg (kr (he, ke, ki, fi, fa, or, mi, a, g, l, w, s)) m kk q (cc_won (kI p.1) (kN p.2))) ?_
    refine me_ret 1 (r := some (.int (if (kI p.1) = -9 then -9 else (kN p.2)))) (M1 := (mk_M (cT im le ln ys vt nu nn rf (kI p.1) (kN p.2) yc yh yg) (kr (he, ke, ki, fi, fa, or, mi, a, g, l, w, s)) m kk q)) (fun f => rfl) ?_
    exact ⟨congrArg (fun q => some (Value.int q)) (kpi_w hpi), _, _, m, hm, rfl⟩
  | succ k IH =>
    intro j p m lo3 hj hp hm hpi
    refine me_seg 2 (pc1 := 30) (ls1 := [some (.ref 100), some (.int 1), some (.int (nI j)), lo3]) (st1 := [.int 25, .int (nI j)]) (M1 := (mk_M (cT im le ln ys vt nu nn rf (kI p.1) (kN p.2) yc yh yg) (kr (he, ke, ki, fi, fa, or, mi, a, g, l, w, s)) m kk q)) (fun f => rfl) ?_
    refine me_f (C := 25 ≤ (nI j)) (nI_lef (a := 25) (b := j) (by omega)) (fun f => rfl) ?_
    refine me_seg 4 (pc1 := 41) (ls1 := [some (.ref 100), some (.int 1), some (.int (nI j)), lo3]) (st1 := [.int (nI g), .int (nI j)]) (M1 := (mk_M (cT im le ln ys vt nu nn rf (kI p.1) (kN p.2) yc yh yg) (kr (he, ke, ki, fi, fa, or, mi, a, g, l, w, s)) m kk q)) (fun f => rfl) ?_
    refine me_ifN (C := (nI j) = (nI g)) (nI_eqi (a := j) (b := g) (by omega)) (fun f => rfl) (fun h1 => ?_) (fun h1 => ?_)
    · refine me_seg 1 (pc1 := 69) (ls1 := [some (.ref 100), some (.int 1), some (.int ((nI j) + 1)), lo3]) (st1 := []) (M1 := (mk_M (cT im le ln ys vt nu nn rf (kI p.1) (kN p.2) yc yh yg) (kr (he, ke, ki, fi, fa, or, mi, a, g, l, w, s)) m kk q)) (fun f => rfl) ?_
      refine me_l (fun q_ => [some (.ref 100), some (.int 1), some (.int q_), lo3]) (nI_add j 1) ?_
      refine me_seg 1 (pc1 := 27) (ls1 := [some (.ref 100), some (.int 1), some (.int (nI (j + 1))), lo3]) (st1 := []) (M1 := (mk_M (cT im le ln ys vt nu nn rf (kI p.1) (kN p.2) yc yh yg) (kr (he, ke, ki, fi, fa, or, mi, a, g, l, w, s)) m kk q)) (fun f => rfl) ?_
      have e : (fun j => if j = g then none else kwa 60 0 (he, ke, ki, fi, fa, or, mi, j, g, l, w, s) g) j = none := if_pos (show j = g by omega)
      have e2 : ksoon (fun j => if j = g then none else kwa 60 0 (he, ke, ki, fi, fa, or, mi, j, g, l, w, s) g) (k + 1) j p = ksoon (fun j => if j = g then none else kwa 60 0 (he, ke, ki, fi, fa, or, mi, j, g, l, w, s) g) k (j + 1) p := by
        show ksoon (fun j => if j = g then none else kwa 60 0 (he, ke, ki, fi, fa, or, mi, j, g, l, w, s) g) k (j + 1) (kup j ((fun j => if j = g then none else kwa 60 0 (he, ke, ki, fi, fa, or, mi, j, g, l, w, s) g) j) p) = _
        rw [e]; rfl
      rw [e2]
      exact IH (j + 1) p m (lo3) (by omega) hp hm hpi
    · refine me_seg 1 (pc1 := 45) (ls1 := [some (.ref 100), some (.int 1), some (.int (nI j)), lo3]) (st1 := [.ref 100]) (M1 := (mk_M (cT im le ln ys vt nu nn rf (kI p.1) (kN p.2) yc yh yg) (kr (he, ke, ki, fi, fa, or, mi, a, g, l, w, s)) m kk q)) (fun f => rfl) ?_
      refine me_call (y := 75) (y0 := 48) (L := [some (.ref 100)]) (rest := []) (rr := some (.ref 124)) (M1 := (mk_M (cT im le ln ys vt nu nn rf (kI p.1) (kN p.2) yc yh yg) (kr (he, ke, ki, fi, fa, or, mi, a, g, l, w, s)) (kr (he, ke, ki, fi, fa, or, mi, a, g, l, w, s)) kk q)) (fun f => rfl) (cc_now (he, ke, ki, fi, fa, or, mi, a, g, l, w, s) (cT im le ln ys vt nu nn rf (kI p.1) (kN p.2) yc yh yg) m kk q hV hm) ?_
      refine me_seg 4 (pc1 := 54) (ls1 := [some (.ref 100), some (.int 1), some (.int (nI j)), some (.ref 124)]) (st1 := []) (M1 := (mk_Mm (cT im le ln ys vt nu nn rf (kI p.1) (kN p.2) yc yh yg) (kr (he, ke, ki, fi, fa, or, mi, a, g, l, w, s)) (he.map nI) (ke.map nI) (ki.map nI) (fi.map nI) (fa.map nI) (or.map nI) (nI mi) (nI j) (nI g) (nI l) (nI w) (nI s) kk q)) (fun f => rfl) ?_
      refine me_M (mk_Mk (cT im le ln ys vt nu nn rf (kI p.1) (kN p.2) yc yh yg) (kr (he, ke, ki, fi, fa, or, mi, a, g, l, w, s)) he ke ki fi fa or mi j g l w s kk q) ?_
      refine me_seg 4 (pc1 := 60) (ls1 := [some (.ref 100), some (.int 1), some (.int (nI j)), some (.ref 124)]) (st1 := [.ref 124, .int (nI j), .ref 106]) (M1 := (mk_M (cT im le ln ys vt nu nn rf (kI p.1) (kN p.2) yc yh yg) (kr (he, ke, ki, fi, fa, or, mi, a, g, l, w, s)) (kr (he, ke, ki, fi, fa, or, mi, j, g, l, w, s)) kk q)) (fun f => rfl) ?_
      refine me_call (y := 89) (y0 := 63) (L := [some (.ref 124)]) (rest := [.int (nI j), .ref 106]) (rr := some (.int (kN (kwa 60 0 (he, ke, ki, fi, fa, or, mi, j, g, l, w, s) g)))) (M1 := (mk_M (cT im le ln ys vt nu nn rf (kI p.1) (kN p.2) yc yh yg) (kr (he, ke, ki, fi, fa, or, mi, a, g, l, w, s)) (kr (kwaK 60 (he, ke, ki, fi, fa, or, mi, j, g, l, w, s) g)) kk q)) (fun f => rfl) (kl_m (cT im le ln ys vt nu nn rf (kI p.1) (kN p.2) yc yh yg) (kr (he, ke, ki, fi, fa, or, mi, a, g, l, w, s)) kk q (kc_wt (he, ke, ki, fi, fa, or, mi, j, g, l, w, s) ⟨v1, v2, v3, v4, v5, v6, v7, by omega, v9, v10, v11, v12, v13, v14, v15, v16⟩ (show s < 2 ^ 20 by omega))) ?_
      refine me_call (y := 84) (y0 := 66) (L := [some (.ref 106), some (.int (nI j)), some (.int (kN (kwa 60 0 (he, ke, ki, fi, fa, or, mi, j, g, l, w, s) g)))]) (rest := []) (rr := none) (M1 := (mk_M (cT im le ln ys vt nu nn rf (kI (kup j (kwa 60 0 (he, ke, ki, fi, fa, or, mi, j, g, l, w, s) g) p).1) (kN (kup j (kwa 60 0 (he, ke, ki, fi, fa, or, mi, j, g, l, w, s) g) p).2) yc yh yg) (kr (he, ke, ki, fi, fa, or, mi, a, g, l, w, s)) (kr (kwaK 60 (he, ke, ki, fi, fa, or, mi, j, g, l, w, s) g)) kk q)) (fun f => rfl) (so_l im le ln ys vt nu nn rf yc yh yg (kr (he, ke, ki, fi, fa, or, mi, a, g, l, w, s)) (kr (kwaK 60 (he, ke, ki, fi, fa, or, mi, j, g, l, w, s) g)) kk q (cc_offer j (kwa 60 0 (he, ke, ki, fi, fa, or, mi, j, g, l, w, s) g) p (kle_wa _ _) hp)) ?_
      refine me_seg 1 (pc1 := 69) (ls1 := [some (.ref 100), some (.int 1), some (.int ((nI j) + 1)), some (.ref 124)]) (st1 := []) (M1 := (mk_M (cT im le ln ys vt nu nn rf (kI (kup j (kwa 60 0 (he, ke, ki, fi, fa, or, mi, j, g, l, w, s) g) p).1) (kN (kup j (kwa 60 0 (he, ke, ki, fi, fa, or, mi, j, g, l, w, s) g) p).2) yc yh yg) (kr (he, ke, ki, fi, fa, or, mi, a, g, l, w, s)) (kr (kwaK 60 (he, ke, ki, fi, fa, or, mi, j, g, l, w, s) g)) kk q)) (fun f => rfl) ?_
      refine me_l (fun q_ => [some (.ref 100), some (.int 1), some (.int q_), some (.ref 124)]) (nI_add j 1) ?_
      refine me_seg 1 (pc1 := 27) (ls1 := [some (.ref 100), some (.int 1), some (.int (nI (j + 1))), some (.ref 124)]) (st1 := []) (M1 := (mk_M (cT im le ln ys vt nu nn rf (kI (kup j (kwa 60 0 (he, ke, ki, fi, fa, or, mi, j, g, l, w, s) g) p).1) (kN (kup j (kwa 60 0 (he, ke, ki, fi, fa, or, mi, j, g, l, w, s) g) p).2) yc yh yg) (kr (he, ke, ki, fi, fa, or, mi, a, g, l, w, s)) (kr (kwaK 60 (he, ke, ki, fi, fa, or, mi, j, g, l, w, s) g)) kk q)) (fun f => rfl) ?_
      have e : (fun j => if j = g then none else kwa 60 0 (he, ke, ki, fi, fa, or, mi, j, g, l, w, s) g) j = kwa 60 0 (he, ke, ki, fi, fa, or, mi, j, g, l, w, s) g := if_neg (show ¬ j = g by omega)
      have e2 : ksoon (fun j => if j = g then none else kwa 60 0 (he, ke, ki, fi, fa, or, mi, j, g, l, w, s) g) (k + 1) j p = ksoon (fun j => if j = g then none else kwa 60 0 (he, ke, ki, fi, fa, or, mi, j, g, l, w, s) g) k (j + 1) (kup j (kwa 60 0 (he, ke, ki, fi, fa, or, mi, j, g, l, w, s) g) p) := by
        show ksoon (fun j => if j = g then none else kwa 60 0 (he, ke, ki, fi, fa, or, mi, j, g, l, w, s) g) k (j + 1) (kup j ((fun j => if j = g then none else kwa 60 0 (he, ke, ki, fi, fa, or, mi, j, g, l, w, s) g) j) p) = _
        rw [e]
      rw [e2]
      exact IH (j + 1) (kup j (kwa 60 0 (he, ke, ki, fi, fa, or, mi, j, g, l, w, s) g) p) (kr (kwaK 60 (he, ke, ki, fi, fa, or, mi, j, g, l, w, s) g)) (some (.ref 124)) (by omega) (kle_up (kle_wa _ _) hp) (kSh_r (kV_waK 60 g ⟨v1, v2, v3, v4, v5, v6, v7, by omega, v9, v10, v11, v12, v13, v14, v15, v16⟩)) (kpi_up (by omega) hpi)
set_option maxRecDepth 100000 in
theorem tc_start_1 (he ke ki fi fa or : List Nat) (mi a g l w s : Nat) (im : Nat) (le : List Nat) (ln : Nat) (ys : List Int32) (vt : Int32) (nu : List Nat) (nn : Nat) (rf : List Nat) (kk : kG) (q : cR) (hA : iA (he, ke, ki, fi, fa, or, mi, a, g, l, w, s)) (hC : iC nu nn) (vw vq : Int32) (yc yh yg : List Int32) (m : kG) (hJ : iJ m ys yc yh yg) : mm_E 94 0 [some (.ref 100), some (.int 1), none, none] [] (mk_M (cT im le ln ys vt nu nn rf vw vq yc yh yg) (kr (he, ke, ki, fi, fa, or, mi, a, g, l, w, s)) m kk q) (pC (fun r => r = some (.int (kI (ksoon (fun j => if j = g then none else kwa 60 0 (he, ke, ki, fi, fa, or, mi, j, g, l, w, s) g) 25 0 (none, none)).2))) (he, ke, ki, fi, fa, or, mi, a, g, l, w, s) im le ln ys vt nu nn rf kk q) := by
  obtain ⟨hV, hst⟩ := id hA
  have hst2 : s ≤ 999 := hst
  obtain ⟨v1, v2, v3, v4, v5, v6, v7, v8, v9, v10, v11, v12, v13, v14, v15, v16⟩ := id hV
  have v6l := kO_len mi v7 or v6
  obtain ⟨c1, c2, c3⟩ := id hC
  obtain ⟨j0, j1, j2, j3, j4⟩ := id hJ
  refine me_seg 8 (pc1 := 22) (ls1 := [some (.ref 100), some (.int 1), none, none]) (st1 := [.int 1000000, .ref 106]) (M1 := (mk_M (cT im le ln ys vt nu nn rf vw vq yc yh yg) (kr (he, ke, ki, fi, fa, or, mi, a, g, l, w, s)) m kk q)) (fun f => rfl) ?_
  refine me_call (y := 82) (y0 := 25) (L := [some (.ref 106), some (.int 1000000)]) (rest := []) (rr := none) (M1 := (mk_M (cT im le ln ys vt nu nn rf (-9) 1000000 yc yh yg) (kr (he, ke, ki, fi, fa, or, mi, a, g, l, w, s)) m kk q)) (fun f => rfl) (by
      exact mr_ret 7 (fun f => rfl)) ?_
  refine me_seg 2 (pc1 := 27) (ls1 := [some (.ref 100), some (.int 1), some (.int 0), none]) (st1 := []) (M1 := (mk_M (cT im le ln ys vt nu nn rf (-9) 1000000 yc yh yg) (kr (he, ke, ki, fi, fa, or, mi, a, g, l, w, s)) m kk q)) (fun f => rfl) ?_
  refine me_mp (tcL_start_1 he ke ki fi fa or mi a g l w s im le ln ys vt nu nn rf yc yh yg kk q hA 25 0 (none, none) m none (by omega) kle_n (by assumption) (Or.inl ⟨rfl, rfl⟩)) ?_
  rintro r M1 ⟨hr, v1, v2, m2, hm2, rfl⟩
  exact ⟨hr, v1, v2, _, _, _, m2, rfl, hm2, j1, by assumption, by assumption, by assumption⟩
set_option maxRecDepth 100000 in
theorem tmL_start_1 (he ke ki fi fa or : List Nat) (mi a g l w s : Nat) (xi : List Int32) (im : Nat) (le nu rf : List Nat) (ln nn : Nat) (c : cC) (n m kk : kG) (hA : iA (he, ke, ki, fi, fa, or, mi, a, g, l, w, s)) (hC : iC nu nn) (k : Nat) : ∀ (j : Nat) (p : Option Nat × Option Nat) (lo5 : Option Value) (xm xw : List Int32) (vp : Int32) (xn xc : List Int32) (vs : Int32), j + k = 25 → iR xm xw xn xc → kle p.2 → kpi p → mm_E 187 25 [some (.ref 138), some (.int 1), some (.int (kI p.1)), some (.int (nI (k61 p.2))), some (.int (nI j)), lo5] [] (mk_M c n m kk (rT (he, ke, ki, fi, fa, or, mi, a, g, l, w, s) xm xi xw im le nu rf ln nn vp xn xc vs)) (pM (fun r => r = some (.int (kI (ksoon (fun j => if j = g then none else kwa 60 0 (he, ke, ki, fi, fa, or, mi, j, g, l, w, s) g) k j p).2))) (he, ke, ki, fi, fa, or, mi, a, g, l, w, s) xi im le nu rf ln nn c n m kk) := by
  obtain ⟨hV, hst⟩ := id hA
  have hst2 : s ≤ 999 := hst
  obtain ⟨v1, v2, v3, v4, v5, v6, v7, v8, v9, v10, v11, v12, v13, v14, v15, v16⟩ := id hV
  have v6l := kO_len mi v7 or v6
  obtain ⟨c1, c2, c3⟩ := id hC
  induction k with
  | zero =>
    intro j p lo5 xm xw vp xn xc vs hj hR hp hpi
    obtain ⟨r1, r2, r3, r4⟩ := id hR
    have hb1 := k61_le hp
    rcases hq1 : p.1 with _ | cq
    · have hq2 : p.2 = none := by rcases hpi with ⟨_, h⟩ | ⟨c_, v_, h, _⟩; exact h; rw [hq1] at h; cases h
      refine me_l (fun q_ => [some (.ref 138), some (.int 1), some (.int q_), some (.int (nI (k61 p.2))), some (.int (nI j)), lo5]) (show kI none = (-9) from rfl) ?_
      refine me_seg 2 (pc1 := 29) (ls1 := [some (.ref 138), some (.int 1), some (.int (-9)), some (.int (nI (k61 p.2))), some (.int (nI j)), lo5]) (st1 := [.int 25, .int (nI j)]) (M1 := (mk_M c n m kk (rT (he, ke, ki, fi, fa, or, mi, a, g, l, w, s) xm xi xw im le nu rf ln nn vp xn xc vs))) (fun f => rfl) ?_
      refine me_t (C := 25 ≤ (nI j)) (nI_let (a := 25) (b := j) (by omega)) (fun f => rfl) ?_
      refine me_ret 5 (r := some (.int (-9))) (M1 := (mk_M c n m kk (rT (he, ke, ki, fi, fa, or, mi, a, g, l, w, s) xm xi xw im le nu rf ln nn vp xn xc vs))) (fun f => rfl) ?_
      exact ⟨(show some (.int (-9)) = some (Value.int (kI (ksoon (fun j => if j = g then none else kwa 60 0 (he, ke, ki, fi, fa, or, mi, j, g, l, w, s) g) 0 j p).2)) by show _ = some (Value.int (kI p.2)); rw [hq2]; rfl), _, _, _, _, _, _, rfl, ⟨(by assumption), (by assumption), (by assumption), (by assumption)⟩⟩
    · obtain ⟨vq2, hq2⟩ : ∃ v, p.2 = some v := by rcases hpi with ⟨h, _⟩ | ⟨c_, v_, _, h, _⟩; rw [hq1] at h; cases h; exact ⟨v_, h⟩
      have hcq : cq < 1000 := by rcases hpi with ⟨h, _⟩ | ⟨c_, v_, h, _, h2⟩; rw [hq1] at h; cases h; rw [hq1] at h; cases h; exact h2
      refine me_l (fun q_ => [some (.ref 138), some (.int 1), some (.int q_), some (.int (nI (k61 p.2))), some (.int (nI j)), lo5]) (show kI (some cq) = (nI cq) from rfl) ?_
      refine me_seg 2 (pc1 := 29) (ls1 := [some (.ref 138), some (.int 1), some (.int (nI cq)), some (.int (nI (k61 p.2))), some (.int (nI j)), lo5]) (st1 := [.int 25, .int (nI j)]) (M1 := (mk_M c n m kk (rT (he, ke, ki, fi, fa, or, mi, a, g, l, w, s) xm xi xw im le nu rf ln nn vp xn xc vs))) (fun f => rfl) ?_
      refine me_t (C := 25 ≤ (nI j)) (nI_let (a := 25) (b := j) (by omega)) (fun f => rfl) ?_
      refine me_seg 1 (pc1 := 93) (ls1 := [some (.ref 138), some (.int 1), some (.int (nI cq)), some (.int (nI (k61 p.2))), some (.int (nI j)), lo5]) (st1 := [.int (nI cq)]) (M1 := (mk_M c n m kk (rT (he, ke, ki, fi, fa, or, mi, a, g, l, w, s) xm xi xw im le nu rf ln nn vp xn xc vs))) (fun f => rfl) ?_
      refine me_f (C := (nI cq) < 0) (nI_ltf (a := cq) (b := 0) (by omega)) (fun f => rfl) ?_
      refine me_ret 4 (r := some (.int (nI (k61 p.2)))) (M1 := (mk_M c n m kk (rT (he, ke, ki, fi, fa, or, mi, a, g, l, w, s) xm xi xw im le nu rf ln nn vp xn xc vs))) (fun f => rfl) ?_
      exact ⟨(show some (.int (nI (k61 p.2))) = some (Value.int (kI (ksoon (fun j => if j = g then none else kwa 60 0 (he, ke, ki, fi, fa, or, mi, j, g, l, w, s) g) 0 j p).2)) by show _ = some (Value.int (kI p.2)); rw [hq2]; rfl), _, _, _, _, _, _, rfl, ⟨(by assumption), (by assumption), (by assumption), (by assumption)⟩⟩
  | succ k IH =>
    intro j p lo5 xm xw vp xn xc vs hj hR hp hpi
    obtain ⟨r1, r2, r3, r4⟩ := id hR
    have hb1 := k61_le hp
    have hb2 := k61_le (kle_wa (he, ke, ki, fi, fa, or, mi, j, g, l, w, s) g)
    refine me_seg 2 (pc1 := 29) (ls1 := [some (.ref 138), some (.int 1), some (.int (kI p.1)), some (.int (nI (k61 p.2))), some (.int (nI j)), lo5]) (st1 := [.int 25, .int (nI j)]) (M1 := (mk_M c n m kk (rT (he, ke, ki, fi, fa, or, mi, a, g, l, w, s) xm xi xw im le nu rf ln nn vp xn xc vs))) (fun f => rfl) ?_
    refine me_f (C := 25 ≤ (nI j)) (nI_lef (a := 25) (b := j) (by omega)) (fun f => rfl) ?_
    refine me_seg 4 (pc1 := 39) (ls1 := [some (.ref 138), some (.int 1), some (.int (kI p.1)), some (.int (nI (k61 p.2))), some (.int (nI j)), lo5]) (st1 := [.int 3, .ref 139, .int (nI j)]) (M1 := (mk_M c n m kk (rT (he, ke, ki, fi, fa, or, mi, a, g, l, w, s) xm xi xw im le nu rf ln nn vp xn xc vs))) (fun f => rfl) ?_
    refine me_ldn (xs := (er (he, ke, ki, fi, fa, or, mi, a, g, l, w, s))) rfl rfl (k := 3) (by decide) rfl ?_
    refine me_ifN (C := (nI j) = (nI g)) (nI_eqi (a := j) (b := g) (by omega)) (fun f => rfl) (fun h1 => ?_) (fun h1 => ?_)
    · refine me_seg 2 (pc1 := 89) (ls1 := [some (.ref 138), some (.int 1), some (.int (kI p.1)), some (.int (nI (k61 p.2))), some (.int ((nI j) + 1)), lo5]) (st1 := []) (M1 := (mk_M c n m kk (rT (he, ke, ki, fi, fa, or, mi, a, g, l, w, s) xm xi xw im le nu rf ln nn vp xn xc vs))) (fun f => rfl) ?_
      refine me_l (fun q_ => [some (.ref 138), some (.int 1), some (.int (kI p.1)), some (.int (nI (k61 p.2))), some (.int q_), lo5]) (nI_add j 1) ?_
      refine me_seg 1 (pc1 := 25) (ls1 := [some (.ref 138), some (.int 1), some (.int (kI p.1)), some (.int (nI (k61 p.2))), some (.int (nI (j + 1))), lo5]) (st1 := []) (M1 := (mk_M c n m kk (rT (he, ke, ki, fi, fa, or, mi, a, g, l, w, s) xm xi xw im le nu rf ln nn vp xn xc vs))) (fun f => rfl) ?_
      have e : (fun j => if j = g then none else kwa 60 0 (he, ke, ki, fi, fa, or, mi, j, g, l, w, s) g) j = none := if_pos (show j = g by omega)
      have e2 : ksoon (fun j => if j = g then none else kwa 60 0 (he, ke, ki, fi, fa, or, mi, j, g, l, w, s) g) (k + 1) j p = ksoon (fun j => if j = g then none else kwa 60 0 (he, ke, ki, fi, fa, or, mi, j, g, l, w, s) g) k (j + 1) p := by
        show ksoon (fun j => if j = g then none else kwa 60 0 (he, ke, ki, fi, fa, or, mi, j, g, l, w, s) g) k (j + 1) (kup j ((fun j => if j = g then none else kwa 60 0 (he, ke, ki, fi, fa, or, mi, j, g, l, w, s) g) j) p) = _
        rw [e, show kup j none p = p from rfl]
      rw [e2]
      exact IH (j + 1) p (lo5) xm xw vp xn xc vs (by omega) ⟨(by assumption), (by assumption), (by assumption), (by assumption)⟩ hp hpi
    · refine me_seg 4 (pc1 := 54) (ls1 := [some (.ref 138), some (.int 1), some (.int (kI p.1)), some (.int (nI (k61 p.2))), some (.int (nI j)), lo5]) (st1 := [.ref 140, .ref 139]) (M1 := (mk_M c n m kk (rT (he, ke, ki, fi, fa, or, mi, a, g, l, w, s) xm xi xw im le nu rf ln nn vp xn xc vs))) (fun f => rfl) ?_
      refine me_call (y := 138) (y0 := 57) (L := [some (.ref 139), some (.ref 140), none]) (rest := []) (rr := none) (M1 := (mk_M c n m kk (rT (he, ke, ki, fi, fa, or, mi, a, g, l, w, s) (er (he, ke, ki, fi, fa, or, mi, a, g, l, w, s)) xi xw im le nu rf ln nn vp xn xc vs))) (fun f => rfl) (rc_copies (a := 140) (b := 139) (by decide) rfl rfl (er_len hV) (by assumption)) ?_
      refine me_seg 4 (pc1 := 64) (ls1 := [some (.ref 138), some (.int 1), some (.int (kI p.1)), some (.int (nI (k61 p.2))), some (.int (nI j)), lo5]) (st1 := [.int (nI j), .int 2, .ref 140]) (M1 := (mk_M c n m kk (rT (he, ke, ki, fi, fa, or, mi, a, g, l, w, s) (er (he, ke, ki, fi, fa, or, mi, a, g, l, w, s)) xi xw im le nu rf ln nn vp xn xc vs))) (fun f => rfl) ?_
      refine me_stn (xs := (er (he, ke, ki, fi, fa, or, mi, a, g, l, w, s))) (ys := (er (he, ke, ki, fi, fa, or, mi, j, g, l, w, s))) (M2 := (mk_MR c n m kk (er (he, ke, ki, fi, fa, or, mi, a, g, l, w, s)) (er (he, ke, ki, fi, fa, or, mi, j, g, l, w, s)) xi xw (nI im) (le.map nI) (nu.map nI) (rf.map nI) (nI ln) (nI nn) vp xn xc vs)) rfl rfl (k := 2) (by decide) (by rw [er_leq (K := (he, ke, ki, fi, fa, or, mi, a, g, l, w, s)) v1 v6l]; decide) (er_s2 (v := j)) rfl ?_
      refine me_M (mk_MRk c n m kk (he, ke, ki, fi, fa, or, mi, a, g, l, w, s) (er (he, ke, ki, fi, fa, or, mi, j, g, l, w, s)) xi xw im le nu rf ln nn vp xn xc vs) ?_
      refine me_seg 1 (pc1 := 66) (ls1 := [some (.ref 138), some (.int 1), some (.int (kI p.1)), some (.int (nI (k61 p.2))), some (.int (nI j)), lo5]) (st1 := [.ref 138]) (M1 := (mk_M c n m kk (rT (he, ke, ki, fi, fa, or, mi, a, g, l, w, s) (er (he, ke, ki, fi, fa, or, mi, j, g, l, w, s)) xi xw im le nu rf ln nn vp xn xc vs))) (fun f => rfl) ?_
      refine me_call (y := 181) (y0 := 69) (L := [some (.ref 138)]) (rest := []) (rr := some (.int (nI (k61 (kwa 60 0 (he, ke, ki, fi, fa, or, mi, j, g, l, w, s) g))))) (M1 := (mk_M c n m kk (rT (he, ke, ki, fi, fa, or, mi, a, g, l, w, s) (er (kwaR 60 (he, ke, ki, fi, fa, or, mi, j, g, l, w, s) g)) xi xw im le nu rf ln nn vp xn xc vs))) (fun f => rfl) (tm_there he ke ki fi fa or mi a g l w s xi im le nu rf ln nn c n m kk (he, ke, ki, fi, fa, or, mi, j, g, l, w, s) xw vp xn xc vs ⟨v1, v2, v3, v4, v5, v6, v7, by omega, v9, v10, v11, v12, v13, v14, v15, v16⟩ (show s < 2 ^ 20 by omega)) ?_
      refine me_seg 3 (pc1 := 74) (ls1 := [some (.ref 138), some (.int 1), some (.int (kI p.1)), some (.int (nI (k61 p.2))), some (.int (nI j)), some (.int (nI (k61 (kwa 60 0 (he, ke, ki, fi, fa, or, mi, j, g, l, w, s) g))))]) (st1 := [.int (nI (k61 p.2)), .int (nI (k61 (kwa 60 0 (he, ke, ki, fi, fa, or, mi, j, g, l, w, s) g)))]) (M1 := (mk_M c n m kk (rT (he, ke, ki, fi, fa, or, mi, a, g, l, w, s) (er (kwaR 60 (he, ke, ki, fi, fa, or, mi, j, g, l, w, s) g)) xi xw im le nu rf ln nn vp xn xc vs))) (fun f => rfl) ?_
      refine me_ifN (C := (nI (k61 (kwa 60 0 (he, ke, ki, fi, fa, or, mi, j, g, l, w, s) g))) < (nI (k61 p.2))) ((nI_lti (a := k61 (kwa 60 0 (he, ke, ki, fi, fa, or, mi, j, g, l, w, s) g)) (b := k61 p.2) (by omega)).trans (k61_lt (kle_wa _ _) hp)) (fun f => rfl) (fun h2 => ?_) (fun h2 => ?_)
      · refine me_seg 5 (pc1 := 89) (ls1 := [some (.ref 138), some (.int 1), some (.int (nI j)), some (.int (nI (k61 (kwa 60 0 (he, ke, ki, fi, fa, or, mi, j, g, l, w, s) g)))), some (.int ((nI j) + 1)), some (.int (nI (k61 (kwa 60 0 (he, ke, ki, fi, fa, or, mi, j, g, l, w, s) g))))]) (st1 := []) (M1 := (mk_M c n m kk (rT (he, ke, ki, fi, fa, or, mi, a, g, l, w, s) (er (kwaR 60 (he, ke, ki, fi, fa, or, mi, j, g, l, w, s) g)) xi xw im le nu rf ln nn vp xn xc vs))) (fun f => rfl) ?_
        refine me_l (fun q_ => [some (.ref 138), some (.int 1), some (.int (nI j)), some (.int (nI (k61 (kwa 60 0 (he, ke, ki, fi, fa, or, mi, j, g, l, w, s) g)))), some (.int q_), some (.int (nI (k61 (kwa 60 0 (he, ke, ki, fi, fa, or, mi, j, g, l, w, s) g))))]) (nI_add j 1) ?_
        refine me_seg 1 (pc1 := 25) (ls1 := [some (.ref 138), some (.int 1), some (.int (nI j)), some (.int (nI (k61 (kwa 60 0 (he, ke, ki, fi, fa, or, mi, j, g, l, w, s) g)))), some (.int (nI (j + 1))), some (.int (nI (k61 (kwa 60 0 (he, ke, ki, fi, fa, or, mi, j, g, l, w, s) g))))]) (st1 := []) (M1 := (mk_M c n m kk (rT (he, ke, ki, fi, fa, or, mi, a, g, l, w, s) (er (kwaR 60 (he, ke, ki, fi, fa, or, mi, j, g, l, w, s) g)) xi xw im le nu rf ln nn vp xn xc vs))) (fun f => rfl) ?_
        have e : (fun j => if j = g then none else kwa 60 0 (he, ke, ki, fi, fa, or, mi, j, g, l, w, s) g) j = kwa 60 0 (he, ke, ki, fi, fa, or, mi, j, g, l, w, s) g := if_neg (show ¬ j = g by omega)
        have e2 : ksoon (fun j => if j = g then none else kwa 60 0 (he, ke, ki, fi, fa, or, mi, j, g, l, w, s) g) (k + 1) j p = ksoon (fun j => if j = g then none else kwa 60 0 (he, ke, ki, fi, fa, or, mi, j, g, l, w, s) g) k (j + 1) (some j, kwa 60 0 (he, ke, ki, fi, fa, or, mi, j, g, l, w, s) g) := by
          show ksoon (fun j => if j = g then none else kwa 60 0 (he, ke, ki, fi, fa, or, mi, j, g, l, w, s) g) k (j + 1) (kup j ((fun j => if j = g then none else kwa 60 0 (he, ke, ki, fi, fa, or, mi, j, g, l, w, s) g) j) p) = _
          rw [e, show kup j (kwa 60 0 (he, ke, ki, fi, fa, or, mi, j, g, l, w, s) g) p = (some j, kwa 60 0 (he, ke, ki, fi, fa, or, mi, j, g, l, w, s) g) from if_pos h2]
        rw [e2]
        exact IH (j + 1) (some j, kwa 60 0 (he, ke, ki, fi, fa, or, mi, j, g, l, w, s) g) (some (.int (nI (k61 (kwa 60 0 (he, ke, ki, fi, fa, or, mi, j, g, l, w, s) g))))) (er (kwaR 60 (he, ke, ki, fi, fa, or, mi, j, g, l, w, s) g)) xw vp xn xc vs (by omega) ⟨(er_len (kV_waR 60 g ⟨v1, v2, v3, v4, v5, v6, v7, by omega, v9, v10, v11, v12, v13, v14, v15, v16⟩)), (by assumption), (by assumption), (by assumption)⟩ (kle_wa _ _) (by have q_ := kpi_up (j := j) (f := kwa 60 0 (he, ke, ki, fi, fa, or, mi, j, g, l, w, s) g) (by omega) hpi; rw [show kup j (kwa 60 0 (he, ke, ki, fi, fa, or, mi, j, g, l, w, s) g) p = (some j, kwa 60 0 (he, ke, ki, fi, fa, or, mi, j, g, l, w, s) g) from if_pos h2] at q_; exact q_)
      · refine me_seg 2 (pc1 := 89) (ls1 := [some (.ref 138), some (.int 1), some (.int (kI p.1)), some (.int (nI (k61 p.2))), some (.int ((nI j) + 1)), some (.int (nI (k61 (kwa 60 0 (he, ke, ki, fi, fa, or, mi, j, g, l, w, s) g))))]) (st1 := []) (M1 := (mk_M c n m kk (rT (he, ke, ki, fi, fa, or, mi, a, g, l, w, s) (er (kwaR 60 (he, ke, ki, fi, fa, or, mi, j, g, l, w, s) g)) xi xw im le nu rf ln nn vp xn xc vs))) (fun f => rfl) ?_
        refine me_l (fun q_ => [some (.ref 138), some (.int 1), some (.int (kI p.1)), some (.int (nI (k61 p.2))), some (.int q_), some (.int (nI (k61 (kwa 60 0 (he, ke, ki, fi, fa, or, mi, j, g, l, w, s) g))))]) (nI_add j 1) ?_
        refine me_seg 1 (pc1 := 25) (ls1 := [some (.ref 138), some (.int 1), some (.int (kI p.1)), some (.int (nI (k61 p.2))), some (.int (nI (j + 1))), some (.int (nI (k61 (kwa 60 0 (he, ke, ki, fi, fa, or, mi, j, g, l, w, s) g))))]) (st1 := []) (M1 := (mk_M c n m kk (rT (he, ke, ki, fi, fa, or, mi, a, g, l, w, s) (er (kwaR 60 (he, ke, ki, fi, fa, or, mi, j, g, l, w, s) g)) xi xw im le nu rf ln nn vp xn xc vs))) (fun f => rfl) ?_
        have e : (fun j => if j = g then none else kwa 60 0 (he, ke, ki, fi, fa, or, mi, j, g, l, w, s) g) j = kwa 60 0 (he, ke, ki, fi, fa, or, mi, j, g, l, w, s) g := if_neg (show ¬ j = g by omega)
        have e2 : ksoon (fun j => if j = g then none else kwa 60 0 (he, ke, ki, fi, fa, or, mi, j, g, l, w, s) g) (k + 1) j p = ksoon (fun j => if j = g then none else kwa 60 0 (he, ke, ki, fi, fa, or, mi, j, g, l, w, s) g) k (j + 1) p := by
          show ksoon (fun j => if j = g then none else kwa 60 0 (he, ke, ki, fi, fa, or, mi, j, g, l, w, s) g) k (j + 1) (kup j ((fun j => if j = g then none else kwa 60 0 (he, ke, ki, fi, fa, or, mi, j, g, l, w, s) g) j) p) = _
          rw [e, show kup j (kwa 60 0 (he, ke, ki, fi, fa, or, mi, j, g, l, w, s) g) p = p from if_neg h2]
        rw [e2]
        exact IH (j + 1) p (some (.int (nI (k61 (kwa 60 0 (he, ke, ki, fi, fa, or, mi, j, g, l, w, s) g))))) (er (kwaR 60 (he, ke, ki, fi, fa, or, mi, j, g, l, w, s) g)) xw vp xn xc vs (by omega) ⟨(er_len (kV_waR 60 g ⟨v1, v2, v3, v4, v5, v6, v7, by omega, v9, v10, v11, v12, v13, v14, v15, v16⟩)), (by assumption), (by assumption), (by assumption)⟩ hp hpi
set_option maxRecDepth 100000 in
theorem tm_start_1 (he ke ki fi fa or : List Nat) (mi a g l w s : Nat) (xi : List Int32) (im : Nat) (le nu rf : List Nat) (ln nn : Nat) (c : cC) (n m kk : kG) (hA : iA (he, ke, ki, fi, fa, or, mi, a, g, l, w, s)) (hC : iC nu nn) (xm xw : List Int32) (vp : Int32) (xn xc : List Int32) (vs : Int32) (hR : iR xm xw xn xc) : mm_E 187 0 [some (.ref 138), some (.int 1), none, none, none, none] [] (mk_M c n m kk (rT (he, ke, ki, fi, fa, or, mi, a, g, l, w, s) xm xi xw im le nu rf ln nn vp xn xc vs)) (pM (fun r => r = some (.int (kI (ksoon (fun j => if j = g then none else kwa 60 0 (he, ke, ki, fi, fa, or, mi, j, g, l, w, s) g) 25 0 (none, none)).2))) (he, ke, ki, fi, fa, or, mi, a, g, l, w, s) xi im le nu rf ln nn c n m kk) := by
  obtain ⟨hV, hst⟩ := id hA
  have hst2 : s ≤ 999 := hst
  obtain ⟨v1, v2, v3, v4, v5, v6, v7, v8, v9, v10, v11, v12, v13, v14, v15, v16⟩ := id hV
  have v6l := kO_len mi v7 or v6
  obtain ⟨c1, c2, c3⟩ := id hC
  obtain ⟨r1, r2, r3, r4⟩ := id hR
  refine me_seg 3 (pc1 := 3) (ls1 := [some (.ref 138), some (.int 1), none, none, none, none]) (st1 := [.int 1, .int 0, .int 1]) (M1 := (mk_M c n m kk (rT (he, ke, ki, fi, fa, or, mi, a, g, l, w, s) xm xi xw im le nu rf ln nn vp xn xc vs))) (fun f => rfl) ?_
  refine me_call (y := 135) (y0 := 6) (L := [some (.int 1), some (.int 0), some (.int 1)]) (rest := []) (rr := some (.int 1)) (M1 := (mk_M c n m kk (rT (he, ke, ki, fi, fa, or, mi, a, g, l, w, s) xm xi xw im le nu rf ln nn vp xn xc vs))) (fun f => rfl) (by
      exact mr_ret 9 (fun f => rfl)) ?_
  refine me_seg 7 (pc1 := 25) (ls1 := [some (.ref 138), some (.int 1), some (.int (-9)), some (.int 61), some (.int 0), none]) (st1 := []) (M1 := (mk_M c n m kk (rT (he, ke, ki, fi, fa, or, mi, a, g, l, w, s) xm xi xw im le nu rf ln nn vp xn xc vs))) (fun f => rfl) ?_
  exact tmL_start_1 he ke ki fi fa or mi a g l w s xi im le nu rf ln nn c n m kk hA hC 25 0 (none, none) none xm xw vp xn xc vs (by omega) ⟨(by assumption), (by assumption), (by assumption), (by assumption)⟩ kle_n (Or.inl ⟨rfl, rfl⟩)
theorem ot_start {M : mm_H} (hM : kInv M) (x : Int32) : oI 94 187 [some (.ref 100), some (.int x), none, none] [some (.ref 138), some (.int x), none, none, none, none] M := by
  obtain ⟨K, m, kk, im, le, ln, ys, vt, nu, nn, rf, vw, vq, yc, yh, yg, xm, xi, xw, vp, xn, xc, vs, rfl, hA, hB, hC, hD, hJ, hR, hK⟩ := hM
  obtain ⟨he, ke, ki, fi, fa, or, mi, a, g, l, w, s⟩ := K
  have v7 : mi ≤ 5 := hA.1.2.2.2.2.2.2.1
  rcases k_cs x 2 0 1 rfl rfl with hx | hx | ⟨x_, hx_, rfl⟩
  · exact oe_start_0 he ke ki fi fa or mi a g l w s m kk im le ln ys vt nu nn rf vw vq yc yh yg xm xi xw vp xn xc vs hA hB hC hD hJ hR hK x hx
  · exact oe_start_1 he ke ki fi fa or mi a g l w s m kk im le ln ys vt nu nn rf vw vq yc yh yg xm xi xw vp xn xc vs hA hB hC hD hJ hR hK x hx
  · rcases (show x_ = 0 ∨ x_ = 1 by omega) with rfl | rfl
    · exact oI_of (kI (ksoon (fun j => if j = g then none else kwa 60 0 (he, ke, ki, fi, fa, or, mi, j, g, l, w, s) g) 25 0 (none, none)).1) hA hB hC hD hK (tc_start_0 he ke ki fi fa or mi a g l w s im le ln ys vt nu nn rf kk _ hA hC vw vq yc yh yg m hJ) (fun c n m kk => tm_start_0 he ke ki fi fa or mi a g l w s xi im le nu rf ln nn c n m kk hA hC xm xw vp xn xc vs hR)
    · exact oI_of (kI (ksoon (fun j => if j = g then none else kwa 60 0 (he, ke, ki, fi, fa, or, mi, j, g, l, w, s) g) 25 0 (none, none)).2) hA hB hC hD hK (tc_start_1 he ke ki fi fa or mi a g l w s im le ln ys vt nu nn rf kk _ hA hC vw vq yc yh yg m hJ) (fun c n m kk => tm_start_1 he ke ki fi fa or mi a g l w s xi im le nu rf ln nn c n m kk hA hC xm xw vp xn xc vs hR)
