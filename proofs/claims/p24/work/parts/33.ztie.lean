/-! ===== a call, tied ===== -/
theorem oI_of {K : kK} {m kk : kG} {im : Nat} {le : List Nat} {ln : Nat} {ys : List Int32} {vt : Int32} {nu : List Nat} {nn : Nat} {rf : List Nat} {vw vq : Int32} {yc yh yg xm xi xw : List Int32} {vp : Int32} {xn xc : List Int32} {vs : Int32} {nn2 : Nat} (V : Int32) (hA : iA K) (hB : iB le ln) (hC2 : iC nu nn2) (hD : iD rf) (hK : iK im kk xi) {zc zm : Nat} {lc lm : mm_L}
    (h1 : mm_E zc 0 lc [] (mk_M (cT im le ln ys vt nu nn rf vw vq yc yh yg) (kr K) m kk (rT K xm xi xw im le nu rf ln nn vp xn xc vs)) (pC (fun r => r = some (.int V)) K im le ln ys vt nu nn2 rf kk (rT K xm xi xw im le nu rf ln nn vp xn xc vs)))
    (h2 : ∀ (c : cC) (n m kk : kG), mm_E zm 0 lm [] (mk_M c n m kk (rT K xm xi xw im le nu rf ln nn vp xn xc vs)) (pM (fun r => r = some (.int V)) K xi im le nu rf ln nn2 c n m kk)) : oI zc zm lc lm (mk_M (cT im le ln ys vt nu nn rf vw vq yc yh yg) (kr K) m kk (rT K xm xi xw im le nu rf ln nn vp xn xc vs)) := by
  obtain ⟨_, _, r1, rfl, vw2, vq2, yc2, yh2, yg2, m2, rfl, hJ2⟩ := h1
  obtain ⟨_, _, r2, rfl, xm2, xw2, vp2, xn2, xc2, vs2, rfl, hR2⟩ := h2 (cT im le ln ys vt nu nn2 rf vw2 vq2 yc2 yh2 yg2) (kr K) m2 kk
  exact ⟨V, _, _, r1, r2, K, m2, kk, im, le, ln, ys, vt, nu, nn2, rf, vw2, vq2, yc2, yh2, yg2, xm2, xi, xw2, vp2, xn2, xc2, vs2, rfl, hA, hB, hC2, hD, hJ2, hR2, hK⟩
theorem oL_of {K : kK} {m kk : kG} {im : Nat} {le : List Nat} {ln : Nat} {ys : List Int32} {vt : Int32} {nu : List Nat} {nn : Nat} {rf : List Nat} {vw vq : Int32} {yc yh yg xm xi xw : List Int32} {vp : Int32} {xn xc : List Int32} {vs : Int32} (V : Int64) (hA : iA K) (hB : iB le ln) (hC2 : iC nu nn) (hD : iD rf) (hK : iK im kk xi) {zc zm : Nat} {lc lm : mm_L}
    (h1 : mm_E zc 0 lc [] (mk_M (cT im le ln ys vt nu nn rf vw vq yc yh yg) (kr K) m kk (rT K xm xi xw im le nu rf ln nn vp xn xc vs)) (pC (fun r => r = some (.long V)) K im le ln ys vt nu nn rf kk (rT K xm xi xw im le nu rf ln nn vp xn xc vs)))
    (h2 : ∀ (c : cC) (n m kk : kG), mm_E zm 0 lm [] (mk_M c n m kk (rT K xm xi xw im le nu rf ln nn vp xn xc vs)) (pM (fun r => r = some (.long V)) K xi im le nu rf ln nn c n m kk)) : oL zc zm lc lm (mk_M (cT im le ln ys vt nu nn rf vw vq yc yh yg) (kr K) m kk (rT K xm xi xw im le nu rf ln nn vp xn xc vs)) := by
  obtain ⟨_, _, r1, rfl, vw2, vq2, yc2, yh2, yg2, m2, rfl, hJ2⟩ := h1
  obtain ⟨_, _, r2, rfl, xm2, xw2, vp2, xn2, xc2, vs2, rfl, hR2⟩ := h2 (cT im le ln ys vt nu nn rf vw2 vq2 yc2 yh2 yg2) (kr K) m2 kk
  exact ⟨V, _, _, r1, r2, K, m2, kk, im, le, ln, ys, vt, nu, nn, rf, vw2, vq2, yc2, yh2, yg2, xm2, xi, xw2, vp2, xn2, xc2, vs2, rfl, hA, hB, hC2, hD, hJ2, hR2, hK⟩
theorem k61_ge {a b : Option Nat} (ha : kle a) (hb : kle b) : k61 b ≤ k61 a ↔ ¬ klt a b = true := by
  rw [← k61_lt ha hb, Nat.not_lt]
def kpi (p : Option Nat × Option Nat) : Prop := (p.1 = none ∧ p.2 = none) ∨ ∃ c v, p.1 = some c ∧ p.2 = some v ∧ c < 1000
theorem kpi_up {j : Nat} {f : Option Nat} {p : Option Nat × Option Nat} (hj : j < 1000) (hp : kpi p) : kpi (kup j f p) := by
  unfold kup
  split
  · rename_i h
    cases f with
    | none => cases h
    | some v => exact Or.inr ⟨j, v, rfl, rfl, hj⟩
  · exact hp
theorem kpi_w {p : Option Nat × Option Nat} (hp : kpi p) : (if kI p.1 = -9 then (-9 : Int32) else kN p.2) = kI p.2 := by
  rcases hp with ⟨h1, h2⟩ | ⟨c, v, h1, h2, hc⟩
  · rw [h1, h2]
    rfl
  · rw [h1, h2]
    exact if_neg (k_n9 (by omega))
theorem tm_orN (f : Option Nat) (hf : kle f) (M : mm_H) : mm_R 182 0 [some (.int (kI f))] [] M (some (.int (nI (k61 f))), M) := by
  cases f with
  | none =>
    refine mr_l (fun q_ => [some (.int q_)]) (show kI none = (-9 : Int32) from rfl) ?_
    show mm_R 182 0 [some (.int (-9))] [] M (some (.int 61), M)
    exact mr_ret 5 (fun f => rfl)
  | some v =>
    have hv := hf v rfl
    show mm_R 182 0 [some (.int (nI v))] [] M (some (.int (nI v)), M)
    refine mr_seg 1 (pc1 := 1) (ls1 := [some (.int (nI v))]) (st1 := [.int (nI v)]) (M1 := M) (fun f => rfl) ?_
    refine mr_t (C := 0 ≤ (nI v)) (nI_let (a := 0) (b := v) (by omega)) (fun f => rfl) ?_
    exact mr_ret 2 (fun f => rfl)
set_option maxRecDepth 100000 in
theorem tm_there (he ke ki fi fa or : List Nat) (mi a g l w s : Nat) (xi : List Int32) (im : Nat) (le nu rf : List Nat) (ln nn : Nat) (c : cC) (n m kk : kG) (Q : kK) (xw : List Int32) (vp : Int32) (xn xc : List Int32) (vs : Int32) (hQ : kV Q) (hs : k_st Q < 2 ^ 20) : mm_R 181 0 [some (.ref 138)] [] (mk_M c n m kk (rT (he, ke, ki, fi, fa, or, mi, a, g, l, w, s) (er Q) xi xw im le nu rf ln nn vp xn xc vs)) (some (.int (nI (k61 (kwa 60 0 Q (k_go Q))))), (mk_M c n m kk (rT (he, ke, ki, fi, fa, or, mi, a, g, l, w, s) (er (kwaR 60 Q (k_go Q))) xi xw im le nu rf ln nn vp xn xc vs))) := by
  refine mr_seg 4 (pc1 := 6) (ls1 := [some (.ref 138)]) (st1 := [.int 3, .ref 140, .ref 138]) (M1 := (mk_M c n m kk (rT (he, ke, ki, fi, fa, or, mi, a, g, l, w, s) (er Q) xi xw im le nu rf ln nn vp xn xc vs))) (fun f => rfl) ?_
  refine mr_ldn (xs := (er Q)) rfl rfl (k := 3) (by decide) rfl ?_
  refine mr_call (y := 173) (y0 := 10) (L := [some (.ref 138), some (.int (nI (k_go Q))), none]) (rest := []) (rr := some (.int (kI (kwa 60 0 Q (k_go Q))))) (M1 := (mk_M c n m kk (rT (he, ke, ki, fi, fa, or, mi, a, g, l, w, s) (er (kwaR 60 Q (k_go Q))) xi xw im le nu rf ln nn vp xn xc vs))) (fun f => rfl) (rc_wa c n m kk (rT (he, ke, ki, fi, fa, or, mi, a, g, l, w, s) (er Q) xi xw im le nu rf ln nn vp xn xc vs) (k_go Q) (kV_go hQ) Q hQ hs) ?_
  refine mr_call (y := 182) (y0 := 13) (L := [some (.int (kI (kwa 60 0 Q (k_go Q))))]) (rest := []) (rr := some (.int (nI (k61 (kwa 60 0 Q (k_go Q)))))) (M1 := (mk_M c n m kk (rT (he, ke, ki, fi, fa, or, mi, a, g, l, w, s) (er (kwaR 60 Q (k_go Q))) xi xw im le nu rf ln nn vp xn xc vs))) (fun f => rfl) (tm_orN _ (kle_wa Q (k_go Q)) _) ?_
  exact mr_ret 1 (fun f => rfl)
def kmw (f : Nat → Option Nat) : Nat → Option Nat
  | 0 => none
  | k + 1 => match f k with
    | some _ => some k
    | none => kmw f k
theorem kmw_s {f : Nat → Option Nat} {k v : Nat} (h : f k = some v) : kmw f (k + 1) = some k := by
  unfold kmw
  rw [h]
theorem kmw_n {f : Nat → Option Nat} {k : Nat} (h : f k = none) : kmw f (k + 1) = kmw f k := by
  show (match f k with
    | some _ => some k
    | none => kmw f k) = kmw f k
  rw [h]
set_option maxRecDepth 100000 in
theorem tc_mostWeightL (he ke ki fi fa or : List Nat) (mi a g l w s : Nat) (im : Nat) (le : List Nat) (ln : Nat) (ys : List Int32) (vt : Int32) (nu : List Nat) (nn : Nat) (rf : List Nat) (kk : kG) (q : cR) (hA : iA (he, ke, ki, fi, fa, or, mi, a, g, l, w, s)) (hC : iC nu nn) (k : Nat) : ∀ (lo2 : Option Value) (vw vq : Int32) (yc yh yg : List Int32) (m : kG), iJ m ys yc yh yg → k ≤ 21 → mm_E 93 3 [some (.ref 100), some (.int (nI k - 1)), lo2] [] (mk_M (cT im le ln ys vt nu nn rf vw vq yc yh yg) (kr (he, ke, ki, fi, fa, or, mi, a, g, l, w, s)) m kk q) (pC (fun r => r = some (.int (kI (kmw (fun k => kwa 60 0 (he, ke, ki, fi, fa, or, mi, a, g, l, k, s) g) k)))) (he, ke, ki, fi, fa, or, mi, a, g, l, w, s) im le ln ys vt nu nn rf kk q) := by
  obtain ⟨hV, hst⟩ := id hA
  have hst2 : s ≤ 999 := hst
  obtain ⟨v1, v2, v3, v4, v5, v6, v7, v8, v9, v10, v11, v12, v13, v14, v15, v16⟩ := id hV
  have v6l := kO_len mi v7 or v6
  obtain ⟨c1, c2, c3⟩ := id hC
  induction k with
  | zero =>
    intro lo2 vw vq yc yh yg m hJ hk
    obtain ⟨j0, j1, j2, j3, j4⟩ := id hJ
    refine me_l (fun q_ => [some (.ref 100), some (.int q_), lo2]) (show nI 0 - 1 = (-1 : Int32) by decide) ?_
    refine me_ret 4 (r := some (.int (-9))) (M1 := (mk_M (cT im le ln ys vt nu nn rf vw vq yc yh yg) (kr (he, ke, ki, fi, fa, or, mi, a, g, l, w, s)) m kk q)) (fun f => rfl) ?_
    exact ⟨rfl, _, _, _, _, _, _, rfl, ⟨(by assumption), j1, by assumption, by assumption, by assumption⟩⟩
  | succ k IH =>
    intro lo2 vw vq yc yh yg m hJ hk
    obtain ⟨j0, j1, j2, j3, j4⟩ := id hJ
    refine me_l (fun q_ => [some (.ref 100), some (.int q_), lo2]) (show nI (k + 1) - 1 = nI k from pk_sub (a := k + 1) (b := 1) (by omega)) ?_
    refine me_seg 1 (pc1 := 4) (ls1 := [some (.ref 100), some (.int (nI k)), lo2]) (st1 := [.int (nI k)]) (M1 := (mk_M (cT im le ln ys vt nu nn rf vw vq yc yh yg) (kr (he, ke, ki, fi, fa, or, mi, a, g, l, w, s)) m kk q)) (fun f => rfl) ?_
    refine me_f (C := (nI k) < 0) (nI_pos (by omega)) (fun f => rfl) ?_
    refine me_seg 1 (pc1 := 8) (ls1 := [some (.ref 100), some (.int (nI k)), lo2]) (st1 := [.ref 100]) (M1 := (mk_M (cT im le ln ys vt nu nn rf vw vq yc yh yg) (kr (he, ke, ki, fi, fa, or, mi, a, g, l, w, s)) m kk q)) (fun f => rfl) ?_
    refine me_call (y := 75) (y0 := 11) (L := [some (.ref 100)]) (rest := []) (rr := some (.ref 124)) (M1 := (mk_M (cT im le ln ys vt nu nn rf vw vq yc yh yg) (kr (he, ke, ki, fi, fa, or, mi, a, g, l, w, s)) (kr (he, ke, ki, fi, fa, or, mi, a, g, l, w, s)) kk q)) (fun f => rfl) (cc_now (he, ke, ki, fi, fa, or, mi, a, g, l, w, s) (cT im le ln ys vt nu nn rf vw vq yc yh yg) m kk q hV (by assumption)) ?_
    refine me_seg 4 (pc1 := 17) (ls1 := [some (.ref 100), some (.int (nI k)), some (.ref 124)]) (st1 := []) (M1 := (mk_Mm (cT im le ln ys vt nu nn rf vw vq yc yh yg) (kr (he, ke, ki, fi, fa, or, mi, a, g, l, w, s)) (he.map nI) (ke.map nI) (ki.map nI) (fi.map nI) (fa.map nI) (or.map nI) (nI mi) (nI a) (nI g) (nI l) (nI k) (nI s) kk q)) (fun f => rfl) ?_
    refine me_M (mk_Mk (cT im le ln ys vt nu nn rf vw vq yc yh yg) (kr (he, ke, ki, fi, fa, or, mi, a, g, l, w, s)) he ke ki fi fa or mi a g l k s kk q) ?_
    refine me_seg 1 (pc1 := 18) (ls1 := [some (.ref 100), some (.int (nI k)), some (.ref 124)]) (st1 := [.ref 124]) (M1 := (mk_M (cT im le ln ys vt nu nn rf vw vq yc yh yg) (kr (he, ke, ki, fi, fa, or, mi, a, g, l, w, s)) (kr (he, ke, ki, fi, fa, or, mi, a, g, l, k, s)) kk q)) (fun f => rfl) ?_
    refine me_call (y := 89) (y0 := 21) (L := [some (.ref 124)]) (rest := []) (rr := some (.int (kN (kwa 60 0 (he, ke, ki, fi, fa, or, mi, a, g, l, k, s) g)))) (M1 := (mk_M (cT im le ln ys vt nu nn rf vw vq yc yh yg) (kr (he, ke, ki, fi, fa, or, mi, a, g, l, w, s)) (kr (kwaK 60 (he, ke, ki, fi, fa, or, mi, a, g, l, k, s) g)) kk q)) (fun f => rfl) (kl_m (cT im le ln ys vt nu nn rf vw vq yc yh yg) (kr (he, ke, ki, fi, fa, or, mi, a, g, l, w, s)) kk q (kc_wt (he, ke, ki, fi, fa, or, mi, a, g, l, k, s) ⟨v1, v2, v3, v4, v5, v6, v7, v8, v9, v10, by omega, v12, v13, v14, v15, v16⟩ (show s < 2 ^ 20 by omega))) ?_
    rcases hf : kwa 60 0 (he, ke, ki, fi, fa, or, mi, a, g, l, k, s) g with _ | v
    · refine me_v (show kN none = (1000000 : Int32) from rfl) ?_
      refine me_seg 4 (pc1 := 3) (ls1 := [some (.ref 100), some (.int ((nI k) + Int32.ofInt (-1))), some (.ref 124)]) (st1 := []) (M1 := (mk_M (cT im le ln ys vt nu nn rf vw vq yc yh yg) (kr (he, ke, ki, fi, fa, or, mi, a, g, l, w, s)) (kr (kwaK 60 (he, ke, ki, fi, fa, or, mi, a, g, l, k, s) g)) kk q)) (fun f => rfl) ?_
      refine me_l (fun q_ => [some (.ref 100), some (.int q_), some (.ref 124)]) (show ((nI k) + Int32.ofInt (-1)) = nI k - 1 from k_m1 _) ?_
      rw [kmw_n (f := (fun k => kwa 60 0 (he, ke, ki, fi, fa, or, mi, a, g, l, k, s) g)) hf]
      exact IH (some (.ref 124)) vw vq yc yh yg (kr (kwaK 60 (he, ke, ki, fi, fa, or, mi, a, g, l, k, s) g)) ⟨(kSh_r (kV_waK 60 g ⟨v1, v2, v3, v4, v5, v6, v7, v8, v9, v10, by omega, v12, v13, v14, v15, v16⟩)), j1, by assumption, by assumption, by assumption⟩ (by omega)
    · have hv := kwa_le 60 0 _ _ v hf
      refine me_v (show kN (some v) = nI v from rfl) ?_
      refine me_seg 1 (pc1 := 23) (ls1 := [some (.ref 100), some (.int (nI k)), some (.ref 124)]) (st1 := [.int 1000000, .int (nI v)]) (M1 := (mk_M (cT im le ln ys vt nu nn rf vw vq yc yh yg) (kr (he, ke, ki, fi, fa, or, mi, a, g, l, w, s)) (kr (kwaK 60 (he, ke, ki, fi, fa, or, mi, a, g, l, k, s) g)) kk q)) (fun f => rfl) ?_
      refine me_f (C := (nI v) = 1000000) (nI_eqf (a := v) (b := 1000000) (by omega)) (fun f => rfl) ?_
      refine me_ret 2 (r := some (.int (nI k))) (M1 := (mk_M (cT im le ln ys vt nu nn rf vw vq yc yh yg) (kr (he, ke, ki, fi, fa, or, mi, a, g, l, w, s)) (kr (kwaK 60 (he, ke, ki, fi, fa, or, mi, a, g, l, k, s) g)) kk q)) (fun f => rfl) ?_
      exact ⟨(by rw [kmw_s (f := (fun k => kwa 60 0 (he, ke, ki, fi, fa, or, mi, a, g, l, k, s) g)) hf]; rfl), _, _, _, _, _, _, rfl, ⟨(kSh_r (kV_waK 60 g ⟨v1, v2, v3, v4, v5, v6, v7, v8, v9, v10, by omega, v12, v13, v14, v15, v16⟩)), j1, by assumption, by assumption, by assumption⟩⟩
set_option maxRecDepth 100000 in
theorem tc_mostWeight (he ke ki fi fa or : List Nat) (mi a g l w s : Nat) (im : Nat) (le : List Nat) (ln : Nat) (ys : List Int32) (vt : Int32) (nu : List Nat) (nn : Nat) (rf : List Nat) (kk : kG) (q : cR) (hA : iA (he, ke, ki, fi, fa, or, mi, a, g, l, w, s)) (hC : iC nu nn) (vw vq : Int32) (yc yh yg : List Int32) (m : kG) (hJ : iJ m ys yc yh yg) : mm_E 93 0 [some (.ref 100), none, none] [] (mk_M (cT im le ln ys vt nu nn rf vw vq yc yh yg) (kr (he, ke, ki, fi, fa, or, mi, a, g, l, w, s)) m kk q) (pC (fun r => r = some (.int (kI (kmw (fun k => kwa 60 0 (he, ke, ki, fi, fa, or, mi, a, g, l, k, s) g) 21)))) (he, ke, ki, fi, fa, or, mi, a, g, l, w, s) im le ln ys vt nu nn rf kk q) := by
  obtain ⟨hV, hst⟩ := id hA
  have hst2 : s ≤ 999 := hst
  obtain ⟨v1, v2, v3, v4, v5, v6, v7, v8, v9, v10, v11, v12, v13, v14, v15, v16⟩ := id hV
  have v6l := kO_len mi v7 or v6
  obtain ⟨c1, c2, c3⟩ := id hC
  obtain ⟨j0, j1, j2, j3, j4⟩ := id hJ
  refine me_seg 2 (pc1 := 3) (ls1 := [some (.ref 100), some (.int 20), none]) (st1 := []) (M1 := (mk_M (cT im le ln ys vt nu nn rf vw vq yc yh yg) (kr (he, ke, ki, fi, fa, or, mi, a, g, l, w, s)) m kk q)) (fun f => rfl) ?_
  exact tc_mostWeightL he ke ki fi fa or mi a g l w s im le ln ys vt nu nn rf kk q hA hC 21 none vw vq yc yh yg m ⟨(by assumption), j1, by assumption, by assumption, by assumption⟩ (by omega)
set_option maxRecDepth 100000 in
theorem tm_mostWeightL (he ke ki fi fa or : List Nat) (mi a g l w s : Nat) (xi : List Int32) (im : Nat) (le nu rf : List Nat) (ln nn : Nat) (c : cC) (n m kk : kG) (hA : iA (he, ke, ki, fi, fa, or, mi, a, g, l, w, s)) (hC : iC nu nn) (k : Nat) : ∀ (xm xw : List Int32) (vp : Int32) (xn xc : List Int32) (vs : Int32), iR xm xw xn xc → k ≤ 21 → mm_E 186 3 [some (.ref 138), some (.int (nI k - 1))] [] (mk_M c n m kk (rT (he, ke, ki, fi, fa, or, mi, a, g, l, w, s) xm xi xw im le nu rf ln nn vp xn xc vs)) (pM (fun r => r = some (.int (kI (kmw (fun k => kwa 60 0 (he, ke, ki, fi, fa, or, mi, a, g, l, k, s) g) k)))) (he, ke, ki, fi, fa, or, mi, a, g, l, w, s) xi im le nu rf ln nn c n m kk) := by
  obtain ⟨hV, hst⟩ := id hA
  have hst2 : s ≤ 999 := hst
  obtain ⟨v1, v2, v3, v4, v5, v6, v7, v8, v9, v10, v11, v12, v13, v14, v15, v16⟩ := id hV
  have v6l := kO_len mi v7 or v6
  obtain ⟨c1, c2, c3⟩ := id hC
  induction k with
  | zero =>
    intro xm xw vp xn xc vs hR hk
    obtain ⟨r1, r2, r3, r4⟩ := id hR
    refine me_l (fun q_ => [some (.ref 138), some (.int q_)]) (show nI 0 - 1 = (-1 : Int32) by decide) ?_
    refine me_ret 4 (r := some (.int (-9))) (M1 := (mk_M c n m kk (rT (he, ke, ki, fi, fa, or, mi, a, g, l, w, s) xm xi xw im le nu rf ln nn vp xn xc vs))) (fun f => rfl) ?_
    exact ⟨rfl, _, _, _, _, _, _, rfl, ⟨(by assumption), (by assumption), (by assumption), (by assumption)⟩⟩
  | succ k IH =>
    intro xm xw vp xn xc vs hR hk
    obtain ⟨r1, r2, r3, r4⟩ := id hR
    refine me_l (fun q_ => [some (.ref 138), some (.int q_)]) (show nI (k + 1) - 1 = nI k from pk_sub (a := k + 1) (b := 1) (by omega)) ?_
    refine me_seg 1 (pc1 := 4) (ls1 := [some (.ref 138), some (.int (nI k))]) (st1 := [.int (nI k)]) (M1 := (mk_M c n m kk (rT (he, ke, ki, fi, fa, or, mi, a, g, l, w, s) xm xi xw im le nu rf ln nn vp xn xc vs))) (fun f => rfl) ?_
    refine me_f (C := (nI k) < 0) (nI_pos (by omega)) (fun f => rfl) ?_
    refine me_seg 4 (pc1 := 15) (ls1 := [some (.ref 138), some (.int (nI k))]) (st1 := [.ref 140, .ref 139]) (M1 := (mk_M c n m kk (rT (he, ke, ki, fi, fa, or, mi, a, g, l, w, s) xm xi xw im le nu rf ln nn vp xn xc vs))) (fun f => rfl) ?_
    refine me_call (y := 138) (y0 := 18) (L := [some (.ref 139), some (.ref 140), none]) (rest := []) (rr := none) (M1 := (mk_M c n m kk (rT (he, ke, ki, fi, fa, or, mi, a, g, l, w, s) (er (he, ke, ki, fi, fa, or, mi, a, g, l, w, s)) xi xw im le nu rf ln nn vp xn xc vs))) (fun f => rfl) (rc_copies (a := 140) (b := 139) (by decide) rfl rfl (er_len hV) (by assumption)) ?_
    refine me_seg 4 (pc1 := 24) (ls1 := [some (.ref 138), some (.int (nI k))]) (st1 := [.int (nI k), .int 5, .ref 140]) (M1 := (mk_M c n m kk (rT (he, ke, ki, fi, fa, or, mi, a, g, l, w, s) (er (he, ke, ki, fi, fa, or, mi, a, g, l, w, s)) xi xw im le nu rf ln nn vp xn xc vs))) (fun f => rfl) ?_
    refine me_stn (xs := (er (he, ke, ki, fi, fa, or, mi, a, g, l, w, s))) (ys := (er (he, ke, ki, fi, fa, or, mi, a, g, l, k, s))) (M2 := (mk_MR c n m kk (er (he, ke, ki, fi, fa, or, mi, a, g, l, w, s)) (er (he, ke, ki, fi, fa, or, mi, a, g, l, k, s)) xi xw (nI im) (le.map nI) (nu.map nI) (rf.map nI) (nI ln) (nI nn) vp xn xc vs)) rfl rfl (k := 5) (by decide) (by rw [er_leq (K := (he, ke, ki, fi, fa, or, mi, a, g, l, w, s)) v1 v6l]; decide) (er_s5 (v := k)) rfl ?_
    refine me_M (mk_MRk c n m kk (he, ke, ki, fi, fa, or, mi, a, g, l, w, s) (er (he, ke, ki, fi, fa, or, mi, a, g, l, k, s)) xi xw im le nu rf ln nn vp xn xc vs) ?_
    refine me_seg 1 (pc1 := 26) (ls1 := [some (.ref 138), some (.int (nI k))]) (st1 := [.ref 138]) (M1 := (mk_M c n m kk (rT (he, ke, ki, fi, fa, or, mi, a, g, l, w, s) (er (he, ke, ki, fi, fa, or, mi, a, g, l, k, s)) xi xw im le nu rf ln nn vp xn xc vs))) (fun f => rfl) ?_
    refine me_call (y := 181) (y0 := 29) (L := [some (.ref 138)]) (rest := []) (rr := some (.int (nI (k61 (kwa 60 0 (he, ke, ki, fi, fa, or, mi, a, g, l, k, s) g))))) (M1 := (mk_M c n m kk (rT (he, ke, ki, fi, fa, or, mi, a, g, l, w, s) (er (kwaR 60 (he, ke, ki, fi, fa, or, mi, a, g, l, k, s) g)) xi xw im le nu rf ln nn vp xn xc vs))) (fun f => rfl) (tm_there he ke ki fi fa or mi a g l w s xi im le nu rf ln nn c n m kk (he, ke, ki, fi, fa, or, mi, a, g, l, k, s) xw vp xn xc vs ⟨v1, v2, v3, v4, v5, v6, v7, v8, v9, v10, by omega, v12, v13, v14, v15, v16⟩ (show s < 2 ^ 20 by omega)) ?_
    rcases hf : kwa 60 0 (he, ke, ki, fi, fa, or, mi, a, g, l, k, s) g with _ | v
    · refine me_v (show nI (k61 none) = (61 : Int32) from rfl) ?_
      refine me_seg 4 (pc1 := 3) (ls1 := [some (.ref 138), some (.int ((nI k) + Int32.ofInt (-1)))]) (st1 := []) (M1 := (mk_M c n m kk (rT (he, ke, ki, fi, fa, or, mi, a, g, l, w, s) (er (kwaR 60 (he, ke, ki, fi, fa, or, mi, a, g, l, k, s) g)) xi xw im le nu rf ln nn vp xn xc vs))) (fun f => rfl) ?_
      refine me_l (fun q_ => [some (.ref 138), some (.int q_)]) (show ((nI k) + Int32.ofInt (-1)) = nI k - 1 from k_m1 _) ?_
      rw [kmw_n (f := (fun k => kwa 60 0 (he, ke, ki, fi, fa, or, mi, a, g, l, k, s) g)) hf]
      exact IH (er (kwaR 60 (he, ke, ki, fi, fa, or, mi, a, g, l, k, s) g)) xw vp xn xc vs ⟨(er_len (kV_waR 60 g ⟨v1, v2, v3, v4, v5, v6, v7, v8, v9, v10, by omega, v12, v13, v14, v15, v16⟩)), (by assumption), (by assumption), (by assumption)⟩ (by omega)
    · have hv := kwa_le 60 0 _ _ v hf
      refine me_v (show nI (k61 (some v)) = nI v from rfl) ?_
      refine me_seg 1 (pc1 := 31) (ls1 := [some (.ref 138), some (.int (nI k))]) (st1 := [.int 60, .int (nI v)]) (M1 := (mk_M c n m kk (rT (he, ke, ki, fi, fa, or, mi, a, g, l, w, s) (er (kwaR 60 (he, ke, ki, fi, fa, or, mi, a, g, l, k, s) g)) xi xw im le nu rf ln nn vp xn xc vs))) (fun f => rfl) ?_
      refine me_f (C := 60 < (nI v)) (nI_ltf (a := 60) (b := v) (by omega)) (fun f => rfl) ?_
      refine me_ret 2 (r := some (.int (nI k))) (M1 := (mk_M c n m kk (rT (he, ke, ki, fi, fa, or, mi, a, g, l, w, s) (er (kwaR 60 (he, ke, ki, fi, fa, or, mi, a, g, l, k, s) g)) xi xw im le nu rf ln nn vp xn xc vs))) (fun f => rfl) ?_
      exact ⟨(by rw [kmw_s (f := (fun k => kwa 60 0 (he, ke, ki, fi, fa, or, mi, a, g, l, k, s) g)) hf]; rfl), _, _, _, _, _, _, rfl, ⟨(er_len (kV_waR 60 g ⟨v1, v2, v3, v4, v5, v6, v7, v8, v9, v10, by omega, v12, v13, v14, v15, v16⟩)), (by assumption), (by assumption), (by assumption)⟩⟩
set_option maxRecDepth 100000 in
theorem tm_mostWeight (he ke ki fi fa or : List Nat) (mi a g l w s : Nat) (xi : List Int32) (im : Nat) (le nu rf : List Nat) (ln nn : Nat) (c : cC) (n m kk : kG) (hA : iA (he, ke, ki, fi, fa, or, mi, a, g, l, w, s)) (hC : iC nu nn) (xm xw : List Int32) (vp : Int32) (xn xc : List Int32) (vs : Int32) (hR : iR xm xw xn xc) : mm_E 186 0 [some (.ref 138), none] [] (mk_M c n m kk (rT (he, ke, ki, fi, fa, or, mi, a, g, l, w, s) xm xi xw im le nu rf ln nn vp xn xc vs)) (pM (fun r => r = some (.int (kI (kmw (fun k => kwa 60 0 (he, ke, ki, fi, fa, or, mi, a, g, l, k, s) g) 21)))) (he, ke, ki, fi, fa, or, mi, a, g, l, w, s) xi im le nu rf ln nn c n m kk) := by
  obtain ⟨hV, hst⟩ := id hA
  have hst2 : s ≤ 999 := hst
  obtain ⟨v1, v2, v3, v4, v5, v6, v7, v8, v9, v10, v11, v12, v13, v14, v15, v16⟩ := id hV
  have v6l := kO_len mi v7 or v6
  obtain ⟨c1, c2, c3⟩ := id hC
  obtain ⟨r1, r2, r3, r4⟩ := id hR
  refine me_seg 2 (pc1 := 3) (ls1 := [some (.ref 138), some (.int 20)]) (st1 := []) (M1 := (mk_M c n m kk (rT (he, ke, ki, fi, fa, or, mi, a, g, l, w, s) xm xi xw im le nu rf ln nn vp xn xc vs))) (fun f => rfl) ?_
  exact tm_mostWeightL he ke ki fi fa or mi a g l w s xi im le nu rf ln nn c n m kk hA hC 21 xm xw vp xn xc vs ⟨(by assumption), (by assumption), (by assumption), (by assumption)⟩ (by omega)
theorem ot_mostWeight {M : mm_H} (hM : kInv M) : oI 93 186 [some (.ref 100), none, none] [some (.ref 138), none] M := by
  obtain ⟨K, m, kk, im, le, ln, ys, vt, nu, nn, rf, vw, vq, yc, yh, yg, xm, xi, xw, vp, xn, xc, vs, rfl, hA, hB, hC, hD, hJ, hR, hK⟩ := hM
  obtain ⟨he, ke, ki, fi, fa, or, mi, a, g, l, w, s⟩ := K
  have v7 : mi ≤ 5 := hA.1.2.2.2.2.2.2.1
  exact oI_of (kI (kmw (fun k => kwa 60 0 (he, ke, ki, fi, fa, or, mi, a, g, l, k, s) g) 21)) hA hB hC hD hK (tc_mostWeight he ke ki fi fa or mi a g l w s im le ln ys vt nu nn rf kk _ hA hC vw vq yc yh yg m hJ) (fun c n m kk => tm_mostWeight he ke ki fi fa or mi a g l w s xi im le nu rf ln nn c n m kk hA hC xm xw vp xn xc vs hR)
