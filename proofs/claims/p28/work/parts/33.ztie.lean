/-! ===== a call, tied ===== -/
theorem oI_of {K : kK} {m kk : kG} {im : Nat} {le : List Nat} {ln : Nat} {ys : List Int32} {vt : Int32} {nu : List Nat} {nn : Nat} {rf : List Nat} {vw vq : Int32} {yc yh yg xm xi xw : List Int32} {vp : Int32} {xn xc : List Int32} {vs : Int32} {nn2 : Nat} (V : Int32) (hA : iA K) (hB : iB le ln) (hC2 : iC nu nn2) (hD : iD rf) (hK : iK im kk xi) {zc zm : Nat} {lc lm : mm_L}
    (h1 : mm_E zc 0 lc [] (mk_M (cT im le ln ys vt nu nn rf vw vq yc yh yg) (kr K) m kk (rT K xm xi xw im le nu rf ln nn vp xn xc vs)) (pC (fun r => r = some (.int V)) K im le ln ys vt nu nn2 rf kk (rT K xm xi xw im le nu rf ln nn vp xn xc vs)))
    (h2 : ∀ (c : cC) (n m kk : kG), mm_E zm 0 lm [] (mk_M c n m kk (rT K xm xi xw im le nu rf ln nn vp xn xc vs)) (pM (fun r => r = some (.int V)) K xi im le nu rf ln nn2 c n m kk)) : oI zc zm lc lm (mk_M (cT im le ln ys vt nu nn rf vw vq yc yh yg) (kr K) m kk (rT K xm xi xw im le nu rf ln nn vp xn xc vs)) := by
  obtain ⟨_, _, r1, rfl, vw2, vq2, yc2, yh2, yg2, m2, rfl, hJ2⟩ := h1
  obtain ⟨_, _, r2, rfl, xm2, xw2, vp2, xn2, xc2, vs2, rfl, hR2⟩ := h2 (cT im le ln ys vt nu nn2 rf vw2 vq2 yc2 yh2 yg2) (kr K) m2 kk
  exact ⟨V, _, _, r1, r2, K, m2, kk, im, le, ln, ys, vt, nu, nn2, rf, vw2, vq2, yc2, yh2, yg2, xm2, xi, xw2, vp2, xn2, xc2, vs2, rfl, hA, hB, hC2, hD, hJ2, hR2, hK⟩
theorem oL_of {K : kK} {m kk : kG} {im : Nat} {le : List Nat} {ln : Nat} {ys : List Int32} {vt : Int32} {nu : List Nat} {nn : Nat} {rf : List Nat} {vw vq : Int32} {yc yh yg xm xi xw : List Int32} {vp : Int32} {xn xc : List Int32} {vs : Int32} (V : Int64) (hA : iA K) (hB : iB le ln) (hC2 : iC nu nn) (hD : iD rf) (hK : iK im kk xi) {zc zm : Nat} {lc lm : mm_L}
    (h1 : mm_E zc 0 lc [] (mk_M (cT im le ln ys vt nu nn rf vw vq yc yh yg) (kr K) m kk (rT K xm xi xw im le nu rf ln nn vp xn xc vs)) (pC (fun r => r = some (.long V)) K im le ln ys vt nu nn rf kk (rT K xm xi xw im le nu rf ln nn vp xn xc vs)))
    (h2 : ∀ (c : cC) (n m kk : kG), mm_E zm 0 lm [] (mk_M c n m kk (rT K xm xi xw im le nu rf ln nn vp xn xc vs)) (pM (fun r => r = some (.long V)) K xi im le nu rf ln nn c n m kk)) : oL zc zm lc lm (mk_M (cT im le ln ys vt nu nn rf vw vq yc yh yg) (kr K) m kk (rT K xm xi xw im le nu rf ln nn vp xn xc vs)) := by
  obtain ⟨_, _, r1, rfl, vw2, vq2, yc2, yh2, yg2, m2, rfl, hJ2⟩ := h1
  obtain ⟨_, _, r2, rfl, xm2, xw2, vp2, xn2, xc2, vs2, rfl, hR2⟩ := h2 (cT im le ln ys vt nu nn rf vw2 vq2 yc2 yh2 yg2) (kr K) m2 kk
  exact ⟨V, _, _, r1, r2, K, m2, kk, im, le, ln, ys, vt, nu, nn, rf, vw2, vq2, yc2, yh2, yg2, xm2, xi, xw2, vp2, xn2, xc2, vs2, rfl, hA, hB, hC2, hD, hJ2, hR2, hK⟩
def kwp (F : Nat → Nat) : Nat → Nat → Int32 → Int32
  | 0, _, v => v
  | r + 1, j, v => kwp F r (j + 1) (if F j = 0 then v else v ||| ((1 : Int32) <<< (nI j &&& 31)))
theorem kwp_0 {F : Nat → Nat} {r j : Nat} {v : Int32} (h : F j = 0) : kwp F (r + 1) j v = kwp F r (j + 1) v := by
  show kwp F r (j + 1) (if F j = 0 then v else v ||| ((1 : Int32) <<< (nI j &&& 31))) = _
  rw [if_pos h]
theorem kwp_1 {F : Nat → Nat} {r j : Nat} {v : Int32} (h : ¬ F j = 0) : kwp F (r + 1) j v = kwp F r (j + 1) (v ||| ((1 : Int32) <<< (nI j &&& 31))) := by
  show kwp F r (j + 1) (if F j = 0 then v else v ||| ((1 : Int32) <<< (nI j &&& 31))) = _
  rw [if_neg h]
theorem kor0 (v : Int32) : v ||| 0 = v := by
  apply Int32.toBitVec_inj.1
  show v.toBitVec ||| (0 : Int32).toBitVec = v.toBitVec
  rw [show (0 : Int32).toBitVec = 0#32 by decide, BitVec.or_zero]
def kez (a : Nat) (P : Nat → Nat) : Nat → Nat → Int32 → Int32
  | 0, _, v => v
  | r + 1, j, v => kez a P r (j + 1) (match kbey a j with
    | none => v
    | some t => if P t = 0 then v else v ||| ((1 : Int32) <<< (nI t &&& 31)))
theorem kez_n {a r j : Nat} {P : Nat → Nat} {v : Int32} (h : kbey a j = none) : kez a P (r + 1) j v = kez a P r (j + 1) v := by
  show kez a P r (j + 1) (match kbey a j with
    | none => v
    | some t => if P t = 0 then v else v ||| ((1 : Int32) <<< (nI t &&& 31))) = _
  rw [h]
theorem kez_f {a r j t : Nat} {P : Nat → Nat} {v : Int32} (h : kbey a j = some t) (h2 : P t = 0) : kez a P (r + 1) j v = kez a P r (j + 1) v := by
  show kez a P r (j + 1) (match kbey a j with
    | none => v
    | some t => if P t = 0 then v else v ||| ((1 : Int32) <<< (nI t &&& 31))) = _
  rw [h]
  show kez a P r (j + 1) (if P t = 0 then v else v ||| ((1 : Int32) <<< (nI t &&& 31))) = _
  rw [if_pos h2]
theorem kez_y {a r j t : Nat} {P : Nat → Nat} {v : Int32} (h : kbey a j = some t) (h2 : ¬ P t = 0) : kez a P (r + 1) j v = kez a P r (j + 1) (v ||| ((1 : Int32) <<< (nI t &&& 31))) := by
  show kez a P r (j + 1) (match kbey a j with
    | none => v
    | some t => if P t = 0 then v else v ||| ((1 : Int32) <<< (nI t &&& 31))) = _
  rw [h]
  show kez a P r (j + 1) (if P t = 0 then v else v ||| ((1 : Int32) <<< (nI t &&& 31))) = _
  rw [if_neg h2]
theorem k_if1 {c : Prop} [Decidable c] (h : c) : ¬ (if c then 1 else 0) = 0 := by rw [if_pos h]; decide
theorem k_if0 {c : Prop} [Decidable c] (h : ¬ c) : (if c then 1 else 0) = 0 := if_neg h
def kcl (fa : List Nat) : Nat → Nat → Nat → Nat
  | 0, _, b => b
  | r + 1, j, b => if kg fa b < kg fa j then kcl fa r (j + 1) j else kcl fa r (j + 1) b
theorem kcl_t {fa : List Nat} {r j b : Nat} (h : kg fa b < kg fa j) : kcl fa (r + 1) j b = kcl fa r (j + 1) j := if_pos h
theorem kcl_f {fa : List Nat} {r j b : Nat} (h : ¬ kg fa b < kg fa j) : kcl fa (r + 1) j b = kcl fa r (j + 1) b := if_neg h
theorem khold_le (k : Nat) {f : Nat} (h : f ≤ 9) : khold k f ≤ 34 := by
  unfold khold
  split <;> omega
theorem kload_le {he ke : List Nat} {a w c : Nat} (v11 : w ≤ 20) (v12 : ∀ i, kg he i ≤ 9) (v13 : ∀ i, kg ke i ≤ 1) : kload he ke a w c ≤ 51 := by
  have h1 := v12 c
  have h2 := v13 c
  unfold kload
  omega
set_option maxRecDepth 100000 in
theorem tc_ecL (he ke ki fi fa or : List Nat) (mi a g l w s : Nat) (im : Nat) (le : List Nat) (ln : Nat) (ys : List Int32) (vt : Int32) (nu : List Nat) (nn : Nat) (rf : List Nat) (kk : kG) (q : cR) (hA : iA (he, ke, ki, fi, fa, or, mi, a, g, l, w, s)) (hC : iC nu nn) (A : Int32) (k : Nat) : ∀ (j : Nat) (v : Int32) (lo3 : Option Value) (vw vq : Int32) (yc yh yg : List Int32) (m : kG), j + k = 4 → iJ m ys yc yh yg → A = kez a (fun t => if kload he ke a w t ≤ khold (kg ki (kg or 0)) (kg fi (kg or 0)) then 1 else 0) k j v → mm_E 102 13 [some (.ref 117), some (.int v), some (.int (nI j)), lo3] [] (mk_M (cT im le ln ys vt nu nn rf vw vq yc yh yg) (kr (he, ke, ki, fi, fa, or, mi, a, g, l, w, s)) m kk q) (pC (fun r => r = some (.int (A))) (he, ke, ki, fi, fa, or, mi, a, g, l, w, s) im le ln ys vt nu nn rf kk q) := by
  obtain ⟨hV, hst⟩ := id hA
  have hst2 : s ≤ 999 := hst
  obtain ⟨v1, v2, v3, v4, v5, v6, v7, v8, v9, v10, v11, v12, v13, v14, v15, v16⟩ := id hV
  have v6l := kO_len mi v7 or v6
  obtain ⟨c1, c2, c3⟩ := id hC
  induction k with
  | zero =>
    intro j v lo3 vw vq yc yh yg m hj hJ g0
    obtain ⟨j0, j1, j2, j3, j4⟩ := id hJ
    have v60 := kO_lt5 mi v7 or v6 0 (by omega)
    have hh := khold_le (kg ki (kg or 0)) (v15 (kg or 0))
    have hlo := fun t => kload_le (a := a) (c := t) v11 v12 v13
    refine me_seg 2 (pc1 := 15) (ls1 := [some (.ref 117), some (.int v), some (.int (nI j)), lo3]) (st1 := [.int 4, .int (nI j)]) (M1 := (mk_M (cT im le ln ys vt nu nn rf vw vq yc yh yg) (kr (he, ke, ki, fi, fa, or, mi, a, g, l, w, s)) m kk q)) (fun f => rfl) ?_
    refine me_t (C := 4 ≤ (nI j)) (nI_let (a := 4) (b := j) (by omega)) (fun f => rfl) ?_
    refine me_ret 2 (r := some (.int v)) (M1 := (mk_M (cT im le ln ys vt nu nn rf vw vq yc yh yg) (kr (he, ke, ki, fi, fa, or, mi, a, g, l, w, s)) m kk q)) (fun f => rfl) ?_
    exact ⟨(by rw [g0]; rfl), _, _, _, _, _, _, rfl, ⟨(by assumption), j1, by assumption, by assumption, by assumption⟩⟩
  | succ k IH =>
    intro j v lo3 vw vq yc yh yg m hj hJ g0
    obtain ⟨j0, j1, j2, j3, j4⟩ := id hJ
    have v60 := kO_lt5 mi v7 or v6 0 (by omega)
    have hh := khold_le (kg ki (kg or 0)) (v15 (kg or 0))
    have hlo := fun t => kload_le (a := a) (c := t) v11 v12 v13
    refine me_seg 2 (pc1 := 15) (ls1 := [some (.ref 117), some (.int v), some (.int (nI j)), lo3]) (st1 := [.int 4, .int (nI j)]) (M1 := (mk_M (cT im le ln ys vt nu nn rf vw vq yc yh yg) (kr (he, ke, ki, fi, fa, or, mi, a, g, l, w, s)) m kk q)) (fun f => rfl) ?_
    refine me_f (C := 4 ≤ (nI j)) (nI_lef (a := 4) (b := j) (by omega)) (fun f => rfl) ?_
    refine me_seg 3 (pc1 := 23) (ls1 := [some (.ref 117), some (.int v), some (.int (nI j)), lo3]) (st1 := [.int (nI j), .int (nI a)]) (M1 := (mk_M (cT im le ln ys vt nu nn rf vw vq yc yh yg) (kr (he, ke, ki, fi, fa, or, mi, a, g, l, w, s)) m kk q)) (fun f => rfl) ?_
    refine me_call (y := 48) (y0 := 26) (L := [some (.int (nI a)), some (.int (nI j))]) (rest := []) (rr := some (.int (kI (kbey a j)))) (M1 := (mk_M (cT im le ln ys vt nu nn rf vw vq yc yh yg) (kr (he, ke, ki, fi, fa, or, mi, a, g, l, w, s)) m kk q)) (fun f => rfl) (kc_bey (c := a) (w := j) (by omega) (by omega) _) ?_
    rcases hb_1 : kbey a j with _ | t_1
    · refine me_v (show kI none = (-9 : Int32) from rfl) ?_
      refine me_seg 5 (pc1 := 60) (ls1 := [some (.ref 117), some (.int v), some (.int ((nI j) + 1)), some (.int (-9))]) (st1 := []) (M1 := (mk_M (cT im le ln ys vt nu nn rf vw vq yc yh yg) (kr (he, ke, ki, fi, fa, or, mi, a, g, l, w, s)) m kk q)) (fun f => rfl) ?_
      refine me_l (fun q_ => [some (.ref 117), some (.int v), some (.int q_), some (.int (-9))]) (nI_add j 1) ?_
      refine me_seg 1 (pc1 := 13) (ls1 := [some (.ref 117), some (.int v), some (.int (nI (j + 1))), some (.int (-9))]) (st1 := []) (M1 := (mk_M (cT im le ln ys vt nu nn rf vw vq yc yh yg) (kr (he, ke, ki, fi, fa, or, mi, a, g, l, w, s)) m kk q)) (fun f => rfl) ?_
      exact IH (j + 1) v (some (.int (-9))) vw vq yc yh yg m (by omega) ⟨(by assumption), j1, by assumption, by assumption, by assumption⟩ (g0.trans (kez_n hb_1))
    · have ht_1 := kbey_lt (by omega) hb_1
      refine me_v (show kI (some t_1) = nI t_1 from rfl) ?_
      have hlo_t_1 := hlo t_1
      refine me_seg 3 (pc1 := 30) (ls1 := [some (.ref 117), some (.int v), some (.int (nI j)), some (.int (nI t_1))]) (st1 := [.int (-9), .int (nI t_1)]) (M1 := (mk_M (cT im le ln ys vt nu nn rf vw vq yc yh yg) (kr (he, ke, ki, fi, fa, or, mi, a, g, l, w, s)) m kk q)) (fun f => rfl) ?_
      refine me_f (C := (nI t_1) = (-9)) (k_nc (by omega) (by decide)) (fun f => rfl) ?_
      refine me_seg 2 (pc1 := 35) (ls1 := [some (.ref 117), some (.int v), some (.int (nI j)), some (.int (nI t_1))]) (st1 := [.int (nI t_1), .ref 117]) (M1 := (mk_M (cT im le ln ys vt nu nn rf vw vq yc yh yg) (kr (he, ke, ki, fi, fa, or, mi, a, g, l, w, s)) m kk q)) (fun f => rfl) ?_
      refine me_call (y := 54) (y0 := 38) (L := [some (.ref 117), some (.int (nI t_1)), none]) (rest := []) (rr := some (.int (nI (kload he ke a w t_1)))) (M1 := (mk_M (cT im le ln ys vt nu nn rf vw vq yc yh yg) (kr (he, ke, ki, fi, fa, or, mi, a, g, l, w, s)) m kk q)) (fun f => rfl) (kl_n (cT im le ln ys vt nu nn rf vw vq yc yh yg) m kk q (kc_load_n he ke ki fi fa or mi a g l w s t_1 (by omega) hV)) ?_
      refine me_seg 4 (pc1 := 44) (ls1 := [some (.ref 117), some (.int v), some (.int (nI j)), some (.int (nI t_1))]) (st1 := [.int 0, .ref 123, .ref 117, .int (nI (kload he ke a w t_1))]) (M1 := (mk_M (cT im le ln ys vt nu nn rf vw vq yc yh yg) (kr (he, ke, ki, fi, fa, or, mi, a, g, l, w, s)) m kk q)) (fun f => rfl) ?_
      refine me_ldn (xs := (or.map nI)) rfl rfl (k := 0) (by omega) (kg_ok (by omega)) ?_
      refine me_call (y := 55) (y0 := 48) (L := [some (.ref 117), some (.int (nI (kg or 0)))]) (rest := [.int (nI (kload he ke a w t_1))]) (rr := some (.int (nI (khold (kg ki (kg or 0)) (kg fi (kg or 0)))))) (M1 := (mk_M (cT im le ln ys vt nu nn rf vw vq yc yh yg) (kr (he, ke, ki, fi, fa, or, mi, a, g, l, w, s)) m kk q)) (fun f => rfl) (kl_n (cT im le ln ys vt nu nn rf vw vq yc yh yg) m kk q (kc_str_n he ke ki fi fa or mi a g l w s (kg or 0) (by omega) hV)) ?_
      refine me_ifN (C := (nI (khold (kg ki (kg or 0)) (kg fi (kg or 0)))) < (nI (kload he ke a w t_1))) (nI_lti (a := khold (kg ki (kg or 0)) (kg fi (kg or 0))) (b := kload he ke a w t_1) (by omega)) (fun f => rfl) (fun h2 => ?_) (fun h2 => ?_)
      · refine me_seg 1 (pc1 := 60) (ls1 := [some (.ref 117), some (.int v), some (.int ((nI j) + 1)), some (.int (nI t_1))]) (st1 := []) (M1 := (mk_M (cT im le ln ys vt nu nn rf vw vq yc yh yg) (kr (he, ke, ki, fi, fa, or, mi, a, g, l, w, s)) m kk q)) (fun f => rfl) ?_
        refine me_l (fun q_ => [some (.ref 117), some (.int v), some (.int q_), some (.int (nI t_1))]) (nI_add j 1) ?_
        refine me_seg 1 (pc1 := 13) (ls1 := [some (.ref 117), some (.int v), some (.int (nI (j + 1))), some (.int (nI t_1))]) (st1 := []) (M1 := (mk_M (cT im le ln ys vt nu nn rf vw vq yc yh yg) (kr (he, ke, ki, fi, fa, or, mi, a, g, l, w, s)) m kk q)) (fun f => rfl) ?_
        exact IH (j + 1) v (some (.int (nI t_1))) vw vq yc yh yg m (by omega) ⟨(by assumption), j1, by assumption, by assumption, by assumption⟩ (g0.trans (kez_f (P := (fun t => if kload he ke a w t ≤ khold (kg ki (kg or 0)) (kg fi (kg or 0)) then 1 else 0)) hb_1 (k_if0 (by omega))))
      · refine me_seg 7 (pc1 := 60) (ls1 := [some (.ref 117), some (.int (v ||| ((1 : Int32) <<< ((nI t_1) &&& 31)))), some (.int ((nI j) + 1)), some (.int (nI t_1))]) (st1 := []) (M1 := (mk_M (cT im le ln ys vt nu nn rf vw vq yc yh yg) (kr (he, ke, ki, fi, fa, or, mi, a, g, l, w, s)) m kk q)) (fun f => rfl) ?_
        refine me_l (fun q_ => [some (.ref 117), some (.int (v ||| ((1 : Int32) <<< ((nI t_1) &&& 31)))), some (.int q_), some (.int (nI t_1))]) (nI_add j 1) ?_
        refine me_seg 1 (pc1 := 13) (ls1 := [some (.ref 117), some (.int (v ||| ((1 : Int32) <<< ((nI t_1) &&& 31)))), some (.int (nI (j + 1))), some (.int (nI t_1))]) (st1 := []) (M1 := (mk_M (cT im le ln ys vt nu nn rf vw vq yc yh yg) (kr (he, ke, ki, fi, fa, or, mi, a, g, l, w, s)) m kk q)) (fun f => rfl) ?_
        exact IH (j + 1) (v ||| ((1 : Int32) <<< ((nI t_1) &&& 31))) (some (.int (nI t_1))) vw vq yc yh yg m (by omega) ⟨(by assumption), j1, by assumption, by assumption, by assumption⟩ (g0.trans (kez_y (P := (fun t => if kload he ke a w t ≤ khold (kg ki (kg or 0)) (kg fi (kg or 0)) then 1 else 0)) hb_1 (k_if1 (by omega))))
set_option maxRecDepth 100000 in
theorem tc_ec (he ke ki fi fa or : List Nat) (mi a g l w s : Nat) (im : Nat) (le : List Nat) (ln : Nat) (ys : List Int32) (vt : Int32) (nu : List Nat) (nn : Nat) (rf : List Nat) (kk : kG) (q : cR) (hA : iA (he, ke, ki, fi, fa, or, mi, a, g, l, w, s)) (hC : iC nu nn) (vw vq : Int32) (yc yh yg : List Int32) (m : kG) (hJ : iJ m ys yc yh yg) : mm_E 102 0 [some (.ref 117), none, none, none] [] (mk_M (cT im le ln ys vt nu nn rf vw vq yc yh yg) (kr (he, ke, ki, fi, fa, or, mi, a, g, l, w, s)) m kk q) (pC (fun r => r = some (.int ((if mi = 0 then (0 : Int32) else kez a (fun t => if kload he ke a w t ≤ khold (kg ki (kg or 0)) (kg fi (kg or 0)) then 1 else 0) 4 0 0)))) (he, ke, ki, fi, fa, or, mi, a, g, l, w, s) im le ln ys vt nu nn rf kk q) := by
  obtain ⟨hV, hst⟩ := id hA
  have hst2 : s ≤ 999 := hst
  obtain ⟨v1, v2, v3, v4, v5, v6, v7, v8, v9, v10, v11, v12, v13, v14, v15, v16⟩ := id hV
  have v6l := kO_len mi v7 or v6
  obtain ⟨c1, c2, c3⟩ := id hC
  obtain ⟨j0, j1, j2, j3, j4⟩ := id hJ
  refine me_seg 2 (pc1 := 4) (ls1 := [some (.ref 117), none, none, none]) (st1 := [.int (nI mi)]) (M1 := (mk_M (cT im le ln ys vt nu nn rf vw vq yc yh yg) (kr (he, ke, ki, fi, fa, or, mi, a, g, l, w, s)) m kk q)) (fun f => rfl) ?_
  refine me_ifN (C := (nI mi) = 0) (nI_eqi (a := mi) (b := 0) (by omega)) (fun f => rfl) (fun h1 => ?_) (fun h1 => ?_)
  · refine me_ret 2 (r := some (.int 0)) (M1 := (mk_M (cT im le ln ys vt nu nn rf vw vq yc yh yg) (kr (he, ke, ki, fi, fa, or, mi, a, g, l, w, s)) m kk q)) (fun f => rfl) ?_
    exact ⟨(by rw [if_pos h1]), _, _, _, _, _, _, rfl, ⟨(by assumption), j1, by assumption, by assumption, by assumption⟩⟩
  · refine me_seg 4 (pc1 := 13) (ls1 := [some (.ref 117), some (.int 0), some (.int 0), none]) (st1 := []) (M1 := (mk_M (cT im le ln ys vt nu nn rf vw vq yc yh yg) (kr (he, ke, ki, fi, fa, or, mi, a, g, l, w, s)) m kk q)) (fun f => rfl) ?_
    exact tc_ecL he ke ki fi fa or mi a g l w s im le ln ys vt nu nn rf kk q hA hC _ 4 0 0 none vw vq yc yh yg m (by omega) ⟨(by assumption), j1, by assumption, by assumption, by assumption⟩ (if_neg h1)
set_option maxRecDepth 100000 in
theorem tc_smL (he ke ki fi fa or : List Nat) (mi a g l w s : Nat) (im : Nat) (le : List Nat) (ln : Nat) (ys : List Int32) (vt : Int32) (nu : List Nat) (nn : Nat) (rf : List Nat) (kk : kG) (q : cR) (hA : iA (he, ke, ki, fi, fa, or, mi, a, g, l, w, s)) (hC : iC nu nn) (A : Int32) (k : Nat) : ∀ (j : Nat) (v : Int32) (vw vq : Int32) (yc yh yg : List Int32) (m : kG), j + k = mi → iJ m ys yc yh yg → A = kwp (fun j => if w + 13 ≤ khold (kg ki j) (kg fi j) then 1 else 0) k j v → mm_E 103 4 [some (.ref 117), some (.int v), some (.int (nI j))] [] (mk_M (cT im le ln ys vt nu nn rf vw vq yc yh yg) (kr (he, ke, ki, fi, fa, or, mi, a, g, l, w, s)) m kk q) (pC (fun r => r = some (.int (A))) (he, ke, ki, fi, fa, or, mi, a, g, l, w, s) im le ln ys vt nu nn rf kk q) := by
  obtain ⟨hV, hst⟩ := id hA
  have hst2 : s ≤ 999 := hst
  obtain ⟨v1, v2, v3, v4, v5, v6, v7, v8, v9, v10, v11, v12, v13, v14, v15, v16⟩ := id hV
  have v6l := kO_len mi v7 or v6
  obtain ⟨c1, c2, c3⟩ := id hC
  induction k with
  | zero =>
    intro j v vw vq yc yh yg m hj hJ g0
    obtain ⟨j0, j1, j2, j3, j4⟩ := id hJ
    have hh := khold_le (kg ki j) (v15 j)
    refine me_seg 3 (pc1 := 9) (ls1 := [some (.ref 117), some (.int v), some (.int (nI j))]) (st1 := [.int (nI mi), .int (nI j)]) (M1 := (mk_M (cT im le ln ys vt nu nn rf vw vq yc yh yg) (kr (he, ke, ki, fi, fa, or, mi, a, g, l, w, s)) m kk q)) (fun f => rfl) ?_
    refine me_t (C := (nI mi) ≤ (nI j)) (nI_let (a := mi) (b := j) (by omega)) (fun f => rfl) ?_
    refine me_ret 2 (r := some (.int v)) (M1 := (mk_M (cT im le ln ys vt nu nn rf vw vq yc yh yg) (kr (he, ke, ki, fi, fa, or, mi, a, g, l, w, s)) m kk q)) (fun f => rfl) ?_
    exact ⟨(by rw [g0]; rfl), _, _, _, _, _, _, rfl, ⟨(by assumption), j1, by assumption, by assumption, by assumption⟩⟩
  | succ k IH =>
    intro j v vw vq yc yh yg m hj hJ g0
    obtain ⟨j0, j1, j2, j3, j4⟩ := id hJ
    have hh := khold_le (kg ki j) (v15 j)
    refine me_seg 3 (pc1 := 9) (ls1 := [some (.ref 117), some (.int v), some (.int (nI j))]) (st1 := [.int (nI mi), .int (nI j)]) (M1 := (mk_M (cT im le ln ys vt nu nn rf vw vq yc yh yg) (kr (he, ke, ki, fi, fa, or, mi, a, g, l, w, s)) m kk q)) (fun f => rfl) ?_
    refine me_f (C := (nI mi) ≤ (nI j)) (nI_lef (a := mi) (b := j) (by omega)) (fun f => rfl) ?_
    refine me_seg 2 (pc1 := 14) (ls1 := [some (.ref 117), some (.int v), some (.int (nI j))]) (st1 := [.int (nI j), .ref 117]) (M1 := (mk_M (cT im le ln ys vt nu nn rf vw vq yc yh yg) (kr (he, ke, ki, fi, fa, or, mi, a, g, l, w, s)) m kk q)) (fun f => rfl) ?_
    refine me_call (y := 55) (y0 := 17) (L := [some (.ref 117), some (.int (nI j))]) (rest := []) (rr := some (.int (nI (khold (kg ki j) (kg fi j))))) (M1 := (mk_M (cT im le ln ys vt nu nn rf vw vq yc yh yg) (kr (he, ke, ki, fi, fa, or, mi, a, g, l, w, s)) m kk q)) (fun f => rfl) (kl_n (cT im le ln ys vt nu nn rf vw vq yc yh yg) m kk q (kc_str_n he ke ki fi fa or mi a g l w s j (by omega) hV)) ?_
    refine me_seg 4 (pc1 := 24) (ls1 := [some (.ref 117), some (.int v), some (.int (nI j))]) (st1 := [.int ((nI w) + (13 : Int32)), .int (nI (khold (kg ki j) (kg fi j)))]) (M1 := (mk_M (cT im le ln ys vt nu nn rf vw vq yc yh yg) (kr (he, ke, ki, fi, fa, or, mi, a, g, l, w, s)) m kk q)) (fun f => rfl) ?_
    refine me_v (nI_add w 13) ?_
    refine me_ifN (C := (nI (khold (kg ki j) (kg fi j))) < (nI (w + 13))) (nI_lti (a := khold (kg ki j) (kg fi j)) (b := w + 13) (by omega)) (fun f => rfl) (fun h1 => ?_) (fun h1 => ?_)
    · refine me_seg 1 (pc1 := 36) (ls1 := [some (.ref 117), some (.int v), some (.int ((nI j) + 1))]) (st1 := []) (M1 := (mk_M (cT im le ln ys vt nu nn rf vw vq yc yh yg) (kr (he, ke, ki, fi, fa, or, mi, a, g, l, w, s)) m kk q)) (fun f => rfl) ?_
      refine me_l (fun q_ => [some (.ref 117), some (.int v), some (.int q_)]) (nI_add j 1) ?_
      refine me_seg 1 (pc1 := 4) (ls1 := [some (.ref 117), some (.int v), some (.int (nI (j + 1)))]) (st1 := []) (M1 := (mk_M (cT im le ln ys vt nu nn rf vw vq yc yh yg) (kr (he, ke, ki, fi, fa, or, mi, a, g, l, w, s)) m kk q)) (fun f => rfl) ?_
      exact IH (j + 1) v vw vq yc yh yg m (by omega) ⟨(by assumption), j1, by assumption, by assumption, by assumption⟩ (g0.trans (kwp_0 (F := (fun j => if w + 13 ≤ khold (kg ki j) (kg fi j) then 1 else 0)) (j := j) (k_if0 (by omega))))
    · refine me_seg 7 (pc1 := 36) (ls1 := [some (.ref 117), some (.int (v ||| ((1 : Int32) <<< ((nI j) &&& 31)))), some (.int ((nI j) + 1))]) (st1 := []) (M1 := (mk_M (cT im le ln ys vt nu nn rf vw vq yc yh yg) (kr (he, ke, ki, fi, fa, or, mi, a, g, l, w, s)) m kk q)) (fun f => rfl) ?_
      refine me_l (fun q_ => [some (.ref 117), some (.int (v ||| ((1 : Int32) <<< ((nI j) &&& 31)))), some (.int q_)]) (nI_add j 1) ?_
      refine me_seg 1 (pc1 := 4) (ls1 := [some (.ref 117), some (.int (v ||| ((1 : Int32) <<< ((nI j) &&& 31)))), some (.int (nI (j + 1)))]) (st1 := []) (M1 := (mk_M (cT im le ln ys vt nu nn rf vw vq yc yh yg) (kr (he, ke, ki, fi, fa, or, mi, a, g, l, w, s)) m kk q)) (fun f => rfl) ?_
      exact IH (j + 1) (v ||| ((1 : Int32) <<< ((nI j) &&& 31))) vw vq yc yh yg m (by omega) ⟨(by assumption), j1, by assumption, by assumption, by assumption⟩ (g0.trans (kwp_1 (F := (fun j => if w + 13 ≤ khold (kg ki j) (kg fi j) then 1 else 0)) (j := j) (k_if1 (by omega))))
set_option maxRecDepth 100000 in
theorem tc_sm (he ke ki fi fa or : List Nat) (mi a g l w s : Nat) (im : Nat) (le : List Nat) (ln : Nat) (ys : List Int32) (vt : Int32) (nu : List Nat) (nn : Nat) (rf : List Nat) (kk : kG) (q : cR) (hA : iA (he, ke, ki, fi, fa, or, mi, a, g, l, w, s)) (hC : iC nu nn) (vw vq : Int32) (yc yh yg : List Int32) (m : kG) (hJ : iJ m ys yc yh yg) : mm_E 103 0 [some (.ref 117), none, none] [] (mk_M (cT im le ln ys vt nu nn rf vw vq yc yh yg) (kr (he, ke, ki, fi, fa, or, mi, a, g, l, w, s)) m kk q) (pC (fun r => r = some (.int (kwp (fun j => if w + 13 ≤ khold (kg ki j) (kg fi j) then 1 else 0) mi 0 0))) (he, ke, ki, fi, fa, or, mi, a, g, l, w, s) im le ln ys vt nu nn rf kk q) := by
  obtain ⟨hV, hst⟩ := id hA
  have hst2 : s ≤ 999 := hst
  obtain ⟨v1, v2, v3, v4, v5, v6, v7, v8, v9, v10, v11, v12, v13, v14, v15, v16⟩ := id hV
  have v6l := kO_len mi v7 or v6
  obtain ⟨c1, c2, c3⟩ := id hC
  obtain ⟨j0, j1, j2, j3, j4⟩ := id hJ
  refine me_seg 4 (pc1 := 4) (ls1 := [some (.ref 117), some (.int 0), some (.int 0)]) (st1 := []) (M1 := (mk_M (cT im le ln ys vt nu nn rf vw vq yc yh yg) (kr (he, ke, ki, fi, fa, or, mi, a, g, l, w, s)) m kk q)) (fun f => rfl) ?_
  exact tc_smL he ke ki fi fa or mi a g l w s im le ln ys vt nu nn rf kk q hA hC _ mi 0 0 vw vq yc yh yg m (by omega) ⟨(by assumption), j1, by assumption, by assumption, by assumption⟩ rfl
set_option maxRecDepth 100000 in
theorem tc_clL (he ke ki fi fa or : List Nat) (mi a g l w s : Nat) (im : Nat) (le : List Nat) (ln : Nat) (ys : List Int32) (vt : Int32) (nu : List Nat) (nn : Nat) (rf : List Nat) (kk : kG) (q : cR) (hA : iA (he, ke, ki, fi, fa, or, mi, a, g, l, w, s)) (hC : iC nu nn) (A : Nat) (k : Nat) : ∀ (j : Nat) (b : Nat) (vw vq : Int32) (yc yh yg : List Int32) (m : kG), j + k = mi → iJ m ys yc yh yg → b < mi → A = kcl fa k j b → mm_E 104 16 [some (.ref 117), some (.int (nI b)), some (.int (nI j))] [] (mk_M (cT im le ln ys vt nu nn rf vw vq yc yh yg) (kr (he, ke, ki, fi, fa, or, mi, a, g, l, w, s)) m kk q) (pC (fun r => r = some (.int (nI A))) (he, ke, ki, fi, fa, or, mi, a, g, l, w, s) im le ln ys vt nu nn rf kk q) := by
  obtain ⟨hV, hst⟩ := id hA
  have hst2 : s ≤ 999 := hst
  obtain ⟨v1, v2, v3, v4, v5, v6, v7, v8, v9, v10, v11, v12, v13, v14, v15, v16⟩ := id hV
  have v6l := kO_len mi v7 or v6
  obtain ⟨c1, c2, c3⟩ := id hC
  induction k with
  | zero =>
    intro j b vw vq yc yh yg m hj hJ g0 g1
    obtain ⟨j0, j1, j2, j3, j4⟩ := id hJ
    have f1 := v16 b
    have f2 := v16 j
    refine me_seg 3 (pc1 := 21) (ls1 := [some (.ref 117), some (.int (nI b)), some (.int (nI j))]) (st1 := [.int (nI mi), .int (nI j)]) (M1 := (mk_M (cT im le ln ys vt nu nn rf vw vq yc yh yg) (kr (he, ke, ki, fi, fa, or, mi, a, g, l, w, s)) m kk q)) (fun f => rfl) ?_
    refine me_t (C := (nI mi) ≤ (nI j)) (nI_let (a := mi) (b := j) (by omega)) (fun f => rfl) ?_
    refine me_ret 2 (r := some (.int (nI b))) (M1 := (mk_M (cT im le ln ys vt nu nn rf vw vq yc yh yg) (kr (he, ke, ki, fi, fa, or, mi, a, g, l, w, s)) m kk q)) (fun f => rfl) ?_
    exact ⟨(by rw [g1]; rfl), _, _, _, _, _, _, rfl, ⟨(by assumption), j1, by assumption, by assumption, by assumption⟩⟩
  | succ k IH =>
    intro j b vw vq yc yh yg m hj hJ g0 g1
    obtain ⟨j0, j1, j2, j3, j4⟩ := id hJ
    have f1 := v16 b
    have f2 := v16 j
    refine me_seg 3 (pc1 := 21) (ls1 := [some (.ref 117), some (.int (nI b)), some (.int (nI j))]) (st1 := [.int (nI mi), .int (nI j)]) (M1 := (mk_M (cT im le ln ys vt nu nn rf vw vq yc yh yg) (kr (he, ke, ki, fi, fa, or, mi, a, g, l, w, s)) m kk q)) (fun f => rfl) ?_
    refine me_f (C := (nI mi) ≤ (nI j)) (nI_lef (a := mi) (b := j) (by omega)) (fun f => rfl) ?_
    refine me_seg 3 (pc1 := 29) (ls1 := [some (.ref 117), some (.int (nI b)), some (.int (nI j))]) (st1 := [.int (nI j), .ref 122]) (M1 := (mk_M (cT im le ln ys vt nu nn rf vw vq yc yh yg) (kr (he, ke, ki, fi, fa, or, mi, a, g, l, w, s)) m kk q)) (fun f => rfl) ?_
    refine me_ldn (xs := (fa.map nI)) rfl rfl (k := j) (by omega) (kg_ok (by omega)) ?_
    refine me_seg 3 (pc1 := 35) (ls1 := [some (.ref 117), some (.int (nI b)), some (.int (nI j))]) (st1 := [.int (nI b), .ref 122, .int (nI (kg fa j))]) (M1 := (mk_M (cT im le ln ys vt nu nn rf vw vq yc yh yg) (kr (he, ke, ki, fi, fa, or, mi, a, g, l, w, s)) m kk q)) (fun f => rfl) ?_
    refine me_ldn (xs := (fa.map nI)) rfl rfl (k := b) (by omega) (kg_ok (by omega)) ?_
    refine me_ifN (C := (nI (kg fa j)) ≤ (nI (kg fa b))) (nI_lei (a := kg fa j) (b := kg fa b) (by omega)) (fun f => rfl) (fun h1 => ?_) (fun h1 => ?_)
    · refine me_seg 1 (pc1 := 44) (ls1 := [some (.ref 117), some (.int (nI b)), some (.int ((nI j) + 1))]) (st1 := []) (M1 := (mk_M (cT im le ln ys vt nu nn rf vw vq yc yh yg) (kr (he, ke, ki, fi, fa, or, mi, a, g, l, w, s)) m kk q)) (fun f => rfl) ?_
      refine me_l (fun q_ => [some (.ref 117), some (.int (nI b)), some (.int q_)]) (nI_add j 1) ?_
      refine me_seg 1 (pc1 := 16) (ls1 := [some (.ref 117), some (.int (nI b)), some (.int (nI (j + 1)))]) (st1 := []) (M1 := (mk_M (cT im le ln ys vt nu nn rf vw vq yc yh yg) (kr (he, ke, ki, fi, fa, or, mi, a, g, l, w, s)) m kk q)) (fun f => rfl) ?_
      exact IH (j + 1) b vw vq yc yh yg m (by omega) ⟨(by assumption), j1, by assumption, by assumption, by assumption⟩ (by omega) (g1.trans (kcl_f (by omega)))
    · refine me_seg 3 (pc1 := 44) (ls1 := [some (.ref 117), some (.int (nI j)), some (.int ((nI j) + 1))]) (st1 := []) (M1 := (mk_M (cT im le ln ys vt nu nn rf vw vq yc yh yg) (kr (he, ke, ki, fi, fa, or, mi, a, g, l, w, s)) m kk q)) (fun f => rfl) ?_
      refine me_l (fun q_ => [some (.ref 117), some (.int (nI j)), some (.int q_)]) (nI_add j 1) ?_
      refine me_seg 1 (pc1 := 16) (ls1 := [some (.ref 117), some (.int (nI j)), some (.int (nI (j + 1)))]) (st1 := []) (M1 := (mk_M (cT im le ln ys vt nu nn rf vw vq yc yh yg) (kr (he, ke, ki, fi, fa, or, mi, a, g, l, w, s)) m kk q)) (fun f => rfl) ?_
      exact IH (j + 1) j vw vq yc yh yg m (by omega) ⟨(by assumption), j1, by assumption, by assumption, by assumption⟩ (by omega) (g1.trans (kcl_t (by omega)))
set_option maxRecDepth 100000 in
theorem tc_cl (he ke ki fi fa or : List Nat) (mi a g l w s : Nat) (im : Nat) (le : List Nat) (ln : Nat) (ys : List Int32) (vt : Int32) (nu : List Nat) (nn : Nat) (rf : List Nat) (kk : kG) (q : cR) (hA : iA (he, ke, ki, fi, fa, or, mi, a, g, l, w, s)) (hC : iC nu nn) (vw vq : Int32) (yc yh yg : List Int32) (m : kG) (hJ : iJ m ys yc yh yg) : mm_E 104 0 [some (.ref 117), none, none] [] (mk_M (cT im le ln ys vt nu nn rf vw vq yc yh yg) (kr (he, ke, ki, fi, fa, or, mi, a, g, l, w, s)) m kk q) (pC (fun r => r = some (.int ((if mi = 0 then (-9 : Int32) else nI (kcl fa (mi - 1) 1 0))))) (he, ke, ki, fi, fa, or, mi, a, g, l, w, s) im le ln ys vt nu nn rf kk q) := by
  obtain ⟨hV, hst⟩ := id hA
  have hst2 : s ≤ 999 := hst
  obtain ⟨v1, v2, v3, v4, v5, v6, v7, v8, v9, v10, v11, v12, v13, v14, v15, v16⟩ := id hV
  have v6l := kO_len mi v7 or v6
  obtain ⟨c1, c2, c3⟩ := id hC
  obtain ⟨j0, j1, j2, j3, j4⟩ := id hJ
  refine me_seg 2 (pc1 := 4) (ls1 := [some (.ref 117), none, none]) (st1 := [.int (nI mi)]) (M1 := (mk_M (cT im le ln ys vt nu nn rf vw vq yc yh yg) (kr (he, ke, ki, fi, fa, or, mi, a, g, l, w, s)) m kk q)) (fun f => rfl) ?_
  refine me_ifN (C := (nI mi) = 0) (nI_eqi (a := mi) (b := 0) (by omega)) (fun f => rfl) (fun h1 => ?_) (fun h1 => ?_)
  · refine me_seg 5 (pc1 := 16) (ls1 := [some (.ref 117), some (.int (-9)), some (.int 1)]) (st1 := []) (M1 := (mk_M (cT im le ln ys vt nu nn rf vw vq yc yh yg) (kr (he, ke, ki, fi, fa, or, mi, a, g, l, w, s)) m kk q)) (fun f => rfl) ?_
    refine me_seg 3 (pc1 := 21) (ls1 := [some (.ref 117), some (.int (-9)), some (.int 1)]) (st1 := [.int (nI mi), .int 1]) (M1 := (mk_M (cT im le ln ys vt nu nn rf vw vq yc yh yg) (kr (he, ke, ki, fi, fa, or, mi, a, g, l, w, s)) m kk q)) (fun f => rfl) ?_
    refine me_t (C := (nI mi) ≤ 1) (nI_let (a := mi) (b := 1) (by omega)) (fun f => rfl) ?_
    refine me_ret 2 (r := some (.int (-9))) (M1 := (mk_M (cT im le ln ys vt nu nn rf vw vq yc yh yg) (kr (he, ke, ki, fi, fa, or, mi, a, g, l, w, s)) m kk q)) (fun f => rfl) ?_
    exact ⟨(by rw [if_pos h1]), _, _, _, _, _, _, rfl, ⟨(by assumption), j1, by assumption, by assumption, by assumption⟩⟩
  · refine me_seg 4 (pc1 := 16) (ls1 := [some (.ref 117), some (.int 0), some (.int 1)]) (st1 := []) (M1 := (mk_M (cT im le ln ys vt nu nn rf vw vq yc yh yg) (kr (he, ke, ki, fi, fa, or, mi, a, g, l, w, s)) m kk q)) (fun f => rfl) ?_
    rw [show (if mi = 0 then (-9 : Int32) else nI (kcl fa (mi - 1) 1 0)) = nI (kcl fa (mi - 1) 1 0) from if_neg h1]
    exact tc_clL he ke ki fi fa or mi a g l w s im le ln ys vt nu nn rf kk q hA hC _ (mi - 1) 1 0 vw vq yc yh yg m (by omega) ⟨(by assumption), j1, by assumption, by assumption, by assumption⟩ (by omega) rfl
set_option maxRecDepth 100000 in
theorem tc_easy_0 (he ke ki fi fa or : List Nat) (mi a g l w s : Nat) (im : Nat) (le : List Nat) (ln : Nat) (ys : List Int32) (vt : Int32) (nu : List Nat) (nn : Nat) (rf : List Nat) (kk : kG) (q : cR) (hA : iA (he, ke, ki, fi, fa, or, mi, a, g, l, w, s)) (hC : iC nu nn) (vw vq : Int32) (yc yh yg : List Int32) (m : kG) (hJ : iJ m ys yc yh yg) : mm_E 101 0 [some (.ref 100), some (.int 0)] [] (mk_M (cT im le ln ys vt nu nn rf vw vq yc yh yg) (kr (he, ke, ki, fi, fa, or, mi, a, g, l, w, s)) m kk q) (pC (fun r => r = some (.int ((if mi = 0 then (0 : Int32) else kez a (fun t => if kload he ke a w t ≤ khold (kg ki (kg or 0)) (kg fi (kg or 0)) then 1 else 0) 4 0 0)))) (he, ke, ki, fi, fa, or, mi, a, g, l, w, s) im le ln ys vt nu nn rf kk q) := by
  obtain ⟨hV, hst⟩ := id hA
  have hst2 : s ≤ 999 := hst
  obtain ⟨v1, v2, v3, v4, v5, v6, v7, v8, v9, v10, v11, v12, v13, v14, v15, v16⟩ := id hV
  have v6l := kO_len mi v7 or v6
  obtain ⟨c1, c2, c3⟩ := id hC
  obtain ⟨j0, j1, j2, j3, j4⟩ := id hJ
  refine me_seg 4 (pc1 := 32) (ls1 := [some (.ref 100), some (.int 0)]) (st1 := [.ref 117]) (M1 := (mk_M (cT im le ln ys vt nu nn rf vw vq yc yh yg) (kr (he, ke, ki, fi, fa, or, mi, a, g, l, w, s)) m kk q)) (fun f => rfl) ?_
  refine me_callE (y := 102) (y0 := 35) (L := [some (.ref 117), none, none, none]) (rest := []) (fun f => rfl) (tc_ec he ke ki fi fa or mi a g l w s im le ln ys vt nu nn rf kk q hA hC vw vq yc yh yg m ⟨(by assumption), j1, by assumption, by assumption, by assumption⟩) ?_
  rintro _ _ ⟨rfl, vw_1, vq_1, yc_1, yh_1, yg_1, m_1, rfl, hJ_1⟩
  obtain ⟨j0_1, j1_1, j2_1, j3_1, j4_1⟩ := id hJ_1
  refine me_ret 1 (r := some (.int (if mi = 0 then (0 : Int32) else kez a (fun t => if kload he ke a w t ≤ khold (kg ki (kg or 0)) (kg fi (kg or 0)) then 1 else 0) 4 0 0))) (M1 := (mk_M (cT im le ln ys vt nu nn rf vw_1 vq_1 yc_1 yh_1 yg_1) (kr (he, ke, ki, fi, fa, or, mi, a, g, l, w, s)) m_1 kk q)) (fun f => rfl) ?_
  exact ⟨rfl, _, _, _, _, _, _, rfl, ⟨(by assumption), j1, by assumption, by assumption, by assumption⟩⟩
set_option maxRecDepth 100000 in
theorem tc_easy_1 (he ke ki fi fa or : List Nat) (mi a g l w s : Nat) (im : Nat) (le : List Nat) (ln : Nat) (ys : List Int32) (vt : Int32) (nu : List Nat) (nn : Nat) (rf : List Nat) (kk : kG) (q : cR) (hA : iA (he, ke, ki, fi, fa, or, mi, a, g, l, w, s)) (hC : iC nu nn) (vw vq : Int32) (yc yh yg : List Int32) (m : kG) (hJ : iJ m ys yc yh yg) : mm_E 101 0 [some (.ref 100), some (.int 1)] [] (mk_M (cT im le ln ys vt nu nn rf vw vq yc yh yg) (kr (he, ke, ki, fi, fa, or, mi, a, g, l, w, s)) m kk q) (pC (fun r => r = some (.int (kwp (fun j => if w + 13 ≤ khold (kg ki j) (kg fi j) then 1 else 0) mi 0 0))) (he, ke, ki, fi, fa, or, mi, a, g, l, w, s) im le ln ys vt nu nn rf kk q) := by
  obtain ⟨hV, hst⟩ := id hA
  have hst2 : s ≤ 999 := hst
  obtain ⟨v1, v2, v3, v4, v5, v6, v7, v8, v9, v10, v11, v12, v13, v14, v15, v16⟩ := id hV
  have v6l := kO_len mi v7 or v6
  obtain ⟨c1, c2, c3⟩ := id hC
  obtain ⟨j0, j1, j2, j3, j4⟩ := id hJ
  refine me_seg 4 (pc1 := 40) (ls1 := [some (.ref 100), some (.int 1)]) (st1 := [.ref 117]) (M1 := (mk_M (cT im le ln ys vt nu nn rf vw vq yc yh yg) (kr (he, ke, ki, fi, fa, or, mi, a, g, l, w, s)) m kk q)) (fun f => rfl) ?_
  refine me_callE (y := 103) (y0 := 43) (L := [some (.ref 117), none, none]) (rest := []) (fun f => rfl) (tc_sm he ke ki fi fa or mi a g l w s im le ln ys vt nu nn rf kk q hA hC vw vq yc yh yg m ⟨(by assumption), j1, by assumption, by assumption, by assumption⟩) ?_
  rintro _ _ ⟨rfl, vw_1, vq_1, yc_1, yh_1, yg_1, m_1, rfl, hJ_1⟩
  obtain ⟨j0_1, j1_1, j2_1, j3_1, j4_1⟩ := id hJ_1
  refine me_ret 1 (r := some (.int (kwp (fun j => if w + 13 ≤ khold (kg ki j) (kg fi j) then 1 else 0) mi 0 0))) (M1 := (mk_M (cT im le ln ys vt nu nn rf vw_1 vq_1 yc_1 yh_1 yg_1) (kr (he, ke, ki, fi, fa, or, mi, a, g, l, w, s)) m_1 kk q)) (fun f => rfl) ?_
  exact ⟨rfl, _, _, _, _, _, _, rfl, ⟨(by assumption), j1, by assumption, by assumption, by assumption⟩⟩
set_option maxRecDepth 100000 in
theorem tc_easy_2 (he ke ki fi fa or : List Nat) (mi a g l w s : Nat) (im : Nat) (le : List Nat) (ln : Nat) (ys : List Int32) (vt : Int32) (nu : List Nat) (nn : Nat) (rf : List Nat) (kk : kG) (q : cR) (hA : iA (he, ke, ki, fi, fa, or, mi, a, g, l, w, s)) (hC : iC nu nn) (vw vq : Int32) (yc yh yg : List Int32) (m : kG) (hJ : iJ m ys yc yh yg) : mm_E 101 0 [some (.ref 100), some (.int 2)] [] (mk_M (cT im le ln ys vt nu nn rf vw vq yc yh yg) (kr (he, ke, ki, fi, fa, or, mi, a, g, l, w, s)) m kk q) (pC (fun r => r = some (.int ((if mi = 0 then (-9 : Int32) else nI (kcl fa (mi - 1) 1 0))))) (he, ke, ki, fi, fa, or, mi, a, g, l, w, s) im le ln ys vt nu nn rf kk q) := by
  obtain ⟨hV, hst⟩ := id hA
  have hst2 : s ≤ 999 := hst
  obtain ⟨v1, v2, v3, v4, v5, v6, v7, v8, v9, v10, v11, v12, v13, v14, v15, v16⟩ := id hV
  have v6l := kO_len mi v7 or v6
  obtain ⟨c1, c2, c3⟩ := id hC
  obtain ⟨j0, j1, j2, j3, j4⟩ := id hJ
  refine me_seg 4 (pc1 := 48) (ls1 := [some (.ref 100), some (.int 2)]) (st1 := [.ref 117]) (M1 := (mk_M (cT im le ln ys vt nu nn rf vw vq yc yh yg) (kr (he, ke, ki, fi, fa, or, mi, a, g, l, w, s)) m kk q)) (fun f => rfl) ?_
  refine me_callE (y := 104) (y0 := 51) (L := [some (.ref 117), none, none]) (rest := []) (fun f => rfl) (tc_cl he ke ki fi fa or mi a g l w s im le ln ys vt nu nn rf kk q hA hC vw vq yc yh yg m ⟨(by assumption), j1, by assumption, by assumption, by assumption⟩) ?_
  rintro _ _ ⟨rfl, vw_1, vq_1, yc_1, yh_1, yg_1, m_1, rfl, hJ_1⟩
  obtain ⟨j0_1, j1_1, j2_1, j3_1, j4_1⟩ := id hJ_1
  refine me_ret 1 (r := some (.int (if mi = 0 then (-9 : Int32) else nI (kcl fa (mi - 1) 1 0)))) (M1 := (mk_M (cT im le ln ys vt nu nn rf vw_1 vq_1 yc_1 yh_1 yg_1) (kr (he, ke, ki, fi, fa, or, mi, a, g, l, w, s)) m_1 kk q)) (fun f => rfl) ?_
  exact ⟨rfl, _, _, _, _, _, _, rfl, ⟨(by assumption), j1, by assumption, by assumption, by assumption⟩⟩
set_option maxRecDepth 100000 in
theorem tm_ecL (he ke ki fi fa or : List Nat) (mi a g l w s : Nat) (xi : List Int32) (im : Nat) (le nu rf : List Nat) (ln nn : Nat) (c : cC) (n m kk : kG) (hA : iA (he, ke, ki, fi, fa, or, mi, a, g, l, w, s)) (hC : iC nu nn) (hm : 0 < mi) (A : Int32) (k : Nat) : ∀ (j : Nat) (v : Int32) (lo3 : Option Value) (xm xw : List Int32) (vp : Int32) (xn xc : List Int32) (vs : Int32), j + k = 4 → iR xm xw xn xc → A = kez a (fun t => if kload he ke a w t ≤ khold (kg ki (kg or 0)) (kg fi (kg or 0)) then 1 else 0) k j v → mm_E 194 4 [some (.ref 138), some (.int v), some (.int (nI j)), lo3] [] (mk_M c n m kk (rT (he, ke, ki, fi, fa, or, mi, a, g, l, w, s) xm xi xw im le nu rf ln nn vp xn xc vs)) (pM (fun r => r = some (.int (A))) (he, ke, ki, fi, fa, or, mi, a, g, l, w, s) xi im le nu rf ln nn c n m kk) := by
  obtain ⟨hV, hst⟩ := id hA
  have hst2 : s ≤ 999 := hst
  obtain ⟨v1, v2, v3, v4, v5, v6, v7, v8, v9, v10, v11, v12, v13, v14, v15, v16⟩ := id hV
  have v6l := kO_len mi v7 or v6
  obtain ⟨c1, c2, c3⟩ := id hC
  induction k with
  | zero =>
    intro j v lo3 xm xw vp xn xc vs hj hR g0
    obtain ⟨r1, r2, r3, r4⟩ := id hR
    have v60 := kO_lt5 mi v7 or v6 0 (by omega)
    have hh := khold_le (kg ki (kg or 0)) (v15 (kg or 0))
    have hlo := fun t => kload_le (a := a) (c := t) v11 v12 v13
    refine me_seg 2 (pc1 := 6) (ls1 := [some (.ref 138), some (.int v), some (.int (nI j)), lo3]) (st1 := [.int 4, .int (nI j)]) (M1 := (mk_M c n m kk (rT (he, ke, ki, fi, fa, or, mi, a, g, l, w, s) xm xi xw im le nu rf ln nn vp xn xc vs))) (fun f => rfl) ?_
    refine me_t (C := 4 ≤ (nI j)) (nI_let (a := 4) (b := j) (by omega)) (fun f => rfl) ?_
    refine me_ret 2 (r := some (.int v)) (M1 := (mk_M c n m kk (rT (he, ke, ki, fi, fa, or, mi, a, g, l, w, s) xm xi xw im le nu rf ln nn vp xn xc vs))) (fun f => rfl) ?_
    exact ⟨(by rw [g0]; rfl), _, _, _, _, _, _, rfl, ⟨(by assumption), (by assumption), (by assumption), (by assumption)⟩⟩
  | succ k IH =>
    intro j v lo3 xm xw vp xn xc vs hj hR g0
    obtain ⟨r1, r2, r3, r4⟩ := id hR
    have v60 := kO_lt5 mi v7 or v6 0 (by omega)
    have hh := khold_le (kg ki (kg or 0)) (v15 (kg or 0))
    have hlo := fun t => kload_le (a := a) (c := t) v11 v12 v13
    refine me_seg 2 (pc1 := 6) (ls1 := [some (.ref 138), some (.int v), some (.int (nI j)), lo3]) (st1 := [.int 4, .int (nI j)]) (M1 := (mk_M c n m kk (rT (he, ke, ki, fi, fa, or, mi, a, g, l, w, s) xm xi xw im le nu rf ln nn vp xn xc vs))) (fun f => rfl) ?_
    refine me_f (C := 4 ≤ (nI j)) (nI_lef (a := 4) (b := j) (by omega)) (fun f => rfl) ?_
    refine me_seg 3 (pc1 := 14) (ls1 := [some (.ref 138), some (.int v), some (.int (nI j)), lo3]) (st1 := [.int 0, .ref 139]) (M1 := (mk_M c n m kk (rT (he, ke, ki, fi, fa, or, mi, a, g, l, w, s) xm xi xw im le nu rf ln nn vp xn xc vs))) (fun f => rfl) ?_
    refine me_ldn (xs := (er (he, ke, ki, fi, fa, or, mi, a, g, l, w, s))) rfl rfl (k := 0) (by decide) rfl ?_
    refine me_f (C := (nI mi) ≤ 0) (nI_lef (a := mi) (b := 0) (by omega)) (fun f => rfl) ?_
    refine me_seg 3 (pc1 := 23) (ls1 := [some (.ref 138), some (.int v), some (.int (nI j)), lo3]) (st1 := [.int 2, .ref 139]) (M1 := (mk_M c n m kk (rT (he, ke, ki, fi, fa, or, mi, a, g, l, w, s) xm xi xw im le nu rf ln nn vp xn xc vs))) (fun f => rfl) ?_
    refine me_ldn (xs := (er (he, ke, ki, fi, fa, or, mi, a, g, l, w, s))) rfl rfl (k := 2) (by decide) rfl ?_
    refine me_seg 1 (pc1 := 25) (ls1 := [some (.ref 138), some (.int v), some (.int (nI j)), lo3]) (st1 := [.int (nI j), .int (nI a)]) (M1 := (mk_M c n m kk (rT (he, ke, ki, fi, fa, or, mi, a, g, l, w, s) xm xi xw im le nu rf ln nn vp xn xc vs))) (fun f => rfl) ?_
    refine me_call (y := 149) (y0 := 28) (L := [some (.int (nI a)), some (.int (nI j))]) (rest := []) (rr := some (.int (kI (kbey a j)))) (M1 := (mk_M c n m kk (rT (he, ke, ki, fi, fa, or, mi, a, g, l, w, s) xm xi xw im le nu rf ln nn vp xn xc vs))) (fun f => rfl) (rc_bey (c := a) (w := j) (by omega) (by omega) _) ?_
    rcases hb_1 : kbey a j with _ | t_1
    · refine me_v (show kI none = (-9 : Int32) from rfl) ?_
      refine me_seg 8 (pc1 := 71) (ls1 := [some (.ref 138), some (.int (v ||| (0 : Int32))), some (.int ((nI j) + 1)), some (.int (-9))]) (st1 := []) (M1 := (mk_M c n m kk (rT (he, ke, ki, fi, fa, or, mi, a, g, l, w, s) xm xi xw im le nu rf ln nn vp xn xc vs))) (fun f => rfl) ?_
      refine me_l (fun q_ => [some (.ref 138), some (.int (v ||| (0 : Int32))), some (.int q_), some (.int (-9))]) (nI_add j 1) ?_
      refine me_seg 1 (pc1 := 4) (ls1 := [some (.ref 138), some (.int (v ||| (0 : Int32))), some (.int (nI (j + 1))), some (.int (-9))]) (st1 := []) (M1 := (mk_M c n m kk (rT (he, ke, ki, fi, fa, or, mi, a, g, l, w, s) xm xi xw im le nu rf ln nn vp xn xc vs))) (fun f => rfl) ?_
      exact IH (j + 1) (v ||| (0 : Int32)) (some (.int (-9))) xm xw vp xn xc vs (by omega) ⟨(by assumption), (by assumption), (by assumption), (by assumption)⟩ (g0.trans ((kez_n hb_1).trans (by rw [kor0])))
    · have ht_1 := kbey_lt (by omega) hb_1
      refine me_v (show kI (some t_1) = nI t_1 from rfl) ?_
      have hlo_t_1 := hlo t_1
      refine me_seg 3 (pc1 := 31) (ls1 := [some (.ref 138), some (.int v), some (.int (nI j)), some (.int (nI t_1))]) (st1 := [.int (nI t_1), .int v]) (M1 := (mk_M c n m kk (rT (he, ke, ki, fi, fa, or, mi, a, g, l, w, s) xm xi xw im le nu rf ln nn vp xn xc vs))) (fun f => rfl) ?_
      refine me_f (C := (nI t_1) < 0) (nI_pos (by omega)) (fun f => rfl) ?_
      refine me_seg 3 (pc1 := 39) (ls1 := [some (.ref 138), some (.int v), some (.int (nI j)), some (.int (nI t_1))]) (st1 := [.int (nI t_1), .ref 139, .int v]) (M1 := (mk_M c n m kk (rT (he, ke, ki, fi, fa, or, mi, a, g, l, w, s) xm xi xw im le nu rf ln nn vp xn xc vs))) (fun f => rfl) ?_
      refine me_call (y := 150) (y0 := 42) (L := [some (.ref 139), some (.int (nI t_1)), none]) (rest := [.int v]) (rr := some (.int (nI (kload he ke a w t_1)))) (M1 := (mk_M c n m kk (rT (he, ke, ki, fi, fa, or, mi, a, g, l, w, s) xm xi xw im le nu rf ln nn vp xn xc vs))) (fun f => rfl) (rl_s c n m kk (rT (he, ke, ki, fi, fa, or, mi, a, g, l, w, s) xm xi xw im le nu rf ln nn vp xn xc vs) (rc_load_s he ke ki fi fa or mi a g l w s t_1 (by omega) hV) rfl) ?_
      refine me_seg 5 (pc1 := 52) (ls1 := [some (.ref 138), some (.int v), some (.int (nI j)), some (.int (nI t_1))]) (st1 := [.int 47, .ref 139, .ref 139, .int (nI (kload he ke a w t_1)), .int v]) (M1 := (mk_M c n m kk (rT (he, ke, ki, fi, fa, or, mi, a, g, l, w, s) xm xi xw im le nu rf ln nn vp xn xc vs))) (fun f => rfl) ?_
      refine me_ldn (xs := (er (he, ke, ki, fi, fa, or, mi, a, g, l, w, s))) rfl rfl (k := 47) (by decide) (er_or (K := (he, ke, ki, fi, fa, or, mi, a, g, l, w, s)) v1 v6l (j := 0) (by decide)) ?_
      refine me_call (y := 152) (y0 := 56) (L := [some (.ref 139), some (.int (nI (kg or 0)))]) (rest := [.int (nI (kload he ke a w t_1)), .int v]) (rr := some (.int (nI (khold (kg ki (kg or 0)) (kg fi (kg or 0)))))) (M1 := (mk_M c n m kk (rT (he, ke, ki, fi, fa, or, mi, a, g, l, w, s) xm xi xw im le nu rf ln nn vp xn xc vs))) (fun f => rfl) (rl_s c n m kk (rT (he, ke, ki, fi, fa, or, mi, a, g, l, w, s) xm xi xw im le nu rf ln nn vp xn xc vs) (rc_hold_s he ke ki fi fa or mi a g l w s (kg or 0) (by omega) hV) rfl) ?_
      refine me_ifN (C := (nI (khold (kg ki (kg or 0)) (kg fi (kg or 0)))) < (nI (kload he ke a w t_1))) (nI_lti (a := khold (kg ki (kg or 0)) (kg fi (kg or 0))) (b := kload he ke a w t_1) (by omega)) (fun f => rfl) (fun h2 => ?_) (fun h2 => ?_)
      · refine me_seg 4 (pc1 := 71) (ls1 := [some (.ref 138), some (.int (v ||| (0 : Int32))), some (.int ((nI j) + 1)), some (.int (nI t_1))]) (st1 := []) (M1 := (mk_M c n m kk (rT (he, ke, ki, fi, fa, or, mi, a, g, l, w, s) xm xi xw im le nu rf ln nn vp xn xc vs))) (fun f => rfl) ?_
        refine me_l (fun q_ => [some (.ref 138), some (.int (v ||| (0 : Int32))), some (.int q_), some (.int (nI t_1))]) (nI_add j 1) ?_
        refine me_seg 1 (pc1 := 4) (ls1 := [some (.ref 138), some (.int (v ||| (0 : Int32))), some (.int (nI (j + 1))), some (.int (nI t_1))]) (st1 := []) (M1 := (mk_M c n m kk (rT (he, ke, ki, fi, fa, or, mi, a, g, l, w, s) xm xi xw im le nu rf ln nn vp xn xc vs))) (fun f => rfl) ?_
        exact IH (j + 1) (v ||| (0 : Int32)) (some (.int (nI t_1))) xm xw vp xn xc vs (by omega) ⟨(by assumption), (by assumption), (by assumption), (by assumption)⟩ (g0.trans ((kez_f (P := (fun t => if kload he ke a w t ≤ khold (kg ki (kg or 0)) (kg fi (kg or 0)) then 1 else 0)) hb_1 (k_if0 (by omega))).trans (by rw [kor0])))
      · refine me_seg 7 (pc1 := 71) (ls1 := [some (.ref 138), some (.int (v ||| ((1 : Int32) <<< ((nI t_1) &&& 31)))), some (.int ((nI j) + 1)), some (.int (nI t_1))]) (st1 := []) (M1 := (mk_M c n m kk (rT (he, ke, ki, fi, fa, or, mi, a, g, l, w, s) xm xi xw im le nu rf ln nn vp xn xc vs))) (fun f => rfl) ?_
        refine me_l (fun q_ => [some (.ref 138), some (.int (v ||| ((1 : Int32) <<< ((nI t_1) &&& 31)))), some (.int q_), some (.int (nI t_1))]) (nI_add j 1) ?_
        refine me_seg 1 (pc1 := 4) (ls1 := [some (.ref 138), some (.int (v ||| ((1 : Int32) <<< ((nI t_1) &&& 31)))), some (.int (nI (j + 1))), some (.int (nI t_1))]) (st1 := []) (M1 := (mk_M c n m kk (rT (he, ke, ki, fi, fa, or, mi, a, g, l, w, s) xm xi xw im le nu rf ln nn vp xn xc vs))) (fun f => rfl) ?_
        exact IH (j + 1) (v ||| ((1 : Int32) <<< ((nI t_1) &&& 31))) (some (.int (nI t_1))) xm xw vp xn xc vs (by omega) ⟨(by assumption), (by assumption), (by assumption), (by assumption)⟩ (g0.trans (kez_y (P := (fun t => if kload he ke a w t ≤ khold (kg ki (kg or 0)) (kg fi (kg or 0)) then 1 else 0)) hb_1 (k_if1 (by omega))))
set_option maxRecDepth 100000 in
theorem tm_ec (he ke ki fi fa or : List Nat) (mi a g l w s : Nat) (xi : List Int32) (im : Nat) (le nu rf : List Nat) (ln nn : Nat) (c : cC) (n m kk : kG) (hA : iA (he, ke, ki, fi, fa, or, mi, a, g, l, w, s)) (hC : iC nu nn) (xm xw : List Int32) (vp : Int32) (xn xc : List Int32) (vs : Int32) (hR : iR xm xw xn xc) : mm_E 194 0 [some (.ref 138), none, none, none] [] (mk_M c n m kk (rT (he, ke, ki, fi, fa, or, mi, a, g, l, w, s) xm xi xw im le nu rf ln nn vp xn xc vs)) (pM (fun r => r = some (.int ((if mi = 0 then (0 : Int32) else kez a (fun t => if kload he ke a w t ≤ khold (kg ki (kg or 0)) (kg fi (kg or 0)) then 1 else 0) 4 0 0)))) (he, ke, ki, fi, fa, or, mi, a, g, l, w, s) xi im le nu rf ln nn c n m kk) := by
  obtain ⟨hV, hst⟩ := id hA
  have hst2 : s ≤ 999 := hst
  obtain ⟨v1, v2, v3, v4, v5, v6, v7, v8, v9, v10, v11, v12, v13, v14, v15, v16⟩ := id hV
  have v6l := kO_len mi v7 or v6
  obtain ⟨c1, c2, c3⟩ := id hC
  obtain ⟨r1, r2, r3, r4⟩ := id hR
  refine me_seg 4 (pc1 := 4) (ls1 := [some (.ref 138), some (.int 0), some (.int 0), none]) (st1 := []) (M1 := (mk_M c n m kk (rT (he, ke, ki, fi, fa, or, mi, a, g, l, w, s) xm xi xw im le nu rf ln nn vp xn xc vs))) (fun f => rfl) ?_
  rcases Nat.eq_zero_or_pos mi with h0 | h0
  · refine me_seg 6 (pc1 := 14) (ls1 := [some (.ref 138), some (.int 0), some (.int 0), none]) (st1 := [.int 0, .ref 139]) (M1 := (mk_M c n m kk (rT (he, ke, ki, fi, fa, or, mi, a, g, l, w, s) xm xi xw im le nu rf ln nn vp xn xc vs))) (fun f => rfl) ?_
    refine me_ldn (xs := (er (he, ke, ki, fi, fa, or, mi, a, g, l, w, s))) rfl rfl (k := 0) (by decide) rfl ?_
    refine me_t (C := (nI mi) ≤ 0) (nI_let (a := mi) (b := 0) (by omega)) (fun f => rfl) ?_
    refine me_ret 2 (r := some (.int 0)) (M1 := (mk_M c n m kk (rT (he, ke, ki, fi, fa, or, mi, a, g, l, w, s) xm xi xw im le nu rf ln nn vp xn xc vs))) (fun f => rfl) ?_
    exact ⟨(by rw [if_pos h0]), _, _, _, _, _, _, rfl, ⟨(by assumption), (by assumption), (by assumption), (by assumption)⟩⟩
  · exact tm_ecL he ke ki fi fa or mi a g l w s xi im le nu rf ln nn c n m kk hA hC h0 _ 4 0 0 none xm xw vp xn xc vs (by omega) ⟨(by assumption), (by assumption), (by assumption), (by assumption)⟩ (if_neg (by omega))
set_option maxRecDepth 100000 in
theorem tm_easyL0 (he ke ki fi fa or : List Nat) (mi a g l w s : Nat) (xi : List Int32) (im : Nat) (le nu rf : List Nat) (ln nn : Nat) (c : cC) (n m kk : kG) (hA : iA (he, ke, ki, fi, fa, or, mi, a, g, l, w, s)) (hC : iC nu nn) (hm : 0 < mi) (A1 : Int32) (A2 : Nat) (hA2 : A2 = kcl fa (mi - 1) 1 0) (k : Nat) : ∀ (j : Nat) (v : Int32) (b : Nat) (xm xw : List Int32) (vp : Int32) (xn xc : List Int32) (vs : Int32), j + k = mi → iR xm xw xn xc → b < mi → A1 = kwp (fun j => if w + 13 ≤ khold (kg ki j) (kg fi j) then 1 else 0) k j v → A2 = kcl fa k j b → mm_E 193 24 [some (.ref 138), some (.int 0), some (.int v), some (.int (nI b)), some (.int (nI j))] [] (mk_M c n m kk (rT (he, ke, ki, fi, fa, or, mi, a, g, l, w, s) xm xi xw im le nu rf ln nn vp xn xc vs)) (pM (fun r => r = some (.int ((if mi = 0 then (0 : Int32) else kez a (fun t => if kload he ke a w t ≤ khold (kg ki (kg or 0)) (kg fi (kg or 0)) then 1 else 0) 4 0 0)))) (he, ke, ki, fi, fa, or, mi, a, g, l, w, s) xi im le nu rf ln nn c n m kk) := by
  obtain ⟨hV, hst⟩ := id hA
  have hst2 : s ≤ 999 := hst
  obtain ⟨v1, v2, v3, v4, v5, v6, v7, v8, v9, v10, v11, v12, v13, v14, v15, v16⟩ := id hV
  have v6l := kO_len mi v7 or v6
  obtain ⟨c1, c2, c3⟩ := id hC
  induction k with
  | zero =>
    intro j v b xm xw vp xn xc vs hj hR g0 g1 g2
    obtain ⟨r1, r2, r3, r4⟩ := id hR
    have hh := khold_le (kg ki j) (v15 j)
    have f1 := v16 b
    have f2 := v16 j
    refine me_seg 4 (pc1 := 31) (ls1 := [some (.ref 138), some (.int 0), some (.int v), some (.int (nI b)), some (.int (nI j))]) (st1 := [.int 0, .ref 139, .int (nI j)]) (M1 := (mk_M c n m kk (rT (he, ke, ki, fi, fa, or, mi, a, g, l, w, s) xm xi xw im le nu rf ln nn vp xn xc vs))) (fun f => rfl) ?_
    refine me_ldn (xs := (er (he, ke, ki, fi, fa, or, mi, a, g, l, w, s))) rfl rfl (k := 0) (by decide) rfl ?_
    refine me_t (C := (nI mi) ≤ (nI j)) (nI_let (a := mi) (b := j) (by omega)) (fun f => rfl) ?_
    refine me_seg 3 (pc1 := 109) (ls1 := [some (.ref 138), some (.int 0), some (.int v), some (.int (nI b)), some (.int (nI j))]) (st1 := [.ref 138]) (M1 := (mk_M c n m kk (rT (he, ke, ki, fi, fa, or, mi, a, g, l, w, s) xm xi xw im le nu rf ln nn vp xn xc vs))) (fun f => rfl) ?_
    refine me_callE (y := 194) (y0 := 112) (L := [some (.ref 138), none, none, none]) (rest := []) (fun f => rfl) (tm_ec he ke ki fi fa or mi a g l w s xi im le nu rf ln nn c n m kk hA hC xm xw vp xn xc vs ⟨(by assumption), (by assumption), (by assumption), (by assumption)⟩) ?_
    rintro _ _ ⟨rfl, xm_1, xw_1, vp_1, xn_1, xc_1, vs_1, rfl, hR_1⟩
    obtain ⟨r1_1, r2_1, r3_1, r4_1⟩ := id hR_1
    refine me_ret 2 (r := some (.int (if mi = 0 then (0 : Int32) else kez a (fun t => if kload he ke a w t ≤ khold (kg ki (kg or 0)) (kg fi (kg or 0)) then 1 else 0) 4 0 0))) (M1 := (mk_M c n m kk (rT (he, ke, ki, fi, fa, or, mi, a, g, l, w, s) xm_1 xi xw_1 im le nu rf ln nn vp_1 xn_1 xc_1 vs_1))) (fun f => rfl) ?_
    exact ⟨rfl, _, _, _, _, _, _, rfl, ⟨(by assumption), (by assumption), (by assumption), (by assumption)⟩⟩
  | succ k IH =>
    intro j v b xm xw vp xn xc vs hj hR g0 g1 g2
    obtain ⟨r1, r2, r3, r4⟩ := id hR
    have hh := khold_le (kg ki j) (v15 j)
    have f1 := v16 b
    have f2 := v16 j
    refine me_seg 4 (pc1 := 31) (ls1 := [some (.ref 138), some (.int 0), some (.int v), some (.int (nI b)), some (.int (nI j))]) (st1 := [.int 0, .ref 139, .int (nI j)]) (M1 := (mk_M c n m kk (rT (he, ke, ki, fi, fa, or, mi, a, g, l, w, s) xm xi xw im le nu rf ln nn vp xn xc vs))) (fun f => rfl) ?_
    refine me_ldn (xs := (er (he, ke, ki, fi, fa, or, mi, a, g, l, w, s))) rfl rfl (k := 0) (by decide) rfl ?_
    refine me_f (C := (nI mi) ≤ (nI j)) (nI_lef (a := mi) (b := j) (by omega)) (fun f => rfl) ?_
    refine me_seg 4 (pc1 := 42) (ls1 := [some (.ref 138), some (.int 0), some (.int v), some (.int (nI b)), some (.int (nI j))]) (st1 := [.int (nI j), .ref 139, .int v]) (M1 := (mk_M c n m kk (rT (he, ke, ki, fi, fa, or, mi, a, g, l, w, s) xm xi xw im le nu rf ln nn vp xn xc vs))) (fun f => rfl) ?_
    refine me_call (y := 152) (y0 := 45) (L := [some (.ref 139), some (.int (nI j))]) (rest := [.int v]) (rr := some (.int (nI (khold (kg ki j) (kg fi j))))) (M1 := (mk_M c n m kk (rT (he, ke, ki, fi, fa, or, mi, a, g, l, w, s) xm xi xw im le nu rf ln nn vp xn xc vs))) (fun f => rfl) (rl_s c n m kk (rT (he, ke, ki, fi, fa, or, mi, a, g, l, w, s) xm xi xw im le nu rf ln nn vp xn xc vs) (rc_hold_s he ke ki fi fa or mi a g l w s j (by omega) hV) rfl) ?_
    refine me_seg 3 (pc1 := 50) (ls1 := [some (.ref 138), some (.int 0), some (.int v), some (.int (nI b)), some (.int (nI j))]) (st1 := [.int 5, .ref 139, .int (nI (khold (kg ki j) (kg fi j))), .int v]) (M1 := (mk_M c n m kk (rT (he, ke, ki, fi, fa, or, mi, a, g, l, w, s) xm xi xw im le nu rf ln nn vp xn xc vs))) (fun f => rfl) ?_
    refine me_ldn (xs := (er (he, ke, ki, fi, fa, or, mi, a, g, l, w, s))) rfl rfl (k := 5) (by decide) rfl ?_
    refine me_seg 2 (pc1 := 54) (ls1 := [some (.ref 138), some (.int 0), some (.int v), some (.int (nI b)), some (.int (nI j))]) (st1 := [.int ((nI w) + (13 : Int32)), .int (nI (khold (kg ki j) (kg fi j))), .int v]) (M1 := (mk_M c n m kk (rT (he, ke, ki, fi, fa, or, mi, a, g, l, w, s) xm xi xw im le nu rf ln nn vp xn xc vs))) (fun f => rfl) ?_
    refine me_v (nI_add w 13) ?_
    refine me_ifN (C := (nI (khold (kg ki j) (kg fi j))) < (nI (w + 13))) (nI_lti (a := khold (kg ki j) (kg fi j)) (b := w + 13) (by omega)) (fun f => rfl) (fun h1 => ?_) (fun h1 => ?_)
    · refine me_seg 4 (pc1 := 68) (ls1 := [some (.ref 138), some (.int 0), some (.int (v ||| (0 : Int32))), some (.int (nI b)), some (.int (nI j))]) (st1 := [.int (nI b)]) (M1 := (mk_M c n m kk (rT (he, ke, ki, fi, fa, or, mi, a, g, l, w, s) xm xi xw im le nu rf ln nn vp xn xc vs))) (fun f => rfl) ?_
      refine me_f (C := (nI b) < 0) (nI_ltf (a := b) (b := 0) (by omega)) (fun f => rfl) ?_
      refine me_seg 4 (pc1 := 78) (ls1 := [some (.ref 138), some (.int 0), some (.int (v ||| (0 : Int32))), some (.int (nI b)), some (.int (nI j))]) (st1 := [.int 2, .int (nI j), .ref 139]) (M1 := (mk_M c n m kk (rT (he, ke, ki, fi, fa, or, mi, a, g, l, w, s) xm xi xw im le nu rf ln nn vp xn xc vs))) (fun f => rfl) ?_
      refine me_call (y := 141) (y0 := 81) (L := [some (.int (nI j)), some (.int 2)]) (rest := [.ref 139]) (rr := some (.int (nI (32 + 3 * j + 2)))) (M1 := (mk_M c n m kk (rT (he, ke, ki, fi, fa, or, mi, a, g, l, w, s) xm xi xw im le nu rf ln nn vp xn xc vs))) (fun f => rfl) (rc_of j 2 (by omega) (by decide) _) ?_
      refine me_ldn (xs := (er (he, ke, ki, fi, fa, or, mi, a, g, l, w, s))) rfl rfl (k := 32 + 3 * j + 2) (by omega) (er_fa (K := (he, ke, ki, fi, fa, or, mi, a, g, l, w, s)) v1 (by omega)) ?_
      refine me_seg 4 (pc1 := 88) (ls1 := [some (.ref 138), some (.int 0), some (.int (v ||| (0 : Int32))), some (.int (nI b)), some (.int (nI j))]) (st1 := [.int 2, .int (nI b), .ref 139, .int (nI (kg fa j))]) (M1 := (mk_M c n m kk (rT (he, ke, ki, fi, fa, or, mi, a, g, l, w, s) xm xi xw im le nu rf ln nn vp xn xc vs))) (fun f => rfl) ?_
      refine me_call (y := 141) (y0 := 91) (L := [some (.int (nI b)), some (.int 2)]) (rest := [.ref 139, .int (nI (kg fa j))]) (rr := some (.int (nI (32 + 3 * b + 2)))) (M1 := (mk_M c n m kk (rT (he, ke, ki, fi, fa, or, mi, a, g, l, w, s) xm xi xw im le nu rf ln nn vp xn xc vs))) (fun f => rfl) (rc_of b 2 (by omega) (by decide) _) ?_
      refine me_ldn (xs := (er (he, ke, ki, fi, fa, or, mi, a, g, l, w, s))) rfl rfl (k := 32 + 3 * b + 2) (by omega) (er_fa (K := (he, ke, ki, fi, fa, or, mi, a, g, l, w, s)) v1 (by omega)) ?_
      refine me_ifN (C := (nI (kg fa j)) ≤ (nI (kg fa b))) (nI_lei (a := kg fa j) (b := kg fa b) (by omega)) (fun f => rfl) (fun h2 => ?_) (fun h2 => ?_)
      · refine me_seg 1 (pc1 := 101) (ls1 := [some (.ref 138), some (.int 0), some (.int (v ||| (0 : Int32))), some (.int (nI b)), some (.int ((nI j) + 1))]) (st1 := []) (M1 := (mk_M c n m kk (rT (he, ke, ki, fi, fa, or, mi, a, g, l, w, s) xm xi xw im le nu rf ln nn vp xn xc vs))) (fun f => rfl) ?_
        refine me_l (fun q_ => [some (.ref 138), some (.int 0), some (.int (v ||| (0 : Int32))), some (.int (nI b)), some (.int q_)]) (nI_add j 1) ?_
        refine me_seg 1 (pc1 := 24) (ls1 := [some (.ref 138), some (.int 0), some (.int (v ||| (0 : Int32))), some (.int (nI b)), some (.int (nI (j + 1)))]) (st1 := []) (M1 := (mk_M c n m kk (rT (he, ke, ki, fi, fa, or, mi, a, g, l, w, s) xm xi xw im le nu rf ln nn vp xn xc vs))) (fun f => rfl) ?_
        exact IH (j + 1) (v ||| (0 : Int32)) b xm xw vp xn xc vs (by omega) ⟨(by assumption), (by assumption), (by assumption), (by assumption)⟩ (by omega) (g1.trans ((kwp_0 (F := (fun j => if w + 13 ≤ khold (kg ki j) (kg fi j) then 1 else 0)) (j := j) (k_if0 (by omega))).trans (by rw [kor0]))) (g2.trans (kcl_f (by omega)))
      · refine me_seg 3 (pc1 := 101) (ls1 := [some (.ref 138), some (.int 0), some (.int (v ||| (0 : Int32))), some (.int (nI j)), some (.int ((nI j) + 1))]) (st1 := []) (M1 := (mk_M c n m kk (rT (he, ke, ki, fi, fa, or, mi, a, g, l, w, s) xm xi xw im le nu rf ln nn vp xn xc vs))) (fun f => rfl) ?_
        refine me_l (fun q_ => [some (.ref 138), some (.int 0), some (.int (v ||| (0 : Int32))), some (.int (nI j)), some (.int q_)]) (nI_add j 1) ?_
        refine me_seg 1 (pc1 := 24) (ls1 := [some (.ref 138), some (.int 0), some (.int (v ||| (0 : Int32))), some (.int (nI j)), some (.int (nI (j + 1)))]) (st1 := []) (M1 := (mk_M c n m kk (rT (he, ke, ki, fi, fa, or, mi, a, g, l, w, s) xm xi xw im le nu rf ln nn vp xn xc vs))) (fun f => rfl) ?_
        exact IH (j + 1) (v ||| (0 : Int32)) j xm xw vp xn xc vs (by omega) ⟨(by assumption), (by assumption), (by assumption), (by assumption)⟩ (by omega) (g1.trans ((kwp_0 (F := (fun j => if w + 13 ≤ khold (kg ki j) (kg fi j) then 1 else 0)) (j := j) (k_if0 (by omega))).trans (by rw [kor0]))) (g2.trans (kcl_t (by omega)))
    · refine me_seg 7 (pc1 := 68) (ls1 := [some (.ref 138), some (.int 0), some (.int (v ||| ((1 : Int32) <<< ((nI j) &&& 31)))), some (.int (nI b)), some (.int (nI j))]) (st1 := [.int (nI b)]) (M1 := (mk_M c n m kk (rT (he, ke, ki, fi, fa, or, mi, a, g, l, w, s) xm xi xw im le nu rf ln nn vp xn xc vs))) (fun f => rfl) ?_
      refine me_f (C := (nI b) < 0) (nI_ltf (a := b) (b := 0) (by omega)) (fun f => rfl) ?_
      refine me_seg 4 (pc1 := 78) (ls1 := [some (.ref 138), some (.int 0), some (.int (v ||| ((1 : Int32) <<< ((nI j) &&& 31)))), some (.int (nI b)), some (.int (nI j))]) (st1 := [.int 2, .int (nI j), .ref 139]) (M1 := (mk_M c n m kk (rT (he, ke, ki, fi, fa, or, mi, a, g, l, w, s) xm xi xw im le nu rf ln nn vp xn xc vs))) (fun f => rfl) ?_
      refine me_call (y := 141) (y0 := 81) (L := [some (.int (nI j)), some (.int 2)]) (rest := [.ref 139]) (rr := some (.int (nI (32 + 3 * j + 2)))) (M1 := (mk_M c n m kk (rT (he, ke, ki, fi, fa, or, mi, a, g, l, w, s) xm xi xw im le nu rf ln nn vp xn xc vs))) (fun f => rfl) (rc_of j 2 (by omega) (by decide) _) ?_
      refine me_ldn (xs := (er (he, ke, ki, fi, fa, or, mi, a, g, l, w, s))) rfl rfl (k := 32 + 3 * j + 2) (by omega) (er_fa (K := (he, ke, ki, fi, fa, or, mi, a, g, l, w, s)) v1 (by omega)) ?_
      refine me_seg 4 (pc1 := 88) (ls1 := [some (.ref 138), some (.int 0), some (.int (v ||| ((1 : Int32) <<< ((nI j) &&& 31)))), some (.int (nI b)), some (.int (nI j))]) (st1 := [.int 2, .int (nI b), .ref 139, .int (nI (kg fa j))]) (M1 := (mk_M c n m kk (rT (he, ke, ki, fi, fa, or, mi, a, g, l, w, s) xm xi xw im le nu rf ln nn vp xn xc vs))) (fun f => rfl) ?_
      refine me_call (y := 141) (y0 := 91) (L := [some (.int (nI b)), some (.int 2)]) (rest := [.ref 139, .int (nI (kg fa j))]) (rr := some (.int (nI (32 + 3 * b + 2)))) (M1 := (mk_M c n m kk (rT (he, ke, ki, fi, fa, or, mi, a, g, l, w, s) xm xi xw im le nu rf ln nn vp xn xc vs))) (fun f => rfl) (rc_of b 2 (by omega) (by decide) _) ?_
      refine me_ldn (xs := (er (he, ke, ki, fi, fa, or, mi, a, g, l, w, s))) rfl rfl (k := 32 + 3 * b + 2) (by omega) (er_fa (K := (he, ke, ki, fi, fa, or, mi, a, g, l, w, s)) v1 (by omega)) ?_
      refine me_ifN (C := (nI (kg fa j)) ≤ (nI (kg fa b))) (nI_lei (a := kg fa j) (b := kg fa b) (by omega)) (fun f => rfl) (fun h3 => ?_) (fun h3 => ?_)
      · refine me_seg 1 (pc1 := 101) (ls1 := [some (.ref 138), some (.int 0), some (.int (v ||| ((1 : Int32) <<< ((nI j) &&& 31)))), some (.int (nI b)), some (.int ((nI j) + 1))]) (st1 := []) (M1 := (mk_M c n m kk (rT (he, ke, ki, fi, fa, or, mi, a, g, l, w, s) xm xi xw im le nu rf ln nn vp xn xc vs))) (fun f => rfl) ?_
        refine me_l (fun q_ => [some (.ref 138), some (.int 0), some (.int (v ||| ((1 : Int32) <<< ((nI j) &&& 31)))), some (.int (nI b)), some (.int q_)]) (nI_add j 1) ?_
        refine me_seg 1 (pc1 := 24) (ls1 := [some (.ref 138), some (.int 0), some (.int (v ||| ((1 : Int32) <<< ((nI j) &&& 31)))), some (.int (nI b)), some (.int (nI (j + 1)))]) (st1 := []) (M1 := (mk_M c n m kk (rT (he, ke, ki, fi, fa, or, mi, a, g, l, w, s) xm xi xw im le nu rf ln nn vp xn xc vs))) (fun f => rfl) ?_
        exact IH (j + 1) (v ||| ((1 : Int32) <<< ((nI j) &&& 31))) b xm xw vp xn xc vs (by omega) ⟨(by assumption), (by assumption), (by assumption), (by assumption)⟩ (by omega) (g1.trans (kwp_1 (F := (fun j => if w + 13 ≤ khold (kg ki j) (kg fi j) then 1 else 0)) (j := j) (k_if1 (by omega)))) (g2.trans (kcl_f (by omega)))
      · refine me_seg 3 (pc1 := 101) (ls1 := [some (.ref 138), some (.int 0), some (.int (v ||| ((1 : Int32) <<< ((nI j) &&& 31)))), some (.int (nI j)), some (.int ((nI j) + 1))]) (st1 := []) (M1 := (mk_M c n m kk (rT (he, ke, ki, fi, fa, or, mi, a, g, l, w, s) xm xi xw im le nu rf ln nn vp xn xc vs))) (fun f => rfl) ?_
        refine me_l (fun q_ => [some (.ref 138), some (.int 0), some (.int (v ||| ((1 : Int32) <<< ((nI j) &&& 31)))), some (.int (nI j)), some (.int q_)]) (nI_add j 1) ?_
        refine me_seg 1 (pc1 := 24) (ls1 := [some (.ref 138), some (.int 0), some (.int (v ||| ((1 : Int32) <<< ((nI j) &&& 31)))), some (.int (nI j)), some (.int (nI (j + 1)))]) (st1 := []) (M1 := (mk_M c n m kk (rT (he, ke, ki, fi, fa, or, mi, a, g, l, w, s) xm xi xw im le nu rf ln nn vp xn xc vs))) (fun f => rfl) ?_
        exact IH (j + 1) (v ||| ((1 : Int32) <<< ((nI j) &&& 31))) j xm xw vp xn xc vs (by omega) ⟨(by assumption), (by assumption), (by assumption), (by assumption)⟩ (by omega) (g1.trans (kwp_1 (F := (fun j => if w + 13 ≤ khold (kg ki j) (kg fi j) then 1 else 0)) (j := j) (k_if1 (by omega)))) (g2.trans (kcl_t (by omega)))
set_option maxRecDepth 100000 in
theorem tm_easy_0 (he ke ki fi fa or : List Nat) (mi a g l w s : Nat) (xi : List Int32) (im : Nat) (le nu rf : List Nat) (ln nn : Nat) (c : cC) (n m kk : kG) (hA : iA (he, ke, ki, fi, fa, or, mi, a, g, l, w, s)) (hC : iC nu nn) (xm xw : List Int32) (vp : Int32) (xn xc : List Int32) (vs : Int32) (hR : iR xm xw xn xc) : mm_E 193 0 [some (.ref 138), some (.int 0), none, none, none] [] (mk_M c n m kk (rT (he, ke, ki, fi, fa, or, mi, a, g, l, w, s) xm xi xw im le nu rf ln nn vp xn xc vs)) (pM (fun r => r = some (.int ((if mi = 0 then (0 : Int32) else kez a (fun t => if kload he ke a w t ≤ khold (kg ki (kg or 0)) (kg fi (kg or 0)) then 1 else 0) 4 0 0)))) (he, ke, ki, fi, fa, or, mi, a, g, l, w, s) xi im le nu rf ln nn c n m kk) := by
  obtain ⟨hV, hst⟩ := id hA
  have hst2 : s ≤ 999 := hst
  obtain ⟨v1, v2, v3, v4, v5, v6, v7, v8, v9, v10, v11, v12, v13, v14, v15, v16⟩ := id hV
  have v6l := kO_len mi v7 or v6
  obtain ⟨c1, c2, c3⟩ := id hC
  obtain ⟨r1, r2, r3, r4⟩ := id hR
  refine me_seg 3 (pc1 := 3) (ls1 := [some (.ref 138), some (.int 0), none, none, none]) (st1 := [.int 2, .int 0, .int 0]) (M1 := (mk_M c n m kk (rT (he, ke, ki, fi, fa, or, mi, a, g, l, w, s) xm xi xw im le nu rf ln nn vp xn xc vs))) (fun f => rfl) ?_
  refine me_call (y := 135) (y0 := 6) (L := [some (.int 0), some (.int 0), some (.int 2)]) (rest := []) (rr := some (.int 1)) (M1 := (mk_M c n m kk (rT (he, ke, ki, fi, fa, or, mi, a, g, l, w, s) xm xi xw im le nu rf ln nn vp xn xc vs))) (fun f => rfl) (by
      exact mr_ret 9 (fun f => rfl)) ?_
  refine me_seg 7 (pc1 := 24) (ls1 := [some (.ref 138), some (.int 0), some (.int 0), some (.int (-9)), some (.int 0)]) (st1 := []) (M1 := (mk_M c n m kk (rT (he, ke, ki, fi, fa, or, mi, a, g, l, w, s) xm xi xw im le nu rf ln nn vp xn xc vs))) (fun f => rfl) ?_
  rcases Nat.eq_zero_or_pos mi with h0 | h0
  · refine me_seg 4 (pc1 := 31) (ls1 := [some (.ref 138), some (.int 0), some (.int 0), some (.int (-9)), some (.int 0)]) (st1 := [.int 0, .ref 139, .int 0]) (M1 := (mk_M c n m kk (rT (he, ke, ki, fi, fa, or, mi, a, g, l, w, s) xm xi xw im le nu rf ln nn vp xn xc vs))) (fun f => rfl) ?_
    refine me_ldn (xs := (er (he, ke, ki, fi, fa, or, mi, a, g, l, w, s))) rfl rfl (k := 0) (by decide) rfl ?_
    refine me_t (C := (nI mi) ≤ 0) (nI_let (a := mi) (b := 0) (by omega)) (fun f => rfl) ?_
    refine me_seg 3 (pc1 := 109) (ls1 := [some (.ref 138), some (.int 0), some (.int 0), some (.int (-9)), some (.int 0)]) (st1 := [.ref 138]) (M1 := (mk_M c n m kk (rT (he, ke, ki, fi, fa, or, mi, a, g, l, w, s) xm xi xw im le nu rf ln nn vp xn xc vs))) (fun f => rfl) ?_
    refine me_callE (y := 194) (y0 := 112) (L := [some (.ref 138), none, none, none]) (rest := []) (fun f => rfl) (tm_ec he ke ki fi fa or mi a g l w s xi im le nu rf ln nn c n m kk hA hC xm xw vp xn xc vs ⟨(by assumption), (by assumption), (by assumption), (by assumption)⟩) ?_
    rintro _ _ ⟨rfl, xm_51, xw_51, vp_51, xn_51, xc_51, vs_51, rfl, hR_51⟩
    obtain ⟨r1_51, r2_51, r3_51, r4_51⟩ := id hR_51
    refine me_ret 2 (r := some (.int (if mi = 0 then (0 : Int32) else kez a (fun t => if kload he ke a w t ≤ khold (kg ki (kg or 0)) (kg fi (kg or 0)) then 1 else 0) 4 0 0))) (M1 := (mk_M c n m kk (rT (he, ke, ki, fi, fa, or, mi, a, g, l, w, s) xm_51 xi xw_51 im le nu rf ln nn vp_51 xn_51 xc_51 vs_51))) (fun f => rfl) ?_
    exact ⟨rfl, _, _, _, _, _, _, rfl, ⟨(by assumption), (by assumption), (by assumption), (by assumption)⟩⟩
  · have hh := khold_le (kg ki 0) (v15 0)
    refine me_seg 4 (pc1 := 31) (ls1 := [some (.ref 138), some (.int 0), some (.int 0), some (.int (-9)), some (.int 0)]) (st1 := [.int 0, .ref 139, .int 0]) (M1 := (mk_M c n m kk (rT (he, ke, ki, fi, fa, or, mi, a, g, l, w, s) xm xi xw im le nu rf ln nn vp xn xc vs))) (fun f => rfl) ?_
    refine me_ldn (xs := (er (he, ke, ki, fi, fa, or, mi, a, g, l, w, s))) rfl rfl (k := 0) (by decide) rfl ?_
    refine me_f (C := (nI mi) ≤ 0) (nI_lef (a := mi) (b := 0) (by omega)) (fun f => rfl) ?_
    refine me_seg 4 (pc1 := 42) (ls1 := [some (.ref 138), some (.int 0), some (.int 0), some (.int (-9)), some (.int 0)]) (st1 := [.int 0, .ref 139, .int 0]) (M1 := (mk_M c n m kk (rT (he, ke, ki, fi, fa, or, mi, a, g, l, w, s) xm xi xw im le nu rf ln nn vp xn xc vs))) (fun f => rfl) ?_
    refine me_call (y := 152) (y0 := 45) (L := [some (.ref 139), some (.int 0)]) (rest := [.int 0]) (rr := some (.int (nI (khold (kg ki 0) (kg fi 0))))) (M1 := (mk_M c n m kk (rT (he, ke, ki, fi, fa, or, mi, a, g, l, w, s) xm xi xw im le nu rf ln nn vp xn xc vs))) (fun f => rfl) (rl_s c n m kk (rT (he, ke, ki, fi, fa, or, mi, a, g, l, w, s) xm xi xw im le nu rf ln nn vp xn xc vs) (rc_hold_s he ke ki fi fa or mi a g l w s 0 (by omega) hV) rfl) ?_
    refine me_seg 3 (pc1 := 50) (ls1 := [some (.ref 138), some (.int 0), some (.int 0), some (.int (-9)), some (.int 0)]) (st1 := [.int 5, .ref 139, .int (nI (khold (kg ki 0) (kg fi 0))), .int 0]) (M1 := (mk_M c n m kk (rT (he, ke, ki, fi, fa, or, mi, a, g, l, w, s) xm xi xw im le nu rf ln nn vp xn xc vs))) (fun f => rfl) ?_
    refine me_ldn (xs := (er (he, ke, ki, fi, fa, or, mi, a, g, l, w, s))) rfl rfl (k := 5) (by decide) rfl ?_
    refine me_seg 2 (pc1 := 54) (ls1 := [some (.ref 138), some (.int 0), some (.int 0), some (.int (-9)), some (.int 0)]) (st1 := [.int ((nI w) + (13 : Int32)), .int (nI (khold (kg ki 0) (kg fi 0))), .int 0]) (M1 := (mk_M c n m kk (rT (he, ke, ki, fi, fa, or, mi, a, g, l, w, s) xm xi xw im le nu rf ln nn vp xn xc vs))) (fun f => rfl) ?_
    refine me_v (nI_add w 13) ?_
    refine me_ifN (C := (nI (khold (kg ki 0) (kg fi 0))) < (nI (w + 13))) (nI_lti (a := khold (kg ki 0) (kg fi 0)) (b := w + 13) (by omega)) (fun f => rfl) (fun h81 => ?_) (fun h81 => ?_)
    · refine me_seg 9 (pc1 := 24) (ls1 := [some (.ref 138), some (.int 0), some (.int 0), some (.int 0), some (.int 1)]) (st1 := []) (M1 := (mk_M c n m kk (rT (he, ke, ki, fi, fa, or, mi, a, g, l, w, s) xm xi xw im le nu rf ln nn vp xn xc vs))) (fun f => rfl) ?_
      exact tm_easyL0 he ke ki fi fa or mi a g l w s xi im le nu rf ln nn c n m kk hA hC h0 (kwp (fun j => if w + 13 ≤ khold (kg ki j) (kg fi j) then 1 else 0) mi 0 0) _ rfl (mi - 1) 1 0 0 xm xw vp xn xc vs (by omega) ⟨(by assumption), (by assumption), (by assumption), (by assumption)⟩ (by omega) (by obtain ⟨m1, hm1⟩ : ∃ m1, mi = m1 + 1 := ⟨mi - 1, by omega⟩; rw [hm1, Nat.add_sub_cancel]; exact kwp_0 (F := (fun j => if w + 13 ≤ khold (kg ki j) (kg fi j) then 1 else 0)) (j := 0) (k_if0 (by omega))) rfl
    · refine me_seg 12 (pc1 := 24) (ls1 := [some (.ref 138), some (.int 0), some (.int 1), some (.int 0), some (.int 1)]) (st1 := []) (M1 := (mk_M c n m kk (rT (he, ke, ki, fi, fa, or, mi, a, g, l, w, s) xm xi xw im le nu rf ln nn vp xn xc vs))) (fun f => rfl) ?_
      exact tm_easyL0 he ke ki fi fa or mi a g l w s xi im le nu rf ln nn c n m kk hA hC h0 (kwp (fun j => if w + 13 ≤ khold (kg ki j) (kg fi j) then 1 else 0) mi 0 0) _ rfl (mi - 1) 1 1 0 xm xw vp xn xc vs (by omega) ⟨(by assumption), (by assumption), (by assumption), (by assumption)⟩ (by omega) (by obtain ⟨m1, hm1⟩ : ∃ m1, mi = m1 + 1 := ⟨mi - 1, by omega⟩; rw [hm1, Nat.add_sub_cancel]; exact (kwp_1 (F := (fun j => if w + 13 ≤ khold (kg ki j) (kg fi j) then 1 else 0)) (j := 0) (k_if1 (by omega))).trans (congrArg _ (show (0 : Int32) ||| ((1 : Int32) <<< (nI 0 &&& 31)) = 1 by decide))) rfl
set_option maxRecDepth 100000 in
theorem tm_easyL1 (he ke ki fi fa or : List Nat) (mi a g l w s : Nat) (xi : List Int32) (im : Nat) (le nu rf : List Nat) (ln nn : Nat) (c : cC) (n m kk : kG) (hA : iA (he, ke, ki, fi, fa, or, mi, a, g, l, w, s)) (hC : iC nu nn) (hm : 0 < mi) (A1 : Int32) (A2 : Nat) (hA2 : A2 = kcl fa (mi - 1) 1 0) (k : Nat) : ∀ (j : Nat) (v : Int32) (b : Nat) (xm xw : List Int32) (vp : Int32) (xn xc : List Int32) (vs : Int32), j + k = mi → iR xm xw xn xc → b < mi → A1 = kwp (fun j => if w + 13 ≤ khold (kg ki j) (kg fi j) then 1 else 0) k j v → A2 = kcl fa k j b → mm_E 193 24 [some (.ref 138), some (.int 1), some (.int v), some (.int (nI b)), some (.int (nI j))] [] (mk_M c n m kk (rT (he, ke, ki, fi, fa, or, mi, a, g, l, w, s) xm xi xw im le nu rf ln nn vp xn xc vs)) (pM (fun r => r = some (.int (A1))) (he, ke, ki, fi, fa, or, mi, a, g, l, w, s) xi im le nu rf ln nn c n m kk) := by
  obtain ⟨hV, hst⟩ := id hA
  have hst2 : s ≤ 999 := hst
  obtain ⟨v1, v2, v3, v4, v5, v6, v7, v8, v9, v10, v11, v12, v13, v14, v15, v16⟩ := id hV
  have v6l := kO_len mi v7 or v6
  obtain ⟨c1, c2, c3⟩ := id hC
  induction k with
  | zero =>
    intro j v b xm xw vp xn xc vs hj hR g0 g1 g2
    obtain ⟨r1, r2, r3, r4⟩ := id hR
    have hh := khold_le (kg ki j) (v15 j)
    have f1 := v16 b
    have f2 := v16 j
    refine me_seg 4 (pc1 := 31) (ls1 := [some (.ref 138), some (.int 1), some (.int v), some (.int (nI b)), some (.int (nI j))]) (st1 := [.int 0, .ref 139, .int (nI j)]) (M1 := (mk_M c n m kk (rT (he, ke, ki, fi, fa, or, mi, a, g, l, w, s) xm xi xw im le nu rf ln nn vp xn xc vs))) (fun f => rfl) ?_
    refine me_ldn (xs := (er (he, ke, ki, fi, fa, or, mi, a, g, l, w, s))) rfl rfl (k := 0) (by decide) rfl ?_
    refine me_t (C := (nI mi) ≤ (nI j)) (nI_let (a := mi) (b := j) (by omega)) (fun f => rfl) ?_
    refine me_ret 8 (r := some (.int v)) (M1 := (mk_M c n m kk (rT (he, ke, ki, fi, fa, or, mi, a, g, l, w, s) xm xi xw im le nu rf ln nn vp xn xc vs))) (fun f => rfl) ?_
    exact ⟨(by rw [g1]; rfl), _, _, _, _, _, _, rfl, ⟨(by assumption), (by assumption), (by assumption), (by assumption)⟩⟩
  | succ k IH =>
    intro j v b xm xw vp xn xc vs hj hR g0 g1 g2
    obtain ⟨r1, r2, r3, r4⟩ := id hR
    have hh := khold_le (kg ki j) (v15 j)
    have f1 := v16 b
    have f2 := v16 j
    refine me_seg 4 (pc1 := 31) (ls1 := [some (.ref 138), some (.int 1), some (.int v), some (.int (nI b)), some (.int (nI j))]) (st1 := [.int 0, .ref 139, .int (nI j)]) (M1 := (mk_M c n m kk (rT (he, ke, ki, fi, fa, or, mi, a, g, l, w, s) xm xi xw im le nu rf ln nn vp xn xc vs))) (fun f => rfl) ?_
    refine me_ldn (xs := (er (he, ke, ki, fi, fa, or, mi, a, g, l, w, s))) rfl rfl (k := 0) (by decide) rfl ?_
    refine me_f (C := (nI mi) ≤ (nI j)) (nI_lef (a := mi) (b := j) (by omega)) (fun f => rfl) ?_
    refine me_seg 4 (pc1 := 42) (ls1 := [some (.ref 138), some (.int 1), some (.int v), some (.int (nI b)), some (.int (nI j))]) (st1 := [.int (nI j), .ref 139, .int v]) (M1 := (mk_M c n m kk (rT (he, ke, ki, fi, fa, or, mi, a, g, l, w, s) xm xi xw im le nu rf ln nn vp xn xc vs))) (fun f => rfl) ?_
    refine me_call (y := 152) (y0 := 45) (L := [some (.ref 139), some (.int (nI j))]) (rest := [.int v]) (rr := some (.int (nI (khold (kg ki j) (kg fi j))))) (M1 := (mk_M c n m kk (rT (he, ke, ki, fi, fa, or, mi, a, g, l, w, s) xm xi xw im le nu rf ln nn vp xn xc vs))) (fun f => rfl) (rl_s c n m kk (rT (he, ke, ki, fi, fa, or, mi, a, g, l, w, s) xm xi xw im le nu rf ln nn vp xn xc vs) (rc_hold_s he ke ki fi fa or mi a g l w s j (by omega) hV) rfl) ?_
    refine me_seg 3 (pc1 := 50) (ls1 := [some (.ref 138), some (.int 1), some (.int v), some (.int (nI b)), some (.int (nI j))]) (st1 := [.int 5, .ref 139, .int (nI (khold (kg ki j) (kg fi j))), .int v]) (M1 := (mk_M c n m kk (rT (he, ke, ki, fi, fa, or, mi, a, g, l, w, s) xm xi xw im le nu rf ln nn vp xn xc vs))) (fun f => rfl) ?_
    refine me_ldn (xs := (er (he, ke, ki, fi, fa, or, mi, a, g, l, w, s))) rfl rfl (k := 5) (by decide) rfl ?_
    refine me_seg 2 (pc1 := 54) (ls1 := [some (.ref 138), some (.int 1), some (.int v), some (.int (nI b)), some (.int (nI j))]) (st1 := [.int ((nI w) + (13 : Int32)), .int (nI (khold (kg ki j) (kg fi j))), .int v]) (M1 := (mk_M c n m kk (rT (he, ke, ki, fi, fa, or, mi, a, g, l, w, s) xm xi xw im le nu rf ln nn vp xn xc vs))) (fun f => rfl) ?_
    refine me_v (nI_add w 13) ?_
    refine me_ifN (C := (nI (khold (kg ki j) (kg fi j))) < (nI (w + 13))) (nI_lti (a := khold (kg ki j) (kg fi j)) (b := w + 13) (by omega)) (fun f => rfl) (fun h1 => ?_) (fun h1 => ?_)
    · refine me_seg 4 (pc1 := 68) (ls1 := [some (.ref 138), some (.int 1), some (.int (v ||| (0 : Int32))), some (.int (nI b)), some (.int (nI j))]) (st1 := [.int (nI b)]) (M1 := (mk_M c n m kk (rT (he, ke, ki, fi, fa, or, mi, a, g, l, w, s) xm xi xw im le nu rf ln nn vp xn xc vs))) (fun f => rfl) ?_
      refine me_f (C := (nI b) < 0) (nI_ltf (a := b) (b := 0) (by omega)) (fun f => rfl) ?_
      refine me_seg 4 (pc1 := 78) (ls1 := [some (.ref 138), some (.int 1), some (.int (v ||| (0 : Int32))), some (.int (nI b)), some (.int (nI j))]) (st1 := [.int 2, .int (nI j), .ref 139]) (M1 := (mk_M c n m kk (rT (he, ke, ki, fi, fa, or, mi, a, g, l, w, s) xm xi xw im le nu rf ln nn vp xn xc vs))) (fun f => rfl) ?_
      refine me_call (y := 141) (y0 := 81) (L := [some (.int (nI j)), some (.int 2)]) (rest := [.ref 139]) (rr := some (.int (nI (32 + 3 * j + 2)))) (M1 := (mk_M c n m kk (rT (he, ke, ki, fi, fa, or, mi, a, g, l, w, s) xm xi xw im le nu rf ln nn vp xn xc vs))) (fun f => rfl) (rc_of j 2 (by omega) (by decide) _) ?_
      refine me_ldn (xs := (er (he, ke, ki, fi, fa, or, mi, a, g, l, w, s))) rfl rfl (k := 32 + 3 * j + 2) (by omega) (er_fa (K := (he, ke, ki, fi, fa, or, mi, a, g, l, w, s)) v1 (by omega)) ?_
      refine me_seg 4 (pc1 := 88) (ls1 := [some (.ref 138), some (.int 1), some (.int (v ||| (0 : Int32))), some (.int (nI b)), some (.int (nI j))]) (st1 := [.int 2, .int (nI b), .ref 139, .int (nI (kg fa j))]) (M1 := (mk_M c n m kk (rT (he, ke, ki, fi, fa, or, mi, a, g, l, w, s) xm xi xw im le nu rf ln nn vp xn xc vs))) (fun f => rfl) ?_
      refine me_call (y := 141) (y0 := 91) (L := [some (.int (nI b)), some (.int 2)]) (rest := [.ref 139, .int (nI (kg fa j))]) (rr := some (.int (nI (32 + 3 * b + 2)))) (M1 := (mk_M c n m kk (rT (he, ke, ki, fi, fa, or, mi, a, g, l, w, s) xm xi xw im le nu rf ln nn vp xn xc vs))) (fun f => rfl) (rc_of b 2 (by omega) (by decide) _) ?_
      refine me_ldn (xs := (er (he, ke, ki, fi, fa, or, mi, a, g, l, w, s))) rfl rfl (k := 32 + 3 * b + 2) (by omega) (er_fa (K := (he, ke, ki, fi, fa, or, mi, a, g, l, w, s)) v1 (by omega)) ?_
      refine me_ifN (C := (nI (kg fa j)) ≤ (nI (kg fa b))) (nI_lei (a := kg fa j) (b := kg fa b) (by omega)) (fun f => rfl) (fun h2 => ?_) (fun h2 => ?_)
      · refine me_seg 1 (pc1 := 101) (ls1 := [some (.ref 138), some (.int 1), some (.int (v ||| (0 : Int32))), some (.int (nI b)), some (.int ((nI j) + 1))]) (st1 := []) (M1 := (mk_M c n m kk (rT (he, ke, ki, fi, fa, or, mi, a, g, l, w, s) xm xi xw im le nu rf ln nn vp xn xc vs))) (fun f => rfl) ?_
        refine me_l (fun q_ => [some (.ref 138), some (.int 1), some (.int (v ||| (0 : Int32))), some (.int (nI b)), some (.int q_)]) (nI_add j 1) ?_
        refine me_seg 1 (pc1 := 24) (ls1 := [some (.ref 138), some (.int 1), some (.int (v ||| (0 : Int32))), some (.int (nI b)), some (.int (nI (j + 1)))]) (st1 := []) (M1 := (mk_M c n m kk (rT (he, ke, ki, fi, fa, or, mi, a, g, l, w, s) xm xi xw im le nu rf ln nn vp xn xc vs))) (fun f => rfl) ?_
        exact IH (j + 1) (v ||| (0 : Int32)) b xm xw vp xn xc vs (by omega) ⟨(by assumption), (by assumption), (by assumption), (by assumption)⟩ (by omega) (g1.trans ((kwp_0 (F := (fun j => if w + 13 ≤ khold (kg ki j) (kg fi j) then 1 else 0)) (j := j) (k_if0 (by omega))).trans (by rw [kor0]))) (g2.trans (kcl_f (by omega)))
      · refine me_seg 3 (pc1 := 101) (ls1 := [some (.ref 138), some (.int 1), some (.int (v ||| (0 : Int32))), some (.int (nI j)), some (.int ((nI j) + 1))]) (st1 := []) (M1 := (mk_M c n m kk (rT (he, ke, ki, fi, fa, or, mi, a, g, l, w, s) xm xi xw im le nu rf ln nn vp xn xc vs))) (fun f => rfl) ?_
        refine me_l (fun q_ => [some (.ref 138), some (.int 1), some (.int (v ||| (0 : Int32))), some (.int (nI j)), some (.int q_)]) (nI_add j 1) ?_
        refine me_seg 1 (pc1 := 24) (ls1 := [some (.ref 138), some (.int 1), some (.int (v ||| (0 : Int32))), some (.int (nI j)), some (.int (nI (j + 1)))]) (st1 := []) (M1 := (mk_M c n m kk (rT (he, ke, ki, fi, fa, or, mi, a, g, l, w, s) xm xi xw im le nu rf ln nn vp xn xc vs))) (fun f => rfl) ?_
        exact IH (j + 1) (v ||| (0 : Int32)) j xm xw vp xn xc vs (by omega) ⟨(by assumption), (by assumption), (by assumption), (by assumption)⟩ (by omega) (g1.trans ((kwp_0 (F := (fun j => if w + 13 ≤ khold (kg ki j) (kg fi j) then 1 else 0)) (j := j) (k_if0 (by omega))).trans (by rw [kor0]))) (g2.trans (kcl_t (by omega)))
    · refine me_seg 7 (pc1 := 68) (ls1 := [some (.ref 138), some (.int 1), some (.int (v ||| ((1 : Int32) <<< ((nI j) &&& 31)))), some (.int (nI b)), some (.int (nI j))]) (st1 := [.int (nI b)]) (M1 := (mk_M c n m kk (rT (he, ke, ki, fi, fa, or, mi, a, g, l, w, s) xm xi xw im le nu rf ln nn vp xn xc vs))) (fun f => rfl) ?_
      refine me_f (C := (nI b) < 0) (nI_ltf (a := b) (b := 0) (by omega)) (fun f => rfl) ?_
      refine me_seg 4 (pc1 := 78) (ls1 := [some (.ref 138), some (.int 1), some (.int (v ||| ((1 : Int32) <<< ((nI j) &&& 31)))), some (.int (nI b)), some (.int (nI j))]) (st1 := [.int 2, .int (nI j), .ref 139]) (M1 := (mk_M c n m kk (rT (he, ke, ki, fi, fa, or, mi, a, g, l, w, s) xm xi xw im le nu rf ln nn vp xn xc vs))) (fun f => rfl) ?_
      refine me_call (y := 141) (y0 := 81) (L := [some (.int (nI j)), some (.int 2)]) (rest := [.ref 139]) (rr := some (.int (nI (32 + 3 * j + 2)))) (M1 := (mk_M c n m kk (rT (he, ke, ki, fi, fa, or, mi, a, g, l, w, s) xm xi xw im le nu rf ln nn vp xn xc vs))) (fun f => rfl) (rc_of j 2 (by omega) (by decide) _) ?_
      refine me_ldn (xs := (er (he, ke, ki, fi, fa, or, mi, a, g, l, w, s))) rfl rfl (k := 32 + 3 * j + 2) (by omega) (er_fa (K := (he, ke, ki, fi, fa, or, mi, a, g, l, w, s)) v1 (by omega)) ?_
      refine me_seg 4 (pc1 := 88) (ls1 := [some (.ref 138), some (.int 1), some (.int (v ||| ((1 : Int32) <<< ((nI j) &&& 31)))), some (.int (nI b)), some (.int (nI j))]) (st1 := [.int 2, .int (nI b), .ref 139, .int (nI (kg fa j))]) (M1 := (mk_M c n m kk (rT (he, ke, ki, fi, fa, or, mi, a, g, l, w, s) xm xi xw im le nu rf ln nn vp xn xc vs))) (fun f => rfl) ?_
      refine me_call (y := 141) (y0 := 91) (L := [some (.int (nI b)), some (.int 2)]) (rest := [.ref 139, .int (nI (kg fa j))]) (rr := some (.int (nI (32 + 3 * b + 2)))) (M1 := (mk_M c n m kk (rT (he, ke, ki, fi, fa, or, mi, a, g, l, w, s) xm xi xw im le nu rf ln nn vp xn xc vs))) (fun f => rfl) (rc_of b 2 (by omega) (by decide) _) ?_
      refine me_ldn (xs := (er (he, ke, ki, fi, fa, or, mi, a, g, l, w, s))) rfl rfl (k := 32 + 3 * b + 2) (by omega) (er_fa (K := (he, ke, ki, fi, fa, or, mi, a, g, l, w, s)) v1 (by omega)) ?_
      refine me_ifN (C := (nI (kg fa j)) ≤ (nI (kg fa b))) (nI_lei (a := kg fa j) (b := kg fa b) (by omega)) (fun f => rfl) (fun h3 => ?_) (fun h3 => ?_)
      · refine me_seg 1 (pc1 := 101) (ls1 := [some (.ref 138), some (.int 1), some (.int (v ||| ((1 : Int32) <<< ((nI j) &&& 31)))), some (.int (nI b)), some (.int ((nI j) + 1))]) (st1 := []) (M1 := (mk_M c n m kk (rT (he, ke, ki, fi, fa, or, mi, a, g, l, w, s) xm xi xw im le nu rf ln nn vp xn xc vs))) (fun f => rfl) ?_
        refine me_l (fun q_ => [some (.ref 138), some (.int 1), some (.int (v ||| ((1 : Int32) <<< ((nI j) &&& 31)))), some (.int (nI b)), some (.int q_)]) (nI_add j 1) ?_
        refine me_seg 1 (pc1 := 24) (ls1 := [some (.ref 138), some (.int 1), some (.int (v ||| ((1 : Int32) <<< ((nI j) &&& 31)))), some (.int (nI b)), some (.int (nI (j + 1)))]) (st1 := []) (M1 := (mk_M c n m kk (rT (he, ke, ki, fi, fa, or, mi, a, g, l, w, s) xm xi xw im le nu rf ln nn vp xn xc vs))) (fun f => rfl) ?_
        exact IH (j + 1) (v ||| ((1 : Int32) <<< ((nI j) &&& 31))) b xm xw vp xn xc vs (by omega) ⟨(by assumption), (by assumption), (by assumption), (by assumption)⟩ (by omega) (g1.trans (kwp_1 (F := (fun j => if w + 13 ≤ khold (kg ki j) (kg fi j) then 1 else 0)) (j := j) (k_if1 (by omega)))) (g2.trans (kcl_f (by omega)))
      · refine me_seg 3 (pc1 := 101) (ls1 := [some (.ref 138), some (.int 1), some (.int (v ||| ((1 : Int32) <<< ((nI j) &&& 31)))), some (.int (nI j)), some (.int ((nI j) + 1))]) (st1 := []) (M1 := (mk_M c n m kk (rT (he, ke, ki, fi, fa, or, mi, a, g, l, w, s) xm xi xw im le nu rf ln nn vp xn xc vs))) (fun f => rfl) ?_
        refine me_l (fun q_ => [some (.ref 138), some (.int 1), some (.int (v ||| ((1 : Int32) <<< ((nI j) &&& 31)))), some (.int (nI j)), some (.int q_)]) (nI_add j 1) ?_
        refine me_seg 1 (pc1 := 24) (ls1 := [some (.ref 138), some (.int 1), some (.int (v ||| ((1 : Int32) <<< ((nI j) &&& 31)))), some (.int (nI j)), some (.int (nI (j + 1)))]) (st1 := []) (M1 := (mk_M c n m kk (rT (he, ke, ki, fi, fa, or, mi, a, g, l, w, s) xm xi xw im le nu rf ln nn vp xn xc vs))) (fun f => rfl) ?_
        exact IH (j + 1) (v ||| ((1 : Int32) <<< ((nI j) &&& 31))) j xm xw vp xn xc vs (by omega) ⟨(by assumption), (by assumption), (by assumption), (by assumption)⟩ (by omega) (g1.trans (kwp_1 (F := (fun j => if w + 13 ≤ khold (kg ki j) (kg fi j) then 1 else 0)) (j := j) (k_if1 (by omega)))) (g2.trans (kcl_t (by omega)))
set_option maxRecDepth 100000 in
theorem tm_easy_1 (he ke ki fi fa or : List Nat) (mi a g l w s : Nat) (xi : List Int32) (im : Nat) (le nu rf : List Nat) (ln nn : Nat) (c : cC) (n m kk : kG) (hA : iA (he, ke, ki, fi, fa, or, mi, a, g, l, w, s)) (hC : iC nu nn) (xm xw : List Int32) (vp : Int32) (xn xc : List Int32) (vs : Int32) (hR : iR xm xw xn xc) : mm_E 193 0 [some (.ref 138), some (.int 1), none, none, none] [] (mk_M c n m kk (rT (he, ke, ki, fi, fa, or, mi, a, g, l, w, s) xm xi xw im le nu rf ln nn vp xn xc vs)) (pM (fun r => r = some (.int (kwp (fun j => if w + 13 ≤ khold (kg ki j) (kg fi j) then 1 else 0) mi 0 0))) (he, ke, ki, fi, fa, or, mi, a, g, l, w, s) xi im le nu rf ln nn c n m kk) := by
  obtain ⟨hV, hst⟩ := id hA
  have hst2 : s ≤ 999 := hst
  obtain ⟨v1, v2, v3, v4, v5, v6, v7, v8, v9, v10, v11, v12, v13, v14, v15, v16⟩ := id hV
  have v6l := kO_len mi v7 or v6
  obtain ⟨c1, c2, c3⟩ := id hC
  obtain ⟨r1, r2, r3, r4⟩ := id hR
  refine me_seg 3 (pc1 := 3) (ls1 := [some (.ref 138), some (.int 1), none, none, none]) (st1 := [.int 2, .int 0, .int 1]) (M1 := (mk_M c n m kk (rT (he, ke, ki, fi, fa, or, mi, a, g, l, w, s) xm xi xw im le nu rf ln nn vp xn xc vs))) (fun f => rfl) ?_
  refine me_call (y := 135) (y0 := 6) (L := [some (.int 1), some (.int 0), some (.int 2)]) (rest := []) (rr := some (.int 1)) (M1 := (mk_M c n m kk (rT (he, ke, ki, fi, fa, or, mi, a, g, l, w, s) xm xi xw im le nu rf ln nn vp xn xc vs))) (fun f => rfl) (by
      exact mr_ret 9 (fun f => rfl)) ?_
  refine me_seg 7 (pc1 := 24) (ls1 := [some (.ref 138), some (.int 1), some (.int 0), some (.int (-9)), some (.int 0)]) (st1 := []) (M1 := (mk_M c n m kk (rT (he, ke, ki, fi, fa, or, mi, a, g, l, w, s) xm xi xw im le nu rf ln nn vp xn xc vs))) (fun f => rfl) ?_
  rcases Nat.eq_zero_or_pos mi with h0 | h0
  · refine me_seg 4 (pc1 := 31) (ls1 := [some (.ref 138), some (.int 1), some (.int 0), some (.int (-9)), some (.int 0)]) (st1 := [.int 0, .ref 139, .int 0]) (M1 := (mk_M c n m kk (rT (he, ke, ki, fi, fa, or, mi, a, g, l, w, s) xm xi xw im le nu rf ln nn vp xn xc vs))) (fun f => rfl) ?_
    refine me_ldn (xs := (er (he, ke, ki, fi, fa, or, mi, a, g, l, w, s))) rfl rfl (k := 0) (by decide) rfl ?_
    refine me_t (C := (nI mi) ≤ 0) (nI_let (a := mi) (b := 0) (by omega)) (fun f => rfl) ?_
    refine me_ret 8 (r := some (.int 0)) (M1 := (mk_M c n m kk (rT (he, ke, ki, fi, fa, or, mi, a, g, l, w, s) xm xi xw im le nu rf ln nn vp xn xc vs))) (fun f => rfl) ?_
    exact ⟨(by rw [h0]; rfl), _, _, _, _, _, _, rfl, ⟨(by assumption), (by assumption), (by assumption), (by assumption)⟩⟩
  · have hh := khold_le (kg ki 0) (v15 0)
    refine me_seg 4 (pc1 := 31) (ls1 := [some (.ref 138), some (.int 1), some (.int 0), some (.int (-9)), some (.int 0)]) (st1 := [.int 0, .ref 139, .int 0]) (M1 := (mk_M c n m kk (rT (he, ke, ki, fi, fa, or, mi, a, g, l, w, s) xm xi xw im le nu rf ln nn vp xn xc vs))) (fun f => rfl) ?_
    refine me_ldn (xs := (er (he, ke, ki, fi, fa, or, mi, a, g, l, w, s))) rfl rfl (k := 0) (by decide) rfl ?_
    refine me_f (C := (nI mi) ≤ 0) (nI_lef (a := mi) (b := 0) (by omega)) (fun f => rfl) ?_
    refine me_seg 4 (pc1 := 42) (ls1 := [some (.ref 138), some (.int 1), some (.int 0), some (.int (-9)), some (.int 0)]) (st1 := [.int 0, .ref 139, .int 0]) (M1 := (mk_M c n m kk (rT (he, ke, ki, fi, fa, or, mi, a, g, l, w, s) xm xi xw im le nu rf ln nn vp xn xc vs))) (fun f => rfl) ?_
    refine me_call (y := 152) (y0 := 45) (L := [some (.ref 139), some (.int 0)]) (rest := [.int 0]) (rr := some (.int (nI (khold (kg ki 0) (kg fi 0))))) (M1 := (mk_M c n m kk (rT (he, ke, ki, fi, fa, or, mi, a, g, l, w, s) xm xi xw im le nu rf ln nn vp xn xc vs))) (fun f => rfl) (rl_s c n m kk (rT (he, ke, ki, fi, fa, or, mi, a, g, l, w, s) xm xi xw im le nu rf ln nn vp xn xc vs) (rc_hold_s he ke ki fi fa or mi a g l w s 0 (by omega) hV) rfl) ?_
    refine me_seg 3 (pc1 := 50) (ls1 := [some (.ref 138), some (.int 1), some (.int 0), some (.int (-9)), some (.int 0)]) (st1 := [.int 5, .ref 139, .int (nI (khold (kg ki 0) (kg fi 0))), .int 0]) (M1 := (mk_M c n m kk (rT (he, ke, ki, fi, fa, or, mi, a, g, l, w, s) xm xi xw im le nu rf ln nn vp xn xc vs))) (fun f => rfl) ?_
    refine me_ldn (xs := (er (he, ke, ki, fi, fa, or, mi, a, g, l, w, s))) rfl rfl (k := 5) (by decide) rfl ?_
    refine me_seg 2 (pc1 := 54) (ls1 := [some (.ref 138), some (.int 1), some (.int 0), some (.int (-9)), some (.int 0)]) (st1 := [.int ((nI w) + (13 : Int32)), .int (nI (khold (kg ki 0) (kg fi 0))), .int 0]) (M1 := (mk_M c n m kk (rT (he, ke, ki, fi, fa, or, mi, a, g, l, w, s) xm xi xw im le nu rf ln nn vp xn xc vs))) (fun f => rfl) ?_
    refine me_v (nI_add w 13) ?_
    refine me_ifN (C := (nI (khold (kg ki 0) (kg fi 0))) < (nI (w + 13))) (nI_lti (a := khold (kg ki 0) (kg fi 0)) (b := w + 13) (by omega)) (fun f => rfl) (fun h81 => ?_) (fun h81 => ?_)
    · refine me_seg 9 (pc1 := 24) (ls1 := [some (.ref 138), some (.int 1), some (.int 0), some (.int 0), some (.int 1)]) (st1 := []) (M1 := (mk_M c n m kk (rT (he, ke, ki, fi, fa, or, mi, a, g, l, w, s) xm xi xw im le nu rf ln nn vp xn xc vs))) (fun f => rfl) ?_
      exact tm_easyL1 he ke ki fi fa or mi a g l w s xi im le nu rf ln nn c n m kk hA hC h0 (kwp (fun j => if w + 13 ≤ khold (kg ki j) (kg fi j) then 1 else 0) mi 0 0) _ rfl (mi - 1) 1 0 0 xm xw vp xn xc vs (by omega) ⟨(by assumption), (by assumption), (by assumption), (by assumption)⟩ (by omega) (by obtain ⟨m1, hm1⟩ : ∃ m1, mi = m1 + 1 := ⟨mi - 1, by omega⟩; rw [hm1, Nat.add_sub_cancel]; exact kwp_0 (F := (fun j => if w + 13 ≤ khold (kg ki j) (kg fi j) then 1 else 0)) (j := 0) (k_if0 (by omega))) rfl
    · refine me_seg 12 (pc1 := 24) (ls1 := [some (.ref 138), some (.int 1), some (.int 1), some (.int 0), some (.int 1)]) (st1 := []) (M1 := (mk_M c n m kk (rT (he, ke, ki, fi, fa, or, mi, a, g, l, w, s) xm xi xw im le nu rf ln nn vp xn xc vs))) (fun f => rfl) ?_
      exact tm_easyL1 he ke ki fi fa or mi a g l w s xi im le nu rf ln nn c n m kk hA hC h0 (kwp (fun j => if w + 13 ≤ khold (kg ki j) (kg fi j) then 1 else 0) mi 0 0) _ rfl (mi - 1) 1 1 0 xm xw vp xn xc vs (by omega) ⟨(by assumption), (by assumption), (by assumption), (by assumption)⟩ (by omega) (by obtain ⟨m1, hm1⟩ : ∃ m1, mi = m1 + 1 := ⟨mi - 1, by omega⟩; rw [hm1, Nat.add_sub_cancel]; exact (kwp_1 (F := (fun j => if w + 13 ≤ khold (kg ki j) (kg fi j) then 1 else 0)) (j := 0) (k_if1 (by omega))).trans (congrArg _ (show (0 : Int32) ||| ((1 : Int32) <<< (nI 0 &&& 31)) = 1 by decide))) rfl
set_option maxRecDepth 100000 in
theorem tm_easyL2 (he ke ki fi fa or : List Nat) (mi a g l w s : Nat) (xi : List Int32) (im : Nat) (le nu rf : List Nat) (ln nn : Nat) (c : cC) (n m kk : kG) (hA : iA (he, ke, ki, fi, fa, or, mi, a, g, l, w, s)) (hC : iC nu nn) (hm : 0 < mi) (A1 : Int32) (A2 : Nat) (hA2 : A2 = kcl fa (mi - 1) 1 0) (k : Nat) : ∀ (j : Nat) (v : Int32) (b : Nat) (xm xw : List Int32) (vp : Int32) (xn xc : List Int32) (vs : Int32), j + k = mi → iR xm xw xn xc → b < mi → A1 = kwp (fun j => if w + 13 ≤ khold (kg ki j) (kg fi j) then 1 else 0) k j v → A2 = kcl fa k j b → mm_E 193 24 [some (.ref 138), some (.int 2), some (.int v), some (.int (nI b)), some (.int (nI j))] [] (mk_M c n m kk (rT (he, ke, ki, fi, fa, or, mi, a, g, l, w, s) xm xi xw im le nu rf ln nn vp xn xc vs)) (pM (fun r => r = some (.int ((if mi = 0 then (-9 : Int32) else nI (kcl fa (mi - 1) 1 0))))) (he, ke, ki, fi, fa, or, mi, a, g, l, w, s) xi im le nu rf ln nn c n m kk) := by
  obtain ⟨hV, hst⟩ := id hA
  have hst2 : s ≤ 999 := hst
  obtain ⟨v1, v2, v3, v4, v5, v6, v7, v8, v9, v10, v11, v12, v13, v14, v15, v16⟩ := id hV
  have v6l := kO_len mi v7 or v6
  obtain ⟨c1, c2, c3⟩ := id hC
  induction k with
  | zero =>
    intro j v b xm xw vp xn xc vs hj hR g0 g1 g2
    obtain ⟨r1, r2, r3, r4⟩ := id hR
    have hh := khold_le (kg ki j) (v15 j)
    have f1 := v16 b
    have f2 := v16 j
    refine me_seg 4 (pc1 := 31) (ls1 := [some (.ref 138), some (.int 2), some (.int v), some (.int (nI b)), some (.int (nI j))]) (st1 := [.int 0, .ref 139, .int (nI j)]) (M1 := (mk_M c n m kk (rT (he, ke, ki, fi, fa, or, mi, a, g, l, w, s) xm xi xw im le nu rf ln nn vp xn xc vs))) (fun f => rfl) ?_
    refine me_ldn (xs := (er (he, ke, ki, fi, fa, or, mi, a, g, l, w, s))) rfl rfl (k := 0) (by decide) rfl ?_
    refine me_t (C := (nI mi) ≤ (nI j)) (nI_let (a := mi) (b := j) (by omega)) (fun f => rfl) ?_
    refine me_ret 7 (r := some (.int (nI b))) (M1 := (mk_M c n m kk (rT (he, ke, ki, fi, fa, or, mi, a, g, l, w, s) xm xi xw im le nu rf ln nn vp xn xc vs))) (fun f => rfl) ?_
    exact ⟨(by rw [if_neg (show ¬ mi = 0 by omega), ← hA2, g2]; rfl), _, _, _, _, _, _, rfl, ⟨(by assumption), (by assumption), (by assumption), (by assumption)⟩⟩
  | succ k IH =>
    intro j v b xm xw vp xn xc vs hj hR g0 g1 g2
    obtain ⟨r1, r2, r3, r4⟩ := id hR
    have hh := khold_le (kg ki j) (v15 j)
    have f1 := v16 b
    have f2 := v16 j
    refine me_seg 4 (pc1 := 31) (ls1 := [some (.ref 138), some (.int 2), some (.int v), some (.int (nI b)), some (.int (nI j))]) (st1 := [.int 0, .ref 139, .int (nI j)]) (M1 := (mk_M c n m kk (rT (he, ke, ki, fi, fa, or, mi, a, g, l, w, s) xm xi xw im le nu rf ln nn vp xn xc vs))) (fun f => rfl) ?_
    refine me_ldn (xs := (er (he, ke, ki, fi, fa, or, mi, a, g, l, w, s))) rfl rfl (k := 0) (by decide) rfl ?_
    refine me_f (C := (nI mi) ≤ (nI j)) (nI_lef (a := mi) (b := j) (by omega)) (fun f => rfl) ?_
    refine me_seg 4 (pc1 := 42) (ls1 := [some (.ref 138), some (.int 2), some (.int v), some (.int (nI b)), some (.int (nI j))]) (st1 := [.int (nI j), .ref 139, .int v]) (M1 := (mk_M c n m kk (rT (he, ke, ki, fi, fa, or, mi, a, g, l, w, s) xm xi xw im le nu rf ln nn vp xn xc vs))) (fun f => rfl) ?_
    refine me_call (y := 152) (y0 := 45) (L := [some (.ref 139), some (.int (nI j))]) (rest := [.int v]) (rr := some (.int (nI (khold (kg ki j) (kg fi j))))) (M1 := (mk_M c n m kk (rT (he, ke, ki, fi, fa, or, mi, a, g, l, w, s) xm xi xw im le nu rf ln nn vp xn xc vs))) (fun f => rfl) (rl_s c n m kk (rT (he, ke, ki, fi, fa, or, mi, a, g, l, w, s) xm xi xw im le nu rf ln nn vp xn xc vs) (rc_hold_s he ke ki fi fa or mi a g l w s j (by omega) hV) rfl) ?_
    refine me_seg 3 (pc1 := 50) (ls1 := [some (.ref 138), some (.int 2), some (.int v), some (.int (nI b)), some (.int (nI j))]) (st1 := [.int 5, .ref 139, .int (nI (khold (kg ki j) (kg fi j))), .int v]) (M1 := (mk_M c n m kk (rT (he, ke, ki, fi, fa, or, mi, a, g, l, w, s) xm xi xw im le nu rf ln nn vp xn xc vs))) (fun f => rfl) ?_
    refine me_ldn (xs := (er (he, ke, ki, fi, fa, or, mi, a, g, l, w, s))) rfl rfl (k := 5) (by decide) rfl ?_
    refine me_seg 2 (pc1 := 54) (ls1 := [some (.ref 138), some (.int 2), some (.int v), some (.int (nI b)), some (.int (nI j))]) (st1 := [.int ((nI w) + (13 : Int32)), .int (nI (khold (kg ki j) (kg fi j))), .int v]) (M1 := (mk_M c n m kk (rT (he, ke, ki, fi, fa, or, mi, a, g, l, w, s) xm xi xw im le nu rf ln nn vp xn xc vs))) (fun f => rfl) ?_
    refine me_v (nI_add w 13) ?_
    refine me_ifN (C := (nI (khold (kg ki j) (kg fi j))) < (nI (w + 13))) (nI_lti (a := khold (kg ki j) (kg fi j)) (b := w + 13) (by omega)) (fun f => rfl) (fun h1 => ?_) (fun h1 => ?_)
    · refine me_seg 4 (pc1 := 68) (ls1 := [some (.ref 138), some (.int 2), some (.int (v ||| (0 : Int32))), some (.int (nI b)), some (.int (nI j))]) (st1 := [.int (nI b)]) (M1 := (mk_M c n m kk (rT (he, ke, ki, fi, fa, or, mi, a, g, l, w, s) xm xi xw im le nu rf ln nn vp xn xc vs))) (fun f => rfl) ?_
      refine me_f (C := (nI b) < 0) (nI_ltf (a := b) (b := 0) (by omega)) (fun f => rfl) ?_
      refine me_seg 4 (pc1 := 78) (ls1 := [some (.ref 138), some (.int 2), some (.int (v ||| (0 : Int32))), some (.int (nI b)), some (.int (nI j))]) (st1 := [.int 2, .int (nI j), .ref 139]) (M1 := (mk_M c n m kk (rT (he, ke, ki, fi, fa, or, mi, a, g, l, w, s) xm xi xw im le nu rf ln nn vp xn xc vs))) (fun f => rfl) ?_
      refine me_call (y := 141) (y0 := 81) (L := [some (.int (nI j)), some (.int 2)]) (rest := [.ref 139]) (rr := some (.int (nI (32 + 3 * j + 2)))) (M1 := (mk_M c n m kk (rT (he, ke, ki, fi, fa, or, mi, a, g, l, w, s) xm xi xw im le nu rf ln nn vp xn xc vs))) (fun f => rfl) (rc_of j 2 (by omega) (by decide) _) ?_
      refine me_ldn (xs := (er (he, ke, ki, fi, fa, or, mi, a, g, l, w, s))) rfl rfl (k := 32 + 3 * j + 2) (by omega) (er_fa (K := (he, ke, ki, fi, fa, or, mi, a, g, l, w, s)) v1 (by omega)) ?_
      refine me_seg 4 (pc1 := 88) (ls1 := [some (.ref 138), some (.int 2), some (.int (v ||| (0 : Int32))), some (.int (nI b)), some (.int (nI j))]) (st1 := [.int 2, .int (nI b), .ref 139, .int (nI (kg fa j))]) (M1 := (mk_M c n m kk (rT (he, ke, ki, fi, fa, or, mi, a, g, l, w, s) xm xi xw im le nu rf ln nn vp xn xc vs))) (fun f => rfl) ?_
      refine me_call (y := 141) (y0 := 91) (L := [some (.int (nI b)), some (.int 2)]) (rest := [.ref 139, .int (nI (kg fa j))]) (rr := some (.int (nI (32 + 3 * b + 2)))) (M1 := (mk_M c n m kk (rT (he, ke, ki, fi, fa, or, mi, a, g, l, w, s) xm xi xw im le nu rf ln nn vp xn xc vs))) (fun f => rfl) (rc_of b 2 (by omega) (by decide) _) ?_
      refine me_ldn (xs := (er (he, ke, ki, fi, fa, or, mi, a, g, l, w, s))) rfl rfl (k := 32 + 3 * b + 2) (by omega) (er_fa (K := (he, ke, ki, fi, fa, or, mi, a, g, l, w, s)) v1 (by omega)) ?_
      refine me_ifN (C := (nI (kg fa j)) ≤ (nI (kg fa b))) (nI_lei (a := kg fa j) (b := kg fa b) (by omega)) (fun f => rfl) (fun h2 => ?_) (fun h2 => ?_)
      · refine me_seg 1 (pc1 := 101) (ls1 := [some (.ref 138), some (.int 2), some (.int (v ||| (0 : Int32))), some (.int (nI b)), some (.int ((nI j) + 1))]) (st1 := []) (M1 := (mk_M c n m kk (rT (he, ke, ki, fi, fa, or, mi, a, g, l, w, s) xm xi xw im le nu rf ln nn vp xn xc vs))) (fun f => rfl) ?_
        refine me_l (fun q_ => [some (.ref 138), some (.int 2), some (.int (v ||| (0 : Int32))), some (.int (nI b)), some (.int q_)]) (nI_add j 1) ?_
        refine me_seg 1 (pc1 := 24) (ls1 := [some (.ref 138), some (.int 2), some (.int (v ||| (0 : Int32))), some (.int (nI b)), some (.int (nI (j + 1)))]) (st1 := []) (M1 := (mk_M c n m kk (rT (he, ke, ki, fi, fa, or, mi, a, g, l, w, s) xm xi xw im le nu rf ln nn vp xn xc vs))) (fun f => rfl) ?_
        exact IH (j + 1) (v ||| (0 : Int32)) b xm xw vp xn xc vs (by omega) ⟨(by assumption), (by assumption), (by assumption), (by assumption)⟩ (by omega) (g1.trans ((kwp_0 (F := (fun j => if w + 13 ≤ khold (kg ki j) (kg fi j) then 1 else 0)) (j := j) (k_if0 (by omega))).trans (by rw [kor0]))) (g2.trans (kcl_f (by omega)))
      · refine me_seg 3 (pc1 := 101) (ls1 := [some (.ref 138), some (.int 2), some (.int (v ||| (0 : Int32))), some (.int (nI j)), some (.int ((nI j) + 1))]) (st1 := []) (M1 := (mk_M c n m kk (rT (he, ke, ki, fi, fa, or, mi, a, g, l, w, s) xm xi xw im le nu rf ln nn vp xn xc vs))) (fun f => rfl) ?_
        refine me_l (fun q_ => [some (.ref 138), some (.int 2), some (.int (v ||| (0 : Int32))), some (.int (nI j)), some (.int q_)]) (nI_add j 1) ?_
        refine me_seg 1 (pc1 := 24) (ls1 := [some (.ref 138), some (.int 2), some (.int (v ||| (0 : Int32))), some (.int (nI j)), some (.int (nI (j + 1)))]) (st1 := []) (M1 := (mk_M c n m kk (rT (he, ke, ki, fi, fa, or, mi, a, g, l, w, s) xm xi xw im le nu rf ln nn vp xn xc vs))) (fun f => rfl) ?_
        exact IH (j + 1) (v ||| (0 : Int32)) j xm xw vp xn xc vs (by omega) ⟨(by assumption), (by assumption), (by assumption), (by assumption)⟩ (by omega) (g1.trans ((kwp_0 (F := (fun j => if w + 13 ≤ khold (kg ki j) (kg fi j) then 1 else 0)) (j := j) (k_if0 (by omega))).trans (by rw [kor0]))) (g2.trans (kcl_t (by omega)))
    · refine me_seg 7 (pc1 := 68) (ls1 := [some (.ref 138), some (.int 2), some (.int (v ||| ((1 : Int32) <<< ((nI j) &&& 31)))), some (.int (nI b)), some (.int (nI j))]) (st1 := [.int (nI b)]) (M1 := (mk_M c n m kk (rT (he, ke, ki, fi, fa, or, mi, a, g, l, w, s) xm xi xw im le nu rf ln nn vp xn xc vs))) (fun f => rfl) ?_
      refine me_f (C := (nI b) < 0) (nI_ltf (a := b) (b := 0) (by omega)) (fun f => rfl) ?_
      refine me_seg 4 (pc1 := 78) (ls1 := [some (.ref 138), some (.int 2), some (.int (v ||| ((1 : Int32) <<< ((nI j) &&& 31)))), some (.int (nI b)), some (.int (nI j))]) (st1 := [.int 2, .int (nI j), .ref 139]) (M1 := (mk_M c n m kk (rT (he, ke, ki, fi, fa, or, mi, a, g, l, w, s) xm xi xw im le nu rf ln nn vp xn xc vs))) (fun f => rfl) ?_
      refine me_call (y := 141) (y0 := 81) (L := [some (.int (nI j)), some (.int 2)]) (rest := [.ref 139]) (rr := some (.int (nI (32 + 3 * j + 2)))) (M1 := (mk_M c n m kk (rT (he, ke, ki, fi, fa, or, mi, a, g, l, w, s) xm xi xw im le nu rf ln nn vp xn xc vs))) (fun f => rfl) (rc_of j 2 (by omega) (by decide) _) ?_
      refine me_ldn (xs := (er (he, ke, ki, fi, fa, or, mi, a, g, l, w, s))) rfl rfl (k := 32 + 3 * j + 2) (by omega) (er_fa (K := (he, ke, ki, fi, fa, or, mi, a, g, l, w, s)) v1 (by omega)) ?_
      refine me_seg 4 (pc1 := 88) (ls1 := [some (.ref 138), some (.int 2), some (.int (v ||| ((1 : Int32) <<< ((nI j) &&& 31)))), some (.int (nI b)), some (.int (nI j))]) (st1 := [.int 2, .int (nI b), .ref 139, .int (nI (kg fa j))]) (M1 := (mk_M c n m kk (rT (he, ke, ki, fi, fa, or, mi, a, g, l, w, s) xm xi xw im le nu rf ln nn vp xn xc vs))) (fun f => rfl) ?_
      refine me_call (y := 141) (y0 := 91) (L := [some (.int (nI b)), some (.int 2)]) (rest := [.ref 139, .int (nI (kg fa j))]) (rr := some (.int (nI (32 + 3 * b + 2)))) (M1 := (mk_M c n m kk (rT (he, ke, ki, fi, fa, or, mi, a, g, l, w, s) xm xi xw im le nu rf ln nn vp xn xc vs))) (fun f => rfl) (rc_of b 2 (by omega) (by decide) _) ?_
      refine me_ldn (xs := (er (he, ke, ki, fi, fa, or, mi, a, g, l, w, s))) rfl rfl (k := 32 + 3 * b + 2) (by omega) (er_fa (K := (he, ke, ki, fi, fa, or, mi, a, g, l, w, s)) v1 (by omega)) ?_
      refine me_ifN (C := (nI (kg fa j)) ≤ (nI (kg fa b))) (nI_lei (a := kg fa j) (b := kg fa b) (by omega)) (fun f => rfl) (fun h3 => ?_) (fun h3 => ?_)
      · refine me_seg 1 (pc1 := 101) (ls1 := [some (.ref 138), some (.int 2), some (.int (v ||| ((1 : Int32) <<< ((nI j) &&& 31)))), some (.int (nI b)), some (.int ((nI j) + 1))]) (st1 := []) (M1 := (mk_M c n m kk (rT (he, ke, ki, fi, fa, or, mi, a, g, l, w, s) xm xi xw im le nu rf ln nn vp xn xc vs))) (fun f => rfl) ?_
        refine me_l (fun q_ => [some (.ref 138), some (.int 2), some (.int (v ||| ((1 : Int32) <<< ((nI j) &&& 31)))), some (.int (nI b)), some (.int q_)]) (nI_add j 1) ?_
        refine me_seg 1 (pc1 := 24) (ls1 := [some (.ref 138), some (.int 2), some (.int (v ||| ((1 : Int32) <<< ((nI j) &&& 31)))), some (.int (nI b)), some (.int (nI (j + 1)))]) (st1 := []) (M1 := (mk_M c n m kk (rT (he, ke, ki, fi, fa, or, mi, a, g, l, w, s) xm xi xw im le nu rf ln nn vp xn xc vs))) (fun f => rfl) ?_
        exact IH (j + 1) (v ||| ((1 : Int32) <<< ((nI j) &&& 31))) b xm xw vp xn xc vs (by omega) ⟨(by assumption), (by assumption), (by assumption), (by assumption)⟩ (by omega) (g1.trans (kwp_1 (F := (fun j => if w + 13 ≤ khold (kg ki j) (kg fi j) then 1 else 0)) (j := j) (k_if1 (by omega)))) (g2.trans (kcl_f (by omega)))
      · refine me_seg 3 (pc1 := 101) (ls1 := [some (.ref 138), some (.int 2), some (.int (v ||| ((1 : Int32) <<< ((nI j) &&& 31)))), some (.int (nI j)), some (.int ((nI j) + 1))]) (st1 := []) (M1 := (mk_M c n m kk (rT (he, ke, ki, fi, fa, or, mi, a, g, l, w, s) xm xi xw im le nu rf ln nn vp xn xc vs))) (fun f => rfl) ?_
        refine me_l (fun q_ => [some (.ref 138), some (.int 2), some (.int (v ||| ((1 : Int32) <<< ((nI j) &&& 31)))), some (.int (nI j)), some (.int q_)]) (nI_add j 1) ?_
        refine me_seg 1 (pc1 := 24) (ls1 := [some (.ref 138), some (.int 2), some (.int (v ||| ((1 : Int32) <<< ((nI j) &&& 31)))), some (.int (nI j)), some (.int (nI (j + 1)))]) (st1 := []) (M1 := (mk_M c n m kk (rT (he, ke, ki, fi, fa, or, mi, a, g, l, w, s) xm xi xw im le nu rf ln nn vp xn xc vs))) (fun f => rfl) ?_
        exact IH (j + 1) (v ||| ((1 : Int32) <<< ((nI j) &&& 31))) j xm xw vp xn xc vs (by omega) ⟨(by assumption), (by assumption), (by assumption), (by assumption)⟩ (by omega) (g1.trans (kwp_1 (F := (fun j => if w + 13 ≤ khold (kg ki j) (kg fi j) then 1 else 0)) (j := j) (k_if1 (by omega)))) (g2.trans (kcl_t (by omega)))
set_option maxRecDepth 100000 in
theorem tm_easy_2 (he ke ki fi fa or : List Nat) (mi a g l w s : Nat) (xi : List Int32) (im : Nat) (le nu rf : List Nat) (ln nn : Nat) (c : cC) (n m kk : kG) (hA : iA (he, ke, ki, fi, fa, or, mi, a, g, l, w, s)) (hC : iC nu nn) (xm xw : List Int32) (vp : Int32) (xn xc : List Int32) (vs : Int32) (hR : iR xm xw xn xc) : mm_E 193 0 [some (.ref 138), some (.int 2), none, none, none] [] (mk_M c n m kk (rT (he, ke, ki, fi, fa, or, mi, a, g, l, w, s) xm xi xw im le nu rf ln nn vp xn xc vs)) (pM (fun r => r = some (.int ((if mi = 0 then (-9 : Int32) else nI (kcl fa (mi - 1) 1 0))))) (he, ke, ki, fi, fa, or, mi, a, g, l, w, s) xi im le nu rf ln nn c n m kk) := by
  obtain ⟨hV, hst⟩ := id hA
  have hst2 : s ≤ 999 := hst
  obtain ⟨v1, v2, v3, v4, v5, v6, v7, v8, v9, v10, v11, v12, v13, v14, v15, v16⟩ := id hV
  have v6l := kO_len mi v7 or v6
  obtain ⟨c1, c2, c3⟩ := id hC
  obtain ⟨r1, r2, r3, r4⟩ := id hR
  refine me_seg 3 (pc1 := 3) (ls1 := [some (.ref 138), some (.int 2), none, none, none]) (st1 := [.int 2, .int 0, .int 2]) (M1 := (mk_M c n m kk (rT (he, ke, ki, fi, fa, or, mi, a, g, l, w, s) xm xi xw im le nu rf ln nn vp xn xc vs))) (fun f => rfl) ?_
  refine me_call (y := 135) (y0 := 6) (L := [some (.int 2), some (.int 0), some (.int 2)]) (rest := []) (rr := some (.int 1)) (M1 := (mk_M c n m kk (rT (he, ke, ki, fi, fa, or, mi, a, g, l, w, s) xm xi xw im le nu rf ln nn vp xn xc vs))) (fun f => rfl) (by
      exact mr_ret 9 (fun f => rfl)) ?_
  refine me_seg 7 (pc1 := 24) (ls1 := [some (.ref 138), some (.int 2), some (.int 0), some (.int (-9)), some (.int 0)]) (st1 := []) (M1 := (mk_M c n m kk (rT (he, ke, ki, fi, fa, or, mi, a, g, l, w, s) xm xi xw im le nu rf ln nn vp xn xc vs))) (fun f => rfl) ?_
  rcases Nat.eq_zero_or_pos mi with h0 | h0
  · refine me_seg 4 (pc1 := 31) (ls1 := [some (.ref 138), some (.int 2), some (.int 0), some (.int (-9)), some (.int 0)]) (st1 := [.int 0, .ref 139, .int 0]) (M1 := (mk_M c n m kk (rT (he, ke, ki, fi, fa, or, mi, a, g, l, w, s) xm xi xw im le nu rf ln nn vp xn xc vs))) (fun f => rfl) ?_
    refine me_ldn (xs := (er (he, ke, ki, fi, fa, or, mi, a, g, l, w, s))) rfl rfl (k := 0) (by decide) rfl ?_
    refine me_t (C := (nI mi) ≤ 0) (nI_let (a := mi) (b := 0) (by omega)) (fun f => rfl) ?_
    refine me_ret 7 (r := some (.int (-9))) (M1 := (mk_M c n m kk (rT (he, ke, ki, fi, fa, or, mi, a, g, l, w, s) xm xi xw im le nu rf ln nn vp xn xc vs))) (fun f => rfl) ?_
    exact ⟨(by rw [if_pos h0]), _, _, _, _, _, _, rfl, ⟨(by assumption), (by assumption), (by assumption), (by assumption)⟩⟩
  · have hh := khold_le (kg ki 0) (v15 0)
    refine me_seg 4 (pc1 := 31) (ls1 := [some (.ref 138), some (.int 2), some (.int 0), some (.int (-9)), some (.int 0)]) (st1 := [.int 0, .ref 139, .int 0]) (M1 := (mk_M c n m kk (rT (he, ke, ki, fi, fa, or, mi, a, g, l, w, s) xm xi xw im le nu rf ln nn vp xn xc vs))) (fun f => rfl) ?_
    refine me_ldn (xs := (er (he, ke, ki, fi, fa, or, mi, a, g, l, w, s))) rfl rfl (k := 0) (by decide) rfl ?_
    refine me_f (C := (nI mi) ≤ 0) (nI_lef (a := mi) (b := 0) (by omega)) (fun f => rfl) ?_
    refine me_seg 4 (pc1 := 42) (ls1 := [some (.ref 138), some (.int 2), some (.int 0), some (.int (-9)), some (.int 0)]) (st1 := [.int 0, .ref 139, .int 0]) (M1 := (mk_M c n m kk (rT (he, ke, ki, fi, fa, or, mi, a, g, l, w, s) xm xi xw im le nu rf ln nn vp xn xc vs))) (fun f => rfl) ?_
    refine me_call (y := 152) (y0 := 45) (L := [some (.ref 139), some (.int 0)]) (rest := [.int 0]) (rr := some (.int (nI (khold (kg ki 0) (kg fi 0))))) (M1 := (mk_M c n m kk (rT (he, ke, ki, fi, fa, or, mi, a, g, l, w, s) xm xi xw im le nu rf ln nn vp xn xc vs))) (fun f => rfl) (rl_s c n m kk (rT (he, ke, ki, fi, fa, or, mi, a, g, l, w, s) xm xi xw im le nu rf ln nn vp xn xc vs) (rc_hold_s he ke ki fi fa or mi a g l w s 0 (by omega) hV) rfl) ?_
    refine me_seg 3 (pc1 := 50) (ls1 := [some (.ref 138), some (.int 2), some (.int 0), some (.int (-9)), some (.int 0)]) (st1 := [.int 5, .ref 139, .int (nI (khold (kg ki 0) (kg fi 0))), .int 0]) (M1 := (mk_M c n m kk (rT (he, ke, ki, fi, fa, or, mi, a, g, l, w, s) xm xi xw im le nu rf ln nn vp xn xc vs))) (fun f => rfl) ?_
    refine me_ldn (xs := (er (he, ke, ki, fi, fa, or, mi, a, g, l, w, s))) rfl rfl (k := 5) (by decide) rfl ?_
    refine me_seg 2 (pc1 := 54) (ls1 := [some (.ref 138), some (.int 2), some (.int 0), some (.int (-9)), some (.int 0)]) (st1 := [.int ((nI w) + (13 : Int32)), .int (nI (khold (kg ki 0) (kg fi 0))), .int 0]) (M1 := (mk_M c n m kk (rT (he, ke, ki, fi, fa, or, mi, a, g, l, w, s) xm xi xw im le nu rf ln nn vp xn xc vs))) (fun f => rfl) ?_
    refine me_v (nI_add w 13) ?_
    refine me_ifN (C := (nI (khold (kg ki 0) (kg fi 0))) < (nI (w + 13))) (nI_lti (a := khold (kg ki 0) (kg fi 0)) (b := w + 13) (by omega)) (fun f => rfl) (fun h81 => ?_) (fun h81 => ?_)
    · refine me_seg 9 (pc1 := 24) (ls1 := [some (.ref 138), some (.int 2), some (.int 0), some (.int 0), some (.int 1)]) (st1 := []) (M1 := (mk_M c n m kk (rT (he, ke, ki, fi, fa, or, mi, a, g, l, w, s) xm xi xw im le nu rf ln nn vp xn xc vs))) (fun f => rfl) ?_
      exact tm_easyL2 he ke ki fi fa or mi a g l w s xi im le nu rf ln nn c n m kk hA hC h0 (kwp (fun j => if w + 13 ≤ khold (kg ki j) (kg fi j) then 1 else 0) mi 0 0) _ rfl (mi - 1) 1 0 0 xm xw vp xn xc vs (by omega) ⟨(by assumption), (by assumption), (by assumption), (by assumption)⟩ (by omega) (by obtain ⟨m1, hm1⟩ : ∃ m1, mi = m1 + 1 := ⟨mi - 1, by omega⟩; rw [hm1, Nat.add_sub_cancel]; exact kwp_0 (F := (fun j => if w + 13 ≤ khold (kg ki j) (kg fi j) then 1 else 0)) (j := 0) (k_if0 (by omega))) rfl
    · refine me_seg 12 (pc1 := 24) (ls1 := [some (.ref 138), some (.int 2), some (.int 1), some (.int 0), some (.int 1)]) (st1 := []) (M1 := (mk_M c n m kk (rT (he, ke, ki, fi, fa, or, mi, a, g, l, w, s) xm xi xw im le nu rf ln nn vp xn xc vs))) (fun f => rfl) ?_
      exact tm_easyL2 he ke ki fi fa or mi a g l w s xi im le nu rf ln nn c n m kk hA hC h0 (kwp (fun j => if w + 13 ≤ khold (kg ki j) (kg fi j) then 1 else 0) mi 0 0) _ rfl (mi - 1) 1 1 0 xm xw vp xn xc vs (by omega) ⟨(by assumption), (by assumption), (by assumption), (by assumption)⟩ (by omega) (by obtain ⟨m1, hm1⟩ : ∃ m1, mi = m1 + 1 := ⟨mi - 1, by omega⟩; rw [hm1, Nat.add_sub_cancel]; exact (kwp_1 (F := (fun j => if w + 13 ≤ khold (kg ki j) (kg fi j) then 1 else 0)) (j := 0) (k_if1 (by omega))).trans (congrArg _ (show (0 : Int32) ||| ((1 : Int32) <<< (nI 0 &&& 31)) = 1 by decide))) rfl
theorem ot_easy {M : mm_H} (hM : kInv M) (x : Int32) : oI 101 193 [some (.ref 100), some (.int x)] [some (.ref 138), some (.int x), none, none, none] M := by
  obtain ⟨K, m, kk, im, le, ln, ys, vt, nu, nn, rf, vw, vq, yc, yh, yg, xm, xi, xw, vp, xn, xc, vs, rfl, hA, hB, hC, hD, hJ, hR, hK⟩ := hM
  obtain ⟨he, ke, ki, fi, fa, or, mi, a, g, l, w, s⟩ := K
  have v7 : mi ≤ 5 := hA.1.2.2.2.2.2.2.1
  rcases k_cs x 3 0 2 rfl rfl with hx | hx | ⟨x_, hx_, rfl⟩
  · exact oe_easy_0 he ke ki fi fa or mi a g l w s m kk im le ln ys vt nu nn rf vw vq yc yh yg xm xi xw vp xn xc vs hA hB hC hD hJ hR hK x hx
  · exact oe_easy_1 he ke ki fi fa or mi a g l w s m kk im le ln ys vt nu nn rf vw vq yc yh yg xm xi xw vp xn xc vs hA hB hC hD hJ hR hK x hx
  · rcases (show x_ = 0 ∨ x_ = 1 ∨ x_ = 2 by omega) with rfl | rfl | rfl
    · exact oI_of ((if mi = 0 then (0 : Int32) else kez a (fun t => if kload he ke a w t ≤ khold (kg ki (kg or 0)) (kg fi (kg or 0)) then 1 else 0) 4 0 0)) hA hB hC hD hK (tc_easy_0 he ke ki fi fa or mi a g l w s im le ln ys vt nu nn rf kk _ hA hC vw vq yc yh yg m hJ) (fun c n m kk => tm_easy_0 he ke ki fi fa or mi a g l w s xi im le nu rf ln nn c n m kk hA hC xm xw vp xn xc vs hR)
    · exact oI_of (kwp (fun j => if w + 13 ≤ khold (kg ki j) (kg fi j) then 1 else 0) mi 0 0) hA hB hC hD hK (tc_easy_1 he ke ki fi fa or mi a g l w s im le ln ys vt nu nn rf kk _ hA hC vw vq yc yh yg m hJ) (fun c n m kk => tm_easy_1 he ke ki fi fa or mi a g l w s xi im le nu rf ln nn c n m kk hA hC xm xw vp xn xc vs hR)
    · exact oI_of ((if mi = 0 then (-9 : Int32) else nI (kcl fa (mi - 1) 1 0))) hA hB hC hD hK (tc_easy_2 he ke ki fi fa or mi a g l w s im le ln ys vt nu nn rf kk _ hA hC vw vq yc yh yg m hJ) (fun c n m kk => tm_easy_2 he ke ki fi fa or mi a g l w s xi im le nu rf ln nn c n m kk hA hC xm xw vp xn xc vs hR)
