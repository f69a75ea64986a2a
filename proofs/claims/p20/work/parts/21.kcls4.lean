set_option maxRecDepth 100000 in
theorem kc_adv0_n (he ke ki fi fa or : List Nat) (mi a g l w s : Nat) (x : Nat) (hx : x < 100) (hV : kV (he, ke, ki, fi, fa, or, mi, a, g, l, w, s)) (hs : s < 2 ^ 30) (hn : knext (he, ke, ki, fi, fa, or, mi, a, g, l, w, s) = none) : mm_R 44 0 [some (.ref 117), some (.int (nI x)), none, none, none] [] (kSn (kr (he, ke, ki, fi, fa, or, mi, a, g, l, w, s))) (none, kSn (kr (kstep (he, ke, ki, fi, fa, or, mi, a, g, l, w, s) x))) := by
  have hV0 : kV (he, ke, ki, fi, fa, or, mi, a, g, l, w, s) := hV
  obtain ⟨v1, v2, v3, v4, v5, v6, v7, v8, v9, v10, v11, v12, v13, v14, v15, v16⟩ := hV
  have v6l := kO_len mi v7 or v6
  have v6t : ∀ i, i < 5 → kg or i < 5 := kO_lt5 mi v7 or v6
  have v60 := v6t 0 (by omega)
  refine mr_seg 1 (pc1 := 1) (ls1 := [some (.ref 117), some (.int (nI x)), none, none, none]) (st1 := [.ref 117]) (M1 := (kSn (kr (he, ke, ki, fi, fa, or, mi, a, g, l, w, s)))) (fun f => rfl) ?_
  refine mr_call (y := 45) (y0 := 4) (L := [some (.ref 117)]) (rest := []) (rr := some (.int (-9))) (M1 := (kSn (kr (he, ke, ki, fi, fa, or, mi, a, g, l, w, s)))) (fun f => rfl) (mr_eq (kc_next_n he ke ki fi fa or mi a g l w s hV0 hs) (by rw [hn]; rfl)) ?_
  refine mr_seg 4 (pc1 := 10) (ls1 := [some (.ref 117), some (.int (nI x)), some (.int (-9)), none, none]) (st1 := [.int (-9), .int (nI a)]) (M1 := (kSn (kr (he, ke, ki, fi, fa, or, mi, a, g, l, w, s)))) (fun f => rfl) ?_
  refine mr_call (y := 48) (y0 := 13) (L := [some (.int (nI a)), some (.int (-9))]) (rest := []) (rr := some (.int (-9))) (M1 := (kSn (kr (he, ke, ki, fi, fa, or, mi, a, g, l, w, s)))) (fun f => rfl) (kc_bey9 (by omega) _) ?_
  refine mr_seg 6 (pc1 := 21) (ls1 := [some (.ref 117), some (.int (nI x)), some (.int (-9)), some (.int (-9)), none]) (st1 := [.int ((nI s) + 1), .ref 117]) (M1 := (kSn (kr (he, ke, ki, fi, fa, or, mi, a, g, l, w, s)))) (fun f => rfl) ?_
  refine mr_v (nI_add s 1) ?_
  refine mr_seg 1 (pc1 := 24) (ls1 := [some (.ref 117), some (.int (nI x)), some (.int (-9)), some (.int (-9)), none]) (st1 := []) (M1 := (kSnx (he.map nI) (ke.map nI) (ki.map nI) (fi.map nI) (fa.map nI) (or.map nI) (nI mi) (nI a) (nI g) (nI l) (nI w) (nI (s + 1)))) (fun f => rfl) ?_
  refine mr_M (kSn_k he ke ki fi fa or mi a g l w (s + 1)) ?_
  refine mr_eq (mr_ret 4 (o := (none, (kSn (kr (he, ke, ki, fi, fa, or, mi, a, g, l, w, s + 1))))) (fun f => rfl)) ?_
  exact congrArg (fun q : kK => ((none : Option Value), kSn (kr q))) (kjs_n (x := x) hn).symm
set_option maxRecDepth 100000 in
theorem kc_adv1_n (he ke ki fi fa or : List Nat) (mi a g l w s : Nat) (x : Nat) (hx : x < 100) (hV : kV (he, ke, ki, fi, fa, or, mi, a, g, l, w, s)) (hs : s < 2 ^ 30) (y : Nat) (hn : knext (he, ke, ki, fi, fa, or, mi, a, g, l, w, s) = some y) (hy : y < 4) (hb : kbey a y = none) : mm_R 44 0 [some (.ref 117), some (.int (nI x)), none, none, none] [] (kSn (kr (he, ke, ki, fi, fa, or, mi, a, g, l, w, s))) (none, kSn (kr (kstep (he, ke, ki, fi, fa, or, mi, a, g, l, w, s) x))) := by
  have hV0 : kV (he, ke, ki, fi, fa, or, mi, a, g, l, w, s) := hV
  obtain ⟨v1, v2, v3, v4, v5, v6, v7, v8, v9, v10, v11, v12, v13, v14, v15, v16⟩ := hV
  have v6l := kO_len mi v7 or v6
  have v6t : ∀ i, i < 5 → kg or i < 5 := kO_lt5 mi v7 or v6
  have v60 := v6t 0 (by omega)
  refine mr_seg 1 (pc1 := 1) (ls1 := [some (.ref 117), some (.int (nI x)), none, none, none]) (st1 := [.ref 117]) (M1 := (kSn (kr (he, ke, ki, fi, fa, or, mi, a, g, l, w, s)))) (fun f => rfl) ?_
  refine mr_call (y := 45) (y0 := 4) (L := [some (.ref 117)]) (rest := []) (rr := some (.int (nI y))) (M1 := (kSn (kr (he, ke, ki, fi, fa, or, mi, a, g, l, w, s)))) (fun f => rfl) (mr_eq (kc_next_n he ke ki fi fa or mi a g l w s hV0 hs) (by rw [hn]; rfl)) ?_
  refine mr_seg 4 (pc1 := 10) (ls1 := [some (.ref 117), some (.int (nI x)), some (.int (nI y)), none, none]) (st1 := [.int (nI y), .int (nI a)]) (M1 := (kSn (kr (he, ke, ki, fi, fa, or, mi, a, g, l, w, s)))) (fun f => rfl) ?_
  refine mr_call (y := 48) (y0 := 13) (L := [some (.int (nI a)), some (.int (nI y))]) (rest := []) (rr := some (.int (-9))) (M1 := (kSn (kr (he, ke, ki, fi, fa, or, mi, a, g, l, w, s)))) (fun f => rfl) (mr_eq (kc_bey (c := a) (w := y) (by omega) hy _) (by rw [hb]; rfl)) ?_
  refine mr_seg 6 (pc1 := 21) (ls1 := [some (.ref 117), some (.int (nI x)), some (.int (nI y)), some (.int (-9)), none]) (st1 := [.int ((nI s) + 1), .ref 117]) (M1 := (kSn (kr (he, ke, ki, fi, fa, or, mi, a, g, l, w, s)))) (fun f => rfl) ?_
  refine mr_v (nI_add s 1) ?_
  refine mr_seg 1 (pc1 := 24) (ls1 := [some (.ref 117), some (.int (nI x)), some (.int (nI y)), some (.int (-9)), none]) (st1 := []) (M1 := (kSnx (he.map nI) (ke.map nI) (ki.map nI) (fi.map nI) (fa.map nI) (or.map nI) (nI mi) (nI a) (nI g) (nI l) (nI w) (nI (s + 1)))) (fun f => rfl) ?_
  refine mr_M (kSn_k he ke ki fi fa or mi a g l w (s + 1)) ?_
  refine mr_eq (mr_ret 4 (o := (none, (kSn (kr (he, ke, ki, fi, fa, or, mi, a, g, l, w, s + 1))))) (fun f => rfl)) ?_
  exact congrArg (fun q : kK => ((none : Option Value), kSn (kr q))) (kjs_b (x := x) hn hb).symm
set_option maxRecDepth 100000 in
theorem kc_adv2_n (he ke ki fi fa or : List Nat) (mi a g l w s : Nat) (x : Nat) (hx : x < 100) (hV : kV (he, ke, ki, fi, fa, or, mi, a, g, l, w, s)) (hs : s < 2 ^ 30) (y t : Nat) (hn : knext (he, ke, ki, fi, fa, or, mi, a, g, l, w, s) = some y) (hy : y < 4) (hb : kbey a y = some t) (hmi : 0 < mi) : mm_R 44 0 [some (.ref 117), some (.int (nI x)), none, none, none] [] (kSn (kr (he, ke, ki, fi, fa, or, mi, a, g, l, w, s))) (none, kSn (kr (kstep (he, ke, ki, fi, fa, or, mi, a, g, l, w, s) x))) := by
  have hV0 : kV (he, ke, ki, fi, fa, or, mi, a, g, l, w, s) := hV
  obtain ⟨v1, v2, v3, v4, v5, v6, v7, v8, v9, v10, v11, v12, v13, v14, v15, v16⟩ := hV
  have v6l := kO_len mi v7 or v6
  have v6t : ∀ i, i < 5 → kg or i < 5 := kO_lt5 mi v7 or v6
  have v60 := v6t 0 (by omega)
  have ht := kbey_lt v8 hb
  have hV1 : kV (he, ke, ki, fi, fa, or, mi, a, g, l, w, s + 1) := hV0
  have q1 := v12 t
  have q2 := v12 a
  have q3 := v13 t
  have q4 : kload he ke a w t ≤ 51 := by unfold kload; omega
  have w15 := v15 (kg or 0)
  have q5 : khold (kg ki (kg or 0)) (kg fi (kg or 0)) ≤ 34 := by unfold khold; split <;> omega
  have w16 := v16 (kg or 0)
  refine mr_seg 1 (pc1 := 1) (ls1 := [some (.ref 117), some (.int (nI x)), none, none, none]) (st1 := [.ref 117]) (M1 := (kSn (kr (he, ke, ki, fi, fa, or, mi, a, g, l, w, s)))) (fun f => rfl) ?_
  refine mr_call (y := 45) (y0 := 4) (L := [some (.ref 117)]) (rest := []) (rr := some (.int (nI y))) (M1 := (kSn (kr (he, ke, ki, fi, fa, or, mi, a, g, l, w, s)))) (fun f => rfl) (mr_eq (kc_next_n he ke ki fi fa or mi a g l w s hV0 hs) (by rw [hn]; rfl)) ?_
  refine mr_seg 4 (pc1 := 10) (ls1 := [some (.ref 117), some (.int (nI x)), some (.int (nI y)), none, none]) (st1 := [.int (nI y), .int (nI a)]) (M1 := (kSn (kr (he, ke, ki, fi, fa, or, mi, a, g, l, w, s)))) (fun f => rfl) ?_
  refine mr_call (y := 48) (y0 := 13) (L := [some (.int (nI a)), some (.int (nI y))]) (rest := []) (rr := some (.int (nI t))) (M1 := (kSn (kr (he, ke, ki, fi, fa, or, mi, a, g, l, w, s)))) (fun f => rfl) (mr_eq (kc_bey (c := a) (w := y) (by omega) hy _) (by rw [hb]; rfl)) ?_
  refine mr_seg 6 (pc1 := 21) (ls1 := [some (.ref 117), some (.int (nI x)), some (.int (nI y)), some (.int (nI t)), none]) (st1 := [.int ((nI s) + 1), .ref 117]) (M1 := (kSn (kr (he, ke, ki, fi, fa, or, mi, a, g, l, w, s)))) (fun f => rfl) ?_
  refine mr_v (nI_add s 1) ?_
  refine mr_seg 1 (pc1 := 24) (ls1 := [some (.ref 117), some (.int (nI x)), some (.int (nI y)), some (.int (nI t)), none]) (st1 := []) (M1 := (kSnx (he.map nI) (ke.map nI) (ki.map nI) (fi.map nI) (fa.map nI) (or.map nI) (nI mi) (nI a) (nI g) (nI l) (nI w) (nI (s + 1)))) (fun f => rfl) ?_
  refine mr_M (kSn_k he ke ki fi fa or mi a g l w (s + 1)) ?_
  refine mr_seg 2 (pc1 := 27) (ls1 := [some (.ref 117), some (.int (nI x)), some (.int (nI y)), some (.int (nI t)), none]) (st1 := [.int (-9), .int (nI t)]) (M1 := (kSn (kr (he, ke, ki, fi, fa, or, mi, a, g, l, w, s + 1)))) (fun f => rfl) ?_
  refine mr_f (C := (nI t) = (-9)) (k_n9 (by omega)) (fun f => rfl) ?_
  refine mr_seg 3 (pc1 := 36) (ls1 := [some (.ref 117), some (.int (nI x)), some (.int (nI y)), some (.int (nI t)), none]) (st1 := [.int 0, .ref 123]) (M1 := (kSn (kr (he, ke, ki, fi, fa, or, mi, a, g, l, w, s + 1)))) (fun f => rfl) ?_
  refine mr_ldk (l0 := or) rfl rfl (k := 0) (by omega) ?_
  refine mr_seg 3 (pc1 := 41) (ls1 := [some (.ref 117), some (.int (nI x)), some (.int (nI y)), some (.int (nI t)), some (.int (nI (kg or 0)))]) (st1 := [.int (nI t), .ref 117]) (M1 := (kSn (kr (he, ke, ki, fi, fa, or, mi, a, g, l, w, s + 1)))) (fun f => rfl) ?_
  refine mr_call (y := 54) (y0 := 44) (L := [some (.ref 117), some (.int (nI t)), none]) (rest := []) (rr := some (.int (nI (kload he ke a w t)))) (M1 := (kSn (kr (he, ke, ki, fi, fa, or, mi, a, g, l, w, s + 1)))) (fun f => rfl) (kc_load_n he ke ki fi fa or mi a g l w (s + 1) t ht hV1) ?_
  refine mr_seg 2 (pc1 := 46) (ls1 := [some (.ref 117), some (.int (nI x)), some (.int (nI y)), some (.int (nI t)), some (.int (nI (kg or 0)))]) (st1 := [.int ((nI (kload he ke a w t)) + (nI x))]) (M1 := (kSn (kr (he, ke, ki, fi, fa, or, mi, a, g, l, w, s + 1)))) (fun f => rfl) ?_
  refine mr_v (nI_add (kload he ke a w t) x) ?_
  refine mr_seg 2 (pc1 := 49) (ls1 := [some (.ref 117), some (.int (nI x)), some (.int (nI y)), some (.int (nI t)), some (.int (nI (kg or 0)))]) (st1 := [.int (nI (kg or 0)), .ref 117, .int (nI (kload he ke a w t + x))]) (M1 := (kSn (kr (he, ke, ki, fi, fa, or, mi, a, g, l, w, s + 1)))) (fun f => rfl) ?_
  refine mr_call (y := 55) (y0 := 52) (L := [some (.ref 117), some (.int (nI (kg or 0)))]) (rest := [.int (nI (kload he ke a w t + x))]) (rr := some (.int (nI (khold (kg ki (kg or 0)) (kg fi (kg or 0)))))) (M1 := (kSn (kr (he, ke, ki, fi, fa, or, mi, a, g, l, w, s + 1)))) (fun f => rfl) (kc_str_n he ke ki fi fa or mi a g l w (s + 1) (kg or 0) v60 hV1) ?_
  refine mr_ifN (C := (nI (kload he ke a w t + x)) ≤ (nI (khold (kg ki (kg or 0)) (kg fi (kg or 0))))) (nI_lei (a := kload he ke a w t + x) (b := khold (kg ki (kg or 0)) (kg fi (kg or 0))) (by omega)) (fun f => rfl) (fun h1 => ?_) (fun h1 => ?_)
  · refine mr_seg 3 (pc1 := 90) (ls1 := [some (.ref 117), some (.int (nI x)), some (.int (nI y)), some (.int (nI t)), some (.int (nI (kg or 0)))]) (st1 := []) (M1 := (kSnx (he.map nI) (ke.map nI) (ki.map nI) (fi.map nI) (fa.map nI) (or.map nI) (nI mi) (nI t) (nI g) (nI l) (nI w) (nI (s + 1)))) (fun f => rfl) ?_
    refine mr_M (kSn_k he ke ki fi fa or mi t g l w (s + 1)) ?_
    refine mr_seg 3 (pc1 := 95) (ls1 := [some (.ref 117), some (.int (nI x)), some (.int (nI y)), some (.int (nI t)), some (.int (nI (kg or 0)))]) (st1 := []) (M1 := (kSnx (he.map nI) (ke.map nI) (ki.map nI) (fi.map nI) (fa.map nI) (or.map nI) (nI mi) (nI t) (nI g) (nI y) (nI w) (nI (s + 1)))) (fun f => rfl) ?_
    refine mr_M (kSn_k he ke ki fi fa or mi t g y w (s + 1)) ?_
    refine mr_eq (mr_ret 1 (o := (none, (kSn (kr (he, ke, ki, fi, fa, or, mi, t, g, y, w, s + 1))))) (fun f => rfl)) ?_
    exact congrArg (fun q : kK => ((none : Option Value), kSn (kr q))) (kjs_t (x := x) hn hb (show ¬ (khold (kg ki (kg or 0)) (kg fi (kg or 0)) < kload he ke a w t + x) by omega)).symm
  · refine mr_seg 7 (pc1 := 69) (ls1 := [some (.ref 117), some (.int (nI x)), some (.int (nI y)), some (.int (nI t)), some (.int (nI (kg or 0)))]) (st1 := [.int (nI (kg or 0)), .ref 122, .int 99, .int (nI (kg or 0)), .ref 122]) (M1 := (kSn (kr (he, ke, ki, fi, fa, or, mi, a, g, l, w, s + 1)))) (fun f => rfl) ?_
    refine mr_ldk (l0 := fa) rfl rfl (k := kg or 0) (by omega) ?_
    refine mr_seg 2 (pc1 := 72) (ls1 := [some (.ref 117), some (.int (nI x)), some (.int (nI y)), some (.int (nI t)), some (.int (nI (kg or 0)))]) (st1 := [.int ((nI (kg fa (kg or 0))) + 1), .int 99, .int (nI (kg or 0)), .ref 122]) (M1 := (kSn (kr (he, ke, ki, fi, fa, or, mi, a, g, l, w, s + 1)))) (fun f => rfl) ?_
    refine mr_v (nI_add (kg fa (kg or 0)) 1) ?_
    refine mr_seg 1 (pc1 := 75) (ls1 := [some (.ref 117), some (.int (nI x)), some (.int (nI y)), some (.int (nI t)), some (.int (nI (kg or 0)))]) (st1 := [.int (if (nI (kg fa (kg or 0) + 1)) < 99 then (nI (kg fa (kg or 0) + 1)) else 99), .int (nI (kg or 0)), .ref 122]) (M1 := (kSn (kr (he, ke, ki, fi, fa, or, mi, a, g, l, w, s + 1)))) (fun f => rfl) ?_
    refine mr_v (k_min (a := 99) (b := kg fa (kg or 0) + 1) (by omega) (by omega)) ?_
    refine mr_stk (l0 := fa) (M2 := (kSn (kr (he, ke, ki, fi, fa.set (kg or 0) (min 99 (kg fa (kg or 0) + 1)), or, mi, a, g, l, w, s + 1)))) rfl rfl (k := kg or 0) (v := (min 99 (kg fa (kg or 0) + 1))) (by omega) rfl ?_
    refine mr_seg 2 (pc1 := 79) (ls1 := [some (.ref 117), some (.int (nI x)), some (.int (nI y)), some (.int (nI t)), some (.int (nI (kg or 0)))]) (st1 := [.int (nI (kg or 0)), .ref 117]) (M1 := (kSn (kr (he, ke, ki, fi, fa.set (kg or 0) (min 99 (kg fa (kg or 0) + 1)), or, mi, a, g, l, w, s + 1)))) (fun f => rfl) ?_
    refine mr_call (y := 42) (y0 := 82) (L := [some (.ref 117), some (.int (nI (kg or 0))), none, none]) (rest := []) (rr := none) (M1 := (kSn (kr (he, ke, ki, fi, fa.set (kg or 0) (min 99 (kg fa (kg or 0) + 1)), klast or mi (kg or 0), mi, a, g, l, w, s + 1)))) (fun f => rfl) (kc_last_n he ke ki fi (fa.set (kg or 0) (min 99 (kg fa (kg or 0) + 1))) or mi a g l w (s + 1) (kg or 0) (kO_lt mi v7 or v6 0 (by omega)) v6 v7) ?_
    refine mr_eq (mr_ret 2 (o := (none, (kSn (kr (he, ke, ki, fi, fa.set (kg or 0) (min 99 (kg fa (kg or 0) + 1)), klast or mi (kg or 0), mi, a, g, l, w, s + 1))))) (fun f => rfl)) ?_
    exact congrArg (fun q : kK => ((none : Option Value), kSn (kr q))) (kjs_f (x := x) hn hb (show khold (kg ki (kg or 0)) (kg fi (kg or 0)) < kload he ke a w t + x by omega)).symm
theorem kc_adv_n (he ke ki fi fa or : List Nat) (mi a g l w s : Nat) (x : Nat) (hx : x < 100) (hV : kV (he, ke, ki, fi, fa, or, mi, a, g, l, w, s)) (hs : s < 2 ^ 30) : mm_R 44 0 [some (.ref 117), some (.int (nI x)), none, none, none] [] (kSn (kr (he, ke, ki, fi, fa, or, mi, a, g, l, w, s))) (none, kSn (kr (kstep (he, ke, ki, fi, fa, or, mi, a, g, l, w, s) x))) := by
  cases hn : knext (he, ke, ki, fi, fa, or, mi, a, g, l, w, s) with
  | none => exact kc_adv0_n he ke ki fi fa or mi a g l w s x hx hV hs hn
  | some y =>
    have hy := knext_lt hV hn
    cases hb : kbey a y with
    | none => exact kc_adv1_n he ke ki fi fa or mi a g l w s x hx hV hs y hn hy hb
    | some t => exact kc_adv2_n he ke ki fi fa or mi a g l w s x hx hV hs y t hn hy hb (knext_mi hn)
