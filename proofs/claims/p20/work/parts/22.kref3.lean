set_option maxRecDepth 100000 in
theorem rc_step1_m (he ke ki fi fa or : List Nat) (mi a g l w s : Nat) (x : Nat) (hx : x < 100) (hV : kV (he, ke, ki, fi, fa, or, mi, a, g, l, w, s)) (hs : s < 2 ^ 30) (y : Nat) (hn : knext (he, ke, ki, fi, fa, or, mi, a, g, l, w, s) = some y) (hy : y < 4) (hb : kbey a y = none) (hmi : 0 < mi) (hne : ¬ a = g) (hy0 : kway (kg ki (kg or 0)) a (ksgn a g) l (s + 1) = y) : mm_R 146 0 [some (.ref 140), some (.int (nI x)), none, none, none] [] (rSm (er (he, ke, ki, fi, fa, or, mi, a, g, l, w, s))) (none, rSm (er (kstep (he, ke, ki, fi, fa, or, mi, a, g, l, w, s) x))) := by
  have hV0 : kV (he, ke, ki, fi, fa, or, mi, a, g, l, w, s) := hV
  obtain ⟨v1, v2, v3, v4, v5, v6, v7, v8, v9, v10, v11, v12, v13, v14, v15, v16⟩ := hV
  have v6l := kO_len mi v7 or v6
  have v6t : ∀ i, i < 5 → kg or i < 5 := kO_lt5 mi v7 or v6
  have v60 := v6t 0 (by omega)
  have hV1 : kV (he, ke, ki, fi, fa, or, mi, a, g, l, w, s + 1) := hV0
  refine mr_seg 3 (pc1 := 3) (ls1 := [some (.ref 140), some (.int (nI x)), none, none, none]) (st1 := [.int 1, .ref 140, .int 1, .ref 140]) (M1 := (rSm (er (he, ke, ki, fi, fa, or, mi, a, g, l, w, s)))) (fun f => rfl) ?_
  refine mr_ldn (xs := (er (he, ke, ki, fi, fa, or, mi, a, g, l, w, s))) rfl rfl (k := 1) (by decide) rfl ?_
  refine mr_seg 2 (pc1 := 6) (ls1 := [some (.ref 140), some (.int (nI x)), none, none, none]) (st1 := [.int ((nI s) + 1), .int 1, .ref 140]) (M1 := (rSm (er (he, ke, ki, fi, fa, or, mi, a, g, l, w, s)))) (fun f => rfl) ?_
  refine mr_v (nI_add s 1) ?_
  refine mr_stn (xs := (er (he, ke, ki, fi, fa, or, mi, a, g, l, w, s))) (ys := (er (he, ke, ki, fi, fa, or, mi, a, g, l, w, s + 1))) (M2 := (rSm (er (he, ke, ki, fi, fa, or, mi, a, g, l, w, s + 1)))) rfl rfl (k := 1) (by decide) (by rw [er_leq (K := (he, ke, ki, fi, fa, or, mi, a, g, l, w, s)) v1 v6l]; decide) (er_s1 (v := s + 1)) rfl ?_
  refine mr_seg 2 (pc1 := 9) (ls1 := [some (.ref 140), some (.int (nI x)), none, none, none]) (st1 := [.int 0, .ref 140]) (M1 := (rSm (er (he, ke, ki, fi, fa, or, mi, a, g, l, w, s + 1)))) (fun f => rfl) ?_
  refine mr_ldn (xs := (er (he, ke, ki, fi, fa, or, mi, a, g, l, w, s + 1))) rfl rfl (k := 0) (by decide) rfl ?_
  refine mr_f (C := (nI mi) = 0) (fun e => absurd ((nI_eqi (a := mi) (b := 0) (by omega)).mp e) (by omega)) (fun f => rfl) ?_
  refine mr_seg 2 (pc1 := 15) (ls1 := [some (.ref 140), some (.int (nI x)), none, none, none]) (st1 := [.int 2, .ref 140]) (M1 := (rSm (er (he, ke, ki, fi, fa, or, mi, a, g, l, w, s + 1)))) (fun f => rfl) ?_
  refine mr_ldn (xs := (er (he, ke, ki, fi, fa, or, mi, a, g, l, w, s + 1))) rfl rfl (k := 2) (by decide) rfl ?_
  refine mr_seg 2 (pc1 := 18) (ls1 := [some (.ref 140), some (.int (nI x)), none, none, none]) (st1 := [.int 3, .ref 140, .int (nI a)]) (M1 := (rSm (er (he, ke, ki, fi, fa, or, mi, a, g, l, w, s + 1)))) (fun f => rfl) ?_
  refine mr_ldn (xs := (er (he, ke, ki, fi, fa, or, mi, a, g, l, w, s + 1))) rfl rfl (k := 3) (by decide) rfl ?_
  refine mr_f (C := (nI a) = (nI g)) (fun e => hne ((nI_eq (by omega) (by omega)).mp e)) (fun f => rfl) ?_
  refine mr_seg 2 (pc1 := 26) (ls1 := [some (.ref 140), some (.int (nI x)), none, none, none]) (st1 := [.int 47, .ref 140]) (M1 := (rSm (er (he, ke, ki, fi, fa, or, mi, a, g, l, w, s + 1)))) (fun f => rfl) ?_
  refine mr_ldn (xs := (er (he, ke, ki, fi, fa, or, mi, a, g, l, w, s + 1))) rfl rfl (k := 47) (by decide) (er_or (K := (he, ke, ki, fi, fa, or, mi, a, g, l, w, s + 1)) v1 v6l (j := 0) (by decide)) ?_
  refine mr_seg 5 (pc1 := 32) (ls1 := [some (.ref 140), some (.int (nI x)), some (.int (nI (kg or 0))), none, none]) (st1 := [.int 1, .ref 140, .int (nI (kg or 0)), .ref 140]) (M1 := (rSm (er (he, ke, ki, fi, fa, or, mi, a, g, l, w, s + 1)))) (fun f => rfl) ?_
  refine mr_ldn (xs := (er (he, ke, ki, fi, fa, or, mi, a, g, l, w, s + 1))) rfl rfl (k := 1) (by decide) rfl ?_
  refine mr_call (y := 147) (y0 := 36) (L := [some (.ref 140), some (.int (nI (kg or 0))), some (.int (nI (s + 1))), none, none, none]) (rest := []) (rr := some (.int (nI y))) (M1 := (rSm (er (he, ke, ki, fi, fa, or, mi, a, g, l, w, s + 1)))) (fun f => rfl) (mr_eq (rc_way_m he ke ki fi fa or mi a g l w (s + 1) (kg or 0) (s + 1) v60 (by omega) hV1 hne) (by rw [hy0])) ?_
  refine mr_seg 3 (pc1 := 39) (ls1 := [some (.ref 140), some (.int (nI x)), some (.int (nI (kg or 0))), some (.int (nI y)), none]) (st1 := [.int 2, .ref 140]) (M1 := (rSm (er (he, ke, ki, fi, fa, or, mi, a, g, l, w, s + 1)))) (fun f => rfl) ?_
  refine mr_ldn (xs := (er (he, ke, ki, fi, fa, or, mi, a, g, l, w, s + 1))) rfl rfl (k := 2) (by decide) rfl ?_
  refine mr_seg 1 (pc1 := 41) (ls1 := [some (.ref 140), some (.int (nI x)), some (.int (nI (kg or 0))), some (.int (nI y)), none]) (st1 := [.int (nI y), .int (nI a)]) (M1 := (rSm (er (he, ke, ki, fi, fa, or, mi, a, g, l, w, s + 1)))) (fun f => rfl) ?_
  refine mr_call (y := 149) (y0 := 44) (L := [some (.int (nI a)), some (.int (nI y))]) (rest := []) (rr := some (.int (-9))) (M1 := (rSm (er (he, ke, ki, fi, fa, or, mi, a, g, l, w, s + 1)))) (fun f => rfl) (mr_eq (rc_bey (c := a) (w := y) (by omega) hy _) (by rw [hb]; rfl)) ?_
  refine mr_eq (mr_ret 4 (o := (none, (rSm (er (he, ke, ki, fi, fa, or, mi, a, g, l, w, s + 1))))) (fun f => rfl)) ?_
  exact congrArg (fun q : kK => ((none : Option Value), rSm (er q))) (kjs_b (x := x) hn hb).symm
set_option maxRecDepth 100000 in
theorem rc_step2_m (he ke ki fi fa or : List Nat) (mi a g l w s : Nat) (x : Nat) (hx : x < 100) (hV : kV (he, ke, ki, fi, fa, or, mi, a, g, l, w, s)) (hs : s < 2 ^ 30) (y t : Nat) (hn : knext (he, ke, ki, fi, fa, or, mi, a, g, l, w, s) = some y) (hy : y < 4) (hb : kbey a y = some t) (hmi : 0 < mi) (hne : ¬ a = g) (hy0 : kway (kg ki (kg or 0)) a (ksgn a g) l (s + 1) = y) : mm_R 146 0 [some (.ref 140), some (.int (nI x)), none, none, none] [] (rSm (er (he, ke, ki, fi, fa, or, mi, a, g, l, w, s))) (none, rSm (er (kstep (he, ke, ki, fi, fa, or, mi, a, g, l, w, s) x))) := by
  have hV0 : kV (he, ke, ki, fi, fa, or, mi, a, g, l, w, s) := hV
  obtain ⟨v1, v2, v3, v4, v5, v6, v7, v8, v9, v10, v11, v12, v13, v14, v15, v16⟩ := hV
  have v6l := kO_len mi v7 or v6
  have v6t : ∀ i, i < 5 → kg or i < 5 := kO_lt5 mi v7 or v6
  have v60 := v6t 0 (by omega)
  have hV1 : kV (he, ke, ki, fi, fa, or, mi, a, g, l, w, s + 1) := hV0
  have ht := kbey_lt v8 hb
  have q1 := v12 t
  have q2 := v12 a
  have q3 := v13 t
  have q4 : kload he ke a w t ≤ 51 := by unfold kload; omega
  have w15 := v15 (kg or 0)
  have q5 : khold (kg ki (kg or 0)) (kg fi (kg or 0)) ≤ 34 := by unfold khold; split <;> omega
  have w16 := v16 (kg or 0)
  refine mr_seg 3 (pc1 := 3) (ls1 := [some (.ref 140), some (.int (nI x)), none, none, none]) (st1 := [.int 1, .ref 140, .int 1, .ref 140]) (M1 := (rSm (er (he, ke, ki, fi, fa, or, mi, a, g, l, w, s)))) (fun f => rfl) ?_
  refine mr_ldn (xs := (er (he, ke, ki, fi, fa, or, mi, a, g, l, w, s))) rfl rfl (k := 1) (by decide) rfl ?_
  refine mr_seg 2 (pc1 := 6) (ls1 := [some (.ref 140), some (.int (nI x)), none, none, none]) (st1 := [.int ((nI s) + 1), .int 1, .ref 140]) (M1 := (rSm (er (he, ke, ki, fi, fa, or, mi, a, g, l, w, s)))) (fun f => rfl) ?_
  refine mr_v (nI_add s 1) ?_
  refine mr_stn (xs := (er (he, ke, ki, fi, fa, or, mi, a, g, l, w, s))) (ys := (er (he, ke, ki, fi, fa, or, mi, a, g, l, w, s + 1))) (M2 := (rSm (er (he, ke, ki, fi, fa, or, mi, a, g, l, w, s + 1)))) rfl rfl (k := 1) (by decide) (by rw [er_leq (K := (he, ke, ki, fi, fa, or, mi, a, g, l, w, s)) v1 v6l]; decide) (er_s1 (v := s + 1)) rfl ?_
  refine mr_seg 2 (pc1 := 9) (ls1 := [some (.ref 140), some (.int (nI x)), none, none, none]) (st1 := [.int 0, .ref 140]) (M1 := (rSm (er (he, ke, ki, fi, fa, or, mi, a, g, l, w, s + 1)))) (fun f => rfl) ?_
  refine mr_ldn (xs := (er (he, ke, ki, fi, fa, or, mi, a, g, l, w, s + 1))) rfl rfl (k := 0) (by decide) rfl ?_
  refine mr_f (C := (nI mi) = 0) (fun e => absurd ((nI_eqi (a := mi) (b := 0) (by omega)).mp e) (by omega)) (fun f => rfl) ?_
  refine mr_seg 2 (pc1 := 15) (ls1 := [some (.ref 140), some (.int (nI x)), none, none, none]) (st1 := [.int 2, .ref 140]) (M1 := (rSm (er (he, ke, ki, fi, fa, or, mi, a, g, l, w, s + 1)))) (fun f => rfl) ?_
  refine mr_ldn (xs := (er (he, ke, ki, fi, fa, or, mi, a, g, l, w, s + 1))) rfl rfl (k := 2) (by decide) rfl ?_
  refine mr_seg 2 (pc1 := 18) (ls1 := [some (.ref 140), some (.int (nI x)), none, none, none]) (st1 := [.int 3, .ref 140, .int (nI a)]) (M1 := (rSm (er (he, ke, ki, fi, fa, or, mi, a, g, l, w, s + 1)))) (fun f => rfl) ?_
  refine mr_ldn (xs := (er (he, ke, ki, fi, fa, or, mi, a, g, l, w, s + 1))) rfl rfl (k := 3) (by decide) rfl ?_
  refine mr_f (C := (nI a) = (nI g)) (fun e => hne ((nI_eq (by omega) (by omega)).mp e)) (fun f => rfl) ?_
  refine mr_seg 2 (pc1 := 26) (ls1 := [some (.ref 140), some (.int (nI x)), none, none, none]) (st1 := [.int 47, .ref 140]) (M1 := (rSm (er (he, ke, ki, fi, fa, or, mi, a, g, l, w, s + 1)))) (fun f => rfl) ?_
  refine mr_ldn (xs := (er (he, ke, ki, fi, fa, or, mi, a, g, l, w, s + 1))) rfl rfl (k := 47) (by decide) (er_or (K := (he, ke, ki, fi, fa, or, mi, a, g, l, w, s + 1)) v1 v6l (j := 0) (by decide)) ?_
  refine mr_seg 5 (pc1 := 32) (ls1 := [some (.ref 140), some (.int (nI x)), some (.int (nI (kg or 0))), none, none]) (st1 := [.int 1, .ref 140, .int (nI (kg or 0)), .ref 140]) (M1 := (rSm (er (he, ke, ki, fi, fa, or, mi, a, g, l, w, s + 1)))) (fun f => rfl) ?_
  refine mr_ldn (xs := (er (he, ke, ki, fi, fa, or, mi, a, g, l, w, s + 1))) rfl rfl (k := 1) (by decide) rfl ?_
  refine mr_call (y := 147) (y0 := 36) (L := [some (.ref 140), some (.int (nI (kg or 0))), some (.int (nI (s + 1))), none, none, none]) (rest := []) (rr := some (.int (nI y))) (M1 := (rSm (er (he, ke, ki, fi, fa, or, mi, a, g, l, w, s + 1)))) (fun f => rfl) (mr_eq (rc_way_m he ke ki fi fa or mi a g l w (s + 1) (kg or 0) (s + 1) v60 (by omega) hV1 hne) (by rw [hy0])) ?_
  refine mr_seg 3 (pc1 := 39) (ls1 := [some (.ref 140), some (.int (nI x)), some (.int (nI (kg or 0))), some (.int (nI y)), none]) (st1 := [.int 2, .ref 140]) (M1 := (rSm (er (he, ke, ki, fi, fa, or, mi, a, g, l, w, s + 1)))) (fun f => rfl) ?_
  refine mr_ldn (xs := (er (he, ke, ki, fi, fa, or, mi, a, g, l, w, s + 1))) rfl rfl (k := 2) (by decide) rfl ?_
  refine mr_seg 1 (pc1 := 41) (ls1 := [some (.ref 140), some (.int (nI x)), some (.int (nI (kg or 0))), some (.int (nI y)), none]) (st1 := [.int (nI y), .int (nI a)]) (M1 := (rSm (er (he, ke, ki, fi, fa, or, mi, a, g, l, w, s + 1)))) (fun f => rfl) ?_
  refine mr_call (y := 149) (y0 := 44) (L := [some (.int (nI a)), some (.int (nI y))]) (rest := []) (rr := some (.int (nI t))) (M1 := (rSm (er (he, ke, ki, fi, fa, or, mi, a, g, l, w, s + 1)))) (fun f => rfl) (mr_eq (rc_bey (c := a) (w := y) (by omega) hy _) (by rw [hb]; rfl)) ?_
  refine mr_seg 2 (pc1 := 48) (ls1 := [some (.ref 140), some (.int (nI x)), some (.int (nI (kg or 0))), some (.int (nI y)), some (.int (nI t))]) (st1 := [.int (nI t)]) (M1 := (rSm (er (he, ke, ki, fi, fa, or, mi, a, g, l, w, s + 1)))) (fun f => rfl) ?_
  refine mr_t (C := 0 ≤ (nI t)) (nI_pos' (by omega)) (fun f => rfl) ?_
  refine mr_seg 2 (pc1 := 55) (ls1 := [some (.ref 140), some (.int (nI x)), some (.int (nI (kg or 0))), some (.int (nI y)), some (.int (nI t))]) (st1 := [.int (nI t), .ref 140]) (M1 := (rSm (er (he, ke, ki, fi, fa, or, mi, a, g, l, w, s + 1)))) (fun f => rfl) ?_
  refine mr_call (y := 150) (y0 := 58) (L := [some (.ref 140), some (.int (nI t)), none]) (rest := []) (rr := some (.int (nI (kload he ke a w t)))) (M1 := (rSm (er (he, ke, ki, fi, fa, or, mi, a, g, l, w, s + 1)))) (fun f => rfl) (rc_load_m he ke ki fi fa or mi a g l w (s + 1) t ht hV1) ?_
  refine mr_seg 2 (pc1 := 60) (ls1 := [some (.ref 140), some (.int (nI x)), some (.int (nI (kg or 0))), some (.int (nI y)), some (.int (nI t))]) (st1 := [.int ((nI (kload he ke a w t)) + (nI x))]) (M1 := (rSm (er (he, ke, ki, fi, fa, or, mi, a, g, l, w, s + 1)))) (fun f => rfl) ?_
  refine mr_v (nI_add (kload he ke a w t) x) ?_
  refine mr_seg 2 (pc1 := 62) (ls1 := [some (.ref 140), some (.int (nI x)), some (.int (nI (kg or 0))), some (.int (nI y)), some (.int (nI t))]) (st1 := [.int (nI (kg or 0)), .ref 140, .int (nI (kload he ke a w t + x))]) (M1 := (rSm (er (he, ke, ki, fi, fa, or, mi, a, g, l, w, s + 1)))) (fun f => rfl) ?_
  refine mr_call (y := 152) (y0 := 65) (L := [some (.ref 140), some (.int (nI (kg or 0)))]) (rest := [.int (nI (kload he ke a w t + x))]) (rr := some (.int (nI (khold (kg ki (kg or 0)) (kg fi (kg or 0)))))) (M1 := (rSm (er (he, ke, ki, fi, fa, or, mi, a, g, l, w, s + 1)))) (fun f => rfl) (rc_hold_m he ke ki fi fa or mi a g l w (s + 1) (kg or 0) v60 hV1) ?_
  refine mr_ifN (C := (nI (kload he ke a w t + x)) ≤ (nI (khold (kg ki (kg or 0)) (kg fi (kg or 0))))) (nI_lei (a := kload he ke a w t + x) (b := khold (kg ki (kg or 0)) (kg fi (kg or 0))) (by omega)) (fun f => rfl) (fun h1 => ?_) (fun h1 => ?_)
  · refine mr_seg 3 (pc1 := 99) (ls1 := [some (.ref 140), some (.int (nI x)), some (.int (nI (kg or 0))), some (.int (nI y)), some (.int (nI t))]) (st1 := [.int (nI t), .int 2, .ref 140]) (M1 := (rSm (er (he, ke, ki, fi, fa, or, mi, a, g, l, w, s + 1)))) (fun f => rfl) ?_
    refine mr_stn (xs := (er (he, ke, ki, fi, fa, or, mi, a, g, l, w, s + 1))) (ys := (er (he, ke, ki, fi, fa, or, mi, t, g, l, w, s + 1))) (M2 := (rSm (er (he, ke, ki, fi, fa, or, mi, t, g, l, w, s + 1)))) rfl rfl (k := 2) (by decide) (by rw [er_leq (K := (he, ke, ki, fi, fa, or, mi, a, g, l, w, s + 1)) v1 v6l]; decide) (er_s2 (v := t)) rfl ?_
    refine mr_seg 3 (pc1 := 103) (ls1 := [some (.ref 140), some (.int (nI x)), some (.int (nI (kg or 0))), some (.int (nI y)), some (.int (nI t))]) (st1 := [.int (nI y), .int 4, .ref 140]) (M1 := (rSm (er (he, ke, ki, fi, fa, or, mi, t, g, l, w, s + 1)))) (fun f => rfl) ?_
    refine mr_stn (xs := (er (he, ke, ki, fi, fa, or, mi, t, g, l, w, s + 1))) (ys := (er (he, ke, ki, fi, fa, or, mi, t, g, y, w, s + 1))) (M2 := (rSm (er (he, ke, ki, fi, fa, or, mi, t, g, y, w, s + 1)))) rfl rfl (k := 4) (by decide) (by rw [er_leq (K := (he, ke, ki, fi, fa, or, mi, t, g, l, w, s + 1)) v1 v6l]; decide) (er_s4 (v := y)) rfl ?_
    refine mr_eq (mr_ret 1 (o := (none, (rSm (er (he, ke, ki, fi, fa, or, mi, t, g, y, w, s + 1))))) (fun f => rfl)) ?_
    exact congrArg (fun q : kK => ((none : Option Value), rSm (er q))) (kjs_t (x := x) hn hb (show ¬ (khold (kg ki (kg or 0)) (kg fi (kg or 0)) < kload he ke a w t + x) by omega)).symm
  · refine mr_seg 3 (pc1 := 71) (ls1 := [some (.ref 140), some (.int (nI x)), some (.int (nI (kg or 0))), some (.int (nI y)), some (.int (nI t))]) (st1 := [.int 2, .int (nI (kg or 0)), .ref 140]) (M1 := (rSm (er (he, ke, ki, fi, fa, or, mi, a, g, l, w, s + 1)))) (fun f => rfl) ?_
    refine mr_call (y := 141) (y0 := 74) (L := [some (.int (nI (kg or 0))), some (.int 2)]) (rest := [.ref 140]) (rr := some (.int (nI (32 + 3 * (kg or 0) + 2)))) (M1 := (rSm (er (he, ke, ki, fi, fa, or, mi, a, g, l, w, s + 1)))) (fun f => rfl) (rc_of (kg or 0) 2 (by omega) (by decide) _) ?_
    refine mr_seg 4 (pc1 := 79) (ls1 := [some (.ref 140), some (.int (nI x)), some (.int (nI (kg or 0))), some (.int (nI y)), some (.int (nI t))]) (st1 := [.int 2, .int (nI (kg or 0)), .ref 140, .int 99, .int (nI (32 + 3 * (kg or 0) + 2)), .ref 140]) (M1 := (rSm (er (he, ke, ki, fi, fa, or, mi, a, g, l, w, s + 1)))) (fun f => rfl) ?_
    refine mr_call (y := 141) (y0 := 82) (L := [some (.int (nI (kg or 0))), some (.int 2)]) (rest := [.ref 140, .int 99, .int (nI (32 + 3 * (kg or 0) + 2)), .ref 140]) (rr := some (.int (nI (32 + 3 * (kg or 0) + 2)))) (M1 := (rSm (er (he, ke, ki, fi, fa, or, mi, a, g, l, w, s + 1)))) (fun f => rfl) (rc_of (kg or 0) 2 (by omega) (by decide) _) ?_
    refine mr_ldn (xs := (er (he, ke, ki, fi, fa, or, mi, a, g, l, w, s + 1))) rfl rfl (k := 32 + 3 * (kg or 0) + 2) (by omega) (er_fa (K := (he, ke, ki, fi, fa, or, mi, a, g, l, w, s + 1)) v1 (by omega)) ?_
    refine mr_seg 2 (pc1 := 85) (ls1 := [some (.ref 140), some (.int (nI x)), some (.int (nI (kg or 0))), some (.int (nI y)), some (.int (nI t))]) (st1 := [.int ((nI (kg fa (kg or 0))) + 1), .int 99, .int (nI (32 + 3 * (kg or 0) + 2)), .ref 140]) (M1 := (rSm (er (he, ke, ki, fi, fa, or, mi, a, g, l, w, s + 1)))) (fun f => rfl) ?_
    refine mr_v (nI_add (kg fa (kg or 0)) 1) ?_
    refine mr_call (y := 154) (y0 := 88) (L := [some (.int 99), some (.int (nI (kg fa (kg or 0) + 1)))]) (rest := [.int (nI (32 + 3 * (kg or 0) + 2)), .ref 140]) (rr := some (.int (nI (min 99 (kg fa (kg or 0) + 1))))) (M1 := (rSm (er (he, ke, ki, fi, fa, or, mi, a, g, l, w, s + 1)))) (fun f => rfl) (rc_least 99 (kg fa (kg or 0) + 1) (by omega) (by omega) _) ?_
    refine mr_stn (xs := (er (he, ke, ki, fi, fa, or, mi, a, g, l, w, s + 1))) (ys := (er (he, ke, ki, fi, fa.set (kg or 0) (min 99 (kg fa (kg or 0) + 1)), or, mi, a, g, l, w, s + 1))) (M2 := (rSm (er (he, ke, ki, fi, fa.set (kg or 0) (min 99 (kg fa (kg or 0) + 1)), or, mi, a, g, l, w, s + 1)))) rfl rfl (k := 32 + 3 * (kg or 0) + 2) (by omega) (by rw [er_leq (K := (he, ke, ki, fi, fa, or, mi, a, g, l, w, s + 1)) v1 v6l]; omega) (er_fas (K := (he, ke, ki, fi, fa, or, mi, a, g, l, w, s + 1)) v1 v5 (by omega)) rfl ?_
    refine mr_seg 2 (pc1 := 91) (ls1 := [some (.ref 140), some (.int (nI x)), some (.int (nI (kg or 0))), some (.int (nI y)), some (.int (nI t))]) (st1 := [.int (nI (kg or 0)), .ref 140]) (M1 := (rSm (er (he, ke, ki, fi, fa.set (kg or 0) (min 99 (kg fa (kg or 0) + 1)), or, mi, a, g, l, w, s + 1)))) (fun f => rfl) ?_
    refine mr_call (y := 143) (y0 := 94) (L := [some (.ref 140), some (.int (nI (kg or 0))), none]) (rest := []) (rr := none) (M1 := (rSm (er (he, ke, ki, fi, fa.set (kg or 0) (min 99 (kg fa (kg or 0) + 1)), klast or mi (kg or 0), mi, a, g, l, w, s + 1)))) (fun f => rfl) (rc_last_m he ke ki fi (fa.set (kg or 0) (min 99 (kg fa (kg or 0) + 1))) or mi a g l w (s + 1) (kg or 0) v1 (kO_lt mi v7 or v6 0 (by omega)) v6 v7) ?_
    refine mr_eq (mr_ret 1 (o := (none, (rSm (er (he, ke, ki, fi, fa.set (kg or 0) (min 99 (kg fa (kg or 0) + 1)), klast or mi (kg or 0), mi, a, g, l, w, s + 1))))) (fun f => rfl)) ?_
    exact congrArg (fun q : kK => ((none : Option Value), rSm (er q))) (kjs_f (x := x) hn hb (show khold (kg ki (kg or 0)) (kg fi (kg or 0)) < kload he ke a w t + x by omega)).symm
theorem rc_step_m (he ke ki fi fa or : List Nat) (mi a g l w s : Nat) (x : Nat) (hx : x < 100) (hV : kV (he, ke, ki, fi, fa, or, mi, a, g, l, w, s)) (hs : s < 2 ^ 30) : mm_R 146 0 [some (.ref 140), some (.int (nI x)), none, none, none] [] (rSm (er (he, ke, ki, fi, fa, or, mi, a, g, l, w, s))) (none, rSm (er (kstep (he, ke, ki, fi, fa, or, mi, a, g, l, w, s) x))) := by
  cases hn : knext (he, ke, ki, fi, fa, or, mi, a, g, l, w, s) with
  | none => exact rc_step0_m he ke ki fi fa or mi a g l w s x hx hV hs hn
  | some y =>
    have hy := knext_lt hV hn
    have hne := knext_ne hn
    have hy0 := knext_y hn
    cases hb : kbey a y with
    | none => exact rc_step1_m he ke ki fi fa or mi a g l w s x hx hV hs y hn hy hb (knext_mi hn) hne hy0
    | some t => exact rc_step2_m he ke ki fi fa or mi a g l w s x hx hV hs y t hn hy hb (knext_mi hn) hne hy0
set_option maxRecDepth 100000 in
theorem rc_sgn_s (he ke ki fi fa or : List Nat) (mi a g l w s : Nat) (ha : a < 25) (hg : g < 25) : mm_R 148 0 [some (.ref 139), none, none] [] (rSs (er (he, ke, ki, fi, fa, or, mi, a, g, l, w, s))) (some (.int (kS9 a g)), rSs (er (he, ke, ki, fi, fa, or, mi, a, g, l, w, s))) := by
  refine mr_seg 2 (pc1 := 2) (ls1 := [some (.ref 139), none, none]) (st1 := [.int 2, .ref 139]) (M1 := (rSs (er (he, ke, ki, fi, fa, or, mi, a, g, l, w, s)))) (fun f => rfl) ?_
  refine mr_ldn (xs := (er (he, ke, ki, fi, fa, or, mi, a, g, l, w, s))) rfl rfl (k := 2) (by decide) rfl ?_
  refine mr_seg 3 (pc1 := 6) (ls1 := [some (.ref 139), some (.int (nI a)), none]) (st1 := [.int 3, .ref 139]) (M1 := (rSs (er (he, ke, ki, fi, fa, or, mi, a, g, l, w, s)))) (fun f => rfl) ?_
  refine mr_ldn (xs := (er (he, ke, ki, fi, fa, or, mi, a, g, l, w, s))) rfl rfl (k := 3) (by decide) rfl ?_
  refine mr_seg 4 (pc1 := 11) (ls1 := [some (.ref 139), some (.int (nI a)), some (.int (nI g))]) (st1 := [.int ((nI a) / 5)]) (M1 := (rSs (er (he, ke, ki, fi, fa, or, mi, a, g, l, w, s)))) (fun f => rfl) ?_
  refine mr_v (pk_div (a := a) (d := 5) (by omega) (by decide) (by decide)) ?_
  refine mr_seg 3 (pc1 := 14) (ls1 := [some (.ref 139), some (.int (nI a)), some (.int (nI g))]) (st1 := [.int ((nI g) / 5), .int (nI (a / 5))]) (M1 := (rSs (er (he, ke, ki, fi, fa, or, mi, a, g, l, w, s)))) (fun f => rfl) ?_
  refine mr_v (pk_div (a := g) (d := 5) (by omega) (by decide) (by decide)) ?_
  refine mr_ifN (C := (nI (a / 5)) = (nI (g / 5))) (nI_eqi (a := a / 5) (b := g / 5) (by omega)) (fun f => rfl) (fun h1 => ?_) (fun h1 => ?_)
  · refine mr_seg 2 (pc1 := 30) (ls1 := [some (.ref 139), some (.int (nI a)), some (.int (nI g))]) (st1 := [.int (nI g), .int (nI a)]) (M1 := (rSs (er (he, ke, ki, fi, fa, or, mi, a, g, l, w, s)))) (fun f => rfl) ?_
    refine mr_ifN (C := (nI a) = (nI g)) (nI_eqi (a := a) (b := g) (by omega)) (fun f => rfl) (fun h2 => ?_) (fun h2 => ?_)
    · refine mr_eq (mr_ret 3 (o := (some (.int (-9)), (rSs (er (he, ke, ki, fi, fa, or, mi, a, g, l, w, s))))) (fun f => rfl)) ?_
      first
        | rw [kS9_9 (a := a) (g := g) (by omega)]
        | rw [kS9_0 (a := a) (g := g) (by omega)]
        | rw [kS9_2 (a := a) (g := g) (by omega) (by omega)]
        | rw [kS9_3 (a := a) (g := g) (by omega) (by omega) (by omega)]
        | rw [kS9_1 (a := a) (g := g) (by omega) (by omega) (by omega)]
    · refine mr_seg 2 (pc1 := 40) (ls1 := [some (.ref 139), some (.int (nI a)), some (.int (nI g))]) (st1 := [.int (nI a), .int (nI g)]) (M1 := (rSs (er (he, ke, ki, fi, fa, or, mi, a, g, l, w, s)))) (fun f => rfl) ?_
      refine mr_ifN (C := (nI g) ≤ (nI a)) (nI_lei (a := g) (b := a) (by omega)) (fun f => rfl) (fun h3 => ?_) (fun h3 => ?_)
      · refine mr_eq (mr_ret 2 (o := (some (.int 3), (rSs (er (he, ke, ki, fi, fa, or, mi, a, g, l, w, s))))) (fun f => rfl)) ?_
        first
          | rw [kS9_9 (a := a) (g := g) (by omega)]
          | rw [kS9_0 (a := a) (g := g) (by omega)]
          | rw [kS9_2 (a := a) (g := g) (by omega) (by omega)]
          | rw [kS9_3 (a := a) (g := g) (by omega) (by omega) (by omega)]
          | rw [kS9_1 (a := a) (g := g) (by omega) (by omega) (by omega)]
      · refine mr_eq (mr_ret 3 (o := (some (.int 1), (rSs (er (he, ke, ki, fi, fa, or, mi, a, g, l, w, s))))) (fun f => rfl)) ?_
        first
          | rw [kS9_9 (a := a) (g := g) (by omega)]
          | rw [kS9_0 (a := a) (g := g) (by omega)]
          | rw [kS9_2 (a := a) (g := g) (by omega) (by omega)]
          | rw [kS9_3 (a := a) (g := g) (by omega) (by omega) (by omega)]
          | rw [kS9_1 (a := a) (g := g) (by omega) (by omega) (by omega)]
  · refine mr_seg 2 (pc1 := 19) (ls1 := [some (.ref 139), some (.int (nI a)), some (.int (nI g))]) (st1 := [.int (nI a), .int (nI g)]) (M1 := (rSs (er (he, ke, ki, fi, fa, or, mi, a, g, l, w, s)))) (fun f => rfl) ?_
    refine mr_ifN (C := (nI a) ≤ (nI g)) (nI_lei (a := a) (b := g) (by omega)) (fun f => rfl) (fun h4 => ?_) (fun h4 => ?_)
    · refine mr_eq (mr_ret 2 (o := (some (.int 2), (rSs (er (he, ke, ki, fi, fa, or, mi, a, g, l, w, s))))) (fun f => rfl)) ?_
      first
        | rw [kS9_9 (a := a) (g := g) (by omega)]
        | rw [kS9_0 (a := a) (g := g) (by omega)]
        | rw [kS9_2 (a := a) (g := g) (by omega) (by omega)]
        | rw [kS9_3 (a := a) (g := g) (by omega) (by omega) (by omega)]
        | rw [kS9_1 (a := a) (g := g) (by omega) (by omega) (by omega)]
    · refine mr_eq (mr_ret 3 (o := (some (.int 0), (rSs (er (he, ke, ki, fi, fa, or, mi, a, g, l, w, s))))) (fun f => rfl)) ?_
      first
        | rw [kS9_9 (a := a) (g := g) (by omega)]
        | rw [kS9_0 (a := a) (g := g) (by omega)]
        | rw [kS9_2 (a := a) (g := g) (by omega) (by omega)]
        | rw [kS9_3 (a := a) (g := g) (by omega) (by omega) (by omega)]
        | rw [kS9_1 (a := a) (g := g) (by omega) (by omega) (by omega)]
theorem rc_sgn2_s (he ke ki fi fa or : List Nat) (mi a g l w s : Nat) (ha : a < 25) (hg : g < 25) (hne : ¬ a = g) : mm_R 148 0 [some (.ref 139), none, none] [] (rSs (er (he, ke, ki, fi, fa, or, mi, a, g, l, w, s))) (some (.int (nI (ksgn a g))), rSs (er (he, ke, ki, fi, fa, or, mi, a, g, l, w, s))) := mr_eq (rc_sgn_s he ke ki fi fa or mi a g l w s ha hg) (by unfold kS9; rw [if_neg hne])
set_option maxRecDepth 100000 in
theorem rc_hold_s (he ke ki fi fa or : List Nat) (mi a g l w s : Nat) (p : Nat) (hp : p < 5) (hV : kV (he, ke, ki, fi, fa, or, mi, a, g, l, w, s)) : mm_R 152 0 [some (.ref 139), some (.int (nI p))] [] (rSs (er (he, ke, ki, fi, fa, or, mi, a, g, l, w, s))) (some (.int (nI (khold (kg ki p) (kg fi p)))), rSs (er (he, ke, ki, fi, fa, or, mi, a, g, l, w, s))) := by
  obtain ⟨v1, v2, v3, v4, v5, v6, v7, v8, v9, v10, v11, v12, v13, v14, v15, v16⟩ := hV
  have v6l := kO_len mi v7 or v6
  have w14 := v14 p
  have w15 := v15 p
  refine mr_seg 3 (pc1 := 3) (ls1 := [some (.ref 139), some (.int (nI p))]) (st1 := [.int 0, .int (nI p), .ref 139]) (M1 := (rSs (er (he, ke, ki, fi, fa, or, mi, a, g, l, w, s)))) (fun f => rfl) ?_
  refine mr_call (y := 141) (y0 := 6) (L := [some (.int (nI p)), some (.int 0)]) (rest := [.ref 139]) (rr := some (.int (nI (32 + 3 * p + 0)))) (M1 := (rSs (er (he, ke, ki, fi, fa, or, mi, a, g, l, w, s)))) (fun f => rfl) (rc_of p 0 (by omega) (by decide) _) ?_
  refine mr_ldn (xs := (er (he, ke, ki, fi, fa, or, mi, a, g, l, w, s))) rfl rfl (k := 32 + 3 * p + 0) (by omega) (er_ki (K := (he, ke, ki, fi, fa, or, mi, a, g, l, w, s)) v1 (by omega)) ?_
  refine mr_seg 3 (pc1 := 10) (ls1 := [some (.ref 139), some (.int (nI p))]) (st1 := [.int 1, .int (nI p), .ref 139, .int (nI (kg ki p))]) (M1 := (rSs (er (he, ke, ki, fi, fa, or, mi, a, g, l, w, s)))) (fun f => rfl) ?_
  refine mr_call (y := 141) (y0 := 13) (L := [some (.int (nI p)), some (.int 1)]) (rest := [.ref 139, .int (nI (kg ki p))]) (rr := some (.int (nI (32 + 3 * p + 1)))) (M1 := (rSs (er (he, ke, ki, fi, fa, or, mi, a, g, l, w, s)))) (fun f => rfl) (rc_of p 1 (by omega) (by decide) _) ?_
  refine mr_ldn (xs := (er (he, ke, ki, fi, fa, or, mi, a, g, l, w, s))) rfl rfl (k := 32 + 3 * p + 1) (by omega) (er_fi (K := (he, ke, ki, fi, fa, or, mi, a, g, l, w, s)) v1 (by omega)) ?_
  refine mr_call (y := 153) (y0 := 17) (L := [some (.int (nI (kg ki p))), some (.int (nI (kg fi p)))]) (rest := []) (rr := some (.int (nI (khold (kg ki p) (kg fi p))))) (M1 := (rSs (er (he, ke, ki, fi, fa, or, mi, a, g, l, w, s)))) (fun f => rfl) (rc_hbx (kg ki p) (kg fi p) w14 (by omega) _) ?_
  exact mr_ret 1 (fun f => rfl)
set_option maxRecDepth 100000 in
theorem rc_load_s (he ke ki fi fa or : List Nat) (mi a g l w s : Nat) (c : Nat) (hc : c < 25) (hV : kV (he, ke, ki, fi, fa, or, mi, a, g, l, w, s)) : mm_R 150 0 [some (.ref 139), some (.int (nI c)), none] [] (rSs (er (he, ke, ki, fi, fa, or, mi, a, g, l, w, s))) (some (.int (nI (kload he ke a w c))), rSs (er (he, ke, ki, fi, fa, or, mi, a, g, l, w, s))) := by
  obtain ⟨v1, v2, v3, v4, v5, v6, v7, v8, v9, v10, v11, v12, v13, v14, v15, v16⟩ := hV
  have v6l := kO_len mi v7 or v6
  have q1 := v12 c
  have q2 := v12 a
  have q3 := v13 c
  refine mr_seg 4 (pc1 := 5) (ls1 := [some (.ref 139), some (.int (nI c)), none]) (st1 := [.int (7 + (nI c)), .ref 139]) (M1 := (rSs (er (he, ke, ki, fi, fa, or, mi, a, g, l, w, s)))) (fun f => rfl) ?_
  refine mr_v (nI_add 7 c) ?_
  refine mr_ldn (xs := (er (he, ke, ki, fi, fa, or, mi, a, g, l, w, s))) rfl rfl (k := 7 + c) (by omega) (er_h (K := (he, ke, ki, fi, fa, or, mi, a, g, l, w, s)) v1 (by omega)) ?_
  refine mr_seg 4 (pc1 := 11) (ls1 := [some (.ref 139), some (.int (nI c)), none]) (st1 := [.int 2, .ref 139, .int 7, .ref 139, .int (nI (kg he c))]) (M1 := (rSs (er (he, ke, ki, fi, fa, or, mi, a, g, l, w, s)))) (fun f => rfl) ?_
  refine mr_ldn (xs := (er (he, ke, ki, fi, fa, or, mi, a, g, l, w, s))) rfl rfl (k := 2) (by decide) rfl ?_
  refine mr_seg 1 (pc1 := 13) (ls1 := [some (.ref 139), some (.int (nI c)), none]) (st1 := [.int (7 + (nI a)), .ref 139, .int (nI (kg he c))]) (M1 := (rSs (er (he, ke, ki, fi, fa, or, mi, a, g, l, w, s)))) (fun f => rfl) ?_
  refine mr_v (nI_add 7 a) ?_
  refine mr_ldn (xs := (er (he, ke, ki, fi, fa, or, mi, a, g, l, w, s))) rfl rfl (k := 7 + a) (by omega) (er_h (K := (he, ke, ki, fi, fa, or, mi, a, g, l, w, s)) v1 (by omega)) ?_
  refine mr_seg 4 (pc1 := 18) (ls1 := [some (.ref 139), some (.int (nI c)), some (.int ((nI (kg he c)) - (nI (kg he a))))]) (st1 := [.int 5, .ref 139]) (M1 := (rSs (er (he, ke, ki, fi, fa, or, mi, a, g, l, w, s)))) (fun f => rfl) ?_
  refine mr_ldn (xs := (er (he, ke, ki, fi, fa, or, mi, a, g, l, w, s))) rfl rfl (k := 5) (by decide) rfl ?_
  refine mr_seg 1 (pc1 := 20) (ls1 := [some (.ref 139), some (.int (nI c)), some (.int ((nI (kg he c)) - (nI (kg he a))))]) (st1 := [.int ((nI (kg he c)) - (nI (kg he a))), .int (nI w)]) (M1 := (rSs (er (he, ke, ki, fi, fa, or, mi, a, g, l, w, s)))) (fun f => rfl) ?_
  refine mr_ifN (C := ((nI (kg he c)) - (nI (kg he a))) ≤ 0) (k_subg (a := kg he c) (b := kg he a) (by omega) (by omega)) (fun f => rfl) (fun h1 => ?_) (fun h1 => ?_)
  · refine mr_seg 2 (pc1 := 31) (ls1 := [some (.ref 139), some (.int (nI c)), some (.int ((nI (kg he c)) - (nI (kg he a))))]) (st1 := [.int ((nI w) + 0)]) (M1 := (rSs (er (he, ke, ki, fi, fa, or, mi, a, g, l, w, s)))) (fun f => rfl) ?_
    refine mr_v (nI_add w 0) ?_
    refine mr_seg 2 (pc1 := 34) (ls1 := [some (.ref 139), some (.int (nI c)), some (.int ((nI (kg he c)) - (nI (kg he a))))]) (st1 := [.int 6, .ref 139, .int (nI (w + 0))]) (M1 := (rSs (er (he, ke, ki, fi, fa, or, mi, a, g, l, w, s)))) (fun f => rfl) ?_
    refine mr_ldn (xs := (er (he, ke, ki, fi, fa, or, mi, a, g, l, w, s))) rfl rfl (k := 6) (by decide) rfl ?_
    refine mr_seg 1 (pc1 := 36) (ls1 := [some (.ref 139), some (.int (nI c)), some (.int ((nI (kg he c)) - (nI (kg he a))))]) (st1 := [.int (nI c), .int (nI (kbits ke)), .int (nI (w + 0))]) (M1 := (rSs (er (he, ke, ki, fi, fa, or, mi, a, g, l, w, s)))) (fun f => rfl) ?_
    refine mr_call (y := 151) (y0 := 39) (L := [some (.int (nI (kbits ke))), some (.int (nI c))]) (rest := [.int (nI (w + 0))]) (rr := some (.int (nI (kg ke c)))) (M1 := (rSs (er (he, ke, ki, fi, fa, or, mi, a, g, l, w, s)))) (fun f => rfl) (rc_has ke c hc v2 v13 _) ?_
    refine mr_ifN (C := (nI (kg ke c)) = 0) (nI_eqi (a := kg ke c) (b := 0) (by omega)) (fun f => rfl) (fun h2 => ?_) (fun h2 => ?_)
    · refine mr_seg 2 (pc1 := 48) (ls1 := [some (.ref 139), some (.int (nI c)), some (.int ((nI (kg he c)) - (nI (kg he a))))]) (st1 := [.int ((nI (w + 0)) + 0)]) (M1 := (rSs (er (he, ke, ki, fi, fa, or, mi, a, g, l, w, s)))) (fun f => rfl) ?_
      refine mr_v (nI_add (w + 0) 0) ?_
      refine mr_eq (mr_ret 1 (o := (some (.int (nI (w + 0 + 0))), (rSs (er (he, ke, ki, fi, fa, or, mi, a, g, l, w, s))))) (fun f => rfl)) ?_
      rw [show kload he ke a w c = w + 0 + 0 by unfold kload; omega]
    · refine mr_seg 3 (pc1 := 48) (ls1 := [some (.ref 139), some (.int (nI c)), some (.int ((nI (kg he c)) - (nI (kg he a))))]) (st1 := [.int ((nI (w + 0)) + 4)]) (M1 := (rSs (er (he, ke, ki, fi, fa, or, mi, a, g, l, w, s)))) (fun f => rfl) ?_
      refine mr_v (nI_add (w + 0) 4) ?_
      refine mr_eq (mr_ret 1 (o := (some (.int (nI (w + 0 + 4))), (rSs (er (he, ke, ki, fi, fa, or, mi, a, g, l, w, s))))) (fun f => rfl)) ?_
      rw [show kload he ke a w c = w + 0 + 4 by unfold kload; omega]
  · refine mr_seg 3 (pc1 := 26) (ls1 := [some (.ref 139), some (.int (nI c)), some (.int ((nI (kg he c)) - (nI (kg he a))))]) (st1 := [.int (3 * ((nI (kg he c)) - (nI (kg he a)))), .int (nI w)]) (M1 := (rSs (er (he, ke, ki, fi, fa, or, mi, a, g, l, w, s)))) (fun f => rfl) ?_
    refine mr_v (show (3 : Int32) * (nI (kg he c) - nI (kg he a)) = nI (3 * ((kg he c) - (kg he a))) by rw [pk_sub (a := kg he c) (b := kg he a) (by omega)]; exact pk_mul 3 ((kg he c) - (kg he a))) ?_
    refine mr_seg 2 (pc1 := 31) (ls1 := [some (.ref 139), some (.int (nI c)), some (.int ((nI (kg he c)) - (nI (kg he a))))]) (st1 := [.int ((nI w) + (nI (3 * ((kg he c) - (kg he a)))))]) (M1 := (rSs (er (he, ke, ki, fi, fa, or, mi, a, g, l, w, s)))) (fun f => rfl) ?_
    refine mr_v (nI_add w (3 * ((kg he c) - (kg he a)))) ?_
    refine mr_seg 2 (pc1 := 34) (ls1 := [some (.ref 139), some (.int (nI c)), some (.int ((nI (kg he c)) - (nI (kg he a))))]) (st1 := [.int 6, .ref 139, .int (nI (w + 3 * ((kg he c) - (kg he a))))]) (M1 := (rSs (er (he, ke, ki, fi, fa, or, mi, a, g, l, w, s)))) (fun f => rfl) ?_
    refine mr_ldn (xs := (er (he, ke, ki, fi, fa, or, mi, a, g, l, w, s))) rfl rfl (k := 6) (by decide) rfl ?_
    refine mr_seg 1 (pc1 := 36) (ls1 := [some (.ref 139), some (.int (nI c)), some (.int ((nI (kg he c)) - (nI (kg he a))))]) (st1 := [.int (nI c), .int (nI (kbits ke)), .int (nI (w + 3 * ((kg he c) - (kg he a))))]) (M1 := (rSs (er (he, ke, ki, fi, fa, or, mi, a, g, l, w, s)))) (fun f => rfl) ?_
    refine mr_call (y := 151) (y0 := 39) (L := [some (.int (nI (kbits ke))), some (.int (nI c))]) (rest := [.int (nI (w + 3 * ((kg he c) - (kg he a))))]) (rr := some (.int (nI (kg ke c)))) (M1 := (rSs (er (he, ke, ki, fi, fa, or, mi, a, g, l, w, s)))) (fun f => rfl) (rc_has ke c hc v2 v13 _) ?_
    refine mr_ifN (C := (nI (kg ke c)) = 0) (nI_eqi (a := kg ke c) (b := 0) (by omega)) (fun f => rfl) (fun h3 => ?_) (fun h3 => ?_)
    · refine mr_seg 2 (pc1 := 48) (ls1 := [some (.ref 139), some (.int (nI c)), some (.int ((nI (kg he c)) - (nI (kg he a))))]) (st1 := [.int ((nI (w + 3 * ((kg he c) - (kg he a)))) + 0)]) (M1 := (rSs (er (he, ke, ki, fi, fa, or, mi, a, g, l, w, s)))) (fun f => rfl) ?_
      refine mr_v (nI_add (w + 3 * ((kg he c) - (kg he a))) 0) ?_
      refine mr_eq (mr_ret 1 (o := (some (.int (nI (w + 3 * ((kg he c) - (kg he a)) + 0))), (rSs (er (he, ke, ki, fi, fa, or, mi, a, g, l, w, s))))) (fun f => rfl)) ?_
      rw [show kload he ke a w c = w + 3 * ((kg he c) - (kg he a)) + 0 by unfold kload; omega]
    · refine mr_seg 3 (pc1 := 48) (ls1 := [some (.ref 139), some (.int (nI c)), some (.int ((nI (kg he c)) - (nI (kg he a))))]) (st1 := [.int ((nI (w + 3 * ((kg he c) - (kg he a)))) + 4)]) (M1 := (rSs (er (he, ke, ki, fi, fa, or, mi, a, g, l, w, s)))) (fun f => rfl) ?_
      refine mr_v (nI_add (w + 3 * ((kg he c) - (kg he a))) 4) ?_
      refine mr_eq (mr_ret 1 (o := (some (.int (nI (w + 3 * ((kg he c) - (kg he a)) + 4))), (rSs (er (he, ke, ki, fi, fa, or, mi, a, g, l, w, s))))) (fun f => rfl)) ?_
      rw [show kload he ke a w c = w + 3 * ((kg he c) - (kg he a)) + 4 by unfold kload; omega]
set_option maxRecDepth 100000 in
theorem rc_wo0_0_s (he ke ki fi fa or : List Nat) (mi a g l w s : Nat) (p st : Nat) (hp : p < 5) (hst : st < 2 ^ 31) (hV : kV (he, ke, ki, fi, fa, or, mi, a, g, l, w, s)) (hb : kbey a l = none) (hk : kg ki p = 0) : mm_R 147 48 [some (.ref 139), some (.int (nI p)), some (.int (nI st)), some (.int (nI (ksgn a g))), some (.int (nI (kleft (ksgn a g) st))), some (.int 0)] [.int 0] (rSs (er (he, ke, ki, fi, fa, or, mi, a, g, l, w, s))) (some (.int (nI (kway (kg ki p) a (ksgn a g) l st))), rSs (er (he, ke, ki, fi, fa, or, mi, a, g, l, w, s))) := by
  obtain ⟨v1, v2, v3, v4, v5, v6, v7, v8, v9, v10, v11, v12, v13, v14, v15, v16⟩ := hV
  have v6l := kO_len mi v7 or v6
  have hsg := ksgn_lt a g
  have hkl := kleft_lt (st := st) hsg
  have w14 := v14 p
  refine mr_eq (mr_ret 3 (o := (some (.int (nI (ksgn a g))), (rSs (er (he, ke, ki, fi, fa, or, mi, a, g, l, w, s))))) (fun f => rfl)) ?_
  rw [hk, kway_0]
set_option maxRecDepth 100000 in
theorem rc_wo0_1_s (he ke ki fi fa or : List Nat) (mi a g l w s : Nat) (p st : Nat) (hp : p < 5) (hst : st < 2 ^ 31) (hV : kV (he, ke, ki, fi, fa, or, mi, a, g, l, w, s)) (hb : kbey a l = none) (hk : kg ki p = 1) : mm_R 147 48 [some (.ref 139), some (.int (nI p)), some (.int (nI st)), some (.int (nI (ksgn a g))), some (.int (nI (kleft (ksgn a g) st))), some (.int 0)] [.int 1] (rSs (er (he, ke, ki, fi, fa, or, mi, a, g, l, w, s))) (some (.int (nI (kway (kg ki p) a (ksgn a g) l st))), rSs (er (he, ke, ki, fi, fa, or, mi, a, g, l, w, s))) := by
  obtain ⟨v1, v2, v3, v4, v5, v6, v7, v8, v9, v10, v11, v12, v13, v14, v15, v16⟩ := hV
  have v6l := kO_len mi v7 or v6
  have hsg := ksgn_lt a g
  have hkl := kleft_lt (st := st) hsg
  have w14 := v14 p
  refine mr_eq (mr_ret 3 (o := (some (.int (nI (kleft (ksgn a g) st))), (rSs (er (he, ke, ki, fi, fa, or, mi, a, g, l, w, s))))) (fun f => rfl)) ?_
  rw [hk, show kway 1 a (ksgn a g) l st = kleft (ksgn a g) st from rfl]
set_option maxRecDepth 100000 in
theorem rc_wo0_2_s (he ke ki fi fa or : List Nat) (mi a g l w s : Nat) (p st : Nat) (hp : p < 5) (hst : st < 2 ^ 31) (hV : kV (he, ke, ki, fi, fa, or, mi, a, g, l, w, s)) (hb : kbey a l = none) (hk : kg ki p = 2) : mm_R 147 48 [some (.ref 139), some (.int (nI p)), some (.int (nI st)), some (.int (nI (ksgn a g))), some (.int (nI (kleft (ksgn a g) st))), some (.int 0)] [.int 2] (rSs (er (he, ke, ki, fi, fa, or, mi, a, g, l, w, s))) (some (.int (nI (kway (kg ki p) a (ksgn a g) l st))), rSs (er (he, ke, ki, fi, fa, or, mi, a, g, l, w, s))) := by
  obtain ⟨v1, v2, v3, v4, v5, v6, v7, v8, v9, v10, v11, v12, v13, v14, v15, v16⟩ := hV
  have v6l := kO_len mi v7 or v6
  have hsg := ksgn_lt a g
  have hkl := kleft_lt (st := st) hsg
  have w14 := v14 p
  refine mr_eq (mr_ret 5 (o := (some (.int (nI (ksgn a g))), (rSs (er (he, ke, ki, fi, fa, or, mi, a, g, l, w, s))))) (fun f => rfl)) ?_
  rw [hk, kway_2]
  by_cases q : st % 4 = 0
  · rw [if_pos q]
  · rw [if_neg q, if_pos hb]
set_option maxRecDepth 100000 in
theorem rc_wo0_3_s (he ke ki fi fa or : List Nat) (mi a g l w s : Nat) (p st : Nat) (hp : p < 5) (hst : st < 2 ^ 31) (hV : kV (he, ke, ki, fi, fa, or, mi, a, g, l, w, s)) (hb : kbey a l = none) (hk : kg ki p = 3) : mm_R 147 48 [some (.ref 139), some (.int (nI p)), some (.int (nI st)), some (.int (nI (ksgn a g))), some (.int (nI (kleft (ksgn a g) st))), some (.int 0)] [.int 3] (rSs (er (he, ke, ki, fi, fa, or, mi, a, g, l, w, s))) (some (.int (nI (kway (kg ki p) a (ksgn a g) l st))), rSs (er (he, ke, ki, fi, fa, or, mi, a, g, l, w, s))) := by
  obtain ⟨v1, v2, v3, v4, v5, v6, v7, v8, v9, v10, v11, v12, v13, v14, v15, v16⟩ := hV
  have v6l := kO_len mi v7 or v6
  have hsg := ksgn_lt a g
  have hkl := kleft_lt (st := st) hsg
  have w14 := v14 p
  refine mr_eq (mr_ret 5 (o := (some (.int (nI (ksgn a g))), (rSs (er (he, ke, ki, fi, fa, or, mi, a, g, l, w, s))))) (fun f => rfl)) ?_
  rw [hk, kway_3, if_pos hb]
set_option maxRecDepth 100000 in
theorem rc_wo0_4_s (he ke ki fi fa or : List Nat) (mi a g l w s : Nat) (p st : Nat) (hp : p < 5) (hst : st < 2 ^ 31) (hV : kV (he, ke, ki, fi, fa, or, mi, a, g, l, w, s)) (hb : kbey a l = none) (hk : kg ki p = 4) : mm_R 147 48 [some (.ref 139), some (.int (nI p)), some (.int (nI st)), some (.int (nI (ksgn a g))), some (.int (nI (kleft (ksgn a g) st))), some (.int 0)] [.int 4] (rSs (er (he, ke, ki, fi, fa, or, mi, a, g, l, w, s))) (some (.int (nI (kway (kg ki p) a (ksgn a g) l st))), rSs (er (he, ke, ki, fi, fa, or, mi, a, g, l, w, s))) := by
  obtain ⟨v1, v2, v3, v4, v5, v6, v7, v8, v9, v10, v11, v12, v13, v14, v15, v16⟩ := hV
  have v6l := kO_len mi v7 or v6
  have hsg := ksgn_lt a g
  have hkl := kleft_lt (st := st) hsg
  have w14 := v14 p
  refine mr_eq (mr_ret 3 (o := (some (.int (nI (ksgn a g))), (rSs (er (he, ke, ki, fi, fa, or, mi, a, g, l, w, s))))) (fun f => rfl)) ?_
  rw [hk, kway_4]
set_option maxRecDepth 100000 in
theorem rc_wo0_5_s (he ke ki fi fa or : List Nat) (mi a g l w s : Nat) (p st : Nat) (hp : p < 5) (hst : st < 2 ^ 31) (hV : kV (he, ke, ki, fi, fa, or, mi, a, g, l, w, s)) (hb : kbey a l = none) (hk : kg ki p = 5) : mm_R 147 48 [some (.ref 139), some (.int (nI p)), some (.int (nI st)), some (.int (nI (ksgn a g))), some (.int (nI (kleft (ksgn a g) st))), some (.int 0)] [.int 5] (rSs (er (he, ke, ki, fi, fa, or, mi, a, g, l, w, s))) (some (.int (nI (kway (kg ki p) a (ksgn a g) l st))), rSs (er (he, ke, ki, fi, fa, or, mi, a, g, l, w, s))) := by
  obtain ⟨v1, v2, v3, v4, v5, v6, v7, v8, v9, v10, v11, v12, v13, v14, v15, v16⟩ := hV
  have v6l := kO_len mi v7 or v6
  have hsg := ksgn_lt a g
  have hkl := kleft_lt (st := st) hsg
  have w14 := v14 p
  refine mr_seg 3 (pc1 := 121) (ls1 := [some (.ref 139), some (.int (nI p)), some (.int (nI st)), some (.int (nI (ksgn a g))), some (.int (nI (kleft (ksgn a g) st))), some (.int 0)]) (st1 := [.int 2, .ref 139]) (M1 := (rSs (er (he, ke, ki, fi, fa, or, mi, a, g, l, w, s)))) (fun f => rfl) ?_
  refine mr_ldn (xs := (er (he, ke, ki, fi, fa, or, mi, a, g, l, w, s))) rfl rfl (k := 2) (by decide) rfl ?_
  refine mr_seg 3 (pc1 := 126) (ls1 := [some (.ref 139), some (.int (nI p)), some (.int (nI st)), some (.int (nI (ksgn a g))), some (.int (nI (kleft (ksgn a g) st))), some (.int 0)]) (st1 := [.int ((nI (kleft (ksgn a g) st)) + 2), .int (nI a)]) (M1 := (rSs (er (he, ke, ki, fi, fa, or, mi, a, g, l, w, s)))) (fun f => rfl) ?_
  refine mr_v (nI_add (kleft (ksgn a g) st) 2) ?_
  refine mr_seg 2 (pc1 := 128) (ls1 := [some (.ref 139), some (.int (nI p)), some (.int (nI st)), some (.int (nI (ksgn a g))), some (.int (nI (kleft (ksgn a g) st))), some (.int 0)]) (st1 := [.int ((nI (kleft (ksgn a g) st + 2)) - (nI (kleft (ksgn a g) st + 2)) / 4 * 4), .int (nI a)]) (M1 := (rSs (er (he, ke, ki, fi, fa, or, mi, a, g, l, w, s)))) (fun f => rfl) ?_
  refine mr_v (pk_rem (a := kleft (ksgn a g) st + 2) (d := 4) (by omega) (by decide) (by decide)) ?_
  refine mr_call (y := 149) (y0 := 131) (L := [some (.int (nI a)), some (.int (nI ((kleft (ksgn a g) st + 2) % 4)))]) (rest := []) (rr := some (.int (kI (kbey a ((kleft (ksgn a g) st + 2) % 4))))) (M1 := (rSs (er (he, ke, ki, fi, fa, or, mi, a, g, l, w, s)))) (fun f => rfl) (rc_bey (c := a) (w := (kleft (ksgn a g) st + 2) % 4) (by omega) (by omega) _) ?_
  refine mr_ifN (C := (kI (kbey a ((kleft (ksgn a g) st + 2) % 4))) < 0) (kI_l0 (by omega)) (fun f => rfl) (fun h1 => ?_) (fun h1 => ?_)
  · refine mr_eq (mr_ret 2 (o := (some (.int (nI (kleft (ksgn a g) st))), (rSs (er (he, ke, ki, fi, fa, or, mi, a, g, l, w, s))))) (fun f => rfl)) ?_
    rw [hk, kway_5]
    rw [show kway 1 a (ksgn a g) l st = kleft (ksgn a g) st from rfl, if_pos h1]
  · refine mr_seg 3 (pc1 := 138) (ls1 := [some (.ref 139), some (.int (nI p)), some (.int (nI st)), some (.int (nI (ksgn a g))), some (.int (nI (kleft (ksgn a g) st))), some (.int 0)]) (st1 := [.int ((nI (kleft (ksgn a g) st)) + 2)]) (M1 := (rSs (er (he, ke, ki, fi, fa, or, mi, a, g, l, w, s)))) (fun f => rfl) ?_
    refine mr_v (nI_add (kleft (ksgn a g) st) 2) ?_
    refine mr_seg 2 (pc1 := 140) (ls1 := [some (.ref 139), some (.int (nI p)), some (.int (nI st)), some (.int (nI (ksgn a g))), some (.int (nI (kleft (ksgn a g) st))), some (.int 0)]) (st1 := [.int ((nI (kleft (ksgn a g) st + 2)) - (nI (kleft (ksgn a g) st + 2)) / 4 * 4)]) (M1 := (rSs (er (he, ke, ki, fi, fa, or, mi, a, g, l, w, s)))) (fun f => rfl) ?_
    refine mr_v (pk_rem (a := kleft (ksgn a g) st + 2) (d := 4) (by omega) (by decide) (by decide)) ?_
    refine mr_eq (mr_ret 2 (o := (some (.int (nI ((kleft (ksgn a g) st + 2) % 4))), (rSs (er (he, ke, ki, fi, fa, or, mi, a, g, l, w, s))))) (fun f => rfl)) ?_
    rw [hk, kway_5]
    rw [show kway 1 a (ksgn a g) l st = kleft (ksgn a g) st from rfl, if_neg h1]
theorem rc_wo0_x_s (he ke ki fi fa or : List Nat) (mi a g l w s : Nat) (p st : Nat) (hp : p < 5) (hst : st < 2 ^ 31) (hV : kV (he, ke, ki, fi, fa, or, mi, a, g, l, w, s)) (hb : kbey a l = none) : mm_R 147 48 [some (.ref 139), some (.int (nI p)), some (.int (nI st)), some (.int (nI (ksgn a g))), some (.int (nI (kleft (ksgn a g) st))), some (.int 0)] [.int (nI (kg ki p))] (rSs (er (he, ke, ki, fi, fa, or, mi, a, g, l, w, s))) (some (.int (nI (kway (kg ki p) a (ksgn a g) l st))), rSs (er (he, ke, ki, fi, fa, or, mi, a, g, l, w, s))) := by
  have hV0 := hV
  obtain ⟨-, -, -, -, -, -, -, -, -, -, -, -, -, v14, -, -⟩ := hV
  rcases k6 (v14 p) with hk | hk | hk | hk | hk | hk
  · exact mr_v (show nI (kg ki p) = 0 by rw [hk]; rfl) (rc_wo0_0_s he ke ki fi fa or mi a g l w s p st hp hst hV0 hb hk)
  · exact mr_v (show nI (kg ki p) = 1 by rw [hk]; rfl) (rc_wo0_1_s he ke ki fi fa or mi a g l w s p st hp hst hV0 hb hk)
  · exact mr_v (show nI (kg ki p) = 2 by rw [hk]; rfl) (rc_wo0_2_s he ke ki fi fa or mi a g l w s p st hp hst hV0 hb hk)
  · exact mr_v (show nI (kg ki p) = 3 by rw [hk]; rfl) (rc_wo0_3_s he ke ki fi fa or mi a g l w s p st hp hst hV0 hb hk)
  · exact mr_v (show nI (kg ki p) = 4 by rw [hk]; rfl) (rc_wo0_4_s he ke ki fi fa or mi a g l w s p st hp hst hV0 hb hk)
  · exact mr_v (show nI (kg ki p) = 5 by rw [hk]; rfl) (rc_wo0_5_s he ke ki fi fa or mi a g l w s p st hp hst hV0 hb hk)
set_option maxRecDepth 100000 in
theorem rc_wo0_s (he ke ki fi fa or : List Nat) (mi a g l w s : Nat) (p st : Nat) (hp : p < 5) (hst : st < 2 ^ 31) (hV : kV (he, ke, ki, fi, fa, or, mi, a, g, l, w, s)) (hb : kbey a l = none) : mm_R 147 41 [some (.ref 139), some (.int (nI p)), some (.int (nI st)), some (.int (nI (ksgn a g))), some (.int (nI (kleft (ksgn a g) st))), some (.int 0)] [] (rSs (er (he, ke, ki, fi, fa, or, mi, a, g, l, w, s))) (some (.int (nI (kway (kg ki p) a (ksgn a g) l st))), rSs (er (he, ke, ki, fi, fa, or, mi, a, g, l, w, s))) := by
  have hV0 := hV
  obtain ⟨v1, v2, v3, v4, v5, v6, v7, v8, v9, v10, v11, v12, v13, v14, v15, v16⟩ := hV
  have v6l := kO_len mi v7 or v6
  have hsg := ksgn_lt a g
  have hkl := kleft_lt (st := st) hsg
  have w14 := v14 p
  refine mr_seg 3 (pc1 := 44) (ls1 := [some (.ref 139), some (.int (nI p)), some (.int (nI st)), some (.int (nI (ksgn a g))), some (.int (nI (kleft (ksgn a g) st))), some (.int 0)]) (st1 := [.int 0, .int (nI p), .ref 139]) (M1 := (rSs (er (he, ke, ki, fi, fa, or, mi, a, g, l, w, s)))) (fun f => rfl) ?_
  refine mr_call (y := 141) (y0 := 47) (L := [some (.int (nI p)), some (.int 0)]) (rest := [.ref 139]) (rr := some (.int (nI (32 + 3 * p + 0)))) (M1 := (rSs (er (he, ke, ki, fi, fa, or, mi, a, g, l, w, s)))) (fun f => rfl) (rc_of p 0 (by omega) (by decide) _) ?_
  refine mr_ldn (xs := (er (he, ke, ki, fi, fa, or, mi, a, g, l, w, s))) rfl rfl (k := 32 + 3 * p + 0) (by omega) (er_ki (K := (he, ke, ki, fi, fa, or, mi, a, g, l, w, s)) v1 (by omega)) ?_
  exact rc_wo0_x_s he ke ki fi fa or mi a g l w s p st hp hst hV0 hb
set_option maxRecDepth 100000 in
theorem rc_wo1_0_s (he ke ki fi fa or : List Nat) (mi a g l w s : Nat) (p st : Nat) (hp : p < 5) (hst : st < 2 ^ 31) (hV : kV (he, ke, ki, fi, fa, or, mi, a, g, l, w, s)) (hb : ¬ kbey a l = none) (hk : kg ki p = 0) : mm_R 147 48 [some (.ref 139), some (.int (nI p)), some (.int (nI st)), some (.int (nI (ksgn a g))), some (.int (nI (kleft (ksgn a g) st))), some (.int 1)] [.int 0] (rSs (er (he, ke, ki, fi, fa, or, mi, a, g, l, w, s))) (some (.int (nI (kway (kg ki p) a (ksgn a g) l st))), rSs (er (he, ke, ki, fi, fa, or, mi, a, g, l, w, s))) := by
  obtain ⟨v1, v2, v3, v4, v5, v6, v7, v8, v9, v10, v11, v12, v13, v14, v15, v16⟩ := hV
  have v6l := kO_len mi v7 or v6
  have hsg := ksgn_lt a g
  have hkl := kleft_lt (st := st) hsg
  have w14 := v14 p
  refine mr_eq (mr_ret 3 (o := (some (.int (nI (ksgn a g))), (rSs (er (he, ke, ki, fi, fa, or, mi, a, g, l, w, s))))) (fun f => rfl)) ?_
  rw [hk, kway_0]
set_option maxRecDepth 100000 in
theorem rc_wo1_1_s (he ke ki fi fa or : List Nat) (mi a g l w s : Nat) (p st : Nat) (hp : p < 5) (hst : st < 2 ^ 31) (hV : kV (he, ke, ki, fi, fa, or, mi, a, g, l, w, s)) (hb : ¬ kbey a l = none) (hk : kg ki p = 1) : mm_R 147 48 [some (.ref 139), some (.int (nI p)), some (.int (nI st)), some (.int (nI (ksgn a g))), some (.int (nI (kleft (ksgn a g) st))), some (.int 1)] [.int 1] (rSs (er (he, ke, ki, fi, fa, or, mi, a, g, l, w, s))) (some (.int (nI (kway (kg ki p) a (ksgn a g) l st))), rSs (er (he, ke, ki, fi, fa, or, mi, a, g, l, w, s))) := by
  obtain ⟨v1, v2, v3, v4, v5, v6, v7, v8, v9, v10, v11, v12, v13, v14, v15, v16⟩ := hV
  have v6l := kO_len mi v7 or v6
  have hsg := ksgn_lt a g
  have hkl := kleft_lt (st := st) hsg
  have w14 := v14 p
  refine mr_eq (mr_ret 3 (o := (some (.int (nI (kleft (ksgn a g) st))), (rSs (er (he, ke, ki, fi, fa, or, mi, a, g, l, w, s))))) (fun f => rfl)) ?_
  rw [hk, show kway 1 a (ksgn a g) l st = kleft (ksgn a g) st from rfl]
set_option maxRecDepth 100000 in
theorem rc_wo1_2_s (he ke ki fi fa or : List Nat) (mi a g l w s : Nat) (p st : Nat) (hp : p < 5) (hst : st < 2 ^ 31) (hV : kV (he, ke, ki, fi, fa, or, mi, a, g, l, w, s)) (hb : ¬ kbey a l = none) (hk : kg ki p = 2) : mm_R 147 48 [some (.ref 139), some (.int (nI p)), some (.int (nI st)), some (.int (nI (ksgn a g))), some (.int (nI (kleft (ksgn a g) st))), some (.int 1)] [.int 2] (rSs (er (he, ke, ki, fi, fa, or, mi, a, g, l, w, s))) (some (.int (nI (kway (kg ki p) a (ksgn a g) l st))), rSs (er (he, ke, ki, fi, fa, or, mi, a, g, l, w, s))) := by
  obtain ⟨v1, v2, v3, v4, v5, v6, v7, v8, v9, v10, v11, v12, v13, v14, v15, v16⟩ := hV
  have v6l := kO_len mi v7 or v6
  have hsg := ksgn_lt a g
  have hkl := kleft_lt (st := st) hsg
  have w14 := v14 p
  refine mr_seg 6 (pc1 := 95) (ls1 := [some (.ref 139), some (.int (nI p)), some (.int (nI st)), some (.int (nI (ksgn a g))), some (.int (nI (kleft (ksgn a g) st))), some (.int 1)]) (st1 := [.int ((nI st) - (nI st) / 4 * 4)]) (M1 := (rSs (er (he, ke, ki, fi, fa, or, mi, a, g, l, w, s)))) (fun f => rfl) ?_
  refine mr_v (pk_rem (a := st) (d := 4) (by omega) (by decide) (by decide)) ?_
  refine mr_ifN (C := (nI (st % 4)) = 0) (nI_eqi (a := st % 4) (b := 0) (by omega)) (fun f => rfl) (fun h1 => ?_) (fun h1 => ?_)
  · refine mr_eq (mr_ret 2 (o := (some (.int (nI (ksgn a g))), (rSs (er (he, ke, ki, fi, fa, or, mi, a, g, l, w, s))))) (fun f => rfl)) ?_
    rw [hk, kway_2, if_pos h1]
  · refine mr_seg 2 (pc1 := 100) (ls1 := [some (.ref 139), some (.int (nI p)), some (.int (nI st)), some (.int (nI (ksgn a g))), some (.int (nI (kleft (ksgn a g) st))), some (.int 1)]) (st1 := [.int 4, .ref 139]) (M1 := (rSs (er (he, ke, ki, fi, fa, or, mi, a, g, l, w, s)))) (fun f => rfl) ?_
    refine mr_ldn (xs := (er (he, ke, ki, fi, fa, or, mi, a, g, l, w, s))) rfl rfl (k := 4) (by decide) rfl ?_
    refine mr_eq (mr_ret 2 (o := (some (.int (nI l)), (rSs (er (he, ke, ki, fi, fa, or, mi, a, g, l, w, s))))) (fun f => rfl)) ?_
    rw [hk, kway_2, if_neg h1, if_neg hb]
set_option maxRecDepth 100000 in
theorem rc_wo1_3_s (he ke ki fi fa or : List Nat) (mi a g l w s : Nat) (p st : Nat) (hp : p < 5) (hst : st < 2 ^ 31) (hV : kV (he, ke, ki, fi, fa, or, mi, a, g, l, w, s)) (hb : ¬ kbey a l = none) (hk : kg ki p = 3) : mm_R 147 48 [some (.ref 139), some (.int (nI p)), some (.int (nI st)), some (.int (nI (ksgn a g))), some (.int (nI (kleft (ksgn a g) st))), some (.int 1)] [.int 3] (rSs (er (he, ke, ki, fi, fa, or, mi, a, g, l, w, s))) (some (.int (nI (kway (kg ki p) a (ksgn a g) l st))), rSs (er (he, ke, ki, fi, fa, or, mi, a, g, l, w, s))) := by
  obtain ⟨v1, v2, v3, v4, v5, v6, v7, v8, v9, v10, v11, v12, v13, v14, v15, v16⟩ := hV
  have v6l := kO_len mi v7 or v6
  have hsg := ksgn_lt a g
  have hkl := kleft_lt (st := st) hsg
  have w14 := v14 p
  refine mr_seg 5 (pc1 := 113) (ls1 := [some (.ref 139), some (.int (nI p)), some (.int (nI st)), some (.int (nI (ksgn a g))), some (.int (nI (kleft (ksgn a g) st))), some (.int 1)]) (st1 := [.int 4, .ref 139]) (M1 := (rSs (er (he, ke, ki, fi, fa, or, mi, a, g, l, w, s)))) (fun f => rfl) ?_
  refine mr_ldn (xs := (er (he, ke, ki, fi, fa, or, mi, a, g, l, w, s))) rfl rfl (k := 4) (by decide) rfl ?_
  refine mr_eq (mr_ret 2 (o := (some (.int (nI l)), (rSs (er (he, ke, ki, fi, fa, or, mi, a, g, l, w, s))))) (fun f => rfl)) ?_
  rw [hk, kway_3, if_neg hb]
set_option maxRecDepth 100000 in
theorem rc_wo1_4_s (he ke ki fi fa or : List Nat) (mi a g l w s : Nat) (p st : Nat) (hp : p < 5) (hst : st < 2 ^ 31) (hV : kV (he, ke, ki, fi, fa, or, mi, a, g, l, w, s)) (hb : ¬ kbey a l = none) (hk : kg ki p = 4) : mm_R 147 48 [some (.ref 139), some (.int (nI p)), some (.int (nI st)), some (.int (nI (ksgn a g))), some (.int (nI (kleft (ksgn a g) st))), some (.int 1)] [.int 4] (rSs (er (he, ke, ki, fi, fa, or, mi, a, g, l, w, s))) (some (.int (nI (kway (kg ki p) a (ksgn a g) l st))), rSs (er (he, ke, ki, fi, fa, or, mi, a, g, l, w, s))) := by
  obtain ⟨v1, v2, v3, v4, v5, v6, v7, v8, v9, v10, v11, v12, v13, v14, v15, v16⟩ := hV
  have v6l := kO_len mi v7 or v6
  have hsg := ksgn_lt a g
  have hkl := kleft_lt (st := st) hsg
  have w14 := v14 p
  refine mr_eq (mr_ret 3 (o := (some (.int (nI (ksgn a g))), (rSs (er (he, ke, ki, fi, fa, or, mi, a, g, l, w, s))))) (fun f => rfl)) ?_
  rw [hk, kway_4]
set_option maxRecDepth 100000 in
theorem rc_wo1_5_s (he ke ki fi fa or : List Nat) (mi a g l w s : Nat) (p st : Nat) (hp : p < 5) (hst : st < 2 ^ 31) (hV : kV (he, ke, ki, fi, fa, or, mi, a, g, l, w, s)) (hb : ¬ kbey a l = none) (hk : kg ki p = 5) : mm_R 147 48 [some (.ref 139), some (.int (nI p)), some (.int (nI st)), some (.int (nI (ksgn a g))), some (.int (nI (kleft (ksgn a g) st))), some (.int 1)] [.int 5] (rSs (er (he, ke, ki, fi, fa, or, mi, a, g, l, w, s))) (some (.int (nI (kway (kg ki p) a (ksgn a g) l st))), rSs (er (he, ke, ki, fi, fa, or, mi, a, g, l, w, s))) := by
  obtain ⟨v1, v2, v3, v4, v5, v6, v7, v8, v9, v10, v11, v12, v13, v14, v15, v16⟩ := hV
  have v6l := kO_len mi v7 or v6
  have hsg := ksgn_lt a g
  have hkl := kleft_lt (st := st) hsg
  have w14 := v14 p
  refine mr_seg 3 (pc1 := 121) (ls1 := [some (.ref 139), some (.int (nI p)), some (.int (nI st)), some (.int (nI (ksgn a g))), some (.int (nI (kleft (ksgn a g) st))), some (.int 1)]) (st1 := [.int 2, .ref 139]) (M1 := (rSs (er (he, ke, ki, fi, fa, or, mi, a, g, l, w, s)))) (fun f => rfl) ?_
  refine mr_ldn (xs := (er (he, ke, ki, fi, fa, or, mi, a, g, l, w, s))) rfl rfl (k := 2) (by decide) rfl ?_
  refine mr_seg 3 (pc1 := 126) (ls1 := [some (.ref 139), some (.int (nI p)), some (.int (nI st)), some (.int (nI (ksgn a g))), some (.int (nI (kleft (ksgn a g) st))), some (.int 1)]) (st1 := [.int ((nI (kleft (ksgn a g) st)) + 2), .int (nI a)]) (M1 := (rSs (er (he, ke, ki, fi, fa, or, mi, a, g, l, w, s)))) (fun f => rfl) ?_
  refine mr_v (nI_add (kleft (ksgn a g) st) 2) ?_
  refine mr_seg 2 (pc1 := 128) (ls1 := [some (.ref 139), some (.int (nI p)), some (.int (nI st)), some (.int (nI (ksgn a g))), some (.int (nI (kleft (ksgn a g) st))), some (.int 1)]) (st1 := [.int ((nI (kleft (ksgn a g) st + 2)) - (nI (kleft (ksgn a g) st + 2)) / 4 * 4), .int (nI a)]) (M1 := (rSs (er (he, ke, ki, fi, fa, or, mi, a, g, l, w, s)))) (fun f => rfl) ?_
  refine mr_v (pk_rem (a := kleft (ksgn a g) st + 2) (d := 4) (by omega) (by decide) (by decide)) ?_
  refine mr_call (y := 149) (y0 := 131) (L := [some (.int (nI a)), some (.int (nI ((kleft (ksgn a g) st + 2) % 4)))]) (rest := []) (rr := some (.int (kI (kbey a ((kleft (ksgn a g) st + 2) % 4))))) (M1 := (rSs (er (he, ke, ki, fi, fa, or, mi, a, g, l, w, s)))) (fun f => rfl) (rc_bey (c := a) (w := (kleft (ksgn a g) st + 2) % 4) (by omega) (by omega) _) ?_
  refine mr_ifN (C := (kI (kbey a ((kleft (ksgn a g) st + 2) % 4))) < 0) (kI_l0 (by omega)) (fun f => rfl) (fun h1 => ?_) (fun h1 => ?_)
  · refine mr_eq (mr_ret 2 (o := (some (.int (nI (kleft (ksgn a g) st))), (rSs (er (he, ke, ki, fi, fa, or, mi, a, g, l, w, s))))) (fun f => rfl)) ?_
    rw [hk, kway_5]
    rw [show kway 1 a (ksgn a g) l st = kleft (ksgn a g) st from rfl, if_pos h1]
  · refine mr_seg 3 (pc1 := 138) (ls1 := [some (.ref 139), some (.int (nI p)), some (.int (nI st)), some (.int (nI (ksgn a g))), some (.int (nI (kleft (ksgn a g) st))), some (.int 1)]) (st1 := [.int ((nI (kleft (ksgn a g) st)) + 2)]) (M1 := (rSs (er (he, ke, ki, fi, fa, or, mi, a, g, l, w, s)))) (fun f => rfl) ?_
    refine mr_v (nI_add (kleft (ksgn a g) st) 2) ?_
    refine mr_seg 2 (pc1 := 140) (ls1 := [some (.ref 139), some (.int (nI p)), some (.int (nI st)), some (.int (nI (ksgn a g))), some (.int (nI (kleft (ksgn a g) st))), some (.int 1)]) (st1 := [.int ((nI (kleft (ksgn a g) st + 2)) - (nI (kleft (ksgn a g) st + 2)) / 4 * 4)]) (M1 := (rSs (er (he, ke, ki, fi, fa, or, mi, a, g, l, w, s)))) (fun f => rfl) ?_
    refine mr_v (pk_rem (a := kleft (ksgn a g) st + 2) (d := 4) (by omega) (by decide) (by decide)) ?_
    refine mr_eq (mr_ret 2 (o := (some (.int (nI ((kleft (ksgn a g) st + 2) % 4))), (rSs (er (he, ke, ki, fi, fa, or, mi, a, g, l, w, s))))) (fun f => rfl)) ?_
    rw [hk, kway_5]
    rw [show kway 1 a (ksgn a g) l st = kleft (ksgn a g) st from rfl, if_neg h1]
theorem rc_wo1_x_s (he ke ki fi fa or : List Nat) (mi a g l w s : Nat) (p st : Nat) (hp : p < 5) (hst : st < 2 ^ 31) (hV : kV (he, ke, ki, fi, fa, or, mi, a, g, l, w, s)) (hb : ¬ kbey a l = none) : mm_R 147 48 [some (.ref 139), some (.int (nI p)), some (.int (nI st)), some (.int (nI (ksgn a g))), some (.int (nI (kleft (ksgn a g) st))), some (.int 1)] [.int (nI (kg ki p))] (rSs (er (he, ke, ki, fi, fa, or, mi, a, g, l, w, s))) (some (.int (nI (kway (kg ki p) a (ksgn a g) l st))), rSs (er (he, ke, ki, fi, fa, or, mi, a, g, l, w, s))) := by
  have hV0 := hV
  obtain ⟨-, -, -, -, -, -, -, -, -, -, -, -, -, v14, -, -⟩ := hV
  rcases k6 (v14 p) with hk | hk | hk | hk | hk | hk
  · exact mr_v (show nI (kg ki p) = 0 by rw [hk]; rfl) (rc_wo1_0_s he ke ki fi fa or mi a g l w s p st hp hst hV0 hb hk)
  · exact mr_v (show nI (kg ki p) = 1 by rw [hk]; rfl) (rc_wo1_1_s he ke ki fi fa or mi a g l w s p st hp hst hV0 hb hk)
  · exact mr_v (show nI (kg ki p) = 2 by rw [hk]; rfl) (rc_wo1_2_s he ke ki fi fa or mi a g l w s p st hp hst hV0 hb hk)
  · exact mr_v (show nI (kg ki p) = 3 by rw [hk]; rfl) (rc_wo1_3_s he ke ki fi fa or mi a g l w s p st hp hst hV0 hb hk)
  · exact mr_v (show nI (kg ki p) = 4 by rw [hk]; rfl) (rc_wo1_4_s he ke ki fi fa or mi a g l w s p st hp hst hV0 hb hk)
  · exact mr_v (show nI (kg ki p) = 5 by rw [hk]; rfl) (rc_wo1_5_s he ke ki fi fa or mi a g l w s p st hp hst hV0 hb hk)
set_option maxRecDepth 100000 in
theorem rc_wo1_s (he ke ki fi fa or : List Nat) (mi a g l w s : Nat) (p st : Nat) (hp : p < 5) (hst : st < 2 ^ 31) (hV : kV (he, ke, ki, fi, fa, or, mi, a, g, l, w, s)) (hb : ¬ kbey a l = none) : mm_R 147 41 [some (.ref 139), some (.int (nI p)), some (.int (nI st)), some (.int (nI (ksgn a g))), some (.int (nI (kleft (ksgn a g) st))), some (.int 1)] [] (rSs (er (he, ke, ki, fi, fa, or, mi, a, g, l, w, s))) (some (.int (nI (kway (kg ki p) a (ksgn a g) l st))), rSs (er (he, ke, ki, fi, fa, or, mi, a, g, l, w, s))) := by
  have hV0 := hV
  obtain ⟨v1, v2, v3, v4, v5, v6, v7, v8, v9, v10, v11, v12, v13, v14, v15, v16⟩ := hV
  have v6l := kO_len mi v7 or v6
  have hsg := ksgn_lt a g
  have hkl := kleft_lt (st := st) hsg
  have w14 := v14 p
  refine mr_seg 3 (pc1 := 44) (ls1 := [some (.ref 139), some (.int (nI p)), some (.int (nI st)), some (.int (nI (ksgn a g))), some (.int (nI (kleft (ksgn a g) st))), some (.int 1)]) (st1 := [.int 0, .int (nI p), .ref 139]) (M1 := (rSs (er (he, ke, ki, fi, fa, or, mi, a, g, l, w, s)))) (fun f => rfl) ?_
  refine mr_call (y := 141) (y0 := 47) (L := [some (.int (nI p)), some (.int 0)]) (rest := [.ref 139]) (rr := some (.int (nI (32 + 3 * p + 0)))) (M1 := (rSs (er (he, ke, ki, fi, fa, or, mi, a, g, l, w, s)))) (fun f => rfl) (rc_of p 0 (by omega) (by decide) _) ?_
  refine mr_ldn (xs := (er (he, ke, ki, fi, fa, or, mi, a, g, l, w, s))) rfl rfl (k := 32 + 3 * p + 0) (by omega) (er_ki (K := (he, ke, ki, fi, fa, or, mi, a, g, l, w, s)) v1 (by omega)) ?_
  exact rc_wo1_x_s he ke ki fi fa or mi a g l w s p st hp hst hV0 hb
set_option maxRecDepth 100000 in
theorem rc_wo22_s (he ke ki fi fa or : List Nat) (mi a g l w s : Nat) (p st : Nat) (hp : p < 5) (hst : st < 2 ^ 31) (hV : kV (he, ke, ki, fi, fa, or, mi, a, g, l, w, s)) : mm_R 147 22 [some (.ref 139), some (.int (nI p)), some (.int (nI st)), some (.int (nI (ksgn a g))), some (.int (nI (kleft (ksgn a g) st))), none] [] (rSs (er (he, ke, ki, fi, fa, or, mi, a, g, l, w, s))) (some (.int (nI (kway (kg ki p) a (ksgn a g) l st))), rSs (er (he, ke, ki, fi, fa, or, mi, a, g, l, w, s))) := by
  have hV0 := hV
  obtain ⟨v1, v2, v3, v4, v5, v6, v7, v8, v9, v10, v11, v12, v13, v14, v15, v16⟩ := hV
  have v6l := kO_len mi v7 or v6
  have hsg := ksgn_lt a g
  have hkl := kleft_lt (st := st) hsg
  have w14 := v14 p
  refine mr_seg 2 (pc1 := 24) (ls1 := [some (.ref 139), some (.int (nI p)), some (.int (nI st)), some (.int (nI (ksgn a g))), some (.int (nI (kleft (ksgn a g) st))), none]) (st1 := [.int 2, .ref 139]) (M1 := (rSs (er (he, ke, ki, fi, fa, or, mi, a, g, l, w, s)))) (fun f => rfl) ?_
  refine mr_ldn (xs := (er (he, ke, ki, fi, fa, or, mi, a, g, l, w, s))) rfl rfl (k := 2) (by decide) rfl ?_
  refine mr_seg 2 (pc1 := 27) (ls1 := [some (.ref 139), some (.int (nI p)), some (.int (nI st)), some (.int (nI (ksgn a g))), some (.int (nI (kleft (ksgn a g) st))), none]) (st1 := [.int 4, .ref 139, .int (nI a)]) (M1 := (rSs (er (he, ke, ki, fi, fa, or, mi, a, g, l, w, s)))) (fun f => rfl) ?_
  refine mr_ldn (xs := (er (he, ke, ki, fi, fa, or, mi, a, g, l, w, s))) rfl rfl (k := 4) (by decide) rfl ?_
  refine mr_call (y := 149) (y0 := 31) (L := [some (.int (nI a)), some (.int (nI l))]) (rest := []) (rr := some (.int (kI (kbey a l)))) (M1 := (rSs (er (he, ke, ki, fi, fa, or, mi, a, g, l, w, s)))) (fun f => rfl) (rc_bey (c := a) (w := l) (by omega) (by omega) _) ?_
  refine mr_ifN (C := (kI (kbey a l)) < 0) (kI_l0 (by omega)) (fun f => rfl) (fun h1 => ?_) (fun h1 => ?_)
  · refine mr_seg 2 (pc1 := 41) (ls1 := [some (.ref 139), some (.int (nI p)), some (.int (nI st)), some (.int (nI (ksgn a g))), some (.int (nI (kleft (ksgn a g) st))), some (.int 0)]) (st1 := []) (M1 := (rSs (er (he, ke, ki, fi, fa, or, mi, a, g, l, w, s)))) (fun f => rfl) ?_
    exact rc_wo0_s he ke ki fi fa or mi a g l w s p st hp hst hV0 h1
  · refine mr_seg 3 (pc1 := 41) (ls1 := [some (.ref 139), some (.int (nI p)), some (.int (nI st)), some (.int (nI (ksgn a g))), some (.int (nI (kleft (ksgn a g) st))), some (.int 1)]) (st1 := []) (M1 := (rSs (er (he, ke, ki, fi, fa, or, mi, a, g, l, w, s)))) (fun f => rfl) ?_
    exact rc_wo1_s he ke ki fi fa or mi a g l w s p st hp hst hV0 h1
set_option maxRecDepth 100000 in
theorem rc_way_s (he ke ki fi fa or : List Nat) (mi a g l w s : Nat) (p st : Nat) (hp : p < 5) (hst : st < 2 ^ 31) (hV : kV (he, ke, ki, fi, fa, or, mi, a, g, l, w, s)) (hne : ¬ a = g) : mm_R 147 0 [some (.ref 139), some (.int (nI p)), some (.int (nI st)), none, none, none] [] (rSs (er (he, ke, ki, fi, fa, or, mi, a, g, l, w, s))) (some (.int (nI (kway (kg ki p) a (ksgn a g) l st))), rSs (er (he, ke, ki, fi, fa, or, mi, a, g, l, w, s))) := by
  have hV0 := hV
  obtain ⟨v1, v2, v3, v4, v5, v6, v7, v8, v9, v10, v11, v12, v13, v14, v15, v16⟩ := hV
  have v6l := kO_len mi v7 or v6
  have hsg := ksgn_lt a g
  have hkl := kleft_lt (st := st) hsg
  have w14 := v14 p
  refine mr_seg 1 (pc1 := 1) (ls1 := [some (.ref 139), some (.int (nI p)), some (.int (nI st)), none, none, none]) (st1 := [.ref 139]) (M1 := (rSs (er (he, ke, ki, fi, fa, or, mi, a, g, l, w, s)))) (fun f => rfl) ?_
  refine mr_call (y := 148) (y0 := 4) (L := [some (.ref 139), none, none]) (rest := []) (rr := some (.int (nI (ksgn a g)))) (M1 := (rSs (er (he, ke, ki, fi, fa, or, mi, a, g, l, w, s)))) (fun f => rfl) (rc_sgn2_s he ke ki fi fa or mi a g l w s v8 v9 hne) ?_
  refine mr_seg 4 (pc1 := 8) (ls1 := [some (.ref 139), some (.int (nI p)), some (.int (nI st)), some (.int (nI (ksgn a g))), none, none]) (st1 := [.int ((nI st) - (nI st) / 3 * 3)]) (M1 := (rSs (er (he, ke, ki, fi, fa, or, mi, a, g, l, w, s)))) (fun f => rfl) ?_
  refine mr_v (pk_rem (a := st) (d := 3) (by omega) (by decide) (by decide)) ?_
  refine mr_ifN (C := (nI (st % 3)) = 0) (nI_eqi (a := st % 3) (b := 0) (by omega)) (fun f => rfl) (fun h1 => ?_) (fun h1 => ?_)
  · refine mr_seg 3 (pc1 := 14) (ls1 := [some (.ref 139), some (.int (nI p)), some (.int (nI st)), some (.int (nI (ksgn a g))), none, none]) (st1 := [.int ((nI (ksgn a g)) + 3)]) (M1 := (rSs (er (he, ke, ki, fi, fa, or, mi, a, g, l, w, s)))) (fun f => rfl) ?_
    refine mr_v (nI_add (ksgn a g) 3) ?_
    refine mr_seg 2 (pc1 := 16) (ls1 := [some (.ref 139), some (.int (nI p)), some (.int (nI st)), some (.int (nI (ksgn a g))), none, none]) (st1 := [.int ((nI (ksgn a g + 3)) - (nI (ksgn a g + 3)) / 4 * 4)]) (M1 := (rSs (er (he, ke, ki, fi, fa, or, mi, a, g, l, w, s)))) (fun f => rfl) ?_
    refine mr_v (pk_rem (a := ksgn a g + 3) (d := 4) (by omega) (by decide) (by decide)) ?_
    refine mr_seg 1 (pc1 := 20) (ls1 := [some (.ref 139), some (.int (nI p)), some (.int (nI st)), some (.int (nI (ksgn a g))), none, none]) (st1 := [.int (nI ((ksgn a g + 3) % 4))]) (M1 := (rSs (er (he, ke, ki, fi, fa, or, mi, a, g, l, w, s)))) (fun f => rfl) ?_
    refine mr_v (show (nI ((ksgn a g + 3) % 4)) = nI (kleft (ksgn a g) st) by unfold kleft; rw [if_pos h1]) ?_
    refine mr_seg 1 (pc1 := 22) (ls1 := [some (.ref 139), some (.int (nI p)), some (.int (nI st)), some (.int (nI (ksgn a g))), some (.int (nI (kleft (ksgn a g) st))), none]) (st1 := []) (M1 := rSs (er (he, ke, ki, fi, fa, or, mi, a, g, l, w, s))) (fun f => rfl) ?_
    exact rc_wo22_s he ke ki fi fa or mi a g l w s p st hp hst hV0
  · refine mr_seg 1 (pc1 := 20) (ls1 := [some (.ref 139), some (.int (nI p)), some (.int (nI st)), some (.int (nI (ksgn a g))), none, none]) (st1 := [.int (nI (ksgn a g))]) (M1 := (rSs (er (he, ke, ki, fi, fa, or, mi, a, g, l, w, s)))) (fun f => rfl) ?_
    refine mr_v (show (nI (ksgn a g)) = nI (kleft (ksgn a g) st) by unfold kleft; rw [if_neg h1]) ?_
    refine mr_seg 1 (pc1 := 22) (ls1 := [some (.ref 139), some (.int (nI p)), some (.int (nI st)), some (.int (nI (ksgn a g))), some (.int (nI (kleft (ksgn a g) st))), none]) (st1 := []) (M1 := rSs (er (he, ke, ki, fi, fa, or, mi, a, g, l, w, s))) (fun f => rfl) ?_
    exact rc_wo22_s he ke ki fi fa or mi a g l w s p st hp hst hV0
set_option maxRecDepth 100000 in
theorem rc_place_s_1_0 (he ke ki fi fa : List Nat) (a g l w s p o1 o2 o3 o4 : Nat) (v1 : he.length = 25) (hp : p < 5) (b1 : o1 < 5) (b2 : o2 < 5) (b3 : o3 < 5) (b4 : o4 < 5) : mm_R 144 0 [some (.ref 139), some (.int (nI p)), none] [] (rSs (er (he, ke, ki, fi, fa, [p, o1, o2, o3, o4], 1, a, g, l, w, s))) (some (.int 0), rSs (er (he, ke, ki, fi, fa, [p, o1, o2, o3, o4], 1, a, g, l, w, s))) := by
  refine mr_seg 6 (pc1 := 7) (ls1 := [some (.ref 139), some (.int (nI p)), some (.int 0)]) (st1 := [.int 47, .ref 139]) (M1 := (rSs (er (he, ke, ki, fi, fa, [p, o1, o2, o3, o4], 1, a, g, l, w, s)))) (fun f => rfl) ?_
  refine mr_ldn (xs := (er (he, ke, ki, fi, fa, [p, o1, o2, o3, o4], 1, a, g, l, w, s))) rfl rfl (k := 47) (by decide) (er_or (K := (he, ke, ki, fi, fa, [p, o1, o2, o3, o4], 1, a, g, l, w, s)) v1 rfl (j := 0) (by decide)) ?_
  refine mr_seg 1 (pc1 := 9) (ls1 := [some (.ref 139), some (.int (nI p)), some (.int 0)]) (st1 := [.int (nI p), .int (nI p)]) (M1 := (rSs (er (he, ke, ki, fi, fa, [p, o1, o2, o3, o4], 1, a, g, l, w, s)))) (fun f => rfl) ?_
  refine mr_t (C := (nI p) = (nI p)) (rfl) (fun f => rfl) ?_
  exact mr_ret 2 (fun f => rfl)
set_option maxRecDepth 100000 in
theorem rc_place_s_2_0 (he ke ki fi fa : List Nat) (a g l w s p o1 o2 o3 o4 : Nat) (v1 : he.length = 25) (q1 : ¬ o1 = p) (hp : p < 5) (b1 : o1 < 5) (b2 : o2 < 5) (b3 : o3 < 5) (b4 : o4 < 5) : mm_R 144 0 [some (.ref 139), some (.int (nI p)), none] [] (rSs (er (he, ke, ki, fi, fa, [p, o1, o2, o3, o4], 2, a, g, l, w, s))) (some (.int 0), rSs (er (he, ke, ki, fi, fa, [p, o1, o2, o3, o4], 2, a, g, l, w, s))) := by
  refine mr_seg 6 (pc1 := 7) (ls1 := [some (.ref 139), some (.int (nI p)), some (.int 0)]) (st1 := [.int 47, .ref 139]) (M1 := (rSs (er (he, ke, ki, fi, fa, [p, o1, o2, o3, o4], 2, a, g, l, w, s)))) (fun f => rfl) ?_
  refine mr_ldn (xs := (er (he, ke, ki, fi, fa, [p, o1, o2, o3, o4], 2, a, g, l, w, s))) rfl rfl (k := 47) (by decide) (er_or (K := (he, ke, ki, fi, fa, [p, o1, o2, o3, o4], 2, a, g, l, w, s)) v1 rfl (j := 0) (by decide)) ?_
  refine mr_seg 1 (pc1 := 9) (ls1 := [some (.ref 139), some (.int (nI p)), some (.int 0)]) (st1 := [.int (nI p), .int (nI p)]) (M1 := (rSs (er (he, ke, ki, fi, fa, [p, o1, o2, o3, o4], 2, a, g, l, w, s)))) (fun f => rfl) ?_
  refine mr_t (C := (nI p) = (nI p)) (rfl) (fun f => rfl) ?_
  exact mr_ret 2 (fun f => rfl)
set_option maxRecDepth 100000 in
theorem rc_place_s_2_1 (he ke ki fi fa : List Nat) (a g l w s p o0 o2 o3 o4 : Nat) (v1 : he.length = 25) (q0 : ¬ o0 = p) (hp : p < 5) (b0 : o0 < 5) (b2 : o2 < 5) (b3 : o3 < 5) (b4 : o4 < 5) : mm_R 144 0 [some (.ref 139), some (.int (nI p)), none] [] (rSs (er (he, ke, ki, fi, fa, [o0, p, o2, o3, o4], 2, a, g, l, w, s))) (some (.int 1), rSs (er (he, ke, ki, fi, fa, [o0, p, o2, o3, o4], 2, a, g, l, w, s))) := by
  refine mr_seg 6 (pc1 := 7) (ls1 := [some (.ref 139), some (.int (nI p)), some (.int 0)]) (st1 := [.int 47, .ref 139]) (M1 := (rSs (er (he, ke, ki, fi, fa, [o0, p, o2, o3, o4], 2, a, g, l, w, s)))) (fun f => rfl) ?_
  refine mr_ldn (xs := (er (he, ke, ki, fi, fa, [o0, p, o2, o3, o4], 2, a, g, l, w, s))) rfl rfl (k := 47) (by decide) (er_or (K := (he, ke, ki, fi, fa, [o0, p, o2, o3, o4], 2, a, g, l, w, s)) v1 rfl (j := 0) (by decide)) ?_
  refine mr_seg 1 (pc1 := 9) (ls1 := [some (.ref 139), some (.int (nI p)), some (.int 0)]) (st1 := [.int (nI p), .int (nI o0)]) (M1 := (rSs (er (he, ke, ki, fi, fa, [o0, p, o2, o3, o4], 2, a, g, l, w, s)))) (fun f => rfl) ?_
  refine mr_f (C := (nI o0) = (nI p)) (fun e => q0 ((nI_eq (by omega) (by omega)).mp e)) (fun f => rfl) ?_
  refine mr_seg 6 (pc1 := 7) (ls1 := [some (.ref 139), some (.int (nI p)), some (.int 1)]) (st1 := [.int 48, .ref 139]) (M1 := (rSs (er (he, ke, ki, fi, fa, [o0, p, o2, o3, o4], 2, a, g, l, w, s)))) (fun f => rfl) ?_
  refine mr_ldn (xs := (er (he, ke, ki, fi, fa, [o0, p, o2, o3, o4], 2, a, g, l, w, s))) rfl rfl (k := 48) (by decide) (er_or (K := (he, ke, ki, fi, fa, [o0, p, o2, o3, o4], 2, a, g, l, w, s)) v1 rfl (j := 1) (by decide)) ?_
  refine mr_seg 1 (pc1 := 9) (ls1 := [some (.ref 139), some (.int (nI p)), some (.int 1)]) (st1 := [.int (nI p), .int (nI p)]) (M1 := (rSs (er (he, ke, ki, fi, fa, [o0, p, o2, o3, o4], 2, a, g, l, w, s)))) (fun f => rfl) ?_
  refine mr_t (C := (nI p) = (nI p)) (rfl) (fun f => rfl) ?_
  exact mr_ret 2 (fun f => rfl)
set_option maxRecDepth 100000 in
theorem rc_place_s_3_0 (he ke ki fi fa : List Nat) (a g l w s p o1 o2 o3 o4 : Nat) (v1 : he.length = 25) (q1 : ¬ o1 = p) (q2 : ¬ o2 = p) (hp : p < 5) (b1 : o1 < 5) (b2 : o2 < 5) (b3 : o3 < 5) (b4 : o4 < 5) : mm_R 144 0 [some (.ref 139), some (.int (nI p)), none] [] (rSs (er (he, ke, ki, fi, fa, [p, o1, o2, o3, o4], 3, a, g, l, w, s))) (some (.int 0), rSs (er (he, ke, ki, fi, fa, [p, o1, o2, o3, o4], 3, a, g, l, w, s))) := by
  refine mr_seg 6 (pc1 := 7) (ls1 := [some (.ref 139), some (.int (nI p)), some (.int 0)]) (st1 := [.int 47, .ref 139]) (M1 := (rSs (er (he, ke, ki, fi, fa, [p, o1, o2, o3, o4], 3, a, g, l, w, s)))) (fun f => rfl) ?_
  refine mr_ldn (xs := (er (he, ke, ki, fi, fa, [p, o1, o2, o3, o4], 3, a, g, l, w, s))) rfl rfl (k := 47) (by decide) (er_or (K := (he, ke, ki, fi, fa, [p, o1, o2, o3, o4], 3, a, g, l, w, s)) v1 rfl (j := 0) (by decide)) ?_
  refine mr_seg 1 (pc1 := 9) (ls1 := [some (.ref 139), some (.int (nI p)), some (.int 0)]) (st1 := [.int (nI p), .int (nI p)]) (M1 := (rSs (er (he, ke, ki, fi, fa, [p, o1, o2, o3, o4], 3, a, g, l, w, s)))) (fun f => rfl) ?_
  refine mr_t (C := (nI p) = (nI p)) (rfl) (fun f => rfl) ?_
  exact mr_ret 2 (fun f => rfl)
set_option maxRecDepth 100000 in
theorem rc_place_s_3_1 (he ke ki fi fa : List Nat) (a g l w s p o0 o2 o3 o4 : Nat) (v1 : he.length = 25) (q0 : ¬ o0 = p) (q2 : ¬ o2 = p) (hp : p < 5) (b0 : o0 < 5) (b2 : o2 < 5) (b3 : o3 < 5) (b4 : o4 < 5) : mm_R 144 0 [some (.ref 139), some (.int (nI p)), none] [] (rSs (er (he, ke, ki, fi, fa, [o0, p, o2, o3, o4], 3, a, g, l, w, s))) (some (.int 1), rSs (er (he, ke, ki, fi, fa, [o0, p, o2, o3, o4], 3, a, g, l, w, s))) := by
  refine mr_seg 6 (pc1 := 7) (ls1 := [some (.ref 139), some (.int (nI p)), some (.int 0)]) (st1 := [.int 47, .ref 139]) (M1 := (rSs (er (he, ke, ki, fi, fa, [o0, p, o2, o3, o4], 3, a, g, l, w, s)))) (fun f => rfl) ?_
  refine mr_ldn (xs := (er (he, ke, ki, fi, fa, [o0, p, o2, o3, o4], 3, a, g, l, w, s))) rfl rfl (k := 47) (by decide) (er_or (K := (he, ke, ki, fi, fa, [o0, p, o2, o3, o4], 3, a, g, l, w, s)) v1 rfl (j := 0) (by decide)) ?_
  refine mr_seg 1 (pc1 := 9) (ls1 := [some (.ref 139), some (.int (nI p)), some (.int 0)]) (st1 := [.int (nI p), .int (nI o0)]) (M1 := (rSs (er (he, ke, ki, fi, fa, [o0, p, o2, o3, o4], 3, a, g, l, w, s)))) (fun f => rfl) ?_
  refine mr_f (C := (nI o0) = (nI p)) (fun e => q0 ((nI_eq (by omega) (by omega)).mp e)) (fun f => rfl) ?_
  refine mr_seg 6 (pc1 := 7) (ls1 := [some (.ref 139), some (.int (nI p)), some (.int 1)]) (st1 := [.int 48, .ref 139]) (M1 := (rSs (er (he, ke, ki, fi, fa, [o0, p, o2, o3, o4], 3, a, g, l, w, s)))) (fun f => rfl) ?_
  refine mr_ldn (xs := (er (he, ke, ki, fi, fa, [o0, p, o2, o3, o4], 3, a, g, l, w, s))) rfl rfl (k := 48) (by decide) (er_or (K := (he, ke, ki, fi, fa, [o0, p, o2, o3, o4], 3, a, g, l, w, s)) v1 rfl (j := 1) (by decide)) ?_
  refine mr_seg 1 (pc1 := 9) (ls1 := [some (.ref 139), some (.int (nI p)), some (.int 1)]) (st1 := [.int (nI p), .int (nI p)]) (M1 := (rSs (er (he, ke, ki, fi, fa, [o0, p, o2, o3, o4], 3, a, g, l, w, s)))) (fun f => rfl) ?_
  refine mr_t (C := (nI p) = (nI p)) (rfl) (fun f => rfl) ?_
  exact mr_ret 2 (fun f => rfl)
set_option maxRecDepth 100000 in
theorem rc_place_s_3_2 (he ke ki fi fa : List Nat) (a g l w s p o0 o1 o3 o4 : Nat) (v1 : he.length = 25) (q0 : ¬ o0 = p) (q1 : ¬ o1 = p) (hp : p < 5) (b0 : o0 < 5) (b1 : o1 < 5) (b3 : o3 < 5) (b4 : o4 < 5) : mm_R 144 0 [some (.ref 139), some (.int (nI p)), none] [] (rSs (er (he, ke, ki, fi, fa, [o0, o1, p, o3, o4], 3, a, g, l, w, s))) (some (.int 2), rSs (er (he, ke, ki, fi, fa, [o0, o1, p, o3, o4], 3, a, g, l, w, s))) := by
  refine mr_seg 6 (pc1 := 7) (ls1 := [some (.ref 139), some (.int (nI p)), some (.int 0)]) (st1 := [.int 47, .ref 139]) (M1 := (rSs (er (he, ke, ki, fi, fa, [o0, o1, p, o3, o4], 3, a, g, l, w, s)))) (fun f => rfl) ?_
  refine mr_ldn (xs := (er (he, ke, ki, fi, fa, [o0, o1, p, o3, o4], 3, a, g, l, w, s))) rfl rfl (k := 47) (by decide) (er_or (K := (he, ke, ki, fi, fa, [o0, o1, p, o3, o4], 3, a, g, l, w, s)) v1 rfl (j := 0) (by decide)) ?_
  refine mr_seg 1 (pc1 := 9) (ls1 := [some (.ref 139), some (.int (nI p)), some (.int 0)]) (st1 := [.int (nI p), .int (nI o0)]) (M1 := (rSs (er (he, ke, ki, fi, fa, [o0, o1, p, o3, o4], 3, a, g, l, w, s)))) (fun f => rfl) ?_
  refine mr_f (C := (nI o0) = (nI p)) (fun e => q0 ((nI_eq (by omega) (by omega)).mp e)) (fun f => rfl) ?_
  refine mr_seg 6 (pc1 := 7) (ls1 := [some (.ref 139), some (.int (nI p)), some (.int 1)]) (st1 := [.int 48, .ref 139]) (M1 := (rSs (er (he, ke, ki, fi, fa, [o0, o1, p, o3, o4], 3, a, g, l, w, s)))) (fun f => rfl) ?_
  refine mr_ldn (xs := (er (he, ke, ki, fi, fa, [o0, o1, p, o3, o4], 3, a, g, l, w, s))) rfl rfl (k := 48) (by decide) (er_or (K := (he, ke, ki, fi, fa, [o0, o1, p, o3, o4], 3, a, g, l, w, s)) v1 rfl (j := 1) (by decide)) ?_
  refine mr_seg 1 (pc1 := 9) (ls1 := [some (.ref 139), some (.int (nI p)), some (.int 1)]) (st1 := [.int (nI p), .int (nI o1)]) (M1 := (rSs (er (he, ke, ki, fi, fa, [o0, o1, p, o3, o4], 3, a, g, l, w, s)))) (fun f => rfl) ?_
  refine mr_f (C := (nI o1) = (nI p)) (fun e => q1 ((nI_eq (by omega) (by omega)).mp e)) (fun f => rfl) ?_
  refine mr_seg 6 (pc1 := 7) (ls1 := [some (.ref 139), some (.int (nI p)), some (.int 2)]) (st1 := [.int 49, .ref 139]) (M1 := (rSs (er (he, ke, ki, fi, fa, [o0, o1, p, o3, o4], 3, a, g, l, w, s)))) (fun f => rfl) ?_
  refine mr_ldn (xs := (er (he, ke, ki, fi, fa, [o0, o1, p, o3, o4], 3, a, g, l, w, s))) rfl rfl (k := 49) (by decide) (er_or (K := (he, ke, ki, fi, fa, [o0, o1, p, o3, o4], 3, a, g, l, w, s)) v1 rfl (j := 2) (by decide)) ?_
  refine mr_seg 1 (pc1 := 9) (ls1 := [some (.ref 139), some (.int (nI p)), some (.int 2)]) (st1 := [.int (nI p), .int (nI p)]) (M1 := (rSs (er (he, ke, ki, fi, fa, [o0, o1, p, o3, o4], 3, a, g, l, w, s)))) (fun f => rfl) ?_
  refine mr_t (C := (nI p) = (nI p)) (rfl) (fun f => rfl) ?_
  exact mr_ret 2 (fun f => rfl)
set_option maxRecDepth 100000 in
theorem rc_place_s_4_0 (he ke ki fi fa : List Nat) (a g l w s p o1 o2 o3 o4 : Nat) (v1 : he.length = 25) (q1 : ¬ o1 = p) (q2 : ¬ o2 = p) (q3 : ¬ o3 = p) (hp : p < 5) (b1 : o1 < 5) (b2 : o2 < 5) (b3 : o3 < 5) (b4 : o4 < 5) : mm_R 144 0 [some (.ref 139), some (.int (nI p)), none] [] (rSs (er (he, ke, ki, fi, fa, [p, o1, o2, o3, o4], 4, a, g, l, w, s))) (some (.int 0), rSs (er (he, ke, ki, fi, fa, [p, o1, o2, o3, o4], 4, a, g, l, w, s))) := by
  refine mr_seg 6 (pc1 := 7) (ls1 := [some (.ref 139), some (.int (nI p)), some (.int 0)]) (st1 := [.int 47, .ref 139]) (M1 := (rSs (er (he, ke, ki, fi, fa, [p, o1, o2, o3, o4], 4, a, g, l, w, s)))) (fun f => rfl) ?_
  refine mr_ldn (xs := (er (he, ke, ki, fi, fa, [p, o1, o2, o3, o4], 4, a, g, l, w, s))) rfl rfl (k := 47) (by decide) (er_or (K := (he, ke, ki, fi, fa, [p, o1, o2, o3, o4], 4, a, g, l, w, s)) v1 rfl (j := 0) (by decide)) ?_
  refine mr_seg 1 (pc1 := 9) (ls1 := [some (.ref 139), some (.int (nI p)), some (.int 0)]) (st1 := [.int (nI p), .int (nI p)]) (M1 := (rSs (er (he, ke, ki, fi, fa, [p, o1, o2, o3, o4], 4, a, g, l, w, s)))) (fun f => rfl) ?_
  refine mr_t (C := (nI p) = (nI p)) (rfl) (fun f => rfl) ?_
  exact mr_ret 2 (fun f => rfl)
set_option maxRecDepth 100000 in
theorem rc_place_s_4_1 (he ke ki fi fa : List Nat) (a g l w s p o0 o2 o3 o4 : Nat) (v1 : he.length = 25) (q0 : ¬ o0 = p) (q2 : ¬ o2 = p) (q3 : ¬ o3 = p) (hp : p < 5) (b0 : o0 < 5) (b2 : o2 < 5) (b3 : o3 < 5) (b4 : o4 < 5) : mm_R 144 0 [some (.ref 139), some (.int (nI p)), none] [] (rSs (er (he, ke, ki, fi, fa, [o0, p, o2, o3, o4], 4, a, g, l, w, s))) (some (.int 1), rSs (er (he, ke, ki, fi, fa, [o0, p, o2, o3, o4], 4, a, g, l, w, s))) := by
  refine mr_seg 6 (pc1 := 7) (ls1 := [some (.ref 139), some (.int (nI p)), some (.int 0)]) (st1 := [.int 47, .ref 139]) (M1 := (rSs (er (he, ke, ki, fi, fa, [o0, p, o2, o3, o4], 4, a, g, l, w, s)))) (fun f => rfl) ?_
  refine mr_ldn (xs := (er (he, ke, ki, fi, fa, [o0, p, o2, o3, o4], 4, a, g, l, w, s))) rfl rfl (k := 47) (by decide) (er_or (K := (he, ke, ki, fi, fa, [o0, p, o2, o3, o4], 4, a, g, l, w, s)) v1 rfl (j := 0) (by decide)) ?_
  refine mr_seg 1 (pc1 := 9) (ls1 := [some (.ref 139), some (.int (nI p)), some (.int 0)]) (st1 := [.int (nI p), .int (nI o0)]) (M1 := (rSs (er (he, ke, ki, fi, fa, [o0, p, o2, o3, o4], 4, a, g, l, w, s)))) (fun f => rfl) ?_
  refine mr_f (C := (nI o0) = (nI p)) (fun e => q0 ((nI_eq (by omega) (by omega)).mp e)) (fun f => rfl) ?_
  refine mr_seg 6 (pc1 := 7) (ls1 := [some (.ref 139), some (.int (nI p)), some (.int 1)]) (st1 := [.int 48, .ref 139]) (M1 := (rSs (er (he, ke, ki, fi, fa, [o0, p, o2, o3, o4], 4, a, g, l, w, s)))) (fun f => rfl) ?_
  refine mr_ldn (xs := (er (he, ke, ki, fi, fa, [o0, p, o2, o3, o4], 4, a, g, l, w, s))) rfl rfl (k := 48) (by decide) (er_or (K := (he, ke, ki, fi, fa, [o0, p, o2, o3, o4], 4, a, g, l, w, s)) v1 rfl (j := 1) (by decide)) ?_
  refine mr_seg 1 (pc1 := 9) (ls1 := [some (.ref 139), some (.int (nI p)), some (.int 1)]) (st1 := [.int (nI p), .int (nI p)]) (M1 := (rSs (er (he, ke, ki, fi, fa, [o0, p, o2, o3, o4], 4, a, g, l, w, s)))) (fun f => rfl) ?_
  refine mr_t (C := (nI p) = (nI p)) (rfl) (fun f => rfl) ?_
  exact mr_ret 2 (fun f => rfl)
set_option maxRecDepth 100000 in
theorem rc_place_s_4_2 (he ke ki fi fa : List Nat) (a g l w s p o0 o1 o3 o4 : Nat) (v1 : he.length = 25) (q0 : ¬ o0 = p) (q1 : ¬ o1 = p) (q3 : ¬ o3 = p) (hp : p < 5) (b0 : o0 < 5) (b1 : o1 < 5) (b3 : o3 < 5) (b4 : o4 < 5) : mm_R 144 0 [some (.ref 139), some (.int (nI p)), none] [] (rSs (er (he, ke, ki, fi, fa, [o0, o1, p, o3, o4], 4, a, g, l, w, s))) (some (.int 2), rSs (er (he, ke, ki, fi, fa, [o0, o1, p, o3, o4], 4, a, g, l, w, s))) := by
  refine mr_seg 6 (pc1 := 7) (ls1 := [some (.ref 139), some (.int (nI p)), some (.int 0)]) (st1 := [.int 47, .ref 139]) (M1 := (rSs (er (he, ke, ki, fi, fa, [o0, o1, p, o3, o4], 4, a, g, l, w, s)))) (fun f => rfl) ?_
  refine mr_ldn (xs := (er (he, ke, ki, fi, fa, [o0, o1, p, o3, o4], 4, a, g, l, w, s))) rfl rfl (k := 47) (by decide) (er_or (K := (he, ke, ki, fi, fa, [o0, o1, p, o3, o4], 4, a, g, l, w, s)) v1 rfl (j := 0) (by decide)) ?_
  refine mr_seg 1 (pc1 := 9) (ls1 := [some (.ref 139), some (.int (nI p)), some (.int 0)]) (st1 := [.int (nI p), .int (nI o0)]) (M1 := (rSs (er (he, ke, ki, fi, fa, [o0, o1, p, o3, o4], 4, a, g, l, w, s)))) (fun f => rfl) ?_
  refine mr_f (C := (nI o0) = (nI p)) (fun e => q0 ((nI_eq (by omega) (by omega)).mp e)) (fun f => rfl) ?_
  refine mr_seg 6 (pc1 := 7) (ls1 := [some (.ref 139), some (.int (nI p)), some (.int 1)]) (st1 := [.int 48, .ref 139]) (M1 := (rSs (er (he, ke, ki, fi, fa, [o0, o1, p, o3, o4], 4, a, g, l, w, s)))) (fun f => rfl) ?_
  refine mr_ldn (xs := (er (he, ke, ki, fi, fa, [o0, o1, p, o3, o4], 4, a, g, l, w, s))) rfl rfl (k := 48) (by decide) (er_or (K := (he, ke, ki, fi, fa, [o0, o1, p, o3, o4], 4, a, g, l, w, s)) v1 rfl (j := 1) (by decide)) ?_
  refine mr_seg 1 (pc1 := 9) (ls1 := [some (.ref 139), some (.int (nI p)), some (.int 1)]) (st1 := [.int (nI p), .int (nI o1)]) (M1 := (rSs (er (he, ke, ki, fi, fa, [o0, o1, p, o3, o4], 4, a, g, l, w, s)))) (fun f => rfl) ?_
  refine mr_f (C := (nI o1) = (nI p)) (fun e => q1 ((nI_eq (by omega) (by omega)).mp e)) (fun f => rfl) ?_
  refine mr_seg 6 (pc1 := 7) (ls1 := [some (.ref 139), some (.int (nI p)), some (.int 2)]) (st1 := [.int 49, .ref 139]) (M1 := (rSs (er (he, ke, ki, fi, fa, [o0, o1, p, o3, o4], 4, a, g, l, w, s)))) (fun f => rfl) ?_
  refine mr_ldn (xs := (er (he, ke, ki, fi, fa, [o0, o1, p, o3, o4], 4, a, g, l, w, s))) rfl rfl (k := 49) (by decide) (er_or (K := (he, ke, ki, fi, fa, [o0, o1, p, o3, o4], 4, a, g, l, w, s)) v1 rfl (j := 2) (by decide)) ?_
  refine mr_seg 1 (pc1 := 9) (ls1 := [some (.ref 139), some (.int (nI p)), some (.int 2)]) (st1 := [.int (nI p), .int (nI p)]) (M1 := (rSs (er (he, ke, ki, fi, fa, [o0, o1, p, o3, o4], 4, a, g, l, w, s)))) (fun f => rfl) ?_
  refine mr_t (C := (nI p) = (nI p)) (rfl) (fun f => rfl) ?_
  exact mr_ret 2 (fun f => rfl)
set_option maxRecDepth 100000 in
theorem rc_place_s_4_3 (he ke ki fi fa : List Nat) (a g l w s p o0 o1 o2 o4 : Nat) (v1 : he.length = 25) (q0 : ¬ o0 = p) (q1 : ¬ o1 = p) (q2 : ¬ o2 = p) (hp : p < 5) (b0 : o0 < 5) (b1 : o1 < 5) (b2 : o2 < 5) (b4 : o4 < 5) : mm_R 144 0 [some (.ref 139), some (.int (nI p)), none] [] (rSs (er (he, ke, ki, fi, fa, [o0, o1, o2, p, o4], 4, a, g, l, w, s))) (some (.int 3), rSs (er (he, ke, ki, fi, fa, [o0, o1, o2, p, o4], 4, a, g, l, w, s))) := by
  refine mr_seg 6 (pc1 := 7) (ls1 := [some (.ref 139), some (.int (nI p)), some (.int 0)]) (st1 := [.int 47, .ref 139]) (M1 := (rSs (er (he, ke, ki, fi, fa, [o0, o1, o2, p, o4], 4, a, g, l, w, s)))) (fun f => rfl) ?_
  refine mr_ldn (xs := (er (he, ke, ki, fi, fa, [o0, o1, o2, p, o4], 4, a, g, l, w, s))) rfl rfl (k := 47) (by decide) (er_or (K := (he, ke, ki, fi, fa, [o0, o1, o2, p, o4], 4, a, g, l, w, s)) v1 rfl (j := 0) (by decide)) ?_
  refine mr_seg 1 (pc1 := 9) (ls1 := [some (.ref 139), some (.int (nI p)), some (.int 0)]) (st1 := [.int (nI p), .int (nI o0)]) (M1 := (rSs (er (he, ke, ki, fi, fa, [o0, o1, o2, p, o4], 4, a, g, l, w, s)))) (fun f => rfl) ?_
  refine mr_f (C := (nI o0) = (nI p)) (fun e => q0 ((nI_eq (by omega) (by omega)).mp e)) (fun f => rfl) ?_
  refine mr_seg 6 (pc1 := 7) (ls1 := [some (.ref 139), some (.int (nI p)), some (.int 1)]) (st1 := [.int 48, .ref 139]) (M1 := (rSs (er (he, ke, ki, fi, fa, [o0, o1, o2, p, o4], 4, a, g, l, w, s)))) (fun f => rfl) ?_
  refine mr_ldn (xs := (er (he, ke, ki, fi, fa, [o0, o1, o2, p, o4], 4, a, g, l, w, s))) rfl rfl (k := 48) (by decide) (er_or (K := (he, ke, ki, fi, fa, [o0, o1, o2, p, o4], 4, a, g, l, w, s)) v1 rfl (j := 1) (by decide)) ?_
  refine mr_seg 1 (pc1 := 9) (ls1 := [some (.ref 139), some (.int (nI p)), some (.int 1)]) (st1 := [.int (nI p), .int (nI o1)]) (M1 := (rSs (er (he, ke, ki, fi, fa, [o0, o1, o2, p, o4], 4, a, g, l, w, s)))) (fun f => rfl) ?_
  refine mr_f (C := (nI o1) = (nI p)) (fun e => q1 ((nI_eq (by omega) (by omega)).mp e)) (fun f => rfl) ?_
  refine mr_seg 6 (pc1 := 7) (ls1 := [some (.ref 139), some (.int (nI p)), some (.int 2)]) (st1 := [.int 49, .ref 139]) (M1 := (rSs (er (he, ke, ki, fi, fa, [o0, o1, o2, p, o4], 4, a, g, l, w, s)))) (fun f => rfl) ?_
  refine mr_ldn (xs := (er (he, ke, ki, fi, fa, [o0, o1, o2, p, o4], 4, a, g, l, w, s))) rfl rfl (k := 49) (by decide) (er_or (K := (he, ke, ki, fi, fa, [o0, o1, o2, p, o4], 4, a, g, l, w, s)) v1 rfl (j := 2) (by decide)) ?_
  refine mr_seg 1 (pc1 := 9) (ls1 := [some (.ref 139), some (.int (nI p)), some (.int 2)]) (st1 := [.int (nI p), .int (nI o2)]) (M1 := (rSs (er (he, ke, ki, fi, fa, [o0, o1, o2, p, o4], 4, a, g, l, w, s)))) (fun f => rfl) ?_
  refine mr_f (C := (nI o2) = (nI p)) (fun e => q2 ((nI_eq (by omega) (by omega)).mp e)) (fun f => rfl) ?_
  refine mr_seg 6 (pc1 := 7) (ls1 := [some (.ref 139), some (.int (nI p)), some (.int 3)]) (st1 := [.int 50, .ref 139]) (M1 := (rSs (er (he, ke, ki, fi, fa, [o0, o1, o2, p, o4], 4, a, g, l, w, s)))) (fun f => rfl) ?_
  refine mr_ldn (xs := (er (he, ke, ki, fi, fa, [o0, o1, o2, p, o4], 4, a, g, l, w, s))) rfl rfl (k := 50) (by decide) (er_or (K := (he, ke, ki, fi, fa, [o0, o1, o2, p, o4], 4, a, g, l, w, s)) v1 rfl (j := 3) (by decide)) ?_
  refine mr_seg 1 (pc1 := 9) (ls1 := [some (.ref 139), some (.int (nI p)), some (.int 3)]) (st1 := [.int (nI p), .int (nI p)]) (M1 := (rSs (er (he, ke, ki, fi, fa, [o0, o1, o2, p, o4], 4, a, g, l, w, s)))) (fun f => rfl) ?_
  refine mr_t (C := (nI p) = (nI p)) (rfl) (fun f => rfl) ?_
  exact mr_ret 2 (fun f => rfl)
set_option maxRecDepth 100000 in
theorem rc_place_s_5_0 (he ke ki fi fa : List Nat) (a g l w s p o1 o2 o3 o4 : Nat) (v1 : he.length = 25) (q1 : ¬ o1 = p) (q2 : ¬ o2 = p) (q3 : ¬ o3 = p) (q4 : ¬ o4 = p) (hp : p < 5) (b1 : o1 < 5) (b2 : o2 < 5) (b3 : o3 < 5) (b4 : o4 < 5) : mm_R 144 0 [some (.ref 139), some (.int (nI p)), none] [] (rSs (er (he, ke, ki, fi, fa, [p, o1, o2, o3, o4], 5, a, g, l, w, s))) (some (.int 0), rSs (er (he, ke, ki, fi, fa, [p, o1, o2, o3, o4], 5, a, g, l, w, s))) := by
  refine mr_seg 6 (pc1 := 7) (ls1 := [some (.ref 139), some (.int (nI p)), some (.int 0)]) (st1 := [.int 47, .ref 139]) (M1 := (rSs (er (he, ke, ki, fi, fa, [p, o1, o2, o3, o4], 5, a, g, l, w, s)))) (fun f => rfl) ?_
  refine mr_ldn (xs := (er (he, ke, ki, fi, fa, [p, o1, o2, o3, o4], 5, a, g, l, w, s))) rfl rfl (k := 47) (by decide) (er_or (K := (he, ke, ki, fi, fa, [p, o1, o2, o3, o4], 5, a, g, l, w, s)) v1 rfl (j := 0) (by decide)) ?_
  refine mr_seg 1 (pc1 := 9) (ls1 := [some (.ref 139), some (.int (nI p)), some (.int 0)]) (st1 := [.int (nI p), .int (nI p)]) (M1 := (rSs (er (he, ke, ki, fi, fa, [p, o1, o2, o3, o4], 5, a, g, l, w, s)))) (fun f => rfl) ?_
  refine mr_t (C := (nI p) = (nI p)) (rfl) (fun f => rfl) ?_
  exact mr_ret 2 (fun f => rfl)
set_option maxRecDepth 100000 in
theorem rc_place_s_5_1 (he ke ki fi fa : List Nat) (a g l w s p o0 o2 o3 o4 : Nat) (v1 : he.length = 25) (q0 : ¬ o0 = p) (q2 : ¬ o2 = p) (q3 : ¬ o3 = p) (q4 : ¬ o4 = p) (hp : p < 5) (b0 : o0 < 5) (b2 : o2 < 5) (b3 : o3 < 5) (b4 : o4 < 5) : mm_R 144 0 [some (.ref 139), some (.int (nI p)), none] [] (rSs (er (he, ke, ki, fi, fa, [o0, p, o2, o3, o4], 5, a, g, l, w, s))) (some (.int 1), rSs (er (he, ke, ki, fi, fa, [o0, p, o2, o3, o4], 5, a, g, l, w, s))) := by
  refine mr_seg 6 (pc1 := 7) (ls1 := [some (.ref 139), some (.int (nI p)), some (.int 0)]) (st1 := [.int 47, .ref 139]) (M1 := (rSs (er (he, ke, ki, fi, fa, [o0, p, o2, o3, o4], 5, a, g, l, w, s)))) (fun f => rfl) ?_
  refine mr_ldn (xs := (er (he, ke, ki, fi, fa, [o0, p, o2, o3, o4], 5, a, g, l, w, s))) rfl rfl (k := 47) (by decide) (er_or (K := (he, ke, ki, fi, fa, [o0, p, o2, o3, o4], 5, a, g, l, w, s)) v1 rfl (j := 0) (by decide)) ?_
  refine mr_seg 1 (pc1 := 9) (ls1 := [some (.ref 139), some (.int (nI p)), some (.int 0)]) (st1 := [.int (nI p), .int (nI o0)]) (M1 := (rSs (er (he, ke, ki, fi, fa, [o0, p, o2, o3, o4], 5, a, g, l, w, s)))) (fun f => rfl) ?_
  refine mr_f (C := (nI o0) = (nI p)) (fun e => q0 ((nI_eq (by omega) (by omega)).mp e)) (fun f => rfl) ?_
  refine mr_seg 6 (pc1 := 7) (ls1 := [some (.ref 139), some (.int (nI p)), some (.int 1)]) (st1 := [.int 48, .ref 139]) (M1 := (rSs (er (he, ke, ki, fi, fa, [o0, p, o2, o3, o4], 5, a, g, l, w, s)))) (fun f => rfl) ?_
  refine mr_ldn (xs := (er (he, ke, ki, fi, fa, [o0, p, o2, o3, o4], 5, a, g, l, w, s))) rfl rfl (k := 48) (by decide) (er_or (K := (he, ke, ki, fi, fa, [o0, p, o2, o3, o4], 5, a, g, l, w, s)) v1 rfl (j := 1) (by decide)) ?_
  refine mr_seg 1 (pc1 := 9) (ls1 := [some (.ref 139), some (.int (nI p)), some (.int 1)]) (st1 := [.int (nI p), .int (nI p)]) (M1 := (rSs (er (he, ke, ki, fi, fa, [o0, p, o2, o3, o4], 5, a, g, l, w, s)))) (fun f => rfl) ?_
  refine mr_t (C := (nI p) = (nI p)) (rfl) (fun f => rfl) ?_
  exact mr_ret 2 (fun f => rfl)
set_option maxRecDepth 100000 in
theorem rc_place_s_5_2 (he ke ki fi fa : List Nat) (a g l w s p o0 o1 o3 o4 : Nat) (v1 : he.length = 25) (q0 : ¬ o0 = p) (q1 : ¬ o1 = p) (q3 : ¬ o3 = p) (q4 : ¬ o4 = p) (hp : p < 5) (b0 : o0 < 5) (b1 : o1 < 5) (b3 : o3 < 5) (b4 : o4 < 5) : mm_R 144 0 [some (.ref 139), some (.int (nI p)), none] [] (rSs (er (he, ke, ki, fi, fa, [o0, o1, p, o3, o4], 5, a, g, l, w, s))) (some (.int 2), rSs (er (he, ke, ki, fi, fa, [o0, o1, p, o3, o4], 5, a, g, l, w, s))) := by
  refine mr_seg 6 (pc1 := 7) (ls1 := [some (.ref 139), some (.int (nI p)), some (.int 0)]) (st1 := [.int 47, .ref 139]) (M1 := (rSs (er (he, ke, ki, fi, fa, [o0, o1, p, o3, o4], 5, a, g, l, w, s)))) (fun f => rfl) ?_
  refine mr_ldn (xs := (er (he, ke, ki, fi, fa, [o0, o1, p, o3, o4], 5, a, g, l, w, s))) rfl rfl (k := 47) (by decide) (er_or (K := (he, ke, ki, fi, fa, [o0, o1, p, o3, o4], 5, a, g, l, w, s)) v1 rfl (j := 0) (by decide)) ?_
  refine mr_seg 1 (pc1 := 9) (ls1 := [some (.ref 139), some (.int (nI p)), some (.int 0)]) (st1 := [.int (nI p), .int (nI o0)]) (M1 := (rSs (er (he, ke, ki, fi, fa, [o0, o1, p, o3, o4], 5, a, g, l, w, s)))) (fun f => rfl) ?_
  refine mr_f (C := (nI o0) = (nI p)) (fun e => q0 ((nI_eq (by omega) (by omega)).mp e)) (fun f => rfl) ?_
  refine mr_seg 6 (pc1 := 7) (ls1 := [some (.ref 139), some (.int (nI p)), some (.int 1)]) (st1 := [.int 48, .ref 139]) (M1 := (rSs (er (he, ke, ki, fi, fa, [o0, o1, p, o3, o4], 5, a, g, l, w, s)))) (fun f => rfl) ?_
  refine mr_ldn (xs := (er (he, ke, ki, fi, fa, [o0, o1, p, o3, o4], 5, a, g, l, w, s))) rfl rfl (k := 48) (by decide) (er_or (K := (he, ke, ki, fi, fa, [o0, o1, p, o3, o4], 5, a, g, l, w, s)) v1 rfl (j := 1) (by decide)) ?_
  refine mr_seg 1 (pc1 := 9) (ls1 := [some (.ref 139), some (.int (nI p)), some (.int 1)]) (st1 := [.int (nI p), .int (nI o1)]) (M1 := (rSs (er (he, ke, ki, fi, fa, [o0, o1, p, o3, o4], 5, a, g, l, w, s)))) (fun f => rfl) ?_
  refine mr_f (C := (nI o1) = (nI p)) (fun e => q1 ((nI_eq (by omega) (by omega)).mp e)) (fun f => rfl) ?_
  refine mr_seg 6 (pc1 := 7) (ls1 := [some (.ref 139), some (.int (nI p)), some (.int 2)]) (st1 := [.int 49, .ref 139]) (M1 := (rSs (er (he, ke, ki, fi, fa, [o0, o1, p, o3, o4], 5, a, g, l, w, s)))) (fun f => rfl) ?_
  refine mr_ldn (xs := (er (he, ke, ki, fi, fa, [o0, o1, p, o3, o4], 5, a, g, l, w, s))) rfl rfl (k := 49) (by decide) (er_or (K := (he, ke, ki, fi, fa, [o0, o1, p, o3, o4], 5, a, g, l, w, s)) v1 rfl (j := 2) (by decide)) ?_
  refine mr_seg 1 (pc1 := 9) (ls1 := [some (.ref 139), some (.int (nI p)), some (.int 2)]) (st1 := [.int (nI p), .int (nI p)]) (M1 := (rSs (er (he, ke, ki, fi, fa, [o0, o1, p, o3, o4], 5, a, g, l, w, s)))) (fun f => rfl) ?_
  refine mr_t (C := (nI p) = (nI p)) (rfl) (fun f => rfl) ?_
  exact mr_ret 2 (fun f => rfl)
set_option maxRecDepth 100000 in
theorem rc_place_s_5_3 (he ke ki fi fa : List Nat) (a g l w s p o0 o1 o2 o4 : Nat) (v1 : he.length = 25) (q0 : ¬ o0 = p) (q1 : ¬ o1 = p) (q2 : ¬ o2 = p) (q4 : ¬ o4 = p) (hp : p < 5) (b0 : o0 < 5) (b1 : o1 < 5) (b2 : o2 < 5) (b4 : o4 < 5) : mm_R 144 0 [some (.ref 139), some (.int (nI p)), none] [] (rSs (er (he, ke, ki, fi, fa, [o0, o1, o2, p, o4], 5, a, g, l, w, s))) (some (.int 3), rSs (er (he, ke, ki, fi, fa, [o0, o1, o2, p, o4], 5, a, g, l, w, s))) := by
  refine mr_seg 6 (pc1 := 7) (ls1 := [some (.ref 139), some (.int (nI p)), some (.int 0)]) (st1 := [.int 47, .ref 139]) (M1 := (rSs (er (he, ke, ki, fi, fa, [o0, o1, o2, p, o4], 5, a, g, l, w, s)))) (fun f => rfl) ?_
  refine mr_ldn (xs := (er (he, ke, ki, fi, fa, [o0, o1, o2, p, o4], 5, a, g, l, w, s))) rfl rfl (k := 47) (by decide) (er_or (K := (he, ke, ki, fi, fa, [o0, o1, o2, p, o4], 5, a, g, l, w, s)) v1 rfl (j := 0) (by decide)) ?_
  refine mr_seg 1 (pc1 := 9) (ls1 := [some (.ref 139), some (.int (nI p)), some (.int 0)]) (st1 := [.int (nI p), .int (nI o0)]) (M1 := (rSs (er (he, ke, ki, fi, fa, [o0, o1, o2, p, o4], 5, a, g, l, w, s)))) (fun f => rfl) ?_
  refine mr_f (C := (nI o0) = (nI p)) (fun e => q0 ((nI_eq (by omega) (by omega)).mp e)) (fun f => rfl) ?_
  refine mr_seg 6 (pc1 := 7) (ls1 := [some (.ref 139), some (.int (nI p)), some (.int 1)]) (st1 := [.int 48, .ref 139]) (M1 := (rSs (er (he, ke, ki, fi, fa, [o0, o1, o2, p, o4], 5, a, g, l, w, s)))) (fun f => rfl) ?_
  refine mr_ldn (xs := (er (he, ke, ki, fi, fa, [o0, o1, o2, p, o4], 5, a, g, l, w, s))) rfl rfl (k := 48) (by decide) (er_or (K := (he, ke, ki, fi, fa, [o0, o1, o2, p, o4], 5, a, g, l, w, s)) v1 rfl (j := 1) (by decide)) ?_
  refine mr_seg 1 (pc1 := 9) (ls1 := [some (.ref 139), some (.int (nI p)), some (.int 1)]) (st1 := [.int (nI p), .int (nI o1)]) (M1 := (rSs (er (he, ke, ki, fi, fa, [o0, o1, o2, p, o4], 5, a, g, l, w, s)))) (fun f => rfl) ?_
  refine mr_f (C := (nI o1) = (nI p)) (fun e => q1 ((nI_eq (by omega) (by omega)).mp e)) (fun f => rfl) ?_
  refine mr_seg 6 (pc1 := 7) (ls1 := [some (.ref 139), some (.int (nI p)), some (.int 2)]) (st1 := [.int 49, .ref 139]) (M1 := (rSs (er (he, ke, ki, fi, fa, [o0, o1, o2, p, o4], 5, a, g, l, w, s)))) (fun f => rfl) ?_
  refine mr_ldn (xs := (er (he, ke, ki, fi, fa, [o0, o1, o2, p, o4], 5, a, g, l, w, s))) rfl rfl (k := 49) (by decide) (er_or (K := (he, ke, ki, fi, fa, [o0, o1, o2, p, o4], 5, a, g, l, w, s)) v1 rfl (j := 2) (by decide)) ?_
  refine mr_seg 1 (pc1 := 9) (ls1 := [some (.ref 139), some (.int (nI p)), some (.int 2)]) (st1 := [.int (nI p), .int (nI o2)]) (M1 := (rSs (er (he, ke, ki, fi, fa, [o0, o1, o2, p, o4], 5, a, g, l, w, s)))) (fun f => rfl) ?_
  refine mr_f (C := (nI o2) = (nI p)) (fun e => q2 ((nI_eq (by omega) (by omega)).mp e)) (fun f => rfl) ?_
  refine mr_seg 6 (pc1 := 7) (ls1 := [some (.ref 139), some (.int (nI p)), some (.int 3)]) (st1 := [.int 50, .ref 139]) (M1 := (rSs (er (he, ke, ki, fi, fa, [o0, o1, o2, p, o4], 5, a, g, l, w, s)))) (fun f => rfl) ?_
  refine mr_ldn (xs := (er (he, ke, ki, fi, fa, [o0, o1, o2, p, o4], 5, a, g, l, w, s))) rfl rfl (k := 50) (by decide) (er_or (K := (he, ke, ki, fi, fa, [o0, o1, o2, p, o4], 5, a, g, l, w, s)) v1 rfl (j := 3) (by decide)) ?_
  refine mr_seg 1 (pc1 := 9) (ls1 := [some (.ref 139), some (.int (nI p)), some (.int 3)]) (st1 := [.int (nI p), .int (nI p)]) (M1 := (rSs (er (he, ke, ki, fi, fa, [o0, o1, o2, p, o4], 5, a, g, l, w, s)))) (fun f => rfl) ?_
  refine mr_t (C := (nI p) = (nI p)) (rfl) (fun f => rfl) ?_
  exact mr_ret 2 (fun f => rfl)
set_option maxRecDepth 100000 in
theorem rc_place_s_5_4 (he ke ki fi fa : List Nat) (a g l w s p o0 o1 o2 o3 : Nat) (v1 : he.length = 25) (q0 : ¬ o0 = p) (q1 : ¬ o1 = p) (q2 : ¬ o2 = p) (q3 : ¬ o3 = p) (hp : p < 5) (b0 : o0 < 5) (b1 : o1 < 5) (b2 : o2 < 5) (b3 : o3 < 5) : mm_R 144 0 [some (.ref 139), some (.int (nI p)), none] [] (rSs (er (he, ke, ki, fi, fa, [o0, o1, o2, o3, p], 5, a, g, l, w, s))) (some (.int 4), rSs (er (he, ke, ki, fi, fa, [o0, o1, o2, o3, p], 5, a, g, l, w, s))) := by
  refine mr_seg 6 (pc1 := 7) (ls1 := [some (.ref 139), some (.int (nI p)), some (.int 0)]) (st1 := [.int 47, .ref 139]) (M1 := (rSs (er (he, ke, ki, fi, fa, [o0, o1, o2, o3, p], 5, a, g, l, w, s)))) (fun f => rfl) ?_
  refine mr_ldn (xs := (er (he, ke, ki, fi, fa, [o0, o1, o2, o3, p], 5, a, g, l, w, s))) rfl rfl (k := 47) (by decide) (er_or (K := (he, ke, ki, fi, fa, [o0, o1, o2, o3, p], 5, a, g, l, w, s)) v1 rfl (j := 0) (by decide)) ?_
  refine mr_seg 1 (pc1 := 9) (ls1 := [some (.ref 139), some (.int (nI p)), some (.int 0)]) (st1 := [.int (nI p), .int (nI o0)]) (M1 := (rSs (er (he, ke, ki, fi, fa, [o0, o1, o2, o3, p], 5, a, g, l, w, s)))) (fun f => rfl) ?_
  refine mr_f (C := (nI o0) = (nI p)) (fun e => q0 ((nI_eq (by omega) (by omega)).mp e)) (fun f => rfl) ?_
  refine mr_seg 6 (pc1 := 7) (ls1 := [some (.ref 139), some (.int (nI p)), some (.int 1)]) (st1 := [.int 48, .ref 139]) (M1 := (rSs (er (he, ke, ki, fi, fa, [o0, o1, o2, o3, p], 5, a, g, l, w, s)))) (fun f => rfl) ?_
  refine mr_ldn (xs := (er (he, ke, ki, fi, fa, [o0, o1, o2, o3, p], 5, a, g, l, w, s))) rfl rfl (k := 48) (by decide) (er_or (K := (he, ke, ki, fi, fa, [o0, o1, o2, o3, p], 5, a, g, l, w, s)) v1 rfl (j := 1) (by decide)) ?_
  refine mr_seg 1 (pc1 := 9) (ls1 := [some (.ref 139), some (.int (nI p)), some (.int 1)]) (st1 := [.int (nI p), .int (nI o1)]) (M1 := (rSs (er (he, ke, ki, fi, fa, [o0, o1, o2, o3, p], 5, a, g, l, w, s)))) (fun f => rfl) ?_
  refine mr_f (C := (nI o1) = (nI p)) (fun e => q1 ((nI_eq (by omega) (by omega)).mp e)) (fun f => rfl) ?_
  refine mr_seg 6 (pc1 := 7) (ls1 := [some (.ref 139), some (.int (nI p)), some (.int 2)]) (st1 := [.int 49, .ref 139]) (M1 := (rSs (er (he, ke, ki, fi, fa, [o0, o1, o2, o3, p], 5, a, g, l, w, s)))) (fun f => rfl) ?_
  refine mr_ldn (xs := (er (he, ke, ki, fi, fa, [o0, o1, o2, o3, p], 5, a, g, l, w, s))) rfl rfl (k := 49) (by decide) (er_or (K := (he, ke, ki, fi, fa, [o0, o1, o2, o3, p], 5, a, g, l, w, s)) v1 rfl (j := 2) (by decide)) ?_
  refine mr_seg 1 (pc1 := 9) (ls1 := [some (.ref 139), some (.int (nI p)), some (.int 2)]) (st1 := [.int (nI p), .int (nI o2)]) (M1 := (rSs (er (he, ke, ki, fi, fa, [o0, o1, o2, o3, p], 5, a, g, l, w, s)))) (fun f => rfl) ?_
  refine mr_f (C := (nI o2) = (nI p)) (fun e => q2 ((nI_eq (by omega) (by omega)).mp e)) (fun f => rfl) ?_
  refine mr_seg 6 (pc1 := 7) (ls1 := [some (.ref 139), some (.int (nI p)), some (.int 3)]) (st1 := [.int 50, .ref 139]) (M1 := (rSs (er (he, ke, ki, fi, fa, [o0, o1, o2, o3, p], 5, a, g, l, w, s)))) (fun f => rfl) ?_
  refine mr_ldn (xs := (er (he, ke, ki, fi, fa, [o0, o1, o2, o3, p], 5, a, g, l, w, s))) rfl rfl (k := 50) (by decide) (er_or (K := (he, ke, ki, fi, fa, [o0, o1, o2, o3, p], 5, a, g, l, w, s)) v1 rfl (j := 3) (by decide)) ?_
  refine mr_seg 1 (pc1 := 9) (ls1 := [some (.ref 139), some (.int (nI p)), some (.int 3)]) (st1 := [.int (nI p), .int (nI o3)]) (M1 := (rSs (er (he, ke, ki, fi, fa, [o0, o1, o2, o3, p], 5, a, g, l, w, s)))) (fun f => rfl) ?_
  refine mr_f (C := (nI o3) = (nI p)) (fun e => q3 ((nI_eq (by omega) (by omega)).mp e)) (fun f => rfl) ?_
  refine mr_seg 6 (pc1 := 7) (ls1 := [some (.ref 139), some (.int (nI p)), some (.int 4)]) (st1 := [.int 51, .ref 139]) (M1 := (rSs (er (he, ke, ki, fi, fa, [o0, o1, o2, o3, p], 5, a, g, l, w, s)))) (fun f => rfl) ?_
  refine mr_ldn (xs := (er (he, ke, ki, fi, fa, [o0, o1, o2, o3, p], 5, a, g, l, w, s))) rfl rfl (k := 51) (by decide) (er_or (K := (he, ke, ki, fi, fa, [o0, o1, o2, o3, p], 5, a, g, l, w, s)) v1 rfl (j := 4) (by decide)) ?_
  refine mr_seg 1 (pc1 := 9) (ls1 := [some (.ref 139), some (.int (nI p)), some (.int 4)]) (st1 := [.int (nI p), .int (nI p)]) (M1 := (rSs (er (he, ke, ki, fi, fa, [o0, o1, o2, o3, p], 5, a, g, l, w, s)))) (fun f => rfl) ?_
  refine mr_t (C := (nI p) = (nI p)) (rfl) (fun f => rfl) ?_
  exact mr_ret 2 (fun f => rfl)
theorem rc_place_s (he ke ki fi fa or : List Nat) (mi a g l w s : Nat) (p : Nat) (v1 : he.length = 25) (hp : p < mi) (hO : or ∈ kOl mi) (hm : mi ≤ 5) : mm_R 144 0 [some (.ref 139), some (.int (nI p)), none] [] (rSs (er (he, ke, ki, fi, fa, or, mi, a, g, l, w, s))) (some (.int (nI (kplace or p))), rSs (er (he, ke, ki, fi, fa, or, mi, a, g, l, w, s))) := by
  obtain ⟨j, hj, hp1, hp2⟩ := kO_pos mi hm or hO p hp
  have hl := kO_len mi hm or hO
  have h5 : ∀ i, i < 5 → kg or i < 5 := kO_lt5 mi hm or hO
  match or, hl with
  | [o0, o1, o2, o3, o4], _ =>
    have b0 : o0 < 5 := h5 0 (by omega)
    have b1 : o1 < 5 := h5 1 (by omega)
    have b2 : o2 < 5 := h5 2 (by omega)
    have b3 : o3 < 5 := h5 3 (by omega)
    have b4 : o4 < 5 := h5 4 (by omega)
    match mi, j, hj, hm with
    | 1, 0, _, _ => cases hp1; exact mr_eq (rc_place_s_1_0 he ke ki fi fa a g l w s o0 o1 o2 o3 o4 v1  b0 b1 b2 b3 b4) (by show _ = (some (Value.int (nI (kplace [o0, o1, o2, o3, o4] o0))), _); rw [show kplace [o0, o1, o2, o3, o4] o0 = 0 by simp [kplace]]; rfl)
    | 2, 0, _, _ => cases hp1; exact mr_eq (rc_place_s_2_0 he ke ki fi fa a g l w s o0 o1 o2 o3 o4 v1 (hp2 1 (by omega) (by omega)) b0 b1 b2 b3 b4) (by show _ = (some (Value.int (nI (kplace [o0, o1, o2, o3, o4] o0))), _); rw [show kplace [o0, o1, o2, o3, o4] o0 = 0 by simp [kplace]]; rfl)
    | 2, 1, _, _ => cases hp1; exact mr_eq (rc_place_s_2_1 he ke ki fi fa a g l w s o1 o0 o2 o3 o4 v1 (hp2 0 (by omega) (by omega)) b1 b0 b2 b3 b4) (by show _ = (some (Value.int (nI (kplace [o0, o1, o2, o3, o4] o1))), _); rw [show kplace [o0, o1, o2, o3, o4] o1 = 1 by simp [kplace, show ¬ o0 = o1 from hp2 0 (by omega) (by omega)]]; rfl)
    | 3, 0, _, _ => cases hp1; exact mr_eq (rc_place_s_3_0 he ke ki fi fa a g l w s o0 o1 o2 o3 o4 v1 (hp2 1 (by omega) (by omega)) (hp2 2 (by omega) (by omega)) b0 b1 b2 b3 b4) (by show _ = (some (Value.int (nI (kplace [o0, o1, o2, o3, o4] o0))), _); rw [show kplace [o0, o1, o2, o3, o4] o0 = 0 by simp [kplace]]; rfl)
    | 3, 1, _, _ => cases hp1; exact mr_eq (rc_place_s_3_1 he ke ki fi fa a g l w s o1 o0 o2 o3 o4 v1 (hp2 0 (by omega) (by omega)) (hp2 2 (by omega) (by omega)) b1 b0 b2 b3 b4) (by show _ = (some (Value.int (nI (kplace [o0, o1, o2, o3, o4] o1))), _); rw [show kplace [o0, o1, o2, o3, o4] o1 = 1 by simp [kplace, show ¬ o0 = o1 from hp2 0 (by omega) (by omega)]]; rfl)
    | 3, 2, _, _ => cases hp1; exact mr_eq (rc_place_s_3_2 he ke ki fi fa a g l w s o2 o0 o1 o3 o4 v1 (hp2 0 (by omega) (by omega)) (hp2 1 (by omega) (by omega)) b2 b0 b1 b3 b4) (by show _ = (some (Value.int (nI (kplace [o0, o1, o2, o3, o4] o2))), _); rw [show kplace [o0, o1, o2, o3, o4] o2 = 2 by simp [kplace, show ¬ o0 = o2 from hp2 0 (by omega) (by omega), show ¬ o1 = o2 from hp2 1 (by omega) (by omega)]]; rfl)
    | 4, 0, _, _ => cases hp1; exact mr_eq (rc_place_s_4_0 he ke ki fi fa a g l w s o0 o1 o2 o3 o4 v1 (hp2 1 (by omega) (by omega)) (hp2 2 (by omega) (by omega)) (hp2 3 (by omega) (by omega)) b0 b1 b2 b3 b4) (by show _ = (some (Value.int (nI (kplace [o0, o1, o2, o3, o4] o0))), _); rw [show kplace [o0, o1, o2, o3, o4] o0 = 0 by simp [kplace]]; rfl)
    | 4, 1, _, _ => cases hp1; exact mr_eq (rc_place_s_4_1 he ke ki fi fa a g l w s o1 o0 o2 o3 o4 v1 (hp2 0 (by omega) (by omega)) (hp2 2 (by omega) (by omega)) (hp2 3 (by omega) (by omega)) b1 b0 b2 b3 b4) (by show _ = (some (Value.int (nI (kplace [o0, o1, o2, o3, o4] o1))), _); rw [show kplace [o0, o1, o2, o3, o4] o1 = 1 by simp [kplace, show ¬ o0 = o1 from hp2 0 (by omega) (by omega)]]; rfl)
    | 4, 2, _, _ => cases hp1; exact mr_eq (rc_place_s_4_2 he ke ki fi fa a g l w s o2 o0 o1 o3 o4 v1 (hp2 0 (by omega) (by omega)) (hp2 1 (by omega) (by omega)) (hp2 3 (by omega) (by omega)) b2 b0 b1 b3 b4) (by show _ = (some (Value.int (nI (kplace [o0, o1, o2, o3, o4] o2))), _); rw [show kplace [o0, o1, o2, o3, o4] o2 = 2 by simp [kplace, show ¬ o0 = o2 from hp2 0 (by omega) (by omega), show ¬ o1 = o2 from hp2 1 (by omega) (by omega)]]; rfl)
    | 4, 3, _, _ => cases hp1; exact mr_eq (rc_place_s_4_3 he ke ki fi fa a g l w s o3 o0 o1 o2 o4 v1 (hp2 0 (by omega) (by omega)) (hp2 1 (by omega) (by omega)) (hp2 2 (by omega) (by omega)) b3 b0 b1 b2 b4) (by show _ = (some (Value.int (nI (kplace [o0, o1, o2, o3, o4] o3))), _); rw [show kplace [o0, o1, o2, o3, o4] o3 = 3 by simp [kplace, show ¬ o0 = o3 from hp2 0 (by omega) (by omega), show ¬ o1 = o3 from hp2 1 (by omega) (by omega), show ¬ o2 = o3 from hp2 2 (by omega) (by omega)]]; rfl)
    | 5, 0, _, _ => cases hp1; exact mr_eq (rc_place_s_5_0 he ke ki fi fa a g l w s o0 o1 o2 o3 o4 v1 (hp2 1 (by omega) (by omega)) (hp2 2 (by omega) (by omega)) (hp2 3 (by omega) (by omega)) (hp2 4 (by omega) (by omega)) b0 b1 b2 b3 b4) (by show _ = (some (Value.int (nI (kplace [o0, o1, o2, o3, o4] o0))), _); rw [show kplace [o0, o1, o2, o3, o4] o0 = 0 by simp [kplace]]; rfl)
    | 5, 1, _, _ => cases hp1; exact mr_eq (rc_place_s_5_1 he ke ki fi fa a g l w s o1 o0 o2 o3 o4 v1 (hp2 0 (by omega) (by omega)) (hp2 2 (by omega) (by omega)) (hp2 3 (by omega) (by omega)) (hp2 4 (by omega) (by omega)) b1 b0 b2 b3 b4) (by show _ = (some (Value.int (nI (kplace [o0, o1, o2, o3, o4] o1))), _); rw [show kplace [o0, o1, o2, o3, o4] o1 = 1 by simp [kplace, show ¬ o0 = o1 from hp2 0 (by omega) (by omega)]]; rfl)
    | 5, 2, _, _ => cases hp1; exact mr_eq (rc_place_s_5_2 he ke ki fi fa a g l w s o2 o0 o1 o3 o4 v1 (hp2 0 (by omega) (by omega)) (hp2 1 (by omega) (by omega)) (hp2 3 (by omega) (by omega)) (hp2 4 (by omega) (by omega)) b2 b0 b1 b3 b4) (by show _ = (some (Value.int (nI (kplace [o0, o1, o2, o3, o4] o2))), _); rw [show kplace [o0, o1, o2, o3, o4] o2 = 2 by simp [kplace, show ¬ o0 = o2 from hp2 0 (by omega) (by omega), show ¬ o1 = o2 from hp2 1 (by omega) (by omega)]]; rfl)
    | 5, 3, _, _ => cases hp1; exact mr_eq (rc_place_s_5_3 he ke ki fi fa a g l w s o3 o0 o1 o2 o4 v1 (hp2 0 (by omega) (by omega)) (hp2 1 (by omega) (by omega)) (hp2 2 (by omega) (by omega)) (hp2 4 (by omega) (by omega)) b3 b0 b1 b2 b4) (by show _ = (some (Value.int (nI (kplace [o0, o1, o2, o3, o4] o3))), _); rw [show kplace [o0, o1, o2, o3, o4] o3 = 3 by simp [kplace, show ¬ o0 = o3 from hp2 0 (by omega) (by omega), show ¬ o1 = o3 from hp2 1 (by omega) (by omega), show ¬ o2 = o3 from hp2 2 (by omega) (by omega)]]; rfl)
    | 5, 4, _, _ => cases hp1; exact mr_eq (rc_place_s_5_4 he ke ki fi fa a g l w s o4 o0 o1 o2 o3 v1 (hp2 0 (by omega) (by omega)) (hp2 1 (by omega) (by omega)) (hp2 2 (by omega) (by omega)) (hp2 3 (by omega) (by omega)) b4 b0 b1 b2 b3) (by show _ = (some (Value.int (nI (kplace [o0, o1, o2, o3, o4] o4))), _); rw [show kplace [o0, o1, o2, o3, o4] o4 = 4 by simp [kplace, show ¬ o0 = o4 from hp2 0 (by omega) (by omega), show ¬ o1 = o4 from hp2 1 (by omega) (by omega), show ¬ o2 = o4 from hp2 2 (by omega) (by omega), show ¬ o3 = o4 from hp2 3 (by omega) (by omega)]]; rfl)
    | mi, j + 5, hj, hm => exact absurd hj (by omega)
    | mi + 6, _, _, hm => exact absurd hm (by omega)
    | 0, 0, hj, _ => exact absurd hj (by omega)
    | 0, 1, hj, _ => exact absurd hj (by omega)
    | 0, 2, hj, _ => exact absurd hj (by omega)
    | 0, 3, hj, _ => exact absurd hj (by omega)
    | 0, 4, hj, _ => exact absurd hj (by omega)
    | 1, 1, hj, _ => exact absurd hj (by omega)
    | 1, 2, hj, _ => exact absurd hj (by omega)
    | 1, 3, hj, _ => exact absurd hj (by omega)
    | 1, 4, hj, _ => exact absurd hj (by omega)
    | 2, 2, hj, _ => exact absurd hj (by omega)
    | 2, 3, hj, _ => exact absurd hj (by omega)
    | 2, 4, hj, _ => exact absurd hj (by omega)
    | 3, 3, hj, _ => exact absurd hj (by omega)
    | 3, 4, hj, _ => exact absurd hj (by omega)
    | 4, 4, hj, _ => exact absurd hj (by omega)
set_option maxRecDepth 100000 in
theorem rc_last_s_1_0 (he ke ki fi fa : List Nat) (a g l w s p o1 o2 o3 o4 : Nat) (v1 : he.length = 25) (hp : p < 5) (b1 : o1 < 5) (b2 : o2 < 5) (b3 : o3 < 5) (b4 : o4 < 5) : mm_R 143 0 [some (.ref 139), some (.int (nI p)), none] [] (rSs (er (he, ke, ki, fi, fa, [p, o1, o2, o3, o4], 1, a, g, l, w, s))) (none, rSs (er (he, ke, ki, fi, fa, klast [p, o1, o2, o3, o4] 1 p, 1, a, g, l, w, s))) := by
  refine mr_seg 2 (pc1 := 2) (ls1 := [some (.ref 139), some (.int (nI p)), none]) (st1 := [.int (nI p), .ref 139]) (M1 := (rSs (er (he, ke, ki, fi, fa, [p, o1, o2, o3, o4], 1, a, g, l, w, s)))) (fun f => rfl) ?_
  refine mr_call (y := 144) (y0 := 5) (L := [some (.ref 139), some (.int (nI p)), none]) (rest := []) (rr := some (.int 0)) (M1 := (rSs (er (he, ke, ki, fi, fa, [p, o1, o2, o3, o4], 1, a, g, l, w, s)))) (fun f => rfl) (rc_place_s_1_0 he ke ki fi fa a g l w s p o1 o2 o3 o4 v1 hp b1 b2 b3 b4) ?_
  refine mr_seg 4 (pc1 := 9) (ls1 := [some (.ref 139), some (.int (nI p)), some (.int 0)]) (st1 := [.int 0, .ref 139, .int 0]) (M1 := (rSs (er (he, ke, ki, fi, fa, [p, o1, o2, o3, o4], 1, a, g, l, w, s)))) (fun f => rfl) ?_
  refine mr_ldn (xs := (er (he, ke, ki, fi, fa, [p, o1, o2, o3, o4], 1, a, g, l, w, s))) rfl rfl (k := 0) (by decide) rfl ?_
  refine mr_seg 2 (pc1 := 12) (ls1 := [some (.ref 139), some (.int (nI p)), some (.int 0)]) (st1 := [.int (1 - 1), .int 0]) (M1 := (rSs (er (he, ke, ki, fi, fa, [p, o1, o2, o3, o4], 1, a, g, l, w, s)))) (fun f => rfl) ?_
  refine mr_v (show (1 : Int32) - 1 = 0 by decide) ?_
  refine mr_seg 5 (pc1 := 40) (ls1 := [some (.ref 139), some (.int (nI p)), some (.int 0)]) (st1 := [.int 0, .ref 139, .int 47, .ref 139]) (M1 := (rSs (er (he, ke, ki, fi, fa, [p, o1, o2, o3, o4], 1, a, g, l, w, s)))) (fun f => rfl) ?_
  refine mr_ldn (xs := (er (he, ke, ki, fi, fa, [p, o1, o2, o3, o4], 1, a, g, l, w, s))) rfl rfl (k := 0) (by decide) rfl ?_
  refine mr_seg 3 (pc1 := 44) (ls1 := [some (.ref 139), some (.int (nI p)), some (.int 0)]) (st1 := [.int (48 - 1), .ref 139]) (M1 := (rSs (er (he, ke, ki, fi, fa, [p, o1, o2, o3, o4], 1, a, g, l, w, s)))) (fun f => rfl) ?_
  refine mr_v (show (48 : Int32) - 1 = 47 by decide) ?_
  refine mr_seg 1 (pc1 := 45) (ls1 := [some (.ref 139), some (.int (nI p)), some (.int 0)]) (st1 := [.int (nI p), .int 47, .ref 139]) (M1 := (rSs (er (he, ke, ki, fi, fa, [p, o1, o2, o3, o4], 1, a, g, l, w, s)))) (fun f => rfl) ?_
  refine mr_stn (xs := (er (he, ke, ki, fi, fa, [p, o1, o2, o3, o4], 1, a, g, l, w, s))) (ys := (er (he, ke, ki, fi, fa, [p, o1, o2, o3, o4], 1, a, g, l, w, s))) (M2 := (rSs (er (he, ke, ki, fi, fa, [p, o1, o2, o3, o4], 1, a, g, l, w, s)))) rfl rfl (k := 47) (by decide) (by rw [er_leq (K := (he, ke, ki, fi, fa, [p, o1, o2, o3, o4], 1, a, g, l, w, s)) v1 rfl]; decide) (er_ors (K := (he, ke, ki, fi, fa, [p, o1, o2, o3, o4], 1, a, g, l, w, s)) v1 (j := 0)) rfl ?_
  refine mr_eq (mr_ret 1 (o := (none, (rSs (er (he, ke, ki, fi, fa, [p, o1, o2, o3, o4], 1, a, g, l, w, s))))) (fun f => rfl)) ?_
  have e : klast [p, o1, o2, o3, o4] 1 p = [p, o1, o2, o3, o4] := by simp [klast]
  rw [e]
set_option maxRecDepth 100000 in
theorem rc_last_s_2_0 (he ke ki fi fa : List Nat) (a g l w s p o1 o2 o3 o4 : Nat) (v1 : he.length = 25) (q1 : ¬ o1 = p) (hp : p < 5) (b1 : o1 < 5) (b2 : o2 < 5) (b3 : o3 < 5) (b4 : o4 < 5) : mm_R 143 0 [some (.ref 139), some (.int (nI p)), none] [] (rSs (er (he, ke, ki, fi, fa, [p, o1, o2, o3, o4], 2, a, g, l, w, s))) (none, rSs (er (he, ke, ki, fi, fa, klast [p, o1, o2, o3, o4] 2 p, 2, a, g, l, w, s))) := by
  refine mr_seg 2 (pc1 := 2) (ls1 := [some (.ref 139), some (.int (nI p)), none]) (st1 := [.int (nI p), .ref 139]) (M1 := (rSs (er (he, ke, ki, fi, fa, [p, o1, o2, o3, o4], 2, a, g, l, w, s)))) (fun f => rfl) ?_
  refine mr_call (y := 144) (y0 := 5) (L := [some (.ref 139), some (.int (nI p)), none]) (rest := []) (rr := some (.int 0)) (M1 := (rSs (er (he, ke, ki, fi, fa, [p, o1, o2, o3, o4], 2, a, g, l, w, s)))) (fun f => rfl) (rc_place_s_2_0 he ke ki fi fa a g l w s p o1 o2 o3 o4 v1 q1 hp b1 b2 b3 b4) ?_
  refine mr_seg 4 (pc1 := 9) (ls1 := [some (.ref 139), some (.int (nI p)), some (.int 0)]) (st1 := [.int 0, .ref 139, .int 0]) (M1 := (rSs (er (he, ke, ki, fi, fa, [p, o1, o2, o3, o4], 2, a, g, l, w, s)))) (fun f => rfl) ?_
  refine mr_ldn (xs := (er (he, ke, ki, fi, fa, [p, o1, o2, o3, o4], 2, a, g, l, w, s))) rfl rfl (k := 0) (by decide) rfl ?_
  refine mr_seg 2 (pc1 := 12) (ls1 := [some (.ref 139), some (.int (nI p)), some (.int 0)]) (st1 := [.int (2 - 1), .int 0]) (M1 := (rSs (er (he, ke, ki, fi, fa, [p, o1, o2, o3, o4], 2, a, g, l, w, s)))) (fun f => rfl) ?_
  refine mr_v (show (2 : Int32) - 1 = 1 by decide) ?_
  refine mr_seg 11 (pc1 := 27) (ls1 := [some (.ref 139), some (.int (nI p)), some (.int 0)]) (st1 := [.int 48, .ref 139, .int 47, .ref 139]) (M1 := (rSs (er (he, ke, ki, fi, fa, [p, o1, o2, o3, o4], 2, a, g, l, w, s)))) (fun f => rfl) ?_
  refine mr_ldn (xs := (er (he, ke, ki, fi, fa, [p, o1, o2, o3, o4], 2, a, g, l, w, s))) rfl rfl (k := 48) (by decide) (er_or (K := (he, ke, ki, fi, fa, [p, o1, o2, o3, o4], 2, a, g, l, w, s)) v1 rfl (j := 1) (by decide)) ?_
  refine mr_stn (xs := (er (he, ke, ki, fi, fa, [p, o1, o2, o3, o4], 2, a, g, l, w, s))) (ys := (er (he, ke, ki, fi, fa, [o1, o1, o2, o3, o4], 2, a, g, l, w, s))) (M2 := (rSs (er (he, ke, ki, fi, fa, [o1, o1, o2, o3, o4], 2, a, g, l, w, s)))) rfl rfl (k := 47) (by decide) (by rw [er_leq (K := (he, ke, ki, fi, fa, [p, o1, o2, o3, o4], 2, a, g, l, w, s)) v1 rfl]; decide) (er_ors (K := (he, ke, ki, fi, fa, [p, o1, o2, o3, o4], 2, a, g, l, w, s)) v1 (j := 0)) rfl ?_
  refine mr_seg 5 (pc1 := 9) (ls1 := [some (.ref 139), some (.int (nI p)), some (.int 1)]) (st1 := [.int 0, .ref 139, .int 1]) (M1 := (rSs (er (he, ke, ki, fi, fa, [o1, o1, o2, o3, o4], 2, a, g, l, w, s)))) (fun f => rfl) ?_
  refine mr_ldn (xs := (er (he, ke, ki, fi, fa, [o1, o1, o2, o3, o4], 2, a, g, l, w, s))) rfl rfl (k := 0) (by decide) rfl ?_
  refine mr_seg 2 (pc1 := 12) (ls1 := [some (.ref 139), some (.int (nI p)), some (.int 1)]) (st1 := [.int (2 - 1), .int 1]) (M1 := (rSs (er (he, ke, ki, fi, fa, [o1, o1, o2, o3, o4], 2, a, g, l, w, s)))) (fun f => rfl) ?_
  refine mr_v (show (2 : Int32) - 1 = 1 by decide) ?_
  refine mr_seg 5 (pc1 := 40) (ls1 := [some (.ref 139), some (.int (nI p)), some (.int 1)]) (st1 := [.int 0, .ref 139, .int 47, .ref 139]) (M1 := (rSs (er (he, ke, ki, fi, fa, [o1, o1, o2, o3, o4], 2, a, g, l, w, s)))) (fun f => rfl) ?_
  refine mr_ldn (xs := (er (he, ke, ki, fi, fa, [o1, o1, o2, o3, o4], 2, a, g, l, w, s))) rfl rfl (k := 0) (by decide) rfl ?_
  refine mr_seg 3 (pc1 := 44) (ls1 := [some (.ref 139), some (.int (nI p)), some (.int 1)]) (st1 := [.int (49 - 1), .ref 139]) (M1 := (rSs (er (he, ke, ki, fi, fa, [o1, o1, o2, o3, o4], 2, a, g, l, w, s)))) (fun f => rfl) ?_
  refine mr_v (show (49 : Int32) - 1 = 48 by decide) ?_
  refine mr_seg 1 (pc1 := 45) (ls1 := [some (.ref 139), some (.int (nI p)), some (.int 1)]) (st1 := [.int (nI p), .int 48, .ref 139]) (M1 := (rSs (er (he, ke, ki, fi, fa, [o1, o1, o2, o3, o4], 2, a, g, l, w, s)))) (fun f => rfl) ?_
  refine mr_stn (xs := (er (he, ke, ki, fi, fa, [o1, o1, o2, o3, o4], 2, a, g, l, w, s))) (ys := (er (he, ke, ki, fi, fa, [o1, p, o2, o3, o4], 2, a, g, l, w, s))) (M2 := (rSs (er (he, ke, ki, fi, fa, [o1, p, o2, o3, o4], 2, a, g, l, w, s)))) rfl rfl (k := 48) (by decide) (by rw [er_leq (K := (he, ke, ki, fi, fa, [o1, o1, o2, o3, o4], 2, a, g, l, w, s)) v1 rfl]; decide) (er_ors (K := (he, ke, ki, fi, fa, [o1, o1, o2, o3, o4], 2, a, g, l, w, s)) v1 (j := 1)) rfl ?_
  refine mr_eq (mr_ret 1 (o := (none, (rSs (er (he, ke, ki, fi, fa, [o1, p, o2, o3, o4], 2, a, g, l, w, s))))) (fun f => rfl)) ?_
  have e : klast [p, o1, o2, o3, o4] 2 p = [o1, p, o2, o3, o4] := by simp [klast, q1]
  rw [e]
set_option maxRecDepth 100000 in
theorem rc_last_s_2_1 (he ke ki fi fa : List Nat) (a g l w s p o0 o2 o3 o4 : Nat) (v1 : he.length = 25) (q0 : ¬ o0 = p) (hp : p < 5) (b0 : o0 < 5) (b2 : o2 < 5) (b3 : o3 < 5) (b4 : o4 < 5) : mm_R 143 0 [some (.ref 139), some (.int (nI p)), none] [] (rSs (er (he, ke, ki, fi, fa, [o0, p, o2, o3, o4], 2, a, g, l, w, s))) (none, rSs (er (he, ke, ki, fi, fa, klast [o0, p, o2, o3, o4] 2 p, 2, a, g, l, w, s))) := by
  refine mr_seg 2 (pc1 := 2) (ls1 := [some (.ref 139), some (.int (nI p)), none]) (st1 := [.int (nI p), .ref 139]) (M1 := (rSs (er (he, ke, ki, fi, fa, [o0, p, o2, o3, o4], 2, a, g, l, w, s)))) (fun f => rfl) ?_
  refine mr_call (y := 144) (y0 := 5) (L := [some (.ref 139), some (.int (nI p)), none]) (rest := []) (rr := some (.int 1)) (M1 := (rSs (er (he, ke, ki, fi, fa, [o0, p, o2, o3, o4], 2, a, g, l, w, s)))) (fun f => rfl) (rc_place_s_2_1 he ke ki fi fa a g l w s p o0 o2 o3 o4 v1 q0 hp b0 b2 b3 b4) ?_
  refine mr_seg 4 (pc1 := 9) (ls1 := [some (.ref 139), some (.int (nI p)), some (.int 1)]) (st1 := [.int 0, .ref 139, .int 1]) (M1 := (rSs (er (he, ke, ki, fi, fa, [o0, p, o2, o3, o4], 2, a, g, l, w, s)))) (fun f => rfl) ?_
  refine mr_ldn (xs := (er (he, ke, ki, fi, fa, [o0, p, o2, o3, o4], 2, a, g, l, w, s))) rfl rfl (k := 0) (by decide) rfl ?_
  refine mr_seg 2 (pc1 := 12) (ls1 := [some (.ref 139), some (.int (nI p)), some (.int 1)]) (st1 := [.int (2 - 1), .int 1]) (M1 := (rSs (er (he, ke, ki, fi, fa, [o0, p, o2, o3, o4], 2, a, g, l, w, s)))) (fun f => rfl) ?_
  refine mr_v (show (2 : Int32) - 1 = 1 by decide) ?_
  refine mr_seg 5 (pc1 := 40) (ls1 := [some (.ref 139), some (.int (nI p)), some (.int 1)]) (st1 := [.int 0, .ref 139, .int 47, .ref 139]) (M1 := (rSs (er (he, ke, ki, fi, fa, [o0, p, o2, o3, o4], 2, a, g, l, w, s)))) (fun f => rfl) ?_
  refine mr_ldn (xs := (er (he, ke, ki, fi, fa, [o0, p, o2, o3, o4], 2, a, g, l, w, s))) rfl rfl (k := 0) (by decide) rfl ?_
  refine mr_seg 3 (pc1 := 44) (ls1 := [some (.ref 139), some (.int (nI p)), some (.int 1)]) (st1 := [.int (49 - 1), .ref 139]) (M1 := (rSs (er (he, ke, ki, fi, fa, [o0, p, o2, o3, o4], 2, a, g, l, w, s)))) (fun f => rfl) ?_
  refine mr_v (show (49 : Int32) - 1 = 48 by decide) ?_
  refine mr_seg 1 (pc1 := 45) (ls1 := [some (.ref 139), some (.int (nI p)), some (.int 1)]) (st1 := [.int (nI p), .int 48, .ref 139]) (M1 := (rSs (er (he, ke, ki, fi, fa, [o0, p, o2, o3, o4], 2, a, g, l, w, s)))) (fun f => rfl) ?_
  refine mr_stn (xs := (er (he, ke, ki, fi, fa, [o0, p, o2, o3, o4], 2, a, g, l, w, s))) (ys := (er (he, ke, ki, fi, fa, [o0, p, o2, o3, o4], 2, a, g, l, w, s))) (M2 := (rSs (er (he, ke, ki, fi, fa, [o0, p, o2, o3, o4], 2, a, g, l, w, s)))) rfl rfl (k := 48) (by decide) (by rw [er_leq (K := (he, ke, ki, fi, fa, [o0, p, o2, o3, o4], 2, a, g, l, w, s)) v1 rfl]; decide) (er_ors (K := (he, ke, ki, fi, fa, [o0, p, o2, o3, o4], 2, a, g, l, w, s)) v1 (j := 1)) rfl ?_
  refine mr_eq (mr_ret 1 (o := (none, (rSs (er (he, ke, ki, fi, fa, [o0, p, o2, o3, o4], 2, a, g, l, w, s))))) (fun f => rfl)) ?_
  have e : klast [o0, p, o2, o3, o4] 2 p = [o0, p, o2, o3, o4] := by simp [klast, q0]
  rw [e]
set_option maxRecDepth 100000 in
theorem rc_last_s_3_0 (he ke ki fi fa : List Nat) (a g l w s p o1 o2 o3 o4 : Nat) (v1 : he.length = 25) (q1 : ¬ o1 = p) (q2 : ¬ o2 = p) (hp : p < 5) (b1 : o1 < 5) (b2 : o2 < 5) (b3 : o3 < 5) (b4 : o4 < 5) : mm_R 143 0 [some (.ref 139), some (.int (nI p)), none] [] (rSs (er (he, ke, ki, fi, fa, [p, o1, o2, o3, o4], 3, a, g, l, w, s))) (none, rSs (er (he, ke, ki, fi, fa, klast [p, o1, o2, o3, o4] 3 p, 3, a, g, l, w, s))) := by
  refine mr_seg 2 (pc1 := 2) (ls1 := [some (.ref 139), some (.int (nI p)), none]) (st1 := [.int (nI p), .ref 139]) (M1 := (rSs (er (he, ke, ki, fi, fa, [p, o1, o2, o3, o4], 3, a, g, l, w, s)))) (fun f => rfl) ?_
  refine mr_call (y := 144) (y0 := 5) (L := [some (.ref 139), some (.int (nI p)), none]) (rest := []) (rr := some (.int 0)) (M1 := (rSs (er (he, ke, ki, fi, fa, [p, o1, o2, o3, o4], 3, a, g, l, w, s)))) (fun f => rfl) (rc_place_s_3_0 he ke ki fi fa a g l w s p o1 o2 o3 o4 v1 q1 q2 hp b1 b2 b3 b4) ?_
  refine mr_seg 4 (pc1 := 9) (ls1 := [some (.ref 139), some (.int (nI p)), some (.int 0)]) (st1 := [.int 0, .ref 139, .int 0]) (M1 := (rSs (er (he, ke, ki, fi, fa, [p, o1, o2, o3, o4], 3, a, g, l, w, s)))) (fun f => rfl) ?_
  refine mr_ldn (xs := (er (he, ke, ki, fi, fa, [p, o1, o2, o3, o4], 3, a, g, l, w, s))) rfl rfl (k := 0) (by decide) rfl ?_
  refine mr_seg 2 (pc1 := 12) (ls1 := [some (.ref 139), some (.int (nI p)), some (.int 0)]) (st1 := [.int (3 - 1), .int 0]) (M1 := (rSs (er (he, ke, ki, fi, fa, [p, o1, o2, o3, o4], 3, a, g, l, w, s)))) (fun f => rfl) ?_
  refine mr_v (show (3 : Int32) - 1 = 2 by decide) ?_
  refine mr_seg 11 (pc1 := 27) (ls1 := [some (.ref 139), some (.int (nI p)), some (.int 0)]) (st1 := [.int 48, .ref 139, .int 47, .ref 139]) (M1 := (rSs (er (he, ke, ki, fi, fa, [p, o1, o2, o3, o4], 3, a, g, l, w, s)))) (fun f => rfl) ?_
  refine mr_ldn (xs := (er (he, ke, ki, fi, fa, [p, o1, o2, o3, o4], 3, a, g, l, w, s))) rfl rfl (k := 48) (by decide) (er_or (K := (he, ke, ki, fi, fa, [p, o1, o2, o3, o4], 3, a, g, l, w, s)) v1 rfl (j := 1) (by decide)) ?_
  refine mr_stn (xs := (er (he, ke, ki, fi, fa, [p, o1, o2, o3, o4], 3, a, g, l, w, s))) (ys := (er (he, ke, ki, fi, fa, [o1, o1, o2, o3, o4], 3, a, g, l, w, s))) (M2 := (rSs (er (he, ke, ki, fi, fa, [o1, o1, o2, o3, o4], 3, a, g, l, w, s)))) rfl rfl (k := 47) (by decide) (by rw [er_leq (K := (he, ke, ki, fi, fa, [p, o1, o2, o3, o4], 3, a, g, l, w, s)) v1 rfl]; decide) (er_ors (K := (he, ke, ki, fi, fa, [p, o1, o2, o3, o4], 3, a, g, l, w, s)) v1 (j := 0)) rfl ?_
  refine mr_seg 5 (pc1 := 9) (ls1 := [some (.ref 139), some (.int (nI p)), some (.int 1)]) (st1 := [.int 0, .ref 139, .int 1]) (M1 := (rSs (er (he, ke, ki, fi, fa, [o1, o1, o2, o3, o4], 3, a, g, l, w, s)))) (fun f => rfl) ?_
  refine mr_ldn (xs := (er (he, ke, ki, fi, fa, [o1, o1, o2, o3, o4], 3, a, g, l, w, s))) rfl rfl (k := 0) (by decide) rfl ?_
  refine mr_seg 2 (pc1 := 12) (ls1 := [some (.ref 139), some (.int (nI p)), some (.int 1)]) (st1 := [.int (3 - 1), .int 1]) (M1 := (rSs (er (he, ke, ki, fi, fa, [o1, o1, o2, o3, o4], 3, a, g, l, w, s)))) (fun f => rfl) ?_
  refine mr_v (show (3 : Int32) - 1 = 2 by decide) ?_
  refine mr_seg 11 (pc1 := 27) (ls1 := [some (.ref 139), some (.int (nI p)), some (.int 1)]) (st1 := [.int 49, .ref 139, .int 48, .ref 139]) (M1 := (rSs (er (he, ke, ki, fi, fa, [o1, o1, o2, o3, o4], 3, a, g, l, w, s)))) (fun f => rfl) ?_
  refine mr_ldn (xs := (er (he, ke, ki, fi, fa, [o1, o1, o2, o3, o4], 3, a, g, l, w, s))) rfl rfl (k := 49) (by decide) (er_or (K := (he, ke, ki, fi, fa, [o1, o1, o2, o3, o4], 3, a, g, l, w, s)) v1 rfl (j := 2) (by decide)) ?_
  refine mr_stn (xs := (er (he, ke, ki, fi, fa, [o1, o1, o2, o3, o4], 3, a, g, l, w, s))) (ys := (er (he, ke, ki, fi, fa, [o1, o2, o2, o3, o4], 3, a, g, l, w, s))) (M2 := (rSs (er (he, ke, ki, fi, fa, [o1, o2, o2, o3, o4], 3, a, g, l, w, s)))) rfl rfl (k := 48) (by decide) (by rw [er_leq (K := (he, ke, ki, fi, fa, [o1, o1, o2, o3, o4], 3, a, g, l, w, s)) v1 rfl]; decide) (er_ors (K := (he, ke, ki, fi, fa, [o1, o1, o2, o3, o4], 3, a, g, l, w, s)) v1 (j := 1)) rfl ?_
  refine mr_seg 5 (pc1 := 9) (ls1 := [some (.ref 139), some (.int (nI p)), some (.int 2)]) (st1 := [.int 0, .ref 139, .int 2]) (M1 := (rSs (er (he, ke, ki, fi, fa, [o1, o2, o2, o3, o4], 3, a, g, l, w, s)))) (fun f => rfl) ?_
  refine mr_ldn (xs := (er (he, ke, ki, fi, fa, [o1, o2, o2, o3, o4], 3, a, g, l, w, s))) rfl rfl (k := 0) (by decide) rfl ?_
  refine mr_seg 2 (pc1 := 12) (ls1 := [some (.ref 139), some (.int (nI p)), some (.int 2)]) (st1 := [.int (3 - 1), .int 2]) (M1 := (rSs (er (he, ke, ki, fi, fa, [o1, o2, o2, o3, o4], 3, a, g, l, w, s)))) (fun f => rfl) ?_
  refine mr_v (show (3 : Int32) - 1 = 2 by decide) ?_
  refine mr_seg 5 (pc1 := 40) (ls1 := [some (.ref 139), some (.int (nI p)), some (.int 2)]) (st1 := [.int 0, .ref 139, .int 47, .ref 139]) (M1 := (rSs (er (he, ke, ki, fi, fa, [o1, o2, o2, o3, o4], 3, a, g, l, w, s)))) (fun f => rfl) ?_
  refine mr_ldn (xs := (er (he, ke, ki, fi, fa, [o1, o2, o2, o3, o4], 3, a, g, l, w, s))) rfl rfl (k := 0) (by decide) rfl ?_
  refine mr_seg 3 (pc1 := 44) (ls1 := [some (.ref 139), some (.int (nI p)), some (.int 2)]) (st1 := [.int (50 - 1), .ref 139]) (M1 := (rSs (er (he, ke, ki, fi, fa, [o1, o2, o2, o3, o4], 3, a, g, l, w, s)))) (fun f => rfl) ?_
  refine mr_v (show (50 : Int32) - 1 = 49 by decide) ?_
  refine mr_seg 1 (pc1 := 45) (ls1 := [some (.ref 139), some (.int (nI p)), some (.int 2)]) (st1 := [.int (nI p), .int 49, .ref 139]) (M1 := (rSs (er (he, ke, ki, fi, fa, [o1, o2, o2, o3, o4], 3, a, g, l, w, s)))) (fun f => rfl) ?_
  refine mr_stn (xs := (er (he, ke, ki, fi, fa, [o1, o2, o2, o3, o4], 3, a, g, l, w, s))) (ys := (er (he, ke, ki, fi, fa, [o1, o2, p, o3, o4], 3, a, g, l, w, s))) (M2 := (rSs (er (he, ke, ki, fi, fa, [o1, o2, p, o3, o4], 3, a, g, l, w, s)))) rfl rfl (k := 49) (by decide) (by rw [er_leq (K := (he, ke, ki, fi, fa, [o1, o2, o2, o3, o4], 3, a, g, l, w, s)) v1 rfl]; decide) (er_ors (K := (he, ke, ki, fi, fa, [o1, o2, o2, o3, o4], 3, a, g, l, w, s)) v1 (j := 2)) rfl ?_
  refine mr_eq (mr_ret 1 (o := (none, (rSs (er (he, ke, ki, fi, fa, [o1, o2, p, o3, o4], 3, a, g, l, w, s))))) (fun f => rfl)) ?_
  have e : klast [p, o1, o2, o3, o4] 3 p = [o1, o2, p, o3, o4] := by simp [klast, q1, q2]
  rw [e]
