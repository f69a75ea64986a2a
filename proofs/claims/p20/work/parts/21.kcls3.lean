set_option maxRecDepth 100000 in
theorem kc_load_n (he ke ki fi fa or : List Nat) (mi a g l w s : Nat) (c : Nat) (hc : c < 25) (hV : kV (he, ke, ki, fi, fa, or, mi, a, g, l, w, s)) : mm_R 54 0 [some (.ref 117), some (.int (nI c)), none] [] (kSn (kr (he, ke, ki, fi, fa, or, mi, a, g, l, w, s))) (some (.int (nI (kload he ke a w c))), kSn (kr (he, ke, ki, fi, fa, or, mi, a, g, l, w, s))) := by
  obtain ⟨v1, v2, v3, v4, v5, v6, v7, v8, v9, v10, v11, v12, v13, v14, v15, v16⟩ := hV
  have v6l := kO_len mi v7 or v6
  have q1 := v12 c
  have q2 := v12 a
  have q3 := v13 c
  refine mr_seg 2 (pc1 := 3) (ls1 := [some (.ref 117), some (.int (nI c)), none]) (st1 := [.int (-9), .int (nI c)]) (M1 := (kSn (kr (he, ke, ki, fi, fa, or, mi, a, g, l, w, s)))) (fun f => rfl) ?_
  refine mr_f (C := (nI c) = (-9)) (k_n9 (by omega)) (fun f => rfl) ?_
  refine mr_seg 4 (pc1 := 15) (ls1 := [some (.ref 117), some (.int (nI c)), none]) (st1 := [.int (nI c), .ref 118, .int 0]) (M1 := (kSn (kr (he, ke, ki, fi, fa, or, mi, a, g, l, w, s)))) (fun f => rfl) ?_
  refine mr_ldk (l0 := he) rfl rfl (k := c) (by omega) ?_
  refine mr_seg 4 (pc1 := 24) (ls1 := [some (.ref 117), some (.int (nI c)), none]) (st1 := [.int (nI a), .ref 118, .int (nI (kg he c)), .int 0]) (M1 := (kSn (kr (he, ke, ki, fi, fa, or, mi, a, g, l, w, s)))) (fun f => rfl) ?_
  refine mr_ldk (l0 := he) rfl rfl (k := a) (by omega) ?_
  refine mr_seg 2 (pc1 := 29) (ls1 := [some (.ref 117), some (.int (nI c)), none]) (st1 := [.int (if 0 < ((nI (kg he c)) - (nI (kg he a))) then ((nI (kg he c)) - (nI (kg he a))) else 0)]) (M1 := (kSn (kr (he, ke, ki, fi, fa, or, mi, a, g, l, w, s)))) (fun f => rfl) ?_
  refine mr_v (k_max0 (a := kg he c) (b := kg he a) (by omega) (by omega)) ?_
  refine mr_seg 6 (pc1 := 37) (ls1 := [some (.ref 117), some (.int (nI c)), some (.int (nI ((kg he c) - (kg he a))))]) (st1 := [.int (3 * (nI ((kg he c) - (kg he a)))), .int (nI w)]) (M1 := (kSn (kr (he, ke, ki, fi, fa, or, mi, a, g, l, w, s)))) (fun f => rfl) ?_
  refine mr_v (pk_mul 3 ((kg he c) - (kg he a))) ?_
  refine mr_seg 1 (pc1 := 38) (ls1 := [some (.ref 117), some (.int (nI c)), some (.int (nI ((kg he c) - (kg he a))))]) (st1 := [.int ((nI w) + (nI (3 * ((kg he c) - (kg he a)))))]) (M1 := (kSn (kr (he, ke, ki, fi, fa, or, mi, a, g, l, w, s)))) (fun f => rfl) ?_
  refine mr_v (nI_add w (3 * ((kg he c) - (kg he a)))) ?_
  refine mr_seg 4 (pc1 := 44) (ls1 := [some (.ref 117), some (.int (nI c)), some (.int (nI ((kg he c) - (kg he a))))]) (st1 := [.int (nI c), .ref 119, .int 4, .int (nI (w + 3 * ((kg he c) - (kg he a))))]) (M1 := (kSn (kr (he, ke, ki, fi, fa, or, mi, a, g, l, w, s)))) (fun f => rfl) ?_
  refine mr_ldk (l0 := ke) rfl rfl (k := c) (by omega) ?_
  refine mr_seg 1 (pc1 := 46) (ls1 := [some (.ref 117), some (.int (nI c)), some (.int (nI ((kg he c) - (kg he a))))]) (st1 := [.int (4 * (nI (kg ke c))), .int (nI (w + 3 * ((kg he c) - (kg he a))))]) (M1 := (kSn (kr (he, ke, ki, fi, fa, or, mi, a, g, l, w, s)))) (fun f => rfl) ?_
  refine mr_v (pk_mul 4 (kg ke c)) ?_
  refine mr_seg 1 (pc1 := 47) (ls1 := [some (.ref 117), some (.int (nI c)), some (.int (nI ((kg he c) - (kg he a))))]) (st1 := [.int ((nI (w + 3 * ((kg he c) - (kg he a)))) + (nI (4 * (kg ke c))))]) (M1 := (kSn (kr (he, ke, ki, fi, fa, or, mi, a, g, l, w, s)))) (fun f => rfl) ?_
  refine mr_v (nI_add (w + 3 * ((kg he c) - (kg he a))) (4 * (kg ke c))) ?_
  refine mr_eq (mr_ret 1 (o := (some (.int (nI (w + 3 * ((kg he c) - (kg he a)) + 4 * (kg ke c)))), (kSn (kr (he, ke, ki, fi, fa, or, mi, a, g, l, w, s))))) (fun f => rfl)) ?_
  rfl
set_option maxRecDepth 100000 in
theorem kc_str_n (he ke ki fi fa or : List Nat) (mi a g l w s : Nat) (p : Nat) (hp : p < 5) (hV : kV (he, ke, ki, fi, fa, or, mi, a, g, l, w, s)) : mm_R 55 0 [some (.ref 117), some (.int (nI p))] [] (kSn (kr (he, ke, ki, fi, fa, or, mi, a, g, l, w, s))) (some (.int (nI (khold (kg ki p) (kg fi p)))), kSn (kr (he, ke, ki, fi, fa, or, mi, a, g, l, w, s))) := by
  obtain ⟨v1, v2, v3, v4, v5, v6, v7, v8, v9, v10, v11, v12, v13, v14, v15, v16⟩ := hV
  have v6l := kO_len mi v7 or v6
  have w15 := v15 p
  refine mr_seg 5 (pc1 := 9) (ls1 := [some (.ref 117), some (.int (nI p))]) (st1 := [.int (nI p), .ref 120, .ref 110]) (M1 := (kSn (kr (he, ke, ki, fi, fa, or, mi, a, g, l, w, s)))) (fun f => rfl) ?_
  refine mr_ldk (l0 := ki) rfl rfl (k := p) (by omega) ?_
  have w14 := v14 p
  rcases k6 w14 with hk | hk | hk | hk | hk | hk
  · refine mr_v (show nI (kg ki p) = 0 by rw [hk]; rfl) ?_
    refine mr_seg 4 (pc1 := 16) (ls1 := [some (.ref 117), some (.int (nI p))]) (st1 := [.int (nI p), .ref 121, .ref 111]) (M1 := (kSn (kr (he, ke, ki, fi, fa, or, mi, a, g, l, w, s)))) (fun f => rfl) ?_
    refine mr_ldk (l0 := fi) rfl rfl (k := p) (by omega) ?_
    refine mr_call (y := 59) (y0 := 20) (L := [some (.ref 111), some (.int (nI (kg fi p)))]) (rest := []) (rr := some (.int (nI (khold 0 (kg fi p))))) (M1 := (kSn (kr (he, ke, ki, fi, fa, or, mi, a, g, l, w, s)))) (fun f => rfl) (kl_rn _ (mr_eq (kc_str0_111 (kg fi p) (by omega)) rfl)) ?_
    refine mr_eq (mr_ret 1 (o := (some (.int (nI (khold 0 (kg fi p)))), (kSn (kr (he, ke, ki, fi, fa, or, mi, a, g, l, w, s))))) (fun f => rfl)) ?_
    rw [hk]
  · refine mr_v (show nI (kg ki p) = 1 by rw [hk]; rfl) ?_
    refine mr_seg 4 (pc1 := 16) (ls1 := [some (.ref 117), some (.int (nI p))]) (st1 := [.int (nI p), .ref 121, .ref 112]) (M1 := (kSn (kr (he, ke, ki, fi, fa, or, mi, a, g, l, w, s)))) (fun f => rfl) ?_
    refine mr_ldk (l0 := fi) rfl rfl (k := p) (by omega) ?_
    refine mr_call (y := 57) (y0 := 20) (L := [some (.ref 112), some (.int (nI (kg fi p)))]) (rest := []) (rr := some (.int (nI (khold 1 (kg fi p))))) (M1 := (kSn (kr (he, ke, ki, fi, fa, or, mi, a, g, l, w, s)))) (fun f => rfl) (kl_rn _ (mr_eq (kc_str1_112 (kg fi p) (by omega)) rfl)) ?_
    refine mr_eq (mr_ret 1 (o := (some (.int (nI (khold 1 (kg fi p)))), (kSn (kr (he, ke, ki, fi, fa, or, mi, a, g, l, w, s))))) (fun f => rfl)) ?_
    rw [hk]
  · refine mr_v (show nI (kg ki p) = 2 by rw [hk]; rfl) ?_
    refine mr_seg 4 (pc1 := 16) (ls1 := [some (.ref 117), some (.int (nI p))]) (st1 := [.int (nI p), .ref 121, .ref 113]) (M1 := (kSn (kr (he, ke, ki, fi, fa, or, mi, a, g, l, w, s)))) (fun f => rfl) ?_
    refine mr_ldk (l0 := fi) rfl rfl (k := p) (by omega) ?_
    refine mr_call (y := 59) (y0 := 20) (L := [some (.ref 113), some (.int (nI (kg fi p)))]) (rest := []) (rr := some (.int (nI (khold 2 (kg fi p))))) (M1 := (kSn (kr (he, ke, ki, fi, fa, or, mi, a, g, l, w, s)))) (fun f => rfl) (kl_rn _ (mr_eq (kc_str0_113 (kg fi p) (by omega)) rfl)) ?_
    refine mr_eq (mr_ret 1 (o := (some (.int (nI (khold 2 (kg fi p)))), (kSn (kr (he, ke, ki, fi, fa, or, mi, a, g, l, w, s))))) (fun f => rfl)) ?_
    rw [hk]
  · refine mr_v (show nI (kg ki p) = 3 by rw [hk]; rfl) ?_
    refine mr_seg 4 (pc1 := 16) (ls1 := [some (.ref 117), some (.int (nI p))]) (st1 := [.int (nI p), .ref 121, .ref 114]) (M1 := (kSn (kr (he, ke, ki, fi, fa, or, mi, a, g, l, w, s)))) (fun f => rfl) ?_
    refine mr_ldk (l0 := fi) rfl rfl (k := p) (by omega) ?_
    refine mr_call (y := 56) (y0 := 20) (L := [some (.ref 114), some (.int (nI (kg fi p)))]) (rest := []) (rr := some (.int (nI (khold 3 (kg fi p))))) (M1 := (kSn (kr (he, ke, ki, fi, fa, or, mi, a, g, l, w, s)))) (fun f => rfl) (kl_rn _ (mr_eq (kc_str3_114 (kg fi p) (by omega)) rfl)) ?_
    refine mr_eq (mr_ret 1 (o := (some (.int (nI (khold 3 (kg fi p)))), (kSn (kr (he, ke, ki, fi, fa, or, mi, a, g, l, w, s))))) (fun f => rfl)) ?_
    rw [hk]
  · refine mr_v (show nI (kg ki p) = 4 by rw [hk]; rfl) ?_
    refine mr_seg 4 (pc1 := 16) (ls1 := [some (.ref 117), some (.int (nI p))]) (st1 := [.int (nI p), .ref 121, .ref 115]) (M1 := (kSn (kr (he, ke, ki, fi, fa, or, mi, a, g, l, w, s)))) (fun f => rfl) ?_
    refine mr_ldk (l0 := fi) rfl rfl (k := p) (by omega) ?_
    refine mr_call (y := 58) (y0 := 20) (L := [some (.ref 115), some (.int (nI (kg fi p)))]) (rest := []) (rr := some (.int (nI (khold 4 (kg fi p))))) (M1 := (kSn (kr (he, ke, ki, fi, fa, or, mi, a, g, l, w, s)))) (fun f => rfl) (kl_rn _ (mr_eq (kc_str4_115 (kg fi p) (by omega)) rfl)) ?_
    refine mr_eq (mr_ret 1 (o := (some (.int (nI (khold 4 (kg fi p)))), (kSn (kr (he, ke, ki, fi, fa, or, mi, a, g, l, w, s))))) (fun f => rfl)) ?_
    rw [hk]
  · refine mr_v (show nI (kg ki p) = 5 by rw [hk]; rfl) ?_
    refine mr_seg 4 (pc1 := 16) (ls1 := [some (.ref 117), some (.int (nI p))]) (st1 := [.int (nI p), .ref 121, .ref 116]) (M1 := (kSn (kr (he, ke, ki, fi, fa, or, mi, a, g, l, w, s)))) (fun f => rfl) ?_
    refine mr_ldk (l0 := fi) rfl rfl (k := p) (by omega) ?_
    refine mr_call (y := 57) (y0 := 20) (L := [some (.ref 116), some (.int (nI (kg fi p)))]) (rest := []) (rr := some (.int (nI (khold 5 (kg fi p))))) (M1 := (kSn (kr (he, ke, ki, fi, fa, or, mi, a, g, l, w, s)))) (fun f => rfl) (kl_rn _ (mr_eq (kc_str1_116 (kg fi p) (by omega)) rfl)) ?_
    refine mr_eq (mr_ret 1 (o := (some (.int (nI (khold 5 (kg fi p)))), (kSn (kr (he, ke, ki, fi, fa, or, mi, a, g, l, w, s))))) (fun f => rfl)) ?_
    rw [hk]
set_option maxRecDepth 100000 in
theorem kc_last_n_1_0 (he ke ki fi fa : List Nat) (a g l w s p o1 o2 o3 o4 : Nat) (hp : p < 5) (b1 : o1 < 5) (b2 : o2 < 5) (b3 : o3 < 5) (b4 : o4 < 5) : mm_R 42 0 [some (.ref 117), some (.int (nI p)), none, none] [] (kSn (kr (he, ke, ki, fi, fa, [p, o1, o2, o3, o4], 1, a, g, l, w, s))) (none, kSn (kr (he, ke, ki, fi, fa, klast [p, o1, o2, o3, o4] 1 p, 1, a, g, l, w, s))) := by
  refine mr_seg 11 (pc1 := 17) (ls1 := [some (.ref 117), some (.int (nI p)), some (.int 0), some (.int 0)]) (st1 := [.int 0, .ref 123]) (M1 := (kSn (kr (he, ke, ki, fi, fa, [p, o1, o2, o3, o4], 1, a, g, l, w, s)))) (fun f => rfl) ?_
  refine mr_ldn (xs := ([p, o1, o2, o3, o4].map nI)) rfl rfl (k := 0) (by decide) rfl ?_
  refine mr_seg 1 (pc1 := 19) (ls1 := [some (.ref 117), some (.int (nI p)), some (.int 0), some (.int 0)]) (st1 := [.int (nI p), .int (nI p)]) (M1 := (kSn (kr (he, ke, ki, fi, fa, [p, o1, o2, o3, o4], 1, a, g, l, w, s)))) (fun f => rfl) ?_
  refine mr_t (C := (nI p) = (nI p)) (rfl) (fun f => rfl) ?_
  refine mr_seg 14 (pc1 := 57) (ls1 := [some (.ref 117), some (.int (nI p)), some (.int 0), some (.int 1)]) (st1 := [.int (nI p), .int 0, .ref 123]) (M1 := (kSn (kr (he, ke, ki, fi, fa, [p, o1, o2, o3, o4], 1, a, g, l, w, s)))) (fun f => rfl) ?_
  refine mr_stn (xs := ([p, o1, o2, o3, o4].map nI)) (ys := ([p, o1, o2, o3, o4].map nI)) (M2 := (kSn (kr (he, ke, ki, fi, fa, [p, o1, o2, o3, o4], 1, a, g, l, w, s)))) rfl rfl (k := 0) (by decide) (by simp) rfl rfl ?_
  refine mr_eq (mr_ret 1 (o := (none, (kSn (kr (he, ke, ki, fi, fa, [p, o1, o2, o3, o4], 1, a, g, l, w, s))))) (fun f => rfl)) ?_
  have e : klast [p, o1, o2, o3, o4] 1 p = [p, o1, o2, o3, o4] := by simp [klast]
  rw [e]
set_option maxRecDepth 100000 in
theorem kc_last_n_2_0 (he ke ki fi fa : List Nat) (a g l w s p o1 o2 o3 o4 : Nat) (q1 : ¬ o1 = p) (hp : p < 5) (b1 : o1 < 5) (b2 : o2 < 5) (b3 : o3 < 5) (b4 : o4 < 5) : mm_R 42 0 [some (.ref 117), some (.int (nI p)), none, none] [] (kSn (kr (he, ke, ki, fi, fa, [p, o1, o2, o3, o4], 2, a, g, l, w, s))) (none, kSn (kr (he, ke, ki, fi, fa, klast [p, o1, o2, o3, o4] 2 p, 2, a, g, l, w, s))) := by
  refine mr_seg 11 (pc1 := 17) (ls1 := [some (.ref 117), some (.int (nI p)), some (.int 0), some (.int 0)]) (st1 := [.int 0, .ref 123]) (M1 := (kSn (kr (he, ke, ki, fi, fa, [p, o1, o2, o3, o4], 2, a, g, l, w, s)))) (fun f => rfl) ?_
  refine mr_ldn (xs := ([p, o1, o2, o3, o4].map nI)) rfl rfl (k := 0) (by decide) rfl ?_
  refine mr_seg 1 (pc1 := 19) (ls1 := [some (.ref 117), some (.int (nI p)), some (.int 0), some (.int 0)]) (st1 := [.int (nI p), .int (nI p)]) (M1 := (kSn (kr (he, ke, ki, fi, fa, [p, o1, o2, o3, o4], 2, a, g, l, w, s)))) (fun f => rfl) ?_
  refine mr_t (C := (nI p) = (nI p)) (rfl) (fun f => rfl) ?_
  refine mr_seg 9 (pc1 := 17) (ls1 := [some (.ref 117), some (.int (nI p)), some (.int 0), some (.int 1)]) (st1 := [.int 1, .ref 123]) (M1 := (kSn (kr (he, ke, ki, fi, fa, [p, o1, o2, o3, o4], 2, a, g, l, w, s)))) (fun f => rfl) ?_
  refine mr_ldn (xs := ([p, o1, o2, o3, o4].map nI)) rfl rfl (k := 1) (by decide) rfl ?_
  refine mr_seg 1 (pc1 := 19) (ls1 := [some (.ref 117), some (.int (nI p)), some (.int 0), some (.int 1)]) (st1 := [.int (nI p), .int (nI o1)]) (M1 := (kSn (kr (he, ke, ki, fi, fa, [p, o1, o2, o3, o4], 2, a, g, l, w, s)))) (fun f => rfl) ?_
  refine mr_f (C := (nI o1) = (nI p)) (fun e => q1 ((nI_eq (by omega) (by omega)).mp e)) (fun f => rfl) ?_
  refine mr_seg 6 (pc1 := 32) (ls1 := [some (.ref 117), some (.int (nI p)), some (.int 0), some (.int 1)]) (st1 := [.int 1, .ref 123, .int 0, .ref 123]) (M1 := (kSn (kr (he, ke, ki, fi, fa, [p, o1, o2, o3, o4], 2, a, g, l, w, s)))) (fun f => rfl) ?_
  refine mr_ldn (xs := ([p, o1, o2, o3, o4].map nI)) rfl rfl (k := 1) (by decide) rfl ?_
  refine mr_stn (xs := ([p, o1, o2, o3, o4].map nI)) (ys := ([o1, o1, o2, o3, o4].map nI)) (M2 := (kSn (kr (he, ke, ki, fi, fa, [o1, o1, o2, o3, o4], 2, a, g, l, w, s)))) rfl rfl (k := 0) (by decide) (by simp) rfl rfl ?_
  refine mr_seg 15 (pc1 := 57) (ls1 := [some (.ref 117), some (.int (nI p)), some (.int 1), some (.int 2)]) (st1 := [.int (nI p), .int 1, .ref 123]) (M1 := (kSn (kr (he, ke, ki, fi, fa, [o1, o1, o2, o3, o4], 2, a, g, l, w, s)))) (fun f => rfl) ?_
  refine mr_stn (xs := ([o1, o1, o2, o3, o4].map nI)) (ys := ([o1, p, o2, o3, o4].map nI)) (M2 := (kSn (kr (he, ke, ki, fi, fa, [o1, p, o2, o3, o4], 2, a, g, l, w, s)))) rfl rfl (k := 1) (by decide) (by simp) rfl rfl ?_
  refine mr_eq (mr_ret 1 (o := (none, (kSn (kr (he, ke, ki, fi, fa, [o1, p, o2, o3, o4], 2, a, g, l, w, s))))) (fun f => rfl)) ?_
  have e : klast [p, o1, o2, o3, o4] 2 p = [o1, p, o2, o3, o4] := by simp [klast, q1]
  rw [e]
set_option maxRecDepth 100000 in
theorem kc_last_n_2_1 (he ke ki fi fa : List Nat) (a g l w s p o0 o2 o3 o4 : Nat) (q0 : ¬ o0 = p) (hp : p < 5) (b0 : o0 < 5) (b2 : o2 < 5) (b3 : o3 < 5) (b4 : o4 < 5) : mm_R 42 0 [some (.ref 117), some (.int (nI p)), none, none] [] (kSn (kr (he, ke, ki, fi, fa, [o0, p, o2, o3, o4], 2, a, g, l, w, s))) (none, kSn (kr (he, ke, ki, fi, fa, klast [o0, p, o2, o3, o4] 2 p, 2, a, g, l, w, s))) := by
  refine mr_seg 11 (pc1 := 17) (ls1 := [some (.ref 117), some (.int (nI p)), some (.int 0), some (.int 0)]) (st1 := [.int 0, .ref 123]) (M1 := (kSn (kr (he, ke, ki, fi, fa, [o0, p, o2, o3, o4], 2, a, g, l, w, s)))) (fun f => rfl) ?_
  refine mr_ldn (xs := ([o0, p, o2, o3, o4].map nI)) rfl rfl (k := 0) (by decide) rfl ?_
  refine mr_seg 1 (pc1 := 19) (ls1 := [some (.ref 117), some (.int (nI p)), some (.int 0), some (.int 0)]) (st1 := [.int (nI p), .int (nI o0)]) (M1 := (kSn (kr (he, ke, ki, fi, fa, [o0, p, o2, o3, o4], 2, a, g, l, w, s)))) (fun f => rfl) ?_
  refine mr_f (C := (nI o0) = (nI p)) (fun e => q0 ((nI_eq (by omega) (by omega)).mp e)) (fun f => rfl) ?_
  refine mr_seg 6 (pc1 := 32) (ls1 := [some (.ref 117), some (.int (nI p)), some (.int 0), some (.int 0)]) (st1 := [.int 0, .ref 123, .int 0, .ref 123]) (M1 := (kSn (kr (he, ke, ki, fi, fa, [o0, p, o2, o3, o4], 2, a, g, l, w, s)))) (fun f => rfl) ?_
  refine mr_ldn (xs := ([o0, p, o2, o3, o4].map nI)) rfl rfl (k := 0) (by decide) rfl ?_
  refine mr_stn (xs := ([o0, p, o2, o3, o4].map nI)) (ys := ([o0, p, o2, o3, o4].map nI)) (M2 := (kSn (kr (he, ke, ki, fi, fa, [o0, p, o2, o3, o4], 2, a, g, l, w, s)))) rfl rfl (k := 0) (by decide) (by simp) rfl rfl ?_
  refine mr_seg 10 (pc1 := 17) (ls1 := [some (.ref 117), some (.int (nI p)), some (.int 1), some (.int 1)]) (st1 := [.int 1, .ref 123]) (M1 := (kSn (kr (he, ke, ki, fi, fa, [o0, p, o2, o3, o4], 2, a, g, l, w, s)))) (fun f => rfl) ?_
  refine mr_ldn (xs := ([o0, p, o2, o3, o4].map nI)) rfl rfl (k := 1) (by decide) rfl ?_
  refine mr_seg 1 (pc1 := 19) (ls1 := [some (.ref 117), some (.int (nI p)), some (.int 1), some (.int 1)]) (st1 := [.int (nI p), .int (nI p)]) (M1 := (kSn (kr (he, ke, ki, fi, fa, [o0, p, o2, o3, o4], 2, a, g, l, w, s)))) (fun f => rfl) ?_
  refine mr_t (C := (nI p) = (nI p)) (rfl) (fun f => rfl) ?_
  refine mr_seg 14 (pc1 := 57) (ls1 := [some (.ref 117), some (.int (nI p)), some (.int 1), some (.int 2)]) (st1 := [.int (nI p), .int 1, .ref 123]) (M1 := (kSn (kr (he, ke, ki, fi, fa, [o0, p, o2, o3, o4], 2, a, g, l, w, s)))) (fun f => rfl) ?_
  refine mr_stn (xs := ([o0, p, o2, o3, o4].map nI)) (ys := ([o0, p, o2, o3, o4].map nI)) (M2 := (kSn (kr (he, ke, ki, fi, fa, [o0, p, o2, o3, o4], 2, a, g, l, w, s)))) rfl rfl (k := 1) (by decide) (by simp) rfl rfl ?_
  refine mr_eq (mr_ret 1 (o := (none, (kSn (kr (he, ke, ki, fi, fa, [o0, p, o2, o3, o4], 2, a, g, l, w, s))))) (fun f => rfl)) ?_
  have e : klast [o0, p, o2, o3, o4] 2 p = [o0, p, o2, o3, o4] := by simp [klast, q0]
  rw [e]
set_option maxRecDepth 100000 in
theorem kc_last_n_3_0 (he ke ki fi fa : List Nat) (a g l w s p o1 o2 o3 o4 : Nat) (q1 : ¬ o1 = p) (q2 : ¬ o2 = p) (hp : p < 5) (b1 : o1 < 5) (b2 : o2 < 5) (b3 : o3 < 5) (b4 : o4 < 5) : mm_R 42 0 [some (.ref 117), some (.int (nI p)), none, none] [] (kSn (kr (he, ke, ki, fi, fa, [p, o1, o2, o3, o4], 3, a, g, l, w, s))) (none, kSn (kr (he, ke, ki, fi, fa, klast [p, o1, o2, o3, o4] 3 p, 3, a, g, l, w, s))) := by
  refine mr_seg 11 (pc1 := 17) (ls1 := [some (.ref 117), some (.int (nI p)), some (.int 0), some (.int 0)]) (st1 := [.int 0, .ref 123]) (M1 := (kSn (kr (he, ke, ki, fi, fa, [p, o1, o2, o3, o4], 3, a, g, l, w, s)))) (fun f => rfl) ?_
  refine mr_ldn (xs := ([p, o1, o2, o3, o4].map nI)) rfl rfl (k := 0) (by decide) rfl ?_
  refine mr_seg 1 (pc1 := 19) (ls1 := [some (.ref 117), some (.int (nI p)), some (.int 0), some (.int 0)]) (st1 := [.int (nI p), .int (nI p)]) (M1 := (kSn (kr (he, ke, ki, fi, fa, [p, o1, o2, o3, o4], 3, a, g, l, w, s)))) (fun f => rfl) ?_
  refine mr_t (C := (nI p) = (nI p)) (rfl) (fun f => rfl) ?_
  refine mr_seg 9 (pc1 := 17) (ls1 := [some (.ref 117), some (.int (nI p)), some (.int 0), some (.int 1)]) (st1 := [.int 1, .ref 123]) (M1 := (kSn (kr (he, ke, ki, fi, fa, [p, o1, o2, o3, o4], 3, a, g, l, w, s)))) (fun f => rfl) ?_
  refine mr_ldn (xs := ([p, o1, o2, o3, o4].map nI)) rfl rfl (k := 1) (by decide) rfl ?_
  refine mr_seg 1 (pc1 := 19) (ls1 := [some (.ref 117), some (.int (nI p)), some (.int 0), some (.int 1)]) (st1 := [.int (nI p), .int (nI o1)]) (M1 := (kSn (kr (he, ke, ki, fi, fa, [p, o1, o2, o3, o4], 3, a, g, l, w, s)))) (fun f => rfl) ?_
  refine mr_f (C := (nI o1) = (nI p)) (fun e => q1 ((nI_eq (by omega) (by omega)).mp e)) (fun f => rfl) ?_
  refine mr_seg 6 (pc1 := 32) (ls1 := [some (.ref 117), some (.int (nI p)), some (.int 0), some (.int 1)]) (st1 := [.int 1, .ref 123, .int 0, .ref 123]) (M1 := (kSn (kr (he, ke, ki, fi, fa, [p, o1, o2, o3, o4], 3, a, g, l, w, s)))) (fun f => rfl) ?_
  refine mr_ldn (xs := ([p, o1, o2, o3, o4].map nI)) rfl rfl (k := 1) (by decide) rfl ?_
  refine mr_stn (xs := ([p, o1, o2, o3, o4].map nI)) (ys := ([o1, o1, o2, o3, o4].map nI)) (M2 := (kSn (kr (he, ke, ki, fi, fa, [o1, o1, o2, o3, o4], 3, a, g, l, w, s)))) rfl rfl (k := 0) (by decide) (by simp) rfl rfl ?_
  refine mr_seg 10 (pc1 := 17) (ls1 := [some (.ref 117), some (.int (nI p)), some (.int 1), some (.int 2)]) (st1 := [.int 2, .ref 123]) (M1 := (kSn (kr (he, ke, ki, fi, fa, [o1, o1, o2, o3, o4], 3, a, g, l, w, s)))) (fun f => rfl) ?_
  refine mr_ldn (xs := ([o1, o1, o2, o3, o4].map nI)) rfl rfl (k := 2) (by decide) rfl ?_
  refine mr_seg 1 (pc1 := 19) (ls1 := [some (.ref 117), some (.int (nI p)), some (.int 1), some (.int 2)]) (st1 := [.int (nI p), .int (nI o2)]) (M1 := (kSn (kr (he, ke, ki, fi, fa, [o1, o1, o2, o3, o4], 3, a, g, l, w, s)))) (fun f => rfl) ?_
  refine mr_f (C := (nI o2) = (nI p)) (fun e => q2 ((nI_eq (by omega) (by omega)).mp e)) (fun f => rfl) ?_
  refine mr_seg 6 (pc1 := 32) (ls1 := [some (.ref 117), some (.int (nI p)), some (.int 1), some (.int 2)]) (st1 := [.int 2, .ref 123, .int 1, .ref 123]) (M1 := (kSn (kr (he, ke, ki, fi, fa, [o1, o1, o2, o3, o4], 3, a, g, l, w, s)))) (fun f => rfl) ?_
  refine mr_ldn (xs := ([o1, o1, o2, o3, o4].map nI)) rfl rfl (k := 2) (by decide) rfl ?_
  refine mr_stn (xs := ([o1, o1, o2, o3, o4].map nI)) (ys := ([o1, o2, o2, o3, o4].map nI)) (M2 := (kSn (kr (he, ke, ki, fi, fa, [o1, o2, o2, o3, o4], 3, a, g, l, w, s)))) rfl rfl (k := 1) (by decide) (by simp) rfl rfl ?_
  refine mr_seg 15 (pc1 := 57) (ls1 := [some (.ref 117), some (.int (nI p)), some (.int 2), some (.int 3)]) (st1 := [.int (nI p), .int 2, .ref 123]) (M1 := (kSn (kr (he, ke, ki, fi, fa, [o1, o2, o2, o3, o4], 3, a, g, l, w, s)))) (fun f => rfl) ?_
  refine mr_stn (xs := ([o1, o2, o2, o3, o4].map nI)) (ys := ([o1, o2, p, o3, o4].map nI)) (M2 := (kSn (kr (he, ke, ki, fi, fa, [o1, o2, p, o3, o4], 3, a, g, l, w, s)))) rfl rfl (k := 2) (by decide) (by simp) rfl rfl ?_
  refine mr_eq (mr_ret 1 (o := (none, (kSn (kr (he, ke, ki, fi, fa, [o1, o2, p, o3, o4], 3, a, g, l, w, s))))) (fun f => rfl)) ?_
  have e : klast [p, o1, o2, o3, o4] 3 p = [o1, o2, p, o3, o4] := by simp [klast, q1, q2]
  rw [e]
set_option maxRecDepth 100000 in
theorem kc_last_n_3_1 (he ke ki fi fa : List Nat) (a g l w s p o0 o2 o3 o4 : Nat) (q0 : ¬ o0 = p) (q2 : ¬ o2 = p) (hp : p < 5) (b0 : o0 < 5) (b2 : o2 < 5) (b3 : o3 < 5) (b4 : o4 < 5) : mm_R 42 0 [some (.ref 117), some (.int (nI p)), none, none] [] (kSn (kr (he, ke, ki, fi, fa, [o0, p, o2, o3, o4], 3, a, g, l, w, s))) (none, kSn (kr (he, ke, ki, fi, fa, klast [o0, p, o2, o3, o4] 3 p, 3, a, g, l, w, s))) := by
  refine mr_seg 11 (pc1 := 17) (ls1 := [some (.ref 117), some (.int (nI p)), some (.int 0), some (.int 0)]) (st1 := [.int 0, .ref 123]) (M1 := (kSn (kr (he, ke, ki, fi, fa, [o0, p, o2, o3, o4], 3, a, g, l, w, s)))) (fun f => rfl) ?_
  refine mr_ldn (xs := ([o0, p, o2, o3, o4].map nI)) rfl rfl (k := 0) (by decide) rfl ?_
  refine mr_seg 1 (pc1 := 19) (ls1 := [some (.ref 117), some (.int (nI p)), some (.int 0), some (.int 0)]) (st1 := [.int (nI p), .int (nI o0)]) (M1 := (kSn (kr (he, ke, ki, fi, fa, [o0, p, o2, o3, o4], 3, a, g, l, w, s)))) (fun f => rfl) ?_
  refine mr_f (C := (nI o0) = (nI p)) (fun e => q0 ((nI_eq (by omega) (by omega)).mp e)) (fun f => rfl) ?_
  refine mr_seg 6 (pc1 := 32) (ls1 := [some (.ref 117), some (.int (nI p)), some (.int 0), some (.int 0)]) (st1 := [.int 0, .ref 123, .int 0, .ref 123]) (M1 := (kSn (kr (he, ke, ki, fi, fa, [o0, p, o2, o3, o4], 3, a, g, l, w, s)))) (fun f => rfl) ?_
  refine mr_ldn (xs := ([o0, p, o2, o3, o4].map nI)) rfl rfl (k := 0) (by decide) rfl ?_
  refine mr_stn (xs := ([o0, p, o2, o3, o4].map nI)) (ys := ([o0, p, o2, o3, o4].map nI)) (M2 := (kSn (kr (he, ke, ki, fi, fa, [o0, p, o2, o3, o4], 3, a, g, l, w, s)))) rfl rfl (k := 0) (by decide) (by simp) rfl rfl ?_
  refine mr_seg 10 (pc1 := 17) (ls1 := [some (.ref 117), some (.int (nI p)), some (.int 1), some (.int 1)]) (st1 := [.int 1, .ref 123]) (M1 := (kSn (kr (he, ke, ki, fi, fa, [o0, p, o2, o3, o4], 3, a, g, l, w, s)))) (fun f => rfl) ?_
  refine mr_ldn (xs := ([o0, p, o2, o3, o4].map nI)) rfl rfl (k := 1) (by decide) rfl ?_
  refine mr_seg 1 (pc1 := 19) (ls1 := [some (.ref 117), some (.int (nI p)), some (.int 1), some (.int 1)]) (st1 := [.int (nI p), .int (nI p)]) (M1 := (kSn (kr (he, ke, ki, fi, fa, [o0, p, o2, o3, o4], 3, a, g, l, w, s)))) (fun f => rfl) ?_
  refine mr_t (C := (nI p) = (nI p)) (rfl) (fun f => rfl) ?_
  refine mr_seg 9 (pc1 := 17) (ls1 := [some (.ref 117), some (.int (nI p)), some (.int 1), some (.int 2)]) (st1 := [.int 2, .ref 123]) (M1 := (kSn (kr (he, ke, ki, fi, fa, [o0, p, o2, o3, o4], 3, a, g, l, w, s)))) (fun f => rfl) ?_
  refine mr_ldn (xs := ([o0, p, o2, o3, o4].map nI)) rfl rfl (k := 2) (by decide) rfl ?_
  refine mr_seg 1 (pc1 := 19) (ls1 := [some (.ref 117), some (.int (nI p)), some (.int 1), some (.int 2)]) (st1 := [.int (nI p), .int (nI o2)]) (M1 := (kSn (kr (he, ke, ki, fi, fa, [o0, p, o2, o3, o4], 3, a, g, l, w, s)))) (fun f => rfl) ?_
  refine mr_f (C := (nI o2) = (nI p)) (fun e => q2 ((nI_eq (by omega) (by omega)).mp e)) (fun f => rfl) ?_
  refine mr_seg 6 (pc1 := 32) (ls1 := [some (.ref 117), some (.int (nI p)), some (.int 1), some (.int 2)]) (st1 := [.int 2, .ref 123, .int 1, .ref 123]) (M1 := (kSn (kr (he, ke, ki, fi, fa, [o0, p, o2, o3, o4], 3, a, g, l, w, s)))) (fun f => rfl) ?_
  refine mr_ldn (xs := ([o0, p, o2, o3, o4].map nI)) rfl rfl (k := 2) (by decide) rfl ?_
  refine mr_stn (xs := ([o0, p, o2, o3, o4].map nI)) (ys := ([o0, o2, o2, o3, o4].map nI)) (M2 := (kSn (kr (he, ke, ki, fi, fa, [o0, o2, o2, o3, o4], 3, a, g, l, w, s)))) rfl rfl (k := 1) (by decide) (by simp) rfl rfl ?_
  refine mr_seg 15 (pc1 := 57) (ls1 := [some (.ref 117), some (.int (nI p)), some (.int 2), some (.int 3)]) (st1 := [.int (nI p), .int 2, .ref 123]) (M1 := (kSn (kr (he, ke, ki, fi, fa, [o0, o2, o2, o3, o4], 3, a, g, l, w, s)))) (fun f => rfl) ?_
  refine mr_stn (xs := ([o0, o2, o2, o3, o4].map nI)) (ys := ([o0, o2, p, o3, o4].map nI)) (M2 := (kSn (kr (he, ke, ki, fi, fa, [o0, o2, p, o3, o4], 3, a, g, l, w, s)))) rfl rfl (k := 2) (by decide) (by simp) rfl rfl ?_
  refine mr_eq (mr_ret 1 (o := (none, (kSn (kr (he, ke, ki, fi, fa, [o0, o2, p, o3, o4], 3, a, g, l, w, s))))) (fun f => rfl)) ?_
  have e : klast [o0, p, o2, o3, o4] 3 p = [o0, o2, p, o3, o4] := by simp [klast, q0, q2]
  rw [e]
set_option maxRecDepth 100000 in
theorem kc_last_n_3_2 (he ke ki fi fa : List Nat) (a g l w s p o0 o1 o3 o4 : Nat) (q0 : ¬ o0 = p) (q1 : ¬ o1 = p) (hp : p < 5) (b0 : o0 < 5) (b1 : o1 < 5) (b3 : o3 < 5) (b4 : o4 < 5) : mm_R 42 0 [some (.ref 117), some (.int (nI p)), none, none] [] (kSn (kr (he, ke, ki, fi, fa, [o0, o1, p, o3, o4], 3, a, g, l, w, s))) (none, kSn (kr (he, ke, ki, fi, fa, klast [o0, o1, p, o3, o4] 3 p, 3, a, g, l, w, s))) := by
  refine mr_seg 11 (pc1 := 17) (ls1 := [some (.ref 117), some (.int (nI p)), some (.int 0), some (.int 0)]) (st1 := [.int 0, .ref 123]) (M1 := (kSn (kr (he, ke, ki, fi, fa, [o0, o1, p, o3, o4], 3, a, g, l, w, s)))) (fun f => rfl) ?_
  refine mr_ldn (xs := ([o0, o1, p, o3, o4].map nI)) rfl rfl (k := 0) (by decide) rfl ?_
  refine mr_seg 1 (pc1 := 19) (ls1 := [some (.ref 117), some (.int (nI p)), some (.int 0), some (.int 0)]) (st1 := [.int (nI p), .int (nI o0)]) (M1 := (kSn (kr (he, ke, ki, fi, fa, [o0, o1, p, o3, o4], 3, a, g, l, w, s)))) (fun f => rfl) ?_
  refine mr_f (C := (nI o0) = (nI p)) (fun e => q0 ((nI_eq (by omega) (by omega)).mp e)) (fun f => rfl) ?_
  refine mr_seg 6 (pc1 := 32) (ls1 := [some (.ref 117), some (.int (nI p)), some (.int 0), some (.int 0)]) (st1 := [.int 0, .ref 123, .int 0, .ref 123]) (M1 := (kSn (kr (he, ke, ki, fi, fa, [o0, o1, p, o3, o4], 3, a, g, l, w, s)))) (fun f => rfl) ?_
  refine mr_ldn (xs := ([o0, o1, p, o3, o4].map nI)) rfl rfl (k := 0) (by decide) rfl ?_
  refine mr_stn (xs := ([o0, o1, p, o3, o4].map nI)) (ys := ([o0, o1, p, o3, o4].map nI)) (M2 := (kSn (kr (he, ke, ki, fi, fa, [o0, o1, p, o3, o4], 3, a, g, l, w, s)))) rfl rfl (k := 0) (by decide) (by simp) rfl rfl ?_
  refine mr_seg 10 (pc1 := 17) (ls1 := [some (.ref 117), some (.int (nI p)), some (.int 1), some (.int 1)]) (st1 := [.int 1, .ref 123]) (M1 := (kSn (kr (he, ke, ki, fi, fa, [o0, o1, p, o3, o4], 3, a, g, l, w, s)))) (fun f => rfl) ?_
  refine mr_ldn (xs := ([o0, o1, p, o3, o4].map nI)) rfl rfl (k := 1) (by decide) rfl ?_
  refine mr_seg 1 (pc1 := 19) (ls1 := [some (.ref 117), some (.int (nI p)), some (.int 1), some (.int 1)]) (st1 := [.int (nI p), .int (nI o1)]) (M1 := (kSn (kr (he, ke, ki, fi, fa, [o0, o1, p, o3, o4], 3, a, g, l, w, s)))) (fun f => rfl) ?_
  refine mr_f (C := (nI o1) = (nI p)) (fun e => q1 ((nI_eq (by omega) (by omega)).mp e)) (fun f => rfl) ?_
  refine mr_seg 6 (pc1 := 32) (ls1 := [some (.ref 117), some (.int (nI p)), some (.int 1), some (.int 1)]) (st1 := [.int 1, .ref 123, .int 1, .ref 123]) (M1 := (kSn (kr (he, ke, ki, fi, fa, [o0, o1, p, o3, o4], 3, a, g, l, w, s)))) (fun f => rfl) ?_
  refine mr_ldn (xs := ([o0, o1, p, o3, o4].map nI)) rfl rfl (k := 1) (by decide) rfl ?_
  refine mr_stn (xs := ([o0, o1, p, o3, o4].map nI)) (ys := ([o0, o1, p, o3, o4].map nI)) (M2 := (kSn (kr (he, ke, ki, fi, fa, [o0, o1, p, o3, o4], 3, a, g, l, w, s)))) rfl rfl (k := 1) (by decide) (by simp) rfl rfl ?_
  refine mr_seg 10 (pc1 := 17) (ls1 := [some (.ref 117), some (.int (nI p)), some (.int 2), some (.int 2)]) (st1 := [.int 2, .ref 123]) (M1 := (kSn (kr (he, ke, ki, fi, fa, [o0, o1, p, o3, o4], 3, a, g, l, w, s)))) (fun f => rfl) ?_
  refine mr_ldn (xs := ([o0, o1, p, o3, o4].map nI)) rfl rfl (k := 2) (by decide) rfl ?_
  refine mr_seg 1 (pc1 := 19) (ls1 := [some (.ref 117), some (.int (nI p)), some (.int 2), some (.int 2)]) (st1 := [.int (nI p), .int (nI p)]) (M1 := (kSn (kr (he, ke, ki, fi, fa, [o0, o1, p, o3, o4], 3, a, g, l, w, s)))) (fun f => rfl) ?_
  refine mr_t (C := (nI p) = (nI p)) (rfl) (fun f => rfl) ?_
  refine mr_seg 14 (pc1 := 57) (ls1 := [some (.ref 117), some (.int (nI p)), some (.int 2), some (.int 3)]) (st1 := [.int (nI p), .int 2, .ref 123]) (M1 := (kSn (kr (he, ke, ki, fi, fa, [o0, o1, p, o3, o4], 3, a, g, l, w, s)))) (fun f => rfl) ?_
  refine mr_stn (xs := ([o0, o1, p, o3, o4].map nI)) (ys := ([o0, o1, p, o3, o4].map nI)) (M2 := (kSn (kr (he, ke, ki, fi, fa, [o0, o1, p, o3, o4], 3, a, g, l, w, s)))) rfl rfl (k := 2) (by decide) (by simp) rfl rfl ?_
  refine mr_eq (mr_ret 1 (o := (none, (kSn (kr (he, ke, ki, fi, fa, [o0, o1, p, o3, o4], 3, a, g, l, w, s))))) (fun f => rfl)) ?_
  have e : klast [o0, o1, p, o3, o4] 3 p = [o0, o1, p, o3, o4] := by simp [klast, q0, q1]
  rw [e]
set_option maxRecDepth 100000 in
theorem kc_last_n_4_0 (he ke ki fi fa : List Nat) (a g l w s p o1 o2 o3 o4 : Nat) (q1 : ¬ o1 = p) (q2 : ¬ o2 = p) (q3 : ¬ o3 = p) (hp : p < 5) (b1 : o1 < 5) (b2 : o2 < 5) (b3 : o3 < 5) (b4 : o4 < 5) : mm_R 42 0 [some (.ref 117), some (.int (nI p)), none, none] [] (kSn (kr (he, ke, ki, fi, fa, [p, o1, o2, o3, o4], 4, a, g, l, w, s))) (none, kSn (kr (he, ke, ki, fi, fa, klast [p, o1, o2, o3, o4] 4 p, 4, a, g, l, w, s))) := by
  refine mr_seg 11 (pc1 := 17) (ls1 := [some (.ref 117), some (.int (nI p)), some (.int 0), some (.int 0)]) (st1 := [.int 0, .ref 123]) (M1 := (kSn (kr (he, ke, ki, fi, fa, [p, o1, o2, o3, o4], 4, a, g, l, w, s)))) (fun f => rfl) ?_
  refine mr_ldn (xs := ([p, o1, o2, o3, o4].map nI)) rfl rfl (k := 0) (by decide) rfl ?_
  refine mr_seg 1 (pc1 := 19) (ls1 := [some (.ref 117), some (.int (nI p)), some (.int 0), some (.int 0)]) (st1 := [.int (nI p), .int (nI p)]) (M1 := (kSn (kr (he, ke, ki, fi, fa, [p, o1, o2, o3, o4], 4, a, g, l, w, s)))) (fun f => rfl) ?_
  refine mr_t (C := (nI p) = (nI p)) (rfl) (fun f => rfl) ?_
  refine mr_seg 9 (pc1 := 17) (ls1 := [some (.ref 117), some (.int (nI p)), some (.int 0), some (.int 1)]) (st1 := [.int 1, .ref 123]) (M1 := (kSn (kr (he, ke, ki, fi, fa, [p, o1, o2, o3, o4], 4, a, g, l, w, s)))) (fun f => rfl) ?_
  refine mr_ldn (xs := ([p, o1, o2, o3, o4].map nI)) rfl rfl (k := 1) (by decide) rfl ?_
  refine mr_seg 1 (pc1 := 19) (ls1 := [some (.ref 117), some (.int (nI p)), some (.int 0), some (.int 1)]) (st1 := [.int (nI p), .int (nI o1)]) (M1 := (kSn (kr (he, ke, ki, fi, fa, [p, o1, o2, o3, o4], 4, a, g, l, w, s)))) (fun f => rfl) ?_
  refine mr_f (C := (nI o1) = (nI p)) (fun e => q1 ((nI_eq (by omega) (by omega)).mp e)) (fun f => rfl) ?_
  refine mr_seg 6 (pc1 := 32) (ls1 := [some (.ref 117), some (.int (nI p)), some (.int 0), some (.int 1)]) (st1 := [.int 1, .ref 123, .int 0, .ref 123]) (M1 := (kSn (kr (he, ke, ki, fi, fa, [p, o1, o2, o3, o4], 4, a, g, l, w, s)))) (fun f => rfl) ?_
  refine mr_ldn (xs := ([p, o1, o2, o3, o4].map nI)) rfl rfl (k := 1) (by decide) rfl ?_
  refine mr_stn (xs := ([p, o1, o2, o3, o4].map nI)) (ys := ([o1, o1, o2, o3, o4].map nI)) (M2 := (kSn (kr (he, ke, ki, fi, fa, [o1, o1, o2, o3, o4], 4, a, g, l, w, s)))) rfl rfl (k := 0) (by decide) (by simp) rfl rfl ?_
  refine mr_seg 10 (pc1 := 17) (ls1 := [some (.ref 117), some (.int (nI p)), some (.int 1), some (.int 2)]) (st1 := [.int 2, .ref 123]) (M1 := (kSn (kr (he, ke, ki, fi, fa, [o1, o1, o2, o3, o4], 4, a, g, l, w, s)))) (fun f => rfl) ?_
  refine mr_ldn (xs := ([o1, o1, o2, o3, o4].map nI)) rfl rfl (k := 2) (by decide) rfl ?_
  refine mr_seg 1 (pc1 := 19) (ls1 := [some (.ref 117), some (.int (nI p)), some (.int 1), some (.int 2)]) (st1 := [.int (nI p), .int (nI o2)]) (M1 := (kSn (kr (he, ke, ki, fi, fa, [o1, o1, o2, o3, o4], 4, a, g, l, w, s)))) (fun f => rfl) ?_
  refine mr_f (C := (nI o2) = (nI p)) (fun e => q2 ((nI_eq (by omega) (by omega)).mp e)) (fun f => rfl) ?_
  refine mr_seg 6 (pc1 := 32) (ls1 := [some (.ref 117), some (.int (nI p)), some (.int 1), some (.int 2)]) (st1 := [.int 2, .ref 123, .int 1, .ref 123]) (M1 := (kSn (kr (he, ke, ki, fi, fa, [o1, o1, o2, o3, o4], 4, a, g, l, w, s)))) (fun f => rfl) ?_
  refine mr_ldn (xs := ([o1, o1, o2, o3, o4].map nI)) rfl rfl (k := 2) (by decide) rfl ?_
  refine mr_stn (xs := ([o1, o1, o2, o3, o4].map nI)) (ys := ([o1, o2, o2, o3, o4].map nI)) (M2 := (kSn (kr (he, ke, ki, fi, fa, [o1, o2, o2, o3, o4], 4, a, g, l, w, s)))) rfl rfl (k := 1) (by decide) (by simp) rfl rfl ?_
  refine mr_seg 10 (pc1 := 17) (ls1 := [some (.ref 117), some (.int (nI p)), some (.int 2), some (.int 3)]) (st1 := [.int 3, .ref 123]) (M1 := (kSn (kr (he, ke, ki, fi, fa, [o1, o2, o2, o3, o4], 4, a, g, l, w, s)))) (fun f => rfl) ?_
  refine mr_ldn (xs := ([o1, o2, o2, o3, o4].map nI)) rfl rfl (k := 3) (by decide) rfl ?_
  refine mr_seg 1 (pc1 := 19) (ls1 := [some (.ref 117), some (.int (nI p)), some (.int 2), some (.int 3)]) (st1 := [.int (nI p), .int (nI o3)]) (M1 := (kSn (kr (he, ke, ki, fi, fa, [o1, o2, o2, o3, o4], 4, a, g, l, w, s)))) (fun f => rfl) ?_
  refine mr_f (C := (nI o3) = (nI p)) (fun e => q3 ((nI_eq (by omega) (by omega)).mp e)) (fun f => rfl) ?_
  refine mr_seg 6 (pc1 := 32) (ls1 := [some (.ref 117), some (.int (nI p)), some (.int 2), some (.int 3)]) (st1 := [.int 3, .ref 123, .int 2, .ref 123]) (M1 := (kSn (kr (he, ke, ki, fi, fa, [o1, o2, o2, o3, o4], 4, a, g, l, w, s)))) (fun f => rfl) ?_
  refine mr_ldn (xs := ([o1, o2, o2, o3, o4].map nI)) rfl rfl (k := 3) (by decide) rfl ?_
  refine mr_stn (xs := ([o1, o2, o2, o3, o4].map nI)) (ys := ([o1, o2, o3, o3, o4].map nI)) (M2 := (kSn (kr (he, ke, ki, fi, fa, [o1, o2, o3, o3, o4], 4, a, g, l, w, s)))) rfl rfl (k := 2) (by decide) (by simp) rfl rfl ?_
  refine mr_seg 15 (pc1 := 57) (ls1 := [some (.ref 117), some (.int (nI p)), some (.int 3), some (.int 4)]) (st1 := [.int (nI p), .int 3, .ref 123]) (M1 := (kSn (kr (he, ke, ki, fi, fa, [o1, o2, o3, o3, o4], 4, a, g, l, w, s)))) (fun f => rfl) ?_
  refine mr_stn (xs := ([o1, o2, o3, o3, o4].map nI)) (ys := ([o1, o2, o3, p, o4].map nI)) (M2 := (kSn (kr (he, ke, ki, fi, fa, [o1, o2, o3, p, o4], 4, a, g, l, w, s)))) rfl rfl (k := 3) (by decide) (by simp) rfl rfl ?_
  refine mr_eq (mr_ret 1 (o := (none, (kSn (kr (he, ke, ki, fi, fa, [o1, o2, o3, p, o4], 4, a, g, l, w, s))))) (fun f => rfl)) ?_
  have e : klast [p, o1, o2, o3, o4] 4 p = [o1, o2, o3, p, o4] := by simp [klast, q1, q2, q3]
  rw [e]
set_option maxRecDepth 100000 in
theorem kc_last_n_4_1 (he ke ki fi fa : List Nat) (a g l w s p o0 o2 o3 o4 : Nat) (q0 : ¬ o0 = p) (q2 : ¬ o2 = p) (q3 : ¬ o3 = p) (hp : p < 5) (b0 : o0 < 5) (b2 : o2 < 5) (b3 : o3 < 5) (b4 : o4 < 5) : mm_R 42 0 [some (.ref 117), some (.int (nI p)), none, none] [] (kSn (kr (he, ke, ki, fi, fa, [o0, p, o2, o3, o4], 4, a, g, l, w, s))) (none, kSn (kr (he, ke, ki, fi, fa, klast [o0, p, o2, o3, o4] 4 p, 4, a, g, l, w, s))) := by
  refine mr_seg 11 (pc1 := 17) (ls1 := [some (.ref 117), some (.int (nI p)), some (.int 0), some (.int 0)]) (st1 := [.int 0, .ref 123]) (M1 := (kSn (kr (he, ke, ki, fi, fa, [o0, p, o2, o3, o4], 4, a, g, l, w, s)))) (fun f => rfl) ?_
  refine mr_ldn (xs := ([o0, p, o2, o3, o4].map nI)) rfl rfl (k := 0) (by decide) rfl ?_
  refine mr_seg 1 (pc1 := 19) (ls1 := [some (.ref 117), some (.int (nI p)), some (.int 0), some (.int 0)]) (st1 := [.int (nI p), .int (nI o0)]) (M1 := (kSn (kr (he, ke, ki, fi, fa, [o0, p, o2, o3, o4], 4, a, g, l, w, s)))) (fun f => rfl) ?_
  refine mr_f (C := (nI o0) = (nI p)) (fun e => q0 ((nI_eq (by omega) (by omega)).mp e)) (fun f => rfl) ?_
  refine mr_seg 6 (pc1 := 32) (ls1 := [some (.ref 117), some (.int (nI p)), some (.int 0), some (.int 0)]) (st1 := [.int 0, .ref 123, .int 0, .ref 123]) (M1 := (kSn (kr (he, ke, ki, fi, fa, [o0, p, o2, o3, o4], 4, a, g, l, w, s)))) (fun f => rfl) ?_
  refine mr_ldn (xs := ([o0, p, o2, o3, o4].map nI)) rfl rfl (k := 0) (by decide) rfl ?_
  refine mr_stn (xs := ([o0, p, o2, o3, o4].map nI)) (ys := ([o0, p, o2, o3, o4].map nI)) (M2 := (kSn (kr (he, ke, ki, fi, fa, [o0, p, o2, o3, o4], 4, a, g, l, w, s)))) rfl rfl (k := 0) (by decide) (by simp) rfl rfl ?_
  refine mr_seg 10 (pc1 := 17) (ls1 := [some (.ref 117), some (.int (nI p)), some (.int 1), some (.int 1)]) (st1 := [.int 1, .ref 123]) (M1 := (kSn (kr (he, ke, ki, fi, fa, [o0, p, o2, o3, o4], 4, a, g, l, w, s)))) (fun f => rfl) ?_
  refine mr_ldn (xs := ([o0, p, o2, o3, o4].map nI)) rfl rfl (k := 1) (by decide) rfl ?_
  refine mr_seg 1 (pc1 := 19) (ls1 := [some (.ref 117), some (.int (nI p)), some (.int 1), some (.int 1)]) (st1 := [.int (nI p), .int (nI p)]) (M1 := (kSn (kr (he, ke, ki, fi, fa, [o0, p, o2, o3, o4], 4, a, g, l, w, s)))) (fun f => rfl) ?_
  refine mr_t (C := (nI p) = (nI p)) (rfl) (fun f => rfl) ?_
  refine mr_seg 9 (pc1 := 17) (ls1 := [some (.ref 117), some (.int (nI p)), some (.int 1), some (.int 2)]) (st1 := [.int 2, .ref 123]) (M1 := (kSn (kr (he, ke, ki, fi, fa, [o0, p, o2, o3, o4], 4, a, g, l, w, s)))) (fun f => rfl) ?_
  refine mr_ldn (xs := ([o0, p, o2, o3, o4].map nI)) rfl rfl (k := 2) (by decide) rfl ?_
  refine mr_seg 1 (pc1 := 19) (ls1 := [some (.ref 117), some (.int (nI p)), some (.int 1), some (.int 2)]) (st1 := [.int (nI p), .int (nI o2)]) (M1 := (kSn (kr (he, ke, ki, fi, fa, [o0, p, o2, o3, o4], 4, a, g, l, w, s)))) (fun f => rfl) ?_
  refine mr_f (C := (nI o2) = (nI p)) (fun e => q2 ((nI_eq (by omega) (by omega)).mp e)) (fun f => rfl) ?_
  refine mr_seg 6 (pc1 := 32) (ls1 := [some (.ref 117), some (.int (nI p)), some (.int 1), some (.int 2)]) (st1 := [.int 2, .ref 123, .int 1, .ref 123]) (M1 := (kSn (kr (he, ke, ki, fi, fa, [o0, p, o2, o3, o4], 4, a, g, l, w, s)))) (fun f => rfl) ?_
  refine mr_ldn (xs := ([o0, p, o2, o3, o4].map nI)) rfl rfl (k := 2) (by decide) rfl ?_
  refine mr_stn (xs := ([o0, p, o2, o3, o4].map nI)) (ys := ([o0, o2, o2, o3, o4].map nI)) (M2 := (kSn (kr (he, ke, ki, fi, fa, [o0, o2, o2, o3, o4], 4, a, g, l, w, s)))) rfl rfl (k := 1) (by decide) (by simp) rfl rfl ?_
  refine mr_seg 10 (pc1 := 17) (ls1 := [some (.ref 117), some (.int (nI p)), some (.int 2), some (.int 3)]) (st1 := [.int 3, .ref 123]) (M1 := (kSn (kr (he, ke, ki, fi, fa, [o0, o2, o2, o3, o4], 4, a, g, l, w, s)))) (fun f => rfl) ?_
  refine mr_ldn (xs := ([o0, o2, o2, o3, o4].map nI)) rfl rfl (k := 3) (by decide) rfl ?_
  refine mr_seg 1 (pc1 := 19) (ls1 := [some (.ref 117), some (.int (nI p)), some (.int 2), some (.int 3)]) (st1 := [.int (nI p), .int (nI o3)]) (M1 := (kSn (kr (he, ke, ki, fi, fa, [o0, o2, o2, o3, o4], 4, a, g, l, w, s)))) (fun f => rfl) ?_
  refine mr_f (C := (nI o3) = (nI p)) (fun e => q3 ((nI_eq (by omega) (by omega)).mp e)) (fun f => rfl) ?_
  refine mr_seg 6 (pc1 := 32) (ls1 := [some (.ref 117), some (.int (nI p)), some (.int 2), some (.int 3)]) (st1 := [.int 3, .ref 123, .int 2, .ref 123]) (M1 := (kSn (kr (he, ke, ki, fi, fa, [o0, o2, o2, o3, o4], 4, a, g, l, w, s)))) (fun f => rfl) ?_
  refine mr_ldn (xs := ([o0, o2, o2, o3, o4].map nI)) rfl rfl (k := 3) (by decide) rfl ?_
  refine mr_stn (xs := ([o0, o2, o2, o3, o4].map nI)) (ys := ([o0, o2, o3, o3, o4].map nI)) (M2 := (kSn (kr (he, ke, ki, fi, fa, [o0, o2, o3, o3, o4], 4, a, g, l, w, s)))) rfl rfl (k := 2) (by decide) (by simp) rfl rfl ?_
  refine mr_seg 15 (pc1 := 57) (ls1 := [some (.ref 117), some (.int (nI p)), some (.int 3), some (.int 4)]) (st1 := [.int (nI p), .int 3, .ref 123]) (M1 := (kSn (kr (he, ke, ki, fi, fa, [o0, o2, o3, o3, o4], 4, a, g, l, w, s)))) (fun f => rfl) ?_
  refine mr_stn (xs := ([o0, o2, o3, o3, o4].map nI)) (ys := ([o0, o2, o3, p, o4].map nI)) (M2 := (kSn (kr (he, ke, ki, fi, fa, [o0, o2, o3, p, o4], 4, a, g, l, w, s)))) rfl rfl (k := 3) (by decide) (by simp) rfl rfl ?_
  refine mr_eq (mr_ret 1 (o := (none, (kSn (kr (he, ke, ki, fi, fa, [o0, o2, o3, p, o4], 4, a, g, l, w, s))))) (fun f => rfl)) ?_
  have e : klast [o0, p, o2, o3, o4] 4 p = [o0, o2, o3, p, o4] := by simp [klast, q0, q2, q3]
  rw [e]
set_option maxRecDepth 100000 in
theorem kc_last_n_4_2 (he ke ki fi fa : List Nat) (a g l w s p o0 o1 o3 o4 : Nat) (q0 : ¬ o0 = p) (q1 : ¬ o1 = p) (q3 : ¬ o3 = p) (hp : p < 5) (b0 : o0 < 5) (b1 : o1 < 5) (b3 : o3 < 5) (b4 : o4 < 5) : mm_R 42 0 [some (.ref 117), some (.int (nI p)), none, none] [] (kSn (kr (he, ke, ki, fi, fa, [o0, o1, p, o3, o4], 4, a, g, l, w, s))) (none, kSn (kr (he, ke, ki, fi, fa, klast [o0, o1, p, o3, o4] 4 p, 4, a, g, l, w, s))) := by
  refine mr_seg 11 (pc1 := 17) (ls1 := [some (.ref 117), some (.int (nI p)), some (.int 0), some (.int 0)]) (st1 := [.int 0, .ref 123]) (M1 := (kSn (kr (he, ke, ki, fi, fa, [o0, o1, p, o3, o4], 4, a, g, l, w, s)))) (fun f => rfl) ?_
  refine mr_ldn (xs := ([o0, o1, p, o3, o4].map nI)) rfl rfl (k := 0) (by decide) rfl ?_
  refine mr_seg 1 (pc1 := 19) (ls1 := [some (.ref 117), some (.int (nI p)), some (.int 0), some (.int 0)]) (st1 := [.int (nI p), .int (nI o0)]) (M1 := (kSn (kr (he, ke, ki, fi, fa, [o0, o1, p, o3, o4], 4, a, g, l, w, s)))) (fun f => rfl) ?_
  refine mr_f (C := (nI o0) = (nI p)) (fun e => q0 ((nI_eq (by omega) (by omega)).mp e)) (fun f => rfl) ?_
  refine mr_seg 6 (pc1 := 32) (ls1 := [some (.ref 117), some (.int (nI p)), some (.int 0), some (.int 0)]) (st1 := [.int 0, .ref 123, .int 0, .ref 123]) (M1 := (kSn (kr (he, ke, ki, fi, fa, [o0, o1, p, o3, o4], 4, a, g, l, w, s)))) (fun f => rfl) ?_
  refine mr_ldn (xs := ([o0, o1, p, o3, o4].map nI)) rfl rfl (k := 0) (by decide) rfl ?_
  refine mr_stn (xs := ([o0, o1, p, o3, o4].map nI)) (ys := ([o0, o1, p, o3, o4].map nI)) (M2 := (kSn (kr (he, ke, ki, fi, fa, [o0, o1, p, o3, o4], 4, a, g, l, w, s)))) rfl rfl (k := 0) (by decide) (by simp) rfl rfl ?_
  refine mr_seg 10 (pc1 := 17) (ls1 := [some (.ref 117), some (.int (nI p)), some (.int 1), some (.int 1)]) (st1 := [.int 1, .ref 123]) (M1 := (kSn (kr (he, ke, ki, fi, fa, [o0, o1, p, o3, o4], 4, a, g, l, w, s)))) (fun f => rfl) ?_
  refine mr_ldn (xs := ([o0, o1, p, o3, o4].map nI)) rfl rfl (k := 1) (by decide) rfl ?_
  refine mr_seg 1 (pc1 := 19) (ls1 := [some (.ref 117), some (.int (nI p)), some (.int 1), some (.int 1)]) (st1 := [.int (nI p), .int (nI o1)]) (M1 := (kSn (kr (he, ke, ki, fi, fa, [o0, o1, p, o3, o4], 4, a, g, l, w, s)))) (fun f => rfl) ?_
  refine mr_f (C := (nI o1) = (nI p)) (fun e => q1 ((nI_eq (by omega) (by omega)).mp e)) (fun f => rfl) ?_
  refine mr_seg 6 (pc1 := 32) (ls1 := [some (.ref 117), some (.int (nI p)), some (.int 1), some (.int 1)]) (st1 := [.int 1, .ref 123, .int 1, .ref 123]) (M1 := (kSn (kr (he, ke, ki, fi, fa, [o0, o1, p, o3, o4], 4, a, g, l, w, s)))) (fun f => rfl) ?_
  refine mr_ldn (xs := ([o0, o1, p, o3, o4].map nI)) rfl rfl (k := 1) (by decide) rfl ?_
  refine mr_stn (xs := ([o0, o1, p, o3, o4].map nI)) (ys := ([o0, o1, p, o3, o4].map nI)) (M2 := (kSn (kr (he, ke, ki, fi, fa, [o0, o1, p, o3, o4], 4, a, g, l, w, s)))) rfl rfl (k := 1) (by decide) (by simp) rfl rfl ?_
  refine mr_seg 10 (pc1 := 17) (ls1 := [some (.ref 117), some (.int (nI p)), some (.int 2), some (.int 2)]) (st1 := [.int 2, .ref 123]) (M1 := (kSn (kr (he, ke, ki, fi, fa, [o0, o1, p, o3, o4], 4, a, g, l, w, s)))) (fun f => rfl) ?_
  refine mr_ldn (xs := ([o0, o1, p, o3, o4].map nI)) rfl rfl (k := 2) (by decide) rfl ?_
  refine mr_seg 1 (pc1 := 19) (ls1 := [some (.ref 117), some (.int (nI p)), some (.int 2), some (.int 2)]) (st1 := [.int (nI p), .int (nI p)]) (M1 := (kSn (kr (he, ke, ki, fi, fa, [o0, o1, p, o3, o4], 4, a, g, l, w, s)))) (fun f => rfl) ?_
  refine mr_t (C := (nI p) = (nI p)) (rfl) (fun f => rfl) ?_
  refine mr_seg 9 (pc1 := 17) (ls1 := [some (.ref 117), some (.int (nI p)), some (.int 2), some (.int 3)]) (st1 := [.int 3, .ref 123]) (M1 := (kSn (kr (he, ke, ki, fi, fa, [o0, o1, p, o3, o4], 4, a, g, l, w, s)))) (fun f => rfl) ?_
  refine mr_ldn (xs := ([o0, o1, p, o3, o4].map nI)) rfl rfl (k := 3) (by decide) rfl ?_
  refine mr_seg 1 (pc1 := 19) (ls1 := [some (.ref 117), some (.int (nI p)), some (.int 2), some (.int 3)]) (st1 := [.int (nI p), .int (nI o3)]) (M1 := (kSn (kr (he, ke, ki, fi, fa, [o0, o1, p, o3, o4], 4, a, g, l, w, s)))) (fun f => rfl) ?_
  refine mr_f (C := (nI o3) = (nI p)) (fun e => q3 ((nI_eq (by omega) (by omega)).mp e)) (fun f => rfl) ?_
  refine mr_seg 6 (pc1 := 32) (ls1 := [some (.ref 117), some (.int (nI p)), some (.int 2), some (.int 3)]) (st1 := [.int 3, .ref 123, .int 2, .ref 123]) (M1 := (kSn (kr (he, ke, ki, fi, fa, [o0, o1, p, o3, o4], 4, a, g, l, w, s)))) (fun f => rfl) ?_
  refine mr_ldn (xs := ([o0, o1, p, o3, o4].map nI)) rfl rfl (k := 3) (by decide) rfl ?_
  refine mr_stn (xs := ([o0, o1, p, o3, o4].map nI)) (ys := ([o0, o1, o3, o3, o4].map nI)) (M2 := (kSn (kr (he, ke, ki, fi, fa, [o0, o1, o3, o3, o4], 4, a, g, l, w, s)))) rfl rfl (k := 2) (by decide) (by simp) rfl rfl ?_
  refine mr_seg 15 (pc1 := 57) (ls1 := [some (.ref 117), some (.int (nI p)), some (.int 3), some (.int 4)]) (st1 := [.int (nI p), .int 3, .ref 123]) (M1 := (kSn (kr (he, ke, ki, fi, fa, [o0, o1, o3, o3, o4], 4, a, g, l, w, s)))) (fun f => rfl) ?_
  refine mr_stn (xs := ([o0, o1, o3, o3, o4].map nI)) (ys := ([o0, o1, o3, p, o4].map nI)) (M2 := (kSn (kr (he, ke, ki, fi, fa, [o0, o1, o3, p, o4], 4, a, g, l, w, s)))) rfl rfl (k := 3) (by decide) (by simp) rfl rfl ?_
  refine mr_eq (mr_ret 1 (o := (none, (kSn (kr (he, ke, ki, fi, fa, [o0, o1, o3, p, o4], 4, a, g, l, w, s))))) (fun f => rfl)) ?_
  have e : klast [o0, o1, p, o3, o4] 4 p = [o0, o1, o3, p, o4] := by simp [klast, q0, q1, q3]
  rw [e]
set_option maxRecDepth 100000 in
theorem kc_last_n_4_3 (he ke ki fi fa : List Nat) (a g l w s p o0 o1 o2 o4 : Nat) (q0 : ¬ o0 = p) (q1 : ¬ o1 = p) (q2 : ¬ o2 = p) (hp : p < 5) (b0 : o0 < 5) (b1 : o1 < 5) (b2 : o2 < 5) (b4 : o4 < 5) : mm_R 42 0 [some (.ref 117), some (.int (nI p)), none, none] [] (kSn (kr (he, ke, ki, fi, fa, [o0, o1, o2, p, o4], 4, a, g, l, w, s))) (none, kSn (kr (he, ke, ki, fi, fa, klast [o0, o1, o2, p, o4] 4 p, 4, a, g, l, w, s))) := by
  refine mr_seg 11 (pc1 := 17) (ls1 := [some (.ref 117), some (.int (nI p)), some (.int 0), some (.int 0)]) (st1 := [.int 0, .ref 123]) (M1 := (kSn (kr (he, ke, ki, fi, fa, [o0, o1, o2, p, o4], 4, a, g, l, w, s)))) (fun f => rfl) ?_
  refine mr_ldn (xs := ([o0, o1, o2, p, o4].map nI)) rfl rfl (k := 0) (by decide) rfl ?_
  refine mr_seg 1 (pc1 := 19) (ls1 := [some (.ref 117), some (.int (nI p)), some (.int 0), some (.int 0)]) (st1 := [.int (nI p), .int (nI o0)]) (M1 := (kSn (kr (he, ke, ki, fi, fa, [o0, o1, o2, p, o4], 4, a, g, l, w, s)))) (fun f => rfl) ?_
  refine mr_f (C := (nI o0) = (nI p)) (fun e => q0 ((nI_eq (by omega) (by omega)).mp e)) (fun f => rfl) ?_
  refine mr_seg 6 (pc1 := 32) (ls1 := [some (.ref 117), some (.int (nI p)), some (.int 0), some (.int 0)]) (st1 := [.int 0, .ref 123, .int 0, .ref 123]) (M1 := (kSn (kr (he, ke, ki, fi, fa, [o0, o1, o2, p, o4], 4, a, g, l, w, s)))) (fun f => rfl) ?_
  refine mr_ldn (xs := ([o0, o1, o2, p, o4].map nI)) rfl rfl (k := 0) (by decide) rfl ?_
  refine mr_stn (xs := ([o0, o1, o2, p, o4].map nI)) (ys := ([o0, o1, o2, p, o4].map nI)) (M2 := (kSn (kr (he, ke, ki, fi, fa, [o0, o1, o2, p, o4], 4, a, g, l, w, s)))) rfl rfl (k := 0) (by decide) (by simp) rfl rfl ?_
  refine mr_seg 10 (pc1 := 17) (ls1 := [some (.ref 117), some (.int (nI p)), some (.int 1), some (.int 1)]) (st1 := [.int 1, .ref 123]) (M1 := (kSn (kr (he, ke, ki, fi, fa, [o0, o1, o2, p, o4], 4, a, g, l, w, s)))) (fun f => rfl) ?_
  refine mr_ldn (xs := ([o0, o1, o2, p, o4].map nI)) rfl rfl (k := 1) (by decide) rfl ?_
  refine mr_seg 1 (pc1 := 19) (ls1 := [some (.ref 117), some (.int (nI p)), some (.int 1), some (.int 1)]) (st1 := [.int (nI p), .int (nI o1)]) (M1 := (kSn (kr (he, ke, ki, fi, fa, [o0, o1, o2, p, o4], 4, a, g, l, w, s)))) (fun f => rfl) ?_
  refine mr_f (C := (nI o1) = (nI p)) (fun e => q1 ((nI_eq (by omega) (by omega)).mp e)) (fun f => rfl) ?_
  refine mr_seg 6 (pc1 := 32) (ls1 := [some (.ref 117), some (.int (nI p)), some (.int 1), some (.int 1)]) (st1 := [.int 1, .ref 123, .int 1, .ref 123]) (M1 := (kSn (kr (he, ke, ki, fi, fa, [o0, o1, o2, p, o4], 4, a, g, l, w, s)))) (fun f => rfl) ?_
  refine mr_ldn (xs := ([o0, o1, o2, p, o4].map nI)) rfl rfl (k := 1) (by decide) rfl ?_
  refine mr_stn (xs := ([o0, o1, o2, p, o4].map nI)) (ys := ([o0, o1, o2, p, o4].map nI)) (M2 := (kSn (kr (he, ke, ki, fi, fa, [o0, o1, o2, p, o4], 4, a, g, l, w, s)))) rfl rfl (k := 1) (by decide) (by simp) rfl rfl ?_
  refine mr_seg 10 (pc1 := 17) (ls1 := [some (.ref 117), some (.int (nI p)), some (.int 2), some (.int 2)]) (st1 := [.int 2, .ref 123]) (M1 := (kSn (kr (he, ke, ki, fi, fa, [o0, o1, o2, p, o4], 4, a, g, l, w, s)))) (fun f => rfl) ?_
  refine mr_ldn (xs := ([o0, o1, o2, p, o4].map nI)) rfl rfl (k := 2) (by decide) rfl ?_
  refine mr_seg 1 (pc1 := 19) (ls1 := [some (.ref 117), some (.int (nI p)), some (.int 2), some (.int 2)]) (st1 := [.int (nI p), .int (nI o2)]) (M1 := (kSn (kr (he, ke, ki, fi, fa, [o0, o1, o2, p, o4], 4, a, g, l, w, s)))) (fun f => rfl) ?_
  refine mr_f (C := (nI o2) = (nI p)) (fun e => q2 ((nI_eq (by omega) (by omega)).mp e)) (fun f => rfl) ?_
  refine mr_seg 6 (pc1 := 32) (ls1 := [some (.ref 117), some (.int (nI p)), some (.int 2), some (.int 2)]) (st1 := [.int 2, .ref 123, .int 2, .ref 123]) (M1 := (kSn (kr (he, ke, ki, fi, fa, [o0, o1, o2, p, o4], 4, a, g, l, w, s)))) (fun f => rfl) ?_
  refine mr_ldn (xs := ([o0, o1, o2, p, o4].map nI)) rfl rfl (k := 2) (by decide) rfl ?_
  refine mr_stn (xs := ([o0, o1, o2, p, o4].map nI)) (ys := ([o0, o1, o2, p, o4].map nI)) (M2 := (kSn (kr (he, ke, ki, fi, fa, [o0, o1, o2, p, o4], 4, a, g, l, w, s)))) rfl rfl (k := 2) (by decide) (by simp) rfl rfl ?_
  refine mr_seg 10 (pc1 := 17) (ls1 := [some (.ref 117), some (.int (nI p)), some (.int 3), some (.int 3)]) (st1 := [.int 3, .ref 123]) (M1 := (kSn (kr (he, ke, ki, fi, fa, [o0, o1, o2, p, o4], 4, a, g, l, w, s)))) (fun f => rfl) ?_
  refine mr_ldn (xs := ([o0, o1, o2, p, o4].map nI)) rfl rfl (k := 3) (by decide) rfl ?_
  refine mr_seg 1 (pc1 := 19) (ls1 := [some (.ref 117), some (.int (nI p)), some (.int 3), some (.int 3)]) (st1 := [.int (nI p), .int (nI p)]) (M1 := (kSn (kr (he, ke, ki, fi, fa, [o0, o1, o2, p, o4], 4, a, g, l, w, s)))) (fun f => rfl) ?_
  refine mr_t (C := (nI p) = (nI p)) (rfl) (fun f => rfl) ?_
  refine mr_seg 14 (pc1 := 57) (ls1 := [some (.ref 117), some (.int (nI p)), some (.int 3), some (.int 4)]) (st1 := [.int (nI p), .int 3, .ref 123]) (M1 := (kSn (kr (he, ke, ki, fi, fa, [o0, o1, o2, p, o4], 4, a, g, l, w, s)))) (fun f => rfl) ?_
  refine mr_stn (xs := ([o0, o1, o2, p, o4].map nI)) (ys := ([o0, o1, o2, p, o4].map nI)) (M2 := (kSn (kr (he, ke, ki, fi, fa, [o0, o1, o2, p, o4], 4, a, g, l, w, s)))) rfl rfl (k := 3) (by decide) (by simp) rfl rfl ?_
  refine mr_eq (mr_ret 1 (o := (none, (kSn (kr (he, ke, ki, fi, fa, [o0, o1, o2, p, o4], 4, a, g, l, w, s))))) (fun f => rfl)) ?_
  have e : klast [o0, o1, o2, p, o4] 4 p = [o0, o1, o2, p, o4] := by simp [klast, q0, q1, q2]
  rw [e]
set_option maxRecDepth 100000 in
theorem kc_last_n_5_0 (he ke ki fi fa : List Nat) (a g l w s p o1 o2 o3 o4 : Nat) (q1 : ¬ o1 = p) (q2 : ¬ o2 = p) (q3 : ¬ o3 = p) (q4 : ¬ o4 = p) (hp : p < 5) (b1 : o1 < 5) (b2 : o2 < 5) (b3 : o3 < 5) (b4 : o4 < 5) : mm_R 42 0 [some (.ref 117), some (.int (nI p)), none, none] [] (kSn (kr (he, ke, ki, fi, fa, [p, o1, o2, o3, o4], 5, a, g, l, w, s))) (none, kSn (kr (he, ke, ki, fi, fa, klast [p, o1, o2, o3, o4] 5 p, 5, a, g, l, w, s))) := by
  refine mr_seg 11 (pc1 := 17) (ls1 := [some (.ref 117), some (.int (nI p)), some (.int 0), some (.int 0)]) (st1 := [.int 0, .ref 123]) (M1 := (kSn (kr (he, ke, ki, fi, fa, [p, o1, o2, o3, o4], 5, a, g, l, w, s)))) (fun f => rfl) ?_
  refine mr_ldn (xs := ([p, o1, o2, o3, o4].map nI)) rfl rfl (k := 0) (by decide) rfl ?_
  refine mr_seg 1 (pc1 := 19) (ls1 := [some (.ref 117), some (.int (nI p)), some (.int 0), some (.int 0)]) (st1 := [.int (nI p), .int (nI p)]) (M1 := (kSn (kr (he, ke, ki, fi, fa, [p, o1, o2, o3, o4], 5, a, g, l, w, s)))) (fun f => rfl) ?_
  refine mr_t (C := (nI p) = (nI p)) (rfl) (fun f => rfl) ?_
  refine mr_seg 9 (pc1 := 17) (ls1 := [some (.ref 117), some (.int (nI p)), some (.int 0), some (.int 1)]) (st1 := [.int 1, .ref 123]) (M1 := (kSn (kr (he, ke, ki, fi, fa, [p, o1, o2, o3, o4], 5, a, g, l, w, s)))) (fun f => rfl) ?_
  refine mr_ldn (xs := ([p, o1, o2, o3, o4].map nI)) rfl rfl (k := 1) (by decide) rfl ?_
  refine mr_seg 1 (pc1 := 19) (ls1 := [some (.ref 117), some (.int (nI p)), some (.int 0), some (.int 1)]) (st1 := [.int (nI p), .int (nI o1)]) (M1 := (kSn (kr (he, ke, ki, fi, fa, [p, o1, o2, o3, o4], 5, a, g, l, w, s)))) (fun f => rfl) ?_
  refine mr_f (C := (nI o1) = (nI p)) (fun e => q1 ((nI_eq (by omega) (by omega)).mp e)) (fun f => rfl) ?_
  refine mr_seg 6 (pc1 := 32) (ls1 := [some (.ref 117), some (.int (nI p)), some (.int 0), some (.int 1)]) (st1 := [.int 1, .ref 123, .int 0, .ref 123]) (M1 := (kSn (kr (he, ke, ki, fi, fa, [p, o1, o2, o3, o4], 5, a, g, l, w, s)))) (fun f => rfl) ?_
  refine mr_ldn (xs := ([p, o1, o2, o3, o4].map nI)) rfl rfl (k := 1) (by decide) rfl ?_
  refine mr_stn (xs := ([p, o1, o2, o3, o4].map nI)) (ys := ([o1, o1, o2, o3, o4].map nI)) (M2 := (kSn (kr (he, ke, ki, fi, fa, [o1, o1, o2, o3, o4], 5, a, g, l, w, s)))) rfl rfl (k := 0) (by decide) (by simp) rfl rfl ?_
  refine mr_seg 10 (pc1 := 17) (ls1 := [some (.ref 117), some (.int (nI p)), some (.int 1), some (.int 2)]) (st1 := [.int 2, .ref 123]) (M1 := (kSn (kr (he, ke, ki, fi, fa, [o1, o1, o2, o3, o4], 5, a, g, l, w, s)))) (fun f => rfl) ?_
  refine mr_ldn (xs := ([o1, o1, o2, o3, o4].map nI)) rfl rfl (k := 2) (by decide) rfl ?_
  refine mr_seg 1 (pc1 := 19) (ls1 := [some (.ref 117), some (.int (nI p)), some (.int 1), some (.int 2)]) (st1 := [.int (nI p), .int (nI o2)]) (M1 := (kSn (kr (he, ke, ki, fi, fa, [o1, o1, o2, o3, o4], 5, a, g, l, w, s)))) (fun f => rfl) ?_
  refine mr_f (C := (nI o2) = (nI p)) (fun e => q2 ((nI_eq (by omega) (by omega)).mp e)) (fun f => rfl) ?_
  refine mr_seg 6 (pc1 := 32) (ls1 := [some (.ref 117), some (.int (nI p)), some (.int 1), some (.int 2)]) (st1 := [.int 2, .ref 123, .int 1, .ref 123]) (M1 := (kSn (kr (he, ke, ki, fi, fa, [o1, o1, o2, o3, o4], 5, a, g, l, w, s)))) (fun f => rfl) ?_
  refine mr_ldn (xs := ([o1, o1, o2, o3, o4].map nI)) rfl rfl (k := 2) (by decide) rfl ?_
  refine mr_stn (xs := ([o1, o1, o2, o3, o4].map nI)) (ys := ([o1, o2, o2, o3, o4].map nI)) (M2 := (kSn (kr (he, ke, ki, fi, fa, [o1, o2, o2, o3, o4], 5, a, g, l, w, s)))) rfl rfl (k := 1) (by decide) (by simp) rfl rfl ?_
  refine mr_seg 10 (pc1 := 17) (ls1 := [some (.ref 117), some (.int (nI p)), some (.int 2), some (.int 3)]) (st1 := [.int 3, .ref 123]) (M1 := (kSn (kr (he, ke, ki, fi, fa, [o1, o2, o2, o3, o4], 5, a, g, l, w, s)))) (fun f => rfl) ?_
  refine mr_ldn (xs := ([o1, o2, o2, o3, o4].map nI)) rfl rfl (k := 3) (by decide) rfl ?_
  refine mr_seg 1 (pc1 := 19) (ls1 := [some (.ref 117), some (.int (nI p)), some (.int 2), some (.int 3)]) (st1 := [.int (nI p), .int (nI o3)]) (M1 := (kSn (kr (he, ke, ki, fi, fa, [o1, o2, o2, o3, o4], 5, a, g, l, w, s)))) (fun f => rfl) ?_
  refine mr_f (C := (nI o3) = (nI p)) (fun e => q3 ((nI_eq (by omega) (by omega)).mp e)) (fun f => rfl) ?_
  refine mr_seg 6 (pc1 := 32) (ls1 := [some (.ref 117), some (.int (nI p)), some (.int 2), some (.int 3)]) (st1 := [.int 3, .ref 123, .int 2, .ref 123]) (M1 := (kSn (kr (he, ke, ki, fi, fa, [o1, o2, o2, o3, o4], 5, a, g, l, w, s)))) (fun f => rfl) ?_
  refine mr_ldn (xs := ([o1, o2, o2, o3, o4].map nI)) rfl rfl (k := 3) (by decide) rfl ?_
  refine mr_stn (xs := ([o1, o2, o2, o3, o4].map nI)) (ys := ([o1, o2, o3, o3, o4].map nI)) (M2 := (kSn (kr (he, ke, ki, fi, fa, [o1, o2, o3, o3, o4], 5, a, g, l, w, s)))) rfl rfl (k := 2) (by decide) (by simp) rfl rfl ?_
  refine mr_seg 10 (pc1 := 17) (ls1 := [some (.ref 117), some (.int (nI p)), some (.int 3), some (.int 4)]) (st1 := [.int 4, .ref 123]) (M1 := (kSn (kr (he, ke, ki, fi, fa, [o1, o2, o3, o3, o4], 5, a, g, l, w, s)))) (fun f => rfl) ?_
  refine mr_ldn (xs := ([o1, o2, o3, o3, o4].map nI)) rfl rfl (k := 4) (by decide) rfl ?_
  refine mr_seg 1 (pc1 := 19) (ls1 := [some (.ref 117), some (.int (nI p)), some (.int 3), some (.int 4)]) (st1 := [.int (nI p), .int (nI o4)]) (M1 := (kSn (kr (he, ke, ki, fi, fa, [o1, o2, o3, o3, o4], 5, a, g, l, w, s)))) (fun f => rfl) ?_
  refine mr_f (C := (nI o4) = (nI p)) (fun e => q4 ((nI_eq (by omega) (by omega)).mp e)) (fun f => rfl) ?_
  refine mr_seg 6 (pc1 := 32) (ls1 := [some (.ref 117), some (.int (nI p)), some (.int 3), some (.int 4)]) (st1 := [.int 4, .ref 123, .int 3, .ref 123]) (M1 := (kSn (kr (he, ke, ki, fi, fa, [o1, o2, o3, o3, o4], 5, a, g, l, w, s)))) (fun f => rfl) ?_
  refine mr_ldn (xs := ([o1, o2, o3, o3, o4].map nI)) rfl rfl (k := 4) (by decide) rfl ?_
  refine mr_stn (xs := ([o1, o2, o3, o3, o4].map nI)) (ys := ([o1, o2, o3, o4, o4].map nI)) (M2 := (kSn (kr (he, ke, ki, fi, fa, [o1, o2, o3, o4, o4], 5, a, g, l, w, s)))) rfl rfl (k := 3) (by decide) (by simp) rfl rfl ?_
  refine mr_seg 15 (pc1 := 57) (ls1 := [some (.ref 117), some (.int (nI p)), some (.int 4), some (.int 5)]) (st1 := [.int (nI p), .int 4, .ref 123]) (M1 := (kSn (kr (he, ke, ki, fi, fa, [o1, o2, o3, o4, o4], 5, a, g, l, w, s)))) (fun f => rfl) ?_
  refine mr_stn (xs := ([o1, o2, o3, o4, o4].map nI)) (ys := ([o1, o2, o3, o4, p].map nI)) (M2 := (kSn (kr (he, ke, ki, fi, fa, [o1, o2, o3, o4, p], 5, a, g, l, w, s)))) rfl rfl (k := 4) (by decide) (by simp) rfl rfl ?_
  refine mr_eq (mr_ret 1 (o := (none, (kSn (kr (he, ke, ki, fi, fa, [o1, o2, o3, o4, p], 5, a, g, l, w, s))))) (fun f => rfl)) ?_
  have e : klast [p, o1, o2, o3, o4] 5 p = [o1, o2, o3, o4, p] := by simp [klast, q1, q2, q3, q4]
  rw [e]
set_option maxRecDepth 100000 in
theorem kc_last_n_5_1 (he ke ki fi fa : List Nat) (a g l w s p o0 o2 o3 o4 : Nat) (q0 : ¬ o0 = p) (q2 : ¬ o2 = p) (q3 : ¬ o3 = p) (q4 : ¬ o4 = p) (hp : p < 5) (b0 : o0 < 5) (b2 : o2 < 5) (b3 : o3 < 5) (b4 : o4 < 5) : mm_R 42 0 [some (.ref 117), some (.int (nI p)), none, none] [] (kSn (kr (he, ke, ki, fi, fa, [o0, p, o2, o3, o4], 5, a, g, l, w, s))) (none, kSn (kr (he, ke, ki, fi, fa, klast [o0, p, o2, o3, o4] 5 p, 5, a, g, l, w, s))) := by
  refine mr_seg 11 (pc1 := 17) (ls1 := [some (.ref 117), some (.int (nI p)), some (.int 0), some (.int 0)]) (st1 := [.int 0, .ref 123]) (M1 := (kSn (kr (he, ke, ki, fi, fa, [o0, p, o2, o3, o4], 5, a, g, l, w, s)))) (fun f => rfl) ?_
  refine mr_ldn (xs := ([o0, p, o2, o3, o4].map nI)) rfl rfl (k := 0) (by decide) rfl ?_
  refine mr_seg 1 (pc1 := 19) (ls1 := [some (.ref 117), some (.int (nI p)), some (.int 0), some (.int 0)]) (st1 := [.int (nI p), .int (nI o0)]) (M1 := (kSn (kr (he, ke, ki, fi, fa, [o0, p, o2, o3, o4], 5, a, g, l, w, s)))) (fun f => rfl) ?_
  refine mr_f (C := (nI o0) = (nI p)) (fun e => q0 ((nI_eq (by omega) (by omega)).mp e)) (fun f => rfl) ?_
  refine mr_seg 6 (pc1 := 32) (ls1 := [some (.ref 117), some (.int (nI p)), some (.int 0), some (.int 0)]) (st1 := [.int 0, .ref 123, .int 0, .ref 123]) (M1 := (kSn (kr (he, ke, ki, fi, fa, [o0, p, o2, o3, o4], 5, a, g, l, w, s)))) (fun f => rfl) ?_
  refine mr_ldn (xs := ([o0, p, o2, o3, o4].map nI)) rfl rfl (k := 0) (by decide) rfl ?_
  refine mr_stn (xs := ([o0, p, o2, o3, o4].map nI)) (ys := ([o0, p, o2, o3, o4].map nI)) (M2 := (kSn (kr (he, ke, ki, fi, fa, [o0, p, o2, o3, o4], 5, a, g, l, w, s)))) rfl rfl (k := 0) (by decide) (by simp) rfl rfl ?_
  refine mr_seg 10 (pc1 := 17) (ls1 := [some (.ref 117), some (.int (nI p)), some (.int 1), some (.int 1)]) (st1 := [.int 1, .ref 123]) (M1 := (kSn (kr (he, ke, ki, fi, fa, [o0, p, o2, o3, o4], 5, a, g, l, w, s)))) (fun f => rfl) ?_
  refine mr_ldn (xs := ([o0, p, o2, o3, o4].map nI)) rfl rfl (k := 1) (by decide) rfl ?_
  refine mr_seg 1 (pc1 := 19) (ls1 := [some (.ref 117), some (.int (nI p)), some (.int 1), some (.int 1)]) (st1 := [.int (nI p), .int (nI p)]) (M1 := (kSn (kr (he, ke, ki, fi, fa, [o0, p, o2, o3, o4], 5, a, g, l, w, s)))) (fun f => rfl) ?_
  refine mr_t (C := (nI p) = (nI p)) (rfl) (fun f => rfl) ?_
  refine mr_seg 9 (pc1 := 17) (ls1 := [some (.ref 117), some (.int (nI p)), some (.int 1), some (.int 2)]) (st1 := [.int 2, .ref 123]) (M1 := (kSn (kr (he, ke, ki, fi, fa, [o0, p, o2, o3, o4], 5, a, g, l, w, s)))) (fun f => rfl) ?_
  refine mr_ldn (xs := ([o0, p, o2, o3, o4].map nI)) rfl rfl (k := 2) (by decide) rfl ?_
  refine mr_seg 1 (pc1 := 19) (ls1 := [some (.ref 117), some (.int (nI p)), some (.int 1), some (.int 2)]) (st1 := [.int (nI p), .int (nI o2)]) (M1 := (kSn (kr (he, ke, ki, fi, fa, [o0, p, o2, o3, o4], 5, a, g, l, w, s)))) (fun f => rfl) ?_
  refine mr_f (C := (nI o2) = (nI p)) (fun e => q2 ((nI_eq (by omega) (by omega)).mp e)) (fun f => rfl) ?_
  refine mr_seg 6 (pc1 := 32) (ls1 := [some (.ref 117), some (.int (nI p)), some (.int 1), some (.int 2)]) (st1 := [.int 2, .ref 123, .int 1, .ref 123]) (M1 := (kSn (kr (he, ke, ki, fi, fa, [o0, p, o2, o3, o4], 5, a, g, l, w, s)))) (fun f => rfl) ?_
  refine mr_ldn (xs := ([o0, p, o2, o3, o4].map nI)) rfl rfl (k := 2) (by decide) rfl ?_
  refine mr_stn (xs := ([o0, p, o2, o3, o4].map nI)) (ys := ([o0, o2, o2, o3, o4].map nI)) (M2 := (kSn (kr (he, ke, ki, fi, fa, [o0, o2, o2, o3, o4], 5, a, g, l, w, s)))) rfl rfl (k := 1) (by decide) (by simp) rfl rfl ?_
  refine mr_seg 10 (pc1 := 17) (ls1 := [some (.ref 117), some (.int (nI p)), some (.int 2), some (.int 3)]) (st1 := [.int 3, .ref 123]) (M1 := (kSn (kr (he, ke, ki, fi, fa, [o0, o2, o2, o3, o4], 5, a, g, l, w, s)))) (fun f => rfl) ?_
  refine mr_ldn (xs := ([o0, o2, o2, o3, o4].map nI)) rfl rfl (k := 3) (by decide) rfl ?_
  refine mr_seg 1 (pc1 := 19) (ls1 := [some (.ref 117), some (.int (nI p)), some (.int 2), some (.int 3)]) (st1 := [.int (nI p), .int (nI o3)]) (M1 := (kSn (kr (he, ke, ki, fi, fa, [o0, o2, o2, o3, o4], 5, a, g, l, w, s)))) (fun f => rfl) ?_
  refine mr_f (C := (nI o3) = (nI p)) (fun e => q3 ((nI_eq (by omega) (by omega)).mp e)) (fun f => rfl) ?_
  refine mr_seg 6 (pc1 := 32) (ls1 := [some (.ref 117), some (.int (nI p)), some (.int 2), some (.int 3)]) (st1 := [.int 3, .ref 123, .int 2, .ref 123]) (M1 := (kSn (kr (he, ke, ki, fi, fa, [o0, o2, o2, o3, o4], 5, a, g, l, w, s)))) (fun f => rfl) ?_
  refine mr_ldn (xs := ([o0, o2, o2, o3, o4].map nI)) rfl rfl (k := 3) (by decide) rfl ?_
  refine mr_stn (xs := ([o0, o2, o2, o3, o4].map nI)) (ys := ([o0, o2, o3, o3, o4].map nI)) (M2 := (kSn (kr (he, ke, ki, fi, fa, [o0, o2, o3, o3, o4], 5, a, g, l, w, s)))) rfl rfl (k := 2) (by decide) (by simp) rfl rfl ?_
  refine mr_seg 10 (pc1 := 17) (ls1 := [some (.ref 117), some (.int (nI p)), some (.int 3), some (.int 4)]) (st1 := [.int 4, .ref 123]) (M1 := (kSn (kr (he, ke, ki, fi, fa, [o0, o2, o3, o3, o4], 5, a, g, l, w, s)))) (fun f => rfl) ?_
  refine mr_ldn (xs := ([o0, o2, o3, o3, o4].map nI)) rfl rfl (k := 4) (by decide) rfl ?_
  refine mr_seg 1 (pc1 := 19) (ls1 := [some (.ref 117), some (.int (nI p)), some (.int 3), some (.int 4)]) (st1 := [.int (nI p), .int (nI o4)]) (M1 := (kSn (kr (he, ke, ki, fi, fa, [o0, o2, o3, o3, o4], 5, a, g, l, w, s)))) (fun f => rfl) ?_
  refine mr_f (C := (nI o4) = (nI p)) (fun e => q4 ((nI_eq (by omega) (by omega)).mp e)) (fun f => rfl) ?_
  refine mr_seg 6 (pc1 := 32) (ls1 := [some (.ref 117), some (.int (nI p)), some (.int 3), some (.int 4)]) (st1 := [.int 4, .ref 123, .int 3, .ref 123]) (M1 := (kSn (kr (he, ke, ki, fi, fa, [o0, o2, o3, o3, o4], 5, a, g, l, w, s)))) (fun f => rfl) ?_
  refine mr_ldn (xs := ([o0, o2, o3, o3, o4].map nI)) rfl rfl (k := 4) (by decide) rfl ?_
  refine mr_stn (xs := ([o0, o2, o3, o3, o4].map nI)) (ys := ([o0, o2, o3, o4, o4].map nI)) (M2 := (kSn (kr (he, ke, ki, fi, fa, [o0, o2, o3, o4, o4], 5, a, g, l, w, s)))) rfl rfl (k := 3) (by decide) (by simp) rfl rfl ?_
  refine mr_seg 15 (pc1 := 57) (ls1 := [some (.ref 117), some (.int (nI p)), some (.int 4), some (.int 5)]) (st1 := [.int (nI p), .int 4, .ref 123]) (M1 := (kSn (kr (he, ke, ki, fi, fa, [o0, o2, o3, o4, o4], 5, a, g, l, w, s)))) (fun f => rfl) ?_
  refine mr_stn (xs := ([o0, o2, o3, o4, o4].map nI)) (ys := ([o0, o2, o3, o4, p].map nI)) (M2 := (kSn (kr (he, ke, ki, fi, fa, [o0, o2, o3, o4, p], 5, a, g, l, w, s)))) rfl rfl (k := 4) (by decide) (by simp) rfl rfl ?_
  refine mr_eq (mr_ret 1 (o := (none, (kSn (kr (he, ke, ki, fi, fa, [o0, o2, o3, o4, p], 5, a, g, l, w, s))))) (fun f => rfl)) ?_
  have e : klast [o0, p, o2, o3, o4] 5 p = [o0, o2, o3, o4, p] := by simp [klast, q0, q2, q3, q4]
  rw [e]
set_option maxRecDepth 100000 in
theorem kc_last_n_5_2 (he ke ki fi fa : List Nat) (a g l w s p o0 o1 o3 o4 : Nat) (q0 : ¬ o0 = p) (q1 : ¬ o1 = p) (q3 : ¬ o3 = p) (q4 : ¬ o4 = p) (hp : p < 5) (b0 : o0 < 5) (b1 : o1 < 5) (b3 : o3 < 5) (b4 : o4 < 5) : mm_R 42 0 [some (.ref 117), some (.int (nI p)), none, none] [] (kSn (kr (he, ke, ki, fi, fa, [o0, o1, p, o3, o4], 5, a, g, l, w, s))) (none, kSn (kr (he, ke, ki, fi, fa, klast [o0, o1, p, o3, o4] 5 p, 5, a, g, l, w, s))) := by
  refine mr_seg 11 (pc1 := 17) (ls1 := [some (.ref 117), some (.int (nI p)), some (.int 0), some (.int 0)]) (st1 := [.int 0, .ref 123]) (M1 := (kSn (kr (he, ke, ki, fi, fa, [o0, o1, p, o3, o4], 5, a, g, l, w, s)))) (fun f => rfl) ?_
  refine mr_ldn (xs := ([o0, o1, p, o3, o4].map nI)) rfl rfl (k := 0) (by decide) rfl ?_
  refine mr_seg 1 (pc1 := 19) (ls1 := [some (.ref 117), some (.int (nI p)), some (.int 0), some (.int 0)]) (st1 := [.int (nI p), .int (nI o0)]) (M1 := (kSn (kr (he, ke, ki, fi, fa, [o0, o1, p, o3, o4], 5, a, g, l, w, s)))) (fun f => rfl) ?_
  refine mr_f (C := (nI o0) = (nI p)) (fun e => q0 ((nI_eq (by omega) (by omega)).mp e)) (fun f => rfl) ?_
  refine mr_seg 6 (pc1 := 32) (ls1 := [some (.ref 117), some (.int (nI p)), some (.int 0), some (.int 0)]) (st1 := [.int 0, .ref 123, .int 0, .ref 123]) (M1 := (kSn (kr (he, ke, ki, fi, fa, [o0, o1, p, o3, o4], 5, a, g, l, w, s)))) (fun f => rfl) ?_
  refine mr_ldn (xs := ([o0, o1, p, o3, o4].map nI)) rfl rfl (k := 0) (by decide) rfl ?_
  refine mr_stn (xs := ([o0, o1, p, o3, o4].map nI)) (ys := ([o0, o1, p, o3, o4].map nI)) (M2 := (kSn (kr (he, ke, ki, fi, fa, [o0, o1, p, o3, o4], 5, a, g, l, w, s)))) rfl rfl (k := 0) (by decide) (by simp) rfl rfl ?_
  refine mr_seg 10 (pc1 := 17) (ls1 := [some (.ref 117), some (.int (nI p)), some (.int 1), some (.int 1)]) (st1 := [.int 1, .ref 123]) (M1 := (kSn (kr (he, ke, ki, fi, fa, [o0, o1, p, o3, o4], 5, a, g, l, w, s)))) (fun f => rfl) ?_
  refine mr_ldn (xs := ([o0, o1, p, o3, o4].map nI)) rfl rfl (k := 1) (by decide) rfl ?_
  refine mr_seg 1 (pc1 := 19) (ls1 := [some (.ref 117), some (.int (nI p)), some (.int 1), some (.int 1)]) (st1 := [.int (nI p), .int (nI o1)]) (M1 := (kSn (kr (he, ke, ki, fi, fa, [o0, o1, p, o3, o4], 5, a, g, l, w, s)))) (fun f => rfl) ?_
  refine mr_f (C := (nI o1) = (nI p)) (fun e => q1 ((nI_eq (by omega) (by omega)).mp e)) (fun f => rfl) ?_
  refine mr_seg 6 (pc1 := 32) (ls1 := [some (.ref 117), some (.int (nI p)), some (.int 1), some (.int 1)]) (st1 := [.int 1, .ref 123, .int 1, .ref 123]) (M1 := (kSn (kr (he, ke, ki, fi, fa, [o0, o1, p, o3, o4], 5, a, g, l, w, s)))) (fun f => rfl) ?_
  refine mr_ldn (xs := ([o0, o1, p, o3, o4].map nI)) rfl rfl (k := 1) (by decide) rfl ?_
  refine mr_stn (xs := ([o0, o1, p, o3, o4].map nI)) (ys := ([o0, o1, p, o3, o4].map nI)) (M2 := (kSn (kr (he, ke, ki, fi, fa, [o0, o1, p, o3, o4], 5, a, g, l, w, s)))) rfl rfl (k := 1) (by decide) (by simp) rfl rfl ?_
  refine mr_seg 10 (pc1 := 17) (ls1 := [some (.ref 117), some (.int (nI p)), some (.int 2), some (.int 2)]) (st1 := [.int 2, .ref 123]) (M1 := (kSn (kr (he, ke, ki, fi, fa, [o0, o1, p, o3, o4], 5, a, g, l, w, s)))) (fun f => rfl) ?_
  refine mr_ldn (xs := ([o0, o1, p, o3, o4].map nI)) rfl rfl (k := 2) (by decide) rfl ?_
  refine mr_seg 1 (pc1 := 19) (ls1 := [some (.ref 117), some (.int (nI p)), some (.int 2), some (.int 2)]) (st1 := [.int (nI p), .int (nI p)]) (M1 := (kSn (kr (he, ke, ki, fi, fa, [o0, o1, p, o3, o4], 5, a, g, l, w, s)))) (fun f => rfl) ?_
  refine mr_t (C := (nI p) = (nI p)) (rfl) (fun f => rfl) ?_
  refine mr_seg 9 (pc1 := 17) (ls1 := [some (.ref 117), some (.int (nI p)), some (.int 2), some (.int 3)]) (st1 := [.int 3, .ref 123]) (M1 := (kSn (kr (he, ke, ki, fi, fa, [o0, o1, p, o3, o4], 5, a, g, l, w, s)))) (fun f => rfl) ?_
  refine mr_ldn (xs := ([o0, o1, p, o3, o4].map nI)) rfl rfl (k := 3) (by decide) rfl ?_
  refine mr_seg 1 (pc1 := 19) (ls1 := [some (.ref 117), some (.int (nI p)), some (.int 2), some (.int 3)]) (st1 := [.int (nI p), .int (nI o3)]) (M1 := (kSn (kr (he, ke, ki, fi, fa, [o0, o1, p, o3, o4], 5, a, g, l, w, s)))) (fun f => rfl) ?_
  refine mr_f (C := (nI o3) = (nI p)) (fun e => q3 ((nI_eq (by omega) (by omega)).mp e)) (fun f => rfl) ?_
  refine mr_seg 6 (pc1 := 32) (ls1 := [some (.ref 117), some (.int (nI p)), some (.int 2), some (.int 3)]) (st1 := [.int 3, .ref 123, .int 2, .ref 123]) (M1 := (kSn (kr (he, ke, ki, fi, fa, [o0, o1, p, o3, o4], 5, a, g, l, w, s)))) (fun f => rfl) ?_
  refine mr_ldn (xs := ([o0, o1, p, o3, o4].map nI)) rfl rfl (k := 3) (by decide) rfl ?_
  refine mr_stn (xs := ([o0, o1, p, o3, o4].map nI)) (ys := ([o0, o1, o3, o3, o4].map nI)) (M2 := (kSn (kr (he, ke, ki, fi, fa, [o0, o1, o3, o3, o4], 5, a, g, l, w, s)))) rfl rfl (k := 2) (by decide) (by simp) rfl rfl ?_
  refine mr_seg 10 (pc1 := 17) (ls1 := [some (.ref 117), some (.int (nI p)), some (.int 3), some (.int 4)]) (st1 := [.int 4, .ref 123]) (M1 := (kSn (kr (he, ke, ki, fi, fa, [o0, o1, o3, o3, o4], 5, a, g, l, w, s)))) (fun f => rfl) ?_
  refine mr_ldn (xs := ([o0, o1, o3, o3, o4].map nI)) rfl rfl (k := 4) (by decide) rfl ?_
  refine mr_seg 1 (pc1 := 19) (ls1 := [some (.ref 117), some (.int (nI p)), some (.int 3), some (.int 4)]) (st1 := [.int (nI p), .int (nI o4)]) (M1 := (kSn (kr (he, ke, ki, fi, fa, [o0, o1, o3, o3, o4], 5, a, g, l, w, s)))) (fun f => rfl) ?_
  refine mr_f (C := (nI o4) = (nI p)) (fun e => q4 ((nI_eq (by omega) (by omega)).mp e)) (fun f => rfl) ?_
  refine mr_seg 6 (pc1 := 32) (ls1 := [some (.ref 117), some (.int (nI p)), some (.int 3), some (.int 4)]) (st1 := [.int 4, .ref 123, .int 3, .ref 123]) (M1 := (kSn (kr (he, ke, ki, fi, fa, [o0, o1, o3, o3, o4], 5, a, g, l, w, s)))) (fun f => rfl) ?_
  refine mr_ldn (xs := ([o0, o1, o3, o3, o4].map nI)) rfl rfl (k := 4) (by decide) rfl ?_
  refine mr_stn (xs := ([o0, o1, o3, o3, o4].map nI)) (ys := ([o0, o1, o3, o4, o4].map nI)) (M2 := (kSn (kr (he, ke, ki, fi, fa, [o0, o1, o3, o4, o4], 5, a, g, l, w, s)))) rfl rfl (k := 3) (by decide) (by simp) rfl rfl ?_
  refine mr_seg 15 (pc1 := 57) (ls1 := [some (.ref 117), some (.int (nI p)), some (.int 4), some (.int 5)]) (st1 := [.int (nI p), .int 4, .ref 123]) (M1 := (kSn (kr (he, ke, ki, fi, fa, [o0, o1, o3, o4, o4], 5, a, g, l, w, s)))) (fun f => rfl) ?_
  refine mr_stn (xs := ([o0, o1, o3, o4, o4].map nI)) (ys := ([o0, o1, o3, o4, p].map nI)) (M2 := (kSn (kr (he, ke, ki, fi, fa, [o0, o1, o3, o4, p], 5, a, g, l, w, s)))) rfl rfl (k := 4) (by decide) (by simp) rfl rfl ?_
  refine mr_eq (mr_ret 1 (o := (none, (kSn (kr (he, ke, ki, fi, fa, [o0, o1, o3, o4, p], 5, a, g, l, w, s))))) (fun f => rfl)) ?_
  have e : klast [o0, o1, p, o3, o4] 5 p = [o0, o1, o3, o4, p] := by simp [klast, q0, q1, q3, q4]
  rw [e]
set_option maxRecDepth 100000 in
theorem kc_last_n_5_3 (he ke ki fi fa : List Nat) (a g l w s p o0 o1 o2 o4 : Nat) (q0 : ¬ o0 = p) (q1 : ¬ o1 = p) (q2 : ¬ o2 = p) (q4 : ¬ o4 = p) (hp : p < 5) (b0 : o0 < 5) (b1 : o1 < 5) (b2 : o2 < 5) (b4 : o4 < 5) : mm_R 42 0 [some (.ref 117), some (.int (nI p)), none, none] [] (kSn (kr (he, ke, ki, fi, fa, [o0, o1, o2, p, o4], 5, a, g, l, w, s))) (none, kSn (kr (he, ke, ki, fi, fa, klast [o0, o1, o2, p, o4] 5 p, 5, a, g, l, w, s))) := by
  refine mr_seg 11 (pc1 := 17) (ls1 := [some (.ref 117), some (.int (nI p)), some (.int 0), some (.int 0)]) (st1 := [.int 0, .ref 123]) (M1 := (kSn (kr (he, ke, ki, fi, fa, [o0, o1, o2, p, o4], 5, a, g, l, w, s)))) (fun f => rfl) ?_
  refine mr_ldn (xs := ([o0, o1, o2, p, o4].map nI)) rfl rfl (k := 0) (by decide) rfl ?_
  refine mr_seg 1 (pc1 := 19) (ls1 := [some (.ref 117), some (.int (nI p)), some (.int 0), some (.int 0)]) (st1 := [.int (nI p), .int (nI o0)]) (M1 := (kSn (kr (he, ke, ki, fi, fa, [o0, o1, o2, p, o4], 5, a, g, l, w, s)))) (fun f => rfl) ?_
  refine mr_f (C := (nI o0) = (nI p)) (fun e => q0 ((nI_eq (by omega) (by omega)).mp e)) (fun f => rfl) ?_
  refine mr_seg 6 (pc1 := 32) (ls1 := [some (.ref 117), some (.int (nI p)), some (.int 0), some (.int 0)]) (st1 := [.int 0, .ref 123, .int 0, .ref 123]) (M1 := (kSn (kr (he, ke, ki, fi, fa, [o0, o1, o2, p, o4], 5, a, g, l, w, s)))) (fun f => rfl) ?_
  refine mr_ldn (xs := ([o0, o1, o2, p, o4].map nI)) rfl rfl (k := 0) (by decide) rfl ?_
  refine mr_stn (xs := ([o0, o1, o2, p, o4].map nI)) (ys := ([o0, o1, o2, p, o4].map nI)) (M2 := (kSn (kr (he, ke, ki, fi, fa, [o0, o1, o2, p, o4], 5, a, g, l, w, s)))) rfl rfl (k := 0) (by decide) (by simp) rfl rfl ?_
  refine mr_seg 10 (pc1 := 17) (ls1 := [some (.ref 117), some (.int (nI p)), some (.int 1), some (.int 1)]) (st1 := [.int 1, .ref 123]) (M1 := (kSn (kr (he, ke, ki, fi, fa, [o0, o1, o2, p, o4], 5, a, g, l, w, s)))) (fun f => rfl) ?_
  refine mr_ldn (xs := ([o0, o1, o2, p, o4].map nI)) rfl rfl (k := 1) (by decide) rfl ?_
  refine mr_seg 1 (pc1 := 19) (ls1 := [some (.ref 117), some (.int (nI p)), some (.int 1), some (.int 1)]) (st1 := [.int (nI p), .int (nI o1)]) (M1 := (kSn (kr (he, ke, ki, fi, fa, [o0, o1, o2, p, o4], 5, a, g, l, w, s)))) (fun f => rfl) ?_
  refine mr_f (C := (nI o1) = (nI p)) (fun e => q1 ((nI_eq (by omega) (by omega)).mp e)) (fun f => rfl) ?_
  refine mr_seg 6 (pc1 := 32) (ls1 := [some (.ref 117), some (.int (nI p)), some (.int 1), some (.int 1)]) (st1 := [.int 1, .ref 123, .int 1, .ref 123]) (M1 := (kSn (kr (he, ke, ki, fi, fa, [o0, o1, o2, p, o4], 5, a, g, l, w, s)))) (fun f => rfl) ?_
  refine mr_ldn (xs := ([o0, o1, o2, p, o4].map nI)) rfl rfl (k := 1) (by decide) rfl ?_
  refine mr_stn (xs := ([o0, o1, o2, p, o4].map nI)) (ys := ([o0, o1, o2, p, o4].map nI)) (M2 := (kSn (kr (he, ke, ki, fi, fa, [o0, o1, o2, p, o4], 5, a, g, l, w, s)))) rfl rfl (k := 1) (by decide) (by simp) rfl rfl ?_
  refine mr_seg 10 (pc1 := 17) (ls1 := [some (.ref 117), some (.int (nI p)), some (.int 2), some (.int 2)]) (st1 := [.int 2, .ref 123]) (M1 := (kSn (kr (he, ke, ki, fi, fa, [o0, o1, o2, p, o4], 5, a, g, l, w, s)))) (fun f => rfl) ?_
  refine mr_ldn (xs := ([o0, o1, o2, p, o4].map nI)) rfl rfl (k := 2) (by decide) rfl ?_
  refine mr_seg 1 (pc1 := 19) (ls1 := [some (.ref 117), some (.int (nI p)), some (.int 2), some (.int 2)]) (st1 := [.int (nI p), .int (nI o2)]) (M1 := (kSn (kr (he, ke, ki, fi, fa, [o0, o1, o2, p, o4], 5, a, g, l, w, s)))) (fun f => rfl) ?_
  refine mr_f (C := (nI o2) = (nI p)) (fun e => q2 ((nI_eq (by omega) (by omega)).mp e)) (fun f => rfl) ?_
  refine mr_seg 6 (pc1 := 32) (ls1 := [some (.ref 117), some (.int (nI p)), some (.int 2), some (.int 2)]) (st1 := [.int 2, .ref 123, .int 2, .ref 123]) (M1 := (kSn (kr (he, ke, ki, fi, fa, [o0, o1, o2, p, o4], 5, a, g, l, w, s)))) (fun f => rfl) ?_
  refine mr_ldn (xs := ([o0, o1, o2, p, o4].map nI)) rfl rfl (k := 2) (by decide) rfl ?_
  refine mr_stn (xs := ([o0, o1, o2, p, o4].map nI)) (ys := ([o0, o1, o2, p, o4].map nI)) (M2 := (kSn (kr (he, ke, ki, fi, fa, [o0, o1, o2, p, o4], 5, a, g, l, w, s)))) rfl rfl (k := 2) (by decide) (by simp) rfl rfl ?_
  refine mr_seg 10 (pc1 := 17) (ls1 := [some (.ref 117), some (.int (nI p)), some (.int 3), some (.int 3)]) (st1 := [.int 3, .ref 123]) (M1 := (kSn (kr (he, ke, ki, fi, fa, [o0, o1, o2, p, o4], 5, a, g, l, w, s)))) (fun f => rfl) ?_
  refine mr_ldn (xs := ([o0, o1, o2, p, o4].map nI)) rfl rfl (k := 3) (by decide) rfl ?_
  refine mr_seg 1 (pc1 := 19) (ls1 := [some (.ref 117), some (.int (nI p)), some (.int 3), some (.int 3)]) (st1 := [.int (nI p), .int (nI p)]) (M1 := (kSn (kr (he, ke, ki, fi, fa, [o0, o1, o2, p, o4], 5, a, g, l, w, s)))) (fun f => rfl) ?_
  refine mr_t (C := (nI p) = (nI p)) (rfl) (fun f => rfl) ?_
  refine mr_seg 9 (pc1 := 17) (ls1 := [some (.ref 117), some (.int (nI p)), some (.int 3), some (.int 4)]) (st1 := [.int 4, .ref 123]) (M1 := (kSn (kr (he, ke, ki, fi, fa, [o0, o1, o2, p, o4], 5, a, g, l, w, s)))) (fun f => rfl) ?_
  refine mr_ldn (xs := ([o0, o1, o2, p, o4].map nI)) rfl rfl (k := 4) (by decide) rfl ?_
  refine mr_seg 1 (pc1 := 19) (ls1 := [some (.ref 117), some (.int (nI p)), some (.int 3), some (.int 4)]) (st1 := [.int (nI p), .int (nI o4)]) (M1 := (kSn (kr (he, ke, ki, fi, fa, [o0, o1, o2, p, o4], 5, a, g, l, w, s)))) (fun f => rfl) ?_
  refine mr_f (C := (nI o4) = (nI p)) (fun e => q4 ((nI_eq (by omega) (by omega)).mp e)) (fun f => rfl) ?_
  refine mr_seg 6 (pc1 := 32) (ls1 := [some (.ref 117), some (.int (nI p)), some (.int 3), some (.int 4)]) (st1 := [.int 4, .ref 123, .int 3, .ref 123]) (M1 := (kSn (kr (he, ke, ki, fi, fa, [o0, o1, o2, p, o4], 5, a, g, l, w, s)))) (fun f => rfl) ?_
  refine mr_ldn (xs := ([o0, o1, o2, p, o4].map nI)) rfl rfl (k := 4) (by decide) rfl ?_
  refine mr_stn (xs := ([o0, o1, o2, p, o4].map nI)) (ys := ([o0, o1, o2, o4, o4].map nI)) (M2 := (kSn (kr (he, ke, ki, fi, fa, [o0, o1, o2, o4, o4], 5, a, g, l, w, s)))) rfl rfl (k := 3) (by decide) (by simp) rfl rfl ?_
  refine mr_seg 15 (pc1 := 57) (ls1 := [some (.ref 117), some (.int (nI p)), some (.int 4), some (.int 5)]) (st1 := [.int (nI p), .int 4, .ref 123]) (M1 := (kSn (kr (he, ke, ki, fi, fa, [o0, o1, o2, o4, o4], 5, a, g, l, w, s)))) (fun f => rfl) ?_
  refine mr_stn (xs := ([o0, o1, o2, o4, o4].map nI)) (ys := ([o0, o1, o2, o4, p].map nI)) (M2 := (kSn (kr (he, ke, ki, fi, fa, [o0, o1, o2, o4, p], 5, a, g, l, w, s)))) rfl rfl (k := 4) (by decide) (by simp) rfl rfl ?_
  refine mr_eq (mr_ret 1 (o := (none, (kSn (kr (he, ke, ki, fi, fa, [o0, o1, o2, o4, p], 5, a, g, l, w, s))))) (fun f => rfl)) ?_
  have e : klast [o0, o1, o2, p, o4] 5 p = [o0, o1, o2, o4, p] := by simp [klast, q0, q1, q2, q4]
  rw [e]
set_option maxRecDepth 100000 in
theorem kc_last_n_5_4 (he ke ki fi fa : List Nat) (a g l w s p o0 o1 o2 o3 : Nat) (q0 : ¬ o0 = p) (q1 : ¬ o1 = p) (q2 : ¬ o2 = p) (q3 : ¬ o3 = p) (hp : p < 5) (b0 : o0 < 5) (b1 : o1 < 5) (b2 : o2 < 5) (b3 : o3 < 5) : mm_R 42 0 [some (.ref 117), some (.int (nI p)), none, none] [] (kSn (kr (he, ke, ki, fi, fa, [o0, o1, o2, o3, p], 5, a, g, l, w, s))) (none, kSn (kr (he, ke, ki, fi, fa, klast [o0, o1, o2, o3, p] 5 p, 5, a, g, l, w, s))) := by
  refine mr_seg 11 (pc1 := 17) (ls1 := [some (.ref 117), some (.int (nI p)), some (.int 0), some (.int 0)]) (st1 := [.int 0, .ref 123]) (M1 := (kSn (kr (he, ke, ki, fi, fa, [o0, o1, o2, o3, p], 5, a, g, l, w, s)))) (fun f => rfl) ?_
  refine mr_ldn (xs := ([o0, o1, o2, o3, p].map nI)) rfl rfl (k := 0) (by decide) rfl ?_
  refine mr_seg 1 (pc1 := 19) (ls1 := [some (.ref 117), some (.int (nI p)), some (.int 0), some (.int 0)]) (st1 := [.int (nI p), .int (nI o0)]) (M1 := (kSn (kr (he, ke, ki, fi, fa, [o0, o1, o2, o3, p], 5, a, g, l, w, s)))) (fun f => rfl) ?_
  refine mr_f (C := (nI o0) = (nI p)) (fun e => q0 ((nI_eq (by omega) (by omega)).mp e)) (fun f => rfl) ?_
  refine mr_seg 6 (pc1 := 32) (ls1 := [some (.ref 117), some (.int (nI p)), some (.int 0), some (.int 0)]) (st1 := [.int 0, .ref 123, .int 0, .ref 123]) (M1 := (kSn (kr (he, ke, ki, fi, fa, [o0, o1, o2, o3, p], 5, a, g, l, w, s)))) (fun f => rfl) ?_
  refine mr_ldn (xs := ([o0, o1, o2, o3, p].map nI)) rfl rfl (k := 0) (by decide) rfl ?_
  refine mr_stn (xs := ([o0, o1, o2, o3, p].map nI)) (ys := ([o0, o1, o2, o3, p].map nI)) (M2 := (kSn (kr (he, ke, ki, fi, fa, [o0, o1, o2, o3, p], 5, a, g, l, w, s)))) rfl rfl (k := 0) (by decide) (by simp) rfl rfl ?_
  refine mr_seg 10 (pc1 := 17) (ls1 := [some (.ref 117), some (.int (nI p)), some (.int 1), some (.int 1)]) (st1 := [.int 1, .ref 123]) (M1 := (kSn (kr (he, ke, ki, fi, fa, [o0, o1, o2, o3, p], 5, a, g, l, w, s)))) (fun f => rfl) ?_
  refine mr_ldn (xs := ([o0, o1, o2, o3, p].map nI)) rfl rfl (k := 1) (by decide) rfl ?_
  refine mr_seg 1 (pc1 := 19) (ls1 := [some (.ref 117), some (.int (nI p)), some (.int 1), some (.int 1)]) (st1 := [.int (nI p), .int (nI o1)]) (M1 := (kSn (kr (he, ke, ki, fi, fa, [o0, o1, o2, o3, p], 5, a, g, l, w, s)))) (fun f => rfl) ?_
  refine mr_f (C := (nI o1) = (nI p)) (fun e => q1 ((nI_eq (by omega) (by omega)).mp e)) (fun f => rfl) ?_
  refine mr_seg 6 (pc1 := 32) (ls1 := [some (.ref 117), some (.int (nI p)), some (.int 1), some (.int 1)]) (st1 := [.int 1, .ref 123, .int 1, .ref 123]) (M1 := (kSn (kr (he, ke, ki, fi, fa, [o0, o1, o2, o3, p], 5, a, g, l, w, s)))) (fun f => rfl) ?_
  refine mr_ldn (xs := ([o0, o1, o2, o3, p].map nI)) rfl rfl (k := 1) (by decide) rfl ?_
  refine mr_stn (xs := ([o0, o1, o2, o3, p].map nI)) (ys := ([o0, o1, o2, o3, p].map nI)) (M2 := (kSn (kr (he, ke, ki, fi, fa, [o0, o1, o2, o3, p], 5, a, g, l, w, s)))) rfl rfl (k := 1) (by decide) (by simp) rfl rfl ?_
  refine mr_seg 10 (pc1 := 17) (ls1 := [some (.ref 117), some (.int (nI p)), some (.int 2), some (.int 2)]) (st1 := [.int 2, .ref 123]) (M1 := (kSn (kr (he, ke, ki, fi, fa, [o0, o1, o2, o3, p], 5, a, g, l, w, s)))) (fun f => rfl) ?_
  refine mr_ldn (xs := ([o0, o1, o2, o3, p].map nI)) rfl rfl (k := 2) (by decide) rfl ?_
  refine mr_seg 1 (pc1 := 19) (ls1 := [some (.ref 117), some (.int (nI p)), some (.int 2), some (.int 2)]) (st1 := [.int (nI p), .int (nI o2)]) (M1 := (kSn (kr (he, ke, ki, fi, fa, [o0, o1, o2, o3, p], 5, a, g, l, w, s)))) (fun f => rfl) ?_
  refine mr_f (C := (nI o2) = (nI p)) (fun e => q2 ((nI_eq (by omega) (by omega)).mp e)) (fun f => rfl) ?_
  refine mr_seg 6 (pc1 := 32) (ls1 := [some (.ref 117), some (.int (nI p)), some (.int 2), some (.int 2)]) (st1 := [.int 2, .ref 123, .int 2, .ref 123]) (M1 := (kSn (kr (he, ke, ki, fi, fa, [o0, o1, o2, o3, p], 5, a, g, l, w, s)))) (fun f => rfl) ?_
  refine mr_ldn (xs := ([o0, o1, o2, o3, p].map nI)) rfl rfl (k := 2) (by decide) rfl ?_
  refine mr_stn (xs := ([o0, o1, o2, o3, p].map nI)) (ys := ([o0, o1, o2, o3, p].map nI)) (M2 := (kSn (kr (he, ke, ki, fi, fa, [o0, o1, o2, o3, p], 5, a, g, l, w, s)))) rfl rfl (k := 2) (by decide) (by simp) rfl rfl ?_
  refine mr_seg 10 (pc1 := 17) (ls1 := [some (.ref 117), some (.int (nI p)), some (.int 3), some (.int 3)]) (st1 := [.int 3, .ref 123]) (M1 := (kSn (kr (he, ke, ki, fi, fa, [o0, o1, o2, o3, p], 5, a, g, l, w, s)))) (fun f => rfl) ?_
  refine mr_ldn (xs := ([o0, o1, o2, o3, p].map nI)) rfl rfl (k := 3) (by decide) rfl ?_
  refine mr_seg 1 (pc1 := 19) (ls1 := [some (.ref 117), some (.int (nI p)), some (.int 3), some (.int 3)]) (st1 := [.int (nI p), .int (nI o3)]) (M1 := (kSn (kr (he, ke, ki, fi, fa, [o0, o1, o2, o3, p], 5, a, g, l, w, s)))) (fun f => rfl) ?_
  refine mr_f (C := (nI o3) = (nI p)) (fun e => q3 ((nI_eq (by omega) (by omega)).mp e)) (fun f => rfl) ?_
  refine mr_seg 6 (pc1 := 32) (ls1 := [some (.ref 117), some (.int (nI p)), some (.int 3), some (.int 3)]) (st1 := [.int 3, .ref 123, .int 3, .ref 123]) (M1 := (kSn (kr (he, ke, ki, fi, fa, [o0, o1, o2, o3, p], 5, a, g, l, w, s)))) (fun f => rfl) ?_
  refine mr_ldn (xs := ([o0, o1, o2, o3, p].map nI)) rfl rfl (k := 3) (by decide) rfl ?_
  refine mr_stn (xs := ([o0, o1, o2, o3, p].map nI)) (ys := ([o0, o1, o2, o3, p].map nI)) (M2 := (kSn (kr (he, ke, ki, fi, fa, [o0, o1, o2, o3, p], 5, a, g, l, w, s)))) rfl rfl (k := 3) (by decide) (by simp) rfl rfl ?_
  refine mr_seg 10 (pc1 := 17) (ls1 := [some (.ref 117), some (.int (nI p)), some (.int 4), some (.int 4)]) (st1 := [.int 4, .ref 123]) (M1 := (kSn (kr (he, ke, ki, fi, fa, [o0, o1, o2, o3, p], 5, a, g, l, w, s)))) (fun f => rfl) ?_
  refine mr_ldn (xs := ([o0, o1, o2, o3, p].map nI)) rfl rfl (k := 4) (by decide) rfl ?_
  refine mr_seg 1 (pc1 := 19) (ls1 := [some (.ref 117), some (.int (nI p)), some (.int 4), some (.int 4)]) (st1 := [.int (nI p), .int (nI p)]) (M1 := (kSn (kr (he, ke, ki, fi, fa, [o0, o1, o2, o3, p], 5, a, g, l, w, s)))) (fun f => rfl) ?_
  refine mr_t (C := (nI p) = (nI p)) (rfl) (fun f => rfl) ?_
  refine mr_seg 14 (pc1 := 57) (ls1 := [some (.ref 117), some (.int (nI p)), some (.int 4), some (.int 5)]) (st1 := [.int (nI p), .int 4, .ref 123]) (M1 := (kSn (kr (he, ke, ki, fi, fa, [o0, o1, o2, o3, p], 5, a, g, l, w, s)))) (fun f => rfl) ?_
  refine mr_stn (xs := ([o0, o1, o2, o3, p].map nI)) (ys := ([o0, o1, o2, o3, p].map nI)) (M2 := (kSn (kr (he, ke, ki, fi, fa, [o0, o1, o2, o3, p], 5, a, g, l, w, s)))) rfl rfl (k := 4) (by decide) (by simp) rfl rfl ?_
  refine mr_eq (mr_ret 1 (o := (none, (kSn (kr (he, ke, ki, fi, fa, [o0, o1, o2, o3, p], 5, a, g, l, w, s))))) (fun f => rfl)) ?_
  have e : klast [o0, o1, o2, o3, p] 5 p = [o0, o1, o2, o3, p] := by simp [klast, q0, q1, q2, q3]
  rw [e]
theorem kc_last_n (he ke ki fi fa or : List Nat) (mi a g l w s : Nat) (p : Nat) (hp : p < mi) (hO : or ∈ kOl mi) (hm : mi ≤ 5) : mm_R 42 0 [some (.ref 117), some (.int (nI p)), none, none] [] (kSn (kr (he, ke, ki, fi, fa, or, mi, a, g, l, w, s))) (none, kSn (kr (he, ke, ki, fi, fa, klast or mi p, mi, a, g, l, w, s))) := by
  obtain ⟨j, hj, hp1, hp2⟩ := kO_pos mi hm or hO p hp
  have hl := kO_len mi hm or hO
  have h5 : ∀ i, i < 5 → kg or i < 5 := kO_lt5 mi hm or hO
  match or, hl with
  | [o0, o1, o2, o3, o4], _ =>
    have b0 : o0 < 5 := h5 0 (by omega)
    have b1 : o1 < 5 := h5 1 (by omega)
    have b2 : o2 < 5 := h5 2 (by omega)
    have b3 : o3 < 5 := h5 3 (by omega)
    have b4 : o4 < 5 := h5 4 (by omega)
    match mi, j, hj, hm with
    | 1, 0, _, _ => cases hp1; exact kc_last_n_1_0 he ke ki fi fa a g l w s o0 o1 o2 o3 o4  b0 b1 b2 b3 b4
    | 2, 0, _, _ => cases hp1; exact kc_last_n_2_0 he ke ki fi fa a g l w s o0 o1 o2 o3 o4 (hp2 1 (by omega) (by omega)) b0 b1 b2 b3 b4
    | 2, 1, _, _ => cases hp1; exact kc_last_n_2_1 he ke ki fi fa a g l w s o1 o0 o2 o3 o4 (hp2 0 (by omega) (by omega)) b1 b0 b2 b3 b4
    | 3, 0, _, _ => cases hp1; exact kc_last_n_3_0 he ke ki fi fa a g l w s o0 o1 o2 o3 o4 (hp2 1 (by omega) (by omega)) (hp2 2 (by omega) (by omega)) b0 b1 b2 b3 b4
    | 3, 1, _, _ => cases hp1; exact kc_last_n_3_1 he ke ki fi fa a g l w s o1 o0 o2 o3 o4 (hp2 0 (by omega) (by omega)) (hp2 2 (by omega) (by omega)) b1 b0 b2 b3 b4
    | 3, 2, _, _ => cases hp1; exact kc_last_n_3_2 he ke ki fi fa a g l w s o2 o0 o1 o3 o4 (hp2 0 (by omega) (by omega)) (hp2 1 (by omega) (by omega)) b2 b0 b1 b3 b4
    | 4, 0, _, _ => cases hp1; exact kc_last_n_4_0 he ke ki fi fa a g l w s o0 o1 o2 o3 o4 (hp2 1 (by omega) (by omega)) (hp2 2 (by omega) (by omega)) (hp2 3 (by omega) (by omega)) b0 b1 b2 b3 b4
    | 4, 1, _, _ => cases hp1; exact kc_last_n_4_1 he ke ki fi fa a g l w s o1 o0 o2 o3 o4 (hp2 0 (by omega) (by omega)) (hp2 2 (by omega) (by omega)) (hp2 3 (by omega) (by omega)) b1 b0 b2 b3 b4
    | 4, 2, _, _ => cases hp1; exact kc_last_n_4_2 he ke ki fi fa a g l w s o2 o0 o1 o3 o4 (hp2 0 (by omega) (by omega)) (hp2 1 (by omega) (by omega)) (hp2 3 (by omega) (by omega)) b2 b0 b1 b3 b4
    | 4, 3, _, _ => cases hp1; exact kc_last_n_4_3 he ke ki fi fa a g l w s o3 o0 o1 o2 o4 (hp2 0 (by omega) (by omega)) (hp2 1 (by omega) (by omega)) (hp2 2 (by omega) (by omega)) b3 b0 b1 b2 b4
    | 5, 0, _, _ => cases hp1; exact kc_last_n_5_0 he ke ki fi fa a g l w s o0 o1 o2 o3 o4 (hp2 1 (by omega) (by omega)) (hp2 2 (by omega) (by omega)) (hp2 3 (by omega) (by omega)) (hp2 4 (by omega) (by omega)) b0 b1 b2 b3 b4
    | 5, 1, _, _ => cases hp1; exact kc_last_n_5_1 he ke ki fi fa a g l w s o1 o0 o2 o3 o4 (hp2 0 (by omega) (by omega)) (hp2 2 (by omega) (by omega)) (hp2 3 (by omega) (by omega)) (hp2 4 (by omega) (by omega)) b1 b0 b2 b3 b4
    | 5, 2, _, _ => cases hp1; exact kc_last_n_5_2 he ke ki fi fa a g l w s o2 o0 o1 o3 o4 (hp2 0 (by omega) (by omega)) (hp2 1 (by omega) (by omega)) (hp2 3 (by omega) (by omega)) (hp2 4 (by omega) (by omega)) b2 b0 b1 b3 b4
    | 5, 3, _, _ => cases hp1; exact kc_last_n_5_3 he ke ki fi fa a g l w s o3 o0 o1 o2 o4 (hp2 0 (by omega) (by omega)) (hp2 1 (by omega) (by omega)) (hp2 2 (by omega) (by omega)) (hp2 4 (by omega) (by omega)) b3 b0 b1 b2 b4
    | 5, 4, _, _ => cases hp1; exact kc_last_n_5_4 he ke ki fi fa a g l w s o4 o0 o1 o2 o3 (hp2 0 (by omega) (by omega)) (hp2 1 (by omega) (by omega)) (hp2 2 (by omega) (by omega)) (hp2 3 (by omega) (by omega)) b4 b0 b1 b2 b3
    | mi, j + 5, hj, hm => exact absurd hj (by omega)
    | mi + 6, _, _, hm => exact absurd hm (by omega)
    | 0, 0, hj, _ => exact absurd hj (by omega)
    | 0, 1, hj, _ => exact absurd hj (by omega)
    | 0, 2, hj, _ => exact absurd hj (by omega)
    | 0, 3, hj, _ => exact absurd hj (by omega)
    | 0, 4, hj, _ => exact absurd hj (by omega)
    | 1, 1, hj, _ => exact absurd hj (by omega)
    | 1, 2, hj, _ => exact absurd hj (by omega)
    | 1, 3, hj, _ => exact absurd hj (by omega)
    | 1, 4, hj, _ => exact absurd hj (by omega)
    | 2, 2, hj, _ => exact absurd hj (by omega)
    | 2, 3, hj, _ => exact absurd hj (by omega)
    | 2, 4, hj, _ => exact absurd hj (by omega)
    | 3, 3, hj, _ => exact absurd hj (by omega)
    | 3, 4, hj, _ => exact absurd hj (by omega)
    | 4, 4, hj, _ => exact absurd hj (by omega)
set_option maxRecDepth 100000 in
theorem kc_place_1_0 (he ke ki fi fa : List Nat) (a g l w s p o1 o2 o3 o4 : Nat) (hp : p < 5) (b1 : o1 < 5) (b2 : o2 < 5) (b3 : o3 < 5) (b4 : o4 < 5) : mm_R 62 0 [some (.ref 117), some (.int (nI p)), none] [] (kSn (kr (he, ke, ki, fi, fa, [p, o1, o2, o3, o4], 1, a, g, l, w, s))) (some (.int 0), kSn (kr (he, ke, ki, fi, fa, [p, o1, o2, o3, o4], 1, a, g, l, w, s))) := by
  refine mr_seg 9 (pc1 := 15) (ls1 := [some (.ref 117), some (.int (nI p)), some (.int 0)]) (st1 := [.int 0, .ref 123]) (M1 := (kSn (kr (he, ke, ki, fi, fa, [p, o1, o2, o3, o4], 1, a, g, l, w, s)))) (fun f => rfl) ?_
  refine mr_ldn (xs := ([p, o1, o2, o3, o4].map nI)) rfl rfl (k := 0) (by decide) rfl ?_
  refine mr_seg 1 (pc1 := 17) (ls1 := [some (.ref 117), some (.int (nI p)), some (.int 0)]) (st1 := [.int (nI p), .int (nI p)]) (M1 := (kSn (kr (he, ke, ki, fi, fa, [p, o1, o2, o3, o4], 1, a, g, l, w, s)))) (fun f => rfl) ?_
  refine mr_t (C := (nI p) = (nI p)) (rfl) (fun f => rfl) ?_
  exact mr_ret 2 (fun f => rfl)
set_option maxRecDepth 100000 in
theorem kc_place_2_0 (he ke ki fi fa : List Nat) (a g l w s p o1 o2 o3 o4 : Nat) (hp : p < 5) (b1 : o1 < 5) (b2 : o2 < 5) (b3 : o3 < 5) (b4 : o4 < 5) : mm_R 62 0 [some (.ref 117), some (.int (nI p)), none] [] (kSn (kr (he, ke, ki, fi, fa, [p, o1, o2, o3, o4], 2, a, g, l, w, s))) (some (.int 0), kSn (kr (he, ke, ki, fi, fa, [p, o1, o2, o3, o4], 2, a, g, l, w, s))) := by
  refine mr_seg 9 (pc1 := 15) (ls1 := [some (.ref 117), some (.int (nI p)), some (.int 0)]) (st1 := [.int 0, .ref 123]) (M1 := (kSn (kr (he, ke, ki, fi, fa, [p, o1, o2, o3, o4], 2, a, g, l, w, s)))) (fun f => rfl) ?_
  refine mr_ldn (xs := ([p, o1, o2, o3, o4].map nI)) rfl rfl (k := 0) (by decide) rfl ?_
  refine mr_seg 1 (pc1 := 17) (ls1 := [some (.ref 117), some (.int (nI p)), some (.int 0)]) (st1 := [.int (nI p), .int (nI p)]) (M1 := (kSn (kr (he, ke, ki, fi, fa, [p, o1, o2, o3, o4], 2, a, g, l, w, s)))) (fun f => rfl) ?_
  refine mr_t (C := (nI p) = (nI p)) (rfl) (fun f => rfl) ?_
  exact mr_ret 2 (fun f => rfl)
set_option maxRecDepth 100000 in
theorem kc_place_2_1 (he ke ki fi fa : List Nat) (a g l w s p o0 o2 o3 o4 : Nat) (q0 : ¬ o0 = p) (hp : p < 5) (b0 : o0 < 5) (b2 : o2 < 5) (b3 : o3 < 5) (b4 : o4 < 5) : mm_R 62 0 [some (.ref 117), some (.int (nI p)), none] [] (kSn (kr (he, ke, ki, fi, fa, [o0, p, o2, o3, o4], 2, a, g, l, w, s))) (some (.int 1), kSn (kr (he, ke, ki, fi, fa, [o0, p, o2, o3, o4], 2, a, g, l, w, s))) := by
  refine mr_seg 9 (pc1 := 15) (ls1 := [some (.ref 117), some (.int (nI p)), some (.int 0)]) (st1 := [.int 0, .ref 123]) (M1 := (kSn (kr (he, ke, ki, fi, fa, [o0, p, o2, o3, o4], 2, a, g, l, w, s)))) (fun f => rfl) ?_
  refine mr_ldn (xs := ([o0, p, o2, o3, o4].map nI)) rfl rfl (k := 0) (by decide) rfl ?_
  refine mr_seg 1 (pc1 := 17) (ls1 := [some (.ref 117), some (.int (nI p)), some (.int 0)]) (st1 := [.int (nI p), .int (nI o0)]) (M1 := (kSn (kr (he, ke, ki, fi, fa, [o0, p, o2, o3, o4], 2, a, g, l, w, s)))) (fun f => rfl) ?_
  refine mr_f (C := (nI o0) = (nI p)) (fun e => q0 ((nI_eq (by omega) (by omega)).mp e)) (fun f => rfl) ?_
  refine mr_seg 9 (pc1 := 15) (ls1 := [some (.ref 117), some (.int (nI p)), some (.int 1)]) (st1 := [.int 1, .ref 123]) (M1 := (kSn (kr (he, ke, ki, fi, fa, [o0, p, o2, o3, o4], 2, a, g, l, w, s)))) (fun f => rfl) ?_
  refine mr_ldn (xs := ([o0, p, o2, o3, o4].map nI)) rfl rfl (k := 1) (by decide) rfl ?_
  refine mr_seg 1 (pc1 := 17) (ls1 := [some (.ref 117), some (.int (nI p)), some (.int 1)]) (st1 := [.int (nI p), .int (nI p)]) (M1 := (kSn (kr (he, ke, ki, fi, fa, [o0, p, o2, o3, o4], 2, a, g, l, w, s)))) (fun f => rfl) ?_
  refine mr_t (C := (nI p) = (nI p)) (rfl) (fun f => rfl) ?_
  exact mr_ret 2 (fun f => rfl)
set_option maxRecDepth 100000 in
theorem kc_place_3_0 (he ke ki fi fa : List Nat) (a g l w s p o1 o2 o3 o4 : Nat) (hp : p < 5) (b1 : o1 < 5) (b2 : o2 < 5) (b3 : o3 < 5) (b4 : o4 < 5) : mm_R 62 0 [some (.ref 117), some (.int (nI p)), none] [] (kSn (kr (he, ke, ki, fi, fa, [p, o1, o2, o3, o4], 3, a, g, l, w, s))) (some (.int 0), kSn (kr (he, ke, ki, fi, fa, [p, o1, o2, o3, o4], 3, a, g, l, w, s))) := by
  refine mr_seg 9 (pc1 := 15) (ls1 := [some (.ref 117), some (.int (nI p)), some (.int 0)]) (st1 := [.int 0, .ref 123]) (M1 := (kSn (kr (he, ke, ki, fi, fa, [p, o1, o2, o3, o4], 3, a, g, l, w, s)))) (fun f => rfl) ?_
  refine mr_ldn (xs := ([p, o1, o2, o3, o4].map nI)) rfl rfl (k := 0) (by decide) rfl ?_
  refine mr_seg 1 (pc1 := 17) (ls1 := [some (.ref 117), some (.int (nI p)), some (.int 0)]) (st1 := [.int (nI p), .int (nI p)]) (M1 := (kSn (kr (he, ke, ki, fi, fa, [p, o1, o2, o3, o4], 3, a, g, l, w, s)))) (fun f => rfl) ?_
  refine mr_t (C := (nI p) = (nI p)) (rfl) (fun f => rfl) ?_
  exact mr_ret 2 (fun f => rfl)
set_option maxRecDepth 100000 in
theorem kc_place_3_1 (he ke ki fi fa : List Nat) (a g l w s p o0 o2 o3 o4 : Nat) (q0 : ¬ o0 = p) (hp : p < 5) (b0 : o0 < 5) (b2 : o2 < 5) (b3 : o3 < 5) (b4 : o4 < 5) : mm_R 62 0 [some (.ref 117), some (.int (nI p)), none] [] (kSn (kr (he, ke, ki, fi, fa, [o0, p, o2, o3, o4], 3, a, g, l, w, s))) (some (.int 1), kSn (kr (he, ke, ki, fi, fa, [o0, p, o2, o3, o4], 3, a, g, l, w, s))) := by
  refine mr_seg 9 (pc1 := 15) (ls1 := [some (.ref 117), some (.int (nI p)), some (.int 0)]) (st1 := [.int 0, .ref 123]) (M1 := (kSn (kr (he, ke, ki, fi, fa, [o0, p, o2, o3, o4], 3, a, g, l, w, s)))) (fun f => rfl) ?_
  refine mr_ldn (xs := ([o0, p, o2, o3, o4].map nI)) rfl rfl (k := 0) (by decide) rfl ?_
  refine mr_seg 1 (pc1 := 17) (ls1 := [some (.ref 117), some (.int (nI p)), some (.int 0)]) (st1 := [.int (nI p), .int (nI o0)]) (M1 := (kSn (kr (he, ke, ki, fi, fa, [o0, p, o2, o3, o4], 3, a, g, l, w, s)))) (fun f => rfl) ?_
  refine mr_f (C := (nI o0) = (nI p)) (fun e => q0 ((nI_eq (by omega) (by omega)).mp e)) (fun f => rfl) ?_
  refine mr_seg 9 (pc1 := 15) (ls1 := [some (.ref 117), some (.int (nI p)), some (.int 1)]) (st1 := [.int 1, .ref 123]) (M1 := (kSn (kr (he, ke, ki, fi, fa, [o0, p, o2, o3, o4], 3, a, g, l, w, s)))) (fun f => rfl) ?_
  refine mr_ldn (xs := ([o0, p, o2, o3, o4].map nI)) rfl rfl (k := 1) (by decide) rfl ?_
  refine mr_seg 1 (pc1 := 17) (ls1 := [some (.ref 117), some (.int (nI p)), some (.int 1)]) (st1 := [.int (nI p), .int (nI p)]) (M1 := (kSn (kr (he, ke, ki, fi, fa, [o0, p, o2, o3, o4], 3, a, g, l, w, s)))) (fun f => rfl) ?_
  refine mr_t (C := (nI p) = (nI p)) (rfl) (fun f => rfl) ?_
  exact mr_ret 2 (fun f => rfl)
set_option maxRecDepth 100000 in
theorem kc_place_3_2 (he ke ki fi fa : List Nat) (a g l w s p o0 o1 o3 o4 : Nat) (q0 : ¬ o0 = p) (q1 : ¬ o1 = p) (hp : p < 5) (b0 : o0 < 5) (b1 : o1 < 5) (b3 : o3 < 5) (b4 : o4 < 5) : mm_R 62 0 [some (.ref 117), some (.int (nI p)), none] [] (kSn (kr (he, ke, ki, fi, fa, [o0, o1, p, o3, o4], 3, a, g, l, w, s))) (some (.int 2), kSn (kr (he, ke, ki, fi, fa, [o0, o1, p, o3, o4], 3, a, g, l, w, s))) := by
  refine mr_seg 9 (pc1 := 15) (ls1 := [some (.ref 117), some (.int (nI p)), some (.int 0)]) (st1 := [.int 0, .ref 123]) (M1 := (kSn (kr (he, ke, ki, fi, fa, [o0, o1, p, o3, o4], 3, a, g, l, w, s)))) (fun f => rfl) ?_
  refine mr_ldn (xs := ([o0, o1, p, o3, o4].map nI)) rfl rfl (k := 0) (by decide) rfl ?_
  refine mr_seg 1 (pc1 := 17) (ls1 := [some (.ref 117), some (.int (nI p)), some (.int 0)]) (st1 := [.int (nI p), .int (nI o0)]) (M1 := (kSn (kr (he, ke, ki, fi, fa, [o0, o1, p, o3, o4], 3, a, g, l, w, s)))) (fun f => rfl) ?_
  refine mr_f (C := (nI o0) = (nI p)) (fun e => q0 ((nI_eq (by omega) (by omega)).mp e)) (fun f => rfl) ?_
  refine mr_seg 9 (pc1 := 15) (ls1 := [some (.ref 117), some (.int (nI p)), some (.int 1)]) (st1 := [.int 1, .ref 123]) (M1 := (kSn (kr (he, ke, ki, fi, fa, [o0, o1, p, o3, o4], 3, a, g, l, w, s)))) (fun f => rfl) ?_
  refine mr_ldn (xs := ([o0, o1, p, o3, o4].map nI)) rfl rfl (k := 1) (by decide) rfl ?_
  refine mr_seg 1 (pc1 := 17) (ls1 := [some (.ref 117), some (.int (nI p)), some (.int 1)]) (st1 := [.int (nI p), .int (nI o1)]) (M1 := (kSn (kr (he, ke, ki, fi, fa, [o0, o1, p, o3, o4], 3, a, g, l, w, s)))) (fun f => rfl) ?_
  refine mr_f (C := (nI o1) = (nI p)) (fun e => q1 ((nI_eq (by omega) (by omega)).mp e)) (fun f => rfl) ?_
  refine mr_seg 9 (pc1 := 15) (ls1 := [some (.ref 117), some (.int (nI p)), some (.int 2)]) (st1 := [.int 2, .ref 123]) (M1 := (kSn (kr (he, ke, ki, fi, fa, [o0, o1, p, o3, o4], 3, a, g, l, w, s)))) (fun f => rfl) ?_
  refine mr_ldn (xs := ([o0, o1, p, o3, o4].map nI)) rfl rfl (k := 2) (by decide) rfl ?_
  refine mr_seg 1 (pc1 := 17) (ls1 := [some (.ref 117), some (.int (nI p)), some (.int 2)]) (st1 := [.int (nI p), .int (nI p)]) (M1 := (kSn (kr (he, ke, ki, fi, fa, [o0, o1, p, o3, o4], 3, a, g, l, w, s)))) (fun f => rfl) ?_
  refine mr_t (C := (nI p) = (nI p)) (rfl) (fun f => rfl) ?_
  exact mr_ret 2 (fun f => rfl)
set_option maxRecDepth 100000 in
theorem kc_place_4_0 (he ke ki fi fa : List Nat) (a g l w s p o1 o2 o3 o4 : Nat) (hp : p < 5) (b1 : o1 < 5) (b2 : o2 < 5) (b3 : o3 < 5) (b4 : o4 < 5) : mm_R 62 0 [some (.ref 117), some (.int (nI p)), none] [] (kSn (kr (he, ke, ki, fi, fa, [p, o1, o2, o3, o4], 4, a, g, l, w, s))) (some (.int 0), kSn (kr (he, ke, ki, fi, fa, [p, o1, o2, o3, o4], 4, a, g, l, w, s))) := by
  refine mr_seg 9 (pc1 := 15) (ls1 := [some (.ref 117), some (.int (nI p)), some (.int 0)]) (st1 := [.int 0, .ref 123]) (M1 := (kSn (kr (he, ke, ki, fi, fa, [p, o1, o2, o3, o4], 4, a, g, l, w, s)))) (fun f => rfl) ?_
  refine mr_ldn (xs := ([p, o1, o2, o3, o4].map nI)) rfl rfl (k := 0) (by decide) rfl ?_
  refine mr_seg 1 (pc1 := 17) (ls1 := [some (.ref 117), some (.int (nI p)), some (.int 0)]) (st1 := [.int (nI p), .int (nI p)]) (M1 := (kSn (kr (he, ke, ki, fi, fa, [p, o1, o2, o3, o4], 4, a, g, l, w, s)))) (fun f => rfl) ?_
  refine mr_t (C := (nI p) = (nI p)) (rfl) (fun f => rfl) ?_
  exact mr_ret 2 (fun f => rfl)
set_option maxRecDepth 100000 in
theorem kc_place_4_1 (he ke ki fi fa : List Nat) (a g l w s p o0 o2 o3 o4 : Nat) (q0 : ¬ o0 = p) (hp : p < 5) (b0 : o0 < 5) (b2 : o2 < 5) (b3 : o3 < 5) (b4 : o4 < 5) : mm_R 62 0 [some (.ref 117), some (.int (nI p)), none] [] (kSn (kr (he, ke, ki, fi, fa, [o0, p, o2, o3, o4], 4, a, g, l, w, s))) (some (.int 1), kSn (kr (he, ke, ki, fi, fa, [o0, p, o2, o3, o4], 4, a, g, l, w, s))) := by
  refine mr_seg 9 (pc1 := 15) (ls1 := [some (.ref 117), some (.int (nI p)), some (.int 0)]) (st1 := [.int 0, .ref 123]) (M1 := (kSn (kr (he, ke, ki, fi, fa, [o0, p, o2, o3, o4], 4, a, g, l, w, s)))) (fun f => rfl) ?_
  refine mr_ldn (xs := ([o0, p, o2, o3, o4].map nI)) rfl rfl (k := 0) (by decide) rfl ?_
  refine mr_seg 1 (pc1 := 17) (ls1 := [some (.ref 117), some (.int (nI p)), some (.int 0)]) (st1 := [.int (nI p), .int (nI o0)]) (M1 := (kSn (kr (he, ke, ki, fi, fa, [o0, p, o2, o3, o4], 4, a, g, l, w, s)))) (fun f => rfl) ?_
  refine mr_f (C := (nI o0) = (nI p)) (fun e => q0 ((nI_eq (by omega) (by omega)).mp e)) (fun f => rfl) ?_
  refine mr_seg 9 (pc1 := 15) (ls1 := [some (.ref 117), some (.int (nI p)), some (.int 1)]) (st1 := [.int 1, .ref 123]) (M1 := (kSn (kr (he, ke, ki, fi, fa, [o0, p, o2, o3, o4], 4, a, g, l, w, s)))) (fun f => rfl) ?_
  refine mr_ldn (xs := ([o0, p, o2, o3, o4].map nI)) rfl rfl (k := 1) (by decide) rfl ?_
  refine mr_seg 1 (pc1 := 17) (ls1 := [some (.ref 117), some (.int (nI p)), some (.int 1)]) (st1 := [.int (nI p), .int (nI p)]) (M1 := (kSn (kr (he, ke, ki, fi, fa, [o0, p, o2, o3, o4], 4, a, g, l, w, s)))) (fun f => rfl) ?_
  refine mr_t (C := (nI p) = (nI p)) (rfl) (fun f => rfl) ?_
  exact mr_ret 2 (fun f => rfl)
set_option maxRecDepth 100000 in
theorem kc_place_4_2 (he ke ki fi fa : List Nat) (a g l w s p o0 o1 o3 o4 : Nat) (q0 : ¬ o0 = p) (q1 : ¬ o1 = p) (hp : p < 5) (b0 : o0 < 5) (b1 : o1 < 5) (b3 : o3 < 5) (b4 : o4 < 5) : mm_R 62 0 [some (.ref 117), some (.int (nI p)), none] [] (kSn (kr (he, ke, ki, fi, fa, [o0, o1, p, o3, o4], 4, a, g, l, w, s))) (some (.int 2), kSn (kr (he, ke, ki, fi, fa, [o0, o1, p, o3, o4], 4, a, g, l, w, s))) := by
  refine mr_seg 9 (pc1 := 15) (ls1 := [some (.ref 117), some (.int (nI p)), some (.int 0)]) (st1 := [.int 0, .ref 123]) (M1 := (kSn (kr (he, ke, ki, fi, fa, [o0, o1, p, o3, o4], 4, a, g, l, w, s)))) (fun f => rfl) ?_
  refine mr_ldn (xs := ([o0, o1, p, o3, o4].map nI)) rfl rfl (k := 0) (by decide) rfl ?_
  refine mr_seg 1 (pc1 := 17) (ls1 := [some (.ref 117), some (.int (nI p)), some (.int 0)]) (st1 := [.int (nI p), .int (nI o0)]) (M1 := (kSn (kr (he, ke, ki, fi, fa, [o0, o1, p, o3, o4], 4, a, g, l, w, s)))) (fun f => rfl) ?_
  refine mr_f (C := (nI o0) = (nI p)) (fun e => q0 ((nI_eq (by omega) (by omega)).mp e)) (fun f => rfl) ?_
  refine mr_seg 9 (pc1 := 15) (ls1 := [some (.ref 117), some (.int (nI p)), some (.int 1)]) (st1 := [.int 1, .ref 123]) (M1 := (kSn (kr (he, ke, ki, fi, fa, [o0, o1, p, o3, o4], 4, a, g, l, w, s)))) (fun f => rfl) ?_
  refine mr_ldn (xs := ([o0, o1, p, o3, o4].map nI)) rfl rfl (k := 1) (by decide) rfl ?_
  refine mr_seg 1 (pc1 := 17) (ls1 := [some (.ref 117), some (.int (nI p)), some (.int 1)]) (st1 := [.int (nI p), .int (nI o1)]) (M1 := (kSn (kr (he, ke, ki, fi, fa, [o0, o1, p, o3, o4], 4, a, g, l, w, s)))) (fun f => rfl) ?_
  refine mr_f (C := (nI o1) = (nI p)) (fun e => q1 ((nI_eq (by omega) (by omega)).mp e)) (fun f => rfl) ?_
  refine mr_seg 9 (pc1 := 15) (ls1 := [some (.ref 117), some (.int (nI p)), some (.int 2)]) (st1 := [.int 2, .ref 123]) (M1 := (kSn (kr (he, ke, ki, fi, fa, [o0, o1, p, o3, o4], 4, a, g, l, w, s)))) (fun f => rfl) ?_
  refine mr_ldn (xs := ([o0, o1, p, o3, o4].map nI)) rfl rfl (k := 2) (by decide) rfl ?_
  refine mr_seg 1 (pc1 := 17) (ls1 := [some (.ref 117), some (.int (nI p)), some (.int 2)]) (st1 := [.int (nI p), .int (nI p)]) (M1 := (kSn (kr (he, ke, ki, fi, fa, [o0, o1, p, o3, o4], 4, a, g, l, w, s)))) (fun f => rfl) ?_
  refine mr_t (C := (nI p) = (nI p)) (rfl) (fun f => rfl) ?_
  exact mr_ret 2 (fun f => rfl)
set_option maxRecDepth 100000 in
theorem kc_place_4_3 (he ke ki fi fa : List Nat) (a g l w s p o0 o1 o2 o4 : Nat) (q0 : ¬ o0 = p) (q1 : ¬ o1 = p) (q2 : ¬ o2 = p) (hp : p < 5) (b0 : o0 < 5) (b1 : o1 < 5) (b2 : o2 < 5) (b4 : o4 < 5) : mm_R 62 0 [some (.ref 117), some (.int (nI p)), none] [] (kSn (kr (he, ke, ki, fi, fa, [o0, o1, o2, p, o4], 4, a, g, l, w, s))) (some (.int 3), kSn (kr (he, ke, ki, fi, fa, [o0, o1, o2, p, o4], 4, a, g, l, w, s))) := by
  refine mr_seg 9 (pc1 := 15) (ls1 := [some (.ref 117), some (.int (nI p)), some (.int 0)]) (st1 := [.int 0, .ref 123]) (M1 := (kSn (kr (he, ke, ki, fi, fa, [o0, o1, o2, p, o4], 4, a, g, l, w, s)))) (fun f => rfl) ?_
  refine mr_ldn (xs := ([o0, o1, o2, p, o4].map nI)) rfl rfl (k := 0) (by decide) rfl ?_
  refine mr_seg 1 (pc1 := 17) (ls1 := [some (.ref 117), some (.int (nI p)), some (.int 0)]) (st1 := [.int (nI p), .int (nI o0)]) (M1 := (kSn (kr (he, ke, ki, fi, fa, [o0, o1, o2, p, o4], 4, a, g, l, w, s)))) (fun f => rfl) ?_
  refine mr_f (C := (nI o0) = (nI p)) (fun e => q0 ((nI_eq (by omega) (by omega)).mp e)) (fun f => rfl) ?_
  refine mr_seg 9 (pc1 := 15) (ls1 := [some (.ref 117), some (.int (nI p)), some (.int 1)]) (st1 := [.int 1, .ref 123]) (M1 := (kSn (kr (he, ke, ki, fi, fa, [o0, o1, o2, p, o4], 4, a, g, l, w, s)))) (fun f => rfl) ?_
  refine mr_ldn (xs := ([o0, o1, o2, p, o4].map nI)) rfl rfl (k := 1) (by decide) rfl ?_
  refine mr_seg 1 (pc1 := 17) (ls1 := [some (.ref 117), some (.int (nI p)), some (.int 1)]) (st1 := [.int (nI p), .int (nI o1)]) (M1 := (kSn (kr (he, ke, ki, fi, fa, [o0, o1, o2, p, o4], 4, a, g, l, w, s)))) (fun f => rfl) ?_
  refine mr_f (C := (nI o1) = (nI p)) (fun e => q1 ((nI_eq (by omega) (by omega)).mp e)) (fun f => rfl) ?_
  refine mr_seg 9 (pc1 := 15) (ls1 := [some (.ref 117), some (.int (nI p)), some (.int 2)]) (st1 := [.int 2, .ref 123]) (M1 := (kSn (kr (he, ke, ki, fi, fa, [o0, o1, o2, p, o4], 4, a, g, l, w, s)))) (fun f => rfl) ?_
  refine mr_ldn (xs := ([o0, o1, o2, p, o4].map nI)) rfl rfl (k := 2) (by decide) rfl ?_
  refine mr_seg 1 (pc1 := 17) (ls1 := [some (.ref 117), some (.int (nI p)), some (.int 2)]) (st1 := [.int (nI p), .int (nI o2)]) (M1 := (kSn (kr (he, ke, ki, fi, fa, [o0, o1, o2, p, o4], 4, a, g, l, w, s)))) (fun f => rfl) ?_
  refine mr_f (C := (nI o2) = (nI p)) (fun e => q2 ((nI_eq (by omega) (by omega)).mp e)) (fun f => rfl) ?_
  refine mr_seg 9 (pc1 := 15) (ls1 := [some (.ref 117), some (.int (nI p)), some (.int 3)]) (st1 := [.int 3, .ref 123]) (M1 := (kSn (kr (he, ke, ki, fi, fa, [o0, o1, o2, p, o4], 4, a, g, l, w, s)))) (fun f => rfl) ?_
  refine mr_ldn (xs := ([o0, o1, o2, p, o4].map nI)) rfl rfl (k := 3) (by decide) rfl ?_
  refine mr_seg 1 (pc1 := 17) (ls1 := [some (.ref 117), some (.int (nI p)), some (.int 3)]) (st1 := [.int (nI p), .int (nI p)]) (M1 := (kSn (kr (he, ke, ki, fi, fa, [o0, o1, o2, p, o4], 4, a, g, l, w, s)))) (fun f => rfl) ?_
  refine mr_t (C := (nI p) = (nI p)) (rfl) (fun f => rfl) ?_
  exact mr_ret 2 (fun f => rfl)
set_option maxRecDepth 100000 in
theorem kc_place_5_0 (he ke ki fi fa : List Nat) (a g l w s p o1 o2 o3 o4 : Nat) (hp : p < 5) (b1 : o1 < 5) (b2 : o2 < 5) (b3 : o3 < 5) (b4 : o4 < 5) : mm_R 62 0 [some (.ref 117), some (.int (nI p)), none] [] (kSn (kr (he, ke, ki, fi, fa, [p, o1, o2, o3, o4], 5, a, g, l, w, s))) (some (.int 0), kSn (kr (he, ke, ki, fi, fa, [p, o1, o2, o3, o4], 5, a, g, l, w, s))) := by
  refine mr_seg 9 (pc1 := 15) (ls1 := [some (.ref 117), some (.int (nI p)), some (.int 0)]) (st1 := [.int 0, .ref 123]) (M1 := (kSn (kr (he, ke, ki, fi, fa, [p, o1, o2, o3, o4], 5, a, g, l, w, s)))) (fun f => rfl) ?_
  refine mr_ldn (xs := ([p, o1, o2, o3, o4].map nI)) rfl rfl (k := 0) (by decide) rfl ?_
  refine mr_seg 1 (pc1 := 17) (ls1 := [some (.ref 117), some (.int (nI p)), some (.int 0)]) (st1 := [.int (nI p), .int (nI p)]) (M1 := (kSn (kr (he, ke, ki, fi, fa, [p, o1, o2, o3, o4], 5, a, g, l, w, s)))) (fun f => rfl) ?_
  refine mr_t (C := (nI p) = (nI p)) (rfl) (fun f => rfl) ?_
  exact mr_ret 2 (fun f => rfl)
set_option maxRecDepth 100000 in
theorem kc_place_5_1 (he ke ki fi fa : List Nat) (a g l w s p o0 o2 o3 o4 : Nat) (q0 : ¬ o0 = p) (hp : p < 5) (b0 : o0 < 5) (b2 : o2 < 5) (b3 : o3 < 5) (b4 : o4 < 5) : mm_R 62 0 [some (.ref 117), some (.int (nI p)), none] [] (kSn (kr (he, ke, ki, fi, fa, [o0, p, o2, o3, o4], 5, a, g, l, w, s))) (some (.int 1), kSn (kr (he, ke, ki, fi, fa, [o0, p, o2, o3, o4], 5, a, g, l, w, s))) := by
  refine mr_seg 9 (pc1 := 15) (ls1 := [some (.ref 117), some (.int (nI p)), some (.int 0)]) (st1 := [.int 0, .ref 123]) (M1 := (kSn (kr (he, ke, ki, fi, fa, [o0, p, o2, o3, o4], 5, a, g, l, w, s)))) (fun f => rfl) ?_
  refine mr_ldn (xs := ([o0, p, o2, o3, o4].map nI)) rfl rfl (k := 0) (by decide) rfl ?_
  refine mr_seg 1 (pc1 := 17) (ls1 := [some (.ref 117), some (.int (nI p)), some (.int 0)]) (st1 := [.int (nI p), .int (nI o0)]) (M1 := (kSn (kr (he, ke, ki, fi, fa, [o0, p, o2, o3, o4], 5, a, g, l, w, s)))) (fun f => rfl) ?_
  refine mr_f (C := (nI o0) = (nI p)) (fun e => q0 ((nI_eq (by omega) (by omega)).mp e)) (fun f => rfl) ?_
  refine mr_seg 9 (pc1 := 15) (ls1 := [some (.ref 117), some (.int (nI p)), some (.int 1)]) (st1 := [.int 1, .ref 123]) (M1 := (kSn (kr (he, ke, ki, fi, fa, [o0, p, o2, o3, o4], 5, a, g, l, w, s)))) (fun f => rfl) ?_
  refine mr_ldn (xs := ([o0, p, o2, o3, o4].map nI)) rfl rfl (k := 1) (by decide) rfl ?_
  refine mr_seg 1 (pc1 := 17) (ls1 := [some (.ref 117), some (.int (nI p)), some (.int 1)]) (st1 := [.int (nI p), .int (nI p)]) (M1 := (kSn (kr (he, ke, ki, fi, fa, [o0, p, o2, o3, o4], 5, a, g, l, w, s)))) (fun f => rfl) ?_
  refine mr_t (C := (nI p) = (nI p)) (rfl) (fun f => rfl) ?_
  exact mr_ret 2 (fun f => rfl)
set_option maxRecDepth 100000 in
theorem kc_place_5_2 (he ke ki fi fa : List Nat) (a g l w s p o0 o1 o3 o4 : Nat) (q0 : ¬ o0 = p) (q1 : ¬ o1 = p) (hp : p < 5) (b0 : o0 < 5) (b1 : o1 < 5) (b3 : o3 < 5) (b4 : o4 < 5) : mm_R 62 0 [some (.ref 117), some (.int (nI p)), none] [] (kSn (kr (he, ke, ki, fi, fa, [o0, o1, p, o3, o4], 5, a, g, l, w, s))) (some (.int 2), kSn (kr (he, ke, ki, fi, fa, [o0, o1, p, o3, o4], 5, a, g, l, w, s))) := by
  refine mr_seg 9 (pc1 := 15) (ls1 := [some (.ref 117), some (.int (nI p)), some (.int 0)]) (st1 := [.int 0, .ref 123]) (M1 := (kSn (kr (he, ke, ki, fi, fa, [o0, o1, p, o3, o4], 5, a, g, l, w, s)))) (fun f => rfl) ?_
  refine mr_ldn (xs := ([o0, o1, p, o3, o4].map nI)) rfl rfl (k := 0) (by decide) rfl ?_
  refine mr_seg 1 (pc1 := 17) (ls1 := [some (.ref 117), some (.int (nI p)), some (.int 0)]) (st1 := [.int (nI p), .int (nI o0)]) (M1 := (kSn (kr (he, ke, ki, fi, fa, [o0, o1, p, o3, o4], 5, a, g, l, w, s)))) (fun f => rfl) ?_
  refine mr_f (C := (nI o0) = (nI p)) (fun e => q0 ((nI_eq (by omega) (by omega)).mp e)) (fun f => rfl) ?_
  refine mr_seg 9 (pc1 := 15) (ls1 := [some (.ref 117), some (.int (nI p)), some (.int 1)]) (st1 := [.int 1, .ref 123]) (M1 := (kSn (kr (he, ke, ki, fi, fa, [o0, o1, p, o3, o4], 5, a, g, l, w, s)))) (fun f => rfl) ?_
  refine mr_ldn (xs := ([o0, o1, p, o3, o4].map nI)) rfl rfl (k := 1) (by decide) rfl ?_
  refine mr_seg 1 (pc1 := 17) (ls1 := [some (.ref 117), some (.int (nI p)), some (.int 1)]) (st1 := [.int (nI p), .int (nI o1)]) (M1 := (kSn (kr (he, ke, ki, fi, fa, [o0, o1, p, o3, o4], 5, a, g, l, w, s)))) (fun f => rfl) ?_
  refine mr_f (C := (nI o1) = (nI p)) (fun e => q1 ((nI_eq (by omega) (by omega)).mp e)) (fun f => rfl) ?_
  refine mr_seg 9 (pc1 := 15) (ls1 := [some (.ref 117), some (.int (nI p)), some (.int 2)]) (st1 := [.int 2, .ref 123]) (M1 := (kSn (kr (he, ke, ki, fi, fa, [o0, o1, p, o3, o4], 5, a, g, l, w, s)))) (fun f => rfl) ?_
  refine mr_ldn (xs := ([o0, o1, p, o3, o4].map nI)) rfl rfl (k := 2) (by decide) rfl ?_
  refine mr_seg 1 (pc1 := 17) (ls1 := [some (.ref 117), some (.int (nI p)), some (.int 2)]) (st1 := [.int (nI p), .int (nI p)]) (M1 := (kSn (kr (he, ke, ki, fi, fa, [o0, o1, p, o3, o4], 5, a, g, l, w, s)))) (fun f => rfl) ?_
  refine mr_t (C := (nI p) = (nI p)) (rfl) (fun f => rfl) ?_
  exact mr_ret 2 (fun f => rfl)
set_option maxRecDepth 100000 in
theorem kc_place_5_3 (he ke ki fi fa : List Nat) (a g l w s p o0 o1 o2 o4 : Nat) (q0 : ¬ o0 = p) (q1 : ¬ o1 = p) (q2 : ¬ o2 = p) (hp : p < 5) (b0 : o0 < 5) (b1 : o1 < 5) (b2 : o2 < 5) (b4 : o4 < 5) : mm_R 62 0 [some (.ref 117), some (.int (nI p)), none] [] (kSn (kr (he, ke, ki, fi, fa, [o0, o1, o2, p, o4], 5, a, g, l, w, s))) (some (.int 3), kSn (kr (he, ke, ki, fi, fa, [o0, o1, o2, p, o4], 5, a, g, l, w, s))) := by
  refine mr_seg 9 (pc1 := 15) (ls1 := [some (.ref 117), some (.int (nI p)), some (.int 0)]) (st1 := [.int 0, .ref 123]) (M1 := (kSn (kr (he, ke, ki, fi, fa, [o0, o1, o2, p, o4], 5, a, g, l, w, s)))) (fun f => rfl) ?_
  refine mr_ldn (xs := ([o0, o1, o2, p, o4].map nI)) rfl rfl (k := 0) (by decide) rfl ?_
  refine mr_seg 1 (pc1 := 17) (ls1 := [some (.ref 117), some (.int (nI p)), some (.int 0)]) (st1 := [.int (nI p), .int (nI o0)]) (M1 := (kSn (kr (he, ke, ki, fi, fa, [o0, o1, o2, p, o4], 5, a, g, l, w, s)))) (fun f => rfl) ?_
  refine mr_f (C := (nI o0) = (nI p)) (fun e => q0 ((nI_eq (by omega) (by omega)).mp e)) (fun f => rfl) ?_
  refine mr_seg 9 (pc1 := 15) (ls1 := [some (.ref 117), some (.int (nI p)), some (.int 1)]) (st1 := [.int 1, .ref 123]) (M1 := (kSn (kr (he, ke, ki, fi, fa, [o0, o1, o2, p, o4], 5, a, g, l, w, s)))) (fun f => rfl) ?_
  refine mr_ldn (xs := ([o0, o1, o2, p, o4].map nI)) rfl rfl (k := 1) (by decide) rfl ?_
  refine mr_seg 1 (pc1 := 17) (ls1 := [some (.ref 117), some (.int (nI p)), some (.int 1)]) (st1 := [.int (nI p), .int (nI o1)]) (M1 := (kSn (kr (he, ke, ki, fi, fa, [o0, o1, o2, p, o4], 5, a, g, l, w, s)))) (fun f => rfl) ?_
  refine mr_f (C := (nI o1) = (nI p)) (fun e => q1 ((nI_eq (by omega) (by omega)).mp e)) (fun f => rfl) ?_
  refine mr_seg 9 (pc1 := 15) (ls1 := [some (.ref 117), some (.int (nI p)), some (.int 2)]) (st1 := [.int 2, .ref 123]) (M1 := (kSn (kr (he, ke, ki, fi, fa, [o0, o1, o2, p, o4], 5, a, g, l, w, s)))) (fun f => rfl) ?_
  refine mr_ldn (xs := ([o0, o1, o2, p, o4].map nI)) rfl rfl (k := 2) (by decide) rfl ?_
  refine mr_seg 1 (pc1 := 17) (ls1 := [some (.ref 117), some (.int (nI p)), some (.int 2)]) (st1 := [.int (nI p), .int (nI o2)]) (M1 := (kSn (kr (he, ke, ki, fi, fa, [o0, o1, o2, p, o4], 5, a, g, l, w, s)))) (fun f => rfl) ?_
  refine mr_f (C := (nI o2) = (nI p)) (fun e => q2 ((nI_eq (by omega) (by omega)).mp e)) (fun f => rfl) ?_
  refine mr_seg 9 (pc1 := 15) (ls1 := [some (.ref 117), some (.int (nI p)), some (.int 3)]) (st1 := [.int 3, .ref 123]) (M1 := (kSn (kr (he, ke, ki, fi, fa, [o0, o1, o2, p, o4], 5, a, g, l, w, s)))) (fun f => rfl) ?_
  refine mr_ldn (xs := ([o0, o1, o2, p, o4].map nI)) rfl rfl (k := 3) (by decide) rfl ?_
  refine mr_seg 1 (pc1 := 17) (ls1 := [some (.ref 117), some (.int (nI p)), some (.int 3)]) (st1 := [.int (nI p), .int (nI p)]) (M1 := (kSn (kr (he, ke, ki, fi, fa, [o0, o1, o2, p, o4], 5, a, g, l, w, s)))) (fun f => rfl) ?_
  refine mr_t (C := (nI p) = (nI p)) (rfl) (fun f => rfl) ?_
  exact mr_ret 2 (fun f => rfl)
set_option maxRecDepth 100000 in
theorem kc_place_5_4 (he ke ki fi fa : List Nat) (a g l w s p o0 o1 o2 o3 : Nat) (q0 : ¬ o0 = p) (q1 : ¬ o1 = p) (q2 : ¬ o2 = p) (q3 : ¬ o3 = p) (hp : p < 5) (b0 : o0 < 5) (b1 : o1 < 5) (b2 : o2 < 5) (b3 : o3 < 5) : mm_R 62 0 [some (.ref 117), some (.int (nI p)), none] [] (kSn (kr (he, ke, ki, fi, fa, [o0, o1, o2, o3, p], 5, a, g, l, w, s))) (some (.int 4), kSn (kr (he, ke, ki, fi, fa, [o0, o1, o2, o3, p], 5, a, g, l, w, s))) := by
  refine mr_seg 9 (pc1 := 15) (ls1 := [some (.ref 117), some (.int (nI p)), some (.int 0)]) (st1 := [.int 0, .ref 123]) (M1 := (kSn (kr (he, ke, ki, fi, fa, [o0, o1, o2, o3, p], 5, a, g, l, w, s)))) (fun f => rfl) ?_
  refine mr_ldn (xs := ([o0, o1, o2, o3, p].map nI)) rfl rfl (k := 0) (by decide) rfl ?_
  refine mr_seg 1 (pc1 := 17) (ls1 := [some (.ref 117), some (.int (nI p)), some (.int 0)]) (st1 := [.int (nI p), .int (nI o0)]) (M1 := (kSn (kr (he, ke, ki, fi, fa, [o0, o1, o2, o3, p], 5, a, g, l, w, s)))) (fun f => rfl) ?_
  refine mr_f (C := (nI o0) = (nI p)) (fun e => q0 ((nI_eq (by omega) (by omega)).mp e)) (fun f => rfl) ?_
  refine mr_seg 9 (pc1 := 15) (ls1 := [some (.ref 117), some (.int (nI p)), some (.int 1)]) (st1 := [.int 1, .ref 123]) (M1 := (kSn (kr (he, ke, ki, fi, fa, [o0, o1, o2, o3, p], 5, a, g, l, w, s)))) (fun f => rfl) ?_
  refine mr_ldn (xs := ([o0, o1, o2, o3, p].map nI)) rfl rfl (k := 1) (by decide) rfl ?_
  refine mr_seg 1 (pc1 := 17) (ls1 := [some (.ref 117), some (.int (nI p)), some (.int 1)]) (st1 := [.int (nI p), .int (nI o1)]) (M1 := (kSn (kr (he, ke, ki, fi, fa, [o0, o1, o2, o3, p], 5, a, g, l, w, s)))) (fun f => rfl) ?_
  refine mr_f (C := (nI o1) = (nI p)) (fun e => q1 ((nI_eq (by omega) (by omega)).mp e)) (fun f => rfl) ?_
  refine mr_seg 9 (pc1 := 15) (ls1 := [some (.ref 117), some (.int (nI p)), some (.int 2)]) (st1 := [.int 2, .ref 123]) (M1 := (kSn (kr (he, ke, ki, fi, fa, [o0, o1, o2, o3, p], 5, a, g, l, w, s)))) (fun f => rfl) ?_
  refine mr_ldn (xs := ([o0, o1, o2, o3, p].map nI)) rfl rfl (k := 2) (by decide) rfl ?_
  refine mr_seg 1 (pc1 := 17) (ls1 := [some (.ref 117), some (.int (nI p)), some (.int 2)]) (st1 := [.int (nI p), .int (nI o2)]) (M1 := (kSn (kr (he, ke, ki, fi, fa, [o0, o1, o2, o3, p], 5, a, g, l, w, s)))) (fun f => rfl) ?_
  refine mr_f (C := (nI o2) = (nI p)) (fun e => q2 ((nI_eq (by omega) (by omega)).mp e)) (fun f => rfl) ?_
  refine mr_seg 9 (pc1 := 15) (ls1 := [some (.ref 117), some (.int (nI p)), some (.int 3)]) (st1 := [.int 3, .ref 123]) (M1 := (kSn (kr (he, ke, ki, fi, fa, [o0, o1, o2, o3, p], 5, a, g, l, w, s)))) (fun f => rfl) ?_
  refine mr_ldn (xs := ([o0, o1, o2, o3, p].map nI)) rfl rfl (k := 3) (by decide) rfl ?_
  refine mr_seg 1 (pc1 := 17) (ls1 := [some (.ref 117), some (.int (nI p)), some (.int 3)]) (st1 := [.int (nI p), .int (nI o3)]) (M1 := (kSn (kr (he, ke, ki, fi, fa, [o0, o1, o2, o3, p], 5, a, g, l, w, s)))) (fun f => rfl) ?_
  refine mr_f (C := (nI o3) = (nI p)) (fun e => q3 ((nI_eq (by omega) (by omega)).mp e)) (fun f => rfl) ?_
  refine mr_seg 9 (pc1 := 15) (ls1 := [some (.ref 117), some (.int (nI p)), some (.int 4)]) (st1 := [.int 4, .ref 123]) (M1 := (kSn (kr (he, ke, ki, fi, fa, [o0, o1, o2, o3, p], 5, a, g, l, w, s)))) (fun f => rfl) ?_
  refine mr_ldn (xs := ([o0, o1, o2, o3, p].map nI)) rfl rfl (k := 4) (by decide) rfl ?_
  refine mr_seg 1 (pc1 := 17) (ls1 := [some (.ref 117), some (.int (nI p)), some (.int 4)]) (st1 := [.int (nI p), .int (nI p)]) (M1 := (kSn (kr (he, ke, ki, fi, fa, [o0, o1, o2, o3, p], 5, a, g, l, w, s)))) (fun f => rfl) ?_
  refine mr_t (C := (nI p) = (nI p)) (rfl) (fun f => rfl) ?_
  exact mr_ret 2 (fun f => rfl)
def kplace : List Nat → Nat → Nat
  | [], _ => 0
  | x :: xs, p => if x = p then 0 else kplace xs p + 1
theorem kc_place (he ke ki fi fa or : List Nat) (mi a g l w s : Nat) (p : Nat) (hp : p < mi) (hO : or ∈ kOl mi) (hm : mi ≤ 5) : mm_R 62 0 [some (.ref 117), some (.int (nI p)), none] [] (kSn (kr (he, ke, ki, fi, fa, or, mi, a, g, l, w, s))) (some (.int (nI (kplace or p))), kSn (kr (he, ke, ki, fi, fa, or, mi, a, g, l, w, s))) := by
  obtain ⟨j, hj, hp1, hp2⟩ := kO_pos mi hm or hO p hp
  have hl := kO_len mi hm or hO
  have h5 : ∀ i, i < 5 → kg or i < 5 := kO_lt5 mi hm or hO
  match or, hl with
  | [o0, o1, o2, o3, o4], _ =>
    have b0 : o0 < 5 := h5 0 (by omega)
    have b1 : o1 < 5 := h5 1 (by omega)
    have b2 : o2 < 5 := h5 2 (by omega)
    have b3 : o3 < 5 := h5 3 (by omega)
    have b4 : o4 < 5 := h5 4 (by omega)
    match mi, j, hj, hm with
    | 1, 0, _, _ => cases hp1; exact mr_eq (kc_place_1_0 he ke ki fi fa a g l w s o0 o1 o2 o3 o4  b0 b1 b2 b3 b4) (by show _ = (some (Value.int (nI (kplace [o0, o1, o2, o3, o4] o0))), _); rw [show kplace [o0, o1, o2, o3, o4] o0 = 0 by simp [kplace]]; rfl)
    | 2, 0, _, _ => cases hp1; exact mr_eq (kc_place_2_0 he ke ki fi fa a g l w s o0 o1 o2 o3 o4  b0 b1 b2 b3 b4) (by show _ = (some (Value.int (nI (kplace [o0, o1, o2, o3, o4] o0))), _); rw [show kplace [o0, o1, o2, o3, o4] o0 = 0 by simp [kplace]]; rfl)
    | 2, 1, _, _ => cases hp1; exact mr_eq (kc_place_2_1 he ke ki fi fa a g l w s o1 o0 o2 o3 o4 (hp2 0 (by omega) (by omega)) b1 b0 b2 b3 b4) (by show _ = (some (Value.int (nI (kplace [o0, o1, o2, o3, o4] o1))), _); rw [show kplace [o0, o1, o2, o3, o4] o1 = 1 by simp [kplace, show ¬ o0 = o1 from hp2 0 (by omega) (by omega)]]; rfl)
    | 3, 0, _, _ => cases hp1; exact mr_eq (kc_place_3_0 he ke ki fi fa a g l w s o0 o1 o2 o3 o4  b0 b1 b2 b3 b4) (by show _ = (some (Value.int (nI (kplace [o0, o1, o2, o3, o4] o0))), _); rw [show kplace [o0, o1, o2, o3, o4] o0 = 0 by simp [kplace]]; rfl)
    | 3, 1, _, _ => cases hp1; exact mr_eq (kc_place_3_1 he ke ki fi fa a g l w s o1 o0 o2 o3 o4 (hp2 0 (by omega) (by omega)) b1 b0 b2 b3 b4) (by show _ = (some (Value.int (nI (kplace [o0, o1, o2, o3, o4] o1))), _); rw [show kplace [o0, o1, o2, o3, o4] o1 = 1 by simp [kplace, show ¬ o0 = o1 from hp2 0 (by omega) (by omega)]]; rfl)
    | 3, 2, _, _ => cases hp1; exact mr_eq (kc_place_3_2 he ke ki fi fa a g l w s o2 o0 o1 o3 o4 (hp2 0 (by omega) (by omega)) (hp2 1 (by omega) (by omega)) b2 b0 b1 b3 b4) (by show _ = (some (Value.int (nI (kplace [o0, o1, o2, o3, o4] o2))), _); rw [show kplace [o0, o1, o2, o3, o4] o2 = 2 by simp [kplace, show ¬ o0 = o2 from hp2 0 (by omega) (by omega), show ¬ o1 = o2 from hp2 1 (by omega) (by omega)]]; rfl)
    | 4, 0, _, _ => cases hp1; exact mr_eq (kc_place_4_0 he ke ki fi fa a g l w s o0 o1 o2 o3 o4  b0 b1 b2 b3 b4) (by show _ = (some (Value.int (nI (kplace [o0, o1, o2, o3, o4] o0))), _); rw [show kplace [o0, o1, o2, o3, o4] o0 = 0 by simp [kplace]]; rfl)
    | 4, 1, _, _ => cases hp1; exact mr_eq (kc_place_4_1 he ke ki fi fa a g l w s o1 o0 o2 o3 o4 (hp2 0 (by omega) (by omega)) b1 b0 b2 b3 b4) (by show _ = (some (Value.int (nI (kplace [o0, o1, o2, o3, o4] o1))), _); rw [show kplace [o0, o1, o2, o3, o4] o1 = 1 by simp [kplace, show ¬ o0 = o1 from hp2 0 (by omega) (by omega)]]; rfl)
    | 4, 2, _, _ => cases hp1; exact mr_eq (kc_place_4_2 he ke ki fi fa a g l w s o2 o0 o1 o3 o4 (hp2 0 (by omega) (by omega)) (hp2 1 (by omega) (by omega)) b2 b0 b1 b3 b4) (by show _ = (some (Value.int (nI (kplace [o0, o1, o2, o3, o4] o2))), _); rw [show kplace [o0, o1, o2, o3, o4] o2 = 2 by simp [kplace, show ¬ o0 = o2 from hp2 0 (by omega) (by omega), show ¬ o1 = o2 from hp2 1 (by omega) (by omega)]]; rfl)
    | 4, 3, _, _ => cases hp1; exact mr_eq (kc_place_4_3 he ke ki fi fa a g l w s o3 o0 o1 o2 o4 (hp2 0 (by omega) (by omega)) (hp2 1 (by omega) (by omega)) (hp2 2 (by omega) (by omega)) b3 b0 b1 b2 b4) (by show _ = (some (Value.int (nI (kplace [o0, o1, o2, o3, o4] o3))), _); rw [show kplace [o0, o1, o2, o3, o4] o3 = 3 by simp [kplace, show ¬ o0 = o3 from hp2 0 (by omega) (by omega), show ¬ o1 = o3 from hp2 1 (by omega) (by omega), show ¬ o2 = o3 from hp2 2 (by omega) (by omega)]]; rfl)
    | 5, 0, _, _ => cases hp1; exact mr_eq (kc_place_5_0 he ke ki fi fa a g l w s o0 o1 o2 o3 o4  b0 b1 b2 b3 b4) (by show _ = (some (Value.int (nI (kplace [o0, o1, o2, o3, o4] o0))), _); rw [show kplace [o0, o1, o2, o3, o4] o0 = 0 by simp [kplace]]; rfl)
    | 5, 1, _, _ => cases hp1; exact mr_eq (kc_place_5_1 he ke ki fi fa a g l w s o1 o0 o2 o3 o4 (hp2 0 (by omega) (by omega)) b1 b0 b2 b3 b4) (by show _ = (some (Value.int (nI (kplace [o0, o1, o2, o3, o4] o1))), _); rw [show kplace [o0, o1, o2, o3, o4] o1 = 1 by simp [kplace, show ¬ o0 = o1 from hp2 0 (by omega) (by omega)]]; rfl)
    | 5, 2, _, _ => cases hp1; exact mr_eq (kc_place_5_2 he ke ki fi fa a g l w s o2 o0 o1 o3 o4 (hp2 0 (by omega) (by omega)) (hp2 1 (by omega) (by omega)) b2 b0 b1 b3 b4) (by show _ = (some (Value.int (nI (kplace [o0, o1, o2, o3, o4] o2))), _); rw [show kplace [o0, o1, o2, o3, o4] o2 = 2 by simp [kplace, show ¬ o0 = o2 from hp2 0 (by omega) (by omega), show ¬ o1 = o2 from hp2 1 (by omega) (by omega)]]; rfl)
    | 5, 3, _, _ => cases hp1; exact mr_eq (kc_place_5_3 he ke ki fi fa a g l w s o3 o0 o1 o2 o4 (hp2 0 (by omega) (by omega)) (hp2 1 (by omega) (by omega)) (hp2 2 (by omega) (by omega)) b3 b0 b1 b2 b4) (by show _ = (some (Value.int (nI (kplace [o0, o1, o2, o3, o4] o3))), _); rw [show kplace [o0, o1, o2, o3, o4] o3 = 3 by simp [kplace, show ¬ o0 = o3 from hp2 0 (by omega) (by omega), show ¬ o1 = o3 from hp2 1 (by omega) (by omega), show ¬ o2 = o3 from hp2 2 (by omega) (by omega)]]; rfl)
    | 5, 4, _, _ => cases hp1; exact mr_eq (kc_place_5_4 he ke ki fi fa a g l w s o4 o0 o1 o2 o3 (hp2 0 (by omega) (by omega)) (hp2 1 (by omega) (by omega)) (hp2 2 (by omega) (by omega)) (hp2 3 (by omega) (by omega)) b4 b0 b1 b2 b3) (by show _ = (some (Value.int (nI (kplace [o0, o1, o2, o3, o4] o4))), _); rw [show kplace [o0, o1, o2, o3, o4] o4 = 4 by simp [kplace, show ¬ o0 = o4 from hp2 0 (by omega) (by omega), show ¬ o1 = o4 from hp2 1 (by omega) (by omega), show ¬ o2 = o4 from hp2 2 (by omega) (by omega), show ¬ o3 = o4 from hp2 3 (by omega) (by omega)]]; rfl)
    | mi, j + 5, hj, hm => exact absurd hj (by omega)
    | mi + 6, _, _, hm => exact absurd hm (by omega)
    | 0, 0, hj, _ => exact absurd hj (by omega)
    | 0, 1, hj, _ => exact absurd hj (by omega)
    | 0, 2, hj, _ => exact absurd hj (by omega)
    | 0, 3, hj, _ => exact absurd hj (by omega)
    | 0, 4, hj, _ => exact absurd hj (by omega)
    | 1, 1, hj, _ => exact absurd hj (by omega)
    | 1, 2, hj, _ => exact absurd hj (by omega)
    | 1, 3, hj, _ => exact absurd hj (by omega)
    | 1, 4, hj, _ => exact absurd hj (by omega)
    | 2, 2, hj, _ => exact absurd hj (by omega)
    | 2, 3, hj, _ => exact absurd hj (by omega)
    | 2, 4, hj, _ => exact absurd hj (by omega)
    | 3, 3, hj, _ => exact absurd hj (by omega)
    | 3, 4, hj, _ => exact absurd hj (by omega)
    | 4, 4, hj, _ => exact absurd hj (by omega)
