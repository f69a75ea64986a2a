set_option maxRecDepth 100000 in
theorem rc_last_s_3_1 (he ke ki fi fa : List Nat) (a g l w s p o0 o2 o3 o4 : Nat) (v1 : he.length = 25) (q0 : ¬ o0 = p) (q2 : ¬ o2 = p) (hp : p < 5) (b0 : o0 < 5) (b2 : o2 < 5) (b3 : o3 < 5) (b4 : o4 < 5) : mm_R 143 0 [some (.ref 139), some (.int (nI p)), none] [] (rSs (er (he, ke, ki, fi, fa, [o0, p, o2, o3, o4], 3, a, g, l, w, s))) (none, rSs (er (he, ke, ki, fi, fa, klast [o0, p, o2, o3, o4] 3 p, 3, a, g, l, w, s))) := by
  refine mr_seg 2 (pc1 := 2) (ls1 := [some (.ref 139), some (.int (nI p)), none]) (st1 := [.int (nI p), .ref 139]) (M1 := (rSs (er (he, ke, ki, fi, fa, [o0, p, o2, o3, o4], 3, a, g, l, w, s)))) (fun f => rfl) ?_
  refine mr_call (y := 144) (y0 := 5) (L := [some (.ref 139), some (.int (nI p)), none]) (rest := []) (rr := some (.int 1)) (M1 := (rSs (er (he, ke, ki, fi, fa, [o0, p, o2, o3, o4], 3, a, g, l, w, s)))) (fun f => rfl) (rc_place_s_3_1 he ke ki fi fa a g l w s p o0 o2 o3 o4 v1 q0 q2 hp b0 b2 b3 b4) ?_
  refine mr_seg 4 (pc1 := 9) (ls1 := [some (.ref 139), some (.int (nI p)), some (.int 1)]) (st1 := [.int 0, .ref 139, .int 1]) (M1 := (rSs (er (he, ke, ki, fi, fa, [o0, p, o2, o3, o4], 3, a, g, l, w, s)))) (fun f => rfl) ?_
  refine mr_ldn (xs := (er (he, ke, ki, fi, fa, [o0, p, o2, o3, o4], 3, a, g, l, w, s))) rfl rfl (k := 0) (by decide) rfl ?_
  refine mr_seg 2 (pc1 := 12) (ls1 := [some (.ref 139), some (.int (nI p)), some (.int 1)]) (st1 := [.int (3 - 1), .int 1]) (M1 := (rSs (er (he, ke, ki, fi, fa, [o0, p, o2, o3, o4], 3, a, g, l, w, s)))) (fun f => rfl) ?_
  refine mr_v (show (3 : Int32) - 1 = 2 by decide) ?_
  refine mr_seg 11 (pc1 := 27) (ls1 := [some (.ref 139), some (.int (nI p)), some (.int 1)]) (st1 := [.int 49, .ref 139, .int 48, .ref 139]) (M1 := (rSs (er (he, ke, ki, fi, fa, [o0, p, o2, o3, o4], 3, a, g, l, w, s)))) (fun f => rfl) ?_
  refine mr_ldn (xs := (er (he, ke, ki, fi, fa, [o0, p, o2, o3, o4], 3, a, g, l, w, s))) rfl rfl (k := 49) (by decide) (er_or (K := (he, ke, ki, fi, fa, [o0, p, o2, o3, o4], 3, a, g, l, w, s)) v1 rfl (j := 2) (by decide)) ?_
  refine mr_stn (xs := (er (he, ke, ki, fi, fa, [o0, p, o2, o3, o4], 3, a, g, l, w, s))) (ys := (er (he, ke, ki, fi, fa, [o0, o2, o2, o3, o4], 3, a, g, l, w, s))) (M2 := (rSs (er (he, ke, ki, fi, fa, [o0, o2, o2, o3, o4], 3, a, g, l, w, s)))) rfl rfl (k := 48) (by decide) (by rw [er_leq (K := (he, ke, ki, fi, fa, [o0, p, o2, o3, o4], 3, a, g, l, w, s)) v1 rfl]; decide) (er_ors (K := (he, ke, ki, fi, fa, [o0, p, o2, o3, o4], 3, a, g, l, w, s)) v1 (j := 1)) rfl ?_
  refine mr_seg 5 (pc1 := 9) (ls1 := [some (.ref 139), some (.int (nI p)), some (.int 2)]) (st1 := [.int 0, .ref 139, .int 2]) (M1 := (rSs (er (he, ke, ki, fi, fa, [o0, o2, o2, o3, o4], 3, a, g, l, w, s)))) (fun f => rfl) ?_
  refine mr_ldn (xs := (er (he, ke, ki, fi, fa, [o0, o2, o2, o3, o4], 3, a, g, l, w, s))) rfl rfl (k := 0) (by decide) rfl ?_
  refine mr_seg 2 (pc1 := 12) (ls1 := [some (.ref 139), some (.int (nI p)), some (.int 2)]) (st1 := [.int (3 - 1), .int 2]) (M1 := (rSs (er (he, ke, ki, fi, fa, [o0, o2, o2, o3, o4], 3, a, g, l, w, s)))) (fun f => rfl) ?_
  refine mr_v (show (3 : Int32) - 1 = 2 by decide) ?_
  refine mr_seg 5 (pc1 := 40) (ls1 := [some (.ref 139), some (.int (nI p)), some (.int 2)]) (st1 := [.int 0, .ref 139, .int 47, .ref 139]) (M1 := (rSs (er (he, ke, ki, fi, fa, [o0, o2, o2, o3, o4], 3, a, g, l, w, s)))) (fun f => rfl) ?_
  refine mr_ldn (xs := (er (he, ke, ki, fi, fa, [o0, o2, o2, o3, o4], 3, a, g, l, w, s))) rfl rfl (k := 0) (by decide) rfl ?_
  refine mr_seg 3 (pc1 := 44) (ls1 := [some (.ref 139), some (.int (nI p)), some (.int 2)]) (st1 := [.int (50 - 1), .ref 139]) (M1 := (rSs (er (he, ke, ki, fi, fa, [o0, o2, o2, o3, o4], 3, a, g, l, w, s)))) (fun f => rfl) ?_
  refine mr_v (show (50 : Int32) - 1 = 49 by decide) ?_
  refine mr_seg 1 (pc1 := 45) (ls1 := [some (.ref 139), some (.int (nI p)), some (.int 2)]) (st1 := [.int (nI p), .int 49, .ref 139]) (M1 := (rSs (er (he, ke, ki, fi, fa, [o0, o2, o2, o3, o4], 3, a, g, l, w, s)))) (fun f => rfl) ?_
  refine mr_stn (xs := (er (he, ke, ki, fi, fa, [o0, o2, o2, o3, o4], 3, a, g, l, w, s))) (ys := (er (he, ke, ki, fi, fa, [o0, o2, p, o3, o4], 3, a, g, l, w, s))) (M2 := (rSs (er (he, ke, ki, fi, fa, [o0, o2, p, o3, o4], 3, a, g, l, w, s)))) rfl rfl (k := 49) (by decide) (by rw [er_leq (K := (he, ke, ki, fi, fa, [o0, o2, o2, o3, o4], 3, a, g, l, w, s)) v1 rfl]; decide) (er_ors (K := (he, ke, ki, fi, fa, [o0, o2, o2, o3, o4], 3, a, g, l, w, s)) v1 (j := 2)) rfl ?_
  refine mr_eq (mr_ret 1 (o := (none, (rSs (er (he, ke, ki, fi, fa, [o0, o2, p, o3, o4], 3, a, g, l, w, s))))) (fun f => rfl)) ?_
  have e : klast [o0, p, o2, o3, o4] 3 p = [o0, o2, p, o3, o4] := by simp [klast, q0, q2]
  rw [e]
set_option maxRecDepth 100000 in
theorem rc_last_s_3_2 (he ke ki fi fa : List Nat) (a g l w s p o0 o1 o3 o4 : Nat) (v1 : he.length = 25) (q0 : ¬ o0 = p) (q1 : ¬ o1 = p) (hp : p < 5) (b0 : o0 < 5) (b1 : o1 < 5) (b3 : o3 < 5) (b4 : o4 < 5) : mm_R 143 0 [some (.ref 139), some (.int (nI p)), none] [] (rSs (er (he, ke, ki, fi, fa, [o0, o1, p, o3, o4], 3, a, g, l, w, s))) (none, rSs (er (he, ke, ki, fi, fa, klast [o0, o1, p, o3, o4] 3 p, 3, a, g, l, w, s))) := by
  refine mr_seg 2 (pc1 := 2) (ls1 := [some (.ref 139), some (.int (nI p)), none]) (st1 := [.int (nI p), .ref 139]) (M1 := (rSs (er (he, ke, ki, fi, fa, [o0, o1, p, o3, o4], 3, a, g, l, w, s)))) (fun f => rfl) ?_
  refine mr_call (y := 144) (y0 := 5) (L := [some (.ref 139), some (.int (nI p)), none]) (rest := []) (rr := some (.int 2)) (M1 := (rSs (er (he, ke, ki, fi, fa, [o0, o1, p, o3, o4], 3, a, g, l, w, s)))) (fun f => rfl) (rc_place_s_3_2 he ke ki fi fa a g l w s p o0 o1 o3 o4 v1 q0 q1 hp b0 b1 b3 b4) ?_
  refine mr_seg 4 (pc1 := 9) (ls1 := [some (.ref 139), some (.int (nI p)), some (.int 2)]) (st1 := [.int 0, .ref 139, .int 2]) (M1 := (rSs (er (he, ke, ki, fi, fa, [o0, o1, p, o3, o4], 3, a, g, l, w, s)))) (fun f => rfl) ?_
  refine mr_ldn (xs := (er (he, ke, ki, fi, fa, [o0, o1, p, o3, o4], 3, a, g, l, w, s))) rfl rfl (k := 0) (by decide) rfl ?_
  refine mr_seg 2 (pc1 := 12) (ls1 := [some (.ref 139), some (.int (nI p)), some (.int 2)]) (st1 := [.int (3 - 1), .int 2]) (M1 := (rSs (er (he, ke, ki, fi, fa, [o0, o1, p, o3, o4], 3, a, g, l, w, s)))) (fun f => rfl) ?_
  refine mr_v (show (3 : Int32) - 1 = 2 by decide) ?_
  refine mr_seg 5 (pc1 := 40) (ls1 := [some (.ref 139), some (.int (nI p)), some (.int 2)]) (st1 := [.int 0, .ref 139, .int 47, .ref 139]) (M1 := (rSs (er (he, ke, ki, fi, fa, [o0, o1, p, o3, o4], 3, a, g, l, w, s)))) (fun f => rfl) ?_
  refine mr_ldn (xs := (er (he, ke, ki, fi, fa, [o0, o1, p, o3, o4], 3, a, g, l, w, s))) rfl rfl (k := 0) (by decide) rfl ?_
  refine mr_seg 3 (pc1 := 44) (ls1 := [some (.ref 139), some (.int (nI p)), some (.int 2)]) (st1 := [.int (50 - 1), .ref 139]) (M1 := (rSs (er (he, ke, ki, fi, fa, [o0, o1, p, o3, o4], 3, a, g, l, w, s)))) (fun f => rfl) ?_
  refine mr_v (show (50 : Int32) - 1 = 49 by decide) ?_
  refine mr_seg 1 (pc1 := 45) (ls1 := [some (.ref 139), some (.int (nI p)), some (.int 2)]) (st1 := [.int (nI p), .int 49, .ref 139]) (M1 := (rSs (er (he, ke, ki, fi, fa, [o0, o1, p, o3, o4], 3, a, g, l, w, s)))) (fun f => rfl) ?_
  refine mr_stn (xs := (er (he, ke, ki, fi, fa, [o0, o1, p, o3, o4], 3, a, g, l, w, s))) (ys := (er (he, ke, ki, fi, fa, [o0, o1, p, o3, o4], 3, a, g, l, w, s))) (M2 := (rSs (er (he, ke, ki, fi, fa, [o0, o1, p, o3, o4], 3, a, g, l, w, s)))) rfl rfl (k := 49) (by decide) (by rw [er_leq (K := (he, ke, ki, fi, fa, [o0, o1, p, o3, o4], 3, a, g, l, w, s)) v1 rfl]; decide) (er_ors (K := (he, ke, ki, fi, fa, [o0, o1, p, o3, o4], 3, a, g, l, w, s)) v1 (j := 2)) rfl ?_
  refine mr_eq (mr_ret 1 (o := (none, (rSs (er (he, ke, ki, fi, fa, [o0, o1, p, o3, o4], 3, a, g, l, w, s))))) (fun f => rfl)) ?_
  have e : klast [o0, o1, p, o3, o4] 3 p = [o0, o1, p, o3, o4] := by simp [klast, q0, q1]
  rw [e]
set_option maxRecDepth 100000 in
theorem rc_last_s_4_0 (he ke ki fi fa : List Nat) (a g l w s p o1 o2 o3 o4 : Nat) (v1 : he.length = 25) (q1 : ¬ o1 = p) (q2 : ¬ o2 = p) (q3 : ¬ o3 = p) (hp : p < 5) (b1 : o1 < 5) (b2 : o2 < 5) (b3 : o3 < 5) (b4 : o4 < 5) : mm_R 143 0 [some (.ref 139), some (.int (nI p)), none] [] (rSs (er (he, ke, ki, fi, fa, [p, o1, o2, o3, o4], 4, a, g, l, w, s))) (none, rSs (er (he, ke, ki, fi, fa, klast [p, o1, o2, o3, o4] 4 p, 4, a, g, l, w, s))) := by
  refine mr_seg 2 (pc1 := 2) (ls1 := [some (.ref 139), some (.int (nI p)), none]) (st1 := [.int (nI p), .ref 139]) (M1 := (rSs (er (he, ke, ki, fi, fa, [p, o1, o2, o3, o4], 4, a, g, l, w, s)))) (fun f => rfl) ?_
  refine mr_call (y := 144) (y0 := 5) (L := [some (.ref 139), some (.int (nI p)), none]) (rest := []) (rr := some (.int 0)) (M1 := (rSs (er (he, ke, ki, fi, fa, [p, o1, o2, o3, o4], 4, a, g, l, w, s)))) (fun f => rfl) (rc_place_s_4_0 he ke ki fi fa a g l w s p o1 o2 o3 o4 v1 q1 q2 q3 hp b1 b2 b3 b4) ?_
  refine mr_seg 4 (pc1 := 9) (ls1 := [some (.ref 139), some (.int (nI p)), some (.int 0)]) (st1 := [.int 0, .ref 139, .int 0]) (M1 := (rSs (er (he, ke, ki, fi, fa, [p, o1, o2, o3, o4], 4, a, g, l, w, s)))) (fun f => rfl) ?_
  refine mr_ldn (xs := (er (he, ke, ki, fi, fa, [p, o1, o2, o3, o4], 4, a, g, l, w, s))) rfl rfl (k := 0) (by decide) rfl ?_
  refine mr_seg 2 (pc1 := 12) (ls1 := [some (.ref 139), some (.int (nI p)), some (.int 0)]) (st1 := [.int (4 - 1), .int 0]) (M1 := (rSs (er (he, ke, ki, fi, fa, [p, o1, o2, o3, o4], 4, a, g, l, w, s)))) (fun f => rfl) ?_
  refine mr_v (show (4 : Int32) - 1 = 3 by decide) ?_
  refine mr_seg 11 (pc1 := 27) (ls1 := [some (.ref 139), some (.int (nI p)), some (.int 0)]) (st1 := [.int 48, .ref 139, .int 47, .ref 139]) (M1 := (rSs (er (he, ke, ki, fi, fa, [p, o1, o2, o3, o4], 4, a, g, l, w, s)))) (fun f => rfl) ?_
  refine mr_ldn (xs := (er (he, ke, ki, fi, fa, [p, o1, o2, o3, o4], 4, a, g, l, w, s))) rfl rfl (k := 48) (by decide) (er_or (K := (he, ke, ki, fi, fa, [p, o1, o2, o3, o4], 4, a, g, l, w, s)) v1 rfl (j := 1) (by decide)) ?_
  refine mr_stn (xs := (er (he, ke, ki, fi, fa, [p, o1, o2, o3, o4], 4, a, g, l, w, s))) (ys := (er (he, ke, ki, fi, fa, [o1, o1, o2, o3, o4], 4, a, g, l, w, s))) (M2 := (rSs (er (he, ke, ki, fi, fa, [o1, o1, o2, o3, o4], 4, a, g, l, w, s)))) rfl rfl (k := 47) (by decide) (by rw [er_leq (K := (he, ke, ki, fi, fa, [p, o1, o2, o3, o4], 4, a, g, l, w, s)) v1 rfl]; decide) (er_ors (K := (he, ke, ki, fi, fa, [p, o1, o2, o3, o4], 4, a, g, l, w, s)) v1 (j := 0)) rfl ?_
  refine mr_seg 5 (pc1 := 9) (ls1 := [some (.ref 139), some (.int (nI p)), some (.int 1)]) (st1 := [.int 0, .ref 139, .int 1]) (M1 := (rSs (er (he, ke, ki, fi, fa, [o1, o1, o2, o3, o4], 4, a, g, l, w, s)))) (fun f => rfl) ?_
  refine mr_ldn (xs := (er (he, ke, ki, fi, fa, [o1, o1, o2, o3, o4], 4, a, g, l, w, s))) rfl rfl (k := 0) (by decide) rfl ?_
  refine mr_seg 2 (pc1 := 12) (ls1 := [some (.ref 139), some (.int (nI p)), some (.int 1)]) (st1 := [.int (4 - 1), .int 1]) (M1 := (rSs (er (he, ke, ki, fi, fa, [o1, o1, o2, o3, o4], 4, a, g, l, w, s)))) (fun f => rfl) ?_
  refine mr_v (show (4 : Int32) - 1 = 3 by decide) ?_
  refine mr_seg 11 (pc1 := 27) (ls1 := [some (.ref 139), some (.int (nI p)), some (.int 1)]) (st1 := [.int 49, .ref 139, .int 48, .ref 139]) (M1 := (rSs (er (he, ke, ki, fi, fa, [o1, o1, o2, o3, o4], 4, a, g, l, w, s)))) (fun f => rfl) ?_
  refine mr_ldn (xs := (er (he, ke, ki, fi, fa, [o1, o1, o2, o3, o4], 4, a, g, l, w, s))) rfl rfl (k := 49) (by decide) (er_or (K := (he, ke, ki, fi, fa, [o1, o1, o2, o3, o4], 4, a, g, l, w, s)) v1 rfl (j := 2) (by decide)) ?_
  refine mr_stn (xs := (er (he, ke, ki, fi, fa, [o1, o1, o2, o3, o4], 4, a, g, l, w, s))) (ys := (er (he, ke, ki, fi, fa, [o1, o2, o2, o3, o4], 4, a, g, l, w, s))) (M2 := (rSs (er (he, ke, ki, fi, fa, [o1, o2, o2, o3, o4], 4, a, g, l, w, s)))) rfl rfl (k := 48) (by decide) (by rw [er_leq (K := (he, ke, ki, fi, fa, [o1, o1, o2, o3, o4], 4, a, g, l, w, s)) v1 rfl]; decide) (er_ors (K := (he, ke, ki, fi, fa, [o1, o1, o2, o3, o4], 4, a, g, l, w, s)) v1 (j := 1)) rfl ?_
  refine mr_seg 5 (pc1 := 9) (ls1 := [some (.ref 139), some (.int (nI p)), some (.int 2)]) (st1 := [.int 0, .ref 139, .int 2]) (M1 := (rSs (er (he, ke, ki, fi, fa, [o1, o2, o2, o3, o4], 4, a, g, l, w, s)))) (fun f => rfl) ?_
  refine mr_ldn (xs := (er (he, ke, ki, fi, fa, [o1, o2, o2, o3, o4], 4, a, g, l, w, s))) rfl rfl (k := 0) (by decide) rfl ?_
  refine mr_seg 2 (pc1 := 12) (ls1 := [some (.ref 139), some (.int (nI p)), some (.int 2)]) (st1 := [.int (4 - 1), .int 2]) (M1 := (rSs (er (he, ke, ki, fi, fa, [o1, o2, o2, o3, o4], 4, a, g, l, w, s)))) (fun f => rfl) ?_
  refine mr_v (show (4 : Int32) - 1 = 3 by decide) ?_
  refine mr_seg 11 (pc1 := 27) (ls1 := [some (.ref 139), some (.int (nI p)), some (.int 2)]) (st1 := [.int 50, .ref 139, .int 49, .ref 139]) (M1 := (rSs (er (he, ke, ki, fi, fa, [o1, o2, o2, o3, o4], 4, a, g, l, w, s)))) (fun f => rfl) ?_
  refine mr_ldn (xs := (er (he, ke, ki, fi, fa, [o1, o2, o2, o3, o4], 4, a, g, l, w, s))) rfl rfl (k := 50) (by decide) (er_or (K := (he, ke, ki, fi, fa, [o1, o2, o2, o3, o4], 4, a, g, l, w, s)) v1 rfl (j := 3) (by decide)) ?_
  refine mr_stn (xs := (er (he, ke, ki, fi, fa, [o1, o2, o2, o3, o4], 4, a, g, l, w, s))) (ys := (er (he, ke, ki, fi, fa, [o1, o2, o3, o3, o4], 4, a, g, l, w, s))) (M2 := (rSs (er (he, ke, ki, fi, fa, [o1, o2, o3, o3, o4], 4, a, g, l, w, s)))) rfl rfl (k := 49) (by decide) (by rw [er_leq (K := (he, ke, ki, fi, fa, [o1, o2, o2, o3, o4], 4, a, g, l, w, s)) v1 rfl]; decide) (er_ors (K := (he, ke, ki, fi, fa, [o1, o2, o2, o3, o4], 4, a, g, l, w, s)) v1 (j := 2)) rfl ?_
  refine mr_seg 5 (pc1 := 9) (ls1 := [some (.ref 139), some (.int (nI p)), some (.int 3)]) (st1 := [.int 0, .ref 139, .int 3]) (M1 := (rSs (er (he, ke, ki, fi, fa, [o1, o2, o3, o3, o4], 4, a, g, l, w, s)))) (fun f => rfl) ?_
  refine mr_ldn (xs := (er (he, ke, ki, fi, fa, [o1, o2, o3, o3, o4], 4, a, g, l, w, s))) rfl rfl (k := 0) (by decide) rfl ?_
  refine mr_seg 2 (pc1 := 12) (ls1 := [some (.ref 139), some (.int (nI p)), some (.int 3)]) (st1 := [.int (4 - 1), .int 3]) (M1 := (rSs (er (he, ke, ki, fi, fa, [o1, o2, o3, o3, o4], 4, a, g, l, w, s)))) (fun f => rfl) ?_
  refine mr_v (show (4 : Int32) - 1 = 3 by decide) ?_
  refine mr_seg 5 (pc1 := 40) (ls1 := [some (.ref 139), some (.int (nI p)), some (.int 3)]) (st1 := [.int 0, .ref 139, .int 47, .ref 139]) (M1 := (rSs (er (he, ke, ki, fi, fa, [o1, o2, o3, o3, o4], 4, a, g, l, w, s)))) (fun f => rfl) ?_
  refine mr_ldn (xs := (er (he, ke, ki, fi, fa, [o1, o2, o3, o3, o4], 4, a, g, l, w, s))) rfl rfl (k := 0) (by decide) rfl ?_
  refine mr_seg 3 (pc1 := 44) (ls1 := [some (.ref 139), some (.int (nI p)), some (.int 3)]) (st1 := [.int (51 - 1), .ref 139]) (M1 := (rSs (er (he, ke, ki, fi, fa, [o1, o2, o3, o3, o4], 4, a, g, l, w, s)))) (fun f => rfl) ?_
  refine mr_v (show (51 : Int32) - 1 = 50 by decide) ?_
  refine mr_seg 1 (pc1 := 45) (ls1 := [some (.ref 139), some (.int (nI p)), some (.int 3)]) (st1 := [.int (nI p), .int 50, .ref 139]) (M1 := (rSs (er (he, ke, ki, fi, fa, [o1, o2, o3, o3, o4], 4, a, g, l, w, s)))) (fun f => rfl) ?_
  refine mr_stn (xs := (er (he, ke, ki, fi, fa, [o1, o2, o3, o3, o4], 4, a, g, l, w, s))) (ys := (er (he, ke, ki, fi, fa, [o1, o2, o3, p, o4], 4, a, g, l, w, s))) (M2 := (rSs (er (he, ke, ki, fi, fa, [o1, o2, o3, p, o4], 4, a, g, l, w, s)))) rfl rfl (k := 50) (by decide) (by rw [er_leq (K := (he, ke, ki, fi, fa, [o1, o2, o3, o3, o4], 4, a, g, l, w, s)) v1 rfl]; decide) (er_ors (K := (he, ke, ki, fi, fa, [o1, o2, o3, o3, o4], 4, a, g, l, w, s)) v1 (j := 3)) rfl ?_
  refine mr_eq (mr_ret 1 (o := (none, (rSs (er (he, ke, ki, fi, fa, [o1, o2, o3, p, o4], 4, a, g, l, w, s))))) (fun f => rfl)) ?_
  have e : klast [p, o1, o2, o3, o4] 4 p = [o1, o2, o3, p, o4] := by simp [klast, q1, q2, q3]
  rw [e]
set_option maxRecDepth 100000 in
theorem rc_last_s_4_1 (he ke ki fi fa : List Nat) (a g l w s p o0 o2 o3 o4 : Nat) (v1 : he.length = 25) (q0 : ¬ o0 = p) (q2 : ¬ o2 = p) (q3 : ¬ o3 = p) (hp : p < 5) (b0 : o0 < 5) (b2 : o2 < 5) (b3 : o3 < 5) (b4 : o4 < 5) : mm_R 143 0 [some (.ref 139), some (.int (nI p)), none] [] (rSs (er (he, ke, ki, fi, fa, [o0, p, o2, o3, o4], 4, a, g, l, w, s))) (none, rSs (er (he, ke, ki, fi, fa, klast [o0, p, o2, o3, o4] 4 p, 4, a, g, l, w, s))) := by
  refine mr_seg 2 (pc1 := 2) (ls1 := [some (.ref 139), some (.int (nI p)), none]) (st1 := [.int (nI p), .ref 139]) (M1 := (rSs (er (he, ke, ki, fi, fa, [o0, p, o2, o3, o4], 4, a, g, l, w, s)))) (fun f => rfl) ?_
  refine mr_call (y := 144) (y0 := 5) (L := [some (.ref 139), some (.int (nI p)), none]) (rest := []) (rr := some (.int 1)) (M1 := (rSs (er (he, ke, ki, fi, fa, [o0, p, o2, o3, o4], 4, a, g, l, w, s)))) (fun f => rfl) (rc_place_s_4_1 he ke ki fi fa a g l w s p o0 o2 o3 o4 v1 q0 q2 q3 hp b0 b2 b3 b4) ?_
  refine mr_seg 4 (pc1 := 9) (ls1 := [some (.ref 139), some (.int (nI p)), some (.int 1)]) (st1 := [.int 0, .ref 139, .int 1]) (M1 := (rSs (er (he, ke, ki, fi, fa, [o0, p, o2, o3, o4], 4, a, g, l, w, s)))) (fun f => rfl) ?_
  refine mr_ldn (xs := (er (he, ke, ki, fi, fa, [o0, p, o2, o3, o4], 4, a, g, l, w, s))) rfl rfl (k := 0) (by decide) rfl ?_
  refine mr_seg 2 (pc1 := 12) (ls1 := [some (.ref 139), some (.int (nI p)), some (.int 1)]) (st1 := [.int (4 - 1), .int 1]) (M1 := (rSs (er (he, ke, ki, fi, fa, [o0, p, o2, o3, o4], 4, a, g, l, w, s)))) (fun f => rfl) ?_
  refine mr_v (show (4 : Int32) - 1 = 3 by decide) ?_
  refine mr_seg 11 (pc1 := 27) (ls1 := [some (.ref 139), some (.int (nI p)), some (.int 1)]) (st1 := [.int 49, .ref 139, .int 48, .ref 139]) (M1 := (rSs (er (he, ke, ki, fi, fa, [o0, p, o2, o3, o4], 4, a, g, l, w, s)))) (fun f => rfl) ?_
  refine mr_ldn (xs := (er (he, ke, ki, fi, fa, [o0, p, o2, o3, o4], 4, a, g, l, w, s))) rfl rfl (k := 49) (by decide) (er_or (K := (he, ke, ki, fi, fa, [o0, p, o2, o3, o4], 4, a, g, l, w, s)) v1 rfl (j := 2) (by decide)) ?_
  refine mr_stn (xs := (er (he, ke, ki, fi, fa, [o0, p, o2, o3, o4], 4, a, g, l, w, s))) (ys := (er (he, ke, ki, fi, fa, [o0, o2, o2, o3, o4], 4, a, g, l, w, s))) (M2 := (rSs (er (he, ke, ki, fi, fa, [o0, o2, o2, o3, o4], 4, a, g, l, w, s)))) rfl rfl (k := 48) (by decide) (by rw [er_leq (K := (he, ke, ki, fi, fa, [o0, p, o2, o3, o4], 4, a, g, l, w, s)) v1 rfl]; decide) (er_ors (K := (he, ke, ki, fi, fa, [o0, p, o2, o3, o4], 4, a, g, l, w, s)) v1 (j := 1)) rfl ?_
  refine mr_seg 5 (pc1 := 9) (ls1 := [some (.ref 139), some (.int (nI p)), some (.int 2)]) (st1 := [.int 0, .ref 139, .int 2]) (M1 := (rSs (er (he, ke, ki, fi, fa, [o0, o2, o2, o3, o4], 4, a, g, l, w, s)))) (fun f => rfl) ?_
  refine mr_ldn (xs := (er (he, ke, ki, fi, fa, [o0, o2, o2, o3, o4], 4, a, g, l, w, s))) rfl rfl (k := 0) (by decide) rfl ?_
  refine mr_seg 2 (pc1 := 12) (ls1 := [some (.ref 139), some (.int (nI p)), some (.int 2)]) (st1 := [.int (4 - 1), .int 2]) (M1 := (rSs (er (he, ke, ki, fi, fa, [o0, o2, o2, o3, o4], 4, a, g, l, w, s)))) (fun f => rfl) ?_
  refine mr_v (show (4 : Int32) - 1 = 3 by decide) ?_
  refine mr_seg 11 (pc1 := 27) (ls1 := [some (.ref 139), some (.int (nI p)), some (.int 2)]) (st1 := [.int 50, .ref 139, .int 49, .ref 139]) (M1 := (rSs (er (he, ke, ki, fi, fa, [o0, o2, o2, o3, o4], 4, a, g, l, w, s)))) (fun f => rfl) ?_
  refine mr_ldn (xs := (er (he, ke, ki, fi, fa, [o0, o2, o2, o3, o4], 4, a, g, l, w, s))) rfl rfl (k := 50) (by decide) (er_or (K := (he, ke, ki, fi, fa, [o0, o2, o2, o3, o4], 4, a, g, l, w, s)) v1 rfl (j := 3) (by decide)) ?_
  refine mr_stn (xs := (er (he, ke, ki, fi, fa, [o0, o2, o2, o3, o4], 4, a, g, l, w, s))) (ys := (er (he, ke, ki, fi, fa, [o0, o2, o3, o3, o4], 4, a, g, l, w, s))) (M2 := (rSs (er (he, ke, ki, fi, fa, [o0, o2, o3, o3, o4], 4, a, g, l, w, s)))) rfl rfl (k := 49) (by decide) (by rw [er_leq (K := (he, ke, ki, fi, fa, [o0, o2, o2, o3, o4], 4, a, g, l, w, s)) v1 rfl]; decide) (er_ors (K := (he, ke, ki, fi, fa, [o0, o2, o2, o3, o4], 4, a, g, l, w, s)) v1 (j := 2)) rfl ?_
  refine mr_seg 5 (pc1 := 9) (ls1 := [some (.ref 139), some (.int (nI p)), some (.int 3)]) (st1 := [.int 0, .ref 139, .int 3]) (M1 := (rSs (er (he, ke, ki, fi, fa, [o0, o2, o3, o3, o4], 4, a, g, l, w, s)))) (fun f => rfl) ?_
  refine mr_ldn (xs := (er (he, ke, ki, fi, fa, [o0, o2, o3, o3, o4], 4, a, g, l, w, s))) rfl rfl (k := 0) (by decide) rfl ?_
  refine mr_seg 2 (pc1 := 12) (ls1 := [some (.ref 139), some (.int (nI p)), some (.int 3)]) (st1 := [.int (4 - 1), .int 3]) (M1 := (rSs (er (he, ke, ki, fi, fa, [o0, o2, o3, o3, o4], 4, a, g, l, w, s)))) (fun f => rfl) ?_
  refine mr_v (show (4 : Int32) - 1 = 3 by decide) ?_
  refine mr_seg 5 (pc1 := 40) (ls1 := [some (.ref 139), some (.int (nI p)), some (.int 3)]) (st1 := [.int 0, .ref 139, .int 47, .ref 139]) (M1 := (rSs (er (he, ke, ki, fi, fa, [o0, o2, o3, o3, o4], 4, a, g, l, w, s)))) (fun f => rfl) ?_
  refine mr_ldn (xs := (er (he, ke, ki, fi, fa, [o0, o2, o3, o3, o4], 4, a, g, l, w, s))) rfl rfl (k := 0) (by decide) rfl ?_
  refine mr_seg 3 (pc1 := 44) (ls1 := [some (.ref 139), some (.int (nI p)), some (.int 3)]) (st1 := [.int (51 - 1), .ref 139]) (M1 := (rSs (er (he, ke, ki, fi, fa, [o0, o2, o3, o3, o4], 4, a, g, l, w, s)))) (fun f => rfl) ?_
  refine mr_v (show (51 : Int32) - 1 = 50 by decide) ?_
  refine mr_seg 1 (pc1 := 45) (ls1 := [some (.ref 139), some (.int (nI p)), some (.int 3)]) (st1 := [.int (nI p), .int 50, .ref 139]) (M1 := (rSs (er (he, ke, ki, fi, fa, [o0, o2, o3, o3, o4], 4, a, g, l, w, s)))) (fun f => rfl) ?_
  refine mr_stn (xs := (er (he, ke, ki, fi, fa, [o0, o2, o3, o3, o4], 4, a, g, l, w, s))) (ys := (er (he, ke, ki, fi, fa, [o0, o2, o3, p, o4], 4, a, g, l, w, s))) (M2 := (rSs (er (he, ke, ki, fi, fa, [o0, o2, o3, p, o4], 4, a, g, l, w, s)))) rfl rfl (k := 50) (by decide) (by rw [er_leq (K := (he, ke, ki, fi, fa, [o0, o2, o3, o3, o4], 4, a, g, l, w, s)) v1 rfl]; decide) (er_ors (K := (he, ke, ki, fi, fa, [o0, o2, o3, o3, o4], 4, a, g, l, w, s)) v1 (j := 3)) rfl ?_
  refine mr_eq (mr_ret 1 (o := (none, (rSs (er (he, ke, ki, fi, fa, [o0, o2, o3, p, o4], 4, a, g, l, w, s))))) (fun f => rfl)) ?_
  have e : klast [o0, p, o2, o3, o4] 4 p = [o0, o2, o3, p, o4] := by simp [klast, q0, q2, q3]
  rw [e]
set_option maxRecDepth 100000 in
theorem rc_last_s_4_2 (he ke ki fi fa : List Nat) (a g l w s p o0 o1 o3 o4 : Nat) (v1 : he.length = 25) (q0 : ¬ o0 = p) (q1 : ¬ o1 = p) (q3 : ¬ o3 = p) (hp : p < 5) (b0 : o0 < 5) (b1 : o1 < 5) (b3 : o3 < 5) (b4 : o4 < 5) : mm_R 143 0 [some (.ref 139), some (.int (nI p)), none] [] (rSs (er (he, ke, ki, fi, fa, [o0, o1, p, o3, o4], 4, a, g, l, w, s))) (none, rSs (er (he, ke, ki, fi, fa, klast [o0, o1, p, o3, o4] 4 p, 4, a, g, l, w, s))) := by
  refine mr_seg 2 (pc1 := 2) (ls1 := [some (.ref 139), some (.int (nI p)), none]) (st1 := [.int (nI p), .ref 139]) (M1 := (rSs (er (he, ke, ki, fi, fa, [o0, o1, p, o3, o4], 4, a, g, l, w, s)))) (fun f => rfl) ?_
  refine mr_call (y := 144) (y0 := 5) (L := [some (.ref 139), some (.int (nI p)), none]) (rest := []) (rr := some (.int 2)) (M1 := (rSs (er (he, ke, ki, fi, fa, [o0, o1, p, o3, o4], 4, a, g, l, w, s)))) (fun f => rfl) (rc_place_s_4_2 he ke ki fi fa a g l w s p o0 o1 o3 o4 v1 q0 q1 q3 hp b0 b1 b3 b4) ?_
  refine mr_seg 4 (pc1 := 9) (ls1 := [some (.ref 139), some (.int (nI p)), some (.int 2)]) (st1 := [.int 0, .ref 139, .int 2]) (M1 := (rSs (er (he, ke, ki, fi, fa, [o0, o1, p, o3, o4], 4, a, g, l, w, s)))) (fun f => rfl) ?_
  refine mr_ldn (xs := (er (he, ke, ki, fi, fa, [o0, o1, p, o3, o4], 4, a, g, l, w, s))) rfl rfl (k := 0) (by decide) rfl ?_
  refine mr_seg 2 (pc1 := 12) (ls1 := [some (.ref 139), some (.int (nI p)), some (.int 2)]) (st1 := [.int (4 - 1), .int 2]) (M1 := (rSs (er (he, ke, ki, fi, fa, [o0, o1, p, o3, o4], 4, a, g, l, w, s)))) (fun f => rfl) ?_
  refine mr_v (show (4 : Int32) - 1 = 3 by decide) ?_
  refine mr_seg 11 (pc1 := 27) (ls1 := [some (.ref 139), some (.int (nI p)), some (.int 2)]) (st1 := [.int 50, .ref 139, .int 49, .ref 139]) (M1 := (rSs (er (he, ke, ki, fi, fa, [o0, o1, p, o3, o4], 4, a, g, l, w, s)))) (fun f => rfl) ?_
  refine mr_ldn (xs := (er (he, ke, ki, fi, fa, [o0, o1, p, o3, o4], 4, a, g, l, w, s))) rfl rfl (k := 50) (by decide) (er_or (K := (he, ke, ki, fi, fa, [o0, o1, p, o3, o4], 4, a, g, l, w, s)) v1 rfl (j := 3) (by decide)) ?_
  refine mr_stn (xs := (er (he, ke, ki, fi, fa, [o0, o1, p, o3, o4], 4, a, g, l, w, s))) (ys := (er (he, ke, ki, fi, fa, [o0, o1, o3, o3, o4], 4, a, g, l, w, s))) (M2 := (rSs (er (he, ke, ki, fi, fa, [o0, o1, o3, o3, o4], 4, a, g, l, w, s)))) rfl rfl (k := 49) (by decide) (by rw [er_leq (K := (he, ke, ki, fi, fa, [o0, o1, p, o3, o4], 4, a, g, l, w, s)) v1 rfl]; decide) (er_ors (K := (he, ke, ki, fi, fa, [o0, o1, p, o3, o4], 4, a, g, l, w, s)) v1 (j := 2)) rfl ?_
  refine mr_seg 5 (pc1 := 9) (ls1 := [some (.ref 139), some (.int (nI p)), some (.int 3)]) (st1 := [.int 0, .ref 139, .int 3]) (M1 := (rSs (er (he, ke, ki, fi, fa, [o0, o1, o3, o3, o4], 4, a, g, l, w, s)))) (fun f => rfl) ?_
  refine mr_ldn (xs := (er (he, ke, ki, fi, fa, [o0, o1, o3, o3, o4], 4, a, g, l, w, s))) rfl rfl (k := 0) (by decide) rfl ?_
  refine mr_seg 2 (pc1 := 12) (ls1 := [some (.ref 139), some (.int (nI p)), some (.int 3)]) (st1 := [.int (4 - 1), .int 3]) (M1 := (rSs (er (he, ke, ki, fi, fa, [o0, o1, o3, o3, o4], 4, a, g, l, w, s)))) (fun f => rfl) ?_
  refine mr_v (show (4 : Int32) - 1 = 3 by decide) ?_
  refine mr_seg 5 (pc1 := 40) (ls1 := [some (.ref 139), some (.int (nI p)), some (.int 3)]) (st1 := [.int 0, .ref 139, .int 47, .ref 139]) (M1 := (rSs (er (he, ke, ki, fi, fa, [o0, o1, o3, o3, o4], 4, a, g, l, w, s)))) (fun f => rfl) ?_
  refine mr_ldn (xs := (er (he, ke, ki, fi, fa, [o0, o1, o3, o3, o4], 4, a, g, l, w, s))) rfl rfl (k := 0) (by decide) rfl ?_
  refine mr_seg 3 (pc1 := 44) (ls1 := [some (.ref 139), some (.int (nI p)), some (.int 3)]) (st1 := [.int (51 - 1), .ref 139]) (M1 := (rSs (er (he, ke, ki, fi, fa, [o0, o1, o3, o3, o4], 4, a, g, l, w, s)))) (fun f => rfl) ?_
  refine mr_v (show (51 : Int32) - 1 = 50 by decide) ?_
  refine mr_seg 1 (pc1 := 45) (ls1 := [some (.ref 139), some (.int (nI p)), some (.int 3)]) (st1 := [.int (nI p), .int 50, .ref 139]) (M1 := (rSs (er (he, ke, ki, fi, fa, [o0, o1, o3, o3, o4], 4, a, g, l, w, s)))) (fun f => rfl) ?_
  refine mr_stn (xs := (er (he, ke, ki, fi, fa, [o0, o1, o3, o3, o4], 4, a, g, l, w, s))) (ys := (er (he, ke, ki, fi, fa, [o0, o1, o3, p, o4], 4, a, g, l, w, s))) (M2 := (rSs (er (he, ke, ki, fi, fa, [o0, o1, o3, p, o4], 4, a, g, l, w, s)))) rfl rfl (k := 50) (by decide) (by rw [er_leq (K := (he, ke, ki, fi, fa, [o0, o1, o3, o3, o4], 4, a, g, l, w, s)) v1 rfl]; decide) (er_ors (K := (he, ke, ki, fi, fa, [o0, o1, o3, o3, o4], 4, a, g, l, w, s)) v1 (j := 3)) rfl ?_
  refine mr_eq (mr_ret 1 (o := (none, (rSs (er (he, ke, ki, fi, fa, [o0, o1, o3, p, o4], 4, a, g, l, w, s))))) (fun f => rfl)) ?_
  have e : klast [o0, o1, p, o3, o4] 4 p = [o0, o1, o3, p, o4] := by simp [klast, q0, q1, q3]
  rw [e]
set_option maxRecDepth 100000 in
theorem rc_last_s_4_3 (he ke ki fi fa : List Nat) (a g l w s p o0 o1 o2 o4 : Nat) (v1 : he.length = 25) (q0 : ¬ o0 = p) (q1 : ¬ o1 = p) (q2 : ¬ o2 = p) (hp : p < 5) (b0 : o0 < 5) (b1 : o1 < 5) (b2 : o2 < 5) (b4 : o4 < 5) : mm_R 143 0 [some (.ref 139), some (.int (nI p)), none] [] (rSs (er (he, ke, ki, fi, fa, [o0, o1, o2, p, o4], 4, a, g, l, w, s))) (none, rSs (er (he, ke, ki, fi, fa, klast [o0, o1, o2, p, o4] 4 p, 4, a, g, l, w, s))) := by
  refine mr_seg 2 (pc1 := 2) (ls1 := [some (.ref 139), some (.int (nI p)), none]) (st1 := [.int (nI p), .ref 139]) (M1 := (rSs (er (he, ke, ki, fi, fa, [o0, o1, o2, p, o4], 4, a, g, l, w, s)))) (fun f => rfl) ?_
  refine mr_call (y := 144) (y0 := 5) (L := [some (.ref 139), some (.int (nI p)), none]) (rest := []) (rr := some (.int 3)) (M1 := (rSs (er (he, ke, ki, fi, fa, [o0, o1, o2, p, o4], 4, a, g, l, w, s)))) (fun f => rfl) (rc_place_s_4_3 he ke ki fi fa a g l w s p o0 o1 o2 o4 v1 q0 q1 q2 hp b0 b1 b2 b4) ?_
  refine mr_seg 4 (pc1 := 9) (ls1 := [some (.ref 139), some (.int (nI p)), some (.int 3)]) (st1 := [.int 0, .ref 139, .int 3]) (M1 := (rSs (er (he, ke, ki, fi, fa, [o0, o1, o2, p, o4], 4, a, g, l, w, s)))) (fun f => rfl) ?_
  refine mr_ldn (xs := (er (he, ke, ki, fi, fa, [o0, o1, o2, p, o4], 4, a, g, l, w, s))) rfl rfl (k := 0) (by decide) rfl ?_
  refine mr_seg 2 (pc1 := 12) (ls1 := [some (.ref 139), some (.int (nI p)), some (.int 3)]) (st1 := [.int (4 - 1), .int 3]) (M1 := (rSs (er (he, ke, ki, fi, fa, [o0, o1, o2, p, o4], 4, a, g, l, w, s)))) (fun f => rfl) ?_
  refine mr_v (show (4 : Int32) - 1 = 3 by decide) ?_
  refine mr_seg 5 (pc1 := 40) (ls1 := [some (.ref 139), some (.int (nI p)), some (.int 3)]) (st1 := [.int 0, .ref 139, .int 47, .ref 139]) (M1 := (rSs (er (he, ke, ki, fi, fa, [o0, o1, o2, p, o4], 4, a, g, l, w, s)))) (fun f => rfl) ?_
  refine mr_ldn (xs := (er (he, ke, ki, fi, fa, [o0, o1, o2, p, o4], 4, a, g, l, w, s))) rfl rfl (k := 0) (by decide) rfl ?_
  refine mr_seg 3 (pc1 := 44) (ls1 := [some (.ref 139), some (.int (nI p)), some (.int 3)]) (st1 := [.int (51 - 1), .ref 139]) (M1 := (rSs (er (he, ke, ki, fi, fa, [o0, o1, o2, p, o4], 4, a, g, l, w, s)))) (fun f => rfl) ?_
  refine mr_v (show (51 : Int32) - 1 = 50 by decide) ?_
  refine mr_seg 1 (pc1 := 45) (ls1 := [some (.ref 139), some (.int (nI p)), some (.int 3)]) (st1 := [.int (nI p), .int 50, .ref 139]) (M1 := (rSs (er (he, ke, ki, fi, fa, [o0, o1, o2, p, o4], 4, a, g, l, w, s)))) (fun f => rfl) ?_
  refine mr_stn (xs := (er (he, ke, ki, fi, fa, [o0, o1, o2, p, o4], 4, a, g, l, w, s))) (ys := (er (he, ke, ki, fi, fa, [o0, o1, o2, p, o4], 4, a, g, l, w, s))) (M2 := (rSs (er (he, ke, ki, fi, fa, [o0, o1, o2, p, o4], 4, a, g, l, w, s)))) rfl rfl (k := 50) (by decide) (by rw [er_leq (K := (he, ke, ki, fi, fa, [o0, o1, o2, p, o4], 4, a, g, l, w, s)) v1 rfl]; decide) (er_ors (K := (he, ke, ki, fi, fa, [o0, o1, o2, p, o4], 4, a, g, l, w, s)) v1 (j := 3)) rfl ?_
  refine mr_eq (mr_ret 1 (o := (none, (rSs (er (he, ke, ki, fi, fa, [o0, o1, o2, p, o4], 4, a, g, l, w, s))))) (fun f => rfl)) ?_
  have e : klast [o0, o1, o2, p, o4] 4 p = [o0, o1, o2, p, o4] := by simp [klast, q0, q1, q2]
  rw [e]
set_option maxRecDepth 100000 in
theorem rc_last_s_5_0 (he ke ki fi fa : List Nat) (a g l w s p o1 o2 o3 o4 : Nat) (v1 : he.length = 25) (q1 : ¬ o1 = p) (q2 : ¬ o2 = p) (q3 : ¬ o3 = p) (q4 : ¬ o4 = p) (hp : p < 5) (b1 : o1 < 5) (b2 : o2 < 5) (b3 : o3 < 5) (b4 : o4 < 5) : mm_R 143 0 [some (.ref 139), some (.int (nI p)), none] [] (rSs (er (he, ke, ki, fi, fa, [p, o1, o2, o3, o4], 5, a, g, l, w, s))) (none, rSs (er (he, ke, ki, fi, fa, klast [p, o1, o2, o3, o4] 5 p, 5, a, g, l, w, s))) := by
  refine mr_seg 2 (pc1 := 2) (ls1 := [some (.ref 139), some (.int (nI p)), none]) (st1 := [.int (nI p), .ref 139]) (M1 := (rSs (er (he, ke, ki, fi, fa, [p, o1, o2, o3, o4], 5, a, g, l, w, s)))) (fun f => rfl) ?_
  refine mr_call (y := 144) (y0 := 5) (L := [some (.ref 139), some (.int (nI p)), none]) (rest := []) (rr := some (.int 0)) (M1 := (rSs (er (he, ke, ki, fi, fa, [p, o1, o2, o3, o4], 5, a, g, l, w, s)))) (fun f => rfl) (rc_place_s_5_0 he ke ki fi fa a g l w s p o1 o2 o3 o4 v1 q1 q2 q3 q4 hp b1 b2 b3 b4) ?_
  refine mr_seg 4 (pc1 := 9) (ls1 := [some (.ref 139), some (.int (nI p)), some (.int 0)]) (st1 := [.int 0, .ref 139, .int 0]) (M1 := (rSs (er (he, ke, ki, fi, fa, [p, o1, o2, o3, o4], 5, a, g, l, w, s)))) (fun f => rfl) ?_
  refine mr_ldn (xs := (er (he, ke, ki, fi, fa, [p, o1, o2, o3, o4], 5, a, g, l, w, s))) rfl rfl (k := 0) (by decide) rfl ?_
  refine mr_seg 2 (pc1 := 12) (ls1 := [some (.ref 139), some (.int (nI p)), some (.int 0)]) (st1 := [.int (5 - 1), .int 0]) (M1 := (rSs (er (he, ke, ki, fi, fa, [p, o1, o2, o3, o4], 5, a, g, l, w, s)))) (fun f => rfl) ?_
  refine mr_v (show (5 : Int32) - 1 = 4 by decide) ?_
  refine mr_seg 11 (pc1 := 27) (ls1 := [some (.ref 139), some (.int (nI p)), some (.int 0)]) (st1 := [.int 48, .ref 139, .int 47, .ref 139]) (M1 := (rSs (er (he, ke, ki, fi, fa, [p, o1, o2, o3, o4], 5, a, g, l, w, s)))) (fun f => rfl) ?_
  refine mr_ldn (xs := (er (he, ke, ki, fi, fa, [p, o1, o2, o3, o4], 5, a, g, l, w, s))) rfl rfl (k := 48) (by decide) (er_or (K := (he, ke, ki, fi, fa, [p, o1, o2, o3, o4], 5, a, g, l, w, s)) v1 rfl (j := 1) (by decide)) ?_
  refine mr_stn (xs := (er (he, ke, ki, fi, fa, [p, o1, o2, o3, o4], 5, a, g, l, w, s))) (ys := (er (he, ke, ki, fi, fa, [o1, o1, o2, o3, o4], 5, a, g, l, w, s))) (M2 := (rSs (er (he, ke, ki, fi, fa, [o1, o1, o2, o3, o4], 5, a, g, l, w, s)))) rfl rfl (k := 47) (by decide) (by rw [er_leq (K := (he, ke, ki, fi, fa, [p, o1, o2, o3, o4], 5, a, g, l, w, s)) v1 rfl]; decide) (er_ors (K := (he, ke, ki, fi, fa, [p, o1, o2, o3, o4], 5, a, g, l, w, s)) v1 (j := 0)) rfl ?_
  refine mr_seg 5 (pc1 := 9) (ls1 := [some (.ref 139), some (.int (nI p)), some (.int 1)]) (st1 := [.int 0, .ref 139, .int 1]) (M1 := (rSs (er (he, ke, ki, fi, fa, [o1, o1, o2, o3, o4], 5, a, g, l, w, s)))) (fun f => rfl) ?_
  refine mr_ldn (xs := (er (he, ke, ki, fi, fa, [o1, o1, o2, o3, o4], 5, a, g, l, w, s))) rfl rfl (k := 0) (by decide) rfl ?_
  refine mr_seg 2 (pc1 := 12) (ls1 := [some (.ref 139), some (.int (nI p)), some (.int 1)]) (st1 := [.int (5 - 1), .int 1]) (M1 := (rSs (er (he, ke, ki, fi, fa, [o1, o1, o2, o3, o4], 5, a, g, l, w, s)))) (fun f => rfl) ?_
  refine mr_v (show (5 : Int32) - 1 = 4 by decide) ?_
  refine mr_seg 11 (pc1 := 27) (ls1 := [some (.ref 139), some (.int (nI p)), some (.int 1)]) (st1 := [.int 49, .ref 139, .int 48, .ref 139]) (M1 := (rSs (er (he, ke, ki, fi, fa, [o1, o1, o2, o3, o4], 5, a, g, l, w, s)))) (fun f => rfl) ?_
  refine mr_ldn (xs := (er (he, ke, ki, fi, fa, [o1, o1, o2, o3, o4], 5, a, g, l, w, s))) rfl rfl (k := 49) (by decide) (er_or (K := (he, ke, ki, fi, fa, [o1, o1, o2, o3, o4], 5, a, g, l, w, s)) v1 rfl (j := 2) (by decide)) ?_
  refine mr_stn (xs := (er (he, ke, ki, fi, fa, [o1, o1, o2, o3, o4], 5, a, g, l, w, s))) (ys := (er (he, ke, ki, fi, fa, [o1, o2, o2, o3, o4], 5, a, g, l, w, s))) (M2 := (rSs (er (he, ke, ki, fi, fa, [o1, o2, o2, o3, o4], 5, a, g, l, w, s)))) rfl rfl (k := 48) (by decide) (by rw [er_leq (K := (he, ke, ki, fi, fa, [o1, o1, o2, o3, o4], 5, a, g, l, w, s)) v1 rfl]; decide) (er_ors (K := (he, ke, ki, fi, fa, [o1, o1, o2, o3, o4], 5, a, g, l, w, s)) v1 (j := 1)) rfl ?_
  refine mr_seg 5 (pc1 := 9) (ls1 := [some (.ref 139), some (.int (nI p)), some (.int 2)]) (st1 := [.int 0, .ref 139, .int 2]) (M1 := (rSs (er (he, ke, ki, fi, fa, [o1, o2, o2, o3, o4], 5, a, g, l, w, s)))) (fun f => rfl) ?_
  refine mr_ldn (xs := (er (he, ke, ki, fi, fa, [o1, o2, o2, o3, o4], 5, a, g, l, w, s))) rfl rfl (k := 0) (by decide) rfl ?_
  refine mr_seg 2 (pc1 := 12) (ls1 := [some (.ref 139), some (.int (nI p)), some (.int 2)]) (st1 := [.int (5 - 1), .int 2]) (M1 := (rSs (er (he, ke, ki, fi, fa, [o1, o2, o2, o3, o4], 5, a, g, l, w, s)))) (fun f => rfl) ?_
  refine mr_v (show (5 : Int32) - 1 = 4 by decide) ?_
  refine mr_seg 11 (pc1 := 27) (ls1 := [some (.ref 139), some (.int (nI p)), some (.int 2)]) (st1 := [.int 50, .ref 139, .int 49, .ref 139]) (M1 := (rSs (er (he, ke, ki, fi, fa, [o1, o2, o2, o3, o4], 5, a, g, l, w, s)))) (fun f => rfl) ?_
  refine mr_ldn (xs := (er (he, ke, ki, fi, fa, [o1, o2, o2, o3, o4], 5, a, g, l, w, s))) rfl rfl (k := 50) (by decide) (er_or (K := (he, ke, ki, fi, fa, [o1, o2, o2, o3, o4], 5, a, g, l, w, s)) v1 rfl (j := 3) (by decide)) ?_
  refine mr_stn (xs := (er (he, ke, ki, fi, fa, [o1, o2, o2, o3, o4], 5, a, g, l, w, s))) (ys := (er (he, ke, ki, fi, fa, [o1, o2, o3, o3, o4], 5, a, g, l, w, s))) (M2 := (rSs (er (he, ke, ki, fi, fa, [o1, o2, o3, o3, o4], 5, a, g, l, w, s)))) rfl rfl (k := 49) (by decide) (by rw [er_leq (K := (he, ke, ki, fi, fa, [o1, o2, o2, o3, o4], 5, a, g, l, w, s)) v1 rfl]; decide) (er_ors (K := (he, ke, ki, fi, fa, [o1, o2, o2, o3, o4], 5, a, g, l, w, s)) v1 (j := 2)) rfl ?_
  refine mr_seg 5 (pc1 := 9) (ls1 := [some (.ref 139), some (.int (nI p)), some (.int 3)]) (st1 := [.int 0, .ref 139, .int 3]) (M1 := (rSs (er (he, ke, ki, fi, fa, [o1, o2, o3, o3, o4], 5, a, g, l, w, s)))) (fun f => rfl) ?_
  refine mr_ldn (xs := (er (he, ke, ki, fi, fa, [o1, o2, o3, o3, o4], 5, a, g, l, w, s))) rfl rfl (k := 0) (by decide) rfl ?_
  refine mr_seg 2 (pc1 := 12) (ls1 := [some (.ref 139), some (.int (nI p)), some (.int 3)]) (st1 := [.int (5 - 1), .int 3]) (M1 := (rSs (er (he, ke, ki, fi, fa, [o1, o2, o3, o3, o4], 5, a, g, l, w, s)))) (fun f => rfl) ?_
  refine mr_v (show (5 : Int32) - 1 = 4 by decide) ?_
  refine mr_seg 11 (pc1 := 27) (ls1 := [some (.ref 139), some (.int (nI p)), some (.int 3)]) (st1 := [.int 51, .ref 139, .int 50, .ref 139]) (M1 := (rSs (er (he, ke, ki, fi, fa, [o1, o2, o3, o3, o4], 5, a, g, l, w, s)))) (fun f => rfl) ?_
  refine mr_ldn (xs := (er (he, ke, ki, fi, fa, [o1, o2, o3, o3, o4], 5, a, g, l, w, s))) rfl rfl (k := 51) (by decide) (er_or (K := (he, ke, ki, fi, fa, [o1, o2, o3, o3, o4], 5, a, g, l, w, s)) v1 rfl (j := 4) (by decide)) ?_
  refine mr_stn (xs := (er (he, ke, ki, fi, fa, [o1, o2, o3, o3, o4], 5, a, g, l, w, s))) (ys := (er (he, ke, ki, fi, fa, [o1, o2, o3, o4, o4], 5, a, g, l, w, s))) (M2 := (rSs (er (he, ke, ki, fi, fa, [o1, o2, o3, o4, o4], 5, a, g, l, w, s)))) rfl rfl (k := 50) (by decide) (by rw [er_leq (K := (he, ke, ki, fi, fa, [o1, o2, o3, o3, o4], 5, a, g, l, w, s)) v1 rfl]; decide) (er_ors (K := (he, ke, ki, fi, fa, [o1, o2, o3, o3, o4], 5, a, g, l, w, s)) v1 (j := 3)) rfl ?_
  refine mr_seg 5 (pc1 := 9) (ls1 := [some (.ref 139), some (.int (nI p)), some (.int 4)]) (st1 := [.int 0, .ref 139, .int 4]) (M1 := (rSs (er (he, ke, ki, fi, fa, [o1, o2, o3, o4, o4], 5, a, g, l, w, s)))) (fun f => rfl) ?_
  refine mr_ldn (xs := (er (he, ke, ki, fi, fa, [o1, o2, o3, o4, o4], 5, a, g, l, w, s))) rfl rfl (k := 0) (by decide) rfl ?_
  refine mr_seg 2 (pc1 := 12) (ls1 := [some (.ref 139), some (.int (nI p)), some (.int 4)]) (st1 := [.int (5 - 1), .int 4]) (M1 := (rSs (er (he, ke, ki, fi, fa, [o1, o2, o3, o4, o4], 5, a, g, l, w, s)))) (fun f => rfl) ?_
  refine mr_v (show (5 : Int32) - 1 = 4 by decide) ?_
  refine mr_seg 5 (pc1 := 40) (ls1 := [some (.ref 139), some (.int (nI p)), some (.int 4)]) (st1 := [.int 0, .ref 139, .int 47, .ref 139]) (M1 := (rSs (er (he, ke, ki, fi, fa, [o1, o2, o3, o4, o4], 5, a, g, l, w, s)))) (fun f => rfl) ?_
  refine mr_ldn (xs := (er (he, ke, ki, fi, fa, [o1, o2, o3, o4, o4], 5, a, g, l, w, s))) rfl rfl (k := 0) (by decide) rfl ?_
  refine mr_seg 3 (pc1 := 44) (ls1 := [some (.ref 139), some (.int (nI p)), some (.int 4)]) (st1 := [.int (52 - 1), .ref 139]) (M1 := (rSs (er (he, ke, ki, fi, fa, [o1, o2, o3, o4, o4], 5, a, g, l, w, s)))) (fun f => rfl) ?_
  refine mr_v (show (52 : Int32) - 1 = 51 by decide) ?_
  refine mr_seg 1 (pc1 := 45) (ls1 := [some (.ref 139), some (.int (nI p)), some (.int 4)]) (st1 := [.int (nI p), .int 51, .ref 139]) (M1 := (rSs (er (he, ke, ki, fi, fa, [o1, o2, o3, o4, o4], 5, a, g, l, w, s)))) (fun f => rfl) ?_
  refine mr_stn (xs := (er (he, ke, ki, fi, fa, [o1, o2, o3, o4, o4], 5, a, g, l, w, s))) (ys := (er (he, ke, ki, fi, fa, [o1, o2, o3, o4, p], 5, a, g, l, w, s))) (M2 := (rSs (er (he, ke, ki, fi, fa, [o1, o2, o3, o4, p], 5, a, g, l, w, s)))) rfl rfl (k := 51) (by decide) (by rw [er_leq (K := (he, ke, ki, fi, fa, [o1, o2, o3, o4, o4], 5, a, g, l, w, s)) v1 rfl]; decide) (er_ors (K := (he, ke, ki, fi, fa, [o1, o2, o3, o4, o4], 5, a, g, l, w, s)) v1 (j := 4)) rfl ?_
  refine mr_eq (mr_ret 1 (o := (none, (rSs (er (he, ke, ki, fi, fa, [o1, o2, o3, o4, p], 5, a, g, l, w, s))))) (fun f => rfl)) ?_
  have e : klast [p, o1, o2, o3, o4] 5 p = [o1, o2, o3, o4, p] := by simp [klast, q1, q2, q3, q4]
  rw [e]
set_option maxRecDepth 100000 in
theorem rc_last_s_5_1 (he ke ki fi fa : List Nat) (a g l w s p o0 o2 o3 o4 : Nat) (v1 : he.length = 25) (q0 : ¬ o0 = p) (q2 : ¬ o2 = p) (q3 : ¬ o3 = p) (q4 : ¬ o4 = p) (hp : p < 5) (b0 : o0 < 5) (b2 : o2 < 5) (b3 : o3 < 5) (b4 : o4 < 5) : mm_R 143 0 [some (.ref 139), some (.int (nI p)), none] [] (rSs (er (he, ke, ki, fi, fa, [o0, p, o2, o3, o4], 5, a, g, l, w, s))) (none, rSs (er (he, ke, ki, fi, fa, klast [o0, p, o2, o3, o4] 5 p, 5, a, g, l, w, s))) := by
  refine mr_seg 2 (pc1 := 2) (ls1 := [some (.ref 139), some (.int (nI p)), none]) (st1 := [.int (nI p), .ref 139]) (M1 := (rSs (er (he, ke, ki, fi, fa, [o0, p, o2, o3, o4], 5, a, g, l, w, s)))) (fun f => rfl) ?_
  refine mr_call (y := 144) (y0 := 5) (L := [some (.ref 139), some (.int (nI p)), none]) (rest := []) (rr := some (.int 1)) (M1 := (rSs (er (he, ke, ki, fi, fa, [o0, p, o2, o3, o4], 5, a, g, l, w, s)))) (fun f => rfl) (rc_place_s_5_1 he ke ki fi fa a g l w s p o0 o2 o3 o4 v1 q0 q2 q3 q4 hp b0 b2 b3 b4) ?_
  refine mr_seg 4 (pc1 := 9) (ls1 := [some (.ref 139), some (.int (nI p)), some (.int 1)]) (st1 := [.int 0, .ref 139, .int 1]) (M1 := (rSs (er (he, ke, ki, fi, fa, [o0, p, o2, o3, o4], 5, a, g, l, w, s)))) (fun f => rfl) ?_
  refine mr_ldn (xs := (er (he, ke, ki, fi, fa, [o0, p, o2, o3, o4], 5, a, g, l, w, s))) rfl rfl (k := 0) (by decide) rfl ?_
  refine mr_seg 2 (pc1 := 12) (ls1 := [some (.ref 139), some (.int (nI p)), some (.int 1)]) (st1 := [.int (5 - 1), .int 1]) (M1 := (rSs (er (he, ke, ki, fi, fa, [o0, p, o2, o3, o4], 5, a, g, l, w, s)))) (fun f => rfl) ?_
  refine mr_v (show (5 : Int32) - 1 = 4 by decide) ?_
  refine mr_seg 11 (pc1 := 27) (ls1 := [some (.ref 139), some (.int (nI p)), some (.int 1)]) (st1 := [.int 49, .ref 139, .int 48, .ref 139]) (M1 := (rSs (er (he, ke, ki, fi, fa, [o0, p, o2, o3, o4], 5, a, g, l, w, s)))) (fun f => rfl) ?_
  refine mr_ldn (xs := (er (he, ke, ki, fi, fa, [o0, p, o2, o3, o4], 5, a, g, l, w, s))) rfl rfl (k := 49) (by decide) (er_or (K := (he, ke, ki, fi, fa, [o0, p, o2, o3, o4], 5, a, g, l, w, s)) v1 rfl (j := 2) (by decide)) ?_
  refine mr_stn (xs := (er (he, ke, ki, fi, fa, [o0, p, o2, o3, o4], 5, a, g, l, w, s))) (ys := (er (he, ke, ki, fi, fa, [o0, o2, o2, o3, o4], 5, a, g, l, w, s))) (M2 := (rSs (er (he, ke, ki, fi, fa, [o0, o2, o2, o3, o4], 5, a, g, l, w, s)))) rfl rfl (k := 48) (by decide) (by rw [er_leq (K := (he, ke, ki, fi, fa, [o0, p, o2, o3, o4], 5, a, g, l, w, s)) v1 rfl]; decide) (er_ors (K := (he, ke, ki, fi, fa, [o0, p, o2, o3, o4], 5, a, g, l, w, s)) v1 (j := 1)) rfl ?_
  refine mr_seg 5 (pc1 := 9) (ls1 := [some (.ref 139), some (.int (nI p)), some (.int 2)]) (st1 := [.int 0, .ref 139, .int 2]) (M1 := (rSs (er (he, ke, ki, fi, fa, [o0, o2, o2, o3, o4], 5, a, g, l, w, s)))) (fun f => rfl) ?_
  refine mr_ldn (xs := (er (he, ke, ki, fi, fa, [o0, o2, o2, o3, o4], 5, a, g, l, w, s))) rfl rfl (k := 0) (by decide) rfl ?_
  refine mr_seg 2 (pc1 := 12) (ls1 := [some (.ref 139), some (.int (nI p)), some (.int 2)]) (st1 := [.int (5 - 1), .int 2]) (M1 := (rSs (er (he, ke, ki, fi, fa, [o0, o2, o2, o3, o4], 5, a, g, l, w, s)))) (fun f => rfl) ?_
  refine mr_v (show (5 : Int32) - 1 = 4 by decide) ?_
  refine mr_seg 11 (pc1 := 27) (ls1 := [some (.ref 139), some (.int (nI p)), some (.int 2)]) (st1 := [.int 50, .ref 139, .int 49, .ref 139]) (M1 := (rSs (er (he, ke, ki, fi, fa, [o0, o2, o2, o3, o4], 5, a, g, l, w, s)))) (fun f => rfl) ?_
  refine mr_ldn (xs := (er (he, ke, ki, fi, fa, [o0, o2, o2, o3, o4], 5, a, g, l, w, s))) rfl rfl (k := 50) (by decide) (er_or (K := (he, ke, ki, fi, fa, [o0, o2, o2, o3, o4], 5, a, g, l, w, s)) v1 rfl (j := 3) (by decide)) ?_
  refine mr_stn (xs := (er (he, ke, ki, fi, fa, [o0, o2, o2, o3, o4], 5, a, g, l, w, s))) (ys := (er (he, ke, ki, fi, fa, [o0, o2, o3, o3, o4], 5, a, g, l, w, s))) (M2 := (rSs (er (he, ke, ki, fi, fa, [o0, o2, o3, o3, o4], 5, a, g, l, w, s)))) rfl rfl (k := 49) (by decide) (by rw [er_leq (K := (he, ke, ki, fi, fa, [o0, o2, o2, o3, o4], 5, a, g, l, w, s)) v1 rfl]; decide) (er_ors (K := (he, ke, ki, fi, fa, [o0, o2, o2, o3, o4], 5, a, g, l, w, s)) v1 (j := 2)) rfl ?_
  refine mr_seg 5 (pc1 := 9) (ls1 := [some (.ref 139), some (.int (nI p)), some (.int 3)]) (st1 := [.int 0, .ref 139, .int 3]) (M1 := (rSs (er (he, ke, ki, fi, fa, [o0, o2, o3, o3, o4], 5, a, g, l, w, s)))) (fun f => rfl) ?_
  refine mr_ldn (xs := (er (he, ke, ki, fi, fa, [o0, o2, o3, o3, o4], 5, a, g, l, w, s))) rfl rfl (k := 0) (by decide) rfl ?_
  refine mr_seg 2 (pc1 := 12) (ls1 := [some (.ref 139), some (.int (nI p)), some (.int 3)]) (st1 := [.int (5 - 1), .int 3]) (M1 := (rSs (er (he, ke, ki, fi, fa, [o0, o2, o3, o3, o4], 5, a, g, l, w, s)))) (fun f => rfl) ?_
  refine mr_v (show (5 : Int32) - 1 = 4 by decide) ?_
  refine mr_seg 11 (pc1 := 27) (ls1 := [some (.ref 139), some (.int (nI p)), some (.int 3)]) (st1 := [.int 51, .ref 139, .int 50, .ref 139]) (M1 := (rSs (er (he, ke, ki, fi, fa, [o0, o2, o3, o3, o4], 5, a, g, l, w, s)))) (fun f => rfl) ?_
  refine mr_ldn (xs := (er (he, ke, ki, fi, fa, [o0, o2, o3, o3, o4], 5, a, g, l, w, s))) rfl rfl (k := 51) (by decide) (er_or (K := (he, ke, ki, fi, fa, [o0, o2, o3, o3, o4], 5, a, g, l, w, s)) v1 rfl (j := 4) (by decide)) ?_
  refine mr_stn (xs := (er (he, ke, ki, fi, fa, [o0, o2, o3, o3, o4], 5, a, g, l, w, s))) (ys := (er (he, ke, ki, fi, fa, [o0, o2, o3, o4, o4], 5, a, g, l, w, s))) (M2 := (rSs (er (he, ke, ki, fi, fa, [o0, o2, o3, o4, o4], 5, a, g, l, w, s)))) rfl rfl (k := 50) (by decide) (by rw [er_leq (K := (he, ke, ki, fi, fa, [o0, o2, o3, o3, o4], 5, a, g, l, w, s)) v1 rfl]; decide) (er_ors (K := (he, ke, ki, fi, fa, [o0, o2, o3, o3, o4], 5, a, g, l, w, s)) v1 (j := 3)) rfl ?_
  refine mr_seg 5 (pc1 := 9) (ls1 := [some (.ref 139), some (.int (nI p)), some (.int 4)]) (st1 := [.int 0, .ref 139, .int 4]) (M1 := (rSs (er (he, ke, ki, fi, fa, [o0, o2, o3, o4, o4], 5, a, g, l, w, s)))) (fun f => rfl) ?_
  refine mr_ldn (xs := (er (he, ke, ki, fi, fa, [o0, o2, o3, o4, o4], 5, a, g, l, w, s))) rfl rfl (k := 0) (by decide) rfl ?_
  refine mr_seg 2 (pc1 := 12) (ls1 := [some (.ref 139), some (.int (nI p)), some (.int 4)]) (st1 := [.int (5 - 1), .int 4]) (M1 := (rSs (er (he, ke, ki, fi, fa, [o0, o2, o3, o4, o4], 5, a, g, l, w, s)))) (fun f => rfl) ?_
  refine mr_v (show (5 : Int32) - 1 = 4 by decide) ?_
  refine mr_seg 5 (pc1 := 40) (ls1 := [some (.ref 139), some (.int (nI p)), some (.int 4)]) (st1 := [.int 0, .ref 139, .int 47, .ref 139]) (M1 := (rSs (er (he, ke, ki, fi, fa, [o0, o2, o3, o4, o4], 5, a, g, l, w, s)))) (fun f => rfl) ?_
  refine mr_ldn (xs := (er (he, ke, ki, fi, fa, [o0, o2, o3, o4, o4], 5, a, g, l, w, s))) rfl rfl (k := 0) (by decide) rfl ?_
  refine mr_seg 3 (pc1 := 44) (ls1 := [some (.ref 139), some (.int (nI p)), some (.int 4)]) (st1 := [.int (52 - 1), .ref 139]) (M1 := (rSs (er (he, ke, ki, fi, fa, [o0, o2, o3, o4, o4], 5, a, g, l, w, s)))) (fun f => rfl) ?_
  refine mr_v (show (52 : Int32) - 1 = 51 by decide) ?_
  refine mr_seg 1 (pc1 := 45) (ls1 := [some (.ref 139), some (.int (nI p)), some (.int 4)]) (st1 := [.int (nI p), .int 51, .ref 139]) (M1 := (rSs (er (he, ke, ki, fi, fa, [o0, o2, o3, o4, o4], 5, a, g, l, w, s)))) (fun f => rfl) ?_
  refine mr_stn (xs := (er (he, ke, ki, fi, fa, [o0, o2, o3, o4, o4], 5, a, g, l, w, s))) (ys := (er (he, ke, ki, fi, fa, [o0, o2, o3, o4, p], 5, a, g, l, w, s))) (M2 := (rSs (er (he, ke, ki, fi, fa, [o0, o2, o3, o4, p], 5, a, g, l, w, s)))) rfl rfl (k := 51) (by decide) (by rw [er_leq (K := (he, ke, ki, fi, fa, [o0, o2, o3, o4, o4], 5, a, g, l, w, s)) v1 rfl]; decide) (er_ors (K := (he, ke, ki, fi, fa, [o0, o2, o3, o4, o4], 5, a, g, l, w, s)) v1 (j := 4)) rfl ?_
  refine mr_eq (mr_ret 1 (o := (none, (rSs (er (he, ke, ki, fi, fa, [o0, o2, o3, o4, p], 5, a, g, l, w, s))))) (fun f => rfl)) ?_
  have e : klast [o0, p, o2, o3, o4] 5 p = [o0, o2, o3, o4, p] := by simp [klast, q0, q2, q3, q4]
  rw [e]
set_option maxRecDepth 100000 in
theorem rc_last_s_5_2 (he ke ki fi fa : List Nat) (a g l w s p o0 o1 o3 o4 : Nat) (v1 : he.length = 25) (q0 : ¬ o0 = p) (q1 : ¬ o1 = p) (q3 : ¬ o3 = p) (q4 : ¬ o4 = p) (hp : p < 5) (b0 : o0 < 5) (b1 : o1 < 5) (b3 : o3 < 5) (b4 : o4 < 5) : mm_R 143 0 [some (.ref 139), some (.int (nI p)), none] [] (rSs (er (he, ke, ki, fi, fa, [o0, o1, p, o3, o4], 5, a, g, l, w, s))) (none, rSs (er (he, ke, ki, fi, fa, klast [o0, o1, p, o3, o4] 5 p, 5, a, g, l, w, s))) := by
  refine mr_seg 2 (pc1 := 2) (ls1 := [some (.ref 139), some (.int (nI p)), none]) (st1 := [.int (nI p), .ref 139]) (M1 := (rSs (er (he, ke, ki, fi, fa, [o0, o1, p, o3, o4], 5, a, g, l, w, s)))) (fun f => rfl) ?_
  refine mr_call (y := 144) (y0 := 5) (L := [some (.ref 139), some (.int (nI p)), none]) (rest := []) (rr := some (.int 2)) (M1 := (rSs (er (he, ke, ki, fi, fa, [o0, o1, p, o3, o4], 5, a, g, l, w, s)))) (fun f => rfl) (rc_place_s_5_2 he ke ki fi fa a g l w s p o0 o1 o3 o4 v1 q0 q1 q3 q4 hp b0 b1 b3 b4) ?_
  refine mr_seg 4 (pc1 := 9) (ls1 := [some (.ref 139), some (.int (nI p)), some (.int 2)]) (st1 := [.int 0, .ref 139, .int 2]) (M1 := (rSs (er (he, ke, ki, fi, fa, [o0, o1, p, o3, o4], 5, a, g, l, w, s)))) (fun f => rfl) ?_
  refine mr_ldn (xs := (er (he, ke, ki, fi, fa, [o0, o1, p, o3, o4], 5, a, g, l, w, s))) rfl rfl (k := 0) (by decide) rfl ?_
  refine mr_seg 2 (pc1 := 12) (ls1 := [some (.ref 139), some (.int (nI p)), some (.int 2)]) (st1 := [.int (5 - 1), .int 2]) (M1 := (rSs (er (he, ke, ki, fi, fa, [o0, o1, p, o3, o4], 5, a, g, l, w, s)))) (fun f => rfl) ?_
  refine mr_v (show (5 : Int32) - 1 = 4 by decide) ?_
  refine mr_seg 11 (pc1 := 27) (ls1 := [some (.ref 139), some (.int (nI p)), some (.int 2)]) (st1 := [.int 50, .ref 139, .int 49, .ref 139]) (M1 := (rSs (er (he, ke, ki, fi, fa, [o0, o1, p, o3, o4], 5, a, g, l, w, s)))) (fun f => rfl) ?_
  refine mr_ldn (xs := (er (he, ke, ki, fi, fa, [o0, o1, p, o3, o4], 5, a, g, l, w, s))) rfl rfl (k := 50) (by decide) (er_or (K := (he, ke, ki, fi, fa, [o0, o1, p, o3, o4], 5, a, g, l, w, s)) v1 rfl (j := 3) (by decide)) ?_
  refine mr_stn (xs := (er (he, ke, ki, fi, fa, [o0, o1, p, o3, o4], 5, a, g, l, w, s))) (ys := (er (he, ke, ki, fi, fa, [o0, o1, o3, o3, o4], 5, a, g, l, w, s))) (M2 := (rSs (er (he, ke, ki, fi, fa, [o0, o1, o3, o3, o4], 5, a, g, l, w, s)))) rfl rfl (k := 49) (by decide) (by rw [er_leq (K := (he, ke, ki, fi, fa, [o0, o1, p, o3, o4], 5, a, g, l, w, s)) v1 rfl]; decide) (er_ors (K := (he, ke, ki, fi, fa, [o0, o1, p, o3, o4], 5, a, g, l, w, s)) v1 (j := 2)) rfl ?_
  refine mr_seg 5 (pc1 := 9) (ls1 := [some (.ref 139), some (.int (nI p)), some (.int 3)]) (st1 := [.int 0, .ref 139, .int 3]) (M1 := (rSs (er (he, ke, ki, fi, fa, [o0, o1, o3, o3, o4], 5, a, g, l, w, s)))) (fun f => rfl) ?_
  refine mr_ldn (xs := (er (he, ke, ki, fi, fa, [o0, o1, o3, o3, o4], 5, a, g, l, w, s))) rfl rfl (k := 0) (by decide) rfl ?_
  refine mr_seg 2 (pc1 := 12) (ls1 := [some (.ref 139), some (.int (nI p)), some (.int 3)]) (st1 := [.int (5 - 1), .int 3]) (M1 := (rSs (er (he, ke, ki, fi, fa, [o0, o1, o3, o3, o4], 5, a, g, l, w, s)))) (fun f => rfl) ?_
  refine mr_v (show (5 : Int32) - 1 = 4 by decide) ?_
  refine mr_seg 11 (pc1 := 27) (ls1 := [some (.ref 139), some (.int (nI p)), some (.int 3)]) (st1 := [.int 51, .ref 139, .int 50, .ref 139]) (M1 := (rSs (er (he, ke, ki, fi, fa, [o0, o1, o3, o3, o4], 5, a, g, l, w, s)))) (fun f => rfl) ?_
  refine mr_ldn (xs := (er (he, ke, ki, fi, fa, [o0, o1, o3, o3, o4], 5, a, g, l, w, s))) rfl rfl (k := 51) (by decide) (er_or (K := (he, ke, ki, fi, fa, [o0, o1, o3, o3, o4], 5, a, g, l, w, s)) v1 rfl (j := 4) (by decide)) ?_
  refine mr_stn (xs := (er (he, ke, ki, fi, fa, [o0, o1, o3, o3, o4], 5, a, g, l, w, s))) (ys := (er (he, ke, ki, fi, fa, [o0, o1, o3, o4, o4], 5, a, g, l, w, s))) (M2 := (rSs (er (he, ke, ki, fi, fa, [o0, o1, o3, o4, o4], 5, a, g, l, w, s)))) rfl rfl (k := 50) (by decide) (by rw [er_leq (K := (he, ke, ki, fi, fa, [o0, o1, o3, o3, o4], 5, a, g, l, w, s)) v1 rfl]; decide) (er_ors (K := (he, ke, ki, fi, fa, [o0, o1, o3, o3, o4], 5, a, g, l, w, s)) v1 (j := 3)) rfl ?_
  refine mr_seg 5 (pc1 := 9) (ls1 := [some (.ref 139), some (.int (nI p)), some (.int 4)]) (st1 := [.int 0, .ref 139, .int 4]) (M1 := (rSs (er (he, ke, ki, fi, fa, [o0, o1, o3, o4, o4], 5, a, g, l, w, s)))) (fun f => rfl) ?_
  refine mr_ldn (xs := (er (he, ke, ki, fi, fa, [o0, o1, o3, o4, o4], 5, a, g, l, w, s))) rfl rfl (k := 0) (by decide) rfl ?_
  refine mr_seg 2 (pc1 := 12) (ls1 := [some (.ref 139), some (.int (nI p)), some (.int 4)]) (st1 := [.int (5 - 1), .int 4]) (M1 := (rSs (er (he, ke, ki, fi, fa, [o0, o1, o3, o4, o4], 5, a, g, l, w, s)))) (fun f => rfl) ?_
  refine mr_v (show (5 : Int32) - 1 = 4 by decide) ?_
  refine mr_seg 5 (pc1 := 40) (ls1 := [some (.ref 139), some (.int (nI p)), some (.int 4)]) (st1 := [.int 0, .ref 139, .int 47, .ref 139]) (M1 := (rSs (er (he, ke, ki, fi, fa, [o0, o1, o3, o4, o4], 5, a, g, l, w, s)))) (fun f => rfl) ?_
  refine mr_ldn (xs := (er (he, ke, ki, fi, fa, [o0, o1, o3, o4, o4], 5, a, g, l, w, s))) rfl rfl (k := 0) (by decide) rfl ?_
  refine mr_seg 3 (pc1 := 44) (ls1 := [some (.ref 139), some (.int (nI p)), some (.int 4)]) (st1 := [.int (52 - 1), .ref 139]) (M1 := (rSs (er (he, ke, ki, fi, fa, [o0, o1, o3, o4, o4], 5, a, g, l, w, s)))) (fun f => rfl) ?_
  refine mr_v (show (52 : Int32) - 1 = 51 by decide) ?_
  refine mr_seg 1 (pc1 := 45) (ls1 := [some (.ref 139), some (.int (nI p)), some (.int 4)]) (st1 := [.int (nI p), .int 51, .ref 139]) (M1 := (rSs (er (he, ke, ki, fi, fa, [o0, o1, o3, o4, o4], 5, a, g, l, w, s)))) (fun f => rfl) ?_
  refine mr_stn (xs := (er (he, ke, ki, fi, fa, [o0, o1, o3, o4, o4], 5, a, g, l, w, s))) (ys := (er (he, ke, ki, fi, fa, [o0, o1, o3, o4, p], 5, a, g, l, w, s))) (M2 := (rSs (er (he, ke, ki, fi, fa, [o0, o1, o3, o4, p], 5, a, g, l, w, s)))) rfl rfl (k := 51) (by decide) (by rw [er_leq (K := (he, ke, ki, fi, fa, [o0, o1, o3, o4, o4], 5, a, g, l, w, s)) v1 rfl]; decide) (er_ors (K := (he, ke, ki, fi, fa, [o0, o1, o3, o4, o4], 5, a, g, l, w, s)) v1 (j := 4)) rfl ?_
  refine mr_eq (mr_ret 1 (o := (none, (rSs (er (he, ke, ki, fi, fa, [o0, o1, o3, o4, p], 5, a, g, l, w, s))))) (fun f => rfl)) ?_
  have e : klast [o0, o1, p, o3, o4] 5 p = [o0, o1, o3, o4, p] := by simp [klast, q0, q1, q3, q4]
  rw [e]
set_option maxRecDepth 100000 in
theorem rc_last_s_5_3 (he ke ki fi fa : List Nat) (a g l w s p o0 o1 o2 o4 : Nat) (v1 : he.length = 25) (q0 : ¬ o0 = p) (q1 : ¬ o1 = p) (q2 : ¬ o2 = p) (q4 : ¬ o4 = p) (hp : p < 5) (b0 : o0 < 5) (b1 : o1 < 5) (b2 : o2 < 5) (b4 : o4 < 5) : mm_R 143 0 [some (.ref 139), some (.int (nI p)), none] [] (rSs (er (he, ke, ki, fi, fa, [o0, o1, o2, p, o4], 5, a, g, l, w, s))) (none, rSs (er (he, ke, ki, fi, fa, klast [o0, o1, o2, p, o4] 5 p, 5, a, g, l, w, s))) := by
  refine mr_seg 2 (pc1 := 2) (ls1 := [some (.ref 139), some (.int (nI p)), none]) (st1 := [.int (nI p), .ref 139]) (M1 := (rSs (er (he, ke, ki, fi, fa, [o0, o1, o2, p, o4], 5, a, g, l, w, s)))) (fun f => rfl) ?_
  refine mr_call (y := 144) (y0 := 5) (L := [some (.ref 139), some (.int (nI p)), none]) (rest := []) (rr := some (.int 3)) (M1 := (rSs (er (he, ke, ki, fi, fa, [o0, o1, o2, p, o4], 5, a, g, l, w, s)))) (fun f => rfl) (rc_place_s_5_3 he ke ki fi fa a g l w s p o0 o1 o2 o4 v1 q0 q1 q2 q4 hp b0 b1 b2 b4) ?_
  refine mr_seg 4 (pc1 := 9) (ls1 := [some (.ref 139), some (.int (nI p)), some (.int 3)]) (st1 := [.int 0, .ref 139, .int 3]) (M1 := (rSs (er (he, ke, ki, fi, fa, [o0, o1, o2, p, o4], 5, a, g, l, w, s)))) (fun f => rfl) ?_
  refine mr_ldn (xs := (er (he, ke, ki, fi, fa, [o0, o1, o2, p, o4], 5, a, g, l, w, s))) rfl rfl (k := 0) (by decide) rfl ?_
  refine mr_seg 2 (pc1 := 12) (ls1 := [some (.ref 139), some (.int (nI p)), some (.int 3)]) (st1 := [.int (5 - 1), .int 3]) (M1 := (rSs (er (he, ke, ki, fi, fa, [o0, o1, o2, p, o4], 5, a, g, l, w, s)))) (fun f => rfl) ?_
  refine mr_v (show (5 : Int32) - 1 = 4 by decide) ?_
  refine mr_seg 11 (pc1 := 27) (ls1 := [some (.ref 139), some (.int (nI p)), some (.int 3)]) (st1 := [.int 51, .ref 139, .int 50, .ref 139]) (M1 := (rSs (er (he, ke, ki, fi, fa, [o0, o1, o2, p, o4], 5, a, g, l, w, s)))) (fun f => rfl) ?_
  refine mr_ldn (xs := (er (he, ke, ki, fi, fa, [o0, o1, o2, p, o4], 5, a, g, l, w, s))) rfl rfl (k := 51) (by decide) (er_or (K := (he, ke, ki, fi, fa, [o0, o1, o2, p, o4], 5, a, g, l, w, s)) v1 rfl (j := 4) (by decide)) ?_
  refine mr_stn (xs := (er (he, ke, ki, fi, fa, [o0, o1, o2, p, o4], 5, a, g, l, w, s))) (ys := (er (he, ke, ki, fi, fa, [o0, o1, o2, o4, o4], 5, a, g, l, w, s))) (M2 := (rSs (er (he, ke, ki, fi, fa, [o0, o1, o2, o4, o4], 5, a, g, l, w, s)))) rfl rfl (k := 50) (by decide) (by rw [er_leq (K := (he, ke, ki, fi, fa, [o0, o1, o2, p, o4], 5, a, g, l, w, s)) v1 rfl]; decide) (er_ors (K := (he, ke, ki, fi, fa, [o0, o1, o2, p, o4], 5, a, g, l, w, s)) v1 (j := 3)) rfl ?_
  refine mr_seg 5 (pc1 := 9) (ls1 := [some (.ref 139), some (.int (nI p)), some (.int 4)]) (st1 := [.int 0, .ref 139, .int 4]) (M1 := (rSs (er (he, ke, ki, fi, fa, [o0, o1, o2, o4, o4], 5, a, g, l, w, s)))) (fun f => rfl) ?_
  refine mr_ldn (xs := (er (he, ke, ki, fi, fa, [o0, o1, o2, o4, o4], 5, a, g, l, w, s))) rfl rfl (k := 0) (by decide) rfl ?_
  refine mr_seg 2 (pc1 := 12) (ls1 := [some (.ref 139), some (.int (nI p)), some (.int 4)]) (st1 := [.int (5 - 1), .int 4]) (M1 := (rSs (er (he, ke, ki, fi, fa, [o0, o1, o2, o4, o4], 5, a, g, l, w, s)))) (fun f => rfl) ?_
  refine mr_v (show (5 : Int32) - 1 = 4 by decide) ?_
  refine mr_seg 5 (pc1 := 40) (ls1 := [some (.ref 139), some (.int (nI p)), some (.int 4)]) (st1 := [.int 0, .ref 139, .int 47, .ref 139]) (M1 := (rSs (er (he, ke, ki, fi, fa, [o0, o1, o2, o4, o4], 5, a, g, l, w, s)))) (fun f => rfl) ?_
  refine mr_ldn (xs := (er (he, ke, ki, fi, fa, [o0, o1, o2, o4, o4], 5, a, g, l, w, s))) rfl rfl (k := 0) (by decide) rfl ?_
  refine mr_seg 3 (pc1 := 44) (ls1 := [some (.ref 139), some (.int (nI p)), some (.int 4)]) (st1 := [.int (52 - 1), .ref 139]) (M1 := (rSs (er (he, ke, ki, fi, fa, [o0, o1, o2, o4, o4], 5, a, g, l, w, s)))) (fun f => rfl) ?_
  refine mr_v (show (52 : Int32) - 1 = 51 by decide) ?_
  refine mr_seg 1 (pc1 := 45) (ls1 := [some (.ref 139), some (.int (nI p)), some (.int 4)]) (st1 := [.int (nI p), .int 51, .ref 139]) (M1 := (rSs (er (he, ke, ki, fi, fa, [o0, o1, o2, o4, o4], 5, a, g, l, w, s)))) (fun f => rfl) ?_
  refine mr_stn (xs := (er (he, ke, ki, fi, fa, [o0, o1, o2, o4, o4], 5, a, g, l, w, s))) (ys := (er (he, ke, ki, fi, fa, [o0, o1, o2, o4, p], 5, a, g, l, w, s))) (M2 := (rSs (er (he, ke, ki, fi, fa, [o0, o1, o2, o4, p], 5, a, g, l, w, s)))) rfl rfl (k := 51) (by decide) (by rw [er_leq (K := (he, ke, ki, fi, fa, [o0, o1, o2, o4, o4], 5, a, g, l, w, s)) v1 rfl]; decide) (er_ors (K := (he, ke, ki, fi, fa, [o0, o1, o2, o4, o4], 5, a, g, l, w, s)) v1 (j := 4)) rfl ?_
  refine mr_eq (mr_ret 1 (o := (none, (rSs (er (he, ke, ki, fi, fa, [o0, o1, o2, o4, p], 5, a, g, l, w, s))))) (fun f => rfl)) ?_
  have e : klast [o0, o1, o2, p, o4] 5 p = [o0, o1, o2, o4, p] := by simp [klast, q0, q1, q2, q4]
  rw [e]
set_option maxRecDepth 100000 in
theorem rc_last_s_5_4 (he ke ki fi fa : List Nat) (a g l w s p o0 o1 o2 o3 : Nat) (v1 : he.length = 25) (q0 : ¬ o0 = p) (q1 : ¬ o1 = p) (q2 : ¬ o2 = p) (q3 : ¬ o3 = p) (hp : p < 5) (b0 : o0 < 5) (b1 : o1 < 5) (b2 : o2 < 5) (b3 : o3 < 5) : mm_R 143 0 [some (.ref 139), some (.int (nI p)), none] [] (rSs (er (he, ke, ki, fi, fa, [o0, o1, o2, o3, p], 5, a, g, l, w, s))) (none, rSs (er (he, ke, ki, fi, fa, klast [o0, o1, o2, o3, p] 5 p, 5, a, g, l, w, s))) := by
  refine mr_seg 2 (pc1 := 2) (ls1 := [some (.ref 139), some (.int (nI p)), none]) (st1 := [.int (nI p), .ref 139]) (M1 := (rSs (er (he, ke, ki, fi, fa, [o0, o1, o2, o3, p], 5, a, g, l, w, s)))) (fun f => rfl) ?_
  refine mr_call (y := 144) (y0 := 5) (L := [some (.ref 139), some (.int (nI p)), none]) (rest := []) (rr := some (.int 4)) (M1 := (rSs (er (he, ke, ki, fi, fa, [o0, o1, o2, o3, p], 5, a, g, l, w, s)))) (fun f => rfl) (rc_place_s_5_4 he ke ki fi fa a g l w s p o0 o1 o2 o3 v1 q0 q1 q2 q3 hp b0 b1 b2 b3) ?_
  refine mr_seg 4 (pc1 := 9) (ls1 := [some (.ref 139), some (.int (nI p)), some (.int 4)]) (st1 := [.int 0, .ref 139, .int 4]) (M1 := (rSs (er (he, ke, ki, fi, fa, [o0, o1, o2, o3, p], 5, a, g, l, w, s)))) (fun f => rfl) ?_
  refine mr_ldn (xs := (er (he, ke, ki, fi, fa, [o0, o1, o2, o3, p], 5, a, g, l, w, s))) rfl rfl (k := 0) (by decide) rfl ?_
  refine mr_seg 2 (pc1 := 12) (ls1 := [some (.ref 139), some (.int (nI p)), some (.int 4)]) (st1 := [.int (5 - 1), .int 4]) (M1 := (rSs (er (he, ke, ki, fi, fa, [o0, o1, o2, o3, p], 5, a, g, l, w, s)))) (fun f => rfl) ?_
  refine mr_v (show (5 : Int32) - 1 = 4 by decide) ?_
  refine mr_seg 5 (pc1 := 40) (ls1 := [some (.ref 139), some (.int (nI p)), some (.int 4)]) (st1 := [.int 0, .ref 139, .int 47, .ref 139]) (M1 := (rSs (er (he, ke, ki, fi, fa, [o0, o1, o2, o3, p], 5, a, g, l, w, s)))) (fun f => rfl) ?_
  refine mr_ldn (xs := (er (he, ke, ki, fi, fa, [o0, o1, o2, o3, p], 5, a, g, l, w, s))) rfl rfl (k := 0) (by decide) rfl ?_
  refine mr_seg 3 (pc1 := 44) (ls1 := [some (.ref 139), some (.int (nI p)), some (.int 4)]) (st1 := [.int (52 - 1), .ref 139]) (M1 := (rSs (er (he, ke, ki, fi, fa, [o0, o1, o2, o3, p], 5, a, g, l, w, s)))) (fun f => rfl) ?_
  refine mr_v (show (52 : Int32) - 1 = 51 by decide) ?_
  refine mr_seg 1 (pc1 := 45) (ls1 := [some (.ref 139), some (.int (nI p)), some (.int 4)]) (st1 := [.int (nI p), .int 51, .ref 139]) (M1 := (rSs (er (he, ke, ki, fi, fa, [o0, o1, o2, o3, p], 5, a, g, l, w, s)))) (fun f => rfl) ?_
  refine mr_stn (xs := (er (he, ke, ki, fi, fa, [o0, o1, o2, o3, p], 5, a, g, l, w, s))) (ys := (er (he, ke, ki, fi, fa, [o0, o1, o2, o3, p], 5, a, g, l, w, s))) (M2 := (rSs (er (he, ke, ki, fi, fa, [o0, o1, o2, o3, p], 5, a, g, l, w, s)))) rfl rfl (k := 51) (by decide) (by rw [er_leq (K := (he, ke, ki, fi, fa, [o0, o1, o2, o3, p], 5, a, g, l, w, s)) v1 rfl]; decide) (er_ors (K := (he, ke, ki, fi, fa, [o0, o1, o2, o3, p], 5, a, g, l, w, s)) v1 (j := 4)) rfl ?_
  refine mr_eq (mr_ret 1 (o := (none, (rSs (er (he, ke, ki, fi, fa, [o0, o1, o2, o3, p], 5, a, g, l, w, s))))) (fun f => rfl)) ?_
  have e : klast [o0, o1, o2, o3, p] 5 p = [o0, o1, o2, o3, p] := by simp [klast, q0, q1, q2, q3]
  rw [e]
theorem rc_last_s (he ke ki fi fa or : List Nat) (mi a g l w s : Nat) (p : Nat) (v1 : he.length = 25) (hp : p < mi) (hO : or ∈ kOl mi) (hm : mi ≤ 5) : mm_R 143 0 [some (.ref 139), some (.int (nI p)), none] [] (rSs (er (he, ke, ki, fi, fa, or, mi, a, g, l, w, s))) (none, rSs (er (he, ke, ki, fi, fa, klast or mi p, mi, a, g, l, w, s))) := by
  obtain ⟨j, hj, hp1, hp2⟩ := kO_pos mi hm or hO p hp
  have hl := kO_len mi hm or hO
  have h5 : ∀ i, i < 5 → kg or i < 5 := kO_lt5 mi hm or hO
  match or, hl with
  | [o0, o1, o2, o3, o4], _ =>
    have b0 : o0 < 5 := h5 0 (by omega)
    have b1 : o1 < 5 := h5 1 (by omega)
    have b2 : o2 < 5 := h5 2 (by omega)
    have b3 : o3 < 5 := h5 3 (by omega)
    have b4 : o4 < 5 := h5 4 (by omega)
    match mi, j, hj, hm with
    | 1, 0, _, _ => cases hp1; exact rc_last_s_1_0 he ke ki fi fa a g l w s o0 o1 o2 o3 o4 v1  b0 b1 b2 b3 b4
    | 2, 0, _, _ => cases hp1; exact rc_last_s_2_0 he ke ki fi fa a g l w s o0 o1 o2 o3 o4 v1 (hp2 1 (by omega) (by omega)) b0 b1 b2 b3 b4
    | 2, 1, _, _ => cases hp1; exact rc_last_s_2_1 he ke ki fi fa a g l w s o1 o0 o2 o3 o4 v1 (hp2 0 (by omega) (by omega)) b1 b0 b2 b3 b4
    | 3, 0, _, _ => cases hp1; exact rc_last_s_3_0 he ke ki fi fa a g l w s o0 o1 o2 o3 o4 v1 (hp2 1 (by omega) (by omega)) (hp2 2 (by omega) (by omega)) b0 b1 b2 b3 b4
    | 3, 1, _, _ => cases hp1; exact rc_last_s_3_1 he ke ki fi fa a g l w s o1 o0 o2 o3 o4 v1 (hp2 0 (by omega) (by omega)) (hp2 2 (by omega) (by omega)) b1 b0 b2 b3 b4
    | 3, 2, _, _ => cases hp1; exact rc_last_s_3_2 he ke ki fi fa a g l w s o2 o0 o1 o3 o4 v1 (hp2 0 (by omega) (by omega)) (hp2 1 (by omega) (by omega)) b2 b0 b1 b3 b4
    | 4, 0, _, _ => cases hp1; exact rc_last_s_4_0 he ke ki fi fa a g l w s o0 o1 o2 o3 o4 v1 (hp2 1 (by omega) (by omega)) (hp2 2 (by omega) (by omega)) (hp2 3 (by omega) (by omega)) b0 b1 b2 b3 b4
    | 4, 1, _, _ => cases hp1; exact rc_last_s_4_1 he ke ki fi fa a g l w s o1 o0 o2 o3 o4 v1 (hp2 0 (by omega) (by omega)) (hp2 2 (by omega) (by omega)) (hp2 3 (by omega) (by omega)) b1 b0 b2 b3 b4
    | 4, 2, _, _ => cases hp1; exact rc_last_s_4_2 he ke ki fi fa a g l w s o2 o0 o1 o3 o4 v1 (hp2 0 (by omega) (by omega)) (hp2 1 (by omega) (by omega)) (hp2 3 (by omega) (by omega)) b2 b0 b1 b3 b4
    | 4, 3, _, _ => cases hp1; exact rc_last_s_4_3 he ke ki fi fa a g l w s o3 o0 o1 o2 o4 v1 (hp2 0 (by omega) (by omega)) (hp2 1 (by omega) (by omega)) (hp2 2 (by omega) (by omega)) b3 b0 b1 b2 b4
    | 5, 0, _, _ => cases hp1; exact rc_last_s_5_0 he ke ki fi fa a g l w s o0 o1 o2 o3 o4 v1 (hp2 1 (by omega) (by omega)) (hp2 2 (by omega) (by omega)) (hp2 3 (by omega) (by omega)) (hp2 4 (by omega) (by omega)) b0 b1 b2 b3 b4
    | 5, 1, _, _ => cases hp1; exact rc_last_s_5_1 he ke ki fi fa a g l w s o1 o0 o2 o3 o4 v1 (hp2 0 (by omega) (by omega)) (hp2 2 (by omega) (by omega)) (hp2 3 (by omega) (by omega)) (hp2 4 (by omega) (by omega)) b1 b0 b2 b3 b4
    | 5, 2, _, _ => cases hp1; exact rc_last_s_5_2 he ke ki fi fa a g l w s o2 o0 o1 o3 o4 v1 (hp2 0 (by omega) (by omega)) (hp2 1 (by omega) (by omega)) (hp2 3 (by omega) (by omega)) (hp2 4 (by omega) (by omega)) b2 b0 b1 b3 b4
    | 5, 3, _, _ => cases hp1; exact rc_last_s_5_3 he ke ki fi fa a g l w s o3 o0 o1 o2 o4 v1 (hp2 0 (by omega) (by omega)) (hp2 1 (by omega) (by omega)) (hp2 2 (by omega) (by omega)) (hp2 4 (by omega) (by omega)) b3 b0 b1 b2 b4
    | 5, 4, _, _ => cases hp1; exact rc_last_s_5_4 he ke ki fi fa a g l w s o4 o0 o1 o2 o3 v1 (hp2 0 (by omega) (by omega)) (hp2 1 (by omega) (by omega)) (hp2 2 (by omega) (by omega)) (hp2 3 (by omega) (by omega)) b4 b0 b1 b2 b3
    | mi, j + 5, hj, hm => exact absurd hj (by omega)
    | mi + 6, _, _, hm => exact absurd hm (by omega)
    | 0, 0, hj, _ => exact absurd hj (by omega)
    | 0, 1, hj, _ => exact absurd hj (by omega)
    | 0, 2, hj, _ => exact absurd hj (by omega)
    | 0, 3, hj, _ => exact absurd hj (by omega)
    | 0, 4, hj, _ => exact absurd hj (by omega)
    | 1, 1, hj, _ => exact absurd hj (by omega)
    | 1, 2, hj, _ => exact absurd hj (by omega)
    | 1, 3, hj, _ => exact absurd hj (by omega)
    | 1, 4, hj, _ => exact absurd hj (by omega)
    | 2, 2, hj, _ => exact absurd hj (by omega)
    | 2, 3, hj, _ => exact absurd hj (by omega)
    | 2, 4, hj, _ => exact absurd hj (by omega)
    | 3, 3, hj, _ => exact absurd hj (by omega)
    | 3, 4, hj, _ => exact absurd hj (by omega)
    | 4, 4, hj, _ => exact absurd hj (by omega)
set_option maxRecDepth 100000 in
theorem rc_step0_s (he ke ki fi fa or : List Nat) (mi a g l w s : Nat) (x : Nat) (hx : x < 100) (hV : kV (he, ke, ki, fi, fa, or, mi, a, g, l, w, s)) (hs : s < 2 ^ 30) (hn : knext (he, ke, ki, fi, fa, or, mi, a, g, l, w, s) = none) : mm_R 146 0 [some (.ref 139), some (.int (nI x)), none, none, none] [] (rSs (er (he, ke, ki, fi, fa, or, mi, a, g, l, w, s))) (none, rSs (er (kstep (he, ke, ki, fi, fa, or, mi, a, g, l, w, s) x))) := by
  have hV0 : kV (he, ke, ki, fi, fa, or, mi, a, g, l, w, s) := hV
  obtain ⟨v1, v2, v3, v4, v5, v6, v7, v8, v9, v10, v11, v12, v13, v14, v15, v16⟩ := hV
  have v6l := kO_len mi v7 or v6
  have v6t : ∀ i, i < 5 → kg or i < 5 := kO_lt5 mi v7 or v6
  have v60 := v6t 0 (by omega)
  refine mr_seg 3 (pc1 := 3) (ls1 := [some (.ref 139), some (.int (nI x)), none, none, none]) (st1 := [.int 1, .ref 139, .int 1, .ref 139]) (M1 := (rSs (er (he, ke, ki, fi, fa, or, mi, a, g, l, w, s)))) (fun f => rfl) ?_
  refine mr_ldn (xs := (er (he, ke, ki, fi, fa, or, mi, a, g, l, w, s))) rfl rfl (k := 1) (by decide) rfl ?_
  refine mr_seg 2 (pc1 := 6) (ls1 := [some (.ref 139), some (.int (nI x)), none, none, none]) (st1 := [.int ((nI s) + 1), .int 1, .ref 139]) (M1 := (rSs (er (he, ke, ki, fi, fa, or, mi, a, g, l, w, s)))) (fun f => rfl) ?_
  refine mr_v (nI_add s 1) ?_
  refine mr_stn (xs := (er (he, ke, ki, fi, fa, or, mi, a, g, l, w, s))) (ys := (er (he, ke, ki, fi, fa, or, mi, a, g, l, w, s + 1))) (M2 := (rSs (er (he, ke, ki, fi, fa, or, mi, a, g, l, w, s + 1)))) rfl rfl (k := 1) (by decide) (by rw [er_leq (K := (he, ke, ki, fi, fa, or, mi, a, g, l, w, s)) v1 v6l]; decide) (er_s1 (v := s + 1)) rfl ?_
  refine mr_seg 2 (pc1 := 9) (ls1 := [some (.ref 139), some (.int (nI x)), none, none, none]) (st1 := [.int 0, .ref 139]) (M1 := (rSs (er (he, ke, ki, fi, fa, or, mi, a, g, l, w, s + 1)))) (fun f => rfl) ?_
  refine mr_ldn (xs := (er (he, ke, ki, fi, fa, or, mi, a, g, l, w, s + 1))) rfl rfl (k := 0) (by decide) rfl ?_
  refine mr_ifN (C := (nI mi) = 0) (nI_eqi (a := mi) (b := 0) (by omega)) (fun f => rfl) (fun h1 => ?_) (fun h1 => ?_)
  · refine mr_eq (mr_ret 1 (o := (none, (rSs (er (he, ke, ki, fi, fa, or, mi, a, g, l, w, s + 1))))) (fun f => rfl)) ?_
    exact congrArg (fun q : kK => ((none : Option Value), rSs (er q))) (kjs_n (x := x) hn).symm
  · refine mr_seg 2 (pc1 := 15) (ls1 := [some (.ref 139), some (.int (nI x)), none, none, none]) (st1 := [.int 2, .ref 139]) (M1 := (rSs (er (he, ke, ki, fi, fa, or, mi, a, g, l, w, s + 1)))) (fun f => rfl) ?_
    refine mr_ldn (xs := (er (he, ke, ki, fi, fa, or, mi, a, g, l, w, s + 1))) rfl rfl (k := 2) (by decide) rfl ?_
    refine mr_seg 2 (pc1 := 18) (ls1 := [some (.ref 139), some (.int (nI x)), none, none, none]) (st1 := [.int 3, .ref 139, .int (nI a)]) (M1 := (rSs (er (he, ke, ki, fi, fa, or, mi, a, g, l, w, s + 1)))) (fun f => rfl) ?_
    refine mr_ldn (xs := (er (he, ke, ki, fi, fa, or, mi, a, g, l, w, s + 1))) rfl rfl (k := 3) (by decide) rfl ?_
    refine mr_ifN (C := (nI a) = (nI g)) (nI_eqi (a := a) (b := g) (by omega)) (fun f => rfl) (fun h2 => ?_) (fun h2 => ?_)
    · refine mr_eq (mr_ret 1 (o := (none, (rSs (er (he, ke, ki, fi, fa, or, mi, a, g, l, w, s + 1))))) (fun f => rfl)) ?_
      exact congrArg (fun q : kK => ((none : Option Value), rSs (er q))) (kjs_n (x := x) hn).symm
    · exact absurd hn (by show ¬ (if mi = 0 then none else if a = g then none else some (kway (kg ki (kg or 0)) a (ksgn a g) l (s + 1))) = none; rw [if_neg h1, if_neg h2]; exact fun q => by cases q)
set_option maxRecDepth 100000 in
theorem rc_step1_s (he ke ki fi fa or : List Nat) (mi a g l w s : Nat) (x : Nat) (hx : x < 100) (hV : kV (he, ke, ki, fi, fa, or, mi, a, g, l, w, s)) (hs : s < 2 ^ 30) (y : Nat) (hn : knext (he, ke, ki, fi, fa, or, mi, a, g, l, w, s) = some y) (hy : y < 4) (hb : kbey a y = none) (hmi : 0 < mi) (hne : ¬ a = g) (hy0 : kway (kg ki (kg or 0)) a (ksgn a g) l (s + 1) = y) : mm_R 146 0 [some (.ref 139), some (.int (nI x)), none, none, none] [] (rSs (er (he, ke, ki, fi, fa, or, mi, a, g, l, w, s))) (none, rSs (er (kstep (he, ke, ki, fi, fa, or, mi, a, g, l, w, s) x))) := by
  have hV0 : kV (he, ke, ki, fi, fa, or, mi, a, g, l, w, s) := hV
  obtain ⟨v1, v2, v3, v4, v5, v6, v7, v8, v9, v10, v11, v12, v13, v14, v15, v16⟩ := hV
  have v6l := kO_len mi v7 or v6
  have v6t : ∀ i, i < 5 → kg or i < 5 := kO_lt5 mi v7 or v6
  have v60 := v6t 0 (by omega)
  have hV1 : kV (he, ke, ki, fi, fa, or, mi, a, g, l, w, s + 1) := hV0
  refine mr_seg 3 (pc1 := 3) (ls1 := [some (.ref 139), some (.int (nI x)), none, none, none]) (st1 := [.int 1, .ref 139, .int 1, .ref 139]) (M1 := (rSs (er (he, ke, ki, fi, fa, or, mi, a, g, l, w, s)))) (fun f => rfl) ?_
  refine mr_ldn (xs := (er (he, ke, ki, fi, fa, or, mi, a, g, l, w, s))) rfl rfl (k := 1) (by decide) rfl ?_
  refine mr_seg 2 (pc1 := 6) (ls1 := [some (.ref 139), some (.int (nI x)), none, none, none]) (st1 := [.int ((nI s) + 1), .int 1, .ref 139]) (M1 := (rSs (er (he, ke, ki, fi, fa, or, mi, a, g, l, w, s)))) (fun f => rfl) ?_
  refine mr_v (nI_add s 1) ?_
  refine mr_stn (xs := (er (he, ke, ki, fi, fa, or, mi, a, g, l, w, s))) (ys := (er (he, ke, ki, fi, fa, or, mi, a, g, l, w, s + 1))) (M2 := (rSs (er (he, ke, ki, fi, fa, or, mi, a, g, l, w, s + 1)))) rfl rfl (k := 1) (by decide) (by rw [er_leq (K := (he, ke, ki, fi, fa, or, mi, a, g, l, w, s)) v1 v6l]; decide) (er_s1 (v := s + 1)) rfl ?_
  refine mr_seg 2 (pc1 := 9) (ls1 := [some (.ref 139), some (.int (nI x)), none, none, none]) (st1 := [.int 0, .ref 139]) (M1 := (rSs (er (he, ke, ki, fi, fa, or, mi, a, g, l, w, s + 1)))) (fun f => rfl) ?_
  refine mr_ldn (xs := (er (he, ke, ki, fi, fa, or, mi, a, g, l, w, s + 1))) rfl rfl (k := 0) (by decide) rfl ?_
  refine mr_f (C := (nI mi) = 0) (fun e => absurd ((nI_eqi (a := mi) (b := 0) (by omega)).mp e) (by omega)) (fun f => rfl) ?_
  refine mr_seg 2 (pc1 := 15) (ls1 := [some (.ref 139), some (.int (nI x)), none, none, none]) (st1 := [.int 2, .ref 139]) (M1 := (rSs (er (he, ke, ki, fi, fa, or, mi, a, g, l, w, s + 1)))) (fun f => rfl) ?_
  refine mr_ldn (xs := (er (he, ke, ki, fi, fa, or, mi, a, g, l, w, s + 1))) rfl rfl (k := 2) (by decide) rfl ?_
  refine mr_seg 2 (pc1 := 18) (ls1 := [some (.ref 139), some (.int (nI x)), none, none, none]) (st1 := [.int 3, .ref 139, .int (nI a)]) (M1 := (rSs (er (he, ke, ki, fi, fa, or, mi, a, g, l, w, s + 1)))) (fun f => rfl) ?_
  refine mr_ldn (xs := (er (he, ke, ki, fi, fa, or, mi, a, g, l, w, s + 1))) rfl rfl (k := 3) (by decide) rfl ?_
  refine mr_f (C := (nI a) = (nI g)) (fun e => hne ((nI_eq (by omega) (by omega)).mp e)) (fun f => rfl) ?_
  refine mr_seg 2 (pc1 := 26) (ls1 := [some (.ref 139), some (.int (nI x)), none, none, none]) (st1 := [.int 47, .ref 139]) (M1 := (rSs (er (he, ke, ki, fi, fa, or, mi, a, g, l, w, s + 1)))) (fun f => rfl) ?_
  refine mr_ldn (xs := (er (he, ke, ki, fi, fa, or, mi, a, g, l, w, s + 1))) rfl rfl (k := 47) (by decide) (er_or (K := (he, ke, ki, fi, fa, or, mi, a, g, l, w, s + 1)) v1 v6l (j := 0) (by decide)) ?_
  refine mr_seg 5 (pc1 := 32) (ls1 := [some (.ref 139), some (.int (nI x)), some (.int (nI (kg or 0))), none, none]) (st1 := [.int 1, .ref 139, .int (nI (kg or 0)), .ref 139]) (M1 := (rSs (er (he, ke, ki, fi, fa, or, mi, a, g, l, w, s + 1)))) (fun f => rfl) ?_
  refine mr_ldn (xs := (er (he, ke, ki, fi, fa, or, mi, a, g, l, w, s + 1))) rfl rfl (k := 1) (by decide) rfl ?_
  refine mr_call (y := 147) (y0 := 36) (L := [some (.ref 139), some (.int (nI (kg or 0))), some (.int (nI (s + 1))), none, none, none]) (rest := []) (rr := some (.int (nI y))) (M1 := (rSs (er (he, ke, ki, fi, fa, or, mi, a, g, l, w, s + 1)))) (fun f => rfl) (mr_eq (rc_way_s he ke ki fi fa or mi a g l w (s + 1) (kg or 0) (s + 1) v60 (by omega) hV1 hne) (by rw [hy0])) ?_
  refine mr_seg 3 (pc1 := 39) (ls1 := [some (.ref 139), some (.int (nI x)), some (.int (nI (kg or 0))), some (.int (nI y)), none]) (st1 := [.int 2, .ref 139]) (M1 := (rSs (er (he, ke, ki, fi, fa, or, mi, a, g, l, w, s + 1)))) (fun f => rfl) ?_
  refine mr_ldn (xs := (er (he, ke, ki, fi, fa, or, mi, a, g, l, w, s + 1))) rfl rfl (k := 2) (by decide) rfl ?_
  refine mr_seg 1 (pc1 := 41) (ls1 := [some (.ref 139), some (.int (nI x)), some (.int (nI (kg or 0))), some (.int (nI y)), none]) (st1 := [.int (nI y), .int (nI a)]) (M1 := (rSs (er (he, ke, ki, fi, fa, or, mi, a, g, l, w, s + 1)))) (fun f => rfl) ?_
  refine mr_call (y := 149) (y0 := 44) (L := [some (.int (nI a)), some (.int (nI y))]) (rest := []) (rr := some (.int (-9))) (M1 := (rSs (er (he, ke, ki, fi, fa, or, mi, a, g, l, w, s + 1)))) (fun f => rfl) (mr_eq (rc_bey (c := a) (w := y) (by omega) hy _) (by rw [hb]; rfl)) ?_
  refine mr_eq (mr_ret 4 (o := (none, (rSs (er (he, ke, ki, fi, fa, or, mi, a, g, l, w, s + 1))))) (fun f => rfl)) ?_
  exact congrArg (fun q : kK => ((none : Option Value), rSs (er q))) (kjs_b (x := x) hn hb).symm
set_option maxRecDepth 100000 in
theorem rc_step2_s (he ke ki fi fa or : List Nat) (mi a g l w s : Nat) (x : Nat) (hx : x < 100) (hV : kV (he, ke, ki, fi, fa, or, mi, a, g, l, w, s)) (hs : s < 2 ^ 30) (y t : Nat) (hn : knext (he, ke, ki, fi, fa, or, mi, a, g, l, w, s) = some y) (hy : y < 4) (hb : kbey a y = some t) (hmi : 0 < mi) (hne : ¬ a = g) (hy0 : kway (kg ki (kg or 0)) a (ksgn a g) l (s + 1) = y) : mm_R 146 0 [some (.ref 139), some (.int (nI x)), none, none, none] [] (rSs (er (he, ke, ki, fi, fa, or, mi, a, g, l, w, s))) (none, rSs (er (kstep (he, ke, ki, fi, fa, or, mi, a, g, l, w, s) x))) := by
  have hV0 : kV (he, ke, ki, fi, fa, or, mi, a, g, l, w, s) := hV
  obtain ⟨v1, v2, v3, v4, v5, v6, v7, v8, v9, v10, v11, v12, v13, v14, v15, v16⟩ := hV
  have v6l := kO_len mi v7 or v6
  have v6t : ∀ i, i < 5 → kg or i < 5 := kO_lt5 mi v7 or v6
  have v60 := v6t 0 (by omega)
  have hV1 : kV (he, ke, ki, fi, fa, or, mi, a, g, l, w, s + 1) := hV0
  have ht := kbey_lt v8 hb
  have q1 := v12 t
  have q2 := v12 a
  have q3 := v13 t
  have q4 : kload he ke a w t ≤ 51 := by unfold kload; omega
  have w15 := v15 (kg or 0)
  have q5 : khold (kg ki (kg or 0)) (kg fi (kg or 0)) ≤ 34 := by unfold khold; split <;> omega
  have w16 := v16 (kg or 0)
  refine mr_seg 3 (pc1 := 3) (ls1 := [some (.ref 139), some (.int (nI x)), none, none, none]) (st1 := [.int 1, .ref 139, .int 1, .ref 139]) (M1 := (rSs (er (he, ke, ki, fi, fa, or, mi, a, g, l, w, s)))) (fun f => rfl) ?_
  refine mr_ldn (xs := (er (he, ke, ki, fi, fa, or, mi, a, g, l, w, s))) rfl rfl (k := 1) (by decide) rfl ?_
  refine mr_seg 2 (pc1 := 6) (ls1 := [some (.ref 139), some (.int (nI x)), none, none, none]) (st1 := [.int ((nI s) + 1), .int 1, .ref 139]) (M1 := (rSs (er (he, ke, ki, fi, fa, or, mi, a, g, l, w, s)))) (fun f => rfl) ?_
  refine mr_v (nI_add s 1) ?_
  refine mr_stn (xs := (er (he, ke, ki, fi, fa, or, mi, a, g, l, w, s))) (ys := (er (he, ke, ki, fi, fa, or, mi, a, g, l, w, s + 1))) (M2 := (rSs (er (he, ke, ki, fi, fa, or, mi, a, g, l, w, s + 1)))) rfl rfl (k := 1) (by decide) (by rw [er_leq (K := (he, ke, ki, fi, fa, or, mi, a, g, l, w, s)) v1 v6l]; decide) (er_s1 (v := s + 1)) rfl ?_
  refine mr_seg 2 (pc1 := 9) (ls1 := [some (.ref 139), some (.int (nI x)), none, none, none]) (st1 := [.int 0, .ref 139]) (M1 := (rSs (er (he, ke, ki, fi, fa, or, mi, a, g, l, w, s + 1)))) (fun f => rfl) ?_
  refine mr_ldn (xs := (er (he, ke, ki, fi, fa, or, mi, a, g, l, w, s + 1))) rfl rfl (k := 0) (by decide) rfl ?_
  refine mr_f (C := (nI mi) = 0) (fun e => absurd ((nI_eqi (a := mi) (b := 0) (by omega)).mp e) (by omega)) (fun f => rfl) ?_
  refine mr_seg 2 (pc1 := 15) (ls1 := [some (.ref 139), some (.int (nI x)), none, none, none]) (st1 := [.int 2, .ref 139]) (M1 := (rSs (er (he, ke, ki, fi, fa, or, mi, a, g, l, w, s + 1)))) (fun f => rfl) ?_
  refine mr_ldn (xs := (er (he, ke, ki, fi, fa, or, mi, a, g, l, w, s + 1))) rfl rfl (k := 2) (by decide) rfl ?_
  refine mr_seg 2 (pc1 := 18) (ls1 := [some (.ref 139), some (.int (nI x)), none, none, none]) (st1 := [.int 3, .ref 139, .int (nI a)]) (M1 := (rSs (er (he, ke, ki, fi, fa, or, mi, a, g, l, w, s + 1)))) (fun f => rfl) ?_
  refine mr_ldn (xs := (er (he, ke, ki, fi, fa, or, mi, a, g, l, w, s + 1))) rfl rfl (k := 3) (by decide) rfl ?_
  refine mr_f (C := (nI a) = (nI g)) (fun e => hne ((nI_eq (by omega) (by omega)).mp e)) (fun f => rfl) ?_
  refine mr_seg 2 (pc1 := 26) (ls1 := [some (.ref 139), some (.int (nI x)), none, none, none]) (st1 := [.int 47, .ref 139]) (M1 := (rSs (er (he, ke, ki, fi, fa, or, mi, a, g, l, w, s + 1)))) (fun f => rfl) ?_
  refine mr_ldn (xs := (er (he, ke, ki, fi, fa, or, mi, a, g, l, w, s + 1))) rfl rfl (k := 47) (by decide) (er_or (K := (he, ke, ki, fi, fa, or, mi, a, g, l, w, s + 1)) v1 v6l (j := 0) (by decide)) ?_
  refine mr_seg 5 (pc1 := 32) (ls1 := [some (.ref 139), some (.int (nI x)), some (.int (nI (kg or 0))), none, none]) (st1 := [.int 1, .ref 139, .int (nI (kg or 0)), .ref 139]) (M1 := (rSs (er (he, ke, ki, fi, fa, or, mi, a, g, l, w, s + 1)))) (fun f => rfl) ?_
  refine mr_ldn (xs := (er (he, ke, ki, fi, fa, or, mi, a, g, l, w, s + 1))) rfl rfl (k := 1) (by decide) rfl ?_
  refine mr_call (y := 147) (y0 := 36) (L := [some (.ref 139), some (.int (nI (kg or 0))), some (.int (nI (s + 1))), none, none, none]) (rest := []) (rr := some (.int (nI y))) (M1 := (rSs (er (he, ke, ki, fi, fa, or, mi, a, g, l, w, s + 1)))) (fun f => rfl) (mr_eq (rc_way_s he ke ki fi fa or mi a g l w (s + 1) (kg or 0) (s + 1) v60 (by omega) hV1 hne) (by rw [hy0])) ?_
  refine mr_seg 3 (pc1 := 39) (ls1 := [some (.ref 139), some (.int (nI x)), some (.int (nI (kg or 0))), some (.int (nI y)), none]) (st1 := [.int 2, .ref 139]) (M1 := (rSs (er (he, ke, ki, fi, fa, or, mi, a, g, l, w, s + 1)))) (fun f => rfl) ?_
  refine mr_ldn (xs := (er (he, ke, ki, fi, fa, or, mi, a, g, l, w, s + 1))) rfl rfl (k := 2) (by decide) rfl ?_
  refine mr_seg 1 (pc1 := 41) (ls1 := [some (.ref 139), some (.int (nI x)), some (.int (nI (kg or 0))), some (.int (nI y)), none]) (st1 := [.int (nI y), .int (nI a)]) (M1 := (rSs (er (he, ke, ki, fi, fa, or, mi, a, g, l, w, s + 1)))) (fun f => rfl) ?_
  refine mr_call (y := 149) (y0 := 44) (L := [some (.int (nI a)), some (.int (nI y))]) (rest := []) (rr := some (.int (nI t))) (M1 := (rSs (er (he, ke, ki, fi, fa, or, mi, a, g, l, w, s + 1)))) (fun f => rfl) (mr_eq (rc_bey (c := a) (w := y) (by omega) hy _) (by rw [hb]; rfl)) ?_
  refine mr_seg 2 (pc1 := 48) (ls1 := [some (.ref 139), some (.int (nI x)), some (.int (nI (kg or 0))), some (.int (nI y)), some (.int (nI t))]) (st1 := [.int (nI t)]) (M1 := (rSs (er (he, ke, ki, fi, fa, or, mi, a, g, l, w, s + 1)))) (fun f => rfl) ?_
  refine mr_t (C := 0 ≤ (nI t)) (nI_pos' (by omega)) (fun f => rfl) ?_
  refine mr_seg 2 (pc1 := 55) (ls1 := [some (.ref 139), some (.int (nI x)), some (.int (nI (kg or 0))), some (.int (nI y)), some (.int (nI t))]) (st1 := [.int (nI t), .ref 139]) (M1 := (rSs (er (he, ke, ki, fi, fa, or, mi, a, g, l, w, s + 1)))) (fun f => rfl) ?_
  refine mr_call (y := 150) (y0 := 58) (L := [some (.ref 139), some (.int (nI t)), none]) (rest := []) (rr := some (.int (nI (kload he ke a w t)))) (M1 := (rSs (er (he, ke, ki, fi, fa, or, mi, a, g, l, w, s + 1)))) (fun f => rfl) (rc_load_s he ke ki fi fa or mi a g l w (s + 1) t ht hV1) ?_
  refine mr_seg 2 (pc1 := 60) (ls1 := [some (.ref 139), some (.int (nI x)), some (.int (nI (kg or 0))), some (.int (nI y)), some (.int (nI t))]) (st1 := [.int ((nI (kload he ke a w t)) + (nI x))]) (M1 := (rSs (er (he, ke, ki, fi, fa, or, mi, a, g, l, w, s + 1)))) (fun f => rfl) ?_
  refine mr_v (nI_add (kload he ke a w t) x) ?_
  refine mr_seg 2 (pc1 := 62) (ls1 := [some (.ref 139), some (.int (nI x)), some (.int (nI (kg or 0))), some (.int (nI y)), some (.int (nI t))]) (st1 := [.int (nI (kg or 0)), .ref 139, .int (nI (kload he ke a w t + x))]) (M1 := (rSs (er (he, ke, ki, fi, fa, or, mi, a, g, l, w, s + 1)))) (fun f => rfl) ?_
  refine mr_call (y := 152) (y0 := 65) (L := [some (.ref 139), some (.int (nI (kg or 0)))]) (rest := [.int (nI (kload he ke a w t + x))]) (rr := some (.int (nI (khold (kg ki (kg or 0)) (kg fi (kg or 0)))))) (M1 := (rSs (er (he, ke, ki, fi, fa, or, mi, a, g, l, w, s + 1)))) (fun f => rfl) (rc_hold_s he ke ki fi fa or mi a g l w (s + 1) (kg or 0) v60 hV1) ?_
  refine mr_ifN (C := (nI (kload he ke a w t + x)) ≤ (nI (khold (kg ki (kg or 0)) (kg fi (kg or 0))))) (nI_lei (a := kload he ke a w t + x) (b := khold (kg ki (kg or 0)) (kg fi (kg or 0))) (by omega)) (fun f => rfl) (fun h1 => ?_) (fun h1 => ?_)
  · refine mr_seg 3 (pc1 := 99) (ls1 := [some (.ref 139), some (.int (nI x)), some (.int (nI (kg or 0))), some (.int (nI y)), some (.int (nI t))]) (st1 := [.int (nI t), .int 2, .ref 139]) (M1 := (rSs (er (he, ke, ki, fi, fa, or, mi, a, g, l, w, s + 1)))) (fun f => rfl) ?_
    refine mr_stn (xs := (er (he, ke, ki, fi, fa, or, mi, a, g, l, w, s + 1))) (ys := (er (he, ke, ki, fi, fa, or, mi, t, g, l, w, s + 1))) (M2 := (rSs (er (he, ke, ki, fi, fa, or, mi, t, g, l, w, s + 1)))) rfl rfl (k := 2) (by decide) (by rw [er_leq (K := (he, ke, ki, fi, fa, or, mi, a, g, l, w, s + 1)) v1 v6l]; decide) (er_s2 (v := t)) rfl ?_
    refine mr_seg 3 (pc1 := 103) (ls1 := [some (.ref 139), some (.int (nI x)), some (.int (nI (kg or 0))), some (.int (nI y)), some (.int (nI t))]) (st1 := [.int (nI y), .int 4, .ref 139]) (M1 := (rSs (er (he, ke, ki, fi, fa, or, mi, t, g, l, w, s + 1)))) (fun f => rfl) ?_
    refine mr_stn (xs := (er (he, ke, ki, fi, fa, or, mi, t, g, l, w, s + 1))) (ys := (er (he, ke, ki, fi, fa, or, mi, t, g, y, w, s + 1))) (M2 := (rSs (er (he, ke, ki, fi, fa, or, mi, t, g, y, w, s + 1)))) rfl rfl (k := 4) (by decide) (by rw [er_leq (K := (he, ke, ki, fi, fa, or, mi, t, g, l, w, s + 1)) v1 v6l]; decide) (er_s4 (v := y)) rfl ?_
    refine mr_eq (mr_ret 1 (o := (none, (rSs (er (he, ke, ki, fi, fa, or, mi, t, g, y, w, s + 1))))) (fun f => rfl)) ?_
    exact congrArg (fun q : kK => ((none : Option Value), rSs (er q))) (kjs_t (x := x) hn hb (show ¬ (khold (kg ki (kg or 0)) (kg fi (kg or 0)) < kload he ke a w t + x) by omega)).symm
  · refine mr_seg 3 (pc1 := 71) (ls1 := [some (.ref 139), some (.int (nI x)), some (.int (nI (kg or 0))), some (.int (nI y)), some (.int (nI t))]) (st1 := [.int 2, .int (nI (kg or 0)), .ref 139]) (M1 := (rSs (er (he, ke, ki, fi, fa, or, mi, a, g, l, w, s + 1)))) (fun f => rfl) ?_
    refine mr_call (y := 141) (y0 := 74) (L := [some (.int (nI (kg or 0))), some (.int 2)]) (rest := [.ref 139]) (rr := some (.int (nI (32 + 3 * (kg or 0) + 2)))) (M1 := (rSs (er (he, ke, ki, fi, fa, or, mi, a, g, l, w, s + 1)))) (fun f => rfl) (rc_of (kg or 0) 2 (by omega) (by decide) _) ?_
    refine mr_seg 4 (pc1 := 79) (ls1 := [some (.ref 139), some (.int (nI x)), some (.int (nI (kg or 0))), some (.int (nI y)), some (.int (nI t))]) (st1 := [.int 2, .int (nI (kg or 0)), .ref 139, .int 99, .int (nI (32 + 3 * (kg or 0) + 2)), .ref 139]) (M1 := (rSs (er (he, ke, ki, fi, fa, or, mi, a, g, l, w, s + 1)))) (fun f => rfl) ?_
    refine mr_call (y := 141) (y0 := 82) (L := [some (.int (nI (kg or 0))), some (.int 2)]) (rest := [.ref 139, .int 99, .int (nI (32 + 3 * (kg or 0) + 2)), .ref 139]) (rr := some (.int (nI (32 + 3 * (kg or 0) + 2)))) (M1 := (rSs (er (he, ke, ki, fi, fa, or, mi, a, g, l, w, s + 1)))) (fun f => rfl) (rc_of (kg or 0) 2 (by omega) (by decide) _) ?_
    refine mr_ldn (xs := (er (he, ke, ki, fi, fa, or, mi, a, g, l, w, s + 1))) rfl rfl (k := 32 + 3 * (kg or 0) + 2) (by omega) (er_fa (K := (he, ke, ki, fi, fa, or, mi, a, g, l, w, s + 1)) v1 (by omega)) ?_
    refine mr_seg 2 (pc1 := 85) (ls1 := [some (.ref 139), some (.int (nI x)), some (.int (nI (kg or 0))), some (.int (nI y)), some (.int (nI t))]) (st1 := [.int ((nI (kg fa (kg or 0))) + 1), .int 99, .int (nI (32 + 3 * (kg or 0) + 2)), .ref 139]) (M1 := (rSs (er (he, ke, ki, fi, fa, or, mi, a, g, l, w, s + 1)))) (fun f => rfl) ?_
    refine mr_v (nI_add (kg fa (kg or 0)) 1) ?_
    refine mr_call (y := 154) (y0 := 88) (L := [some (.int 99), some (.int (nI (kg fa (kg or 0) + 1)))]) (rest := [.int (nI (32 + 3 * (kg or 0) + 2)), .ref 139]) (rr := some (.int (nI (min 99 (kg fa (kg or 0) + 1))))) (M1 := (rSs (er (he, ke, ki, fi, fa, or, mi, a, g, l, w, s + 1)))) (fun f => rfl) (rc_least 99 (kg fa (kg or 0) + 1) (by omega) (by omega) _) ?_
    refine mr_stn (xs := (er (he, ke, ki, fi, fa, or, mi, a, g, l, w, s + 1))) (ys := (er (he, ke, ki, fi, fa.set (kg or 0) (min 99 (kg fa (kg or 0) + 1)), or, mi, a, g, l, w, s + 1))) (M2 := (rSs (er (he, ke, ki, fi, fa.set (kg or 0) (min 99 (kg fa (kg or 0) + 1)), or, mi, a, g, l, w, s + 1)))) rfl rfl (k := 32 + 3 * (kg or 0) + 2) (by omega) (by rw [er_leq (K := (he, ke, ki, fi, fa, or, mi, a, g, l, w, s + 1)) v1 v6l]; omega) (er_fas (K := (he, ke, ki, fi, fa, or, mi, a, g, l, w, s + 1)) v1 v5 (by omega)) rfl ?_
    refine mr_seg 2 (pc1 := 91) (ls1 := [some (.ref 139), some (.int (nI x)), some (.int (nI (kg or 0))), some (.int (nI y)), some (.int (nI t))]) (st1 := [.int (nI (kg or 0)), .ref 139]) (M1 := (rSs (er (he, ke, ki, fi, fa.set (kg or 0) (min 99 (kg fa (kg or 0) + 1)), or, mi, a, g, l, w, s + 1)))) (fun f => rfl) ?_
    refine mr_call (y := 143) (y0 := 94) (L := [some (.ref 139), some (.int (nI (kg or 0))), none]) (rest := []) (rr := none) (M1 := (rSs (er (he, ke, ki, fi, fa.set (kg or 0) (min 99 (kg fa (kg or 0) + 1)), klast or mi (kg or 0), mi, a, g, l, w, s + 1)))) (fun f => rfl) (rc_last_s he ke ki fi (fa.set (kg or 0) (min 99 (kg fa (kg or 0) + 1))) or mi a g l w (s + 1) (kg or 0) v1 (kO_lt mi v7 or v6 0 (by omega)) v6 v7) ?_
    refine mr_eq (mr_ret 1 (o := (none, (rSs (er (he, ke, ki, fi, fa.set (kg or 0) (min 99 (kg fa (kg or 0) + 1)), klast or mi (kg or 0), mi, a, g, l, w, s + 1))))) (fun f => rfl)) ?_
    exact congrArg (fun q : kK => ((none : Option Value), rSs (er q))) (kjs_f (x := x) hn hb (show khold (kg ki (kg or 0)) (kg fi (kg or 0)) < kload he ke a w t + x by omega)).symm
theorem rc_step_s (he ke ki fi fa or : List Nat) (mi a g l w s : Nat) (x : Nat) (hx : x < 100) (hV : kV (he, ke, ki, fi, fa, or, mi, a, g, l, w, s)) (hs : s < 2 ^ 30) : mm_R 146 0 [some (.ref 139), some (.int (nI x)), none, none, none] [] (rSs (er (he, ke, ki, fi, fa, or, mi, a, g, l, w, s))) (none, rSs (er (kstep (he, ke, ki, fi, fa, or, mi, a, g, l, w, s) x))) := by
  cases hn : knext (he, ke, ki, fi, fa, or, mi, a, g, l, w, s) with
  | none => exact rc_step0_s he ke ki fi fa or mi a g l w s x hx hV hs hn
  | some y =>
    have hy := knext_lt hV hn
    have hne := knext_ne hn
    have hy0 := knext_y hn
    cases hb : kbey a y with
    | none => exact rc_step1_s he ke ki fi fa or mi a g l w s x hx hV hs y hn hy hb (knext_mi hn) hne hy0
    | some t => exact rc_step2_s he ke ki fi fa or mi a g l w s x hx hV hs y t hn hy hb (knext_mi hn) hne hy0
