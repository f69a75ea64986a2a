theorem kc_last_m (he ke ki fi fa or : List Nat) (mi a g l w s : Nat) (p : Nat) (hp : p < mi) (hO : or ∈ kOl mi) (hm : mi ≤ 5) : mm_R 42 0 [some (.ref 124), some (.int (nI p)), none, none] [] (kSm (kr (he, ke, ki, fi, fa, or, mi, a, g, l, w, s))) (none, kSm (kr (he, ke, ki, fi, fa, klast or mi p, mi, a, g, l, w, s))) := by
  obtain ⟨j, hj, hp1, hp2⟩ := kO_pos mi hm or hO p hp
  have hl := kO_len mi hm or hO
  have h5 : ∀ i, i < 5 → kg or i < 5 := kO_lt5 mi hm or hO
  match or, hl with
  | [o0, o1, o2, o3, o4], _ =>
    have b0 : o0 < 5 := h5 0 (by omega)
    have b1 : o1 < 5 := h5 1 (by omega)
    have b2 : o2 < 5 := h5 2 (by omega)
    have b3 : o3 < 5 := h5 3 (by omega)
    have b4 : o4 < 5 := h5 4 (by omega)
    match mi, j, hj, hm with
    | 1, 0, _, _ => cases hp1; exact kc_last_m_1_0 he ke ki fi fa a g l w s o0 o1 o2 o3 o4  b0 b1 b2 b3 b4
    | 2, 0, _, _ => cases hp1; exact kc_last_m_2_0 he ke ki fi fa a g l w s o0 o1 o2 o3 o4 (hp2 1 (by omega) (by omega)) b0 b1 b2 b3 b4
    | 2, 1, _, _ => cases hp1; exact kc_last_m_2_1 he ke ki fi fa a g l w s o1 o0 o2 o3 o4 (hp2 0 (by omega) (by omega)) b1 b0 b2 b3 b4
    | 3, 0, _, _ => cases hp1; exact kc_last_m_3_0 he ke ki fi fa a g l w s o0 o1 o2 o3 o4 (hp2 1 (by omega) (by omega)) (hp2 2 (by omega) (by omega)) b0 b1 b2 b3 b4
    | 3, 1, _, _ => cases hp1; exact kc_last_m_3_1 he ke ki fi fa a g l w s o1 o0 o2 o3 o4 (hp2 0 (by omega) (by omega)) (hp2 2 (by omega) (by omega)) b1 b0 b2 b3 b4
    | 3, 2, _, _ => cases hp1; exact kc_last_m_3_2 he ke ki fi fa a g l w s o2 o0 o1 o3 o4 (hp2 0 (by omega) (by omega)) (hp2 1 (by omega) (by omega)) b2 b0 b1 b3 b4
    | 4, 0, _, _ => cases hp1; exact kc_last_m_4_0 he ke ki fi fa a g l w s o0 o1 o2 o3 o4 (hp2 1 (by omega) (by omega)) (hp2 2 (by omega) (by omega)) (hp2 3 (by omega) (by omega)) b0 b1 b2 b3 b4
    | 4, 1, _, _ => cases hp1; exact kc_last_m_4_1 he ke ki fi fa a g l w s o1 o0 o2 o3 o4 (hp2 0 (by omega) (by omega)) (hp2 2 (by omega) (by omega)) (hp2 3 (by omega) (by omega)) b1 b0 b2 b3 b4
    | 4, 2, _, _ => cases hp1; exact kc_last_m_4_2 he ke ki fi fa a g l w s o2 o0 o1 o3 o4 (hp2 0 (by omega) (by omega)) (hp2 1 (by omega) (by omega)) (hp2 3 (by omega) (by omega)) b2 b0 b1 b3 b4
    | 4, 3, _, _ => cases hp1; exact kc_last_m_4_3 he ke ki fi fa a g l w s o3 o0 o1 o2 o4 (hp2 0 (by omega) (by omega)) (hp2 1 (by omega) (by omega)) (hp2 2 (by omega) (by omega)) b3 b0 b1 b2 b4
    | 5, 0, _, _ => cases hp1; exact kc_last_m_5_0 he ke ki fi fa a g l w s o0 o1 o2 o3 o4 (hp2 1 (by omega) (by omega)) (hp2 2 (by omega) (by omega)) (hp2 3 (by omega) (by omega)) (hp2 4 (by omega) (by omega)) b0 b1 b2 b3 b4
    | 5, 1, _, _ => cases hp1; exact kc_last_m_5_1 he ke ki fi fa a g l w s o1 o0 o2 o3 o4 (hp2 0 (by omega) (by omega)) (hp2 2 (by omega) (by omega)) (hp2 3 (by omega) (by omega)) (hp2 4 (by omega) (by omega)) b1 b0 b2 b3 b4
    | 5, 2, _, _ => cases hp1; exact kc_last_m_5_2 he ke ki fi fa a g l w s o2 o0 o1 o3 o4 (hp2 0 (by omega) (by omega)) (hp2 1 (by omega) (by omega)) (hp2 3 (by omega) (by omega)) (hp2 4 (by omega) (by omega)) b2 b0 b1 b3 b4
    | 5, 3, _, _ => cases hp1; exact kc_last_m_5_3 he ke ki fi fa a g l w s o3 o0 o1 o2 o4 (hp2 0 (by omega) (by omega)) (hp2 1 (by omega) (by omega)) (hp2 2 (by omega) (by omega)) (hp2 4 (by omega) (by omega)) b3 b0 b1 b2 b4
    | 5, 4, _, _ => cases hp1; exact kc_last_m_5_4 he ke ki fi fa a g l w s o4 o0 o1 o2 o3 (hp2 0 (by omega) (by omega)) (hp2 1 (by omega) (by omega)) (hp2 2 (by omega) (by omega)) (hp2 3 (by omega) (by omega)) b4 b0 b1 b2 b3
    | mi, j + 5, hj, hm => exact absurd hj (by omega)
    | mi + 6, _, _, hm => exact absurd hm (by omega)
    | 0, 0, hj, _ => exact absurd hj (by omega)
    | 0, 1, hj, _ => exact absurd hj (by omega)
    | 0, 2, hj, _ => exact absurd hj (by omega)
    | 0, 3, hj, _ => exact absurd hj (by omega)
    | 0, 4, hj, _ => exact absurd hj (by omega)
    | 1, 1, hj, _ => exact absurd hj (by omega)
    | 1, 2, hj, _ => exact absurd hj (by omega)
    | 1, 3, hj, _ => exact absurd hj (by omega)
    | 1, 4, hj, _ => exact absurd hj (by omega)
    | 2, 2, hj, _ => exact absurd hj (by omega)
    | 2, 3, hj, _ => exact absurd hj (by omega)
    | 2, 4, hj, _ => exact absurd hj (by omega)
    | 3, 3, hj, _ => exact absurd hj (by omega)
    | 3, 4, hj, _ => exact absurd hj (by omega)
    | 4, 4, hj, _ => exact absurd hj (by omega)
set_option maxRecDepth 100000 in
theorem kc_first_m_1_0 (he ke ki fi fa : List Nat) (a g l w s p o1 o2 o3 o4 : Nat) (hp : p < 5) (b1 : o1 < 5) (b2 : o2 < 5) (b3 : o3 < 5) (b4 : o4 < 5) : mm_R 90 0 [some (.ref 124), some (.int (nI p)), none, none] [] (kSm (kr (he, ke, ki, fi, fa, [p, o1, o2, o3, o4], 1, a, g, l, w, s))) (none, kSm (kr (he, ke, ki, fi, fa, kfirst [p, o1, o2, o3, o4] 1 p, 1, a, g, l, w, s))) := by
  refine mr_seg 4 (pc1 := 6) (ls1 := [some (.ref 124), some (.int (nI p)), none, none]) (st1 := [.int (1 - 1)]) (M1 := (kSm (kr (he, ke, ki, fi, fa, [p, o1, o2, o3, o4], 1, a, g, l, w, s)))) (fun f => rfl) ?_
  refine mr_v (show (1 : Int32) - 1 = 0 by decide) ?_
  refine mr_seg 5 (pc1 := 13) (ls1 := [some (.ref 124), some (.int (nI p)), some (.int 0), none]) (st1 := [.int (1 - 1)]) (M1 := (kSm (kr (he, ke, ki, fi, fa, [p, o1, o2, o3, o4], 1, a, g, l, w, s)))) (fun f => rfl) ?_
  refine mr_v (show (1 : Int32) - 1 = 0 by decide) ?_
  refine mr_seg 6 (pc1 := 23) (ls1 := [some (.ref 124), some (.int (nI p)), some (.int 0), some (.int 0)]) (st1 := [.int 0, .ref 130]) (M1 := (kSm (kr (he, ke, ki, fi, fa, [p, o1, o2, o3, o4], 1, a, g, l, w, s)))) (fun f => rfl) ?_
  refine mr_ldn (xs := ([p, o1, o2, o3, o4].map nI)) rfl rfl (k := 0) (by decide) rfl ?_
  refine mr_seg 1 (pc1 := 25) (ls1 := [some (.ref 124), some (.int (nI p)), some (.int 0), some (.int 0)]) (st1 := [.int (nI p), .int (nI p)]) (M1 := (kSm (kr (he, ke, ki, fi, fa, [p, o1, o2, o3, o4], 1, a, g, l, w, s)))) (fun f => rfl) ?_
  refine mr_t (C := (nI p) = (nI p)) (rfl) (fun f => rfl) ?_
  refine mr_seg 10 (pc1 := 59) (ls1 := [some (.ref 124), some (.int (nI p)), some (.int 0), some (.int (-1))]) (st1 := [.int (nI p), .int 0, .ref 130]) (M1 := (kSm (kr (he, ke, ki, fi, fa, [p, o1, o2, o3, o4], 1, a, g, l, w, s)))) (fun f => rfl) ?_
  refine mr_stn (xs := ([p, o1, o2, o3, o4].map nI)) (ys := ([p, o1, o2, o3, o4].map nI)) (M2 := (kSm (kr (he, ke, ki, fi, fa, [p, o1, o2, o3, o4], 1, a, g, l, w, s)))) rfl rfl (k := 0) (by decide) (by simp) rfl rfl ?_
  refine mr_eq (mr_ret 1 (o := (none, (kSm (kr (he, ke, ki, fi, fa, [p, o1, o2, o3, o4], 1, a, g, l, w, s))))) (fun f => rfl)) ?_
  have e : kfirst [p, o1, o2, o3, o4] 1 p = [p, o1, o2, o3, o4] := by simp [kfirst]
  rw [e]
set_option maxRecDepth 100000 in
theorem kc_first_m_2_0 (he ke ki fi fa : List Nat) (a g l w s p o1 o2 o3 o4 : Nat) (q1 : ¬ o1 = p) (hp : p < 5) (b1 : o1 < 5) (b2 : o2 < 5) (b3 : o3 < 5) (b4 : o4 < 5) : mm_R 90 0 [some (.ref 124), some (.int (nI p)), none, none] [] (kSm (kr (he, ke, ki, fi, fa, [p, o1, o2, o3, o4], 2, a, g, l, w, s))) (none, kSm (kr (he, ke, ki, fi, fa, kfirst [p, o1, o2, o3, o4] 2 p, 2, a, g, l, w, s))) := by
  refine mr_seg 4 (pc1 := 6) (ls1 := [some (.ref 124), some (.int (nI p)), none, none]) (st1 := [.int (2 - 1)]) (M1 := (kSm (kr (he, ke, ki, fi, fa, [p, o1, o2, o3, o4], 2, a, g, l, w, s)))) (fun f => rfl) ?_
  refine mr_v (show (2 : Int32) - 1 = 1 by decide) ?_
  refine mr_seg 5 (pc1 := 13) (ls1 := [some (.ref 124), some (.int (nI p)), some (.int 1), none]) (st1 := [.int (2 - 1)]) (M1 := (kSm (kr (he, ke, ki, fi, fa, [p, o1, o2, o3, o4], 2, a, g, l, w, s)))) (fun f => rfl) ?_
  refine mr_v (show (2 : Int32) - 1 = 1 by decide) ?_
  refine mr_seg 6 (pc1 := 23) (ls1 := [some (.ref 124), some (.int (nI p)), some (.int 1), some (.int 1)]) (st1 := [.int 1, .ref 130]) (M1 := (kSm (kr (he, ke, ki, fi, fa, [p, o1, o2, o3, o4], 2, a, g, l, w, s)))) (fun f => rfl) ?_
  refine mr_ldn (xs := ([p, o1, o2, o3, o4].map nI)) rfl rfl (k := 1) (by decide) rfl ?_
  refine mr_seg 1 (pc1 := 25) (ls1 := [some (.ref 124), some (.int (nI p)), some (.int 1), some (.int 1)]) (st1 := [.int (nI p), .int (nI o1)]) (M1 := (kSm (kr (he, ke, ki, fi, fa, [p, o1, o2, o3, o4], 2, a, g, l, w, s)))) (fun f => rfl) ?_
  refine mr_f (C := (nI o1) = (nI p)) (fun e => q1 ((nI_eq (by omega) (by omega)).mp e)) (fun f => rfl) ?_
  refine mr_seg 6 (pc1 := 38) (ls1 := [some (.ref 124), some (.int (nI p)), some (.int 1), some (.int 1)]) (st1 := [.int 1, .ref 130, .int 1, .ref 130]) (M1 := (kSm (kr (he, ke, ki, fi, fa, [p, o1, o2, o3, o4], 2, a, g, l, w, s)))) (fun f => rfl) ?_
  refine mr_ldn (xs := ([p, o1, o2, o3, o4].map nI)) rfl rfl (k := 1) (by decide) rfl ?_
  refine mr_stn (xs := ([p, o1, o2, o3, o4].map nI)) (ys := ([p, o1, o2, o3, o4].map nI)) (M2 := (kSm (kr (he, ke, ki, fi, fa, [p, o1, o2, o3, o4], 2, a, g, l, w, s)))) rfl rfl (k := 1) (by decide) (by simp) rfl rfl ?_
  refine mr_seg 8 (pc1 := 23) (ls1 := [some (.ref 124), some (.int (nI p)), some (.int 0), some (.int 0)]) (st1 := [.int 0, .ref 130]) (M1 := (kSm (kr (he, ke, ki, fi, fa, [p, o1, o2, o3, o4], 2, a, g, l, w, s)))) (fun f => rfl) ?_
  refine mr_ldn (xs := ([p, o1, o2, o3, o4].map nI)) rfl rfl (k := 0) (by decide) rfl ?_
  refine mr_seg 1 (pc1 := 25) (ls1 := [some (.ref 124), some (.int (nI p)), some (.int 0), some (.int 0)]) (st1 := [.int (nI p), .int (nI p)]) (M1 := (kSm (kr (he, ke, ki, fi, fa, [p, o1, o2, o3, o4], 2, a, g, l, w, s)))) (fun f => rfl) ?_
  refine mr_t (C := (nI p) = (nI p)) (rfl) (fun f => rfl) ?_
  refine mr_seg 10 (pc1 := 59) (ls1 := [some (.ref 124), some (.int (nI p)), some (.int 0), some (.int (-1))]) (st1 := [.int (nI p), .int 0, .ref 130]) (M1 := (kSm (kr (he, ke, ki, fi, fa, [p, o1, o2, o3, o4], 2, a, g, l, w, s)))) (fun f => rfl) ?_
  refine mr_stn (xs := ([p, o1, o2, o3, o4].map nI)) (ys := ([p, o1, o2, o3, o4].map nI)) (M2 := (kSm (kr (he, ke, ki, fi, fa, [p, o1, o2, o3, o4], 2, a, g, l, w, s)))) rfl rfl (k := 0) (by decide) (by simp) rfl rfl ?_
  refine mr_eq (mr_ret 1 (o := (none, (kSm (kr (he, ke, ki, fi, fa, [p, o1, o2, o3, o4], 2, a, g, l, w, s))))) (fun f => rfl)) ?_
  have e : kfirst [p, o1, o2, o3, o4] 2 p = [p, o1, o2, o3, o4] := by simp [kfirst, q1]
  rw [e]
set_option maxRecDepth 100000 in
theorem kc_first_m_2_1 (he ke ki fi fa : List Nat) (a g l w s p o0 o2 o3 o4 : Nat) (q0 : ¬ o0 = p) (hp : p < 5) (b0 : o0 < 5) (b2 : o2 < 5) (b3 : o3 < 5) (b4 : o4 < 5) : mm_R 90 0 [some (.ref 124), some (.int (nI p)), none, none] [] (kSm (kr (he, ke, ki, fi, fa, [o0, p, o2, o3, o4], 2, a, g, l, w, s))) (none, kSm (kr (he, ke, ki, fi, fa, kfirst [o0, p, o2, o3, o4] 2 p, 2, a, g, l, w, s))) := by
  refine mr_seg 4 (pc1 := 6) (ls1 := [some (.ref 124), some (.int (nI p)), none, none]) (st1 := [.int (2 - 1)]) (M1 := (kSm (kr (he, ke, ki, fi, fa, [o0, p, o2, o3, o4], 2, a, g, l, w, s)))) (fun f => rfl) ?_
  refine mr_v (show (2 : Int32) - 1 = 1 by decide) ?_
  refine mr_seg 5 (pc1 := 13) (ls1 := [some (.ref 124), some (.int (nI p)), some (.int 1), none]) (st1 := [.int (2 - 1)]) (M1 := (kSm (kr (he, ke, ki, fi, fa, [o0, p, o2, o3, o4], 2, a, g, l, w, s)))) (fun f => rfl) ?_
  refine mr_v (show (2 : Int32) - 1 = 1 by decide) ?_
  refine mr_seg 6 (pc1 := 23) (ls1 := [some (.ref 124), some (.int (nI p)), some (.int 1), some (.int 1)]) (st1 := [.int 1, .ref 130]) (M1 := (kSm (kr (he, ke, ki, fi, fa, [o0, p, o2, o3, o4], 2, a, g, l, w, s)))) (fun f => rfl) ?_
  refine mr_ldn (xs := ([o0, p, o2, o3, o4].map nI)) rfl rfl (k := 1) (by decide) rfl ?_
  refine mr_seg 1 (pc1 := 25) (ls1 := [some (.ref 124), some (.int (nI p)), some (.int 1), some (.int 1)]) (st1 := [.int (nI p), .int (nI p)]) (M1 := (kSm (kr (he, ke, ki, fi, fa, [o0, p, o2, o3, o4], 2, a, g, l, w, s)))) (fun f => rfl) ?_
  refine mr_t (C := (nI p) = (nI p)) (rfl) (fun f => rfl) ?_
  refine mr_seg 7 (pc1 := 23) (ls1 := [some (.ref 124), some (.int (nI p)), some (.int 1), some (.int 0)]) (st1 := [.int 0, .ref 130]) (M1 := (kSm (kr (he, ke, ki, fi, fa, [o0, p, o2, o3, o4], 2, a, g, l, w, s)))) (fun f => rfl) ?_
  refine mr_ldn (xs := ([o0, p, o2, o3, o4].map nI)) rfl rfl (k := 0) (by decide) rfl ?_
  refine mr_seg 1 (pc1 := 25) (ls1 := [some (.ref 124), some (.int (nI p)), some (.int 1), some (.int 0)]) (st1 := [.int (nI p), .int (nI o0)]) (M1 := (kSm (kr (he, ke, ki, fi, fa, [o0, p, o2, o3, o4], 2, a, g, l, w, s)))) (fun f => rfl) ?_
  refine mr_f (C := (nI o0) = (nI p)) (fun e => q0 ((nI_eq (by omega) (by omega)).mp e)) (fun f => rfl) ?_
  refine mr_seg 6 (pc1 := 38) (ls1 := [some (.ref 124), some (.int (nI p)), some (.int 1), some (.int 0)]) (st1 := [.int 0, .ref 130, .int 1, .ref 130]) (M1 := (kSm (kr (he, ke, ki, fi, fa, [o0, p, o2, o3, o4], 2, a, g, l, w, s)))) (fun f => rfl) ?_
  refine mr_ldn (xs := ([o0, p, o2, o3, o4].map nI)) rfl rfl (k := 0) (by decide) rfl ?_
  refine mr_stn (xs := ([o0, p, o2, o3, o4].map nI)) (ys := ([o0, o0, o2, o3, o4].map nI)) (M2 := (kSm (kr (he, ke, ki, fi, fa, [o0, o0, o2, o3, o4], 2, a, g, l, w, s)))) rfl rfl (k := 1) (by decide) (by simp) rfl rfl ?_
  refine mr_seg 11 (pc1 := 59) (ls1 := [some (.ref 124), some (.int (nI p)), some (.int 0), some (.int (-1))]) (st1 := [.int (nI p), .int 0, .ref 130]) (M1 := (kSm (kr (he, ke, ki, fi, fa, [o0, o0, o2, o3, o4], 2, a, g, l, w, s)))) (fun f => rfl) ?_
  refine mr_stn (xs := ([o0, o0, o2, o3, o4].map nI)) (ys := ([p, o0, o2, o3, o4].map nI)) (M2 := (kSm (kr (he, ke, ki, fi, fa, [p, o0, o2, o3, o4], 2, a, g, l, w, s)))) rfl rfl (k := 0) (by decide) (by simp) rfl rfl ?_
  refine mr_eq (mr_ret 1 (o := (none, (kSm (kr (he, ke, ki, fi, fa, [p, o0, o2, o3, o4], 2, a, g, l, w, s))))) (fun f => rfl)) ?_
  have e : kfirst [o0, p, o2, o3, o4] 2 p = [p, o0, o2, o3, o4] := by simp [kfirst, q0]
  rw [e]
set_option maxRecDepth 100000 in
theorem kc_first_m_3_0 (he ke ki fi fa : List Nat) (a g l w s p o1 o2 o3 o4 : Nat) (q1 : ¬ o1 = p) (q2 : ¬ o2 = p) (hp : p < 5) (b1 : o1 < 5) (b2 : o2 < 5) (b3 : o3 < 5) (b4 : o4 < 5) : mm_R 90 0 [some (.ref 124), some (.int (nI p)), none, none] [] (kSm (kr (he, ke, ki, fi, fa, [p, o1, o2, o3, o4], 3, a, g, l, w, s))) (none, kSm (kr (he, ke, ki, fi, fa, kfirst [p, o1, o2, o3, o4] 3 p, 3, a, g, l, w, s))) := by
  refine mr_seg 4 (pc1 := 6) (ls1 := [some (.ref 124), some (.int (nI p)), none, none]) (st1 := [.int (3 - 1)]) (M1 := (kSm (kr (he, ke, ki, fi, fa, [p, o1, o2, o3, o4], 3, a, g, l, w, s)))) (fun f => rfl) ?_
  refine mr_v (show (3 : Int32) - 1 = 2 by decide) ?_
  refine mr_seg 5 (pc1 := 13) (ls1 := [some (.ref 124), some (.int (nI p)), some (.int 2), none]) (st1 := [.int (3 - 1)]) (M1 := (kSm (kr (he, ke, ki, fi, fa, [p, o1, o2, o3, o4], 3, a, g, l, w, s)))) (fun f => rfl) ?_
  refine mr_v (show (3 : Int32) - 1 = 2 by decide) ?_
  refine mr_seg 6 (pc1 := 23) (ls1 := [some (.ref 124), some (.int (nI p)), some (.int 2), some (.int 2)]) (st1 := [.int 2, .ref 130]) (M1 := (kSm (kr (he, ke, ki, fi, fa, [p, o1, o2, o3, o4], 3, a, g, l, w, s)))) (fun f => rfl) ?_
  refine mr_ldn (xs := ([p, o1, o2, o3, o4].map nI)) rfl rfl (k := 2) (by decide) rfl ?_
  refine mr_seg 1 (pc1 := 25) (ls1 := [some (.ref 124), some (.int (nI p)), some (.int 2), some (.int 2)]) (st1 := [.int (nI p), .int (nI o2)]) (M1 := (kSm (kr (he, ke, ki, fi, fa, [p, o1, o2, o3, o4], 3, a, g, l, w, s)))) (fun f => rfl) ?_
  refine mr_f (C := (nI o2) = (nI p)) (fun e => q2 ((nI_eq (by omega) (by omega)).mp e)) (fun f => rfl) ?_
  refine mr_seg 6 (pc1 := 38) (ls1 := [some (.ref 124), some (.int (nI p)), some (.int 2), some (.int 2)]) (st1 := [.int 2, .ref 130, .int 2, .ref 130]) (M1 := (kSm (kr (he, ke, ki, fi, fa, [p, o1, o2, o3, o4], 3, a, g, l, w, s)))) (fun f => rfl) ?_
  refine mr_ldn (xs := ([p, o1, o2, o3, o4].map nI)) rfl rfl (k := 2) (by decide) rfl ?_
  refine mr_stn (xs := ([p, o1, o2, o3, o4].map nI)) (ys := ([p, o1, o2, o3, o4].map nI)) (M2 := (kSm (kr (he, ke, ki, fi, fa, [p, o1, o2, o3, o4], 3, a, g, l, w, s)))) rfl rfl (k := 2) (by decide) (by simp) rfl rfl ?_
  refine mr_seg 8 (pc1 := 23) (ls1 := [some (.ref 124), some (.int (nI p)), some (.int 1), some (.int 1)]) (st1 := [.int 1, .ref 130]) (M1 := (kSm (kr (he, ke, ki, fi, fa, [p, o1, o2, o3, o4], 3, a, g, l, w, s)))) (fun f => rfl) ?_
  refine mr_ldn (xs := ([p, o1, o2, o3, o4].map nI)) rfl rfl (k := 1) (by decide) rfl ?_
  refine mr_seg 1 (pc1 := 25) (ls1 := [some (.ref 124), some (.int (nI p)), some (.int 1), some (.int 1)]) (st1 := [.int (nI p), .int (nI o1)]) (M1 := (kSm (kr (he, ke, ki, fi, fa, [p, o1, o2, o3, o4], 3, a, g, l, w, s)))) (fun f => rfl) ?_
  refine mr_f (C := (nI o1) = (nI p)) (fun e => q1 ((nI_eq (by omega) (by omega)).mp e)) (fun f => rfl) ?_
  refine mr_seg 6 (pc1 := 38) (ls1 := [some (.ref 124), some (.int (nI p)), some (.int 1), some (.int 1)]) (st1 := [.int 1, .ref 130, .int 1, .ref 130]) (M1 := (kSm (kr (he, ke, ki, fi, fa, [p, o1, o2, o3, o4], 3, a, g, l, w, s)))) (fun f => rfl) ?_
  refine mr_ldn (xs := ([p, o1, o2, o3, o4].map nI)) rfl rfl (k := 1) (by decide) rfl ?_
  refine mr_stn (xs := ([p, o1, o2, o3, o4].map nI)) (ys := ([p, o1, o2, o3, o4].map nI)) (M2 := (kSm (kr (he, ke, ki, fi, fa, [p, o1, o2, o3, o4], 3, a, g, l, w, s)))) rfl rfl (k := 1) (by decide) (by simp) rfl rfl ?_
  refine mr_seg 8 (pc1 := 23) (ls1 := [some (.ref 124), some (.int (nI p)), some (.int 0), some (.int 0)]) (st1 := [.int 0, .ref 130]) (M1 := (kSm (kr (he, ke, ki, fi, fa, [p, o1, o2, o3, o4], 3, a, g, l, w, s)))) (fun f => rfl) ?_
  refine mr_ldn (xs := ([p, o1, o2, o3, o4].map nI)) rfl rfl (k := 0) (by decide) rfl ?_
  refine mr_seg 1 (pc1 := 25) (ls1 := [some (.ref 124), some (.int (nI p)), some (.int 0), some (.int 0)]) (st1 := [.int (nI p), .int (nI p)]) (M1 := (kSm (kr (he, ke, ki, fi, fa, [p, o1, o2, o3, o4], 3, a, g, l, w, s)))) (fun f => rfl) ?_
  refine mr_t (C := (nI p) = (nI p)) (rfl) (fun f => rfl) ?_
  refine mr_seg 10 (pc1 := 59) (ls1 := [some (.ref 124), some (.int (nI p)), some (.int 0), some (.int (-1))]) (st1 := [.int (nI p), .int 0, .ref 130]) (M1 := (kSm (kr (he, ke, ki, fi, fa, [p, o1, o2, o3, o4], 3, a, g, l, w, s)))) (fun f => rfl) ?_
  refine mr_stn (xs := ([p, o1, o2, o3, o4].map nI)) (ys := ([p, o1, o2, o3, o4].map nI)) (M2 := (kSm (kr (he, ke, ki, fi, fa, [p, o1, o2, o3, o4], 3, a, g, l, w, s)))) rfl rfl (k := 0) (by decide) (by simp) rfl rfl ?_
  refine mr_eq (mr_ret 1 (o := (none, (kSm (kr (he, ke, ki, fi, fa, [p, o1, o2, o3, o4], 3, a, g, l, w, s))))) (fun f => rfl)) ?_
  have e : kfirst [p, o1, o2, o3, o4] 3 p = [p, o1, o2, o3, o4] := by simp [kfirst, q1, q2]
  rw [e]
set_option maxRecDepth 100000 in
theorem kc_first_m_3_1 (he ke ki fi fa : List Nat) (a g l w s p o0 o2 o3 o4 : Nat) (q0 : ¬ o0 = p) (q2 : ¬ o2 = p) (hp : p < 5) (b0 : o0 < 5) (b2 : o2 < 5) (b3 : o3 < 5) (b4 : o4 < 5) : mm_R 90 0 [some (.ref 124), some (.int (nI p)), none, none] [] (kSm (kr (he, ke, ki, fi, fa, [o0, p, o2, o3, o4], 3, a, g, l, w, s))) (none, kSm (kr (he, ke, ki, fi, fa, kfirst [o0, p, o2, o3, o4] 3 p, 3, a, g, l, w, s))) := by
  refine mr_seg 4 (pc1 := 6) (ls1 := [some (.ref 124), some (.int (nI p)), none, none]) (st1 := [.int (3 - 1)]) (M1 := (kSm (kr (he, ke, ki, fi, fa, [o0, p, o2, o3, o4], 3, a, g, l, w, s)))) (fun f => rfl) ?_
  refine mr_v (show (3 : Int32) - 1 = 2 by decide) ?_
  refine mr_seg 5 (pc1 := 13) (ls1 := [some (.ref 124), some (.int (nI p)), some (.int 2), none]) (st1 := [.int (3 - 1)]) (M1 := (kSm (kr (he, ke, ki, fi, fa, [o0, p, o2, o3, o4], 3, a, g, l, w, s)))) (fun f => rfl) ?_
  refine mr_v (show (3 : Int32) - 1 = 2 by decide) ?_
  refine mr_seg 6 (pc1 := 23) (ls1 := [some (.ref 124), some (.int (nI p)), some (.int 2), some (.int 2)]) (st1 := [.int 2, .ref 130]) (M1 := (kSm (kr (he, ke, ki, fi, fa, [o0, p, o2, o3, o4], 3, a, g, l, w, s)))) (fun f => rfl) ?_
  refine mr_ldn (xs := ([o0, p, o2, o3, o4].map nI)) rfl rfl (k := 2) (by decide) rfl ?_
  refine mr_seg 1 (pc1 := 25) (ls1 := [some (.ref 124), some (.int (nI p)), some (.int 2), some (.int 2)]) (st1 := [.int (nI p), .int (nI o2)]) (M1 := (kSm (kr (he, ke, ki, fi, fa, [o0, p, o2, o3, o4], 3, a, g, l, w, s)))) (fun f => rfl) ?_
  refine mr_f (C := (nI o2) = (nI p)) (fun e => q2 ((nI_eq (by omega) (by omega)).mp e)) (fun f => rfl) ?_
  refine mr_seg 6 (pc1 := 38) (ls1 := [some (.ref 124), some (.int (nI p)), some (.int 2), some (.int 2)]) (st1 := [.int 2, .ref 130, .int 2, .ref 130]) (M1 := (kSm (kr (he, ke, ki, fi, fa, [o0, p, o2, o3, o4], 3, a, g, l, w, s)))) (fun f => rfl) ?_
  refine mr_ldn (xs := ([o0, p, o2, o3, o4].map nI)) rfl rfl (k := 2) (by decide) rfl ?_
  refine mr_stn (xs := ([o0, p, o2, o3, o4].map nI)) (ys := ([o0, p, o2, o3, o4].map nI)) (M2 := (kSm (kr (he, ke, ki, fi, fa, [o0, p, o2, o3, o4], 3, a, g, l, w, s)))) rfl rfl (k := 2) (by decide) (by simp) rfl rfl ?_
  refine mr_seg 8 (pc1 := 23) (ls1 := [some (.ref 124), some (.int (nI p)), some (.int 1), some (.int 1)]) (st1 := [.int 1, .ref 130]) (M1 := (kSm (kr (he, ke, ki, fi, fa, [o0, p, o2, o3, o4], 3, a, g, l, w, s)))) (fun f => rfl) ?_
  refine mr_ldn (xs := ([o0, p, o2, o3, o4].map nI)) rfl rfl (k := 1) (by decide) rfl ?_
  refine mr_seg 1 (pc1 := 25) (ls1 := [some (.ref 124), some (.int (nI p)), some (.int 1), some (.int 1)]) (st1 := [.int (nI p), .int (nI p)]) (M1 := (kSm (kr (he, ke, ki, fi, fa, [o0, p, o2, o3, o4], 3, a, g, l, w, s)))) (fun f => rfl) ?_
  refine mr_t (C := (nI p) = (nI p)) (rfl) (fun f => rfl) ?_
  refine mr_seg 7 (pc1 := 23) (ls1 := [some (.ref 124), some (.int (nI p)), some (.int 1), some (.int 0)]) (st1 := [.int 0, .ref 130]) (M1 := (kSm (kr (he, ke, ki, fi, fa, [o0, p, o2, o3, o4], 3, a, g, l, w, s)))) (fun f => rfl) ?_
  refine mr_ldn (xs := ([o0, p, o2, o3, o4].map nI)) rfl rfl (k := 0) (by decide) rfl ?_
  refine mr_seg 1 (pc1 := 25) (ls1 := [some (.ref 124), some (.int (nI p)), some (.int 1), some (.int 0)]) (st1 := [.int (nI p), .int (nI o0)]) (M1 := (kSm (kr (he, ke, ki, fi, fa, [o0, p, o2, o3, o4], 3, a, g, l, w, s)))) (fun f => rfl) ?_
  refine mr_f (C := (nI o0) = (nI p)) (fun e => q0 ((nI_eq (by omega) (by omega)).mp e)) (fun f => rfl) ?_
  refine mr_seg 6 (pc1 := 38) (ls1 := [some (.ref 124), some (.int (nI p)), some (.int 1), some (.int 0)]) (st1 := [.int 0, .ref 130, .int 1, .ref 130]) (M1 := (kSm (kr (he, ke, ki, fi, fa, [o0, p, o2, o3, o4], 3, a, g, l, w, s)))) (fun f => rfl) ?_
  refine mr_ldn (xs := ([o0, p, o2, o3, o4].map nI)) rfl rfl (k := 0) (by decide) rfl ?_
  refine mr_stn (xs := ([o0, p, o2, o3, o4].map nI)) (ys := ([o0, o0, o2, o3, o4].map nI)) (M2 := (kSm (kr (he, ke, ki, fi, fa, [o0, o0, o2, o3, o4], 3, a, g, l, w, s)))) rfl rfl (k := 1) (by decide) (by simp) rfl rfl ?_
  refine mr_seg 11 (pc1 := 59) (ls1 := [some (.ref 124), some (.int (nI p)), some (.int 0), some (.int (-1))]) (st1 := [.int (nI p), .int 0, .ref 130]) (M1 := (kSm (kr (he, ke, ki, fi, fa, [o0, o0, o2, o3, o4], 3, a, g, l, w, s)))) (fun f => rfl) ?_
  refine mr_stn (xs := ([o0, o0, o2, o3, o4].map nI)) (ys := ([p, o0, o2, o3, o4].map nI)) (M2 := (kSm (kr (he, ke, ki, fi, fa, [p, o0, o2, o3, o4], 3, a, g, l, w, s)))) rfl rfl (k := 0) (by decide) (by simp) rfl rfl ?_
  refine mr_eq (mr_ret 1 (o := (none, (kSm (kr (he, ke, ki, fi, fa, [p, o0, o2, o3, o4], 3, a, g, l, w, s))))) (fun f => rfl)) ?_
  have e : kfirst [o0, p, o2, o3, o4] 3 p = [p, o0, o2, o3, o4] := by simp [kfirst, q0, q2]
  rw [e]
set_option maxRecDepth 100000 in
theorem kc_first_m_3_2 (he ke ki fi fa : List Nat) (a g l w s p o0 o1 o3 o4 : Nat) (q0 : ¬ o0 = p) (q1 : ¬ o1 = p) (hp : p < 5) (b0 : o0 < 5) (b1 : o1 < 5) (b3 : o3 < 5) (b4 : o4 < 5) : mm_R 90 0 [some (.ref 124), some (.int (nI p)), none, none] [] (kSm (kr (he, ke, ki, fi, fa, [o0, o1, p, o3, o4], 3, a, g, l, w, s))) (none, kSm (kr (he, ke, ki, fi, fa, kfirst [o0, o1, p, o3, o4] 3 p, 3, a, g, l, w, s))) := by
  refine mr_seg 4 (pc1 := 6) (ls1 := [some (.ref 124), some (.int (nI p)), none, none]) (st1 := [.int (3 - 1)]) (M1 := (kSm (kr (he, ke, ki, fi, fa, [o0, o1, p, o3, o4], 3, a, g, l, w, s)))) (fun f => rfl) ?_
  refine mr_v (show (3 : Int32) - 1 = 2 by decide) ?_
  refine mr_seg 5 (pc1 := 13) (ls1 := [some (.ref 124), some (.int (nI p)), some (.int 2), none]) (st1 := [.int (3 - 1)]) (M1 := (kSm (kr (he, ke, ki, fi, fa, [o0, o1, p, o3, o4], 3, a, g, l, w, s)))) (fun f => rfl) ?_
  refine mr_v (show (3 : Int32) - 1 = 2 by decide) ?_
  refine mr_seg 6 (pc1 := 23) (ls1 := [some (.ref 124), some (.int (nI p)), some (.int 2), some (.int 2)]) (st1 := [.int 2, .ref 130]) (M1 := (kSm (kr (he, ke, ki, fi, fa, [o0, o1, p, o3, o4], 3, a, g, l, w, s)))) (fun f => rfl) ?_
  refine mr_ldn (xs := ([o0, o1, p, o3, o4].map nI)) rfl rfl (k := 2) (by decide) rfl ?_
  refine mr_seg 1 (pc1 := 25) (ls1 := [some (.ref 124), some (.int (nI p)), some (.int 2), some (.int 2)]) (st1 := [.int (nI p), .int (nI p)]) (M1 := (kSm (kr (he, ke, ki, fi, fa, [o0, o1, p, o3, o4], 3, a, g, l, w, s)))) (fun f => rfl) ?_
  refine mr_t (C := (nI p) = (nI p)) (rfl) (fun f => rfl) ?_
  refine mr_seg 7 (pc1 := 23) (ls1 := [some (.ref 124), some (.int (nI p)), some (.int 2), some (.int 1)]) (st1 := [.int 1, .ref 130]) (M1 := (kSm (kr (he, ke, ki, fi, fa, [o0, o1, p, o3, o4], 3, a, g, l, w, s)))) (fun f => rfl) ?_
  refine mr_ldn (xs := ([o0, o1, p, o3, o4].map nI)) rfl rfl (k := 1) (by decide) rfl ?_
  refine mr_seg 1 (pc1 := 25) (ls1 := [some (.ref 124), some (.int (nI p)), some (.int 2), some (.int 1)]) (st1 := [.int (nI p), .int (nI o1)]) (M1 := (kSm (kr (he, ke, ki, fi, fa, [o0, o1, p, o3, o4], 3, a, g, l, w, s)))) (fun f => rfl) ?_
  refine mr_f (C := (nI o1) = (nI p)) (fun e => q1 ((nI_eq (by omega) (by omega)).mp e)) (fun f => rfl) ?_
  refine mr_seg 6 (pc1 := 38) (ls1 := [some (.ref 124), some (.int (nI p)), some (.int 2), some (.int 1)]) (st1 := [.int 1, .ref 130, .int 2, .ref 130]) (M1 := (kSm (kr (he, ke, ki, fi, fa, [o0, o1, p, o3, o4], 3, a, g, l, w, s)))) (fun f => rfl) ?_
  refine mr_ldn (xs := ([o0, o1, p, o3, o4].map nI)) rfl rfl (k := 1) (by decide) rfl ?_
  refine mr_stn (xs := ([o0, o1, p, o3, o4].map nI)) (ys := ([o0, o1, o1, o3, o4].map nI)) (M2 := (kSm (kr (he, ke, ki, fi, fa, [o0, o1, o1, o3, o4], 3, a, g, l, w, s)))) rfl rfl (k := 2) (by decide) (by simp) rfl rfl ?_
  refine mr_seg 8 (pc1 := 23) (ls1 := [some (.ref 124), some (.int (nI p)), some (.int 1), some (.int 0)]) (st1 := [.int 0, .ref 130]) (M1 := (kSm (kr (he, ke, ki, fi, fa, [o0, o1, o1, o3, o4], 3, a, g, l, w, s)))) (fun f => rfl) ?_
  refine mr_ldn (xs := ([o0, o1, o1, o3, o4].map nI)) rfl rfl (k := 0) (by decide) rfl ?_
  refine mr_seg 1 (pc1 := 25) (ls1 := [some (.ref 124), some (.int (nI p)), some (.int 1), some (.int 0)]) (st1 := [.int (nI p), .int (nI o0)]) (M1 := (kSm (kr (he, ke, ki, fi, fa, [o0, o1, o1, o3, o4], 3, a, g, l, w, s)))) (fun f => rfl) ?_
  refine mr_f (C := (nI o0) = (nI p)) (fun e => q0 ((nI_eq (by omega) (by omega)).mp e)) (fun f => rfl) ?_
  refine mr_seg 6 (pc1 := 38) (ls1 := [some (.ref 124), some (.int (nI p)), some (.int 1), some (.int 0)]) (st1 := [.int 0, .ref 130, .int 1, .ref 130]) (M1 := (kSm (kr (he, ke, ki, fi, fa, [o0, o1, o1, o3, o4], 3, a, g, l, w, s)))) (fun f => rfl) ?_
  refine mr_ldn (xs := ([o0, o1, o1, o3, o4].map nI)) rfl rfl (k := 0) (by decide) rfl ?_
  refine mr_stn (xs := ([o0, o1, o1, o3, o4].map nI)) (ys := ([o0, o0, o1, o3, o4].map nI)) (M2 := (kSm (kr (he, ke, ki, fi, fa, [o0, o0, o1, o3, o4], 3, a, g, l, w, s)))) rfl rfl (k := 1) (by decide) (by simp) rfl rfl ?_
  refine mr_seg 11 (pc1 := 59) (ls1 := [some (.ref 124), some (.int (nI p)), some (.int 0), some (.int (-1))]) (st1 := [.int (nI p), .int 0, .ref 130]) (M1 := (kSm (kr (he, ke, ki, fi, fa, [o0, o0, o1, o3, o4], 3, a, g, l, w, s)))) (fun f => rfl) ?_
  refine mr_stn (xs := ([o0, o0, o1, o3, o4].map nI)) (ys := ([p, o0, o1, o3, o4].map nI)) (M2 := (kSm (kr (he, ke, ki, fi, fa, [p, o0, o1, o3, o4], 3, a, g, l, w, s)))) rfl rfl (k := 0) (by decide) (by simp) rfl rfl ?_
  refine mr_eq (mr_ret 1 (o := (none, (kSm (kr (he, ke, ki, fi, fa, [p, o0, o1, o3, o4], 3, a, g, l, w, s))))) (fun f => rfl)) ?_
  have e : kfirst [o0, o1, p, o3, o4] 3 p = [p, o0, o1, o3, o4] := by simp [kfirst, q0, q1]
  rw [e]
set_option maxRecDepth 100000 in
theorem kc_first_m_4_0 (he ke ki fi fa : List Nat) (a g l w s p o1 o2 o3 o4 : Nat) (q1 : ¬ o1 = p) (q2 : ¬ o2 = p) (q3 : ¬ o3 = p) (hp : p < 5) (b1 : o1 < 5) (b2 : o2 < 5) (b3 : o3 < 5) (b4 : o4 < 5) : mm_R 90 0 [some (.ref 124), some (.int (nI p)), none, none] [] (kSm (kr (he, ke, ki, fi, fa, [p, o1, o2, o3, o4], 4, a, g, l, w, s))) (none, kSm (kr (he, ke, ki, fi, fa, kfirst [p, o1, o2, o3, o4] 4 p, 4, a, g, l, w, s))) := by
  refine mr_seg 4 (pc1 := 6) (ls1 := [some (.ref 124), some (.int (nI p)), none, none]) (st1 := [.int (4 - 1)]) (M1 := (kSm (kr (he, ke, ki, fi, fa, [p, o1, o2, o3, o4], 4, a, g, l, w, s)))) (fun f => rfl) ?_
  refine mr_v (show (4 : Int32) - 1 = 3 by decide) ?_
  refine mr_seg 5 (pc1 := 13) (ls1 := [some (.ref 124), some (.int (nI p)), some (.int 3), none]) (st1 := [.int (4 - 1)]) (M1 := (kSm (kr (he, ke, ki, fi, fa, [p, o1, o2, o3, o4], 4, a, g, l, w, s)))) (fun f => rfl) ?_
  refine mr_v (show (4 : Int32) - 1 = 3 by decide) ?_
  refine mr_seg 6 (pc1 := 23) (ls1 := [some (.ref 124), some (.int (nI p)), some (.int 3), some (.int 3)]) (st1 := [.int 3, .ref 130]) (M1 := (kSm (kr (he, ke, ki, fi, fa, [p, o1, o2, o3, o4], 4, a, g, l, w, s)))) (fun f => rfl) ?_
  refine mr_ldn (xs := ([p, o1, o2, o3, o4].map nI)) rfl rfl (k := 3) (by decide) rfl ?_
  refine mr_seg 1 (pc1 := 25) (ls1 := [some (.ref 124), some (.int (nI p)), some (.int 3), some (.int 3)]) (st1 := [.int (nI p), .int (nI o3)]) (M1 := (kSm (kr (he, ke, ki, fi, fa, [p, o1, o2, o3, o4], 4, a, g, l, w, s)))) (fun f => rfl) ?_
  refine mr_f (C := (nI o3) = (nI p)) (fun e => q3 ((nI_eq (by omega) (by omega)).mp e)) (fun f => rfl) ?_
  refine mr_seg 6 (pc1 := 38) (ls1 := [some (.ref 124), some (.int (nI p)), some (.int 3), some (.int 3)]) (st1 := [.int 3, .ref 130, .int 3, .ref 130]) (M1 := (kSm (kr (he, ke, ki, fi, fa, [p, o1, o2, o3, o4], 4, a, g, l, w, s)))) (fun f => rfl) ?_
  refine mr_ldn (xs := ([p, o1, o2, o3, o4].map nI)) rfl rfl (k := 3) (by decide) rfl ?_
  refine mr_stn (xs := ([p, o1, o2, o3, o4].map nI)) (ys := ([p, o1, o2, o3, o4].map nI)) (M2 := (kSm (kr (he, ke, ki, fi, fa, [p, o1, o2, o3, o4], 4, a, g, l, w, s)))) rfl rfl (k := 3) (by decide) (by simp) rfl rfl ?_
  refine mr_seg 8 (pc1 := 23) (ls1 := [some (.ref 124), some (.int (nI p)), some (.int 2), some (.int 2)]) (st1 := [.int 2, .ref 130]) (M1 := (kSm (kr (he, ke, ki, fi, fa, [p, o1, o2, o3, o4], 4, a, g, l, w, s)))) (fun f => rfl) ?_
  refine mr_ldn (xs := ([p, o1, o2, o3, o4].map nI)) rfl rfl (k := 2) (by decide) rfl ?_
  refine mr_seg 1 (pc1 := 25) (ls1 := [some (.ref 124), some (.int (nI p)), some (.int 2), some (.int 2)]) (st1 := [.int (nI p), .int (nI o2)]) (M1 := (kSm (kr (he, ke, ki, fi, fa, [p, o1, o2, o3, o4], 4, a, g, l, w, s)))) (fun f => rfl) ?_
  refine mr_f (C := (nI o2) = (nI p)) (fun e => q2 ((nI_eq (by omega) (by omega)).mp e)) (fun f => rfl) ?_
  refine mr_seg 6 (pc1 := 38) (ls1 := [some (.ref 124), some (.int (nI p)), some (.int 2), some (.int 2)]) (st1 := [.int 2, .ref 130, .int 2, .ref 130]) (M1 := (kSm (kr (he, ke, ki, fi, fa, [p, o1, o2, o3, o4], 4, a, g, l, w, s)))) (fun f => rfl) ?_
  refine mr_ldn (xs := ([p, o1, o2, o3, o4].map nI)) rfl rfl (k := 2) (by decide) rfl ?_
  refine mr_stn (xs := ([p, o1, o2, o3, o4].map nI)) (ys := ([p, o1, o2, o3, o4].map nI)) (M2 := (kSm (kr (he, ke, ki, fi, fa, [p, o1, o2, o3, o4], 4, a, g, l, w, s)))) rfl rfl (k := 2) (by decide) (by simp) rfl rfl ?_
  refine mr_seg 8 (pc1 := 23) (ls1 := [some (.ref 124), some (.int (nI p)), some (.int 1), some (.int 1)]) (st1 := [.int 1, .ref 130]) (M1 := (kSm (kr (he, ke, ki, fi, fa, [p, o1, o2, o3, o4], 4, a, g, l, w, s)))) (fun f => rfl) ?_
  refine mr_ldn (xs := ([p, o1, o2, o3, o4].map nI)) rfl rfl (k := 1) (by decide) rfl ?_
  refine mr_seg 1 (pc1 := 25) (ls1 := [some (.ref 124), some (.int (nI p)), some (.int 1), some (.int 1)]) (st1 := [.int (nI p), .int (nI o1)]) (M1 := (kSm (kr (he, ke, ki, fi, fa, [p, o1, o2, o3, o4], 4, a, g, l, w, s)))) (fun f => rfl) ?_
  refine mr_f (C := (nI o1) = (nI p)) (fun e => q1 ((nI_eq (by omega) (by omega)).mp e)) (fun f => rfl) ?_
  refine mr_seg 6 (pc1 := 38) (ls1 := [some (.ref 124), some (.int (nI p)), some (.int 1), some (.int 1)]) (st1 := [.int 1, .ref 130, .int 1, .ref 130]) (M1 := (kSm (kr (he, ke, ki, fi, fa, [p, o1, o2, o3, o4], 4, a, g, l, w, s)))) (fun f => rfl) ?_
  refine mr_ldn (xs := ([p, o1, o2, o3, o4].map nI)) rfl rfl (k := 1) (by decide) rfl ?_
  refine mr_stn (xs := ([p, o1, o2, o3, o4].map nI)) (ys := ([p, o1, o2, o3, o4].map nI)) (M2 := (kSm (kr (he, ke, ki, fi, fa, [p, o1, o2, o3, o4], 4, a, g, l, w, s)))) rfl rfl (k := 1) (by decide) (by simp) rfl rfl ?_
  refine mr_seg 8 (pc1 := 23) (ls1 := [some (.ref 124), some (.int (nI p)), some (.int 0), some (.int 0)]) (st1 := [.int 0, .ref 130]) (M1 := (kSm (kr (he, ke, ki, fi, fa, [p, o1, o2, o3, o4], 4, a, g, l, w, s)))) (fun f => rfl) ?_
  refine mr_ldn (xs := ([p, o1, o2, o3, o4].map nI)) rfl rfl (k := 0) (by decide) rfl ?_
  refine mr_seg 1 (pc1 := 25) (ls1 := [some (.ref 124), some (.int (nI p)), some (.int 0), some (.int 0)]) (st1 := [.int (nI p), .int (nI p)]) (M1 := (kSm (kr (he, ke, ki, fi, fa, [p, o1, o2, o3, o4], 4, a, g, l, w, s)))) (fun f => rfl) ?_
  refine mr_t (C := (nI p) = (nI p)) (rfl) (fun f => rfl) ?_
  refine mr_seg 10 (pc1 := 59) (ls1 := [some (.ref 124), some (.int (nI p)), some (.int 0), some (.int (-1))]) (st1 := [.int (nI p), .int 0, .ref 130]) (M1 := (kSm (kr (he, ke, ki, fi, fa, [p, o1, o2, o3, o4], 4, a, g, l, w, s)))) (fun f => rfl) ?_
  refine mr_stn (xs := ([p, o1, o2, o3, o4].map nI)) (ys := ([p, o1, o2, o3, o4].map nI)) (M2 := (kSm (kr (he, ke, ki, fi, fa, [p, o1, o2, o3, o4], 4, a, g, l, w, s)))) rfl rfl (k := 0) (by decide) (by simp) rfl rfl ?_
  refine mr_eq (mr_ret 1 (o := (none, (kSm (kr (he, ke, ki, fi, fa, [p, o1, o2, o3, o4], 4, a, g, l, w, s))))) (fun f => rfl)) ?_
  have e : kfirst [p, o1, o2, o3, o4] 4 p = [p, o1, o2, o3, o4] := by simp [kfirst, q1, q2, q3]
  rw [e]
set_option maxRecDepth 100000 in
theorem kc_first_m_4_1 (he ke ki fi fa : List Nat) (a g l w s p o0 o2 o3 o4 : Nat) (q0 : ¬ o0 = p) (q2 : ¬ o2 = p) (q3 : ¬ o3 = p) (hp : p < 5) (b0 : o0 < 5) (b2 : o2 < 5) (b3 : o3 < 5) (b4 : o4 < 5) : mm_R 90 0 [some (.ref 124), some (.int (nI p)), none, none] [] (kSm (kr (he, ke, ki, fi, fa, [o0, p, o2, o3, o4], 4, a, g, l, w, s))) (none, kSm (kr (he, ke, ki, fi, fa, kfirst [o0, p, o2, o3, o4] 4 p, 4, a, g, l, w, s))) := by
  refine mr_seg 4 (pc1 := 6) (ls1 := [some (.ref 124), some (.int (nI p)), none, none]) (st1 := [.int (4 - 1)]) (M1 := (kSm (kr (he, ke, ki, fi, fa, [o0, p, o2, o3, o4], 4, a, g, l, w, s)))) (fun f => rfl) ?_
  refine mr_v (show (4 : Int32) - 1 = 3 by decide) ?_
  refine mr_seg 5 (pc1 := 13) (ls1 := [some (.ref 124), some (.int (nI p)), some (.int 3), none]) (st1 := [.int (4 - 1)]) (M1 := (kSm (kr (he, ke, ki, fi, fa, [o0, p, o2, o3, o4], 4, a, g, l, w, s)))) (fun f => rfl) ?_
  refine mr_v (show (4 : Int32) - 1 = 3 by decide) ?_
  refine mr_seg 6 (pc1 := 23) (ls1 := [some (.ref 124), some (.int (nI p)), some (.int 3), some (.int 3)]) (st1 := [.int 3, .ref 130]) (M1 := (kSm (kr (he, ke, ki, fi, fa, [o0, p, o2, o3, o4], 4, a, g, l, w, s)))) (fun f => rfl) ?_
  refine mr_ldn (xs := ([o0, p, o2, o3, o4].map nI)) rfl rfl (k := 3) (by decide) rfl ?_
  refine mr_seg 1 (pc1 := 25) (ls1 := [some (.ref 124), some (.int (nI p)), some (.int 3), some (.int 3)]) (st1 := [.int (nI p), .int (nI o3)]) (M1 := (kSm (kr (he, ke, ki, fi, fa, [o0, p, o2, o3, o4], 4, a, g, l, w, s)))) (fun f => rfl) ?_
  refine mr_f (C := (nI o3) = (nI p)) (fun e => q3 ((nI_eq (by omega) (by omega)).mp e)) (fun f => rfl) ?_
  refine mr_seg 6 (pc1 := 38) (ls1 := [some (.ref 124), some (.int (nI p)), some (.int 3), some (.int 3)]) (st1 := [.int 3, .ref 130, .int 3, .ref 130]) (M1 := (kSm (kr (he, ke, ki, fi, fa, [o0, p, o2, o3, o4], 4, a, g, l, w, s)))) (fun f => rfl) ?_
  refine mr_ldn (xs := ([o0, p, o2, o3, o4].map nI)) rfl rfl (k := 3) (by decide) rfl ?_
  refine mr_stn (xs := ([o0, p, o2, o3, o4].map nI)) (ys := ([o0, p, o2, o3, o4].map nI)) (M2 := (kSm (kr (he, ke, ki, fi, fa, [o0, p, o2, o3, o4], 4, a, g, l, w, s)))) rfl rfl (k := 3) (by decide) (by simp) rfl rfl ?_
  refine mr_seg 8 (pc1 := 23) (ls1 := [some (.ref 124), some (.int (nI p)), some (.int 2), some (.int 2)]) (st1 := [.int 2, .ref 130]) (M1 := (kSm (kr (he, ke, ki, fi, fa, [o0, p, o2, o3, o4], 4, a, g, l, w, s)))) (fun f => rfl) ?_
  refine mr_ldn (xs := ([o0, p, o2, o3, o4].map nI)) rfl rfl (k := 2) (by decide) rfl ?_
  refine mr_seg 1 (pc1 := 25) (ls1 := [some (.ref 124), some (.int (nI p)), some (.int 2), some (.int 2)]) (st1 := [.int (nI p), .int (nI o2)]) (M1 := (kSm (kr (he, ke, ki, fi, fa, [o0, p, o2, o3, o4], 4, a, g, l, w, s)))) (fun f => rfl) ?_
  refine mr_f (C := (nI o2) = (nI p)) (fun e => q2 ((nI_eq (by omega) (by omega)).mp e)) (fun f => rfl) ?_
  refine mr_seg 6 (pc1 := 38) (ls1 := [some (.ref 124), some (.int (nI p)), some (.int 2), some (.int 2)]) (st1 := [.int 2, .ref 130, .int 2, .ref 130]) (M1 := (kSm (kr (he, ke, ki, fi, fa, [o0, p, o2, o3, o4], 4, a, g, l, w, s)))) (fun f => rfl) ?_
  refine mr_ldn (xs := ([o0, p, o2, o3, o4].map nI)) rfl rfl (k := 2) (by decide) rfl ?_
  refine mr_stn (xs := ([o0, p, o2, o3, o4].map nI)) (ys := ([o0, p, o2, o3, o4].map nI)) (M2 := (kSm (kr (he, ke, ki, fi, fa, [o0, p, o2, o3, o4], 4, a, g, l, w, s)))) rfl rfl (k := 2) (by decide) (by simp) rfl rfl ?_
  refine mr_seg 8 (pc1 := 23) (ls1 := [some (.ref 124), some (.int (nI p)), some (.int 1), some (.int 1)]) (st1 := [.int 1, .ref 130]) (M1 := (kSm (kr (he, ke, ki, fi, fa, [o0, p, o2, o3, o4], 4, a, g, l, w, s)))) (fun f => rfl) ?_
  refine mr_ldn (xs := ([o0, p, o2, o3, o4].map nI)) rfl rfl (k := 1) (by decide) rfl ?_
  refine mr_seg 1 (pc1 := 25) (ls1 := [some (.ref 124), some (.int (nI p)), some (.int 1), some (.int 1)]) (st1 := [.int (nI p), .int (nI p)]) (M1 := (kSm (kr (he, ke, ki, fi, fa, [o0, p, o2, o3, o4], 4, a, g, l, w, s)))) (fun f => rfl) ?_
  refine mr_t (C := (nI p) = (nI p)) (rfl) (fun f => rfl) ?_
  refine mr_seg 7 (pc1 := 23) (ls1 := [some (.ref 124), some (.int (nI p)), some (.int 1), some (.int 0)]) (st1 := [.int 0, .ref 130]) (M1 := (kSm (kr (he, ke, ki, fi, fa, [o0, p, o2, o3, o4], 4, a, g, l, w, s)))) (fun f => rfl) ?_
  refine mr_ldn (xs := ([o0, p, o2, o3, o4].map nI)) rfl rfl (k := 0) (by decide) rfl ?_
  refine mr_seg 1 (pc1 := 25) (ls1 := [some (.ref 124), some (.int (nI p)), some (.int 1), some (.int 0)]) (st1 := [.int (nI p), .int (nI o0)]) (M1 := (kSm (kr (he, ke, ki, fi, fa, [o0, p, o2, o3, o4], 4, a, g, l, w, s)))) (fun f => rfl) ?_
  refine mr_f (C := (nI o0) = (nI p)) (fun e => q0 ((nI_eq (by omega) (by omega)).mp e)) (fun f => rfl) ?_
  refine mr_seg 6 (pc1 := 38) (ls1 := [some (.ref 124), some (.int (nI p)), some (.int 1), some (.int 0)]) (st1 := [.int 0, .ref 130, .int 1, .ref 130]) (M1 := (kSm (kr (he, ke, ki, fi, fa, [o0, p, o2, o3, o4], 4, a, g, l, w, s)))) (fun f => rfl) ?_
  refine mr_ldn (xs := ([o0, p, o2, o3, o4].map nI)) rfl rfl (k := 0) (by decide) rfl ?_
  refine mr_stn (xs := ([o0, p, o2, o3, o4].map nI)) (ys := ([o0, o0, o2, o3, o4].map nI)) (M2 := (kSm (kr (he, ke, ki, fi, fa, [o0, o0, o2, o3, o4], 4, a, g, l, w, s)))) rfl rfl (k := 1) (by decide) (by simp) rfl rfl ?_
  refine mr_seg 11 (pc1 := 59) (ls1 := [some (.ref 124), some (.int (nI p)), some (.int 0), some (.int (-1))]) (st1 := [.int (nI p), .int 0, .ref 130]) (M1 := (kSm (kr (he, ke, ki, fi, fa, [o0, o0, o2, o3, o4], 4, a, g, l, w, s)))) (fun f => rfl) ?_
  refine mr_stn (xs := ([o0, o0, o2, o3, o4].map nI)) (ys := ([p, o0, o2, o3, o4].map nI)) (M2 := (kSm (kr (he, ke, ki, fi, fa, [p, o0, o2, o3, o4], 4, a, g, l, w, s)))) rfl rfl (k := 0) (by decide) (by simp) rfl rfl ?_
  refine mr_eq (mr_ret 1 (o := (none, (kSm (kr (he, ke, ki, fi, fa, [p, o0, o2, o3, o4], 4, a, g, l, w, s))))) (fun f => rfl)) ?_
  have e : kfirst [o0, p, o2, o3, o4] 4 p = [p, o0, o2, o3, o4] := by simp [kfirst, q0, q2, q3]
  rw [e]
set_option maxRecDepth 100000 in
theorem kc_first_m_4_2 (he ke ki fi fa : List Nat) (a g l w s p o0 o1 o3 o4 : Nat) (q0 : ¬ o0 = p) (q1 : ¬ o1 = p) (q3 : ¬ o3 = p) (hp : p < 5) (b0 : o0 < 5) (b1 : o1 < 5) (b3 : o3 < 5) (b4 : o4 < 5) : mm_R 90 0 [some (.ref 124), some (.int (nI p)), none, none] [] (kSm (kr (he, ke, ki, fi, fa, [o0, o1, p, o3, o4], 4, a, g, l, w, s))) (none, kSm (kr (he, ke, ki, fi, fa, kfirst [o0, o1, p, o3, o4] 4 p, 4, a, g, l, w, s))) := by
  refine mr_seg 4 (pc1 := 6) (ls1 := [some (.ref 124), some (.int (nI p)), none, none]) (st1 := [.int (4 - 1)]) (M1 := (kSm (kr (he, ke, ki, fi, fa, [o0, o1, p, o3, o4], 4, a, g, l, w, s)))) (fun f => rfl) ?_
  refine mr_v (show (4 : Int32) - 1 = 3 by decide) ?_
  refine mr_seg 5 (pc1 := 13) (ls1 := [some (.ref 124), some (.int (nI p)), some (.int 3), none]) (st1 := [.int (4 - 1)]) (M1 := (kSm (kr (he, ke, ki, fi, fa, [o0, o1, p, o3, o4], 4, a, g, l, w, s)))) (fun f => rfl) ?_
  refine mr_v (show (4 : Int32) - 1 = 3 by decide) ?_
  refine mr_seg 6 (pc1 := 23) (ls1 := [some (.ref 124), some (.int (nI p)), some (.int 3), some (.int 3)]) (st1 := [.int 3, .ref 130]) (M1 := (kSm (kr (he, ke, ki, fi, fa, [o0, o1, p, o3, o4], 4, a, g, l, w, s)))) (fun f => rfl) ?_
  refine mr_ldn (xs := ([o0, o1, p, o3, o4].map nI)) rfl rfl (k := 3) (by decide) rfl ?_
  refine mr_seg 1 (pc1 := 25) (ls1 := [some (.ref 124), some (.int (nI p)), some (.int 3), some (.int 3)]) (st1 := [.int (nI p), .int (nI o3)]) (M1 := (kSm (kr (he, ke, ki, fi, fa, [o0, o1, p, o3, o4], 4, a, g, l, w, s)))) (fun f => rfl) ?_
  refine mr_f (C := (nI o3) = (nI p)) (fun e => q3 ((nI_eq (by omega) (by omega)).mp e)) (fun f => rfl) ?_
  refine mr_seg 6 (pc1 := 38) (ls1 := [some (.ref 124), some (.int (nI p)), some (.int 3), some (.int 3)]) (st1 := [.int 3, .ref 130, .int 3, .ref 130]) (M1 := (kSm (kr (he, ke, ki, fi, fa, [o0, o1, p, o3, o4], 4, a, g, l, w, s)))) (fun f => rfl) ?_
  refine mr_ldn (xs := ([o0, o1, p, o3, o4].map nI)) rfl rfl (k := 3) (by decide) rfl ?_
  refine mr_stn (xs := ([o0, o1, p, o3, o4].map nI)) (ys := ([o0, o1, p, o3, o4].map nI)) (M2 := (kSm (kr (he, ke, ki, fi, fa, [o0, o1, p, o3, o4], 4, a, g, l, w, s)))) rfl rfl (k := 3) (by decide) (by simp) rfl rfl ?_
  refine mr_seg 8 (pc1 := 23) (ls1 := [some (.ref 124), some (.int (nI p)), some (.int 2), some (.int 2)]) (st1 := [.int 2, .ref 130]) (M1 := (kSm (kr (he, ke, ki, fi, fa, [o0, o1, p, o3, o4], 4, a, g, l, w, s)))) (fun f => rfl) ?_
  refine mr_ldn (xs := ([o0, o1, p, o3, o4].map nI)) rfl rfl (k := 2) (by decide) rfl ?_
  refine mr_seg 1 (pc1 := 25) (ls1 := [some (.ref 124), some (.int (nI p)), some (.int 2), some (.int 2)]) (st1 := [.int (nI p), .int (nI p)]) (M1 := (kSm (kr (he, ke, ki, fi, fa, [o0, o1, p, o3, o4], 4, a, g, l, w, s)))) (fun f => rfl) ?_
  refine mr_t (C := (nI p) = (nI p)) (rfl) (fun f => rfl) ?_
  refine mr_seg 7 (pc1 := 23) (ls1 := [some (.ref 124), some (.int (nI p)), some (.int 2), some (.int 1)]) (st1 := [.int 1, .ref 130]) (M1 := (kSm (kr (he, ke, ki, fi, fa, [o0, o1, p, o3, o4], 4, a, g, l, w, s)))) (fun f => rfl) ?_
  refine mr_ldn (xs := ([o0, o1, p, o3, o4].map nI)) rfl rfl (k := 1) (by decide) rfl ?_
  refine mr_seg 1 (pc1 := 25) (ls1 := [some (.ref 124), some (.int (nI p)), some (.int 2), some (.int 1)]) (st1 := [.int (nI p), .int (nI o1)]) (M1 := (kSm (kr (he, ke, ki, fi, fa, [o0, o1, p, o3, o4], 4, a, g, l, w, s)))) (fun f => rfl) ?_
  refine mr_f (C := (nI o1) = (nI p)) (fun e => q1 ((nI_eq (by omega) (by omega)).mp e)) (fun f => rfl) ?_
  refine mr_seg 6 (pc1 := 38) (ls1 := [some (.ref 124), some (.int (nI p)), some (.int 2), some (.int 1)]) (st1 := [.int 1, .ref 130, .int 2, .ref 130]) (M1 := (kSm (kr (he, ke, ki, fi, fa, [o0, o1, p, o3, o4], 4, a, g, l, w, s)))) (fun f => rfl) ?_
  refine mr_ldn (xs := ([o0, o1, p, o3, o4].map nI)) rfl rfl (k := 1) (by decide) rfl ?_
  refine mr_stn (xs := ([o0, o1, p, o3, o4].map nI)) (ys := ([o0, o1, o1, o3, o4].map nI)) (M2 := (kSm (kr (he, ke, ki, fi, fa, [o0, o1, o1, o3, o4], 4, a, g, l, w, s)))) rfl rfl (k := 2) (by decide) (by simp) rfl rfl ?_
  refine mr_seg 8 (pc1 := 23) (ls1 := [some (.ref 124), some (.int (nI p)), some (.int 1), some (.int 0)]) (st1 := [.int 0, .ref 130]) (M1 := (kSm (kr (he, ke, ki, fi, fa, [o0, o1, o1, o3, o4], 4, a, g, l, w, s)))) (fun f => rfl) ?_
  refine mr_ldn (xs := ([o0, o1, o1, o3, o4].map nI)) rfl rfl (k := 0) (by decide) rfl ?_
  refine mr_seg 1 (pc1 := 25) (ls1 := [some (.ref 124), some (.int (nI p)), some (.int 1), some (.int 0)]) (st1 := [.int (nI p), .int (nI o0)]) (M1 := (kSm (kr (he, ke, ki, fi, fa, [o0, o1, o1, o3, o4], 4, a, g, l, w, s)))) (fun f => rfl) ?_
  refine mr_f (C := (nI o0) = (nI p)) (fun e => q0 ((nI_eq (by omega) (by omega)).mp e)) (fun f => rfl) ?_
  refine mr_seg 6 (pc1 := 38) (ls1 := [some (.ref 124), some (.int (nI p)), some (.int 1), some (.int 0)]) (st1 := [.int 0, .ref 130, .int 1, .ref 130]) (M1 := (kSm (kr (he, ke, ki, fi, fa, [o0, o1, o1, o3, o4], 4, a, g, l, w, s)))) (fun f => rfl) ?_
  refine mr_ldn (xs := ([o0, o1, o1, o3, o4].map nI)) rfl rfl (k := 0) (by decide) rfl ?_
  refine mr_stn (xs := ([o0, o1, o1, o3, o4].map nI)) (ys := ([o0, o0, o1, o3, o4].map nI)) (M2 := (kSm (kr (he, ke, ki, fi, fa, [o0, o0, o1, o3, o4], 4, a, g, l, w, s)))) rfl rfl (k := 1) (by decide) (by simp) rfl rfl ?_
  refine mr_seg 11 (pc1 := 59) (ls1 := [some (.ref 124), some (.int (nI p)), some (.int 0), some (.int (-1))]) (st1 := [.int (nI p), .int 0, .ref 130]) (M1 := (kSm (kr (he, ke, ki, fi, fa, [o0, o0, o1, o3, o4], 4, a, g, l, w, s)))) (fun f => rfl) ?_
  refine mr_stn (xs := ([o0, o0, o1, o3, o4].map nI)) (ys := ([p, o0, o1, o3, o4].map nI)) (M2 := (kSm (kr (he, ke, ki, fi, fa, [p, o0, o1, o3, o4], 4, a, g, l, w, s)))) rfl rfl (k := 0) (by decide) (by simp) rfl rfl ?_
  refine mr_eq (mr_ret 1 (o := (none, (kSm (kr (he, ke, ki, fi, fa, [p, o0, o1, o3, o4], 4, a, g, l, w, s))))) (fun f => rfl)) ?_
  have e : kfirst [o0, o1, p, o3, o4] 4 p = [p, o0, o1, o3, o4] := by simp [kfirst, q0, q1, q3]
  rw [e]
set_option maxRecDepth 100000 in
theorem kc_first_m_4_3 (he ke ki fi fa : List Nat) (a g l w s p o0 o1 o2 o4 : Nat) (q0 : ¬ o0 = p) (q1 : ¬ o1 = p) (q2 : ¬ o2 = p) (hp : p < 5) (b0 : o0 < 5) (b1 : o1 < 5) (b2 : o2 < 5) (b4 : o4 < 5) : mm_R 90 0 [some (.ref 124), some (.int (nI p)), none, none] [] (kSm (kr (he, ke, ki, fi, fa, [o0, o1, o2, p, o4], 4, a, g, l, w, s))) (none, kSm (kr (he, ke, ki, fi, fa, kfirst [o0, o1, o2, p, o4] 4 p, 4, a, g, l, w, s))) := by
  refine mr_seg 4 (pc1 := 6) (ls1 := [some (.ref 124), some (.int (nI p)), none, none]) (st1 := [.int (4 - 1)]) (M1 := (kSm (kr (he, ke, ki, fi, fa, [o0, o1, o2, p, o4], 4, a, g, l, w, s)))) (fun f => rfl) ?_
  refine mr_v (show (4 : Int32) - 1 = 3 by decide) ?_
  refine mr_seg 5 (pc1 := 13) (ls1 := [some (.ref 124), some (.int (nI p)), some (.int 3), none]) (st1 := [.int (4 - 1)]) (M1 := (kSm (kr (he, ke, ki, fi, fa, [o0, o1, o2, p, o4], 4, a, g, l, w, s)))) (fun f => rfl) ?_
  refine mr_v (show (4 : Int32) - 1 = 3 by decide) ?_
  refine mr_seg 6 (pc1 := 23) (ls1 := [some (.ref 124), some (.int (nI p)), some (.int 3), some (.int 3)]) (st1 := [.int 3, .ref 130]) (M1 := (kSm (kr (he, ke, ki, fi, fa, [o0, o1, o2, p, o4], 4, a, g, l, w, s)))) (fun f => rfl) ?_
  refine mr_ldn (xs := ([o0, o1, o2, p, o4].map nI)) rfl rfl (k := 3) (by decide) rfl ?_
  refine mr_seg 1 (pc1 := 25) (ls1 := [some (.ref 124), some (.int (nI p)), some (.int 3), some (.int 3)]) (st1 := [.int (nI p), .int (nI p)]) (M1 := (kSm (kr (he, ke, ki, fi, fa, [o0, o1, o2, p, o4], 4, a, g, l, w, s)))) (fun f => rfl) ?_
  refine mr_t (C := (nI p) = (nI p)) (rfl) (fun f => rfl) ?_
  refine mr_seg 7 (pc1 := 23) (ls1 := [some (.ref 124), some (.int (nI p)), some (.int 3), some (.int 2)]) (st1 := [.int 2, .ref 130]) (M1 := (kSm (kr (he, ke, ki, fi, fa, [o0, o1, o2, p, o4], 4, a, g, l, w, s)))) (fun f => rfl) ?_
  refine mr_ldn (xs := ([o0, o1, o2, p, o4].map nI)) rfl rfl (k := 2) (by decide) rfl ?_
  refine mr_seg 1 (pc1 := 25) (ls1 := [some (.ref 124), some (.int (nI p)), some (.int 3), some (.int 2)]) (st1 := [.int (nI p), .int (nI o2)]) (M1 := (kSm (kr (he, ke, ki, fi, fa, [o0, o1, o2, p, o4], 4, a, g, l, w, s)))) (fun f => rfl) ?_
  refine mr_f (C := (nI o2) = (nI p)) (fun e => q2 ((nI_eq (by omega) (by omega)).mp e)) (fun f => rfl) ?_
  refine mr_seg 6 (pc1 := 38) (ls1 := [some (.ref 124), some (.int (nI p)), some (.int 3), some (.int 2)]) (st1 := [.int 2, .ref 130, .int 3, .ref 130]) (M1 := (kSm (kr (he, ke, ki, fi, fa, [o0, o1, o2, p, o4], 4, a, g, l, w, s)))) (fun f => rfl) ?_
  refine mr_ldn (xs := ([o0, o1, o2, p, o4].map nI)) rfl rfl (k := 2) (by decide) rfl ?_
  refine mr_stn (xs := ([o0, o1, o2, p, o4].map nI)) (ys := ([o0, o1, o2, o2, o4].map nI)) (M2 := (kSm (kr (he, ke, ki, fi, fa, [o0, o1, o2, o2, o4], 4, a, g, l, w, s)))) rfl rfl (k := 3) (by decide) (by simp) rfl rfl ?_
  refine mr_seg 8 (pc1 := 23) (ls1 := [some (.ref 124), some (.int (nI p)), some (.int 2), some (.int 1)]) (st1 := [.int 1, .ref 130]) (M1 := (kSm (kr (he, ke, ki, fi, fa, [o0, o1, o2, o2, o4], 4, a, g, l, w, s)))) (fun f => rfl) ?_
  refine mr_ldn (xs := ([o0, o1, o2, o2, o4].map nI)) rfl rfl (k := 1) (by decide) rfl ?_
  refine mr_seg 1 (pc1 := 25) (ls1 := [some (.ref 124), some (.int (nI p)), some (.int 2), some (.int 1)]) (st1 := [.int (nI p), .int (nI o1)]) (M1 := (kSm (kr (he, ke, ki, fi, fa, [o0, o1, o2, o2, o4], 4, a, g, l, w, s)))) (fun f => rfl) ?_
  refine mr_f (C := (nI o1) = (nI p)) (fun e => q1 ((nI_eq (by omega) (by omega)).mp e)) (fun f => rfl) ?_
  refine mr_seg 6 (pc1 := 38) (ls1 := [some (.ref 124), some (.int (nI p)), some (.int 2), some (.int 1)]) (st1 := [.int 1, .ref 130, .int 2, .ref 130]) (M1 := (kSm (kr (he, ke, ki, fi, fa, [o0, o1, o2, o2, o4], 4, a, g, l, w, s)))) (fun f => rfl) ?_
  refine mr_ldn (xs := ([o0, o1, o2, o2, o4].map nI)) rfl rfl (k := 1) (by decide) rfl ?_
  refine mr_stn (xs := ([o0, o1, o2, o2, o4].map nI)) (ys := ([o0, o1, o1, o2, o4].map nI)) (M2 := (kSm (kr (he, ke, ki, fi, fa, [o0, o1, o1, o2, o4], 4, a, g, l, w, s)))) rfl rfl (k := 2) (by decide) (by simp) rfl rfl ?_
  refine mr_seg 8 (pc1 := 23) (ls1 := [some (.ref 124), some (.int (nI p)), some (.int 1), some (.int 0)]) (st1 := [.int 0, .ref 130]) (M1 := (kSm (kr (he, ke, ki, fi, fa, [o0, o1, o1, o2, o4], 4, a, g, l, w, s)))) (fun f => rfl) ?_
  refine mr_ldn (xs := ([o0, o1, o1, o2, o4].map nI)) rfl rfl (k := 0) (by decide) rfl ?_
  refine mr_seg 1 (pc1 := 25) (ls1 := [some (.ref 124), some (.int (nI p)), some (.int 1), some (.int 0)]) (st1 := [.int (nI p), .int (nI o0)]) (M1 := (kSm (kr (he, ke, ki, fi, fa, [o0, o1, o1, o2, o4], 4, a, g, l, w, s)))) (fun f => rfl) ?_
  refine mr_f (C := (nI o0) = (nI p)) (fun e => q0 ((nI_eq (by omega) (by omega)).mp e)) (fun f => rfl) ?_
  refine mr_seg 6 (pc1 := 38) (ls1 := [some (.ref 124), some (.int (nI p)), some (.int 1), some (.int 0)]) (st1 := [.int 0, .ref 130, .int 1, .ref 130]) (M1 := (kSm (kr (he, ke, ki, fi, fa, [o0, o1, o1, o2, o4], 4, a, g, l, w, s)))) (fun f => rfl) ?_
  refine mr_ldn (xs := ([o0, o1, o1, o2, o4].map nI)) rfl rfl (k := 0) (by decide) rfl ?_
  refine mr_stn (xs := ([o0, o1, o1, o2, o4].map nI)) (ys := ([o0, o0, o1, o2, o4].map nI)) (M2 := (kSm (kr (he, ke, ki, fi, fa, [o0, o0, o1, o2, o4], 4, a, g, l, w, s)))) rfl rfl (k := 1) (by decide) (by simp) rfl rfl ?_
  refine mr_seg 11 (pc1 := 59) (ls1 := [some (.ref 124), some (.int (nI p)), some (.int 0), some (.int (-1))]) (st1 := [.int (nI p), .int 0, .ref 130]) (M1 := (kSm (kr (he, ke, ki, fi, fa, [o0, o0, o1, o2, o4], 4, a, g, l, w, s)))) (fun f => rfl) ?_
  refine mr_stn (xs := ([o0, o0, o1, o2, o4].map nI)) (ys := ([p, o0, o1, o2, o4].map nI)) (M2 := (kSm (kr (he, ke, ki, fi, fa, [p, o0, o1, o2, o4], 4, a, g, l, w, s)))) rfl rfl (k := 0) (by decide) (by simp) rfl rfl ?_
  refine mr_eq (mr_ret 1 (o := (none, (kSm (kr (he, ke, ki, fi, fa, [p, o0, o1, o2, o4], 4, a, g, l, w, s))))) (fun f => rfl)) ?_
  have e : kfirst [o0, o1, o2, p, o4] 4 p = [p, o0, o1, o2, o4] := by simp [kfirst, q0, q1, q2]
  rw [e]
set_option maxRecDepth 100000 in
theorem kc_first_m_5_0 (he ke ki fi fa : List Nat) (a g l w s p o1 o2 o3 o4 : Nat) (q1 : ¬ o1 = p) (q2 : ¬ o2 = p) (q3 : ¬ o3 = p) (q4 : ¬ o4 = p) (hp : p < 5) (b1 : o1 < 5) (b2 : o2 < 5) (b3 : o3 < 5) (b4 : o4 < 5) : mm_R 90 0 [some (.ref 124), some (.int (nI p)), none, none] [] (kSm (kr (he, ke, ki, fi, fa, [p, o1, o2, o3, o4], 5, a, g, l, w, s))) (none, kSm (kr (he, ke, ki, fi, fa, kfirst [p, o1, o2, o3, o4] 5 p, 5, a, g, l, w, s))) := by
  refine mr_seg 4 (pc1 := 6) (ls1 := [some (.ref 124), some (.int (nI p)), none, none]) (st1 := [.int (5 - 1)]) (M1 := (kSm (kr (he, ke, ki, fi, fa, [p, o1, o2, o3, o4], 5, a, g, l, w, s)))) (fun f => rfl) ?_
  refine mr_v (show (5 : Int32) - 1 = 4 by decide) ?_
  refine mr_seg 5 (pc1 := 13) (ls1 := [some (.ref 124), some (.int (nI p)), some (.int 4), none]) (st1 := [.int (5 - 1)]) (M1 := (kSm (kr (he, ke, ki, fi, fa, [p, o1, o2, o3, o4], 5, a, g, l, w, s)))) (fun f => rfl) ?_
  refine mr_v (show (5 : Int32) - 1 = 4 by decide) ?_
  refine mr_seg 6 (pc1 := 23) (ls1 := [some (.ref 124), some (.int (nI p)), some (.int 4), some (.int 4)]) (st1 := [.int 4, .ref 130]) (M1 := (kSm (kr (he, ke, ki, fi, fa, [p, o1, o2, o3, o4], 5, a, g, l, w, s)))) (fun f => rfl) ?_
  refine mr_ldn (xs := ([p, o1, o2, o3, o4].map nI)) rfl rfl (k := 4) (by decide) rfl ?_
  refine mr_seg 1 (pc1 := 25) (ls1 := [some (.ref 124), some (.int (nI p)), some (.int 4), some (.int 4)]) (st1 := [.int (nI p), .int (nI o4)]) (M1 := (kSm (kr (he, ke, ki, fi, fa, [p, o1, o2, o3, o4], 5, a, g, l, w, s)))) (fun f => rfl) ?_
  refine mr_f (C := (nI o4) = (nI p)) (fun e => q4 ((nI_eq (by omega) (by omega)).mp e)) (fun f => rfl) ?_
  refine mr_seg 6 (pc1 := 38) (ls1 := [some (.ref 124), some (.int (nI p)), some (.int 4), some (.int 4)]) (st1 := [.int 4, .ref 130, .int 4, .ref 130]) (M1 := (kSm (kr (he, ke, ki, fi, fa, [p, o1, o2, o3, o4], 5, a, g, l, w, s)))) (fun f => rfl) ?_
  refine mr_ldn (xs := ([p, o1, o2, o3, o4].map nI)) rfl rfl (k := 4) (by decide) rfl ?_
  refine mr_stn (xs := ([p, o1, o2, o3, o4].map nI)) (ys := ([p, o1, o2, o3, o4].map nI)) (M2 := (kSm (kr (he, ke, ki, fi, fa, [p, o1, o2, o3, o4], 5, a, g, l, w, s)))) rfl rfl (k := 4) (by decide) (by simp) rfl rfl ?_
  refine mr_seg 8 (pc1 := 23) (ls1 := [some (.ref 124), some (.int (nI p)), some (.int 3), some (.int 3)]) (st1 := [.int 3, .ref 130]) (M1 := (kSm (kr (he, ke, ki, fi, fa, [p, o1, o2, o3, o4], 5, a, g, l, w, s)))) (fun f => rfl) ?_
  refine mr_ldn (xs := ([p, o1, o2, o3, o4].map nI)) rfl rfl (k := 3) (by decide) rfl ?_
  refine mr_seg 1 (pc1 := 25) (ls1 := [some (.ref 124), some (.int (nI p)), some (.int 3), some (.int 3)]) (st1 := [.int (nI p), .int (nI o3)]) (M1 := (kSm (kr (he, ke, ki, fi, fa, [p, o1, o2, o3, o4], 5, a, g, l, w, s)))) (fun f => rfl) ?_
  refine mr_f (C := (nI o3) = (nI p)) (fun e => q3 ((nI_eq (by omega) (by omega)).mp e)) (fun f => rfl) ?_
  refine mr_seg 6 (pc1 := 38) (ls1 := [some (.ref 124), some (.int (nI p)), some (.int 3), some (.int 3)]) (st1 := [.int 3, .ref 130, .int 3, .ref 130]) (M1 := (kSm (kr (he, ke, ki, fi, fa, [p, o1, o2, o3, o4], 5, a, g, l, w, s)))) (fun f => rfl) ?_
  refine mr_ldn (xs := ([p, o1, o2, o3, o4].map nI)) rfl rfl (k := 3) (by decide) rfl ?_
  refine mr_stn (xs := ([p, o1, o2, o3, o4].map nI)) (ys := ([p, o1, o2, o3, o4].map nI)) (M2 := (kSm (kr (he, ke, ki, fi, fa, [p, o1, o2, o3, o4], 5, a, g, l, w, s)))) rfl rfl (k := 3) (by decide) (by simp) rfl rfl ?_
  refine mr_seg 8 (pc1 := 23) (ls1 := [some (.ref 124), some (.int (nI p)), some (.int 2), some (.int 2)]) (st1 := [.int 2, .ref 130]) (M1 := (kSm (kr (he, ke, ki, fi, fa, [p, o1, o2, o3, o4], 5, a, g, l, w, s)))) (fun f => rfl) ?_
  refine mr_ldn (xs := ([p, o1, o2, o3, o4].map nI)) rfl rfl (k := 2) (by decide) rfl ?_
  refine mr_seg 1 (pc1 := 25) (ls1 := [some (.ref 124), some (.int (nI p)), some (.int 2), some (.int 2)]) (st1 := [.int (nI p), .int (nI o2)]) (M1 := (kSm (kr (he, ke, ki, fi, fa, [p, o1, o2, o3, o4], 5, a, g, l, w, s)))) (fun f => rfl) ?_
  refine mr_f (C := (nI o2) = (nI p)) (fun e => q2 ((nI_eq (by omega) (by omega)).mp e)) (fun f => rfl) ?_
  refine mr_seg 6 (pc1 := 38) (ls1 := [some (.ref 124), some (.int (nI p)), some (.int 2), some (.int 2)]) (st1 := [.int 2, .ref 130, .int 2, .ref 130]) (M1 := (kSm (kr (he, ke, ki, fi, fa, [p, o1, o2, o3, o4], 5, a, g, l, w, s)))) (fun f => rfl) ?_
  refine mr_ldn (xs := ([p, o1, o2, o3, o4].map nI)) rfl rfl (k := 2) (by decide) rfl ?_
  refine mr_stn (xs := ([p, o1, o2, o3, o4].map nI)) (ys := ([p, o1, o2, o3, o4].map nI)) (M2 := (kSm (kr (he, ke, ki, fi, fa, [p, o1, o2, o3, o4], 5, a, g, l, w, s)))) rfl rfl (k := 2) (by decide) (by simp) rfl rfl ?_
  refine mr_seg 8 (pc1 := 23) (ls1 := [some (.ref 124), some (.int (nI p)), some (.int 1), some (.int 1)]) (st1 := [.int 1, .ref 130]) (M1 := (kSm (kr (he, ke, ki, fi, fa, [p, o1, o2, o3, o4], 5, a, g, l, w, s)))) (fun f => rfl) ?_
  refine mr_ldn (xs := ([p, o1, o2, o3, o4].map nI)) rfl rfl (k := 1) (by decide) rfl ?_
  refine mr_seg 1 (pc1 := 25) (ls1 := [some (.ref 124), some (.int (nI p)), some (.int 1), some (.int 1)]) (st1 := [.int (nI p), .int (nI o1)]) (M1 := (kSm (kr (he, ke, ki, fi, fa, [p, o1, o2, o3, o4], 5, a, g, l, w, s)))) (fun f => rfl) ?_
  refine mr_f (C := (nI o1) = (nI p)) (fun e => q1 ((nI_eq (by omega) (by omega)).mp e)) (fun f => rfl) ?_
  refine mr_seg 6 (pc1 := 38) (ls1 := [some (.ref 124), some (.int (nI p)), some (.int 1), some (.int 1)]) (st1 := [.int 1, .ref 130, .int 1, .ref 130]) (M1 := (kSm (kr (he, ke, ki, fi, fa, [p, o1, o2, o3, o4], 5, a, g, l, w, s)))) (fun f => rfl) ?_
  refine mr_ldn (xs := ([p, o1, o2, o3, o4].map nI)) rfl rfl (k := 1) (by decide) rfl ?_
  refine mr_stn (xs := ([p, o1, o2, o3, o4].map nI)) (ys := ([p, o1, o2, o3, o4].map nI)) (M2 := (kSm (kr (he, ke, ki, fi, fa, [p, o1, o2, o3, o4], 5, a, g, l, w, s)))) rfl rfl (k := 1) (by decide) (by simp) rfl rfl ?_
  refine mr_seg 8 (pc1 := 23) (ls1 := [some (.ref 124), some (.int (nI p)), some (.int 0), some (.int 0)]) (st1 := [.int 0, .ref 130]) (M1 := (kSm (kr (he, ke, ki, fi, fa, [p, o1, o2, o3, o4], 5, a, g, l, w, s)))) (fun f => rfl) ?_
  refine mr_ldn (xs := ([p, o1, o2, o3, o4].map nI)) rfl rfl (k := 0) (by decide) rfl ?_
  refine mr_seg 1 (pc1 := 25) (ls1 := [some (.ref 124), some (.int (nI p)), some (.int 0), some (.int 0)]) (st1 := [.int (nI p), .int (nI p)]) (M1 := (kSm (kr (he, ke, ki, fi, fa, [p, o1, o2, o3, o4], 5, a, g, l, w, s)))) (fun f => rfl) ?_
  refine mr_t (C := (nI p) = (nI p)) (rfl) (fun f => rfl) ?_
  refine mr_seg 10 (pc1 := 59) (ls1 := [some (.ref 124), some (.int (nI p)), some (.int 0), some (.int (-1))]) (st1 := [.int (nI p), .int 0, .ref 130]) (M1 := (kSm (kr (he, ke, ki, fi, fa, [p, o1, o2, o3, o4], 5, a, g, l, w, s)))) (fun f => rfl) ?_
  refine mr_stn (xs := ([p, o1, o2, o3, o4].map nI)) (ys := ([p, o1, o2, o3, o4].map nI)) (M2 := (kSm (kr (he, ke, ki, fi, fa, [p, o1, o2, o3, o4], 5, a, g, l, w, s)))) rfl rfl (k := 0) (by decide) (by simp) rfl rfl ?_
  refine mr_eq (mr_ret 1 (o := (none, (kSm (kr (he, ke, ki, fi, fa, [p, o1, o2, o3, o4], 5, a, g, l, w, s))))) (fun f => rfl)) ?_
  have e : kfirst [p, o1, o2, o3, o4] 5 p = [p, o1, o2, o3, o4] := by simp [kfirst, q1, q2, q3, q4]
  rw [e]
set_option maxRecDepth 100000 in
theorem kc_first_m_5_1 (he ke ki fi fa : List Nat) (a g l w s p o0 o2 o3 o4 : Nat) (q0 : ¬ o0 = p) (q2 : ¬ o2 = p) (q3 : ¬ o3 = p) (q4 : ¬ o4 = p) (hp : p < 5) (b0 : o0 < 5) (b2 : o2 < 5) (b3 : o3 < 5) (b4 : o4 < 5) : mm_R 90 0 [some (.ref 124), some (.int (nI p)), none, none] [] (kSm (kr (he, ke, ki, fi, fa, [o0, p, o2, o3, o4], 5, a, g, l, w, s))) (none, kSm (kr (he, ke, ki, fi, fa, kfirst [o0, p, o2, o3, o4] 5 p, 5, a, g, l, w, s))) := by
  refine mr_seg 4 (pc1 := 6) (ls1 := [some (.ref 124), some (.int (nI p)), none, none]) (st1 := [.int (5 - 1)]) (M1 := (kSm (kr (he, ke, ki, fi, fa, [o0, p, o2, o3, o4], 5, a, g, l, w, s)))) (fun f => rfl) ?_
  refine mr_v (show (5 : Int32) - 1 = 4 by decide) ?_
  refine mr_seg 5 (pc1 := 13) (ls1 := [some (.ref 124), some (.int (nI p)), some (.int 4), none]) (st1 := [.int (5 - 1)]) (M1 := (kSm (kr (he, ke, ki, fi, fa, [o0, p, o2, o3, o4], 5, a, g, l, w, s)))) (fun f => rfl) ?_
  refine mr_v (show (5 : Int32) - 1 = 4 by decide) ?_
  refine mr_seg 6 (pc1 := 23) (ls1 := [some (.ref 124), some (.int (nI p)), some (.int 4), some (.int 4)]) (st1 := [.int 4, .ref 130]) (M1 := (kSm (kr (he, ke, ki, fi, fa, [o0, p, o2, o3, o4], 5, a, g, l, w, s)))) (fun f => rfl) ?_
  refine mr_ldn (xs := ([o0, p, o2, o3, o4].map nI)) rfl rfl (k := 4) (by decide) rfl ?_
  refine mr_seg 1 (pc1 := 25) (ls1 := [some (.ref 124), some (.int (nI p)), some (.int 4), some (.int 4)]) (st1 := [.int (nI p), .int (nI o4)]) (M1 := (kSm (kr (he, ke, ki, fi, fa, [o0, p, o2, o3, o4], 5, a, g, l, w, s)))) (fun f => rfl) ?_
  refine mr_f (C := (nI o4) = (nI p)) (fun e => q4 ((nI_eq (by omega) (by omega)).mp e)) (fun f => rfl) ?_
  refine mr_seg 6 (pc1 := 38) (ls1 := [some (.ref 124), some (.int (nI p)), some (.int 4), some (.int 4)]) (st1 := [.int 4, .ref 130, .int 4, .ref 130]) (M1 := (kSm (kr (he, ke, ki, fi, fa, [o0, p, o2, o3, o4], 5, a, g, l, w, s)))) (fun f => rfl) ?_
  refine mr_ldn (xs := ([o0, p, o2, o3, o4].map nI)) rfl rfl (k := 4) (by decide) rfl ?_
  refine mr_stn (xs := ([o0, p, o2, o3, o4].map nI)) (ys := ([o0, p, o2, o3, o4].map nI)) (M2 := (kSm (kr (he, ke, ki, fi, fa, [o0, p, o2, o3, o4], 5, a, g, l, w, s)))) rfl rfl (k := 4) (by decide) (by simp) rfl rfl ?_
  refine mr_seg 8 (pc1 := 23) (ls1 := [some (.ref 124), some (.int (nI p)), some (.int 3), some (.int 3)]) (st1 := [.int 3, .ref 130]) (M1 := (kSm (kr (he, ke, ki, fi, fa, [o0, p, o2, o3, o4], 5, a, g, l, w, s)))) (fun f => rfl) ?_
  refine mr_ldn (xs := ([o0, p, o2, o3, o4].map nI)) rfl rfl (k := 3) (by decide) rfl ?_
  refine mr_seg 1 (pc1 := 25) (ls1 := [some (.ref 124), some (.int (nI p)), some (.int 3), some (.int 3)]) (st1 := [.int (nI p), .int (nI o3)]) (M1 := (kSm (kr (he, ke, ki, fi, fa, [o0, p, o2, o3, o4], 5, a, g, l, w, s)))) (fun f => rfl) ?_
  refine mr_f (C := (nI o3) = (nI p)) (fun e => q3 ((nI_eq (by omega) (by omega)).mp e)) (fun f => rfl) ?_
  refine mr_seg 6 (pc1 := 38) (ls1 := [some (.ref 124), some (.int (nI p)), some (.int 3), some (.int 3)]) (st1 := [.int 3, .ref 130, .int 3, .ref 130]) (M1 := (kSm (kr (he, ke, ki, fi, fa, [o0, p, o2, o3, o4], 5, a, g, l, w, s)))) (fun f => rfl) ?_
  refine mr_ldn (xs := ([o0, p, o2, o3, o4].map nI)) rfl rfl (k := 3) (by decide) rfl ?_
  refine mr_stn (xs := ([o0, p, o2, o3, o4].map nI)) (ys := ([o0, p, o2, o3, o4].map nI)) (M2 := (kSm (kr (he, ke, ki, fi, fa, [o0, p, o2, o3, o4], 5, a, g, l, w, s)))) rfl rfl (k := 3) (by decide) (by simp) rfl rfl ?_
  refine mr_seg 8 (pc1 := 23) (ls1 := [some (.ref 124), some (.int (nI p)), some (.int 2), some (.int 2)]) (st1 := [.int 2, .ref 130]) (M1 := (kSm (kr (he, ke, ki, fi, fa, [o0, p, o2, o3, o4], 5, a, g, l, w, s)))) (fun f => rfl) ?_
  refine mr_ldn (xs := ([o0, p, o2, o3, o4].map nI)) rfl rfl (k := 2) (by decide) rfl ?_
  refine mr_seg 1 (pc1 := 25) (ls1 := [some (.ref 124), some (.int (nI p)), some (.int 2), some (.int 2)]) (st1 := [.int (nI p), .int (nI o2)]) (M1 := (kSm (kr (he, ke, ki, fi, fa, [o0, p, o2, o3, o4], 5, a, g, l, w, s)))) (fun f => rfl) ?_
  refine mr_f (C := (nI o2) = (nI p)) (fun e => q2 ((nI_eq (by omega) (by omega)).mp e)) (fun f => rfl) ?_
  refine mr_seg 6 (pc1 := 38) (ls1 := [some (.ref 124), some (.int (nI p)), some (.int 2), some (.int 2)]) (st1 := [.int 2, .ref 130, .int 2, .ref 130]) (M1 := (kSm (kr (he, ke, ki, fi, fa, [o0, p, o2, o3, o4], 5, a, g, l, w, s)))) (fun f => rfl) ?_
  refine mr_ldn (xs := ([o0, p, o2, o3, o4].map nI)) rfl rfl (k := 2) (by decide) rfl ?_
  refine mr_stn (xs := ([o0, p, o2, o3, o4].map nI)) (ys := ([o0, p, o2, o3, o4].map nI)) (M2 := (kSm (kr (he, ke, ki, fi, fa, [o0, p, o2, o3, o4], 5, a, g, l, w, s)))) rfl rfl (k := 2) (by decide) (by simp) rfl rfl ?_
  refine mr_seg 8 (pc1 := 23) (ls1 := [some (.ref 124), some (.int (nI p)), some (.int 1), some (.int 1)]) (st1 := [.int 1, .ref 130]) (M1 := (kSm (kr (he, ke, ki, fi, fa, [o0, p, o2, o3, o4], 5, a, g, l, w, s)))) (fun f => rfl) ?_
  refine mr_ldn (xs := ([o0, p, o2, o3, o4].map nI)) rfl rfl (k := 1) (by decide) rfl ?_
  refine mr_seg 1 (pc1 := 25) (ls1 := [some (.ref 124), some (.int (nI p)), some (.int 1), some (.int 1)]) (st1 := [.int (nI p), .int (nI p)]) (M1 := (kSm (kr (he, ke, ki, fi, fa, [o0, p, o2, o3, o4], 5, a, g, l, w, s)))) (fun f => rfl) ?_
  refine mr_t (C := (nI p) = (nI p)) (rfl) (fun f => rfl) ?_
  refine mr_seg 7 (pc1 := 23) (ls1 := [some (.ref 124), some (.int (nI p)), some (.int 1), some (.int 0)]) (st1 := [.int 0, .ref 130]) (M1 := (kSm (kr (he, ke, ki, fi, fa, [o0, p, o2, o3, o4], 5, a, g, l, w, s)))) (fun f => rfl) ?_
  refine mr_ldn (xs := ([o0, p, o2, o3, o4].map nI)) rfl rfl (k := 0) (by decide) rfl ?_
  refine mr_seg 1 (pc1 := 25) (ls1 := [some (.ref 124), some (.int (nI p)), some (.int 1), some (.int 0)]) (st1 := [.int (nI p), .int (nI o0)]) (M1 := (kSm (kr (he, ke, ki, fi, fa, [o0, p, o2, o3, o4], 5, a, g, l, w, s)))) (fun f => rfl) ?_
  refine mr_f (C := (nI o0) = (nI p)) (fun e => q0 ((nI_eq (by omega) (by omega)).mp e)) (fun f => rfl) ?_
  refine mr_seg 6 (pc1 := 38) (ls1 := [some (.ref 124), some (.int (nI p)), some (.int 1), some (.int 0)]) (st1 := [.int 0, .ref 130, .int 1, .ref 130]) (M1 := (kSm (kr (he, ke, ki, fi, fa, [o0, p, o2, o3, o4], 5, a, g, l, w, s)))) (fun f => rfl) ?_
  refine mr_ldn (xs := ([o0, p, o2, o3, o4].map nI)) rfl rfl (k := 0) (by decide) rfl ?_
  refine mr_stn (xs := ([o0, p, o2, o3, o4].map nI)) (ys := ([o0, o0, o2, o3, o4].map nI)) (M2 := (kSm (kr (he, ke, ki, fi, fa, [o0, o0, o2, o3, o4], 5, a, g, l, w, s)))) rfl rfl (k := 1) (by decide) (by simp) rfl rfl ?_
  refine mr_seg 11 (pc1 := 59) (ls1 := [some (.ref 124), some (.int (nI p)), some (.int 0), some (.int (-1))]) (st1 := [.int (nI p), .int 0, .ref 130]) (M1 := (kSm (kr (he, ke, ki, fi, fa, [o0, o0, o2, o3, o4], 5, a, g, l, w, s)))) (fun f => rfl) ?_
  refine mr_stn (xs := ([o0, o0, o2, o3, o4].map nI)) (ys := ([p, o0, o2, o3, o4].map nI)) (M2 := (kSm (kr (he, ke, ki, fi, fa, [p, o0, o2, o3, o4], 5, a, g, l, w, s)))) rfl rfl (k := 0) (by decide) (by simp) rfl rfl ?_
  refine mr_eq (mr_ret 1 (o := (none, (kSm (kr (he, ke, ki, fi, fa, [p, o0, o2, o3, o4], 5, a, g, l, w, s))))) (fun f => rfl)) ?_
  have e : kfirst [o0, p, o2, o3, o4] 5 p = [p, o0, o2, o3, o4] := by simp [kfirst, q0, q2, q3, q4]
  rw [e]
set_option maxRecDepth 100000 in
theorem kc_first_m_5_2 (he ke ki fi fa : List Nat) (a g l w s p o0 o1 o3 o4 : Nat) (q0 : ¬ o0 = p) (q1 : ¬ o1 = p) (q3 : ¬ o3 = p) (q4 : ¬ o4 = p) (hp : p < 5) (b0 : o0 < 5) (b1 : o1 < 5) (b3 : o3 < 5) (b4 : o4 < 5) : mm_R 90 0 [some (.ref 124), some (.int (nI p)), none, none] [] (kSm (kr (he, ke, ki, fi, fa, [o0, o1, p, o3, o4], 5, a, g, l, w, s))) (none, kSm (kr (he, ke, ki, fi, fa, kfirst [o0, o1, p, o3, o4] 5 p, 5, a, g, l, w, s))) := by
  refine mr_seg 4 (pc1 := 6) (ls1 := [some (.ref 124), some (.int (nI p)), none, none]) (st1 := [.int (5 - 1)]) (M1 := (kSm (kr (he, ke, ki, fi, fa, [o0, o1, p, o3, o4], 5, a, g, l, w, s)))) (fun f => rfl) ?_
  refine mr_v (show (5 : Int32) - 1 = 4 by decide) ?_
  refine mr_seg 5 (pc1 := 13) (ls1 := [some (.ref 124), some (.int (nI p)), some (.int 4), none]) (st1 := [.int (5 - 1)]) (M1 := (kSm (kr (he, ke, ki, fi, fa, [o0, o1, p, o3, o4], 5, a, g, l, w, s)))) (fun f => rfl) ?_
  refine mr_v (show (5 : Int32) - 1 = 4 by decide) ?_
  refine mr_seg 6 (pc1 := 23) (ls1 := [some (.ref 124), some (.int (nI p)), some (.int 4), some (.int 4)]) (st1 := [.int 4, .ref 130]) (M1 := (kSm (kr (he, ke, ki, fi, fa, [o0, o1, p, o3, o4], 5, a, g, l, w, s)))) (fun f => rfl) ?_
  refine mr_ldn (xs := ([o0, o1, p, o3, o4].map nI)) rfl rfl (k := 4) (by decide) rfl ?_
  refine mr_seg 1 (pc1 := 25) (ls1 := [some (.ref 124), some (.int (nI p)), some (.int 4), some (.int 4)]) (st1 := [.int (nI p), .int (nI o4)]) (M1 := (kSm (kr (he, ke, ki, fi, fa, [o0, o1, p, o3, o4], 5, a, g, l, w, s)))) (fun f => rfl) ?_
  refine mr_f (C := (nI o4) = (nI p)) (fun e => q4 ((nI_eq (by omega) (by omega)).mp e)) (fun f => rfl) ?_
  refine mr_seg 6 (pc1 := 38) (ls1 := [some (.ref 124), some (.int (nI p)), some (.int 4), some (.int 4)]) (st1 := [.int 4, .ref 130, .int 4, .ref 130]) (M1 := (kSm (kr (he, ke, ki, fi, fa, [o0, o1, p, o3, o4], 5, a, g, l, w, s)))) (fun f => rfl) ?_
  refine mr_ldn (xs := ([o0, o1, p, o3, o4].map nI)) rfl rfl (k := 4) (by decide) rfl ?_
  refine mr_stn (xs := ([o0, o1, p, o3, o4].map nI)) (ys := ([o0, o1, p, o3, o4].map nI)) (M2 := (kSm (kr (he, ke, ki, fi, fa, [o0, o1, p, o3, o4], 5, a, g, l, w, s)))) rfl rfl (k := 4) (by decide) (by simp) rfl rfl ?_
  refine mr_seg 8 (pc1 := 23) (ls1 := [some (.ref 124), some (.int (nI p)), some (.int 3), some (.int 3)]) (st1 := [.int 3, .ref 130]) (M1 := (kSm (kr (he, ke, ki, fi, fa, [o0, o1, p, o3, o4], 5, a, g, l, w, s)))) (fun f => rfl) ?_
  refine mr_ldn (xs := ([o0, o1, p, o3, o4].map nI)) rfl rfl (k := 3) (by decide) rfl ?_
  refine mr_seg 1 (pc1 := 25) (ls1 := [some (.ref 124), some (.int (nI p)), some (.int 3), some (.int 3)]) (st1 := [.int (nI p), .int (nI o3)]) (M1 := (kSm (kr (he, ke, ki, fi, fa, [o0, o1, p, o3, o4], 5, a, g, l, w, s)))) (fun f => rfl) ?_
  refine mr_f (C := (nI o3) = (nI p)) (fun e => q3 ((nI_eq (by omega) (by omega)).mp e)) (fun f => rfl) ?_
  refine mr_seg 6 (pc1 := 38) (ls1 := [some (.ref 124), some (.int (nI p)), some (.int 3), some (.int 3)]) (st1 := [.int 3, .ref 130, .int 3, .ref 130]) (M1 := (kSm (kr (he, ke, ki, fi, fa, [o0, o1, p, o3, o4], 5, a, g, l, w, s)))) (fun f => rfl) ?_
  refine mr_ldn (xs := ([o0, o1, p, o3, o4].map nI)) rfl rfl (k := 3) (by decide) rfl ?_
  refine mr_stn (xs := ([o0, o1, p, o3, o4].map nI)) (ys := ([o0, o1, p, o3, o4].map nI)) (M2 := (kSm (kr (he, ke, ki, fi, fa, [o0, o1, p, o3, o4], 5, a, g, l, w, s)))) rfl rfl (k := 3) (by decide) (by simp) rfl rfl ?_
  refine mr_seg 8 (pc1 := 23) (ls1 := [some (.ref 124), some (.int (nI p)), some (.int 2), some (.int 2)]) (st1 := [.int 2, .ref 130]) (M1 := (kSm (kr (he, ke, ki, fi, fa, [o0, o1, p, o3, o4], 5, a, g, l, w, s)))) (fun f => rfl) ?_
  refine mr_ldn (xs := ([o0, o1, p, o3, o4].map nI)) rfl rfl (k := 2) (by decide) rfl ?_
  refine mr_seg 1 (pc1 := 25) (ls1 := [some (.ref 124), some (.int (nI p)), some (.int 2), some (.int 2)]) (st1 := [.int (nI p), .int (nI p)]) (M1 := (kSm (kr (he, ke, ki, fi, fa, [o0, o1, p, o3, o4], 5, a, g, l, w, s)))) (fun f => rfl) ?_
  refine mr_t (C := (nI p) = (nI p)) (rfl) (fun f => rfl) ?_
  refine mr_seg 7 (pc1 := 23) (ls1 := [some (.ref 124), some (.int (nI p)), some (.int 2), some (.int 1)]) (st1 := [.int 1, .ref 130]) (M1 := (kSm (kr (he, ke, ki, fi, fa, [o0, o1, p, o3, o4], 5, a, g, l, w, s)))) (fun f => rfl) ?_
  refine mr_ldn (xs := ([o0, o1, p, o3, o4].map nI)) rfl rfl (k := 1) (by decide) rfl ?_
  refine mr_seg 1 (pc1 := 25) (ls1 := [some (.ref 124), some (.int (nI p)), some (.int 2), some (.int 1)]) (st1 := [.int (nI p), .int (nI o1)]) (M1 := (kSm (kr (he, ke, ki, fi, fa, [o0, o1, p, o3, o4], 5, a, g, l, w, s)))) (fun f => rfl) ?_
  refine mr_f (C := (nI o1) = (nI p)) (fun e => q1 ((nI_eq (by omega) (by omega)).mp e)) (fun f => rfl) ?_
  refine mr_seg 6 (pc1 := 38) (ls1 := [some (.ref 124), some (.int (nI p)), some (.int 2), some (.int 1)]) (st1 := [.int 1, .ref 130, .int 2, .ref 130]) (M1 := (kSm (kr (he, ke, ki, fi, fa, [o0, o1, p, o3, o4], 5, a, g, l, w, s)))) (fun f => rfl) ?_
  refine mr_ldn (xs := ([o0, o1, p, o3, o4].map nI)) rfl rfl (k := 1) (by decide) rfl ?_
  refine mr_stn (xs := ([o0, o1, p, o3, o4].map nI)) (ys := ([o0, o1, o1, o3, o4].map nI)) (M2 := (kSm (kr (he, ke, ki, fi, fa, [o0, o1, o1, o3, o4], 5, a, g, l, w, s)))) rfl rfl (k := 2) (by decide) (by simp) rfl rfl ?_
  refine mr_seg 8 (pc1 := 23) (ls1 := [some (.ref 124), some (.int (nI p)), some (.int 1), some (.int 0)]) (st1 := [.int 0, .ref 130]) (M1 := (kSm (kr (he, ke, ki, fi, fa, [o0, o1, o1, o3, o4], 5, a, g, l, w, s)))) (fun f => rfl) ?_
  refine mr_ldn (xs := ([o0, o1, o1, o3, o4].map nI)) rfl rfl (k := 0) (by decide) rfl ?_
  refine mr_seg 1 (pc1 := 25) (ls1 := [some (.ref 124), some (.int (nI p)), some (.int 1), some (.int 0)]) (st1 := [.int (nI p), .int (nI o0)]) (M1 := (kSm (kr (he, ke, ki, fi, fa, [o0, o1, o1, o3, o4], 5, a, g, l, w, s)))) (fun f => rfl) ?_
  refine mr_f (C := (nI o0) = (nI p)) (fun e => q0 ((nI_eq (by omega) (by omega)).mp e)) (fun f => rfl) ?_
  refine mr_seg 6 (pc1 := 38) (ls1 := [some (.ref 124), some (.int (nI p)), some (.int 1), some (.int 0)]) (st1 := [.int 0, .ref 130, .int 1, .ref 130]) (M1 := (kSm (kr (he, ke, ki, fi, fa, [o0, o1, o1, o3, o4], 5, a, g, l, w, s)))) (fun f => rfl) ?_
  refine mr_ldn (xs := ([o0, o1, o1, o3, o4].map nI)) rfl rfl (k := 0) (by decide) rfl ?_
  refine mr_stn (xs := ([o0, o1, o1, o3, o4].map nI)) (ys := ([o0, o0, o1, o3, o4].map nI)) (M2 := (kSm (kr (he, ke, ki, fi, fa, [o0, o0, o1, o3, o4], 5, a, g, l, w, s)))) rfl rfl (k := 1) (by decide) (by simp) rfl rfl ?_
  refine mr_seg 11 (pc1 := 59) (ls1 := [some (.ref 124), some (.int (nI p)), some (.int 0), some (.int (-1))]) (st1 := [.int (nI p), .int 0, .ref 130]) (M1 := (kSm (kr (he, ke, ki, fi, fa, [o0, o0, o1, o3, o4], 5, a, g, l, w, s)))) (fun f => rfl) ?_
  refine mr_stn (xs := ([o0, o0, o1, o3, o4].map nI)) (ys := ([p, o0, o1, o3, o4].map nI)) (M2 := (kSm (kr (he, ke, ki, fi, fa, [p, o0, o1, o3, o4], 5, a, g, l, w, s)))) rfl rfl (k := 0) (by decide) (by simp) rfl rfl ?_
  refine mr_eq (mr_ret 1 (o := (none, (kSm (kr (he, ke, ki, fi, fa, [p, o0, o1, o3, o4], 5, a, g, l, w, s))))) (fun f => rfl)) ?_
  have e : kfirst [o0, o1, p, o3, o4] 5 p = [p, o0, o1, o3, o4] := by simp [kfirst, q0, q1, q3, q4]
  rw [e]
set_option maxRecDepth 100000 in
theorem kc_first_m_5_3 (he ke ki fi fa : List Nat) (a g l w s p o0 o1 o2 o4 : Nat) (q0 : ¬ o0 = p) (q1 : ¬ o1 = p) (q2 : ¬ o2 = p) (q4 : ¬ o4 = p) (hp : p < 5) (b0 : o0 < 5) (b1 : o1 < 5) (b2 : o2 < 5) (b4 : o4 < 5) : mm_R 90 0 [some (.ref 124), some (.int (nI p)), none, none] [] (kSm (kr (he, ke, ki, fi, fa, [o0, o1, o2, p, o4], 5, a, g, l, w, s))) (none, kSm (kr (he, ke, ki, fi, fa, kfirst [o0, o1, o2, p, o4] 5 p, 5, a, g, l, w, s))) := by
  refine mr_seg 4 (pc1 := 6) (ls1 := [some (.ref 124), some (.int (nI p)), none, none]) (st1 := [.int (5 - 1)]) (M1 := (kSm (kr (he, ke, ki, fi, fa, [o0, o1, o2, p, o4], 5, a, g, l, w, s)))) (fun f => rfl) ?_
  refine mr_v (show (5 : Int32) - 1 = 4 by decide) ?_
  refine mr_seg 5 (pc1 := 13) (ls1 := [some (.ref 124), some (.int (nI p)), some (.int 4), none]) (st1 := [.int (5 - 1)]) (M1 := (kSm (kr (he, ke, ki, fi, fa, [o0, o1, o2, p, o4], 5, a, g, l, w, s)))) (fun f => rfl) ?_
  refine mr_v (show (5 : Int32) - 1 = 4 by decide) ?_
  refine mr_seg 6 (pc1 := 23) (ls1 := [some (.ref 124), some (.int (nI p)), some (.int 4), some (.int 4)]) (st1 := [.int 4, .ref 130]) (M1 := (kSm (kr (he, ke, ki, fi, fa, [o0, o1, o2, p, o4], 5, a, g, l, w, s)))) (fun f => rfl) ?_
  refine mr_ldn (xs := ([o0, o1, o2, p, o4].map nI)) rfl rfl (k := 4) (by decide) rfl ?_
  refine mr_seg 1 (pc1 := 25) (ls1 := [some (.ref 124), some (.int (nI p)), some (.int 4), some (.int 4)]) (st1 := [.int (nI p), .int (nI o4)]) (M1 := (kSm (kr (he, ke, ki, fi, fa, [o0, o1, o2, p, o4], 5, a, g, l, w, s)))) (fun f => rfl) ?_
  refine mr_f (C := (nI o4) = (nI p)) (fun e => q4 ((nI_eq (by omega) (by omega)).mp e)) (fun f => rfl) ?_
  refine mr_seg 6 (pc1 := 38) (ls1 := [some (.ref 124), some (.int (nI p)), some (.int 4), some (.int 4)]) (st1 := [.int 4, .ref 130, .int 4, .ref 130]) (M1 := (kSm (kr (he, ke, ki, fi, fa, [o0, o1, o2, p, o4], 5, a, g, l, w, s)))) (fun f => rfl) ?_
  refine mr_ldn (xs := ([o0, o1, o2, p, o4].map nI)) rfl rfl (k := 4) (by decide) rfl ?_
  refine mr_stn (xs := ([o0, o1, o2, p, o4].map nI)) (ys := ([o0, o1, o2, p, o4].map nI)) (M2 := (kSm (kr (he, ke, ki, fi, fa, [o0, o1, o2, p, o4], 5, a, g, l, w, s)))) rfl rfl (k := 4) (by decide) (by simp) rfl rfl ?_
  refine mr_seg 8 (pc1 := 23) (ls1 := [some (.ref 124), some (.int (nI p)), some (.int 3), some (.int 3)]) (st1 := [.int 3, .ref 130]) (M1 := (kSm (kr (he, ke, ki, fi, fa, [o0, o1, o2, p, o4], 5, a, g, l, w, s)))) (fun f => rfl) ?_
  refine mr_ldn (xs := ([o0, o1, o2, p, o4].map nI)) rfl rfl (k := 3) (by decide) rfl ?_
  refine mr_seg 1 (pc1 := 25) (ls1 := [some (.ref 124), some (.int (nI p)), some (.int 3), some (.int 3)]) (st1 := [.int (nI p), .int (nI p)]) (M1 := (kSm (kr (he, ke, ki, fi, fa, [o0, o1, o2, p, o4], 5, a, g, l, w, s)))) (fun f => rfl) ?_
  refine mr_t (C := (nI p) = (nI p)) (rfl) (fun f => rfl) ?_
  refine mr_seg 7 (pc1 := 23) (ls1 := [some (.ref 124), some (.int (nI p)), some (.int 3), some (.int 2)]) (st1 := [.int 2, .ref 130]) (M1 := (kSm (kr (he, ke, ki, fi, fa, [o0, o1, o2, p, o4], 5, a, g, l, w, s)))) (fun f => rfl) ?_
  refine mr_ldn (xs := ([o0, o1, o2, p, o4].map nI)) rfl rfl (k := 2) (by decide) rfl ?_
  refine mr_seg 1 (pc1 := 25) (ls1 := [some (.ref 124), some (.int (nI p)), some (.int 3), some (.int 2)]) (st1 := [.int (nI p), .int (nI o2)]) (M1 := (kSm (kr (he, ke, ki, fi, fa, [o0, o1, o2, p, o4], 5, a, g, l, w, s)))) (fun f => rfl) ?_
  refine mr_f (C := (nI o2) = (nI p)) (fun e => q2 ((nI_eq (by omega) (by omega)).mp e)) (fun f => rfl) ?_
  refine mr_seg 6 (pc1 := 38) (ls1 := [some (.ref 124), some (.int (nI p)), some (.int 3), some (.int 2)]) (st1 := [.int 2, .ref 130, .int 3, .ref 130]) (M1 := (kSm (kr (he, ke, ki, fi, fa, [o0, o1, o2, p, o4], 5, a, g, l, w, s)))) (fun f => rfl) ?_
  refine mr_ldn (xs := ([o0, o1, o2, p, o4].map nI)) rfl rfl (k := 2) (by decide) rfl ?_
  refine mr_stn (xs := ([o0, o1, o2, p, o4].map nI)) (ys := ([o0, o1, o2, o2, o4].map nI)) (M2 := (kSm (kr (he, ke, ki, fi, fa, [o0, o1, o2, o2, o4], 5, a, g, l, w, s)))) rfl rfl (k := 3) (by decide) (by simp) rfl rfl ?_
  refine mr_seg 8 (pc1 := 23) (ls1 := [some (.ref 124), some (.int (nI p)), some (.int 2), some (.int 1)]) (st1 := [.int 1, .ref 130]) (M1 := (kSm (kr (he, ke, ki, fi, fa, [o0, o1, o2, o2, o4], 5, a, g, l, w, s)))) (fun f => rfl) ?_
  refine mr_ldn (xs := ([o0, o1, o2, o2, o4].map nI)) rfl rfl (k := 1) (by decide) rfl ?_
  refine mr_seg 1 (pc1 := 25) (ls1 := [some (.ref 124), some (.int (nI p)), some (.int 2), some (.int 1)]) (st1 := [.int (nI p), .int (nI o1)]) (M1 := (kSm (kr (he, ke, ki, fi, fa, [o0, o1, o2, o2, o4], 5, a, g, l, w, s)))) (fun f => rfl) ?_
  refine mr_f (C := (nI o1) = (nI p)) (fun e => q1 ((nI_eq (by omega) (by omega)).mp e)) (fun f => rfl) ?_
  refine mr_seg 6 (pc1 := 38) (ls1 := [some (.ref 124), some (.int (nI p)), some (.int 2), some (.int 1)]) (st1 := [.int 1, .ref 130, .int 2, .ref 130]) (M1 := (kSm (kr (he, ke, ki, fi, fa, [o0, o1, o2, o2, o4], 5, a, g, l, w, s)))) (fun f => rfl) ?_
  refine mr_ldn (xs := ([o0, o1, o2, o2, o4].map nI)) rfl rfl (k := 1) (by decide) rfl ?_
  refine mr_stn (xs := ([o0, o1, o2, o2, o4].map nI)) (ys := ([o0, o1, o1, o2, o4].map nI)) (M2 := (kSm (kr (he, ke, ki, fi, fa, [o0, o1, o1, o2, o4], 5, a, g, l, w, s)))) rfl rfl (k := 2) (by decide) (by simp) rfl rfl ?_
  refine mr_seg 8 (pc1 := 23) (ls1 := [some (.ref 124), some (.int (nI p)), some (.int 1), some (.int 0)]) (st1 := [.int 0, .ref 130]) (M1 := (kSm (kr (he, ke, ki, fi, fa, [o0, o1, o1, o2, o4], 5, a, g, l, w, s)))) (fun f => rfl) ?_
  refine mr_ldn (xs := ([o0, o1, o1, o2, o4].map nI)) rfl rfl (k := 0) (by decide) rfl ?_
  refine mr_seg 1 (pc1 := 25) (ls1 := [some (.ref 124), some (.int (nI p)), some (.int 1), some (.int 0)]) (st1 := [.int (nI p), .int (nI o0)]) (M1 := (kSm (kr (he, ke, ki, fi, fa, [o0, o1, o1, o2, o4], 5, a, g, l, w, s)))) (fun f => rfl) ?_
  refine mr_f (C := (nI o0) = (nI p)) (fun e => q0 ((nI_eq (by omega) (by omega)).mp e)) (fun f => rfl) ?_
  refine mr_seg 6 (pc1 := 38) (ls1 := [some (.ref 124), some (.int (nI p)), some (.int 1), some (.int 0)]) (st1 := [.int 0, .ref 130, .int 1, .ref 130]) (M1 := (kSm (kr (he, ke, ki, fi, fa, [o0, o1, o1, o2, o4], 5, a, g, l, w, s)))) (fun f => rfl) ?_
  refine mr_ldn (xs := ([o0, o1, o1, o2, o4].map nI)) rfl rfl (k := 0) (by decide) rfl ?_
  refine mr_stn (xs := ([o0, o1, o1, o2, o4].map nI)) (ys := ([o0, o0, o1, o2, o4].map nI)) (M2 := (kSm (kr (he, ke, ki, fi, fa, [o0, o0, o1, o2, o4], 5, a, g, l, w, s)))) rfl rfl (k := 1) (by decide) (by simp) rfl rfl ?_
  refine mr_seg 11 (pc1 := 59) (ls1 := [some (.ref 124), some (.int (nI p)), some (.int 0), some (.int (-1))]) (st1 := [.int (nI p), .int 0, .ref 130]) (M1 := (kSm (kr (he, ke, ki, fi, fa, [o0, o0, o1, o2, o4], 5, a, g, l, w, s)))) (fun f => rfl) ?_
  refine mr_stn (xs := ([o0, o0, o1, o2, o4].map nI)) (ys := ([p, o0, o1, o2, o4].map nI)) (M2 := (kSm (kr (he, ke, ki, fi, fa, [p, o0, o1, o2, o4], 5, a, g, l, w, s)))) rfl rfl (k := 0) (by decide) (by simp) rfl rfl ?_
  refine mr_eq (mr_ret 1 (o := (none, (kSm (kr (he, ke, ki, fi, fa, [p, o0, o1, o2, o4], 5, a, g, l, w, s))))) (fun f => rfl)) ?_
  have e : kfirst [o0, o1, o2, p, o4] 5 p = [p, o0, o1, o2, o4] := by simp [kfirst, q0, q1, q2, q4]
  rw [e]
set_option maxRecDepth 100000 in
theorem kc_first_m_5_4 (he ke ki fi fa : List Nat) (a g l w s p o0 o1 o2 o3 : Nat) (q0 : ¬ o0 = p) (q1 : ¬ o1 = p) (q2 : ¬ o2 = p) (q3 : ¬ o3 = p) (hp : p < 5) (b0 : o0 < 5) (b1 : o1 < 5) (b2 : o2 < 5) (b3 : o3 < 5) : mm_R 90 0 [some (.ref 124), some (.int (nI p)), none, none] [] (kSm (kr (he, ke, ki, fi, fa, [o0, o1, o2, o3, p], 5, a, g, l, w, s))) (none, kSm (kr (he, ke, ki, fi, fa, kfirst [o0, o1, o2, o3, p] 5 p, 5, a, g, l, w, s))) := by
  refine mr_seg 4 (pc1 := 6) (ls1 := [some (.ref 124), some (.int (nI p)), none, none]) (st1 := [.int (5 - 1)]) (M1 := (kSm (kr (he, ke, ki, fi, fa, [o0, o1, o2, o3, p], 5, a, g, l, w, s)))) (fun f => rfl) ?_
  refine mr_v (show (5 : Int32) - 1 = 4 by decide) ?_
  refine mr_seg 5 (pc1 := 13) (ls1 := [some (.ref 124), some (.int (nI p)), some (.int 4), none]) (st1 := [.int (5 - 1)]) (M1 := (kSm (kr (he, ke, ki, fi, fa, [o0, o1, o2, o3, p], 5, a, g, l, w, s)))) (fun f => rfl) ?_
  refine mr_v (show (5 : Int32) - 1 = 4 by decide) ?_
  refine mr_seg 6 (pc1 := 23) (ls1 := [some (.ref 124), some (.int (nI p)), some (.int 4), some (.int 4)]) (st1 := [.int 4, .ref 130]) (M1 := (kSm (kr (he, ke, ki, fi, fa, [o0, o1, o2, o3, p], 5, a, g, l, w, s)))) (fun f => rfl) ?_
  refine mr_ldn (xs := ([o0, o1, o2, o3, p].map nI)) rfl rfl (k := 4) (by decide) rfl ?_
  refine mr_seg 1 (pc1 := 25) (ls1 := [some (.ref 124), some (.int (nI p)), some (.int 4), some (.int 4)]) (st1 := [.int (nI p), .int (nI p)]) (M1 := (kSm (kr (he, ke, ki, fi, fa, [o0, o1, o2, o3, p], 5, a, g, l, w, s)))) (fun f => rfl) ?_
  refine mr_t (C := (nI p) = (nI p)) (rfl) (fun f => rfl) ?_
  refine mr_seg 7 (pc1 := 23) (ls1 := [some (.ref 124), some (.int (nI p)), some (.int 4), some (.int 3)]) (st1 := [.int 3, .ref 130]) (M1 := (kSm (kr (he, ke, ki, fi, fa, [o0, o1, o2, o3, p], 5, a, g, l, w, s)))) (fun f => rfl) ?_
  refine mr_ldn (xs := ([o0, o1, o2, o3, p].map nI)) rfl rfl (k := 3) (by decide) rfl ?_
  refine mr_seg 1 (pc1 := 25) (ls1 := [some (.ref 124), some (.int (nI p)), some (.int 4), some (.int 3)]) (st1 := [.int (nI p), .int (nI o3)]) (M1 := (kSm (kr (he, ke, ki, fi, fa, [o0, o1, o2, o3, p], 5, a, g, l, w, s)))) (fun f => rfl) ?_
  refine mr_f (C := (nI o3) = (nI p)) (fun e => q3 ((nI_eq (by omega) (by omega)).mp e)) (fun f => rfl) ?_
  refine mr_seg 6 (pc1 := 38) (ls1 := [some (.ref 124), some (.int (nI p)), some (.int 4), some (.int 3)]) (st1 := [.int 3, .ref 130, .int 4, .ref 130]) (M1 := (kSm (kr (he, ke, ki, fi, fa, [o0, o1, o2, o3, p], 5, a, g, l, w, s)))) (fun f => rfl) ?_
  refine mr_ldn (xs := ([o0, o1, o2, o3, p].map nI)) rfl rfl (k := 3) (by decide) rfl ?_
  refine mr_stn (xs := ([o0, o1, o2, o3, p].map nI)) (ys := ([o0, o1, o2, o3, o3].map nI)) (M2 := (kSm (kr (he, ke, ki, fi, fa, [o0, o1, o2, o3, o3], 5, a, g, l, w, s)))) rfl rfl (k := 4) (by decide) (by simp) rfl rfl ?_
  refine mr_seg 8 (pc1 := 23) (ls1 := [some (.ref 124), some (.int (nI p)), some (.int 3), some (.int 2)]) (st1 := [.int 2, .ref 130]) (M1 := (kSm (kr (he, ke, ki, fi, fa, [o0, o1, o2, o3, o3], 5, a, g, l, w, s)))) (fun f => rfl) ?_
  refine mr_ldn (xs := ([o0, o1, o2, o3, o3].map nI)) rfl rfl (k := 2) (by decide) rfl ?_
  refine mr_seg 1 (pc1 := 25) (ls1 := [some (.ref 124), some (.int (nI p)), some (.int 3), some (.int 2)]) (st1 := [.int (nI p), .int (nI o2)]) (M1 := (kSm (kr (he, ke, ki, fi, fa, [o0, o1, o2, o3, o3], 5, a, g, l, w, s)))) (fun f => rfl) ?_
  refine mr_f (C := (nI o2) = (nI p)) (fun e => q2 ((nI_eq (by omega) (by omega)).mp e)) (fun f => rfl) ?_
  refine mr_seg 6 (pc1 := 38) (ls1 := [some (.ref 124), some (.int (nI p)), some (.int 3), some (.int 2)]) (st1 := [.int 2, .ref 130, .int 3, .ref 130]) (M1 := (kSm (kr (he, ke, ki, fi, fa, [o0, o1, o2, o3, o3], 5, a, g, l, w, s)))) (fun f => rfl) ?_
  refine mr_ldn (xs := ([o0, o1, o2, o3, o3].map nI)) rfl rfl (k := 2) (by decide) rfl ?_
  refine mr_stn (xs := ([o0, o1, o2, o3, o3].map nI)) (ys := ([o0, o1, o2, o2, o3].map nI)) (M2 := (kSm (kr (he, ke, ki, fi, fa, [o0, o1, o2, o2, o3], 5, a, g, l, w, s)))) rfl rfl (k := 3) (by decide) (by simp) rfl rfl ?_
  refine mr_seg 8 (pc1 := 23) (ls1 := [some (.ref 124), some (.int (nI p)), some (.int 2), some (.int 1)]) (st1 := [.int 1, .ref 130]) (M1 := (kSm (kr (he, ke, ki, fi, fa, [o0, o1, o2, o2, o3], 5, a, g, l, w, s)))) (fun f => rfl) ?_
  refine mr_ldn (xs := ([o0, o1, o2, o2, o3].map nI)) rfl rfl (k := 1) (by decide) rfl ?_
  refine mr_seg 1 (pc1 := 25) (ls1 := [some (.ref 124), some (.int (nI p)), some (.int 2), some (.int 1)]) (st1 := [.int (nI p), .int (nI o1)]) (M1 := (kSm (kr (he, ke, ki, fi, fa, [o0, o1, o2, o2, o3], 5, a, g, l, w, s)))) (fun f => rfl) ?_
  refine mr_f (C := (nI o1) = (nI p)) (fun e => q1 ((nI_eq (by omega) (by omega)).mp e)) (fun f => rfl) ?_
  refine mr_seg 6 (pc1 := 38) (ls1 := [some (.ref 124), some (.int (nI p)), some (.int 2), some (.int 1)]) (st1 := [.int 1, .ref 130, .int 2, .ref 130]) (M1 := (kSm (kr (he, ke, ki, fi, fa, [o0, o1, o2, o2, o3], 5, a, g, l, w, s)))) (fun f => rfl) ?_
  refine mr_ldn (xs := ([o0, o1, o2, o2, o3].map nI)) rfl rfl (k := 1) (by decide) rfl ?_
  refine mr_stn (xs := ([o0, o1, o2, o2, o3].map nI)) (ys := ([o0, o1, o1, o2, o3].map nI)) (M2 := (kSm (kr (he, ke, ki, fi, fa, [o0, o1, o1, o2, o3], 5, a, g, l, w, s)))) rfl rfl (k := 2) (by decide) (by simp) rfl rfl ?_
  refine mr_seg 8 (pc1 := 23) (ls1 := [some (.ref 124), some (.int (nI p)), some (.int 1), some (.int 0)]) (st1 := [.int 0, .ref 130]) (M1 := (kSm (kr (he, ke, ki, fi, fa, [o0, o1, o1, o2, o3], 5, a, g, l, w, s)))) (fun f => rfl) ?_
  refine mr_ldn (xs := ([o0, o1, o1, o2, o3].map nI)) rfl rfl (k := 0) (by decide) rfl ?_
  refine mr_seg 1 (pc1 := 25) (ls1 := [some (.ref 124), some (.int (nI p)), some (.int 1), some (.int 0)]) (st1 := [.int (nI p), .int (nI o0)]) (M1 := (kSm (kr (he, ke, ki, fi, fa, [o0, o1, o1, o2, o3], 5, a, g, l, w, s)))) (fun f => rfl) ?_
  refine mr_f (C := (nI o0) = (nI p)) (fun e => q0 ((nI_eq (by omega) (by omega)).mp e)) (fun f => rfl) ?_
  refine mr_seg 6 (pc1 := 38) (ls1 := [some (.ref 124), some (.int (nI p)), some (.int 1), some (.int 0)]) (st1 := [.int 0, .ref 130, .int 1, .ref 130]) (M1 := (kSm (kr (he, ke, ki, fi, fa, [o0, o1, o1, o2, o3], 5, a, g, l, w, s)))) (fun f => rfl) ?_
  refine mr_ldn (xs := ([o0, o1, o1, o2, o3].map nI)) rfl rfl (k := 0) (by decide) rfl ?_
  refine mr_stn (xs := ([o0, o1, o1, o2, o3].map nI)) (ys := ([o0, o0, o1, o2, o3].map nI)) (M2 := (kSm (kr (he, ke, ki, fi, fa, [o0, o0, o1, o2, o3], 5, a, g, l, w, s)))) rfl rfl (k := 1) (by decide) (by simp) rfl rfl ?_
  refine mr_seg 11 (pc1 := 59) (ls1 := [some (.ref 124), some (.int (nI p)), some (.int 0), some (.int (-1))]) (st1 := [.int (nI p), .int 0, .ref 130]) (M1 := (kSm (kr (he, ke, ki, fi, fa, [o0, o0, o1, o2, o3], 5, a, g, l, w, s)))) (fun f => rfl) ?_
  refine mr_stn (xs := ([o0, o0, o1, o2, o3].map nI)) (ys := ([p, o0, o1, o2, o3].map nI)) (M2 := (kSm (kr (he, ke, ki, fi, fa, [p, o0, o1, o2, o3], 5, a, g, l, w, s)))) rfl rfl (k := 0) (by decide) (by simp) rfl rfl ?_
  refine mr_eq (mr_ret 1 (o := (none, (kSm (kr (he, ke, ki, fi, fa, [p, o0, o1, o2, o3], 5, a, g, l, w, s))))) (fun f => rfl)) ?_
  have e : kfirst [o0, o1, o2, o3, p] 5 p = [p, o0, o1, o2, o3] := by simp [kfirst, q0, q1, q2, q3]
  rw [e]
theorem kc_first_m (he ke ki fi fa or : List Nat) (mi a g l w s : Nat) (p : Nat) (hp : p < mi) (hO : or ∈ kOl mi) (hm : mi ≤ 5) : mm_R 90 0 [some (.ref 124), some (.int (nI p)), none, none] [] (kSm (kr (he, ke, ki, fi, fa, or, mi, a, g, l, w, s))) (none, kSm (kr (he, ke, ki, fi, fa, kfirst or mi p, mi, a, g, l, w, s))) := by
  obtain ⟨j, hj, hp1, hp2⟩ := kO_pos mi hm or hO p hp
  have hl := kO_len mi hm or hO
  have h5 : ∀ i, i < 5 → kg or i < 5 := kO_lt5 mi hm or hO
  match or, hl with
  | [o0, o1, o2, o3, o4], _ =>
    have b0 : o0 < 5 := h5 0 (by omega)
    have b1 : o1 < 5 := h5 1 (by omega)
    have b2 : o2 < 5 := h5 2 (by omega)
    have b3 : o3 < 5 := h5 3 (by omega)
    have b4 : o4 < 5 := h5 4 (by omega)
    match mi, j, hj, hm with
    | 1, 0, _, _ => cases hp1; exact kc_first_m_1_0 he ke ki fi fa a g l w s o0 o1 o2 o3 o4  b0 b1 b2 b3 b4
    | 2, 0, _, _ => cases hp1; exact kc_first_m_2_0 he ke ki fi fa a g l w s o0 o1 o2 o3 o4 (hp2 1 (by omega) (by omega)) b0 b1 b2 b3 b4
    | 2, 1, _, _ => cases hp1; exact kc_first_m_2_1 he ke ki fi fa a g l w s o1 o0 o2 o3 o4 (hp2 0 (by omega) (by omega)) b1 b0 b2 b3 b4
    | 3, 0, _, _ => cases hp1; exact kc_first_m_3_0 he ke ki fi fa a g l w s o0 o1 o2 o3 o4 (hp2 1 (by omega) (by omega)) (hp2 2 (by omega) (by omega)) b0 b1 b2 b3 b4
    | 3, 1, _, _ => cases hp1; exact kc_first_m_3_1 he ke ki fi fa a g l w s o1 o0 o2 o3 o4 (hp2 0 (by omega) (by omega)) (hp2 2 (by omega) (by omega)) b1 b0 b2 b3 b4
    | 3, 2, _, _ => cases hp1; exact kc_first_m_3_2 he ke ki fi fa a g l w s o2 o0 o1 o3 o4 (hp2 0 (by omega) (by omega)) (hp2 1 (by omega) (by omega)) b2 b0 b1 b3 b4
    | 4, 0, _, _ => cases hp1; exact kc_first_m_4_0 he ke ki fi fa a g l w s o0 o1 o2 o3 o4 (hp2 1 (by omega) (by omega)) (hp2 2 (by omega) (by omega)) (hp2 3 (by omega) (by omega)) b0 b1 b2 b3 b4
    | 4, 1, _, _ => cases hp1; exact kc_first_m_4_1 he ke ki fi fa a g l w s o1 o0 o2 o3 o4 (hp2 0 (by omega) (by omega)) (hp2 2 (by omega) (by omega)) (hp2 3 (by omega) (by omega)) b1 b0 b2 b3 b4
    | 4, 2, _, _ => cases hp1; exact kc_first_m_4_2 he ke ki fi fa a g l w s o2 o0 o1 o3 o4 (hp2 0 (by omega) (by omega)) (hp2 1 (by omega) (by omega)) (hp2 3 (by omega) (by omega)) b2 b0 b1 b3 b4
    | 4, 3, _, _ => cases hp1; exact kc_first_m_4_3 he ke ki fi fa a g l w s o3 o0 o1 o2 o4 (hp2 0 (by omega) (by omega)) (hp2 1 (by omega) (by omega)) (hp2 2 (by omega) (by omega)) b3 b0 b1 b2 b4
    | 5, 0, _, _ => cases hp1; exact kc_first_m_5_0 he ke ki fi fa a g l w s o0 o1 o2 o3 o4 (hp2 1 (by omega) (by omega)) (hp2 2 (by omega) (by omega)) (hp2 3 (by omega) (by omega)) (hp2 4 (by omega) (by omega)) b0 b1 b2 b3 b4
    | 5, 1, _, _ => cases hp1; exact kc_first_m_5_1 he ke ki fi fa a g l w s o1 o0 o2 o3 o4 (hp2 0 (by omega) (by omega)) (hp2 2 (by omega) (by omega)) (hp2 3 (by omega) (by omega)) (hp2 4 (by omega) (by omega)) b1 b0 b2 b3 b4
    | 5, 2, _, _ => cases hp1; exact kc_first_m_5_2 he ke ki fi fa a g l w s o2 o0 o1 o3 o4 (hp2 0 (by omega) (by omega)) (hp2 1 (by omega) (by omega)) (hp2 3 (by omega) (by omega)) (hp2 4 (by omega) (by omega)) b2 b0 b1 b3 b4
    | 5, 3, _, _ => cases hp1; exact kc_first_m_5_3 he ke ki fi fa a g l w s o3 o0 o1 o2 o4 (hp2 0 (by omega) (by omega)) (hp2 1 (by omega) (by omega)) (hp2 2 (by omega) (by omega)) (hp2 4 (by omega) (by omega)) b3 b0 b1 b2 b4
    | 5, 4, _, _ => cases hp1; exact kc_first_m_5_4 he ke ki fi fa a g l w s o4 o0 o1 o2 o3 (hp2 0 (by omega) (by omega)) (hp2 1 (by omega) (by omega)) (hp2 2 (by omega) (by omega)) (hp2 3 (by omega) (by omega)) b4 b0 b1 b2 b3
    | mi, j + 5, hj, hm => exact absurd hj (by omega)
    | mi + 6, _, _, hm => exact absurd hm (by omega)
    | 0, 0, hj, _ => exact absurd hj (by omega)
    | 0, 1, hj, _ => exact absurd hj (by omega)
    | 0, 2, hj, _ => exact absurd hj (by omega)
    | 0, 3, hj, _ => exact absurd hj (by omega)
    | 0, 4, hj, _ => exact absurd hj (by omega)
    | 1, 1, hj, _ => exact absurd hj (by omega)
    | 1, 2, hj, _ => exact absurd hj (by omega)
    | 1, 3, hj, _ => exact absurd hj (by omega)
    | 1, 4, hj, _ => exact absurd hj (by omega)
    | 2, 2, hj, _ => exact absurd hj (by omega)
    | 2, 3, hj, _ => exact absurd hj (by omega)
    | 2, 4, hj, _ => exact absurd hj (by omega)
    | 3, 3, hj, _ => exact absurd hj (by omega)
    | 3, 4, hj, _ => exact absurd hj (by omega)
    | 4, 4, hj, _ => exact absurd hj (by omega)
set_option maxRecDepth 100000 in
theorem kc_adv0_m (he ke ki fi fa or : List Nat) (mi a g l w s : Nat) (x : Nat) (hx : x < 100) (hV : kV (he, ke, ki, fi, fa, or, mi, a, g, l, w, s)) (hs : s < 2 ^ 30) (hn : knext (he, ke, ki, fi, fa, or, mi, a, g, l, w, s) = none) : mm_R 44 0 [some (.ref 124), some (.int (nI x)), none, none, none] [] (kSm (kr (he, ke, ki, fi, fa, or, mi, a, g, l, w, s))) (none, kSm (kr (kstep (he, ke, ki, fi, fa, or, mi, a, g, l, w, s) x))) := by
  have hV0 : kV (he, ke, ki, fi, fa, or, mi, a, g, l, w, s) := hV
  obtain ⟨v1, v2, v3, v4, v5, v6, v7, v8, v9, v10, v11, v12, v13, v14, v15, v16⟩ := hV
  have v6l := kO_len mi v7 or v6
  have v6t : ∀ i, i < 5 → kg or i < 5 := kO_lt5 mi v7 or v6
  have v60 := v6t 0 (by omega)
  refine mr_seg 1 (pc1 := 1) (ls1 := [some (.ref 124), some (.int (nI x)), none, none, none]) (st1 := [.ref 124]) (M1 := (kSm (kr (he, ke, ki, fi, fa, or, mi, a, g, l, w, s)))) (fun f => rfl) ?_
  refine mr_call (y := 45) (y0 := 4) (L := [some (.ref 124)]) (rest := []) (rr := some (.int (-9))) (M1 := (kSm (kr (he, ke, ki, fi, fa, or, mi, a, g, l, w, s)))) (fun f => rfl) (mr_eq (kc_next_m he ke ki fi fa or mi a g l w s hV0 hs) (by rw [hn]; rfl)) ?_
  refine mr_seg 4 (pc1 := 10) (ls1 := [some (.ref 124), some (.int (nI x)), some (.int (-9)), none, none]) (st1 := [.int (-9), .int (nI a)]) (M1 := (kSm (kr (he, ke, ki, fi, fa, or, mi, a, g, l, w, s)))) (fun f => rfl) ?_
  refine mr_call (y := 48) (y0 := 13) (L := [some (.int (nI a)), some (.int (-9))]) (rest := []) (rr := some (.int (-9))) (M1 := (kSm (kr (he, ke, ki, fi, fa, or, mi, a, g, l, w, s)))) (fun f => rfl) (kc_bey9 (by omega) _) ?_
  refine mr_seg 6 (pc1 := 21) (ls1 := [some (.ref 124), some (.int (nI x)), some (.int (-9)), some (.int (-9)), none]) (st1 := [.int ((nI s) + 1), .ref 124]) (M1 := (kSm (kr (he, ke, ki, fi, fa, or, mi, a, g, l, w, s)))) (fun f => rfl) ?_
  refine mr_v (nI_add s 1) ?_
  refine mr_seg 1 (pc1 := 24) (ls1 := [some (.ref 124), some (.int (nI x)), some (.int (-9)), some (.int (-9)), none]) (st1 := []) (M1 := (kSmx (he.map nI) (ke.map nI) (ki.map nI) (fi.map nI) (fa.map nI) (or.map nI) (nI mi) (nI a) (nI g) (nI l) (nI w) (nI (s + 1)))) (fun f => rfl) ?_
  refine mr_M (kSm_k he ke ki fi fa or mi a g l w (s + 1)) ?_
  refine mr_eq (mr_ret 4 (o := (none, (kSm (kr (he, ke, ki, fi, fa, or, mi, a, g, l, w, s + 1))))) (fun f => rfl)) ?_
  exact congrArg (fun q : kK => ((none : Option Value), kSm (kr q))) (kjs_n (x := x) hn).symm
set_option maxRecDepth 100000 in
theorem kc_adv1_m (he ke ki fi fa or : List Nat) (mi a g l w s : Nat) (x : Nat) (hx : x < 100) (hV : kV (he, ke, ki, fi, fa, or, mi, a, g, l, w, s)) (hs : s < 2 ^ 30) (y : Nat) (hn : knext (he, ke, ki, fi, fa, or, mi, a, g, l, w, s) = some y) (hy : y < 4) (hb : kbey a y = none) : mm_R 44 0 [some (.ref 124), some (.int (nI x)), none, none, none] [] (kSm (kr (he, ke, ki, fi, fa, or, mi, a, g, l, w, s))) (none, kSm (kr (kstep (he, ke, ki, fi, fa, or, mi, a, g, l, w, s) x))) := by
  have hV0 : kV (he, ke, ki, fi, fa, or, mi, a, g, l, w, s) := hV
  obtain ⟨v1, v2, v3, v4, v5, v6, v7, v8, v9, v10, v11, v12, v13, v14, v15, v16⟩ := hV
  have v6l := kO_len mi v7 or v6
  have v6t : ∀ i, i < 5 → kg or i < 5 := kO_lt5 mi v7 or v6
  have v60 := v6t 0 (by omega)
  refine mr_seg 1 (pc1 := 1) (ls1 := [some (.ref 124), some (.int (nI x)), none, none, none]) (st1 := [.ref 124]) (M1 := (kSm (kr (he, ke, ki, fi, fa, or, mi, a, g, l, w, s)))) (fun f => rfl) ?_
  refine mr_call (y := 45) (y0 := 4) (L := [some (.ref 124)]) (rest := []) (rr := some (.int (nI y))) (M1 := (kSm (kr (he, ke, ki, fi, fa, or, mi, a, g, l, w, s)))) (fun f => rfl) (mr_eq (kc_next_m he ke ki fi fa or mi a g l w s hV0 hs) (by rw [hn]; rfl)) ?_
  refine mr_seg 4 (pc1 := 10) (ls1 := [some (.ref 124), some (.int (nI x)), some (.int (nI y)), none, none]) (st1 := [.int (nI y), .int (nI a)]) (M1 := (kSm (kr (he, ke, ki, fi, fa, or, mi, a, g, l, w, s)))) (fun f => rfl) ?_
  refine mr_call (y := 48) (y0 := 13) (L := [some (.int (nI a)), some (.int (nI y))]) (rest := []) (rr := some (.int (-9))) (M1 := (kSm (kr (he, ke, ki, fi, fa, or, mi, a, g, l, w, s)))) (fun f => rfl) (mr_eq (kc_bey (c := a) (w := y) (by omega) hy _) (by rw [hb]; rfl)) ?_
  refine mr_seg 6 (pc1 := 21) (ls1 := [some (.ref 124), some (.int (nI x)), some (.int (nI y)), some (.int (-9)), none]) (st1 := [.int ((nI s) + 1), .ref 124]) (M1 := (kSm (kr (he, ke, ki, fi, fa, or, mi, a, g, l, w, s)))) (fun f => rfl) ?_
  refine mr_v (nI_add s 1) ?_
  refine mr_seg 1 (pc1 := 24) (ls1 := [some (.ref 124), some (.int (nI x)), some (.int (nI y)), some (.int (-9)), none]) (st1 := []) (M1 := (kSmx (he.map nI) (ke.map nI) (ki.map nI) (fi.map nI) (fa.map nI) (or.map nI) (nI mi) (nI a) (nI g) (nI l) (nI w) (nI (s + 1)))) (fun f => rfl) ?_
  refine mr_M (kSm_k he ke ki fi fa or mi a g l w (s + 1)) ?_
  refine mr_eq (mr_ret 4 (o := (none, (kSm (kr (he, ke, ki, fi, fa, or, mi, a, g, l, w, s + 1))))) (fun f => rfl)) ?_
  exact congrArg (fun q : kK => ((none : Option Value), kSm (kr q))) (kjs_b (x := x) hn hb).symm
set_option maxRecDepth 100000 in
theorem kc_adv2_m (he ke ki fi fa or : List Nat) (mi a g l w s : Nat) (x : Nat) (hx : x < 100) (hV : kV (he, ke, ki, fi, fa, or, mi, a, g, l, w, s)) (hs : s < 2 ^ 30) (y t : Nat) (hn : knext (he, ke, ki, fi, fa, or, mi, a, g, l, w, s) = some y) (hy : y < 4) (hb : kbey a y = some t) (hmi : 0 < mi) : mm_R 44 0 [some (.ref 124), some (.int (nI x)), none, none, none] [] (kSm (kr (he, ke, ki, fi, fa, or, mi, a, g, l, w, s))) (none, kSm (kr (kstep (he, ke, ki, fi, fa, or, mi, a, g, l, w, s) x))) := by
  have hV0 : kV (he, ke, ki, fi, fa, or, mi, a, g, l, w, s) := hV
  obtain ⟨v1, v2, v3, v4, v5, v6, v7, v8, v9, v10, v11, v12, v13, v14, v15, v16⟩ := hV
  have v6l := kO_len mi v7 or v6
  have v6t : ∀ i, i < 5 → kg or i < 5 := kO_lt5 mi v7 or v6
  have v60 := v6t 0 (by omega)
  have ht := kbey_lt v8 hb
  have hV1 : kV (he, ke, ki, fi, fa, or, mi, a, g, l, w, s + 1) := hV0
  have q1 := v12 t
  have q2 := v12 a
  have q3 := v13 t
  have q4 : kload he ke a w t ≤ 51 := by unfold kload; omega
  have w15 := v15 (kg or 0)
  have q5 : khold (kg ki (kg or 0)) (kg fi (kg or 0)) ≤ 34 := by unfold khold; split <;> omega
  have w16 := v16 (kg or 0)
  refine mr_seg 1 (pc1 := 1) (ls1 := [some (.ref 124), some (.int (nI x)), none, none, none]) (st1 := [.ref 124]) (M1 := (kSm (kr (he, ke, ki, fi, fa, or, mi, a, g, l, w, s)))) (fun f => rfl) ?_
  refine mr_call (y := 45) (y0 := 4) (L := [some (.ref 124)]) (rest := []) (rr := some (.int (nI y))) (M1 := (kSm (kr (he, ke, ki, fi, fa, or, mi, a, g, l, w, s)))) (fun f => rfl) (mr_eq (kc_next_m he ke ki fi fa or mi a g l w s hV0 hs) (by rw [hn]; rfl)) ?_
  refine mr_seg 4 (pc1 := 10) (ls1 := [some (.ref 124), some (.int (nI x)), some (.int (nI y)), none, none]) (st1 := [.int (nI y), .int (nI a)]) (M1 := (kSm (kr (he, ke, ki, fi, fa, or, mi, a, g, l, w, s)))) (fun f => rfl) ?_
  refine mr_call (y := 48) (y0 := 13) (L := [some (.int (nI a)), some (.int (nI y))]) (rest := []) (rr := some (.int (nI t))) (M1 := (kSm (kr (he, ke, ki, fi, fa, or, mi, a, g, l, w, s)))) (fun f => rfl) (mr_eq (kc_bey (c := a) (w := y) (by omega) hy _) (by rw [hb]; rfl)) ?_
  refine mr_seg 6 (pc1 := 21) (ls1 := [some (.ref 124), some (.int (nI x)), some (.int (nI y)), some (.int (nI t)), none]) (st1 := [.int ((nI s) + 1), .ref 124]) (M1 := (kSm (kr (he, ke, ki, fi, fa, or, mi, a, g, l, w, s)))) (fun f => rfl) ?_
  refine mr_v (nI_add s 1) ?_
  refine mr_seg 1 (pc1 := 24) (ls1 := [some (.ref 124), some (.int (nI x)), some (.int (nI y)), some (.int (nI t)), none]) (st1 := []) (M1 := (kSmx (he.map nI) (ke.map nI) (ki.map nI) (fi.map nI) (fa.map nI) (or.map nI) (nI mi) (nI a) (nI g) (nI l) (nI w) (nI (s + 1)))) (fun f => rfl) ?_
  refine mr_M (kSm_k he ke ki fi fa or mi a g l w (s + 1)) ?_
  refine mr_seg 2 (pc1 := 27) (ls1 := [some (.ref 124), some (.int (nI x)), some (.int (nI y)), some (.int (nI t)), none]) (st1 := [.int (-9), .int (nI t)]) (M1 := (kSm (kr (he, ke, ki, fi, fa, or, mi, a, g, l, w, s + 1)))) (fun f => rfl) ?_
  refine mr_f (C := (nI t) = (-9)) (k_n9 (by omega)) (fun f => rfl) ?_
  refine mr_seg 3 (pc1 := 36) (ls1 := [some (.ref 124), some (.int (nI x)), some (.int (nI y)), some (.int (nI t)), none]) (st1 := [.int 0, .ref 130]) (M1 := (kSm (kr (he, ke, ki, fi, fa, or, mi, a, g, l, w, s + 1)))) (fun f => rfl) ?_
  refine mr_ldk (l0 := or) rfl rfl (k := 0) (by omega) ?_
  refine mr_seg 3 (pc1 := 41) (ls1 := [some (.ref 124), some (.int (nI x)), some (.int (nI y)), some (.int (nI t)), some (.int (nI (kg or 0)))]) (st1 := [.int (nI t), .ref 124]) (M1 := (kSm (kr (he, ke, ki, fi, fa, or, mi, a, g, l, w, s + 1)))) (fun f => rfl) ?_
  refine mr_call (y := 54) (y0 := 44) (L := [some (.ref 124), some (.int (nI t)), none]) (rest := []) (rr := some (.int (nI (kload he ke a w t)))) (M1 := (kSm (kr (he, ke, ki, fi, fa, or, mi, a, g, l, w, s + 1)))) (fun f => rfl) (kc_load_m he ke ki fi fa or mi a g l w (s + 1) t ht hV1) ?_
  refine mr_seg 2 (pc1 := 46) (ls1 := [some (.ref 124), some (.int (nI x)), some (.int (nI y)), some (.int (nI t)), some (.int (nI (kg or 0)))]) (st1 := [.int ((nI (kload he ke a w t)) + (nI x))]) (M1 := (kSm (kr (he, ke, ki, fi, fa, or, mi, a, g, l, w, s + 1)))) (fun f => rfl) ?_
  refine mr_v (nI_add (kload he ke a w t) x) ?_
  refine mr_seg 2 (pc1 := 49) (ls1 := [some (.ref 124), some (.int (nI x)), some (.int (nI y)), some (.int (nI t)), some (.int (nI (kg or 0)))]) (st1 := [.int (nI (kg or 0)), .ref 124, .int (nI (kload he ke a w t + x))]) (M1 := (kSm (kr (he, ke, ki, fi, fa, or, mi, a, g, l, w, s + 1)))) (fun f => rfl) ?_
  refine mr_call (y := 55) (y0 := 52) (L := [some (.ref 124), some (.int (nI (kg or 0)))]) (rest := [.int (nI (kload he ke a w t + x))]) (rr := some (.int (nI (khold (kg ki (kg or 0)) (kg fi (kg or 0)))))) (M1 := (kSm (kr (he, ke, ki, fi, fa, or, mi, a, g, l, w, s + 1)))) (fun f => rfl) (kc_str_m he ke ki fi fa or mi a g l w (s + 1) (kg or 0) v60 hV1) ?_
  refine mr_ifN (C := (nI (kload he ke a w t + x)) ≤ (nI (khold (kg ki (kg or 0)) (kg fi (kg or 0))))) (nI_lei (a := kload he ke a w t + x) (b := khold (kg ki (kg or 0)) (kg fi (kg or 0))) (by omega)) (fun f => rfl) (fun h1 => ?_) (fun h1 => ?_)
  · refine mr_seg 3 (pc1 := 90) (ls1 := [some (.ref 124), some (.int (nI x)), some (.int (nI y)), some (.int (nI t)), some (.int (nI (kg or 0)))]) (st1 := []) (M1 := (kSmx (he.map nI) (ke.map nI) (ki.map nI) (fi.map nI) (fa.map nI) (or.map nI) (nI mi) (nI t) (nI g) (nI l) (nI w) (nI (s + 1)))) (fun f => rfl) ?_
    refine mr_M (kSm_k he ke ki fi fa or mi t g l w (s + 1)) ?_
    refine mr_seg 3 (pc1 := 95) (ls1 := [some (.ref 124), some (.int (nI x)), some (.int (nI y)), some (.int (nI t)), some (.int (nI (kg or 0)))]) (st1 := []) (M1 := (kSmx (he.map nI) (ke.map nI) (ki.map nI) (fi.map nI) (fa.map nI) (or.map nI) (nI mi) (nI t) (nI g) (nI y) (nI w) (nI (s + 1)))) (fun f => rfl) ?_
    refine mr_M (kSm_k he ke ki fi fa or mi t g y w (s + 1)) ?_
    refine mr_eq (mr_ret 1 (o := (none, (kSm (kr (he, ke, ki, fi, fa, or, mi, t, g, y, w, s + 1))))) (fun f => rfl)) ?_
    exact congrArg (fun q : kK => ((none : Option Value), kSm (kr q))) (kjs_t (x := x) hn hb (show ¬ (khold (kg ki (kg or 0)) (kg fi (kg or 0)) < kload he ke a w t + x) by omega)).symm
  · refine mr_seg 7 (pc1 := 69) (ls1 := [some (.ref 124), some (.int (nI x)), some (.int (nI y)), some (.int (nI t)), some (.int (nI (kg or 0)))]) (st1 := [.int (nI (kg or 0)), .ref 129, .int 99, .int (nI (kg or 0)), .ref 129]) (M1 := (kSm (kr (he, ke, ki, fi, fa, or, mi, a, g, l, w, s + 1)))) (fun f => rfl) ?_
    refine mr_ldk (l0 := fa) rfl rfl (k := kg or 0) (by omega) ?_
    refine mr_seg 2 (pc1 := 72) (ls1 := [some (.ref 124), some (.int (nI x)), some (.int (nI y)), some (.int (nI t)), some (.int (nI (kg or 0)))]) (st1 := [.int ((nI (kg fa (kg or 0))) + 1), .int 99, .int (nI (kg or 0)), .ref 129]) (M1 := (kSm (kr (he, ke, ki, fi, fa, or, mi, a, g, l, w, s + 1)))) (fun f => rfl) ?_
    refine mr_v (nI_add (kg fa (kg or 0)) 1) ?_
    refine mr_seg 1 (pc1 := 75) (ls1 := [some (.ref 124), some (.int (nI x)), some (.int (nI y)), some (.int (nI t)), some (.int (nI (kg or 0)))]) (st1 := [.int (if (nI (kg fa (kg or 0) + 1)) < 99 then (nI (kg fa (kg or 0) + 1)) else 99), .int (nI (kg or 0)), .ref 129]) (M1 := (kSm (kr (he, ke, ki, fi, fa, or, mi, a, g, l, w, s + 1)))) (fun f => rfl) ?_
    refine mr_v (k_min (a := 99) (b := kg fa (kg or 0) + 1) (by omega) (by omega)) ?_
    refine mr_stk (l0 := fa) (M2 := (kSm (kr (he, ke, ki, fi, fa.set (kg or 0) (min 99 (kg fa (kg or 0) + 1)), or, mi, a, g, l, w, s + 1)))) rfl rfl (k := kg or 0) (v := (min 99 (kg fa (kg or 0) + 1))) (by omega) rfl ?_
    refine mr_seg 2 (pc1 := 79) (ls1 := [some (.ref 124), some (.int (nI x)), some (.int (nI y)), some (.int (nI t)), some (.int (nI (kg or 0)))]) (st1 := [.int (nI (kg or 0)), .ref 124]) (M1 := (kSm (kr (he, ke, ki, fi, fa.set (kg or 0) (min 99 (kg fa (kg or 0) + 1)), or, mi, a, g, l, w, s + 1)))) (fun f => rfl) ?_
    refine mr_call (y := 42) (y0 := 82) (L := [some (.ref 124), some (.int (nI (kg or 0))), none, none]) (rest := []) (rr := none) (M1 := (kSm (kr (he, ke, ki, fi, fa.set (kg or 0) (min 99 (kg fa (kg or 0) + 1)), klast or mi (kg or 0), mi, a, g, l, w, s + 1)))) (fun f => rfl) (kc_last_m he ke ki fi (fa.set (kg or 0) (min 99 (kg fa (kg or 0) + 1))) or mi a g l w (s + 1) (kg or 0) (kO_lt mi v7 or v6 0 (by omega)) v6 v7) ?_
    refine mr_eq (mr_ret 2 (o := (none, (kSm (kr (he, ke, ki, fi, fa.set (kg or 0) (min 99 (kg fa (kg or 0) + 1)), klast or mi (kg or 0), mi, a, g, l, w, s + 1))))) (fun f => rfl)) ?_
    exact congrArg (fun q : kK => ((none : Option Value), kSm (kr q))) (kjs_f (x := x) hn hb (show khold (kg ki (kg or 0)) (kg fi (kg or 0)) < kload he ke a w t + x by omega)).symm
theorem kc_adv_m (he ke ki fi fa or : List Nat) (mi a g l w s : Nat) (x : Nat) (hx : x < 100) (hV : kV (he, ke, ki, fi, fa, or, mi, a, g, l, w, s)) (hs : s < 2 ^ 30) : mm_R 44 0 [some (.ref 124), some (.int (nI x)), none, none, none] [] (kSm (kr (he, ke, ki, fi, fa, or, mi, a, g, l, w, s))) (none, kSm (kr (kstep (he, ke, ki, fi, fa, or, mi, a, g, l, w, s) x))) := by
  cases hn : knext (he, ke, ki, fi, fa, or, mi, a, g, l, w, s) with
  | none => exact kc_adv0_m he ke ki fi fa or mi a g l w s x hx hV hs hn
  | some y =>
    have hy := knext_lt hV hn
    cases hb : kbey a y with
    | none => exact kc_adv1_m he ke ki fi fa or mi a g l w s x hx hV hs y hn hy hb
    | some t => exact kc_adv2_m he ke ki fi fa or mi a g l w s x hx hV hs y t hn hy hb (knext_mi hn)
set_option maxRecDepth 100000 in
theorem kc_sgn_n (he ke ki fi fa or : List Nat) (mi a g l w s : Nat) (ha : a < 25) (hg : g < 25) : mm_R 46 0 [some (.ref 117), none] [] (kSn (kr (he, ke, ki, fi, fa, or, mi, a, g, l, w, s))) (some (.int (kS9 a g)), kSn (kr (he, ke, ki, fi, fa, or, mi, a, g, l, w, s))) := by
  refine mr_seg 4 (pc1 := 6) (ls1 := [some (.ref 117), none]) (st1 := [.int ((nI g) / 5)]) (M1 := (kSn (kr (he, ke, ki, fi, fa, or, mi, a, g, l, w, s)))) (fun f => rfl) ?_
  refine mr_v (pk_div (a := g) (d := 5) (by omega) (by decide) (by decide)) ?_
  refine mr_seg 4 (pc1 := 12) (ls1 := [some (.ref 117), none]) (st1 := [.int ((nI a) / 5), .int (nI (g / 5))]) (M1 := (kSn (kr (he, ke, ki, fi, fa, or, mi, a, g, l, w, s)))) (fun f => rfl) ?_
  refine mr_v (pk_div (a := a) (d := 5) (by omega) (by decide) (by decide)) ?_
  refine mr_seg 3 (pc1 := 15) (ls1 := [some (.ref 117), some (.int ((nI (g / 5)) - (nI (a / 5))))]) (st1 := [.int ((nI (g / 5)) - (nI (a / 5)))]) (M1 := (kSn (kr (he, ke, ki, fi, fa, or, mi, a, g, l, w, s)))) (fun f => rfl) ?_
  refine mr_ifN (C := ((nI (g / 5)) - (nI (a / 5))) = 0) (k_sub0 (a := g / 5) (b := a / 5) (by omega) (by omega)) (fun f => rfl) (fun h1 => ?_) (fun h1 => ?_)
  · refine mr_seg 4 (pc1 := 36) (ls1 := [some (.ref 117), some (.int ((nI (g / 5)) - (nI (a / 5))))]) (st1 := [.int (nI a), .int (nI g)]) (M1 := (kSn (kr (he, ke, ki, fi, fa, or, mi, a, g, l, w, s)))) (fun f => rfl) ?_
    refine mr_ifN (C := (nI g) = (nI a)) (nI_eqi (a := g) (b := a) (by omega)) (fun f => rfl) (fun h2 => ?_) (fun h2 => ?_)
    · refine mr_eq (mr_ret 2 (o := (some (.int (-9)), (kSn (kr (he, ke, ki, fi, fa, or, mi, a, g, l, w, s))))) (fun f => rfl)) ?_
      first
        | rw [kS9_9 (a := a) (g := g) (by omega)]
        | rw [kS9_0 (a := a) (g := g) (by omega)]
        | rw [kS9_2 (a := a) (g := g) (by omega) (by omega)]
        | rw [kS9_3 (a := a) (g := g) (by omega) (by omega) (by omega)]
        | rw [kS9_1 (a := a) (g := g) (by omega) (by omega) (by omega)]
    · refine mr_seg 4 (pc1 := 50) (ls1 := [some (.ref 117), some (.int ((nI (g / 5)) - (nI (a / 5))))]) (st1 := [.int (nI a), .int (nI g)]) (M1 := (kSn (kr (he, ke, ki, fi, fa, or, mi, a, g, l, w, s)))) (fun f => rfl) ?_
      refine mr_ifN (C := (nI a) ≤ (nI g)) (nI_lei (a := a) (b := g) (by omega)) (fun f => rfl) (fun h3 => ?_) (fun h3 => ?_)
      · refine mr_eq (mr_ret 2 (o := (some (.int 1), (kSn (kr (he, ke, ki, fi, fa, or, mi, a, g, l, w, s))))) (fun f => rfl)) ?_
        first
          | rw [kS9_9 (a := a) (g := g) (by omega)]
          | rw [kS9_0 (a := a) (g := g) (by omega)]
          | rw [kS9_2 (a := a) (g := g) (by omega) (by omega)]
          | rw [kS9_3 (a := a) (g := g) (by omega) (by omega) (by omega)]
          | rw [kS9_1 (a := a) (g := g) (by omega) (by omega) (by omega)]
      · refine mr_eq (mr_ret 3 (o := (some (.int 3), (kSn (kr (he, ke, ki, fi, fa, or, mi, a, g, l, w, s))))) (fun f => rfl)) ?_
        first
          | rw [kS9_9 (a := a) (g := g) (by omega)]
          | rw [kS9_0 (a := a) (g := g) (by omega)]
          | rw [kS9_2 (a := a) (g := g) (by omega) (by omega)]
          | rw [kS9_3 (a := a) (g := g) (by omega) (by omega) (by omega)]
          | rw [kS9_1 (a := a) (g := g) (by omega) (by omega) (by omega)]
  · refine mr_seg 1 (pc1 := 19) (ls1 := [some (.ref 117), some (.int ((nI (g / 5)) - (nI (a / 5))))]) (st1 := [.int ((nI (g / 5)) - (nI (a / 5)))]) (M1 := (kSn (kr (he, ke, ki, fi, fa, or, mi, a, g, l, w, s)))) (fun f => rfl) ?_
    refine mr_ifN (C := 0 ≤ ((nI (g / 5)) - (nI (a / 5)))) (k_suble (a := g / 5) (b := a / 5) (by omega) (by omega)) (fun f => rfl) (fun h4 => ?_) (fun h4 => ?_)
    · refine mr_eq (mr_ret 2 (o := (some (.int 2), (kSn (kr (he, ke, ki, fi, fa, or, mi, a, g, l, w, s))))) (fun f => rfl)) ?_
      first
        | rw [kS9_9 (a := a) (g := g) (by omega)]
        | rw [kS9_0 (a := a) (g := g) (by omega)]
        | rw [kS9_2 (a := a) (g := g) (by omega) (by omega)]
        | rw [kS9_3 (a := a) (g := g) (by omega) (by omega) (by omega)]
        | rw [kS9_1 (a := a) (g := g) (by omega) (by omega) (by omega)]
    · refine mr_eq (mr_ret 3 (o := (some (.int 0), (kSn (kr (he, ke, ki, fi, fa, or, mi, a, g, l, w, s))))) (fun f => rfl)) ?_
      first
        | rw [kS9_9 (a := a) (g := g) (by omega)]
        | rw [kS9_0 (a := a) (g := g) (by omega)]
        | rw [kS9_2 (a := a) (g := g) (by omega) (by omega)]
        | rw [kS9_3 (a := a) (g := g) (by omega) (by omega) (by omega)]
        | rw [kS9_1 (a := a) (g := g) (by omega) (by omega) (by omega)]
theorem kc_sgn2_n (he ke ki fi fa or : List Nat) (mi a g l w s : Nat) (ha : a < 25) (hg : g < 25) (hne : ¬ a = g) : mm_R 46 0 [some (.ref 117), none] [] (kSn (kr (he, ke, ki, fi, fa, or, mi, a, g, l, w, s))) (some (.int (nI (ksgn a g))), kSn (kr (he, ke, ki, fi, fa, or, mi, a, g, l, w, s))) := mr_eq (kc_sgn_n he ke ki fi fa or mi a g l w s ha hg) (by unfold kS9; rw [if_neg hne])
set_option maxRecDepth 100000 in
theorem kc_next_n (he ke ki fi fa or : List Nat) (mi a g l w s : Nat) (hV : kV (he, ke, ki, fi, fa, or, mi, a, g, l, w, s)) (hs : s < 2 ^ 30) : mm_R 45 0 [some (.ref 117)] [] (kSn (kr (he, ke, ki, fi, fa, or, mi, a, g, l, w, s))) (some (.int (kI (knext (he, ke, ki, fi, fa, or, mi, a, g, l, w, s)))), kSn (kr (he, ke, ki, fi, fa, or, mi, a, g, l, w, s))) := by
  obtain ⟨v1, v2, v3, v4, v5, v6, v7, v8, v9, v10, v11, v12, v13, v14, v15, v16⟩ := hV
  have v6l := kO_len mi v7 or v6
  have v6t : ∀ i, i < 5 → kg or i < 5 := kO_lt5 mi v7 or v6
  have v60 := v6t 0 (by omega)
  refine mr_seg 2 (pc1 := 4) (ls1 := [some (.ref 117)]) (st1 := [.int (nI mi)]) (M1 := (kSn (kr (he, ke, ki, fi, fa, or, mi, a, g, l, w, s)))) (fun f => rfl) ?_
  refine mr_ifN (C := (nI mi) = 0) (nI_eqi (a := mi) (b := 0) (by omega)) (fun f => rfl) (fun h1 => ?_) (fun h1 => ?_)
  · refine mr_eq (mr_ret 2 (o := (some (.int (-9)), (kSn (kr (he, ke, ki, fi, fa, or, mi, a, g, l, w, s))))) (fun f => rfl)) ?_
    show _ = (some (Value.int (kI (if mi = 0 then none else if a = g then none else some (kway (kg ki (kg or 0)) a (ksgn a g) l (s + 1))))), _)
    rw [if_pos h1]
    rfl
  · refine mr_seg 4 (pc1 := 15) (ls1 := [some (.ref 117)]) (st1 := [.int (nI g), .int (nI a)]) (M1 := (kSn (kr (he, ke, ki, fi, fa, or, mi, a, g, l, w, s)))) (fun f => rfl) ?_
    refine mr_ifN (C := (nI a) = (nI g)) (nI_eqi (a := a) (b := g) (by omega)) (fun f => rfl) (fun h2 => ?_) (fun h2 => ?_)
    · refine mr_eq (mr_ret 2 (o := (some (.int (-9)), (kSn (kr (he, ke, ki, fi, fa, or, mi, a, g, l, w, s))))) (fun f => rfl)) ?_
      show _ = (some (Value.int (kI (if mi = 0 then none else if a = g then none else some (kway (kg ki (kg or 0)) a (ksgn a g) l (s + 1))))), _)
      rw [if_neg h1, if_pos h2]
      rfl
    · refine mr_seg 7 (pc1 := 34) (ls1 := [some (.ref 117)]) (st1 := [.int 0, .ref 123, .ref 120, .ref 110]) (M1 := (kSn (kr (he, ke, ki, fi, fa, or, mi, a, g, l, w, s)))) (fun f => rfl) ?_
      refine mr_ldk (l0 := or) rfl rfl (k := 0) (by omega) ?_
      refine mr_ldk (l0 := ki) rfl rfl (k := kg or 0) (by omega) ?_
      have w14 := v14 (kg or 0)
      rcases k6 w14 with hk | hk | hk | hk | hk | hk
      · refine mr_v (show nI (kg ki (kg or 0)) = 0 by rw [hk]; rfl) ?_
        refine mr_seg 4 (pc1 := 42) (ls1 := [some (.ref 117)]) (st1 := [.ref 117, .int (nI a), .ref 111]) (M1 := (kSn (kr (he, ke, ki, fi, fa, or, mi, a, g, l, w, s)))) (fun f => rfl) ?_
        refine mr_call (y := 46) (y0 := 45) (L := [some (.ref 117), none]) (rest := [.int (nI a), .ref 111]) (rr := some (.int (nI (ksgn a g)))) (M1 := (kSn (kr (he, ke, ki, fi, fa, or, mi, a, g, l, w, s)))) (fun f => rfl) (kc_sgn2_n he ke ki fi fa or mi a g l w s (by assumption) (by assumption) (by assumption)) ?_
        refine mr_seg 6 (pc1 := 55) (ls1 := [some (.ref 117)]) (st1 := [.int ((nI s) + 1), .int (nI l), .int (nI (ksgn a g)), .int (nI a), .ref 111]) (M1 := (kSn (kr (he, ke, ki, fi, fa, or, mi, a, g, l, w, s)))) (fun f => rfl) ?_
        refine mr_v (nI_add s 1) ?_
        refine mr_call (y := 53) (y0 := 58) (L := [some (.ref 111), some (.int (nI a)), some (.int (nI (ksgn a g))), some (.int (nI l)), some (.int (nI (s + 1)))]) (rest := []) (rr := some (.int (nI (kway 0 a (ksgn a g) l (s + 1))))) (M1 := (kSn (kr (he, ke, ki, fi, fa, or, mi, a, g, l, w, s)))) (fun f => rfl) (kl_rn _ (kc_way0 a (ksgn a g) l (s + 1) (by assumption) (ksgn_lt a g) (by assumption) (by omega))) ?_
        refine mr_eq (mr_ret 1 (o := (some (.int (nI (kway 0 a (ksgn a g) l (s + 1)))), (kSn (kr (he, ke, ki, fi, fa, or, mi, a, g, l, w, s))))) (fun f => rfl)) ?_
        show _ = (some (Value.int (kI (if mi = 0 then none else if a = g then none else some (kway (kg ki (kg or 0)) a (ksgn a g) l (s + 1))))), _)
        rw [if_neg h1, if_neg h2, hk]
        rfl
      · refine mr_v (show nI (kg ki (kg or 0)) = 1 by rw [hk]; rfl) ?_
        refine mr_seg 4 (pc1 := 42) (ls1 := [some (.ref 117)]) (st1 := [.ref 117, .int (nI a), .ref 112]) (M1 := (kSn (kr (he, ke, ki, fi, fa, or, mi, a, g, l, w, s)))) (fun f => rfl) ?_
        refine mr_call (y := 46) (y0 := 45) (L := [some (.ref 117), none]) (rest := [.int (nI a), .ref 112]) (rr := some (.int (nI (ksgn a g)))) (M1 := (kSn (kr (he, ke, ki, fi, fa, or, mi, a, g, l, w, s)))) (fun f => rfl) (kc_sgn2_n he ke ki fi fa or mi a g l w s (by assumption) (by assumption) (by assumption)) ?_
        refine mr_seg 6 (pc1 := 55) (ls1 := [some (.ref 117)]) (st1 := [.int ((nI s) + 1), .int (nI l), .int (nI (ksgn a g)), .int (nI a), .ref 112]) (M1 := (kSn (kr (he, ke, ki, fi, fa, or, mi, a, g, l, w, s)))) (fun f => rfl) ?_
        refine mr_v (nI_add s 1) ?_
        refine mr_call (y := 49) (y0 := 58) (L := [some (.ref 112), some (.int (nI a)), some (.int (nI (ksgn a g))), some (.int (nI l)), some (.int (nI (s + 1)))]) (rest := []) (rr := some (.int (nI (kway 1 a (ksgn a g) l (s + 1))))) (M1 := (kSn (kr (he, ke, ki, fi, fa, or, mi, a, g, l, w, s)))) (fun f => rfl) (kl_rn _ (kc_way1 a (ksgn a g) l (s + 1) (by assumption) (ksgn_lt a g) (by assumption) (by omega))) ?_
        refine mr_eq (mr_ret 1 (o := (some (.int (nI (kway 1 a (ksgn a g) l (s + 1)))), (kSn (kr (he, ke, ki, fi, fa, or, mi, a, g, l, w, s))))) (fun f => rfl)) ?_
        show _ = (some (Value.int (kI (if mi = 0 then none else if a = g then none else some (kway (kg ki (kg or 0)) a (ksgn a g) l (s + 1))))), _)
        rw [if_neg h1, if_neg h2, hk]
        rfl
      · refine mr_v (show nI (kg ki (kg or 0)) = 2 by rw [hk]; rfl) ?_
        refine mr_seg 4 (pc1 := 42) (ls1 := [some (.ref 117)]) (st1 := [.ref 117, .int (nI a), .ref 113]) (M1 := (kSn (kr (he, ke, ki, fi, fa, or, mi, a, g, l, w, s)))) (fun f => rfl) ?_
        refine mr_call (y := 46) (y0 := 45) (L := [some (.ref 117), none]) (rest := [.int (nI a), .ref 113]) (rr := some (.int (nI (ksgn a g)))) (M1 := (kSn (kr (he, ke, ki, fi, fa, or, mi, a, g, l, w, s)))) (fun f => rfl) (kc_sgn2_n he ke ki fi fa or mi a g l w s (by assumption) (by assumption) (by assumption)) ?_
        refine mr_seg 6 (pc1 := 55) (ls1 := [some (.ref 117)]) (st1 := [.int ((nI s) + 1), .int (nI l), .int (nI (ksgn a g)), .int (nI a), .ref 113]) (M1 := (kSn (kr (he, ke, ki, fi, fa, or, mi, a, g, l, w, s)))) (fun f => rfl) ?_
        refine mr_v (nI_add s 1) ?_
        refine mr_call (y := 52) (y0 := 58) (L := [some (.ref 113), some (.int (nI a)), some (.int (nI (ksgn a g))), some (.int (nI l)), some (.int (nI (s + 1)))]) (rest := []) (rr := some (.int (nI (kway 2 a (ksgn a g) l (s + 1))))) (M1 := (kSn (kr (he, ke, ki, fi, fa, or, mi, a, g, l, w, s)))) (fun f => rfl) (kl_rn _ (kc_way2 a (ksgn a g) l (s + 1) (by assumption) (ksgn_lt a g) (by assumption) (by omega))) ?_
        refine mr_eq (mr_ret 1 (o := (some (.int (nI (kway 2 a (ksgn a g) l (s + 1)))), (kSn (kr (he, ke, ki, fi, fa, or, mi, a, g, l, w, s))))) (fun f => rfl)) ?_
        show _ = (some (Value.int (kI (if mi = 0 then none else if a = g then none else some (kway (kg ki (kg or 0)) a (ksgn a g) l (s + 1))))), _)
        rw [if_neg h1, if_neg h2, hk]
        rfl
      · refine mr_v (show nI (kg ki (kg or 0)) = 3 by rw [hk]; rfl) ?_
        refine mr_seg 4 (pc1 := 42) (ls1 := [some (.ref 117)]) (st1 := [.ref 117, .int (nI a), .ref 114]) (M1 := (kSn (kr (he, ke, ki, fi, fa, or, mi, a, g, l, w, s)))) (fun f => rfl) ?_
        refine mr_call (y := 46) (y0 := 45) (L := [some (.ref 117), none]) (rest := [.int (nI a), .ref 114]) (rr := some (.int (nI (ksgn a g)))) (M1 := (kSn (kr (he, ke, ki, fi, fa, or, mi, a, g, l, w, s)))) (fun f => rfl) (kc_sgn2_n he ke ki fi fa or mi a g l w s (by assumption) (by assumption) (by assumption)) ?_
        refine mr_seg 6 (pc1 := 55) (ls1 := [some (.ref 117)]) (st1 := [.int ((nI s) + 1), .int (nI l), .int (nI (ksgn a g)), .int (nI a), .ref 114]) (M1 := (kSn (kr (he, ke, ki, fi, fa, or, mi, a, g, l, w, s)))) (fun f => rfl) ?_
        refine mr_v (nI_add s 1) ?_
        refine mr_call (y := 47) (y0 := 58) (L := [some (.ref 114), some (.int (nI a)), some (.int (nI (ksgn a g))), some (.int (nI l)), some (.int (nI (s + 1)))]) (rest := []) (rr := some (.int (nI (kway 3 a (ksgn a g) l (s + 1))))) (M1 := (kSn (kr (he, ke, ki, fi, fa, or, mi, a, g, l, w, s)))) (fun f => rfl) (kl_rn _ (kc_way3 a (ksgn a g) l (s + 1) (by assumption) (ksgn_lt a g) (by assumption) (by omega))) ?_
        refine mr_eq (mr_ret 1 (o := (some (.int (nI (kway 3 a (ksgn a g) l (s + 1)))), (kSn (kr (he, ke, ki, fi, fa, or, mi, a, g, l, w, s))))) (fun f => rfl)) ?_
        show _ = (some (Value.int (kI (if mi = 0 then none else if a = g then none else some (kway (kg ki (kg or 0)) a (ksgn a g) l (s + 1))))), _)
        rw [if_neg h1, if_neg h2, hk]
        rfl
      · refine mr_v (show nI (kg ki (kg or 0)) = 4 by rw [hk]; rfl) ?_
        refine mr_seg 4 (pc1 := 42) (ls1 := [some (.ref 117)]) (st1 := [.ref 117, .int (nI a), .ref 115]) (M1 := (kSn (kr (he, ke, ki, fi, fa, or, mi, a, g, l, w, s)))) (fun f => rfl) ?_
        refine mr_call (y := 46) (y0 := 45) (L := [some (.ref 117), none]) (rest := [.int (nI a), .ref 115]) (rr := some (.int (nI (ksgn a g)))) (M1 := (kSn (kr (he, ke, ki, fi, fa, or, mi, a, g, l, w, s)))) (fun f => rfl) (kc_sgn2_n he ke ki fi fa or mi a g l w s (by assumption) (by assumption) (by assumption)) ?_
        refine mr_seg 6 (pc1 := 55) (ls1 := [some (.ref 117)]) (st1 := [.int ((nI s) + 1), .int (nI l), .int (nI (ksgn a g)), .int (nI a), .ref 115]) (M1 := (kSn (kr (he, ke, ki, fi, fa, or, mi, a, g, l, w, s)))) (fun f => rfl) ?_
        refine mr_v (nI_add s 1) ?_
        refine mr_call (y := 51) (y0 := 58) (L := [some (.ref 115), some (.int (nI a)), some (.int (nI (ksgn a g))), some (.int (nI l)), some (.int (nI (s + 1)))]) (rest := []) (rr := some (.int (nI (kway 4 a (ksgn a g) l (s + 1))))) (M1 := (kSn (kr (he, ke, ki, fi, fa, or, mi, a, g, l, w, s)))) (fun f => rfl) (kl_rn _ (kc_way4 a (ksgn a g) l (s + 1) (by assumption) (ksgn_lt a g) (by assumption) (by omega))) ?_
        refine mr_eq (mr_ret 1 (o := (some (.int (nI (kway 4 a (ksgn a g) l (s + 1)))), (kSn (kr (he, ke, ki, fi, fa, or, mi, a, g, l, w, s))))) (fun f => rfl)) ?_
        show _ = (some (Value.int (kI (if mi = 0 then none else if a = g then none else some (kway (kg ki (kg or 0)) a (ksgn a g) l (s + 1))))), _)
        rw [if_neg h1, if_neg h2, hk]
        rfl
      · refine mr_v (show nI (kg ki (kg or 0)) = 5 by rw [hk]; rfl) ?_
        refine mr_seg 4 (pc1 := 42) (ls1 := [some (.ref 117)]) (st1 := [.ref 117, .int (nI a), .ref 116]) (M1 := (kSn (kr (he, ke, ki, fi, fa, or, mi, a, g, l, w, s)))) (fun f => rfl) ?_
        refine mr_call (y := 46) (y0 := 45) (L := [some (.ref 117), none]) (rest := [.int (nI a), .ref 116]) (rr := some (.int (nI (ksgn a g)))) (M1 := (kSn (kr (he, ke, ki, fi, fa, or, mi, a, g, l, w, s)))) (fun f => rfl) (kc_sgn2_n he ke ki fi fa or mi a g l w s (by assumption) (by assumption) (by assumption)) ?_
        refine mr_seg 6 (pc1 := 55) (ls1 := [some (.ref 117)]) (st1 := [.int ((nI s) + 1), .int (nI l), .int (nI (ksgn a g)), .int (nI a), .ref 116]) (M1 := (kSn (kr (he, ke, ki, fi, fa, or, mi, a, g, l, w, s)))) (fun f => rfl) ?_
        refine mr_v (nI_add s 1) ?_
        refine mr_call (y := 50) (y0 := 58) (L := [some (.ref 116), some (.int (nI a)), some (.int (nI (ksgn a g))), some (.int (nI l)), some (.int (nI (s + 1))), none, none]) (rest := []) (rr := some (.int (nI (kway 5 a (ksgn a g) l (s + 1))))) (M1 := (kSn (kr (he, ke, ki, fi, fa, or, mi, a, g, l, w, s)))) (fun f => rfl) (kl_rn _ (kc_way5 a (ksgn a g) l (s + 1) (by assumption) (ksgn_lt a g) (by assumption) (by omega))) ?_
        refine mr_eq (mr_ret 1 (o := (some (.int (nI (kway 5 a (ksgn a g) l (s + 1)))), (kSn (kr (he, ke, ki, fi, fa, or, mi, a, g, l, w, s))))) (fun f => rfl)) ?_
        show _ = (some (Value.int (kI (if mi = 0 then none else if a = g then none else some (kway (kg ki (kg or 0)) a (ksgn a g) l (s + 1))))), _)
        rw [if_neg h1, if_neg h2, hk]
        rfl
