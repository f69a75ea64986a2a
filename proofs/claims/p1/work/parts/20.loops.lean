set_option maxRecDepth 100000 in
theorem mc_ab_it (n : Nat) (ns a g la w s w1 w2 u1 u2 u3 u4 u6 t1 b1 b2 b3 b4 b5 v1 v2 v3 v4 v6 sd : Int32) (cl co : List Int32) (i : Int32) (m : Int32) (h : ¬ m ≤ i) : mm_x none (n + 24) 30 2 [some (.ref 124), some (.int m), some (.int i)] [] (mm_MC ns a g la w s w1 w2 u1 u2 u3 u4 u6 t1 b1 b2 b3 b4 b5 v1 v2 v3 v4 v6 sd cl co) 0 0 = mm_x none (n + 16) 30 2 [some (.ref 124), some (.int m), some (.int (i + 1))] [] (mm_MC ns a g la w (s + 1) w1 w2 u1 u2 u3 u4 u6 t1 b1 b2 b3 b4 b5 v1 v2 v3 v4 v6 sd cl co) 0 0 := by
  refine mm_seg (n := n + 22) 2 (z1 := 30) (pc1 := 4) (ls1 := [some (.ref 124), some (.int m), some (.int i)]) (st1 := [.int m, .int i]) (M1 := (mm_MC ns a g la w s w1 w2 u1 u2 u3 u4 u6 t1 b1 b2 b3 b4 b5 v1 v2 v3 v4 v6 sd cl co)) (bc1 := 0) (bs1 := 0) (fun f => rfl) ?_
  refine mm_c_cmp_ge_f rfl (h) ?_
  refine mm_seg (n := n + 19) 2 (z1 := 30) (pc1 := 9) (ls1 := [some (.ref 124), some (.int m), some (.int i)]) (st1 := [.int 0, .ref 124]) (M1 := (mm_MC ns a g la w s w1 w2 u1 u2 u3 u4 u6 t1 b1 b2 b3 b4 b5 v1 v2 v3 v4 v6 sd cl co)) (bc1 := 0) (bs1 := 0) (fun f => rfl) ?_
  refine mm_c_inv (y := 31) (y0 := 12) (bc1 := 0) (bs1 := 0) (bc2 := 0) (bs2 := 0) (L := [some (.ref 124), some (.int 0), none, none, none]) (rest := []) (r := none) (M1 := (mm_MC ns a g la w (s + 1) w1 w2 u1 u2 u3 u4 u6 t1 b1 b2 b3 b4 b5 v1 v2 v3 v4 v6 sd cl co)) (fun f => rfl) (mc_adv (n + 0) ns a g la w s w1 w2 u1 u2 u3 u4 u6 t1 b1 b2 b3 b4 b5 v1 v2 v3 v4 v6 sd cl co 0) ?_
  refine mm_seg (n := n + 16) 2 (z1 := 30) (pc1 := 2) (ls1 := [some (.ref 124), some (.int m), some (.int (i + 1))]) (st1 := []) (M1 := (mm_MC ns a g la w (s + 1) w1 w2 u1 u2 u3 u4 u6 t1 b1 b2 b3 b4 b5 v1 v2 v3 v4 v6 sd cl co)) (bc1 := 0) (bs1 := 0) (fun f => rfl) ?_
  rfl
set_option maxRecDepth 100000 in
theorem mc_ab_ex (n : Nat) (ns a g la w s w1 w2 u1 u2 u3 u4 u6 t1 b1 b2 b3 b4 b5 v1 v2 v3 v4 v6 sd : Int32) (cl co : List Int32) (i : Int32) (m : Int32) (h : m ≤ i) : mm_x none (n + 24) 30 2 [some (.ref 124), some (.int m), some (.int i)] [] (mm_MC ns a g la w s w1 w2 u1 u2 u3 u4 u6 t1 b1 b2 b3 b4 b5 v1 v2 v3 v4 v6 sd cl co) 0 0 = some (none, (mm_MC ns a g la w s w1 w2 u1 u2 u3 u4 u6 t1 b1 b2 b3 b4 b5 v1 v2 v3 v4 v6 sd cl co)) := by
  refine mm_seg (n := n + 22) 2 (z1 := 30) (pc1 := 4) (ls1 := [some (.ref 124), some (.int m), some (.int i)]) (st1 := [.int m, .int i]) (M1 := (mm_MC ns a g la w s w1 w2 u1 u2 u3 u4 u6 t1 b1 b2 b3 b4 b5 v1 v2 v3 v4 v6 sd cl co)) (bc1 := 0) (bs1 := 0) (fun f => rfl) ?_
  refine mm_c_cmp_ge_t rfl (h) ?_
  rfl
theorem mc_ab_all : ∀ (k j n : Nat) (ns a g la w s w1 w2 u1 u2 u3 u4 u6 t1 b1 b2 b3 b4 b5 v1 v2 v3 v4 v6 sd : Int32) (cl co : List Int32), j + k ≤ 60 → mm_x none (n + (8 * k + 24)) 30 2 [some (.ref 124), some (.int (nI (j + k))), some (.int (nI j))] [] (mm_MC ns a g la w s w1 w2 u1 u2 u3 u4 u6 t1 b1 b2 b3 b4 b5 v1 v2 v3 v4 v6 sd cl co) 0 0 = some (none, mm_MC ns a g la w (s + nI k) w1 w2 u1 u2 u3 u4 u6 t1 b1 b2 b3 b4 b5 v1 v2 v3 v4 v6 sd cl co)
  | 0, j, n, ns, a, g, la, w, s, w1, w2, u1, u2, u3, u4, u6, t1, b1, b2, b3, b4, b5, v1, v2, v3, v4, v6, sd, cl, co, hjk => by
    have e0 : s + nI 0 = s := by rw [nI_0, Int32.add_zero]
    rw [e0]
    exact mc_ab_ex n ns a g la w s w1 w2 u1 u2 u3 u4 u6 t1 b1 b2 b3 b4 b5 v1 v2 v3 v4 v6 sd cl co (nI j) (nI (j + 0)) (nI_le (Nat.le_refl j) (by omega))
  | k + 1, j, n, ns, a, g, la, w, s, w1, w2, u1, u2, u3, u4, u6, t1, b1, b2, b3, b4, b5, v1, v2, v3, v4, v6, sd, cl, co, hjk => by
    have e1 : s + nI (k + 1) = (s + 1) + nI k := by rw [nI_succ, Int32.add_assoc, Int32.add_comm 1 (nI k)]
    have e2 : nI j + 1 = nI (j + 1) := nI_1 j
    have it := mc_ab_it (n + (8 * k + 8)) ns a g la w s w1 w2 u1 u2 u3 u4 u6 t1 b1 b2 b3 b4 b5 v1 v2 v3 v4 v6 sd cl co (nI j) (nI (j + (k + 1))) (nI_ge (by omega) (by omega))
    rw [e2] at it
    have f1 : n + (8 * (k + 1) + 24) = n + (8 * k + 8) + 24 := by omega
    have f2 : n + (8 * k + 8) + 16 = n + (8 * k + 24) := by omega
    rw [f1, it, f2, e1]
    rw [show j + (k + 1) = (j + 1) + k by omega]
    exact mc_ab_all k (j + 1) n ns a g la w (s + 1) w1 w2 u1 u2 u3 u4 u6 t1 b1 b2 b3 b4 b5 v1 v2 v3 v4 v6 sd cl co (by omega)
theorem mc_ab (n k : Nat) (hk : k ≤ 60) (ns a g la w s w1 w2 u1 u2 u3 u4 u6 t1 b1 b2 b3 b4 b5 v1 v2 v3 v4 v6 sd : Int32) (cl co : List Int32) : mm_x none (n + (8 * k + 26)) 30 0 [some (.ref 124), some (.int (nI k)), none] [] (mm_MC ns a g la w s w1 w2 u1 u2 u3 u4 u6 t1 b1 b2 b3 b4 b5 v1 v2 v3 v4 v6 sd cl co) 0 0 = some (none, mm_MC ns a g la w (s + nI k) w1 w2 u1 u2 u3 u4 u6 t1 b1 b2 b3 b4 b5 v1 v2 v3 v4 v6 sd cl co) := by
  have f1 : n + (8 * k + 26) = n + (8 * k + 24) + 2 := by omega
  rw [f1]
  refine mm_seg (n := n + (8 * k + 24)) 2 (z1 := 30) (pc1 := 2) (ls1 := [some (.ref 124), some (.int (nI k)), some (.int 0)]) (st1 := []) (M1 := mm_MC ns a g la w s w1 w2 u1 u2 u3 u4 u6 t1 b1 b2 b3 b4 b5 v1 v2 v3 v4 v6 sd cl co) (bc1 := 0) (bs1 := 0) (fun f => rfl) ?_
  have h := mc_ab_all k 0 n ns a g la w s w1 w2 u1 u2 u3 u4 u6 t1 b1 b2 b3 b4 b5 v1 v2 v3 v4 v6 sd cl co (by omega)
  rw [Nat.zero_add] at h
  exact h
set_option maxRecDepth 100000 in
theorem mc_abN_it (n : Nat) (ns a g la w s w1 w2 u1 u2 u3 u4 u6 t1 b1 b2 b3 b4 b5 v1 v2 v3 v4 v6 sd : Int32) (cl co : List Int32) (i : Int32) (m : Int32) (h : ¬ m ≤ i) : mm_x none (n + 24) 30 2 [some (.ref 117), some (.int m), some (.int i)] [] (mm_MC ns a g la w s w1 w2 u1 u2 u3 u4 u6 t1 b1 b2 b3 b4 b5 v1 v2 v3 v4 v6 sd cl co) 0 0 = mm_x none (n + 16) 30 2 [some (.ref 117), some (.int m), some (.int (i + 1))] [] (mm_MC (ns + 1) a g la w s w1 w2 u1 u2 u3 u4 u6 t1 b1 b2 b3 b4 b5 v1 v2 v3 v4 v6 sd cl co) 0 0 := by
  refine mm_seg (n := n + 22) 2 (z1 := 30) (pc1 := 4) (ls1 := [some (.ref 117), some (.int m), some (.int i)]) (st1 := [.int m, .int i]) (M1 := (mm_MC ns a g la w s w1 w2 u1 u2 u3 u4 u6 t1 b1 b2 b3 b4 b5 v1 v2 v3 v4 v6 sd cl co)) (bc1 := 0) (bs1 := 0) (fun f => rfl) ?_
  refine mm_c_cmp_ge_f rfl (h) ?_
  refine mm_seg (n := n + 19) 2 (z1 := 30) (pc1 := 9) (ls1 := [some (.ref 117), some (.int m), some (.int i)]) (st1 := [.int 0, .ref 117]) (M1 := (mm_MC ns a g la w s w1 w2 u1 u2 u3 u4 u6 t1 b1 b2 b3 b4 b5 v1 v2 v3 v4 v6 sd cl co)) (bc1 := 0) (bs1 := 0) (fun f => rfl) ?_
  refine mm_c_inv (y := 31) (y0 := 12) (bc1 := 0) (bs1 := 0) (bc2 := 0) (bs2 := 0) (L := [some (.ref 117), some (.int 0), none, none, none]) (rest := []) (r := none) (M1 := (mm_MC (ns + 1) a g la w s w1 w2 u1 u2 u3 u4 u6 t1 b1 b2 b3 b4 b5 v1 v2 v3 v4 v6 sd cl co)) (fun f => rfl) (mc_advN (n + 0) ns a g la w s w1 w2 u1 u2 u3 u4 u6 t1 b1 b2 b3 b4 b5 v1 v2 v3 v4 v6 sd cl co 0) ?_
  refine mm_seg (n := n + 16) 2 (z1 := 30) (pc1 := 2) (ls1 := [some (.ref 117), some (.int m), some (.int (i + 1))]) (st1 := []) (M1 := (mm_MC (ns + 1) a g la w s w1 w2 u1 u2 u3 u4 u6 t1 b1 b2 b3 b4 b5 v1 v2 v3 v4 v6 sd cl co)) (bc1 := 0) (bs1 := 0) (fun f => rfl) ?_
  rfl
set_option maxRecDepth 100000 in
theorem mc_abN_ex (n : Nat) (ns a g la w s w1 w2 u1 u2 u3 u4 u6 t1 b1 b2 b3 b4 b5 v1 v2 v3 v4 v6 sd : Int32) (cl co : List Int32) (i : Int32) (m : Int32) (h : m ≤ i) : mm_x none (n + 24) 30 2 [some (.ref 117), some (.int m), some (.int i)] [] (mm_MC ns a g la w s w1 w2 u1 u2 u3 u4 u6 t1 b1 b2 b3 b4 b5 v1 v2 v3 v4 v6 sd cl co) 0 0 = some (none, (mm_MC ns a g la w s w1 w2 u1 u2 u3 u4 u6 t1 b1 b2 b3 b4 b5 v1 v2 v3 v4 v6 sd cl co)) := by
  refine mm_seg (n := n + 22) 2 (z1 := 30) (pc1 := 4) (ls1 := [some (.ref 117), some (.int m), some (.int i)]) (st1 := [.int m, .int i]) (M1 := (mm_MC ns a g la w s w1 w2 u1 u2 u3 u4 u6 t1 b1 b2 b3 b4 b5 v1 v2 v3 v4 v6 sd cl co)) (bc1 := 0) (bs1 := 0) (fun f => rfl) ?_
  refine mm_c_cmp_ge_t rfl (h) ?_
  rfl
theorem mc_abN_all : ∀ (k j n : Nat) (ns a g la w s w1 w2 u1 u2 u3 u4 u6 t1 b1 b2 b3 b4 b5 v1 v2 v3 v4 v6 sd : Int32) (cl co : List Int32), j + k ≤ 60 → mm_x none (n + (8 * k + 24)) 30 2 [some (.ref 117), some (.int (nI (j + k))), some (.int (nI j))] [] (mm_MC ns a g la w s w1 w2 u1 u2 u3 u4 u6 t1 b1 b2 b3 b4 b5 v1 v2 v3 v4 v6 sd cl co) 0 0 = some (none, mm_MC (ns + nI k) a g la w s w1 w2 u1 u2 u3 u4 u6 t1 b1 b2 b3 b4 b5 v1 v2 v3 v4 v6 sd cl co)
  | 0, j, n, ns, a, g, la, w, s, w1, w2, u1, u2, u3, u4, u6, t1, b1, b2, b3, b4, b5, v1, v2, v3, v4, v6, sd, cl, co, hjk => by
    have e0 : ns + nI 0 = ns := by rw [nI_0, Int32.add_zero]
    rw [e0]
    exact mc_abN_ex n ns a g la w s w1 w2 u1 u2 u3 u4 u6 t1 b1 b2 b3 b4 b5 v1 v2 v3 v4 v6 sd cl co (nI j) (nI (j + 0)) (nI_le (Nat.le_refl j) (by omega))
  | k + 1, j, n, ns, a, g, la, w, s, w1, w2, u1, u2, u3, u4, u6, t1, b1, b2, b3, b4, b5, v1, v2, v3, v4, v6, sd, cl, co, hjk => by
    have e1 : ns + nI (k + 1) = (ns + 1) + nI k := by rw [nI_succ, Int32.add_assoc, Int32.add_comm 1 (nI k)]
    have e2 : nI j + 1 = nI (j + 1) := nI_1 j
    have it := mc_abN_it (n + (8 * k + 8)) ns a g la w s w1 w2 u1 u2 u3 u4 u6 t1 b1 b2 b3 b4 b5 v1 v2 v3 v4 v6 sd cl co (nI j) (nI (j + (k + 1))) (nI_ge (by omega) (by omega))
    rw [e2] at it
    have f1 : n + (8 * (k + 1) + 24) = n + (8 * k + 8) + 24 := by omega
    have f2 : n + (8 * k + 8) + 16 = n + (8 * k + 24) := by omega
    rw [f1, it, f2, e1]
    rw [show j + (k + 1) = (j + 1) + k by omega]
    exact mc_abN_all k (j + 1) n (ns + 1) a g la w s w1 w2 u1 u2 u3 u4 u6 t1 b1 b2 b3 b4 b5 v1 v2 v3 v4 v6 sd cl co (by omega)
theorem mc_abN (n k : Nat) (hk : k ≤ 60) (ns a g la w s w1 w2 u1 u2 u3 u4 u6 t1 b1 b2 b3 b4 b5 v1 v2 v3 v4 v6 sd : Int32) (cl co : List Int32) : mm_x none (n + (8 * k + 26)) 30 0 [some (.ref 117), some (.int (nI k)), none] [] (mm_MC ns a g la w s w1 w2 u1 u2 u3 u4 u6 t1 b1 b2 b3 b4 b5 v1 v2 v3 v4 v6 sd cl co) 0 0 = some (none, mm_MC (ns + nI k) a g la w s w1 w2 u1 u2 u3 u4 u6 t1 b1 b2 b3 b4 b5 v1 v2 v3 v4 v6 sd cl co) := by
  have f1 : n + (8 * k + 26) = n + (8 * k + 24) + 2 := by omega
  rw [f1]
  refine mm_seg (n := n + (8 * k + 24)) 2 (z1 := 30) (pc1 := 2) (ls1 := [some (.ref 117), some (.int (nI k)), some (.int 0)]) (st1 := []) (M1 := mm_MC ns a g la w s w1 w2 u1 u2 u3 u4 u6 t1 b1 b2 b3 b4 b5 v1 v2 v3 v4 v6 sd cl co) (bc1 := 0) (bs1 := 0) (fun f => rfl) ?_
  have h := mc_abN_all k 0 n ns a g la w s w1 w2 u1 u2 u3 u4 u6 t1 b1 b2 b3 b4 b5 v1 v2 v3 v4 v6 sd cl co (by omega)
  rw [Nat.zero_add] at h
  exact h
set_option maxRecDepth 100000 in
theorem mm_so_it (n : Nat) (ns a g la w s w1 w2 u1 u2 u3 u4 u6 t1 b1 b2 b3 b4 b5 v1 v2 v3 v4 v6 sd : Int32) (cl co : List Int32) (i : Int32) (m : Int32) (h : ¬ m ≤ i) : mm_x none (n + 18) 132 2 [some (.ref 140), some (.int m), some (.int i)] [] (mm_MC ns a g la w s w1 w2 u1 u2 u3 u4 u6 t1 b1 b2 b3 b4 b5 v1 v2 v3 v4 v6 sd cl co) 0 0 = mm_x none (n + 10) 132 2 [some (.ref 140), some (.int m), some (.int (i + 1))] [] (mm_MC ns a g la w s w1 w2 u1 u2 u3 u4 u6 t1 (b1 + 1) b2 b3 b4 b5 v1 v2 v3 v4 v6 sd cl co) 0 0 := by
  refine mm_seg (n := n + 16) 2 (z1 := 132) (pc1 := 4) (ls1 := [some (.ref 140), some (.int m), some (.int i)]) (st1 := [.int m, .int i]) (M1 := (mm_MC ns a g la w s w1 w2 u1 u2 u3 u4 u6 t1 b1 b2 b3 b4 b5 v1 v2 v3 v4 v6 sd cl co)) (bc1 := 0) (bs1 := 0) (fun f => rfl) ?_
  refine mm_c_cmp_ge_f rfl (h) ?_
  refine mm_seg (n := n + 13) 2 (z1 := 132) (pc1 := 9) (ls1 := [some (.ref 140), some (.int m), some (.int i)]) (st1 := [.int 0, .ref 140]) (M1 := (mm_MC ns a g la w s w1 w2 u1 u2 u3 u4 u6 t1 b1 b2 b3 b4 b5 v1 v2 v3 v4 v6 sd cl co)) (bc1 := 0) (bs1 := 0) (fun f => rfl) ?_
  refine mm_c_inv (y := 133) (y0 := 12) (bc1 := 0) (bs1 := 0) (bc2 := 0) (bs2 := 0) (L := [some (.ref 140), some (.int 0), none, none, none]) (rest := []) (r := none) (M1 := (mm_MC ns a g la w s w1 w2 u1 u2 u3 u4 u6 t1 (b1 + 1) b2 b3 b4 b5 v1 v2 v3 v4 v6 sd cl co)) (fun f => rfl) (mm_step140 (n + 0) ns a g la w s w1 w2 u1 u2 u3 u4 u6 t1 b1 b2 b3 b4 b5 v1 v2 v3 v4 v6 sd cl co 0) ?_
  refine mm_seg (n := n + 10) 2 (z1 := 132) (pc1 := 2) (ls1 := [some (.ref 140), some (.int m), some (.int (i + 1))]) (st1 := []) (M1 := (mm_MC ns a g la w s w1 w2 u1 u2 u3 u4 u6 t1 (b1 + 1) b2 b3 b4 b5 v1 v2 v3 v4 v6 sd cl co)) (bc1 := 0) (bs1 := 0) (fun f => rfl) ?_
  rfl
set_option maxRecDepth 100000 in
theorem mm_so_ex (n : Nat) (ns a g la w s w1 w2 u1 u2 u3 u4 u6 t1 b1 b2 b3 b4 b5 v1 v2 v3 v4 v6 sd : Int32) (cl co : List Int32) (i : Int32) (m : Int32) (h : m ≤ i) : mm_x none (n + 18) 132 2 [some (.ref 140), some (.int m), some (.int i)] [] (mm_MC ns a g la w s w1 w2 u1 u2 u3 u4 u6 t1 b1 b2 b3 b4 b5 v1 v2 v3 v4 v6 sd cl co) 0 0 = some (none, (mm_MC ns a g la w s w1 w2 u1 u2 u3 u4 u6 t1 b1 b2 b3 b4 b5 v1 v2 v3 v4 v6 sd cl co)) := by
  refine mm_seg (n := n + 16) 2 (z1 := 132) (pc1 := 4) (ls1 := [some (.ref 140), some (.int m), some (.int i)]) (st1 := [.int m, .int i]) (M1 := (mm_MC ns a g la w s w1 w2 u1 u2 u3 u4 u6 t1 b1 b2 b3 b4 b5 v1 v2 v3 v4 v6 sd cl co)) (bc1 := 0) (bs1 := 0) (fun f => rfl) ?_
  refine mm_c_cmp_ge_t rfl (h) ?_
  rfl
theorem mm_so_all : ∀ (k j n : Nat) (ns a g la w s w1 w2 u1 u2 u3 u4 u6 t1 b1 b2 b3 b4 b5 v1 v2 v3 v4 v6 sd : Int32) (cl co : List Int32), j + k ≤ 60 → mm_x none (n + (8 * k + 18)) 132 2 [some (.ref 140), some (.int (nI (j + k))), some (.int (nI j))] [] (mm_MC ns a g la w s w1 w2 u1 u2 u3 u4 u6 t1 b1 b2 b3 b4 b5 v1 v2 v3 v4 v6 sd cl co) 0 0 = some (none, mm_MC ns a g la w s w1 w2 u1 u2 u3 u4 u6 t1 (b1 + nI k) b2 b3 b4 b5 v1 v2 v3 v4 v6 sd cl co)
  | 0, j, n, ns, a, g, la, w, s, w1, w2, u1, u2, u3, u4, u6, t1, b1, b2, b3, b4, b5, v1, v2, v3, v4, v6, sd, cl, co, hjk => by
    have e0 : b1 + nI 0 = b1 := by rw [nI_0, Int32.add_zero]
    rw [e0]
    exact mm_so_ex n ns a g la w s w1 w2 u1 u2 u3 u4 u6 t1 b1 b2 b3 b4 b5 v1 v2 v3 v4 v6 sd cl co (nI j) (nI (j + 0)) (nI_le (Nat.le_refl j) (by omega))
  | k + 1, j, n, ns, a, g, la, w, s, w1, w2, u1, u2, u3, u4, u6, t1, b1, b2, b3, b4, b5, v1, v2, v3, v4, v6, sd, cl, co, hjk => by
    have e1 : b1 + nI (k + 1) = (b1 + 1) + nI k := by rw [nI_succ, Int32.add_assoc, Int32.add_comm 1 (nI k)]
    have e2 : nI j + 1 = nI (j + 1) := nI_1 j
    have it := mm_so_it (n + (8 * k + 8)) ns a g la w s w1 w2 u1 u2 u3 u4 u6 t1 b1 b2 b3 b4 b5 v1 v2 v3 v4 v6 sd cl co (nI j) (nI (j + (k + 1))) (nI_ge (by omega) (by omega))
    rw [e2] at it
    have f1 : n + (8 * (k + 1) + 18) = n + (8 * k + 8) + 18 := by omega
    have f2 : n + (8 * k + 8) + 10 = n + (8 * k + 18) := by omega
    rw [f1, it, f2, e1]
    rw [show j + (k + 1) = (j + 1) + k by omega]
    exact mm_so_all k (j + 1) n ns a g la w s w1 w2 u1 u2 u3 u4 u6 t1 (b1 + 1) b2 b3 b4 b5 v1 v2 v3 v4 v6 sd cl co (by omega)
theorem mm_so (n k : Nat) (hk : k ≤ 60) (ns a g la w s w1 w2 u1 u2 u3 u4 u6 t1 b1 b2 b3 b4 b5 v1 v2 v3 v4 v6 sd : Int32) (cl co : List Int32) : mm_x none (n + (8 * k + 20)) 132 0 [some (.ref 140), some (.int (nI k)), none] [] (mm_MC ns a g la w s w1 w2 u1 u2 u3 u4 u6 t1 b1 b2 b3 b4 b5 v1 v2 v3 v4 v6 sd cl co) 0 0 = some (none, mm_MC ns a g la w s w1 w2 u1 u2 u3 u4 u6 t1 (b1 + nI k) b2 b3 b4 b5 v1 v2 v3 v4 v6 sd cl co) := by
  have f1 : n + (8 * k + 20) = n + (8 * k + 18) + 2 := by omega
  rw [f1]
  refine mm_seg (n := n + (8 * k + 18)) 2 (z1 := 132) (pc1 := 2) (ls1 := [some (.ref 140), some (.int (nI k)), some (.int 0)]) (st1 := []) (M1 := mm_MC ns a g la w s w1 w2 u1 u2 u3 u4 u6 t1 b1 b2 b3 b4 b5 v1 v2 v3 v4 v6 sd cl co) (bc1 := 0) (bs1 := 0) (fun f => rfl) ?_
  have h := mm_so_all k 0 n ns a g la w s w1 w2 u1 u2 u3 u4 u6 t1 b1 b2 b3 b4 b5 v1 v2 v3 v4 v6 sd cl co (by omega)
  rw [Nat.zero_add] at h
  exact h
set_option maxRecDepth 100000 in
theorem mm_soN_it (n : Nat) (ns a g la w s w1 w2 u1 u2 u3 u4 u6 t1 b1 b2 b3 b4 b5 v1 v2 v3 v4 v6 sd : Int32) (cl co : List Int32) (i : Int32) (m : Int32) (h : ¬ m ≤ i) : mm_x none (n + 18) 132 2 [some (.ref 139), some (.int m), some (.int i)] [] (mm_MC ns a g la w s w1 w2 u1 u2 u3 u4 u6 t1 b1 b2 b3 b4 b5 v1 v2 v3 v4 v6 sd cl co) 0 0 = mm_x none (n + 10) 132 2 [some (.ref 139), some (.int m), some (.int (i + 1))] [] (mm_MC ns a g la w s w1 w2 u1 u2 u3 u4 u6 (t1 + 1) b1 b2 b3 b4 b5 v1 v2 v3 v4 v6 sd cl co) 0 0 := by
  refine mm_seg (n := n + 16) 2 (z1 := 132) (pc1 := 4) (ls1 := [some (.ref 139), some (.int m), some (.int i)]) (st1 := [.int m, .int i]) (M1 := (mm_MC ns a g la w s w1 w2 u1 u2 u3 u4 u6 t1 b1 b2 b3 b4 b5 v1 v2 v3 v4 v6 sd cl co)) (bc1 := 0) (bs1 := 0) (fun f => rfl) ?_
  refine mm_c_cmp_ge_f rfl (h) ?_
  refine mm_seg (n := n + 13) 2 (z1 := 132) (pc1 := 9) (ls1 := [some (.ref 139), some (.int m), some (.int i)]) (st1 := [.int 0, .ref 139]) (M1 := (mm_MC ns a g la w s w1 w2 u1 u2 u3 u4 u6 t1 b1 b2 b3 b4 b5 v1 v2 v3 v4 v6 sd cl co)) (bc1 := 0) (bs1 := 0) (fun f => rfl) ?_
  refine mm_c_inv (y := 133) (y0 := 12) (bc1 := 0) (bs1 := 0) (bc2 := 0) (bs2 := 0) (L := [some (.ref 139), some (.int 0), none, none, none]) (rest := []) (r := none) (M1 := (mm_MC ns a g la w s w1 w2 u1 u2 u3 u4 u6 (t1 + 1) b1 b2 b3 b4 b5 v1 v2 v3 v4 v6 sd cl co)) (fun f => rfl) (mm_step139 (n + 0) ns a g la w s w1 w2 u1 u2 u3 u4 u6 t1 b1 b2 b3 b4 b5 v1 v2 v3 v4 v6 sd cl co 0) ?_
  refine mm_seg (n := n + 10) 2 (z1 := 132) (pc1 := 2) (ls1 := [some (.ref 139), some (.int m), some (.int (i + 1))]) (st1 := []) (M1 := (mm_MC ns a g la w s w1 w2 u1 u2 u3 u4 u6 (t1 + 1) b1 b2 b3 b4 b5 v1 v2 v3 v4 v6 sd cl co)) (bc1 := 0) (bs1 := 0) (fun f => rfl) ?_
  rfl
set_option maxRecDepth 100000 in
theorem mm_soN_ex (n : Nat) (ns a g la w s w1 w2 u1 u2 u3 u4 u6 t1 b1 b2 b3 b4 b5 v1 v2 v3 v4 v6 sd : Int32) (cl co : List Int32) (i : Int32) (m : Int32) (h : m ≤ i) : mm_x none (n + 18) 132 2 [some (.ref 139), some (.int m), some (.int i)] [] (mm_MC ns a g la w s w1 w2 u1 u2 u3 u4 u6 t1 b1 b2 b3 b4 b5 v1 v2 v3 v4 v6 sd cl co) 0 0 = some (none, (mm_MC ns a g la w s w1 w2 u1 u2 u3 u4 u6 t1 b1 b2 b3 b4 b5 v1 v2 v3 v4 v6 sd cl co)) := by
  refine mm_seg (n := n + 16) 2 (z1 := 132) (pc1 := 4) (ls1 := [some (.ref 139), some (.int m), some (.int i)]) (st1 := [.int m, .int i]) (M1 := (mm_MC ns a g la w s w1 w2 u1 u2 u3 u4 u6 t1 b1 b2 b3 b4 b5 v1 v2 v3 v4 v6 sd cl co)) (bc1 := 0) (bs1 := 0) (fun f => rfl) ?_
  refine mm_c_cmp_ge_t rfl (h) ?_
  rfl
theorem mm_soN_all : ∀ (k j n : Nat) (ns a g la w s w1 w2 u1 u2 u3 u4 u6 t1 b1 b2 b3 b4 b5 v1 v2 v3 v4 v6 sd : Int32) (cl co : List Int32), j + k ≤ 60 → mm_x none (n + (8 * k + 18)) 132 2 [some (.ref 139), some (.int (nI (j + k))), some (.int (nI j))] [] (mm_MC ns a g la w s w1 w2 u1 u2 u3 u4 u6 t1 b1 b2 b3 b4 b5 v1 v2 v3 v4 v6 sd cl co) 0 0 = some (none, mm_MC ns a g la w s w1 w2 u1 u2 u3 u4 u6 (t1 + nI k) b1 b2 b3 b4 b5 v1 v2 v3 v4 v6 sd cl co)
  | 0, j, n, ns, a, g, la, w, s, w1, w2, u1, u2, u3, u4, u6, t1, b1, b2, b3, b4, b5, v1, v2, v3, v4, v6, sd, cl, co, hjk => by
    have e0 : t1 + nI 0 = t1 := by rw [nI_0, Int32.add_zero]
    rw [e0]
    exact mm_soN_ex n ns a g la w s w1 w2 u1 u2 u3 u4 u6 t1 b1 b2 b3 b4 b5 v1 v2 v3 v4 v6 sd cl co (nI j) (nI (j + 0)) (nI_le (Nat.le_refl j) (by omega))
  | k + 1, j, n, ns, a, g, la, w, s, w1, w2, u1, u2, u3, u4, u6, t1, b1, b2, b3, b4, b5, v1, v2, v3, v4, v6, sd, cl, co, hjk => by
    have e1 : t1 + nI (k + 1) = (t1 + 1) + nI k := by rw [nI_succ, Int32.add_assoc, Int32.add_comm 1 (nI k)]
    have e2 : nI j + 1 = nI (j + 1) := nI_1 j
    have it := mm_soN_it (n + (8 * k + 8)) ns a g la w s w1 w2 u1 u2 u3 u4 u6 t1 b1 b2 b3 b4 b5 v1 v2 v3 v4 v6 sd cl co (nI j) (nI (j + (k + 1))) (nI_ge (by omega) (by omega))
    rw [e2] at it
    have f1 : n + (8 * (k + 1) + 18) = n + (8 * k + 8) + 18 := by omega
    have f2 : n + (8 * k + 8) + 10 = n + (8 * k + 18) := by omega
    rw [f1, it, f2, e1]
    rw [show j + (k + 1) = (j + 1) + k by omega]
    exact mm_soN_all k (j + 1) n ns a g la w s w1 w2 u1 u2 u3 u4 u6 (t1 + 1) b1 b2 b3 b4 b5 v1 v2 v3 v4 v6 sd cl co (by omega)
theorem mm_soN (n k : Nat) (hk : k ≤ 60) (ns a g la w s w1 w2 u1 u2 u3 u4 u6 t1 b1 b2 b3 b4 b5 v1 v2 v3 v4 v6 sd : Int32) (cl co : List Int32) : mm_x none (n + (8 * k + 20)) 132 0 [some (.ref 139), some (.int (nI k)), none] [] (mm_MC ns a g la w s w1 w2 u1 u2 u3 u4 u6 t1 b1 b2 b3 b4 b5 v1 v2 v3 v4 v6 sd cl co) 0 0 = some (none, mm_MC ns a g la w s w1 w2 u1 u2 u3 u4 u6 (t1 + nI k) b1 b2 b3 b4 b5 v1 v2 v3 v4 v6 sd cl co) := by
  have f1 : n + (8 * k + 20) = n + (8 * k + 18) + 2 := by omega
  rw [f1]
  refine mm_seg (n := n + (8 * k + 18)) 2 (z1 := 132) (pc1 := 2) (ls1 := [some (.ref 139), some (.int (nI k)), some (.int 0)]) (st1 := []) (M1 := mm_MC ns a g la w s w1 w2 u1 u2 u3 u4 u6 t1 b1 b2 b3 b4 b5 v1 v2 v3 v4 v6 sd cl co) (bc1 := 0) (bs1 := 0) (fun f => rfl) ?_
  have h := mm_soN_all k 0 n ns a g la w s w1 w2 u1 u2 u3 u4 u6 t1 b1 b2 b3 b4 b5 v1 v2 v3 v4 v6 sd cl co (by omega)
  rw [Nat.zero_add] at h
  exact h
set_option maxRecDepth 100000 in
theorem mc_wa_it (n : Nat) (ns a g la w s w1 w2 u1 u2 u3 u4 u6 t1 b1 b2 b3 b4 b5 v1 v2 v3 v4 v6 sd : Int32) (cl co : List Int32) (i : Int32) (c : Int32) (h : ¬ 60 ≤ i) (hc : ¬ a = c) : mm_x none (n + 28) 67 2 [some (.ref 124), some (.int c), some (.int i)] [] (mm_MC ns a g la w s w1 w2 u1 u2 u3 u4 u6 t1 b1 b2 b3 b4 b5 v1 v2 v3 v4 v6 sd cl co) 0 0 = mm_x none (n + 16) 67 2 [some (.ref 124), some (.int c), some (.int (i + 1))] [] (mm_MC ns a g la w (s + 1) w1 w2 u1 u2 u3 u4 u6 t1 b1 b2 b3 b4 b5 v1 v2 v3 v4 v6 sd cl co) 0 0 := by
  refine mm_seg (n := n + 26) 2 (z1 := 67) (pc1 := 5) (ls1 := [some (.ref 124), some (.int c), some (.int i)]) (st1 := [.int 60, .int i]) (M1 := (mm_MC ns a g la w s w1 w2 u1 u2 u3 u4 u6 t1 b1 b2 b3 b4 b5 v1 v2 v3 v4 v6 sd cl co)) (bc1 := 0) (bs1 := 0) (fun f => rfl) ?_
  refine mm_c_cmp_ge_f rfl (h) ?_
  refine mm_seg (n := n + 22) 3 (z1 := 67) (pc1 := 13) (ls1 := [some (.ref 124), some (.int c), some (.int i)]) (st1 := [.int c, .int a]) (M1 := (mm_MC ns a g la w s w1 w2 u1 u2 u3 u4 u6 t1 b1 b2 b3 b4 b5 v1 v2 v3 v4 v6 sd cl co)) (bc1 := 0) (bs1 := 0) (fun f => rfl) ?_
  refine mm_c_cmp_ne_f rfl (hc) ?_
  refine mm_seg (n := n + 19) 2 (z1 := 67) (pc1 := 20) (ls1 := [some (.ref 124), some (.int c), some (.int i)]) (st1 := [.int 0, .ref 124]) (M1 := (mm_MC ns a g la w s w1 w2 u1 u2 u3 u4 u6 t1 b1 b2 b3 b4 b5 v1 v2 v3 v4 v6 sd cl co)) (bc1 := 0) (bs1 := 0) (fun f => rfl) ?_
  refine mm_c_inv (y := 31) (y0 := 23) (bc1 := 0) (bs1 := 0) (bc2 := 0) (bs2 := 0) (L := [some (.ref 124), some (.int 0), none, none, none]) (rest := []) (r := none) (M1 := (mm_MC ns a g la w (s + 1) w1 w2 u1 u2 u3 u4 u6 t1 b1 b2 b3 b4 b5 v1 v2 v3 v4 v6 sd cl co)) (fun f => rfl) (mc_adv (n + 0) ns a g la w s w1 w2 u1 u2 u3 u4 u6 t1 b1 b2 b3 b4 b5 v1 v2 v3 v4 v6 sd cl co 0) ?_
  refine mm_seg (n := n + 16) 2 (z1 := 67) (pc1 := 2) (ls1 := [some (.ref 124), some (.int c), some (.int (i + 1))]) (st1 := []) (M1 := (mm_MC ns a g la w (s + 1) w1 w2 u1 u2 u3 u4 u6 t1 b1 b2 b3 b4 b5 v1 v2 v3 v4 v6 sd cl co)) (bc1 := 0) (bs1 := 0) (fun f => rfl) ?_
  rfl
set_option maxRecDepth 100000 in
theorem mc_wa_ex (n : Nat) (ns a g la w s w1 w2 u1 u2 u3 u4 u6 t1 b1 b2 b3 b4 b5 v1 v2 v3 v4 v6 sd : Int32) (cl co : List Int32) (i : Int32) (c : Int32) (h : 60 ≤ i) (hc : ¬ a = c) : mm_x none (n + 28) 67 2 [some (.ref 124), some (.int c), some (.int i)] [] (mm_MC ns a g la w s w1 w2 u1 u2 u3 u4 u6 t1 b1 b2 b3 b4 b5 v1 v2 v3 v4 v6 sd cl co) 0 0 = some (some (.int 1000000), (mm_MC ns a g la w s w1 w2 u1 u2 u3 u4 u6 t1 b1 b2 b3 b4 b5 v1 v2 v3 v4 v6 sd cl co)) := by
  refine mm_seg (n := n + 26) 2 (z1 := 67) (pc1 := 5) (ls1 := [some (.ref 124), some (.int c), some (.int i)]) (st1 := [.int 60, .int i]) (M1 := (mm_MC ns a g la w s w1 w2 u1 u2 u3 u4 u6 t1 b1 b2 b3 b4 b5 v1 v2 v3 v4 v6 sd cl co)) (bc1 := 0) (bs1 := 0) (fun f => rfl) ?_
  refine mm_c_cmp_ge_t rfl (h) ?_
  refine mm_seg (n := n + 22) 3 (z1 := 67) (pc1 := 34) (ls1 := [some (.ref 124), some (.int c), some (.int i)]) (st1 := [.int c, .int a]) (M1 := (mm_MC ns a g la w s w1 w2 u1 u2 u3 u4 u6 t1 b1 b2 b3 b4 b5 v1 v2 v3 v4 v6 sd cl co)) (bc1 := 0) (bs1 := 0) (fun f => rfl) ?_
  refine mm_c_cmp_ne_f rfl (hc) ?_
  rfl
theorem mc_wa_all : ∀ (k j n : Nat) (ns a g la w s w1 w2 u1 u2 u3 u4 u6 t1 b1 b2 b3 b4 b5 v1 v2 v3 v4 v6 sd : Int32) (cl co : List Int32) (c : Int32) (hc : ¬ a = c), j + k = 60 → mm_x none (n + (12 * k + 28)) 67 2 [some (.ref 124), some (.int c), some (.int (nI j))] [] (mm_MC ns a g la w s w1 w2 u1 u2 u3 u4 u6 t1 b1 b2 b3 b4 b5 v1 v2 v3 v4 v6 sd cl co) 0 0 = some (some (.int 1000000), mm_MC ns a g la w (s + nI k) w1 w2 u1 u2 u3 u4 u6 t1 b1 b2 b3 b4 b5 v1 v2 v3 v4 v6 sd cl co)
  | 0, j, n, ns, a, g, la, w, s, w1, w2, u1, u2, u3, u4, u6, t1, b1, b2, b3, b4, b5, v1, v2, v3, v4, v6, sd, cl, co, c, hc, hjk => by
    have e0 : s + nI 0 = s := by rw [nI_0, Int32.add_zero]
    rw [e0]
    exact mc_wa_ex n ns a g la w s w1 w2 u1 u2 u3 u4 u6 t1 b1 b2 b3 b4 b5 v1 v2 v3 v4 v6 sd cl co (nI j) c (show nI 60 ≤ nI j from nI_le (by omega) (by omega)) hc
  | k + 1, j, n, ns, a, g, la, w, s, w1, w2, u1, u2, u3, u4, u6, t1, b1, b2, b3, b4, b5, v1, v2, v3, v4, v6, sd, cl, co, c, hc, hjk => by
    have e1 : s + nI (k + 1) = (s + 1) + nI k := by rw [nI_succ, Int32.add_assoc, Int32.add_comm 1 (nI k)]
    have e2 : nI j + 1 = nI (j + 1) := nI_1 j
    have it := mc_wa_it (n + (12 * k + 12)) ns a g la w s w1 w2 u1 u2 u3 u4 u6 t1 b1 b2 b3 b4 b5 v1 v2 v3 v4 v6 sd cl co (nI j) c (show ¬ nI 60 ≤ nI j from nI_ge (by omega) (by omega)) hc
    rw [e2] at it
    have f1 : n + (12 * (k + 1) + 28) = n + (12 * k + 12) + 28 := by omega
    have f2 : n + (12 * k + 12) + 16 = n + (12 * k + 28) := by omega
    rw [f1, it, f2, e1]
    exact mc_wa_all k (j + 1) n ns a g la w (s + 1) w1 w2 u1 u2 u3 u4 u6 t1 b1 b2 b3 b4 b5 v1 v2 v3 v4 v6 sd cl co c hc (by omega)
theorem mc_wa (n : Nat) (ns a g la w s w1 w2 u1 u2 u3 u4 u6 t1 b1 b2 b3 b4 b5 v1 v2 v3 v4 v6 sd : Int32) (cl co : List Int32) (c : Int32) (hc : ¬ a = c) : mm_x none (n + 750) 67 0 [some (.ref 124), some (.int c), none] [] (mm_MC ns a g la w s w1 w2 u1 u2 u3 u4 u6 t1 b1 b2 b3 b4 b5 v1 v2 v3 v4 v6 sd cl co) 0 0 = some (some (.int 1000000), mm_MC ns a g la w (s + nI 60) w1 w2 u1 u2 u3 u4 u6 t1 b1 b2 b3 b4 b5 v1 v2 v3 v4 v6 sd cl co) := by
  refine mm_seg (n := n + 748) 2 (z1 := 67) (pc1 := 2) (ls1 := [some (.ref 124), some (.int c), some (.int 0)]) (st1 := []) (M1 := mm_MC ns a g la w s w1 w2 u1 u2 u3 u4 u6 t1 b1 b2 b3 b4 b5 v1 v2 v3 v4 v6 sd cl co) (bc1 := 0) (bs1 := 0) (fun f => rfl) ?_
  exact mc_wa_all 60 0 n ns a g la w s w1 w2 u1 u2 u3 u4 u6 t1 b1 b2 b3 b4 b5 v1 v2 v3 v4 v6 sd cl co c hc (by omega)
set_option maxRecDepth 100000 in
theorem mm_ct_it (n : Nat) (ns a g la w s w1 w2 u1 u2 u3 u4 u6 t1 b1 b2 b3 b4 b5 v1 v2 v3 v4 v6 sd : Int32) (cl co : List Int32) (i : Int32) (c : Int32) (h : ¬ 60 < i) (hc : ¬ b2 = c) : mm_x none (n + 25) 160 2 [some (.ref 138), some (.int c), some (.int i)] [] (mm_MC ns a g la w s w1 w2 u1 u2 u3 u4 u6 t1 b1 b2 b3 b4 b5 v1 v2 v3 v4 v6 sd cl co) 0 0 = mm_x none (n + 10) 160 2 [some (.ref 138), some (.int c), some (.int (i + 1))] [] (mm_MC ns a g la w s w1 w2 u1 u2 u3 u4 u6 t1 (b1 + 1) b2 b3 b4 b5 v1 v2 v3 v4 v6 sd cl co) 0 0 := by
  refine mm_seg (n := n + 23) 2 (z1 := 160) (pc1 := 5) (ls1 := [some (.ref 138), some (.int c), some (.int i)]) (st1 := [.int 60, .int i]) (M1 := (mm_MC ns a g la w s w1 w2 u1 u2 u3 u4 u6 t1 b1 b2 b3 b4 b5 v1 v2 v3 v4 v6 sd cl co)) (bc1 := 0) (bs1 := 0) (fun f => rfl) ?_
  refine mm_c_cmp_gt_f rfl (h) ?_
  refine mm_seg (n := n + 17) 5 (z1 := 160) (pc1 := 15) (ls1 := [some (.ref 138), some (.int c), some (.int i)]) (st1 := [.int c, .int b2]) (M1 := (mm_MC ns a g la w s w1 w2 u1 u2 u3 u4 u6 t1 b1 b2 b3 b4 b5 v1 v2 v3 v4 v6 sd cl co)) (bc1 := 0) (bs1 := 0) (fun f => rfl) ?_
  refine mm_c_cmp_ne_f rfl (hc) ?_
  refine mm_seg (n := n + 13) 3 (z1 := 160) (pc1 := 25) (ls1 := [some (.ref 138), some (.int c), some (.int i)]) (st1 := [.int 0, .ref 140]) (M1 := (mm_MC ns a g la w s w1 w2 u1 u2 u3 u4 u6 t1 b1 b2 b3 b4 b5 v1 v2 v3 v4 v6 sd cl co)) (bc1 := 0) (bs1 := 0) (fun f => rfl) ?_
  refine mm_c_inv (y := 133) (y0 := 28) (bc1 := 0) (bs1 := 0) (bc2 := 0) (bs2 := 0) (L := [some (.ref 140), some (.int 0), none, none, none]) (rest := []) (r := none) (M1 := (mm_MC ns a g la w s w1 w2 u1 u2 u3 u4 u6 t1 (b1 + 1) b2 b3 b4 b5 v1 v2 v3 v4 v6 sd cl co)) (fun f => rfl) (mm_step140 (n + 0) ns a g la w s w1 w2 u1 u2 u3 u4 u6 t1 b1 b2 b3 b4 b5 v1 v2 v3 v4 v6 sd cl co 0) ?_
  refine mm_seg (n := n + 10) 2 (z1 := 160) (pc1 := 2) (ls1 := [some (.ref 138), some (.int c), some (.int (i + 1))]) (st1 := []) (M1 := (mm_MC ns a g la w s w1 w2 u1 u2 u3 u4 u6 t1 (b1 + 1) b2 b3 b4 b5 v1 v2 v3 v4 v6 sd cl co)) (bc1 := 0) (bs1 := 0) (fun f => rfl) ?_
  rfl
set_option maxRecDepth 100000 in
theorem mm_ct_ex (n : Nat) (ns a g la w s w1 w2 u1 u2 u3 u4 u6 t1 b1 b2 b3 b4 b5 v1 v2 v3 v4 v6 sd : Int32) (cl co : List Int32) (i : Int32) (c : Int32) (h : 60 < i) (hc : ¬ b2 = c) : mm_x none (n + 25) 160 2 [some (.ref 138), some (.int c), some (.int i)] [] (mm_MC ns a g la w s w1 w2 u1 u2 u3 u4 u6 t1 b1 b2 b3 b4 b5 v1 v2 v3 v4 v6 sd cl co) 0 0 = some (some (.int (-9)), (mm_MC ns a g la w s w1 w2 u1 u2 u3 u4 u6 t1 b1 b2 b3 b4 b5 v1 v2 v3 v4 v6 sd cl co)) := by
  refine mm_seg (n := n + 23) 2 (z1 := 160) (pc1 := 5) (ls1 := [some (.ref 138), some (.int c), some (.int i)]) (st1 := [.int 60, .int i]) (M1 := (mm_MC ns a g la w s w1 w2 u1 u2 u3 u4 u6 t1 b1 b2 b3 b4 b5 v1 v2 v3 v4 v6 sd cl co)) (bc1 := 0) (bs1 := 0) (fun f => rfl) ?_
  refine mm_c_cmp_gt_t rfl (h) ?_
  rfl
theorem mm_ct_all : ∀ (k j n : Nat) (ns a g la w s w1 w2 u1 u2 u3 u4 u6 t1 b1 b2 b3 b4 b5 v1 v2 v3 v4 v6 sd : Int32) (cl co : List Int32) (c : Int32) (hc : ¬ b2 = c), j + k = 61 → mm_x none (n + (15 * k + 25)) 160 2 [some (.ref 138), some (.int c), some (.int (nI j))] [] (mm_MC ns a g la w s w1 w2 u1 u2 u3 u4 u6 t1 b1 b2 b3 b4 b5 v1 v2 v3 v4 v6 sd cl co) 0 0 = some (some (.int (-9)), mm_MC ns a g la w s w1 w2 u1 u2 u3 u4 u6 t1 (b1 + nI k) b2 b3 b4 b5 v1 v2 v3 v4 v6 sd cl co)
  | 0, j, n, ns, a, g, la, w, s, w1, w2, u1, u2, u3, u4, u6, t1, b1, b2, b3, b4, b5, v1, v2, v3, v4, v6, sd, cl, co, c, hc, hjk => by
    have e0 : b1 + nI 0 = b1 := by rw [nI_0, Int32.add_zero]
    rw [e0]
    exact mm_ct_ex n ns a g la w s w1 w2 u1 u2 u3 u4 u6 t1 b1 b2 b3 b4 b5 v1 v2 v3 v4 v6 sd cl co (nI j) c (show nI 60 < nI j from nI_lt (by omega) (by omega)) hc
  | k + 1, j, n, ns, a, g, la, w, s, w1, w2, u1, u2, u3, u4, u6, t1, b1, b2, b3, b4, b5, v1, v2, v3, v4, v6, sd, cl, co, c, hc, hjk => by
    have e1 : b1 + nI (k + 1) = (b1 + 1) + nI k := by rw [nI_succ, Int32.add_assoc, Int32.add_comm 1 (nI k)]
    have e2 : nI j + 1 = nI (j + 1) := nI_1 j
    have it := mm_ct_it (n + (15 * k + 15)) ns a g la w s w1 w2 u1 u2 u3 u4 u6 t1 b1 b2 b3 b4 b5 v1 v2 v3 v4 v6 sd cl co (nI j) c (show ¬ nI 60 < nI j from nI_nlt (by omega) (by omega)) hc
    rw [e2] at it
    have f1 : n + (15 * (k + 1) + 25) = n + (15 * k + 15) + 25 := by omega
    have f2 : n + (15 * k + 15) + 10 = n + (15 * k + 25) := by omega
    rw [f1, it, f2, e1]
    exact mm_ct_all k (j + 1) n ns a g la w s w1 w2 u1 u2 u3 u4 u6 t1 (b1 + 1) b2 b3 b4 b5 v1 v2 v3 v4 v6 sd cl co c hc (by omega)
theorem mm_ct (n : Nat) (ns a g la w s w1 w2 u1 u2 u3 u4 u6 t1 b1 b2 b3 b4 b5 v1 v2 v3 v4 v6 sd : Int32) (cl co : List Int32) (c : Int32) (hc : ¬ b2 = c) : mm_x none (n + 942) 160 0 [some (.ref 138), some (.int c), none] [] (mm_MC ns a g la w s w1 w2 u1 u2 u3 u4 u6 t1 b1 b2 b3 b4 b5 v1 v2 v3 v4 v6 sd cl co) 0 0 = some (some (.int (-9)), mm_MC ns a g la w s w1 w2 u1 u2 u3 u4 u6 t1 (b1 + nI 61) b2 b3 b4 b5 v1 v2 v3 v4 v6 sd cl co) := by
  refine mm_seg (n := n + 940) 2 (z1 := 160) (pc1 := 2) (ls1 := [some (.ref 138), some (.int c), some (.int 0)]) (st1 := []) (M1 := mm_MC ns a g la w s w1 w2 u1 u2 u3 u4 u6 t1 b1 b2 b3 b4 b5 v1 v2 v3 v4 v6 sd cl co) (bc1 := 0) (bs1 := 0) (fun f => rfl) ?_
  exact mm_ct_all 61 0 n ns a g la w s w1 w2 u1 u2 u3 u4 u6 t1 b1 b2 b3 b4 b5 v1 v2 v3 v4 v6 sd cl co c hc (by omega)
