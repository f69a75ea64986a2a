set_option maxRecDepth 100000 in
theorem pw_wb (n : Nat) (ns a g la w s w1 w2 u1 u2 u3 u4 u6 t1 b1 b2 b3 b4 b5 v1 v2 v3 v4 v6 sd : Int32) (cl co : List Int32) (p m i : Int32) (h : ¬ m ≤ i) (hb : ((p >>> (i &&& 31)) &&& 1) = 1) : mm_x none (n + 32) 96 8 [some (.ref 100), some (.int p), some (.int m), some (.ref 124), some (.int i)] [] (mm_MC ns a g la w s w1 w2 u1 u2 u3 u4 u6 t1 b1 b2 b3 b4 b5 v1 v2 v3 v4 v6 sd cl co) 0 0 = mm_x none (n + 16) 96 8 [some (.ref 100), some (.int p), some (.int m), some (.ref 124), some (.int (i + 1))] [] (mm_MC ns a g la w (s + 1) w1 w2 u1 u2 u3 u4 u6 t1 b1 b2 b3 b4 b5 v1 v2 v3 v4 v6 sd cl co) 0 0 := by
  refine mm_seg (n := n + 30) 2 (z1 := 96) (pc1 := 11) (ls1 := [some (.ref 100), some (.int p), some (.int m), some (.ref 124), some (.int i)]) (st1 := [.int m, .int i]) (M1 := (mm_MC ns a g la w s w1 w2 u1 u2 u3 u4 u6 t1 b1 b2 b3 b4 b5 v1 v2 v3 v4 v6 sd cl co)) (bc1 := 0) (bs1 := 0) (fun f => rfl) ?_
  refine mm_c_cmp_ge_f rfl (h) ?_
  refine mm_seg (n := n + 22) 7 (z1 := 96) (pc1 := 22) (ls1 := [some (.ref 100), some (.int p), some (.int m), some (.ref 124), some (.int i)]) (st1 := [.int 1, .int ((p >>> (i &&& 31)) &&& 1), .ref 124]) (M1 := (mm_MC ns a g la w s w1 w2 u1 u2 u3 u4 u6 t1 b1 b2 b3 b4 b5 v1 v2 v3 v4 v6 sd cl co)) (bc1 := 0) (bs1 := 0) (fun f => rfl) ?_
  refine mm_c_cmp_ne_t rfl (hb) ?_
  refine mm_seg (n := n + 19) 2 (z1 := 96) (pc1 := 30) (ls1 := [some (.ref 100), some (.int p), some (.int m), some (.ref 124), some (.int i)]) (st1 := [.int 5, .ref 124]) (M1 := (mm_MC ns a g la w s w1 w2 u1 u2 u3 u4 u6 t1 b1 b2 b3 b4 b5 v1 v2 v3 v4 v6 sd cl co)) (bc1 := 0) (bs1 := 0) (fun f => rfl) ?_
  refine mm_c_inv (y := 31) (y0 := 33) (bc1 := 0) (bs1 := 0) (bc2 := 0) (bs2 := 0) (L := [some (.ref 124), some (.int 5), none, none, none]) (rest := []) (r := none) (M1 := (mm_MC ns a g la w (s + 1) w1 w2 u1 u2 u3 u4 u6 t1 b1 b2 b3 b4 b5 v1 v2 v3 v4 v6 sd cl co)) (fun f => rfl) (mc_adv (n + 0) ns a g la w s w1 w2 u1 u2 u3 u4 u6 t1 b1 b2 b3 b4 b5 v1 v2 v3 v4 v6 sd cl co 5) ?_
  refine mm_seg (n := n + 16) 2 (z1 := 96) (pc1 := 8) (ls1 := [some (.ref 100), some (.int p), some (.int m), some (.ref 124), some (.int (i + 1))]) (st1 := []) (M1 := (mm_MC ns a g la w (s + 1) w1 w2 u1 u2 u3 u4 u6 t1 b1 b2 b3 b4 b5 v1 v2 v3 v4 v6 sd cl co)) (bc1 := 0) (bs1 := 0) (fun f => rfl) ?_
  rfl
set_option maxRecDepth 100000 in
theorem pw_wn (n : Nat) (ns a g la w s w1 w2 u1 u2 u3 u4 u6 t1 b1 b2 b3 b4 b5 v1 v2 v3 v4 v6 sd : Int32) (cl co : List Int32) (p m i : Int32) (h : ¬ m ≤ i) (hb : ¬ ((p >>> (i &&& 31)) &&& 1) = 1) : mm_x none (n + 32) 96 8 [some (.ref 100), some (.int p), some (.int m), some (.ref 124), some (.int i)] [] (mm_MC ns a g la w s w1 w2 u1 u2 u3 u4 u6 t1 b1 b2 b3 b4 b5 v1 v2 v3 v4 v6 sd cl co) 0 0 = mm_x none (n + 17) 96 8 [some (.ref 100), some (.int p), some (.int m), some (.ref 124), some (.int (i + 1))] [] (mm_MC ns a g la w (s + 1) w1 w2 u1 u2 u3 u4 u6 t1 b1 b2 b3 b4 b5 v1 v2 v3 v4 v6 sd cl co) 0 0 := by
  refine mm_seg (n := n + 30) 2 (z1 := 96) (pc1 := 11) (ls1 := [some (.ref 100), some (.int p), some (.int m), some (.ref 124), some (.int i)]) (st1 := [.int m, .int i]) (M1 := (mm_MC ns a g la w s w1 w2 u1 u2 u3 u4 u6 t1 b1 b2 b3 b4 b5 v1 v2 v3 v4 v6 sd cl co)) (bc1 := 0) (bs1 := 0) (fun f => rfl) ?_
  refine mm_c_cmp_ge_f rfl (h) ?_
  refine mm_seg (n := n + 22) 7 (z1 := 96) (pc1 := 22) (ls1 := [some (.ref 100), some (.int p), some (.int m), some (.ref 124), some (.int i)]) (st1 := [.int 1, .int ((p >>> (i &&& 31)) &&& 1), .ref 124]) (M1 := (mm_MC ns a g la w s w1 w2 u1 u2 u3 u4 u6 t1 b1 b2 b3 b4 b5 v1 v2 v3 v4 v6 sd cl co)) (bc1 := 0) (bs1 := 0) (fun f => rfl) ?_
  refine mm_c_cmp_ne_f rfl (hb) ?_
  refine mm_seg (n := n + 20) 1 (z1 := 96) (pc1 := 30) (ls1 := [some (.ref 100), some (.int p), some (.int m), some (.ref 124), some (.int i)]) (st1 := [.int 0, .ref 124]) (M1 := (mm_MC ns a g la w s w1 w2 u1 u2 u3 u4 u6 t1 b1 b2 b3 b4 b5 v1 v2 v3 v4 v6 sd cl co)) (bc1 := 0) (bs1 := 0) (fun f => rfl) ?_
  refine mm_c_inv (y := 31) (y0 := 33) (bc1 := 0) (bs1 := 0) (bc2 := 0) (bs2 := 0) (L := [some (.ref 124), some (.int 0), none, none, none]) (rest := []) (r := none) (M1 := (mm_MC ns a g la w (s + 1) w1 w2 u1 u2 u3 u4 u6 t1 b1 b2 b3 b4 b5 v1 v2 v3 v4 v6 sd cl co)) (fun f => rfl) (mc_adv (n + 1) ns a g la w s w1 w2 u1 u2 u3 u4 u6 t1 b1 b2 b3 b4 b5 v1 v2 v3 v4 v6 sd cl co 0) ?_
  refine mm_seg (n := n + 17) 2 (z1 := 96) (pc1 := 8) (ls1 := [some (.ref 100), some (.int p), some (.int m), some (.ref 124), some (.int (i + 1))]) (st1 := []) (M1 := (mm_MC ns a g la w (s + 1) w1 w2 u1 u2 u3 u4 u6 t1 b1 b2 b3 b4 b5 v1 v2 v3 v4 v6 sd cl co)) (bc1 := 0) (bs1 := 0) (fun f => rfl) ?_
  rfl
set_option maxRecDepth 100000 in
theorem pw_we (n : Nat) (ns a g la w s w1 w2 u1 u2 u3 u4 u6 t1 b1 b2 b3 b4 b5 v1 v2 v3 v4 v6 sd : Int32) (cl co : List Int32) (p m i : Int32) (h : m ≤ i) : mm_x none (n + 32) 96 8 [some (.ref 100), some (.int p), some (.int m), some (.ref 124), some (.int i)] [] (mm_MC ns a g la w s w1 w2 u1 u2 u3 u4 u6 t1 b1 b2 b3 b4 b5 v1 v2 v3 v4 v6 sd cl co) 0 0 = some (some (.int a), (mm_MC ns a g la w s w1 w2 u1 u2 u3 u4 u6 t1 b1 b2 b3 b4 b5 v1 v2 v3 v4 v6 sd cl co)) := by
  refine mm_seg (n := n + 30) 2 (z1 := 96) (pc1 := 11) (ls1 := [some (.ref 100), some (.int p), some (.int m), some (.ref 124), some (.int i)]) (st1 := [.int m, .int i]) (M1 := (mm_MC ns a g la w s w1 w2 u1 u2 u3 u4 u6 t1 b1 b2 b3 b4 b5 v1 v2 v3 v4 v6 sd cl co)) (bc1 := 0) (bs1 := 0) (fun f => rfl) ?_
  refine mm_c_cmp_ge_t rfl (h) ?_
  rfl
theorem pw_wall (k : Nat) : ∀ (j n : Nat) (ns a g la w s w1 w2 u1 u2 u3 u4 u6 t1 b1 b2 b3 b4 b5 v1 v2 v3 v4 v6 sd : Int32) (cl co : List Int32) (p : Int32), j + k ≤ 7 → 16 * k + 32 ≤ n → mm_x none n 96 8 [some (.ref 100), some (.int p), some (.int (nI (j + k))), some (.ref 124), some (.int (nI j))] [] (mm_MC ns a g la w s w1 w2 u1 u2 u3 u4 u6 t1 b1 b2 b3 b4 b5 v1 v2 v3 v4 v6 sd cl co) 0 0 = some (some (.int a), (mm_MC ns a g la w (s + nI k) w1 w2 u1 u2 u3 u4 u6 t1 b1 b2 b3 b4 b5 v1 v2 v3 v4 v6 sd cl co)) := by
  induction k with
  | zero =>
    intro j n ns a g la w s w1 w2 u1 u2 u3 u4 u6 t1 b1 b2 b3 b4 b5 v1 v2 v3 v4 v6 sd cl co p hj hn
    have f0 : n - 32 + 32 = n := by omega
    have ex := pw_we (n - 32) ns a g la w s w1 w2 u1 u2 u3 u4 u6 t1 b1 b2 b3 b4 b5 v1 v2 v3 v4 v6 sd cl co p (nI (j + 0)) (nI j) (nI_le (Nat.le_refl j) (by omega))
    rw [f0] at ex
    rw [nI_0, Int32.add_zero]
    exact ex
  | succ k IH =>
    intro j n ns a g la w s w1 w2 u1 u2 u3 u4 u6 t1 b1 b2 b3 b4 b5 v1 v2 v3 v4 v6 sd cl co p hj hn
    have f0 : n - 32 + 32 = n := by omega
    have e1 : s + nI (k + 1) = (s + 1) + nI k := by rw [nI_succ, Int32.add_assoc, Int32.add_comm 1 (nI k)]
    have e2 : nI j + 1 = nI (j + 1) := nI_1 j
    have e3 : j + (k + 1) = (j + 1) + k := by omega
    by_cases hb : ((p >>> (nI j &&& 31)) &&& 1) = 1
    · have it := pw_wb (n - 32) ns a g la w s w1 w2 u1 u2 u3 u4 u6 t1 b1 b2 b3 b4 b5 v1 v2 v3 v4 v6 sd cl co p (nI (j + (k + 1))) (nI j) (nI_ge (by omega) (by omega)) hb
      rw [f0, e2] at it
      rw [it, e3, e1]
      exact IH (j + 1) (n - 32 + 16) ns a g la w (s + 1) w1 w2 u1 u2 u3 u4 u6 t1 b1 b2 b3 b4 b5 v1 v2 v3 v4 v6 sd cl co p (by omega) (by omega)
    · have it := pw_wn (n - 32) ns a g la w s w1 w2 u1 u2 u3 u4 u6 t1 b1 b2 b3 b4 b5 v1 v2 v3 v4 v6 sd cl co p (nI (j + (k + 1))) (nI j) (nI_ge (by omega) (by omega)) hb
      rw [f0, e2] at it
      rw [it, e3, e1]
      exact IH (j + 1) (n - 32 + 17) ns a g la w (s + 1) w1 w2 u1 u2 u3 u4 u6 t1 b1 b2 b3 b4 b5 v1 v2 v3 v4 v6 sd cl co p (by omega) (by omega)
set_option maxRecDepth 100000 in
theorem pw_w0 (n : Nat) (ns a g la w s w1 w2 u1 u2 u3 u4 u6 t1 b1 b2 b3 b4 b5 v1 v2 v3 v4 v6 sd : Int32) (cl co : List Int32) (p m : Int32) : mm_x none (n + 149) 96 0 [some (.ref 100), some (.int p), some (.int m), none, none] [] (mm_MC ns a g la w s w1 w2 u1 u2 u3 u4 u6 t1 b1 b2 b3 b4 b5 v1 v2 v3 v4 v6 sd cl co) 0 0 = mm_x none (n + 144) 96 8 [some (.ref 100), some (.int p), some (.int m), some (.ref 124), some (.int 0)] [] (mm_MC ns 0 24 1 5 ns w1 w2 u1 u2 u3 u4 u6 t1 b1 b2 b3 b4 b5 v1 v2 v3 v4 v6 sd cl co) 0 0 := by
  refine mm_seg (n := n + 148) 1 (z1 := 96) (pc1 := 1) (ls1 := [some (.ref 100), some (.int p), some (.int m), none, none]) (st1 := [.ref 100]) (M1 := (mm_MC ns a g la w s w1 w2 u1 u2 u3 u4 u6 t1 b1 b2 b3 b4 b5 v1 v2 v3 v4 v6 sd cl co)) (bc1 := 0) (bs1 := 0) (fun f => rfl) ?_
  refine mm_c_inv (y := 62) (y0 := 4) (bc1 := 0) (bs1 := 0) (bc2 := 0) (bs2 := 0) (L := [some (.ref 100)]) (rest := []) (r := some (.ref 124)) (M1 := (mm_MC ns 0 24 1 5 ns w1 w2 u1 u2 u3 u4 u6 t1 b1 b2 b3 b4 b5 v1 v2 v3 v4 v6 sd cl co)) (fun f => rfl) (mc_asNow (n + 68) ns a g la w s w1 w2 u1 u2 u3 u4 u6 t1 b1 b2 b3 b4 b5 v1 v2 v3 v4 v6 sd cl co) ?_
  refine mm_seg (n := n + 144) 3 (z1 := 96) (pc1 := 8) (ls1 := [some (.ref 100), some (.int p), some (.int m), some (.ref 124), some (.int 0)]) (st1 := []) (M1 := (mm_MC ns 0 24 1 5 ns w1 w2 u1 u2 u3 u4 u6 t1 b1 b2 b3 b4 b5 v1 v2 v3 v4 v6 sd cl co)) (bc1 := 0) (bs1 := 0) (fun f => rfl) ?_
  rfl
theorem pw_where (n k : Nat) (hk : k ≤ 7) (ns a g la w s w1 w2 u1 u2 u3 u4 u6 t1 b1 b2 b3 b4 b5 v1 v2 v3 v4 v6 sd : Int32) (cl co : List Int32) (p : Int32) : mm_x none (n + 149) 96 0 [some (.ref 100), some (.int p), some (.int (nI k)), none, none] [] (mm_MC ns a g la w s w1 w2 u1 u2 u3 u4 u6 t1 b1 b2 b3 b4 b5 v1 v2 v3 v4 v6 sd cl co) 0 0 = some (some (.int 0), (mm_MC ns 0 24 1 5 (ns + nI k) w1 w2 u1 u2 u3 u4 u6 t1 b1 b2 b3 b4 b5 v1 v2 v3 v4 v6 sd cl co)) := by
  rw [pw_w0]
  have h := pw_wall k 0 (n + 144) ns 0 24 1 5 ns w1 w2 u1 u2 u3 u4 u6 t1 b1 b2 b3 b4 b5 v1 v2 v3 v4 v6 sd cl co p (by omega) (by omega)
  rw [Nat.zero_add] at h
  exact h
def ms_bc (p : Int32) : Int32 := (((((((p - ((((Int32.toUInt32 p) >>> ((Int32.toUInt32 1) &&& Int32.toUInt32 31)).toInt32) &&& 1431655765)) &&& 858993459) + ((((Int32.toUInt32 (p - ((((Int32.toUInt32 p) >>> ((Int32.toUInt32 1) &&& Int32.toUInt32 31)).toInt32) &&& 1431655765))) >>> ((Int32.toUInt32 2) &&& Int32.toUInt32 31)).toInt32) &&& 858993459)) + (((Int32.toUInt32 (((p - ((((Int32.toUInt32 p) >>> ((Int32.toUInt32 1) &&& Int32.toUInt32 31)).toInt32) &&& 1431655765)) &&& 858993459) + ((((Int32.toUInt32 (p - ((((Int32.toUInt32 p) >>> ((Int32.toUInt32 1) &&& Int32.toUInt32 31)).toInt32) &&& 1431655765))) >>> ((Int32.toUInt32 2) &&& Int32.toUInt32 31)).toInt32) &&& 858993459))) >>> ((Int32.toUInt32 4) &&& Int32.toUInt32 31)).toInt32)) &&& 252645135) + (((Int32.toUInt32 (((((p - ((((Int32.toUInt32 p) >>> ((Int32.toUInt32 1) &&& Int32.toUInt32 31)).toInt32) &&& 1431655765)) &&& 858993459) + ((((Int32.toUInt32 (p - ((((Int32.toUInt32 p) >>> ((Int32.toUInt32 1) &&& Int32.toUInt32 31)).toInt32) &&& 1431655765))) >>> ((Int32.toUInt32 2) &&& Int32.toUInt32 31)).toInt32) &&& 858993459)) + (((Int32.toUInt32 (((p - ((((Int32.toUInt32 p) >>> ((Int32.toUInt32 1) &&& Int32.toUInt32 31)).toInt32) &&& 1431655765)) &&& 858993459) + ((((Int32.toUInt32 (p - ((((Int32.toUInt32 p) >>> ((Int32.toUInt32 1) &&& Int32.toUInt32 31)).toInt32) &&& 1431655765))) >>> ((Int32.toUInt32 2) &&& Int32.toUInt32 31)).toInt32) &&& 858993459))) >>> ((Int32.toUInt32 4) &&& Int32.toUInt32 31)).toInt32)) &&& 252645135)) >>> ((Int32.toUInt32 8) &&& Int32.toUInt32 31)).toInt32)) + (((Int32.toUInt32 ((((((p - ((((Int32.toUInt32 p) >>> ((Int32.toUInt32 1) &&& Int32.toUInt32 31)).toInt32) &&& 1431655765)) &&& 858993459) + ((((Int32.toUInt32 (p - ((((Int32.toUInt32 p) >>> ((Int32.toUInt32 1) &&& Int32.toUInt32 31)).toInt32) &&& 1431655765))) >>> ((Int32.toUInt32 2) &&& Int32.toUInt32 31)).toInt32) &&& 858993459)) + (((Int32.toUInt32 (((p - ((((Int32.toUInt32 p) >>> ((Int32.toUInt32 1) &&& Int32.toUInt32 31)).toInt32) &&& 1431655765)) &&& 858993459) + ((((Int32.toUInt32 (p - ((((Int32.toUInt32 p) >>> ((Int32.toUInt32 1) &&& Int32.toUInt32 31)).toInt32) &&& 1431655765))) >>> ((Int32.toUInt32 2) &&& Int32.toUInt32 31)).toInt32) &&& 858993459))) >>> ((Int32.toUInt32 4) &&& Int32.toUInt32 31)).toInt32)) &&& 252645135) + (((Int32.toUInt32 (((((p - ((((Int32.toUInt32 p) >>> ((Int32.toUInt32 1) &&& Int32.toUInt32 31)).toInt32) &&& 1431655765)) &&& 858993459) + ((((Int32.toUInt32 (p - ((((Int32.toUInt32 p) >>> ((Int32.toUInt32 1) &&& Int32.toUInt32 31)).toInt32) &&& 1431655765))) >>> ((Int32.toUInt32 2) &&& Int32.toUInt32 31)).toInt32) &&& 858993459)) + (((Int32.toUInt32 (((p - ((((Int32.toUInt32 p) >>> ((Int32.toUInt32 1) &&& Int32.toUInt32 31)).toInt32) &&& 1431655765)) &&& 858993459) + ((((Int32.toUInt32 (p - ((((Int32.toUInt32 p) >>> ((Int32.toUInt32 1) &&& Int32.toUInt32 31)).toInt32) &&& 1431655765))) >>> ((Int32.toUInt32 2) &&& Int32.toUInt32 31)).toInt32) &&& 858993459))) >>> ((Int32.toUInt32 4) &&& Int32.toUInt32 31)).toInt32)) &&& 252645135)) >>> ((Int32.toUInt32 8) &&& Int32.toUInt32 31)).toInt32))) >>> ((Int32.toUInt32 16) &&& Int32.toUInt32 31)).toInt32)) &&& 63
set_option maxRecDepth 100000 in
theorem pw_bc (n : Nat) (ns a g la w s w1 w2 u1 u2 u3 u4 u6 t1 b1 b2 b3 b4 b5 v1 v2 v3 v4 v6 sd : Int32) (cl co : List Int32) (p : Int32) : mm_x none (n + 44) 97 0 [some (.int p)] [] (mm_MC ns a g la w s w1 w2 u1 u2 u3 u4 u6 t1 b1 b2 b3 b4 b5 v1 v2 v3 v4 v6 sd cl co) 0 0 = some (some (.int (ms_bc p)), (mm_MC ns a g la w s w1 w2 u1 u2 u3 u4 u6 t1 b1 b2 b3 b4 b5 v1 v2 v3 v4 v6 sd cl co)) := by rfl
set_option maxRecDepth 100000 in
theorem pw_p (n : Nat) (ns a g la w s w1 w2 u1 u2 u3 u4 u6 t1 b1 b2 b3 b4 b5 v1 v2 v3 v4 v6 sd : Int32) (cl co : List Int32) (bb pr : Int64) (m i : Int32) (h : ¬ m ≤ i) : mm_x none (n + 9) 98 5 [some (.long bb), none, some (.int m), some (.long pr), none, some (.int i)] [] (mm_MC ns a g la w s w1 w2 u1 u2 u3 u4 u6 t1 b1 b2 b3 b4 b5 v1 v2 v3 v4 v6 sd cl co) 0 0 = mm_x none (n + 0) 98 5 [some (.long bb), none, some (.int m), some (.long (pr * bb)), none, some (.int (i + 1))] [] (mm_MC ns a g la w s w1 w2 u1 u2 u3 u4 u6 t1 b1 b2 b3 b4 b5 v1 v2 v3 v4 v6 sd cl co) 0 0 := by
  refine mm_seg (n := n + 7) 2 (z1 := 98) (pc1 := 8) (ls1 := [some (.long bb), none, some (.int m), some (.long pr), none, some (.int i)]) (st1 := [.int m, .int i]) (M1 := (mm_MC ns a g la w s w1 w2 u1 u2 u3 u4 u6 t1 b1 b2 b3 b4 b5 v1 v2 v3 v4 v6 sd cl co)) (bc1 := 0) (bs1 := 0) (fun f => rfl) ?_
  refine mm_c_cmp_ge_f rfl (h) ?_
  refine mm_seg (n := n + 0) 6 (z1 := 98) (pc1 := 5) (ls1 := [some (.long bb), none, some (.int m), some (.long (pr * bb)), none, some (.int (i + 1))]) (st1 := []) (M1 := (mm_MC ns a g la w s w1 w2 u1 u2 u3 u4 u6 t1 b1 b2 b3 b4 b5 v1 v2 v3 v4 v6 sd cl co)) (bc1 := 0) (bs1 := 0) (fun f => rfl) ?_
  rfl
set_option maxRecDepth 100000 in
theorem pw_pe (n : Nat) (ns a g la w s w1 w2 u1 u2 u3 u4 u6 t1 b1 b2 b3 b4 b5 v1 v2 v3 v4 v6 sd : Int32) (cl co : List Int32) (bb pr : Int64) (m i : Int32) (h : m ≤ i) : mm_x none (n + 9) 98 5 [some (.long bb), none, some (.int m), some (.long pr), none, some (.int i)] [] (mm_MC ns a g la w s w1 w2 u1 u2 u3 u4 u6 t1 b1 b2 b3 b4 b5 v1 v2 v3 v4 v6 sd cl co) 0 0 = some (some (.long pr), (mm_MC ns a g la w s w1 w2 u1 u2 u3 u4 u6 t1 b1 b2 b3 b4 b5 v1 v2 v3 v4 v6 sd cl co)) := by
  refine mm_seg (n := n + 7) 2 (z1 := 98) (pc1 := 8) (ls1 := [some (.long bb), none, some (.int m), some (.long pr), none, some (.int i)]) (st1 := [.int m, .int i]) (M1 := (mm_MC ns a g la w s w1 w2 u1 u2 u3 u4 u6 t1 b1 b2 b3 b4 b5 v1 v2 v3 v4 v6 sd cl co)) (bc1 := 0) (bs1 := 0) (fun f => rfl) ?_
  refine mm_c_cmp_ge_t rfl (h) ?_
  rfl
def ms_pw (b : Int64) : Nat → Int64 → Int64
  | 0, a => a
  | k + 1, a => ms_pw b k (a * b)
theorem pw_pall (k : Nat) : ∀ (j n : Nat) (ns a g la w s w1 w2 u1 u2 u3 u4 u6 t1 b1 b2 b3 b4 b5 v1 v2 v3 v4 v6 sd : Int32) (cl co : List Int32) (bb pr : Int64), j + k ≤ 7 → 9 * k + 9 ≤ n → mm_x none n 98 5 [some (.long bb), none, some (.int (nI (j + k))), some (.long pr), none, some (.int (nI j))] [] (mm_MC ns a g la w s w1 w2 u1 u2 u3 u4 u6 t1 b1 b2 b3 b4 b5 v1 v2 v3 v4 v6 sd cl co) 0 0 = some (some (.long (ms_pw bb k pr)), (mm_MC ns a g la w s w1 w2 u1 u2 u3 u4 u6 t1 b1 b2 b3 b4 b5 v1 v2 v3 v4 v6 sd cl co)) := by
  induction k with
  | zero =>
    intro j n ns a g la w s w1 w2 u1 u2 u3 u4 u6 t1 b1 b2 b3 b4 b5 v1 v2 v3 v4 v6 sd cl co bb pr hj hn
    have f0 : n - 9 + 9 = n := by omega
    have ex := pw_pe (n - 9) ns a g la w s w1 w2 u1 u2 u3 u4 u6 t1 b1 b2 b3 b4 b5 v1 v2 v3 v4 v6 sd cl co bb pr (nI (j + 0)) (nI j) (nI_le (Nat.le_refl j) (by omega))
    rw [f0] at ex
    exact ex
  | succ k IH =>
    intro j n ns a g la w s w1 w2 u1 u2 u3 u4 u6 t1 b1 b2 b3 b4 b5 v1 v2 v3 v4 v6 sd cl co bb pr hj hn
    have f0 : n - 9 + 9 = n := by omega
    have e2 : nI j + 1 = nI (j + 1) := nI_1 j
    have e3 : j + (k + 1) = (j + 1) + k := by omega
    have it := pw_p (n - 9) ns a g la w s w1 w2 u1 u2 u3 u4 u6 t1 b1 b2 b3 b4 b5 v1 v2 v3 v4 v6 sd cl co bb pr (nI (j + (k + 1))) (nI j) (nI_ge (by omega) (by omega))
    rw [f0, e2] at it
    rw [it, e3]
    exact IH (j + 1) (n - 9 + 0) ns a g la w s w1 w2 u1 u2 u3 u4 u6 t1 b1 b2 b3 b4 b5 v1 v2 v3 v4 v6 sd cl co bb (pr * bb) (by omega) (by omega)
set_option maxRecDepth 100000 in
theorem pw_p0 (n : Nat) (ns a g la w s w1 w2 u1 u2 u3 u4 u6 t1 b1 b2 b3 b4 b5 v1 v2 v3 v4 v6 sd : Int32) (cl co : List Int32) (bb : Int64) (m : Int32) : mm_x none (n + 76) 98 0 [some (.long bb), none, some (.int m), none, none, none] [] (mm_MC ns a g la w s w1 w2 u1 u2 u3 u4 u6 t1 b1 b2 b3 b4 b5 v1 v2 v3 v4 v6 sd cl co) 0 0 = mm_x none (n + 72) 98 5 [some (.long bb), none, some (.int m), some (.long 1), none, some (.int 0)] [] (mm_MC ns a g la w s w1 w2 u1 u2 u3 u4 u6 t1 b1 b2 b3 b4 b5 v1 v2 v3 v4 v6 sd cl co) 0 0 := by
  refine mm_seg (n := n + 72) 4 (z1 := 98) (pc1 := 5) (ls1 := [some (.long bb), none, some (.int m), some (.long 1), none, some (.int 0)]) (st1 := []) (M1 := (mm_MC ns a g la w s w1 w2 u1 u2 u3 u4 u6 t1 b1 b2 b3 b4 b5 v1 v2 v3 v4 v6 sd cl co)) (bc1 := 0) (bs1 := 0) (fun f => rfl) ?_
  rfl
theorem pw_power (n : Nat) (ns a g la w s w1 w2 u1 u2 u3 u4 u6 t1 b1 b2 b3 b4 b5 v1 v2 v3 v4 v6 sd : Int32) (cl co : List Int32) (bb : Int64) (ee : Int32) (r : Nat) (he : ee = nI r) (hr : r ≤ 7) : mm_x none (n + 76) 98 0 [some (.long bb), none, some (.int ee), none, none, none] [] (mm_MC ns a g la w s w1 w2 u1 u2 u3 u4 u6 t1 b1 b2 b3 b4 b5 v1 v2 v3 v4 v6 sd cl co) 0 0 = some (some (.long (ms_pw bb r 1)), (mm_MC ns a g la w s w1 w2 u1 u2 u3 u4 u6 t1 b1 b2 b3 b4 b5 v1 v2 v3 v4 v6 sd cl co)) := by
  subst he
  rw [pw_p0]
  have h := pw_pall r 0 (n + 72) ns a g la w s w1 w2 u1 u2 u3 u4 u6 t1 b1 b2 b3 b4 b5 v1 v2 v3 v4 v6 sd cl co bb 1 (by omega) (by omega)
  rw [Nat.zero_add] at h
  exact h
