theorem lx_tail (n : Nat) (a b c d e : Int32) (M : mm_H) : mm_x (some [a, b, c, d, e]) (n + 20) 0 1136 [some (.ref 0), some (.ref 100), some (.ref 138), some (.int 0)] [] M 0 0 = some (some (.int 1), M) := by
  refine mm_seg (n := n + 13) 7 (z1 := 0) (pc1 := 23) (ls1 := [some (.ref 0), some (.ref 100), some (.ref 138), some (.int 5)]) (st1 := [.int (Int32.ofNat 5 - 5), .int 5]) (M1 := M) (bc1 := 0) (bs1 := 0) (fun f => rfl) ?_
  refine mm_c_cmp_gt_t rfl (by decide) ?_
  rfl
theorem lx_cmp (w : Int64) : lg_cmp w w = 0 := by
  unfold lg_cmp
  rw [if_neg (fun h => Int64.lt_irrefl h), if_pos rfl]
theorem lx_0 (a b c d e : Int32) (ha : a &&& 63 = 0) (h : mm_eqI 11 116 [some (.ref 100), some (.int b)] [some (.ref 138), some (.int b)]) : ∃ n M1, mm_x (some [a, b, c, d, e]) n 0 18 [some (.ref 0), some (.ref 100), some (.ref 138), some (.int 0)] [] mm_F0 0 0 = some (some (.int 1), M1) := by
  obtain ⟨n, w, M1, M2, h1, h2⟩ := h
  obtain ⟨fs, hfs⟩ := mm_kpx none n _ _ _ _ _ _ _ _ _ h1 138 10 _ rfl
  refine ⟨n + 100, M2, ?_⟩
  refine mm_seg (n := n + 95) 5 (z1 := 0) (pc1 := 23) (ls1 := [some (.ref 0), some (.ref 100), some (.ref 138), some (.int 0)]) (st1 := [.int (Int32.ofNat 5 - 5), .int 0]) (M1 := mm_F0) (bc1 := 0) (bs1 := 0) (fun f => rfl) ?_
  refine mm_c_cmp_gt_f rfl (by decide) ?_
  refine mm_seg (n := n + 89) 5 (z1 := 0) (pc1 := 32) (ls1 := [some (.ref 0), some (.ref 100), some (.ref 138), some (.int 0)]) (st1 := [.int (a &&& 63)]) (M1 := mm_F0) (bc1 := 0) (bs1 := 0) (fun f => rfl) ?_
  rw [ha]
  refine mm_seg (n := n + 82) 7 (z1 := 0) (pc1 := 206) (ls1 := [some (.ref 0), some (.ref 100), some (.ref 138), some (.int 0)]) (st1 := [.int b, .ref 100]) (M1 := mm_F0) (bc1 := 0) (bs1 := 0) (fun f => rfl) ?_
  refine mm_c_inv (y := 11) (y0 := 209) (bc1 := 0) (bs1 := 0) (bc2 := 0) (bs2 := 0) (L := [some (.ref 100), some (.int b)]) (rest := []) (r := some (.int w)) (M1 := M1) (fun f => rfl) (mm_mono (fun xs h => by cases h) n 81 _ _ _ _ _ _ _ _ h1) ?_
  refine mm_seg (n := n + 75) 6 (z1 := 0) (pc1 := 215) (ls1 := [some (.ref 0), some (.ref 100), some (.ref 138), some (.int 0)]) (st1 := [.int b, .ref 138, .int w]) (M1 := M1) (bc1 := 0) (bs1 := 0) (fun f => rfl) ?_
  refine mm_c_vir (y := 116) (y0 := 218) (bc1 := 0) (bs1 := 0) (bc2 := 0) (bs2 := 0) (L := [some (.ref 138), some (.int b)]) (rest := [.int w]) (r := some (.int w)) (M1 := M2) rfl rfl hfs rfl (fun f => rfl) (mm_mono (fun xs h => by cases h) n 74 _ _ _ _ _ _ _ _ h2) ?_
  refine mm_c_cmp_eq_t rfl rfl ?_
  exact lx_tail (n + 53) a b c d e M2
theorem lx_1 (a b c d e : Int32) (ha : a &&& 63 = 1) (h : mm_eqI 14 118 [some (.ref 100), none] [some (.ref 138), none, none, none, none, none]) : ∃ n M1, mm_x (some [a, b, c, d, e]) n 0 18 [some (.ref 0), some (.ref 100), some (.ref 138), some (.int 0)] [] mm_F0 0 0 = some (some (.int 1), M1) := by
  obtain ⟨n, w, M1, M2, h1, h2⟩ := h
  obtain ⟨fs, hfs⟩ := mm_kpx none n _ _ _ _ _ _ _ _ _ h1 138 10 _ rfl
  refine ⟨n + 100, M2, ?_⟩
  refine mm_seg (n := n + 95) 5 (z1 := 0) (pc1 := 23) (ls1 := [some (.ref 0), some (.ref 100), some (.ref 138), some (.int 0)]) (st1 := [.int (Int32.ofNat 5 - 5), .int 0]) (M1 := mm_F0) (bc1 := 0) (bs1 := 0) (fun f => rfl) ?_
  refine mm_c_cmp_gt_f rfl (by decide) ?_
  refine mm_seg (n := n + 89) 5 (z1 := 0) (pc1 := 32) (ls1 := [some (.ref 0), some (.ref 100), some (.ref 138), some (.int 0)]) (st1 := [.int (a &&& 63)]) (M1 := mm_F0) (bc1 := 0) (bs1 := 0) (fun f => rfl) ?_
  rw [ha]
  refine mm_seg (n := n + 87) 2 (z1 := 0) (pc1 := 224) (ls1 := [some (.ref 0), some (.ref 100), some (.ref 138), some (.int 0)]) (st1 := [.ref 100]) (M1 := mm_F0) (bc1 := 0) (bs1 := 0) (fun f => rfl) ?_
  refine mm_c_inv (y := 14) (y0 := 227) (bc1 := 0) (bs1 := 0) (bc2 := 0) (bs2 := 0) (L := [some (.ref 100), none]) (rest := []) (r := some (.int w)) (M1 := M1) (fun f => rfl) (mm_mono (fun xs h => by cases h) n 86 _ _ _ _ _ _ _ _ h1) ?_
  refine mm_seg (n := n + 85) 1 (z1 := 0) (pc1 := 228) (ls1 := [some (.ref 0), some (.ref 100), some (.ref 138), some (.int 0)]) (st1 := [.ref 138, .int w]) (M1 := M1) (bc1 := 0) (bs1 := 0) (fun f => rfl) ?_
  refine mm_c_vir (y := 118) (y0 := 231) (bc1 := 0) (bs1 := 0) (bc2 := 0) (bs2 := 0) (L := [some (.ref 138), none, none, none, none, none]) (rest := [.int w]) (r := some (.int w)) (M1 := M2) rfl rfl hfs rfl (fun f => rfl) (mm_mono (fun xs h => by cases h) n 84 _ _ _ _ _ _ _ _ h2) ?_
  refine mm_c_cmp_eq_t rfl rfl ?_
  exact lx_tail (n + 63) a b c d e M2
theorem lx_2 (a b c d e : Int32) (ha : a &&& 63 = 2) (h : mm_eqI 47 142 [some (.ref 100), some (.int b), some (.int c)] [some (.ref 138), some (.int b), some (.int c)]) : ∃ n M1, mm_x (some [a, b, c, d, e]) n 0 18 [some (.ref 0), some (.ref 100), some (.ref 138), some (.int 0)] [] mm_F0 0 0 = some (some (.int 1), M1) := by
  obtain ⟨n, w, M1, M2, h1, h2⟩ := h
  obtain ⟨fs, hfs⟩ := mm_kpx none n _ _ _ _ _ _ _ _ _ h1 138 10 _ rfl
  refine ⟨n + 100, M2, ?_⟩
  refine mm_seg (n := n + 95) 5 (z1 := 0) (pc1 := 23) (ls1 := [some (.ref 0), some (.ref 100), some (.ref 138), some (.int 0)]) (st1 := [.int (Int32.ofNat 5 - 5), .int 0]) (M1 := mm_F0) (bc1 := 0) (bs1 := 0) (fun f => rfl) ?_
  refine mm_c_cmp_gt_f rfl (by decide) ?_
  refine mm_seg (n := n + 89) 5 (z1 := 0) (pc1 := 32) (ls1 := [some (.ref 0), some (.ref 100), some (.ref 138), some (.int 0)]) (st1 := [.int (a &&& 63)]) (M1 := mm_F0) (bc1 := 0) (bs1 := 0) (fun f => rfl) ?_
  rw [ha]
  refine mm_seg (n := n + 77) 12 (z1 := 0) (pc1 := 247) (ls1 := [some (.ref 0), some (.ref 100), some (.ref 138), some (.int 0)]) (st1 := [.int c, .int b, .ref 100]) (M1 := mm_F0) (bc1 := 0) (bs1 := 0) (fun f => rfl) ?_
  refine mm_c_inv (y := 47) (y0 := 250) (bc1 := 0) (bs1 := 0) (bc2 := 0) (bs2 := 0) (L := [some (.ref 100), some (.int b), some (.int c)]) (rest := []) (r := some (.int w)) (M1 := M1) (fun f => rfl) (mm_mono (fun xs h => by cases h) n 76 _ _ _ _ _ _ _ _ h1) ?_
  refine mm_seg (n := n + 65) 11 (z1 := 0) (pc1 := 261) (ls1 := [some (.ref 0), some (.ref 100), some (.ref 138), some (.int 0)]) (st1 := [.int c, .int b, .ref 138, .int w]) (M1 := M1) (bc1 := 0) (bs1 := 0) (fun f => rfl) ?_
  refine mm_c_vir (y := 142) (y0 := 264) (bc1 := 0) (bs1 := 0) (bc2 := 0) (bs2 := 0) (L := [some (.ref 138), some (.int b), some (.int c)]) (rest := [.int w]) (r := some (.int w)) (M1 := M2) rfl rfl hfs rfl (fun f => rfl) (mm_mono (fun xs h => by cases h) n 64 _ _ _ _ _ _ _ _ h2) ?_
  refine mm_c_cmp_eq_t rfl rfl ?_
  exact lx_tail (n + 43) a b c d e M2
theorem lx_3 (a b c d e : Int32) (ha : a &&& 63 = 3) (h : mm_eqI 50 143 [some (.ref 100), some (.int b), some (.int c)] [some (.ref 138), some (.int b), some (.int c)]) : ∃ n M1, mm_x (some [a, b, c, d, e]) n 0 18 [some (.ref 0), some (.ref 100), some (.ref 138), some (.int 0)] [] mm_F0 0 0 = some (some (.int 1), M1) := by
  obtain ⟨n, w, M1, M2, h1, h2⟩ := h
  obtain ⟨fs, hfs⟩ := mm_kpx none n _ _ _ _ _ _ _ _ _ h1 138 10 _ rfl
  refine ⟨n + 100, M2, ?_⟩
  refine mm_seg (n := n + 95) 5 (z1 := 0) (pc1 := 23) (ls1 := [some (.ref 0), some (.ref 100), some (.ref 138), some (.int 0)]) (st1 := [.int (Int32.ofNat 5 - 5), .int 0]) (M1 := mm_F0) (bc1 := 0) (bs1 := 0) (fun f => rfl) ?_
  refine mm_c_cmp_gt_f rfl (by decide) ?_
  refine mm_seg (n := n + 89) 5 (z1 := 0) (pc1 := 32) (ls1 := [some (.ref 0), some (.ref 100), some (.ref 138), some (.int 0)]) (st1 := [.int (a &&& 63)]) (M1 := mm_F0) (bc1 := 0) (bs1 := 0) (fun f => rfl) ?_
  rw [ha]
  refine mm_seg (n := n + 77) 12 (z1 := 0) (pc1 := 280) (ls1 := [some (.ref 0), some (.ref 100), some (.ref 138), some (.int 0)]) (st1 := [.int c, .int b, .ref 100]) (M1 := mm_F0) (bc1 := 0) (bs1 := 0) (fun f => rfl) ?_
  refine mm_c_inv (y := 50) (y0 := 283) (bc1 := 0) (bs1 := 0) (bc2 := 0) (bs2 := 0) (L := [some (.ref 100), some (.int b), some (.int c)]) (rest := []) (r := some (.int w)) (M1 := M1) (fun f => rfl) (mm_mono (fun xs h => by cases h) n 76 _ _ _ _ _ _ _ _ h1) ?_
  refine mm_seg (n := n + 65) 11 (z1 := 0) (pc1 := 294) (ls1 := [some (.ref 0), some (.ref 100), some (.ref 138), some (.int 0)]) (st1 := [.int c, .int b, .ref 138, .int w]) (M1 := M1) (bc1 := 0) (bs1 := 0) (fun f => rfl) ?_
  refine mm_c_vir (y := 143) (y0 := 297) (bc1 := 0) (bs1 := 0) (bc2 := 0) (bs2 := 0) (L := [some (.ref 138), some (.int b), some (.int c)]) (rest := [.int w]) (r := some (.int w)) (M1 := M2) rfl rfl hfs rfl (fun f => rfl) (mm_mono (fun xs h => by cases h) n 64 _ _ _ _ _ _ _ _ h2) ?_
  refine mm_c_cmp_eq_t rfl rfl ?_
  exact lx_tail (n + 43) a b c d e M2
theorem lx_4 (a b c d e : Int32) (ha : a &&& 63 = 4) (h : mm_eqI 51 144 [some (.ref 100), some (.int b)] [some (.ref 138), some (.int b), none, none]) : ∃ n M1, mm_x (some [a, b, c, d, e]) n 0 18 [some (.ref 0), some (.ref 100), some (.ref 138), some (.int 0)] [] mm_F0 0 0 = some (some (.int 1), M1) := by
  obtain ⟨n, w, M1, M2, h1, h2⟩ := h
  obtain ⟨fs, hfs⟩ := mm_kpx none n _ _ _ _ _ _ _ _ _ h1 138 10 _ rfl
  refine ⟨n + 100, M2, ?_⟩
  refine mm_seg (n := n + 95) 5 (z1 := 0) (pc1 := 23) (ls1 := [some (.ref 0), some (.ref 100), some (.ref 138), some (.int 0)]) (st1 := [.int (Int32.ofNat 5 - 5), .int 0]) (M1 := mm_F0) (bc1 := 0) (bs1 := 0) (fun f => rfl) ?_
  refine mm_c_cmp_gt_f rfl (by decide) ?_
  refine mm_seg (n := n + 89) 5 (z1 := 0) (pc1 := 32) (ls1 := [some (.ref 0), some (.ref 100), some (.ref 138), some (.int 0)]) (st1 := [.int (a &&& 63)]) (M1 := mm_F0) (bc1 := 0) (bs1 := 0) (fun f => rfl) ?_
  rw [ha]
  refine mm_seg (n := n + 82) 7 (z1 := 0) (pc1 := 308) (ls1 := [some (.ref 0), some (.ref 100), some (.ref 138), some (.int 0)]) (st1 := [.int b, .ref 100]) (M1 := mm_F0) (bc1 := 0) (bs1 := 0) (fun f => rfl) ?_
  refine mm_c_inv (y := 51) (y0 := 311) (bc1 := 0) (bs1 := 0) (bc2 := 0) (bs2 := 0) (L := [some (.ref 100), some (.int b)]) (rest := []) (r := some (.int w)) (M1 := M1) (fun f => rfl) (mm_mono (fun xs h => by cases h) n 81 _ _ _ _ _ _ _ _ h1) ?_
  refine mm_seg (n := n + 75) 6 (z1 := 0) (pc1 := 317) (ls1 := [some (.ref 0), some (.ref 100), some (.ref 138), some (.int 0)]) (st1 := [.int b, .ref 138, .int w]) (M1 := M1) (bc1 := 0) (bs1 := 0) (fun f => rfl) ?_
  refine mm_c_vir (y := 144) (y0 := 320) (bc1 := 0) (bs1 := 0) (bc2 := 0) (bs2 := 0) (L := [some (.ref 138), some (.int b), none, none]) (rest := [.int w]) (r := some (.int w)) (M1 := M2) rfl rfl hfs rfl (fun f => rfl) (mm_mono (fun xs h => by cases h) n 74 _ _ _ _ _ _ _ _ h2) ?_
  refine mm_c_cmp_eq_t rfl rfl ?_
  exact lx_tail (n + 53) a b c d e M2
theorem lx_5 (a b c d e : Int32) (ha : a &&& 63 = 5) (h : mm_eqI 52 145 [some (.ref 100), some (.int b), some (.int c), none] [some (.ref 138), some (.int b), some (.int c), none]) : ∃ n M1, mm_x (some [a, b, c, d, e]) n 0 18 [some (.ref 0), some (.ref 100), some (.ref 138), some (.int 0)] [] mm_F0 0 0 = some (some (.int 1), M1) := by
  obtain ⟨n, w, M1, M2, h1, h2⟩ := h
  obtain ⟨fs, hfs⟩ := mm_kpx none n _ _ _ _ _ _ _ _ _ h1 138 10 _ rfl
  refine ⟨n + 100, M2, ?_⟩
  refine mm_seg (n := n + 95) 5 (z1 := 0) (pc1 := 23) (ls1 := [some (.ref 0), some (.ref 100), some (.ref 138), some (.int 0)]) (st1 := [.int (Int32.ofNat 5 - 5), .int 0]) (M1 := mm_F0) (bc1 := 0) (bs1 := 0) (fun f => rfl) ?_
  refine mm_c_cmp_gt_f rfl (by decide) ?_
  refine mm_seg (n := n + 89) 5 (z1 := 0) (pc1 := 32) (ls1 := [some (.ref 0), some (.ref 100), some (.ref 138), some (.int 0)]) (st1 := [.int (a &&& 63)]) (M1 := mm_F0) (bc1 := 0) (bs1 := 0) (fun f => rfl) ?_
  rw [ha]
  refine mm_seg (n := n + 77) 12 (z1 := 0) (pc1 := 336) (ls1 := [some (.ref 0), some (.ref 100), some (.ref 138), some (.int 0)]) (st1 := [.int c, .int b, .ref 100]) (M1 := mm_F0) (bc1 := 0) (bs1 := 0) (fun f => rfl) ?_
  refine mm_c_inv (y := 52) (y0 := 339) (bc1 := 0) (bs1 := 0) (bc2 := 0) (bs2 := 0) (L := [some (.ref 100), some (.int b), some (.int c), none]) (rest := []) (r := some (.int w)) (M1 := M1) (fun f => rfl) (mm_mono (fun xs h => by cases h) n 76 _ _ _ _ _ _ _ _ h1) ?_
  refine mm_seg (n := n + 65) 11 (z1 := 0) (pc1 := 350) (ls1 := [some (.ref 0), some (.ref 100), some (.ref 138), some (.int 0)]) (st1 := [.int c, .int b, .ref 138, .int w]) (M1 := M1) (bc1 := 0) (bs1 := 0) (fun f => rfl) ?_
  refine mm_c_vir (y := 145) (y0 := 353) (bc1 := 0) (bs1 := 0) (bc2 := 0) (bs2 := 0) (L := [some (.ref 138), some (.int b), some (.int c), none]) (rest := [.int w]) (r := some (.int w)) (M1 := M2) rfl rfl hfs rfl (fun f => rfl) (mm_mono (fun xs h => by cases h) n 64 _ _ _ _ _ _ _ _ h2) ?_
  refine mm_c_cmp_eq_t rfl rfl ?_
  exact lx_tail (n + 43) a b c d e M2
theorem lx_6 (a b c d e : Int32) (ha : a &&& 63 = 6) (h : mm_eqI 53 148 [some (.ref 100), some (.int b)] [some (.ref 138), some (.int b)]) : ∃ n M1, mm_x (some [a, b, c, d, e]) n 0 18 [some (.ref 0), some (.ref 100), some (.ref 138), some (.int 0)] [] mm_F0 0 0 = some (some (.int 1), M1) := by
  obtain ⟨n, w, M1, M2, h1, h2⟩ := h
  obtain ⟨fs, hfs⟩ := mm_kpx none n _ _ _ _ _ _ _ _ _ h1 138 10 _ rfl
  refine ⟨n + 100, M2, ?_⟩
  refine mm_seg (n := n + 95) 5 (z1 := 0) (pc1 := 23) (ls1 := [some (.ref 0), some (.ref 100), some (.ref 138), some (.int 0)]) (st1 := [.int (Int32.ofNat 5 - 5), .int 0]) (M1 := mm_F0) (bc1 := 0) (bs1 := 0) (fun f => rfl) ?_
  refine mm_c_cmp_gt_f rfl (by decide) ?_
  refine mm_seg (n := n + 89) 5 (z1 := 0) (pc1 := 32) (ls1 := [some (.ref 0), some (.ref 100), some (.ref 138), some (.int 0)]) (st1 := [.int (a &&& 63)]) (M1 := mm_F0) (bc1 := 0) (bs1 := 0) (fun f => rfl) ?_
  rw [ha]
  refine mm_seg (n := n + 82) 7 (z1 := 0) (pc1 := 364) (ls1 := [some (.ref 0), some (.ref 100), some (.ref 138), some (.int 0)]) (st1 := [.int b, .ref 100]) (M1 := mm_F0) (bc1 := 0) (bs1 := 0) (fun f => rfl) ?_
  refine mm_c_inv (y := 53) (y0 := 367) (bc1 := 0) (bs1 := 0) (bc2 := 0) (bs2 := 0) (L := [some (.ref 100), some (.int b)]) (rest := []) (r := some (.int w)) (M1 := M1) (fun f => rfl) (mm_mono (fun xs h => by cases h) n 81 _ _ _ _ _ _ _ _ h1) ?_
  refine mm_seg (n := n + 75) 6 (z1 := 0) (pc1 := 373) (ls1 := [some (.ref 0), some (.ref 100), some (.ref 138), some (.int 0)]) (st1 := [.int b, .ref 138, .int w]) (M1 := M1) (bc1 := 0) (bs1 := 0) (fun f => rfl) ?_
  refine mm_c_vir (y := 148) (y0 := 376) (bc1 := 0) (bs1 := 0) (bc2 := 0) (bs2 := 0) (L := [some (.ref 138), some (.int b)]) (rest := [.int w]) (r := some (.int w)) (M1 := M2) rfl rfl hfs rfl (fun f => rfl) (mm_mono (fun xs h => by cases h) n 74 _ _ _ _ _ _ _ _ h2) ?_
  refine mm_c_cmp_eq_t rfl rfl ?_
  exact lx_tail (n + 53) a b c d e M2
theorem lx_7 (a b c d e : Int32) (ha : a &&& 63 = 7) (h : mm_eqI 54 149 [some (.ref 100), some (.int b), none] [some (.ref 138), some (.int b)]) : ∃ n M1, mm_x (some [a, b, c, d, e]) n 0 18 [some (.ref 0), some (.ref 100), some (.ref 138), some (.int 0)] [] mm_F0 0 0 = some (some (.int 1), M1) := by
  obtain ⟨n, w, M1, M2, h1, h2⟩ := h
  obtain ⟨fs, hfs⟩ := mm_kpx none n _ _ _ _ _ _ _ _ _ h1 138 10 _ rfl
  refine ⟨n + 100, M2, ?_⟩
  refine mm_seg (n := n + 95) 5 (z1 := 0) (pc1 := 23) (ls1 := [some (.ref 0), some (.ref 100), some (.ref 138), some (.int 0)]) (st1 := [.int (Int32.ofNat 5 - 5), .int 0]) (M1 := mm_F0) (bc1 := 0) (bs1 := 0) (fun f => rfl) ?_
  refine mm_c_cmp_gt_f rfl (by decide) ?_
  refine mm_seg (n := n + 89) 5 (z1 := 0) (pc1 := 32) (ls1 := [some (.ref 0), some (.ref 100), some (.ref 138), some (.int 0)]) (st1 := [.int (a &&& 63)]) (M1 := mm_F0) (bc1 := 0) (bs1 := 0) (fun f => rfl) ?_
  rw [ha]
  refine mm_seg (n := n + 82) 7 (z1 := 0) (pc1 := 387) (ls1 := [some (.ref 0), some (.ref 100), some (.ref 138), some (.int 0)]) (st1 := [.int b, .ref 100]) (M1 := mm_F0) (bc1 := 0) (bs1 := 0) (fun f => rfl) ?_
  refine mm_c_inv (y := 54) (y0 := 390) (bc1 := 0) (bs1 := 0) (bc2 := 0) (bs2 := 0) (L := [some (.ref 100), some (.int b), none]) (rest := []) (r := some (.int w)) (M1 := M1) (fun f => rfl) (mm_mono (fun xs h => by cases h) n 81 _ _ _ _ _ _ _ _ h1) ?_
  refine mm_seg (n := n + 75) 6 (z1 := 0) (pc1 := 396) (ls1 := [some (.ref 0), some (.ref 100), some (.ref 138), some (.int 0)]) (st1 := [.int b, .ref 138, .int w]) (M1 := M1) (bc1 := 0) (bs1 := 0) (fun f => rfl) ?_
  refine mm_c_vir (y := 149) (y0 := 399) (bc1 := 0) (bs1 := 0) (bc2 := 0) (bs2 := 0) (L := [some (.ref 138), some (.int b)]) (rest := [.int w]) (r := some (.int w)) (M1 := M2) rfl rfl hfs rfl (fun f => rfl) (mm_mono (fun xs h => by cases h) n 74 _ _ _ _ _ _ _ _ h2) ?_
  refine mm_c_cmp_eq_t rfl rfl ?_
  exact lx_tail (n + 53) a b c d e M2
theorem lx_8 (a b c d e : Int32) (ha : a &&& 63 = 8) (h : mm_eqI 55 150 [some (.ref 100), some (.int b), none] [some (.ref 138), some (.int b)]) : ∃ n M1, mm_x (some [a, b, c, d, e]) n 0 18 [some (.ref 0), some (.ref 100), some (.ref 138), some (.int 0)] [] mm_F0 0 0 = some (some (.int 1), M1) := by
  obtain ⟨n, w, M1, M2, h1, h2⟩ := h
  obtain ⟨fs, hfs⟩ := mm_kpx none n _ _ _ _ _ _ _ _ _ h1 138 10 _ rfl
  refine ⟨n + 100, M2, ?_⟩
  refine mm_seg (n := n + 95) 5 (z1 := 0) (pc1 := 23) (ls1 := [some (.ref 0), some (.ref 100), some (.ref 138), some (.int 0)]) (st1 := [.int (Int32.ofNat 5 - 5), .int 0]) (M1 := mm_F0) (bc1 := 0) (bs1 := 0) (fun f => rfl) ?_
  refine mm_c_cmp_gt_f rfl (by decide) ?_
  refine mm_seg (n := n + 89) 5 (z1 := 0) (pc1 := 32) (ls1 := [some (.ref 0), some (.ref 100), some (.ref 138), some (.int 0)]) (st1 := [.int (a &&& 63)]) (M1 := mm_F0) (bc1 := 0) (bs1 := 0) (fun f => rfl) ?_
  rw [ha]
  refine mm_seg (n := n + 82) 7 (z1 := 0) (pc1 := 410) (ls1 := [some (.ref 0), some (.ref 100), some (.ref 138), some (.int 0)]) (st1 := [.int b, .ref 100]) (M1 := mm_F0) (bc1 := 0) (bs1 := 0) (fun f => rfl) ?_
  refine mm_c_inv (y := 55) (y0 := 413) (bc1 := 0) (bs1 := 0) (bc2 := 0) (bs2 := 0) (L := [some (.ref 100), some (.int b), none]) (rest := []) (r := some (.int w)) (M1 := M1) (fun f => rfl) (mm_mono (fun xs h => by cases h) n 81 _ _ _ _ _ _ _ _ h1) ?_
  refine mm_seg (n := n + 75) 6 (z1 := 0) (pc1 := 419) (ls1 := [some (.ref 0), some (.ref 100), some (.ref 138), some (.int 0)]) (st1 := [.int b, .ref 138, .int w]) (M1 := M1) (bc1 := 0) (bs1 := 0) (fun f => rfl) ?_
  refine mm_c_vir (y := 150) (y0 := 422) (bc1 := 0) (bs1 := 0) (bc2 := 0) (bs2 := 0) (L := [some (.ref 138), some (.int b)]) (rest := [.int w]) (r := some (.int w)) (M1 := M2) rfl rfl hfs rfl (fun f => rfl) (mm_mono (fun xs h => by cases h) n 74 _ _ _ _ _ _ _ _ h2) ?_
  refine mm_c_cmp_eq_t rfl rfl ?_
  exact lx_tail (n + 53) a b c d e M2
theorem lx_9 (a b c d e : Int32) (ha : a &&& 63 = 9) (h : mm_eqI 56 151 [some (.ref 100), some (.int b), none] [some (.ref 138), some (.int b), none]) : ∃ n M1, mm_x (some [a, b, c, d, e]) n 0 18 [some (.ref 0), some (.ref 100), some (.ref 138), some (.int 0)] [] mm_F0 0 0 = some (some (.int 1), M1) := by
  obtain ⟨n, w, M1, M2, h1, h2⟩ := h
  obtain ⟨fs, hfs⟩ := mm_kpx none n _ _ _ _ _ _ _ _ _ h1 138 10 _ rfl
  refine ⟨n + 100, M2, ?_⟩
  refine mm_seg (n := n + 95) 5 (z1 := 0) (pc1 := 23) (ls1 := [some (.ref 0), some (.ref 100), some (.ref 138), some (.int 0)]) (st1 := [.int (Int32.ofNat 5 - 5), .int 0]) (M1 := mm_F0) (bc1 := 0) (bs1 := 0) (fun f => rfl) ?_
  refine mm_c_cmp_gt_f rfl (by decide) ?_
  refine mm_seg (n := n + 89) 5 (z1 := 0) (pc1 := 32) (ls1 := [some (.ref 0), some (.ref 100), some (.ref 138), some (.int 0)]) (st1 := [.int (a &&& 63)]) (M1 := mm_F0) (bc1 := 0) (bs1 := 0) (fun f => rfl) ?_
  rw [ha]
  refine mm_seg (n := n + 82) 7 (z1 := 0) (pc1 := 433) (ls1 := [some (.ref 0), some (.ref 100), some (.ref 138), some (.int 0)]) (st1 := [.int b, .ref 100]) (M1 := mm_F0) (bc1 := 0) (bs1 := 0) (fun f => rfl) ?_
  refine mm_c_inv (y := 56) (y0 := 436) (bc1 := 0) (bs1 := 0) (bc2 := 0) (bs2 := 0) (L := [some (.ref 100), some (.int b), none]) (rest := []) (r := some (.int w)) (M1 := M1) (fun f => rfl) (mm_mono (fun xs h => by cases h) n 81 _ _ _ _ _ _ _ _ h1) ?_
  refine mm_seg (n := n + 75) 6 (z1 := 0) (pc1 := 442) (ls1 := [some (.ref 0), some (.ref 100), some (.ref 138), some (.int 0)]) (st1 := [.int b, .ref 138, .int w]) (M1 := M1) (bc1 := 0) (bs1 := 0) (fun f => rfl) ?_
  refine mm_c_vir (y := 151) (y0 := 445) (bc1 := 0) (bs1 := 0) (bc2 := 0) (bs2 := 0) (L := [some (.ref 138), some (.int b), none]) (rest := [.int w]) (r := some (.int w)) (M1 := M2) rfl rfl hfs rfl (fun f => rfl) (mm_mono (fun xs h => by cases h) n 74 _ _ _ _ _ _ _ _ h2) ?_
  refine mm_c_cmp_eq_t rfl rfl ?_
  exact lx_tail (n + 53) a b c d e M2
theorem lx_10 (a b c d e : Int32) (ha : a &&& 63 = 10) (h : mm_eqI 57 152 [some (.ref 100), some (.int b)] [some (.ref 138), some (.int b)]) : ∃ n M1, mm_x (some [a, b, c, d, e]) n 0 18 [some (.ref 0), some (.ref 100), some (.ref 138), some (.int 0)] [] mm_F0 0 0 = some (some (.int 1), M1) := by
  obtain ⟨n, w, M1, M2, h1, h2⟩ := h
  obtain ⟨fs, hfs⟩ := mm_kpx none n _ _ _ _ _ _ _ _ _ h1 138 10 _ rfl
  refine ⟨n + 100, M2, ?_⟩
  refine mm_seg (n := n + 95) 5 (z1 := 0) (pc1 := 23) (ls1 := [some (.ref 0), some (.ref 100), some (.ref 138), some (.int 0)]) (st1 := [.int (Int32.ofNat 5 - 5), .int 0]) (M1 := mm_F0) (bc1 := 0) (bs1 := 0) (fun f => rfl) ?_
  refine mm_c_cmp_gt_f rfl (by decide) ?_
  refine mm_seg (n := n + 89) 5 (z1 := 0) (pc1 := 32) (ls1 := [some (.ref 0), some (.ref 100), some (.ref 138), some (.int 0)]) (st1 := [.int (a &&& 63)]) (M1 := mm_F0) (bc1 := 0) (bs1 := 0) (fun f => rfl) ?_
  rw [ha]
  refine mm_seg (n := n + 82) 7 (z1 := 0) (pc1 := 456) (ls1 := [some (.ref 0), some (.ref 100), some (.ref 138), some (.int 0)]) (st1 := [.int b, .ref 100]) (M1 := mm_F0) (bc1 := 0) (bs1 := 0) (fun f => rfl) ?_
  refine mm_c_inv (y := 57) (y0 := 459) (bc1 := 0) (bs1 := 0) (bc2 := 0) (bs2 := 0) (L := [some (.ref 100), some (.int b)]) (rest := []) (r := some (.int w)) (M1 := M1) (fun f => rfl) (mm_mono (fun xs h => by cases h) n 81 _ _ _ _ _ _ _ _ h1) ?_
  refine mm_seg (n := n + 75) 6 (z1 := 0) (pc1 := 465) (ls1 := [some (.ref 0), some (.ref 100), some (.ref 138), some (.int 0)]) (st1 := [.int b, .ref 138, .int w]) (M1 := M1) (bc1 := 0) (bs1 := 0) (fun f => rfl) ?_
  refine mm_c_vir (y := 152) (y0 := 468) (bc1 := 0) (bs1 := 0) (bc2 := 0) (bs2 := 0) (L := [some (.ref 138), some (.int b)]) (rest := [.int w]) (r := some (.int w)) (M1 := M2) rfl rfl hfs rfl (fun f => rfl) (mm_mono (fun xs h => by cases h) n 74 _ _ _ _ _ _ _ _ h2) ?_
  refine mm_c_cmp_eq_t rfl rfl ?_
  exact lx_tail (n + 53) a b c d e M2
theorem lx_11 (a b c d e : Int32) (ha : a &&& 63 = 11) (h : mm_eqI 59 153 [some (.ref 100), some (.int b), some (.int c), some (.int d), none] [some (.ref 138), some (.int b), some (.int c), some (.int d), none, none]) : ∃ n M1, mm_x (some [a, b, c, d, e]) n 0 18 [some (.ref 0), some (.ref 100), some (.ref 138), some (.int 0)] [] mm_F0 0 0 = some (some (.int 1), M1) := by
  obtain ⟨n, w, M1, M2, h1, h2⟩ := h
  obtain ⟨fs, hfs⟩ := mm_kpx none n _ _ _ _ _ _ _ _ _ h1 138 10 _ rfl
  refine ⟨n + 100, M2, ?_⟩
  refine mm_seg (n := n + 95) 5 (z1 := 0) (pc1 := 23) (ls1 := [some (.ref 0), some (.ref 100), some (.ref 138), some (.int 0)]) (st1 := [.int (Int32.ofNat 5 - 5), .int 0]) (M1 := mm_F0) (bc1 := 0) (bs1 := 0) (fun f => rfl) ?_
  refine mm_c_cmp_gt_f rfl (by decide) ?_
  refine mm_seg (n := n + 89) 5 (z1 := 0) (pc1 := 32) (ls1 := [some (.ref 0), some (.ref 100), some (.ref 138), some (.int 0)]) (st1 := [.int (a &&& 63)]) (M1 := mm_F0) (bc1 := 0) (bs1 := 0) (fun f => rfl) ?_
  rw [ha]
  refine mm_seg (n := n + 72) 17 (z1 := 0) (pc1 := 489) (ls1 := [some (.ref 0), some (.ref 100), some (.ref 138), some (.int 0)]) (st1 := [.int d, .int c, .int b, .ref 100]) (M1 := mm_F0) (bc1 := 0) (bs1 := 0) (fun f => rfl) ?_
  refine mm_c_inv (y := 59) (y0 := 492) (bc1 := 0) (bs1 := 0) (bc2 := 0) (bs2 := 0) (L := [some (.ref 100), some (.int b), some (.int c), some (.int d), none]) (rest := []) (r := some (.int w)) (M1 := M1) (fun f => rfl) (mm_mono (fun xs h => by cases h) n 71 _ _ _ _ _ _ _ _ h1) ?_
  refine mm_seg (n := n + 55) 16 (z1 := 0) (pc1 := 508) (ls1 := [some (.ref 0), some (.ref 100), some (.ref 138), some (.int 0)]) (st1 := [.int d, .int c, .int b, .ref 138, .int w]) (M1 := M1) (bc1 := 0) (bs1 := 0) (fun f => rfl) ?_
  refine mm_c_vir (y := 153) (y0 := 511) (bc1 := 0) (bs1 := 0) (bc2 := 0) (bs2 := 0) (L := [some (.ref 138), some (.int b), some (.int c), some (.int d), none, none]) (rest := [.int w]) (r := some (.int w)) (M1 := M2) rfl rfl hfs rfl (fun f => rfl) (mm_mono (fun xs h => by cases h) n 54 _ _ _ _ _ _ _ _ h2) ?_
  refine mm_c_cmp_eq_t rfl rfl ?_
  exact lx_tail (n + 33) a b c d e M2
theorem lx_12 (a b c d e : Int32) (ha : a &&& 63 = 12) (h : mm_eqI 60 154 [some (.ref 100), some (.int b)] [some (.ref 138), some (.int b)]) : ∃ n M1, mm_x (some [a, b, c, d, e]) n 0 18 [some (.ref 0), some (.ref 100), some (.ref 138), some (.int 0)] [] mm_F0 0 0 = some (some (.int 1), M1) := by
  obtain ⟨n, w, M1, M2, h1, h2⟩ := h
  obtain ⟨fs, hfs⟩ := mm_kpx none n _ _ _ _ _ _ _ _ _ h1 138 10 _ rfl
  refine ⟨n + 100, M2, ?_⟩
  refine mm_seg (n := n + 95) 5 (z1 := 0) (pc1 := 23) (ls1 := [some (.ref 0), some (.ref 100), some (.ref 138), some (.int 0)]) (st1 := [.int (Int32.ofNat 5 - 5), .int 0]) (M1 := mm_F0) (bc1 := 0) (bs1 := 0) (fun f => rfl) ?_
  refine mm_c_cmp_gt_f rfl (by decide) ?_
  refine mm_seg (n := n + 89) 5 (z1 := 0) (pc1 := 32) (ls1 := [some (.ref 0), some (.ref 100), some (.ref 138), some (.int 0)]) (st1 := [.int (a &&& 63)]) (M1 := mm_F0) (bc1 := 0) (bs1 := 0) (fun f => rfl) ?_
  rw [ha]
  refine mm_seg (n := n + 82) 7 (z1 := 0) (pc1 := 522) (ls1 := [some (.ref 0), some (.ref 100), some (.ref 138), some (.int 0)]) (st1 := [.int b, .ref 100]) (M1 := mm_F0) (bc1 := 0) (bs1 := 0) (fun f => rfl) ?_
  refine mm_c_inv (y := 60) (y0 := 525) (bc1 := 0) (bs1 := 0) (bc2 := 0) (bs2 := 0) (L := [some (.ref 100), some (.int b)]) (rest := []) (r := some (.int w)) (M1 := M1) (fun f => rfl) (mm_mono (fun xs h => by cases h) n 81 _ _ _ _ _ _ _ _ h1) ?_
  refine mm_seg (n := n + 75) 6 (z1 := 0) (pc1 := 531) (ls1 := [some (.ref 0), some (.ref 100), some (.ref 138), some (.int 0)]) (st1 := [.int b, .ref 138, .int w]) (M1 := M1) (bc1 := 0) (bs1 := 0) (fun f => rfl) ?_
  refine mm_c_vir (y := 154) (y0 := 534) (bc1 := 0) (bs1 := 0) (bc2 := 0) (bs2 := 0) (L := [some (.ref 138), some (.int b)]) (rest := [.int w]) (r := some (.int w)) (M1 := M2) rfl rfl hfs rfl (fun f => rfl) (mm_mono (fun xs h => by cases h) n 74 _ _ _ _ _ _ _ _ h2) ?_
  refine mm_c_cmp_eq_t rfl rfl ?_
  exact lx_tail (n + 53) a b c d e M2
theorem lx_13 (a b c d e : Int32) (ha : a &&& 63 = 13) (h : mm_eqI 61 155 [some (.ref 100), some (.int b), some (.int c), none] [some (.ref 138), some (.int b), some (.int c), none]) : ∃ n M1, mm_x (some [a, b, c, d, e]) n 0 18 [some (.ref 0), some (.ref 100), some (.ref 138), some (.int 0)] [] mm_F0 0 0 = some (some (.int 1), M1) := by
  obtain ⟨n, w, M1, M2, h1, h2⟩ := h
  obtain ⟨fs, hfs⟩ := mm_kpx none n _ _ _ _ _ _ _ _ _ h1 138 10 _ rfl
  refine ⟨n + 100, M2, ?_⟩
  refine mm_seg (n := n + 95) 5 (z1 := 0) (pc1 := 23) (ls1 := [some (.ref 0), some (.ref 100), some (.ref 138), some (.int 0)]) (st1 := [.int (Int32.ofNat 5 - 5), .int 0]) (M1 := mm_F0) (bc1 := 0) (bs1 := 0) (fun f => rfl) ?_
  refine mm_c_cmp_gt_f rfl (by decide) ?_
  refine mm_seg (n := n + 89) 5 (z1 := 0) (pc1 := 32) (ls1 := [some (.ref 0), some (.ref 100), some (.ref 138), some (.int 0)]) (st1 := [.int (a &&& 63)]) (M1 := mm_F0) (bc1 := 0) (bs1 := 0) (fun f => rfl) ?_
  rw [ha]
  refine mm_seg (n := n + 77) 12 (z1 := 0) (pc1 := 550) (ls1 := [some (.ref 0), some (.ref 100), some (.ref 138), some (.int 0)]) (st1 := [.int c, .int b, .ref 100]) (M1 := mm_F0) (bc1 := 0) (bs1 := 0) (fun f => rfl) ?_
  refine mm_c_inv (y := 61) (y0 := 553) (bc1 := 0) (bs1 := 0) (bc2 := 0) (bs2 := 0) (L := [some (.ref 100), some (.int b), some (.int c), none]) (rest := []) (r := some (.int w)) (M1 := M1) (fun f => rfl) (mm_mono (fun xs h => by cases h) n 76 _ _ _ _ _ _ _ _ h1) ?_
  refine mm_seg (n := n + 65) 11 (z1 := 0) (pc1 := 564) (ls1 := [some (.ref 0), some (.ref 100), some (.ref 138), some (.int 0)]) (st1 := [.int c, .int b, .ref 138, .int w]) (M1 := M1) (bc1 := 0) (bs1 := 0) (fun f => rfl) ?_
  refine mm_c_vir (y := 155) (y0 := 567) (bc1 := 0) (bs1 := 0) (bc2 := 0) (bs2 := 0) (L := [some (.ref 138), some (.int b), some (.int c), none]) (rest := [.int w]) (r := some (.int w)) (M1 := M2) rfl rfl hfs rfl (fun f => rfl) (mm_mono (fun xs h => by cases h) n 64 _ _ _ _ _ _ _ _ h2) ?_
  refine mm_c_cmp_eq_t rfl rfl ?_
  exact lx_tail (n + 43) a b c d e M2
theorem lx_14 (a b c d e : Int32) (ha : a &&& 63 = 14) (h : mm_eqI 65 158 [some (.ref 100), some (.int b), some (.int c), none] [some (.ref 138), some (.int b), some (.int c), none]) : ∃ n M1, mm_x (some [a, b, c, d, e]) n 0 18 [some (.ref 0), some (.ref 100), some (.ref 138), some (.int 0)] [] mm_F0 0 0 = some (some (.int 1), M1) := by
  obtain ⟨n, w, M1, M2, h1, h2⟩ := h
  obtain ⟨fs, hfs⟩ := mm_kpx none n _ _ _ _ _ _ _ _ _ h1 138 10 _ rfl
  refine ⟨n + 100, M2, ?_⟩
  refine mm_seg (n := n + 95) 5 (z1 := 0) (pc1 := 23) (ls1 := [some (.ref 0), some (.ref 100), some (.ref 138), some (.int 0)]) (st1 := [.int (Int32.ofNat 5 - 5), .int 0]) (M1 := mm_F0) (bc1 := 0) (bs1 := 0) (fun f => rfl) ?_
  refine mm_c_cmp_gt_f rfl (by decide) ?_
  refine mm_seg (n := n + 89) 5 (z1 := 0) (pc1 := 32) (ls1 := [some (.ref 0), some (.ref 100), some (.ref 138), some (.int 0)]) (st1 := [.int (a &&& 63)]) (M1 := mm_F0) (bc1 := 0) (bs1 := 0) (fun f => rfl) ?_
  rw [ha]
  refine mm_seg (n := n + 77) 12 (z1 := 0) (pc1 := 583) (ls1 := [some (.ref 0), some (.ref 100), some (.ref 138), some (.int 0)]) (st1 := [.int c, .int b, .ref 100]) (M1 := mm_F0) (bc1 := 0) (bs1 := 0) (fun f => rfl) ?_
  refine mm_c_inv (y := 65) (y0 := 586) (bc1 := 0) (bs1 := 0) (bc2 := 0) (bs2 := 0) (L := [some (.ref 100), some (.int b), some (.int c), none]) (rest := []) (r := some (.int w)) (M1 := M1) (fun f => rfl) (mm_mono (fun xs h => by cases h) n 76 _ _ _ _ _ _ _ _ h1) ?_
  refine mm_seg (n := n + 65) 11 (z1 := 0) (pc1 := 597) (ls1 := [some (.ref 0), some (.ref 100), some (.ref 138), some (.int 0)]) (st1 := [.int c, .int b, .ref 138, .int w]) (M1 := M1) (bc1 := 0) (bs1 := 0) (fun f => rfl) ?_
  refine mm_c_vir (y := 158) (y0 := 600) (bc1 := 0) (bs1 := 0) (bc2 := 0) (bs2 := 0) (L := [some (.ref 138), some (.int b), some (.int c), none]) (rest := [.int w]) (r := some (.int w)) (M1 := M2) rfl rfl hfs rfl (fun f => rfl) (mm_mono (fun xs h => by cases h) n 64 _ _ _ _ _ _ _ _ h2) ?_
  refine mm_c_cmp_eq_t rfl rfl ?_
  exact lx_tail (n + 43) a b c d e M2
theorem lx_15 (a b c d e : Int32) (ha : a &&& 63 = 15) (h : mm_eqI 66 159 [some (.ref 100), some (.int b), none] [some (.ref 138), some (.int b)]) : ∃ n M1, mm_x (some [a, b, c, d, e]) n 0 18 [some (.ref 0), some (.ref 100), some (.ref 138), some (.int 0)] [] mm_F0 0 0 = some (some (.int 1), M1) := by
  obtain ⟨n, w, M1, M2, h1, h2⟩ := h
  obtain ⟨fs, hfs⟩ := mm_kpx none n _ _ _ _ _ _ _ _ _ h1 138 10 _ rfl
  refine ⟨n + 100, M2, ?_⟩
  refine mm_seg (n := n + 95) 5 (z1 := 0) (pc1 := 23) (ls1 := [some (.ref 0), some (.ref 100), some (.ref 138), some (.int 0)]) (st1 := [.int (Int32.ofNat 5 - 5), .int 0]) (M1 := mm_F0) (bc1 := 0) (bs1 := 0) (fun f => rfl) ?_
  refine mm_c_cmp_gt_f rfl (by decide) ?_
  refine mm_seg (n := n + 89) 5 (z1 := 0) (pc1 := 32) (ls1 := [some (.ref 0), some (.ref 100), some (.ref 138), some (.int 0)]) (st1 := [.int (a &&& 63)]) (M1 := mm_F0) (bc1 := 0) (bs1 := 0) (fun f => rfl) ?_
  rw [ha]
  refine mm_seg (n := n + 82) 7 (z1 := 0) (pc1 := 611) (ls1 := [some (.ref 0), some (.ref 100), some (.ref 138), some (.int 0)]) (st1 := [.int b, .ref 100]) (M1 := mm_F0) (bc1 := 0) (bs1 := 0) (fun f => rfl) ?_
  refine mm_c_inv (y := 66) (y0 := 614) (bc1 := 0) (bs1 := 0) (bc2 := 0) (bs2 := 0) (L := [some (.ref 100), some (.int b), none]) (rest := []) (r := some (.int w)) (M1 := M1) (fun f => rfl) (mm_mono (fun xs h => by cases h) n 81 _ _ _ _ _ _ _ _ h1) ?_
  refine mm_seg (n := n + 75) 6 (z1 := 0) (pc1 := 620) (ls1 := [some (.ref 0), some (.ref 100), some (.ref 138), some (.int 0)]) (st1 := [.int b, .ref 138, .int w]) (M1 := M1) (bc1 := 0) (bs1 := 0) (fun f => rfl) ?_
  refine mm_c_vir (y := 159) (y0 := 623) (bc1 := 0) (bs1 := 0) (bc2 := 0) (bs2 := 0) (L := [some (.ref 138), some (.int b)]) (rest := [.int w]) (r := some (.int w)) (M1 := M2) rfl rfl hfs rfl (fun f => rfl) (mm_mono (fun xs h => by cases h) n 74 _ _ _ _ _ _ _ _ h2) ?_
  refine mm_c_cmp_eq_t rfl rfl ?_
  exact lx_tail (n + 53) a b c d e M2
theorem lx_16 (a b c d e : Int32) (ha : a &&& 63 = 16) (h : mm_eqI 68 161 [some (.ref 100), some (.int b), none] [some (.ref 138), some (.int b)]) : ∃ n M1, mm_x (some [a, b, c, d, e]) n 0 18 [some (.ref 0), some (.ref 100), some (.ref 138), some (.int 0)] [] mm_F0 0 0 = some (some (.int 1), M1) := by
  obtain ⟨n, w, M1, M2, h1, h2⟩ := h
  obtain ⟨fs, hfs⟩ := mm_kpx none n _ _ _ _ _ _ _ _ _ h1 138 10 _ rfl
  refine ⟨n + 100, M2, ?_⟩
  refine mm_seg (n := n + 95) 5 (z1 := 0) (pc1 := 23) (ls1 := [some (.ref 0), some (.ref 100), some (.ref 138), some (.int 0)]) (st1 := [.int (Int32.ofNat 5 - 5), .int 0]) (M1 := mm_F0) (bc1 := 0) (bs1 := 0) (fun f => rfl) ?_
  refine mm_c_cmp_gt_f rfl (by decide) ?_
  refine mm_seg (n := n + 89) 5 (z1 := 0) (pc1 := 32) (ls1 := [some (.ref 0), some (.ref 100), some (.ref 138), some (.int 0)]) (st1 := [.int (a &&& 63)]) (M1 := mm_F0) (bc1 := 0) (bs1 := 0) (fun f => rfl) ?_
  rw [ha]
  refine mm_seg (n := n + 82) 7 (z1 := 0) (pc1 := 634) (ls1 := [some (.ref 0), some (.ref 100), some (.ref 138), some (.int 0)]) (st1 := [.int b, .ref 100]) (M1 := mm_F0) (bc1 := 0) (bs1 := 0) (fun f => rfl) ?_
  refine mm_c_inv (y := 68) (y0 := 637) (bc1 := 0) (bs1 := 0) (bc2 := 0) (bs2 := 0) (L := [some (.ref 100), some (.int b), none]) (rest := []) (r := some (.int w)) (M1 := M1) (fun f => rfl) (mm_mono (fun xs h => by cases h) n 81 _ _ _ _ _ _ _ _ h1) ?_
  refine mm_seg (n := n + 75) 6 (z1 := 0) (pc1 := 643) (ls1 := [some (.ref 0), some (.ref 100), some (.ref 138), some (.int 0)]) (st1 := [.int b, .ref 138, .int w]) (M1 := M1) (bc1 := 0) (bs1 := 0) (fun f => rfl) ?_
  refine mm_c_vir (y := 161) (y0 := 646) (bc1 := 0) (bs1 := 0) (bc2 := 0) (bs2 := 0) (L := [some (.ref 138), some (.int b)]) (rest := [.int w]) (r := some (.int w)) (M1 := M2) rfl rfl hfs rfl (fun f => rfl) (mm_mono (fun xs h => by cases h) n 74 _ _ _ _ _ _ _ _ h2) ?_
  refine mm_c_cmp_eq_t rfl rfl ?_
  exact lx_tail (n + 53) a b c d e M2
theorem lx_17 (a b c d e : Int32) (ha : a &&& 63 = 17) (h : mm_eqI 72 164 [some (.ref 100), none, none, none, none] [some (.ref 138), none, none, none]) : ∃ n M1, mm_x (some [a, b, c, d, e]) n 0 18 [some (.ref 0), some (.ref 100), some (.ref 138), some (.int 0)] [] mm_F0 0 0 = some (some (.int 1), M1) := by
  obtain ⟨n, w, M1, M2, h1, h2⟩ := h
  obtain ⟨fs, hfs⟩ := mm_kpx none n _ _ _ _ _ _ _ _ _ h1 138 10 _ rfl
  refine ⟨n + 100, M2, ?_⟩
  refine mm_seg (n := n + 95) 5 (z1 := 0) (pc1 := 23) (ls1 := [some (.ref 0), some (.ref 100), some (.ref 138), some (.int 0)]) (st1 := [.int (Int32.ofNat 5 - 5), .int 0]) (M1 := mm_F0) (bc1 := 0) (bs1 := 0) (fun f => rfl) ?_
  refine mm_c_cmp_gt_f rfl (by decide) ?_
  refine mm_seg (n := n + 89) 5 (z1 := 0) (pc1 := 32) (ls1 := [some (.ref 0), some (.ref 100), some (.ref 138), some (.int 0)]) (st1 := [.int (a &&& 63)]) (M1 := mm_F0) (bc1 := 0) (bs1 := 0) (fun f => rfl) ?_
  rw [ha]
  refine mm_seg (n := n + 87) 2 (z1 := 0) (pc1 := 652) (ls1 := [some (.ref 0), some (.ref 100), some (.ref 138), some (.int 0)]) (st1 := [.ref 100]) (M1 := mm_F0) (bc1 := 0) (bs1 := 0) (fun f => rfl) ?_
  refine mm_c_inv (y := 72) (y0 := 655) (bc1 := 0) (bs1 := 0) (bc2 := 0) (bs2 := 0) (L := [some (.ref 100), none, none, none, none]) (rest := []) (r := some (.int w)) (M1 := M1) (fun f => rfl) (mm_mono (fun xs h => by cases h) n 86 _ _ _ _ _ _ _ _ h1) ?_
  refine mm_seg (n := n + 85) 1 (z1 := 0) (pc1 := 656) (ls1 := [some (.ref 0), some (.ref 100), some (.ref 138), some (.int 0)]) (st1 := [.ref 138, .int w]) (M1 := M1) (bc1 := 0) (bs1 := 0) (fun f => rfl) ?_
  refine mm_c_vir (y := 164) (y0 := 659) (bc1 := 0) (bs1 := 0) (bc2 := 0) (bs2 := 0) (L := [some (.ref 138), none, none, none]) (rest := [.int w]) (r := some (.int w)) (M1 := M2) rfl rfl hfs rfl (fun f => rfl) (mm_mono (fun xs h => by cases h) n 84 _ _ _ _ _ _ _ _ h2) ?_
  refine mm_c_cmp_eq_t rfl rfl ?_
  exact lx_tail (n + 63) a b c d e M2
theorem lx_18 (a b c d e : Int32) (ha : a &&& 63 = 18) (h : mm_eqI 73 165 [some (.ref 100), some (.int b), some (.int c), none, none] [some (.ref 138), some (.int b), some (.int c), none, none, none, none, none]) : ∃ n M1, mm_x (some [a, b, c, d, e]) n 0 18 [some (.ref 0), some (.ref 100), some (.ref 138), some (.int 0)] [] mm_F0 0 0 = some (some (.int 1), M1) := by
  obtain ⟨n, w, M1, M2, h1, h2⟩ := h
  obtain ⟨fs, hfs⟩ := mm_kpx none n _ _ _ _ _ _ _ _ _ h1 138 10 _ rfl
  refine ⟨n + 100, M2, ?_⟩
  refine mm_seg (n := n + 95) 5 (z1 := 0) (pc1 := 23) (ls1 := [some (.ref 0), some (.ref 100), some (.ref 138), some (.int 0)]) (st1 := [.int (Int32.ofNat 5 - 5), .int 0]) (M1 := mm_F0) (bc1 := 0) (bs1 := 0) (fun f => rfl) ?_
  refine mm_c_cmp_gt_f rfl (by decide) ?_
  refine mm_seg (n := n + 89) 5 (z1 := 0) (pc1 := 32) (ls1 := [some (.ref 0), some (.ref 100), some (.ref 138), some (.int 0)]) (st1 := [.int (a &&& 63)]) (M1 := mm_F0) (bc1 := 0) (bs1 := 0) (fun f => rfl) ?_
  rw [ha]
  refine mm_seg (n := n + 77) 12 (z1 := 0) (pc1 := 675) (ls1 := [some (.ref 0), some (.ref 100), some (.ref 138), some (.int 0)]) (st1 := [.int c, .int b, .ref 100]) (M1 := mm_F0) (bc1 := 0) (bs1 := 0) (fun f => rfl) ?_
  refine mm_c_inv (y := 73) (y0 := 678) (bc1 := 0) (bs1 := 0) (bc2 := 0) (bs2 := 0) (L := [some (.ref 100), some (.int b), some (.int c), none, none]) (rest := []) (r := some (.int w)) (M1 := M1) (fun f => rfl) (mm_mono (fun xs h => by cases h) n 76 _ _ _ _ _ _ _ _ h1) ?_
  refine mm_seg (n := n + 65) 11 (z1 := 0) (pc1 := 689) (ls1 := [some (.ref 0), some (.ref 100), some (.ref 138), some (.int 0)]) (st1 := [.int c, .int b, .ref 138, .int w]) (M1 := M1) (bc1 := 0) (bs1 := 0) (fun f => rfl) ?_
  refine mm_c_vir (y := 165) (y0 := 692) (bc1 := 0) (bs1 := 0) (bc2 := 0) (bs2 := 0) (L := [some (.ref 138), some (.int b), some (.int c), none, none, none, none, none]) (rest := [.int w]) (r := some (.int w)) (M1 := M2) rfl rfl hfs rfl (fun f => rfl) (mm_mono (fun xs h => by cases h) n 64 _ _ _ _ _ _ _ _ h2) ?_
  refine mm_c_cmp_eq_t rfl rfl ?_
  exact lx_tail (n + 43) a b c d e M2
theorem lx_19 (a b c d e : Int32) (ha : a &&& 63 = 19) (h : mm_eqI 75 166 [some (.ref 100), none, none] [some (.ref 138), none, none, none, none]) : ∃ n M1, mm_x (some [a, b, c, d, e]) n 0 18 [some (.ref 0), some (.ref 100), some (.ref 138), some (.int 0)] [] mm_F0 0 0 = some (some (.int 1), M1) := by
  obtain ⟨n, w, M1, M2, h1, h2⟩ := h
  obtain ⟨fs, hfs⟩ := mm_kpx none n _ _ _ _ _ _ _ _ _ h1 138 10 _ rfl
  refine ⟨n + 100, M2, ?_⟩
  refine mm_seg (n := n + 95) 5 (z1 := 0) (pc1 := 23) (ls1 := [some (.ref 0), some (.ref 100), some (.ref 138), some (.int 0)]) (st1 := [.int (Int32.ofNat 5 - 5), .int 0]) (M1 := mm_F0) (bc1 := 0) (bs1 := 0) (fun f => rfl) ?_
  refine mm_c_cmp_gt_f rfl (by decide) ?_
  refine mm_seg (n := n + 89) 5 (z1 := 0) (pc1 := 32) (ls1 := [some (.ref 0), some (.ref 100), some (.ref 138), some (.int 0)]) (st1 := [.int (a &&& 63)]) (M1 := mm_F0) (bc1 := 0) (bs1 := 0) (fun f => rfl) ?_
  rw [ha]
  refine mm_seg (n := n + 87) 2 (z1 := 0) (pc1 := 698) (ls1 := [some (.ref 0), some (.ref 100), some (.ref 138), some (.int 0)]) (st1 := [.ref 100]) (M1 := mm_F0) (bc1 := 0) (bs1 := 0) (fun f => rfl) ?_
  refine mm_c_inv (y := 75) (y0 := 701) (bc1 := 0) (bs1 := 0) (bc2 := 0) (bs2 := 0) (L := [some (.ref 100), none, none]) (rest := []) (r := some (.int w)) (M1 := M1) (fun f => rfl) (mm_mono (fun xs h => by cases h) n 86 _ _ _ _ _ _ _ _ h1) ?_
  refine mm_seg (n := n + 85) 1 (z1 := 0) (pc1 := 702) (ls1 := [some (.ref 0), some (.ref 100), some (.ref 138), some (.int 0)]) (st1 := [.ref 138, .int w]) (M1 := M1) (bc1 := 0) (bs1 := 0) (fun f => rfl) ?_
  refine mm_c_vir (y := 166) (y0 := 705) (bc1 := 0) (bs1 := 0) (bc2 := 0) (bs2 := 0) (L := [some (.ref 138), none, none, none, none]) (rest := [.int w]) (r := some (.int w)) (M1 := M2) rfl rfl hfs rfl (fun f => rfl) (mm_mono (fun xs h => by cases h) n 84 _ _ _ _ _ _ _ _ h2) ?_
  refine mm_c_cmp_eq_t rfl rfl ?_
  exact lx_tail (n + 63) a b c d e M2
theorem lx_20 (a b c d e : Int32) (ha : a &&& 63 = 20) (h : mm_eqI 78 171 [some (.ref 100), none, none] [some (.ref 138), none, none, none, none]) : ∃ n M1, mm_x (some [a, b, c, d, e]) n 0 18 [some (.ref 0), some (.ref 100), some (.ref 138), some (.int 0)] [] mm_F0 0 0 = some (some (.int 1), M1) := by
  obtain ⟨n, w, M1, M2, h1, h2⟩ := h
  obtain ⟨fs, hfs⟩ := mm_kpx none n _ _ _ _ _ _ _ _ _ h1 138 10 _ rfl
  refine ⟨n + 100, M2, ?_⟩
  refine mm_seg (n := n + 95) 5 (z1 := 0) (pc1 := 23) (ls1 := [some (.ref 0), some (.ref 100), some (.ref 138), some (.int 0)]) (st1 := [.int (Int32.ofNat 5 - 5), .int 0]) (M1 := mm_F0) (bc1 := 0) (bs1 := 0) (fun f => rfl) ?_
  refine mm_c_cmp_gt_f rfl (by decide) ?_
  refine mm_seg (n := n + 89) 5 (z1 := 0) (pc1 := 32) (ls1 := [some (.ref 0), some (.ref 100), some (.ref 138), some (.int 0)]) (st1 := [.int (a &&& 63)]) (M1 := mm_F0) (bc1 := 0) (bs1 := 0) (fun f => rfl) ?_
  rw [ha]
  refine mm_seg (n := n + 87) 2 (z1 := 0) (pc1 := 711) (ls1 := [some (.ref 0), some (.ref 100), some (.ref 138), some (.int 0)]) (st1 := [.ref 100]) (M1 := mm_F0) (bc1 := 0) (bs1 := 0) (fun f => rfl) ?_
  refine mm_c_inv (y := 78) (y0 := 714) (bc1 := 0) (bs1 := 0) (bc2 := 0) (bs2 := 0) (L := [some (.ref 100), none, none]) (rest := []) (r := some (.int w)) (M1 := M1) (fun f => rfl) (mm_mono (fun xs h => by cases h) n 86 _ _ _ _ _ _ _ _ h1) ?_
  refine mm_seg (n := n + 85) 1 (z1 := 0) (pc1 := 715) (ls1 := [some (.ref 0), some (.ref 100), some (.ref 138), some (.int 0)]) (st1 := [.ref 138, .int w]) (M1 := M1) (bc1 := 0) (bs1 := 0) (fun f => rfl) ?_
  refine mm_c_vir (y := 171) (y0 := 718) (bc1 := 0) (bs1 := 0) (bc2 := 0) (bs2 := 0) (L := [some (.ref 138), none, none, none, none]) (rest := [.int w]) (r := some (.int w)) (M1 := M2) rfl rfl hfs rfl (fun f => rfl) (mm_mono (fun xs h => by cases h) n 84 _ _ _ _ _ _ _ _ h2) ?_
  refine mm_c_cmp_eq_t rfl rfl ?_
  exact lx_tail (n + 63) a b c d e M2
theorem lx_21 (a b c d e : Int32) (ha : a &&& 63 = 21) (h : mm_eqI 79 172 [some (.ref 100), none, none] [some (.ref 138), none, none, none, none]) : ∃ n M1, mm_x (some [a, b, c, d, e]) n 0 18 [some (.ref 0), some (.ref 100), some (.ref 138), some (.int 0)] [] mm_F0 0 0 = some (some (.int 1), M1) := by
  obtain ⟨n, w, M1, M2, h1, h2⟩ := h
  obtain ⟨fs, hfs⟩ := mm_kpx none n _ _ _ _ _ _ _ _ _ h1 138 10 _ rfl
  refine ⟨n + 100, M2, ?_⟩
  refine mm_seg (n := n + 95) 5 (z1 := 0) (pc1 := 23) (ls1 := [some (.ref 0), some (.ref 100), some (.ref 138), some (.int 0)]) (st1 := [.int (Int32.ofNat 5 - 5), .int 0]) (M1 := mm_F0) (bc1 := 0) (bs1 := 0) (fun f => rfl) ?_
  refine mm_c_cmp_gt_f rfl (by decide) ?_
  refine mm_seg (n := n + 89) 5 (z1 := 0) (pc1 := 32) (ls1 := [some (.ref 0), some (.ref 100), some (.ref 138), some (.int 0)]) (st1 := [.int (a &&& 63)]) (M1 := mm_F0) (bc1 := 0) (bs1 := 0) (fun f => rfl) ?_
  rw [ha]
  refine mm_seg (n := n + 87) 2 (z1 := 0) (pc1 := 724) (ls1 := [some (.ref 0), some (.ref 100), some (.ref 138), some (.int 0)]) (st1 := [.ref 100]) (M1 := mm_F0) (bc1 := 0) (bs1 := 0) (fun f => rfl) ?_
  refine mm_c_inv (y := 79) (y0 := 727) (bc1 := 0) (bs1 := 0) (bc2 := 0) (bs2 := 0) (L := [some (.ref 100), none, none]) (rest := []) (r := some (.int w)) (M1 := M1) (fun f => rfl) (mm_mono (fun xs h => by cases h) n 86 _ _ _ _ _ _ _ _ h1) ?_
  refine mm_seg (n := n + 85) 1 (z1 := 0) (pc1 := 728) (ls1 := [some (.ref 0), some (.ref 100), some (.ref 138), some (.int 0)]) (st1 := [.ref 138, .int w]) (M1 := M1) (bc1 := 0) (bs1 := 0) (fun f => rfl) ?_
  refine mm_c_vir (y := 172) (y0 := 731) (bc1 := 0) (bs1 := 0) (bc2 := 0) (bs2 := 0) (L := [some (.ref 138), none, none, none, none]) (rest := [.int w]) (r := some (.int w)) (M1 := M2) rfl rfl hfs rfl (fun f => rfl) (mm_mono (fun xs h => by cases h) n 84 _ _ _ _ _ _ _ _ h2) ?_
  refine mm_c_cmp_eq_t rfl rfl ?_
  exact lx_tail (n + 63) a b c d e M2
theorem lx_22 (a b c d e : Int32) (ha : a &&& 63 = 22) (h : mm_eqI 80 173 [some (.ref 100), none, none] [some (.ref 138), none]) : ∃ n M1, mm_x (some [a, b, c, d, e]) n 0 18 [some (.ref 0), some (.ref 100), some (.ref 138), some (.int 0)] [] mm_F0 0 0 = some (some (.int 1), M1) := by
  obtain ⟨n, w, M1, M2, h1, h2⟩ := h
  obtain ⟨fs, hfs⟩ := mm_kpx none n _ _ _ _ _ _ _ _ _ h1 138 10 _ rfl
  refine ⟨n + 100, M2, ?_⟩
  refine mm_seg (n := n + 95) 5 (z1 := 0) (pc1 := 23) (ls1 := [some (.ref 0), some (.ref 100), some (.ref 138), some (.int 0)]) (st1 := [.int (Int32.ofNat 5 - 5), .int 0]) (M1 := mm_F0) (bc1 := 0) (bs1 := 0) (fun f => rfl) ?_
  refine mm_c_cmp_gt_f rfl (by decide) ?_
  refine mm_seg (n := n + 89) 5 (z1 := 0) (pc1 := 32) (ls1 := [some (.ref 0), some (.ref 100), some (.ref 138), some (.int 0)]) (st1 := [.int (a &&& 63)]) (M1 := mm_F0) (bc1 := 0) (bs1 := 0) (fun f => rfl) ?_
  rw [ha]
  refine mm_seg (n := n + 87) 2 (z1 := 0) (pc1 := 737) (ls1 := [some (.ref 0), some (.ref 100), some (.ref 138), some (.int 0)]) (st1 := [.ref 100]) (M1 := mm_F0) (bc1 := 0) (bs1 := 0) (fun f => rfl) ?_
  refine mm_c_inv (y := 80) (y0 := 740) (bc1 := 0) (bs1 := 0) (bc2 := 0) (bs2 := 0) (L := [some (.ref 100), none, none]) (rest := []) (r := some (.int w)) (M1 := M1) (fun f => rfl) (mm_mono (fun xs h => by cases h) n 86 _ _ _ _ _ _ _ _ h1) ?_
  refine mm_seg (n := n + 85) 1 (z1 := 0) (pc1 := 741) (ls1 := [some (.ref 0), some (.ref 100), some (.ref 138), some (.int 0)]) (st1 := [.ref 138, .int w]) (M1 := M1) (bc1 := 0) (bs1 := 0) (fun f => rfl) ?_
  refine mm_c_vir (y := 173) (y0 := 744) (bc1 := 0) (bs1 := 0) (bc2 := 0) (bs2 := 0) (L := [some (.ref 138), none]) (rest := [.int w]) (r := some (.int w)) (M1 := M2) rfl rfl hfs rfl (fun f => rfl) (mm_mono (fun xs h => by cases h) n 84 _ _ _ _ _ _ _ _ h2) ?_
  refine mm_c_cmp_eq_t rfl rfl ?_
  exact lx_tail (n + 63) a b c d e M2
theorem lx_23 (a b c d e : Int32) (ha : a &&& 63 = 23) (h : mm_eqI 81 174 [some (.ref 100), some (.int b), none, none] [some (.ref 138), some (.int b), none, none, none, none]) : ∃ n M1, mm_x (some [a, b, c, d, e]) n 0 18 [some (.ref 0), some (.ref 100), some (.ref 138), some (.int 0)] [] mm_F0 0 0 = some (some (.int 1), M1) := by
  obtain ⟨n, w, M1, M2, h1, h2⟩ := h
  obtain ⟨fs, hfs⟩ := mm_kpx none n _ _ _ _ _ _ _ _ _ h1 138 10 _ rfl
  refine ⟨n + 100, M2, ?_⟩
  refine mm_seg (n := n + 95) 5 (z1 := 0) (pc1 := 23) (ls1 := [some (.ref 0), some (.ref 100), some (.ref 138), some (.int 0)]) (st1 := [.int (Int32.ofNat 5 - 5), .int 0]) (M1 := mm_F0) (bc1 := 0) (bs1 := 0) (fun f => rfl) ?_
  refine mm_c_cmp_gt_f rfl (by decide) ?_
  refine mm_seg (n := n + 89) 5 (z1 := 0) (pc1 := 32) (ls1 := [some (.ref 0), some (.ref 100), some (.ref 138), some (.int 0)]) (st1 := [.int (a &&& 63)]) (M1 := mm_F0) (bc1 := 0) (bs1 := 0) (fun f => rfl) ?_
  rw [ha]
  refine mm_seg (n := n + 82) 7 (z1 := 0) (pc1 := 755) (ls1 := [some (.ref 0), some (.ref 100), some (.ref 138), some (.int 0)]) (st1 := [.int b, .ref 100]) (M1 := mm_F0) (bc1 := 0) (bs1 := 0) (fun f => rfl) ?_
  refine mm_c_inv (y := 81) (y0 := 758) (bc1 := 0) (bs1 := 0) (bc2 := 0) (bs2 := 0) (L := [some (.ref 100), some (.int b), none, none]) (rest := []) (r := some (.int w)) (M1 := M1) (fun f => rfl) (mm_mono (fun xs h => by cases h) n 81 _ _ _ _ _ _ _ _ h1) ?_
  refine mm_seg (n := n + 75) 6 (z1 := 0) (pc1 := 764) (ls1 := [some (.ref 0), some (.ref 100), some (.ref 138), some (.int 0)]) (st1 := [.int b, .ref 138, .int w]) (M1 := M1) (bc1 := 0) (bs1 := 0) (fun f => rfl) ?_
  refine mm_c_vir (y := 174) (y0 := 767) (bc1 := 0) (bs1 := 0) (bc2 := 0) (bs2 := 0) (L := [some (.ref 138), some (.int b), none, none, none, none]) (rest := [.int w]) (r := some (.int w)) (M1 := M2) rfl rfl hfs rfl (fun f => rfl) (mm_mono (fun xs h => by cases h) n 74 _ _ _ _ _ _ _ _ h2) ?_
  refine mm_c_cmp_eq_t rfl rfl ?_
  exact lx_tail (n + 53) a b c d e M2
theorem lx_24 (a b c d e : Int32) (ha : a &&& 63 = 24) (h : mm_eqI 83 175 [some (.ref 100), some (.int b), some (.int c), none, none] [some (.ref 138), some (.int b), some (.int c), none, none, none, none]) : ∃ n M1, mm_x (some [a, b, c, d, e]) n 0 18 [some (.ref 0), some (.ref 100), some (.ref 138), some (.int 0)] [] mm_F0 0 0 = some (some (.int 1), M1) := by
  obtain ⟨n, w, M1, M2, h1, h2⟩ := h
  obtain ⟨fs, hfs⟩ := mm_kpx none n _ _ _ _ _ _ _ _ _ h1 138 10 _ rfl
  refine ⟨n + 100, M2, ?_⟩
  refine mm_seg (n := n + 95) 5 (z1 := 0) (pc1 := 23) (ls1 := [some (.ref 0), some (.ref 100), some (.ref 138), some (.int 0)]) (st1 := [.int (Int32.ofNat 5 - 5), .int 0]) (M1 := mm_F0) (bc1 := 0) (bs1 := 0) (fun f => rfl) ?_
  refine mm_c_cmp_gt_f rfl (by decide) ?_
  refine mm_seg (n := n + 89) 5 (z1 := 0) (pc1 := 32) (ls1 := [some (.ref 0), some (.ref 100), some (.ref 138), some (.int 0)]) (st1 := [.int (a &&& 63)]) (M1 := mm_F0) (bc1 := 0) (bs1 := 0) (fun f => rfl) ?_
  rw [ha]
  refine mm_seg (n := n + 77) 12 (z1 := 0) (pc1 := 783) (ls1 := [some (.ref 0), some (.ref 100), some (.ref 138), some (.int 0)]) (st1 := [.int c, .int b, .ref 100]) (M1 := mm_F0) (bc1 := 0) (bs1 := 0) (fun f => rfl) ?_
  refine mm_c_inv (y := 83) (y0 := 786) (bc1 := 0) (bs1 := 0) (bc2 := 0) (bs2 := 0) (L := [some (.ref 100), some (.int b), some (.int c), none, none]) (rest := []) (r := some (.int w)) (M1 := M1) (fun f => rfl) (mm_mono (fun xs h => by cases h) n 76 _ _ _ _ _ _ _ _ h1) ?_
  refine mm_seg (n := n + 65) 11 (z1 := 0) (pc1 := 797) (ls1 := [some (.ref 0), some (.ref 100), some (.ref 138), some (.int 0)]) (st1 := [.int c, .int b, .ref 138, .int w]) (M1 := M1) (bc1 := 0) (bs1 := 0) (fun f => rfl) ?_
  refine mm_c_vir (y := 175) (y0 := 800) (bc1 := 0) (bs1 := 0) (bc2 := 0) (bs2 := 0) (L := [some (.ref 138), some (.int b), some (.int c), none, none, none, none]) (rest := [.int w]) (r := some (.int w)) (M1 := M2) rfl rfl hfs rfl (fun f => rfl) (mm_mono (fun xs h => by cases h) n 64 _ _ _ _ _ _ _ _ h2) ?_
  refine mm_c_cmp_eq_t rfl rfl ?_
  exact lx_tail (n + 43) a b c d e M2
theorem lx_25 (a b c d e : Int32) (ha : a &&& 63 = 25) (h : mm_eqI 84 176 [some (.ref 100), some (.int b)] [some (.ref 138), some (.int b), none, none, none, none, none]) : ∃ n M1, mm_x (some [a, b, c, d, e]) n 0 18 [some (.ref 0), some (.ref 100), some (.ref 138), some (.int 0)] [] mm_F0 0 0 = some (some (.int 1), M1) := by
  obtain ⟨n, w, M1, M2, h1, h2⟩ := h
  obtain ⟨fs, hfs⟩ := mm_kpx none n _ _ _ _ _ _ _ _ _ h1 138 10 _ rfl
  refine ⟨n + 100, M2, ?_⟩
  refine mm_seg (n := n + 95) 5 (z1 := 0) (pc1 := 23) (ls1 := [some (.ref 0), some (.ref 100), some (.ref 138), some (.int 0)]) (st1 := [.int (Int32.ofNat 5 - 5), .int 0]) (M1 := mm_F0) (bc1 := 0) (bs1 := 0) (fun f => rfl) ?_
  refine mm_c_cmp_gt_f rfl (by decide) ?_
  refine mm_seg (n := n + 89) 5 (z1 := 0) (pc1 := 32) (ls1 := [some (.ref 0), some (.ref 100), some (.ref 138), some (.int 0)]) (st1 := [.int (a &&& 63)]) (M1 := mm_F0) (bc1 := 0) (bs1 := 0) (fun f => rfl) ?_
  rw [ha]
  refine mm_seg (n := n + 82) 7 (z1 := 0) (pc1 := 811) (ls1 := [some (.ref 0), some (.ref 100), some (.ref 138), some (.int 0)]) (st1 := [.int b, .ref 100]) (M1 := mm_F0) (bc1 := 0) (bs1 := 0) (fun f => rfl) ?_
  refine mm_c_inv (y := 84) (y0 := 814) (bc1 := 0) (bs1 := 0) (bc2 := 0) (bs2 := 0) (L := [some (.ref 100), some (.int b)]) (rest := []) (r := some (.int w)) (M1 := M1) (fun f => rfl) (mm_mono (fun xs h => by cases h) n 81 _ _ _ _ _ _ _ _ h1) ?_
  refine mm_seg (n := n + 75) 6 (z1 := 0) (pc1 := 820) (ls1 := [some (.ref 0), some (.ref 100), some (.ref 138), some (.int 0)]) (st1 := [.int b, .ref 138, .int w]) (M1 := M1) (bc1 := 0) (bs1 := 0) (fun f => rfl) ?_
  refine mm_c_vir (y := 176) (y0 := 823) (bc1 := 0) (bs1 := 0) (bc2 := 0) (bs2 := 0) (L := [some (.ref 138), some (.int b), none, none, none, none, none]) (rest := [.int w]) (r := some (.int w)) (M1 := M2) rfl rfl hfs rfl (fun f => rfl) (mm_mono (fun xs h => by cases h) n 74 _ _ _ _ _ _ _ _ h2) ?_
  refine mm_c_cmp_eq_t rfl rfl ?_
  exact lx_tail (n + 53) a b c d e M2
theorem lx_26 (a b c d e : Int32) (ha : a &&& 63 = 26) (h : mm_eqI 88 180 [some (.ref 100), some (.int b)] [some (.ref 138), some (.int b), none, none, none]) : ∃ n M1, mm_x (some [a, b, c, d, e]) n 0 18 [some (.ref 0), some (.ref 100), some (.ref 138), some (.int 0)] [] mm_F0 0 0 = some (some (.int 1), M1) := by
  obtain ⟨n, w, M1, M2, h1, h2⟩ := h
  obtain ⟨fs, hfs⟩ := mm_kpx none n _ _ _ _ _ _ _ _ _ h1 138 10 _ rfl
  refine ⟨n + 100, M2, ?_⟩
  refine mm_seg (n := n + 95) 5 (z1 := 0) (pc1 := 23) (ls1 := [some (.ref 0), some (.ref 100), some (.ref 138), some (.int 0)]) (st1 := [.int (Int32.ofNat 5 - 5), .int 0]) (M1 := mm_F0) (bc1 := 0) (bs1 := 0) (fun f => rfl) ?_
  refine mm_c_cmp_gt_f rfl (by decide) ?_
  refine mm_seg (n := n + 89) 5 (z1 := 0) (pc1 := 32) (ls1 := [some (.ref 0), some (.ref 100), some (.ref 138), some (.int 0)]) (st1 := [.int (a &&& 63)]) (M1 := mm_F0) (bc1 := 0) (bs1 := 0) (fun f => rfl) ?_
  rw [ha]
  refine mm_seg (n := n + 82) 7 (z1 := 0) (pc1 := 834) (ls1 := [some (.ref 0), some (.ref 100), some (.ref 138), some (.int 0)]) (st1 := [.int b, .ref 100]) (M1 := mm_F0) (bc1 := 0) (bs1 := 0) (fun f => rfl) ?_
  refine mm_c_inv (y := 88) (y0 := 837) (bc1 := 0) (bs1 := 0) (bc2 := 0) (bs2 := 0) (L := [some (.ref 100), some (.int b)]) (rest := []) (r := some (.int w)) (M1 := M1) (fun f => rfl) (mm_mono (fun xs h => by cases h) n 81 _ _ _ _ _ _ _ _ h1) ?_
  refine mm_seg (n := n + 75) 6 (z1 := 0) (pc1 := 843) (ls1 := [some (.ref 0), some (.ref 100), some (.ref 138), some (.int 0)]) (st1 := [.int b, .ref 138, .int w]) (M1 := M1) (bc1 := 0) (bs1 := 0) (fun f => rfl) ?_
  refine mm_c_vir (y := 180) (y0 := 846) (bc1 := 0) (bs1 := 0) (bc2 := 0) (bs2 := 0) (L := [some (.ref 138), some (.int b), none, none, none]) (rest := [.int w]) (r := some (.int w)) (M1 := M2) rfl rfl hfs rfl (fun f => rfl) (mm_mono (fun xs h => by cases h) n 74 _ _ _ _ _ _ _ _ h2) ?_
  refine mm_c_cmp_eq_t rfl rfl ?_
  exact lx_tail (n + 53) a b c d e M2
theorem lx_27 (a b c d e : Int32) (ha : a &&& 63 = 27) (h : mm_eqI 92 182 [some (.ref 100), some (.int b), some (.int c), some (.int d), none, none, none] [some (.ref 138), some (.int b), some (.int c), some (.int d), none, none, none, none]) : ∃ n M1, mm_x (some [a, b, c, d, e]) n 0 18 [some (.ref 0), some (.ref 100), some (.ref 138), some (.int 0)] [] mm_F0 0 0 = some (some (.int 1), M1) := by
  obtain ⟨n, w, M1, M2, h1, h2⟩ := h
  obtain ⟨fs, hfs⟩ := mm_kpx none n _ _ _ _ _ _ _ _ _ h1 138 10 _ rfl
  refine ⟨n + 100, M2, ?_⟩
  refine mm_seg (n := n + 95) 5 (z1 := 0) (pc1 := 23) (ls1 := [some (.ref 0), some (.ref 100), some (.ref 138), some (.int 0)]) (st1 := [.int (Int32.ofNat 5 - 5), .int 0]) (M1 := mm_F0) (bc1 := 0) (bs1 := 0) (fun f => rfl) ?_
  refine mm_c_cmp_gt_f rfl (by decide) ?_
  refine mm_seg (n := n + 89) 5 (z1 := 0) (pc1 := 32) (ls1 := [some (.ref 0), some (.ref 100), some (.ref 138), some (.int 0)]) (st1 := [.int (a &&& 63)]) (M1 := mm_F0) (bc1 := 0) (bs1 := 0) (fun f => rfl) ?_
  rw [ha]
  refine mm_seg (n := n + 72) 17 (z1 := 0) (pc1 := 867) (ls1 := [some (.ref 0), some (.ref 100), some (.ref 138), some (.int 0)]) (st1 := [.int d, .int c, .int b, .ref 100]) (M1 := mm_F0) (bc1 := 0) (bs1 := 0) (fun f => rfl) ?_
  refine mm_c_inv (y := 92) (y0 := 870) (bc1 := 0) (bs1 := 0) (bc2 := 0) (bs2 := 0) (L := [some (.ref 100), some (.int b), some (.int c), some (.int d), none, none, none]) (rest := []) (r := some (.int w)) (M1 := M1) (fun f => rfl) (mm_mono (fun xs h => by cases h) n 71 _ _ _ _ _ _ _ _ h1) ?_
  refine mm_seg (n := n + 55) 16 (z1 := 0) (pc1 := 886) (ls1 := [some (.ref 0), some (.ref 100), some (.ref 138), some (.int 0)]) (st1 := [.int d, .int c, .int b, .ref 138, .int w]) (M1 := M1) (bc1 := 0) (bs1 := 0) (fun f => rfl) ?_
  refine mm_c_vir (y := 182) (y0 := 889) (bc1 := 0) (bs1 := 0) (bc2 := 0) (bs2 := 0) (L := [some (.ref 138), some (.int b), some (.int c), some (.int d), none, none, none, none]) (rest := [.int w]) (r := some (.int w)) (M1 := M2) rfl rfl hfs rfl (fun f => rfl) (mm_mono (fun xs h => by cases h) n 54 _ _ _ _ _ _ _ _ h2) ?_
  refine mm_c_cmp_eq_t rfl rfl ?_
  exact lx_tail (n + 33) a b c d e M2
theorem lx_28 (a b c d e : Int32) (ha : a &&& 63 = 28) (h : mm_eqL 94 184 [some (.ref 100), some (.int b), some (.int c), some (.int d), some (.int e), none, none, none] [some (.ref 138), some (.int b), some (.int c), some (.int d), some (.int e), none, none, none, none, none, none, none, none]) : ∃ n M1, mm_x (some [a, b, c, d, e]) n 0 18 [some (.ref 0), some (.ref 100), some (.ref 138), some (.int 0)] [] mm_F0 0 0 = some (some (.int 1), M1) := by
  obtain ⟨n, w, M1, M2, h1, h2⟩ := h
  obtain ⟨fs, hfs⟩ := mm_kpx none n _ _ _ _ _ _ _ _ _ h1 138 10 _ rfl
  refine ⟨n + 100, M2, ?_⟩
  refine mm_seg (n := n + 95) 5 (z1 := 0) (pc1 := 23) (ls1 := [some (.ref 0), some (.ref 100), some (.ref 138), some (.int 0)]) (st1 := [.int (Int32.ofNat 5 - 5), .int 0]) (M1 := mm_F0) (bc1 := 0) (bs1 := 0) (fun f => rfl) ?_
  refine mm_c_cmp_gt_f rfl (by decide) ?_
  refine mm_seg (n := n + 89) 5 (z1 := 0) (pc1 := 32) (ls1 := [some (.ref 0), some (.ref 100), some (.ref 138), some (.int 0)]) (st1 := [.int (a &&& 63)]) (M1 := mm_F0) (bc1 := 0) (bs1 := 0) (fun f => rfl) ?_
  rw [ha]
  refine mm_seg (n := n + 67) 22 (z1 := 0) (pc1 := 915) (ls1 := [some (.ref 0), some (.ref 100), some (.ref 138), some (.int 0)]) (st1 := [.int e, .int d, .int c, .int b, .ref 100]) (M1 := mm_F0) (bc1 := 0) (bs1 := 0) (fun f => rfl) ?_
  refine mm_c_inv (y := 94) (y0 := 918) (bc1 := 0) (bs1 := 0) (bc2 := 0) (bs2 := 0) (L := [some (.ref 100), some (.int b), some (.int c), some (.int d), some (.int e), none, none, none]) (rest := []) (r := some (.long w)) (M1 := M1) (fun f => rfl) (mm_mono (fun xs h => by cases h) n 66 _ _ _ _ _ _ _ _ h1) ?_
  refine mm_seg (n := n + 45) 21 (z1 := 0) (pc1 := 939) (ls1 := [some (.ref 0), some (.ref 100), some (.ref 138), some (.int 0)]) (st1 := [.int e, .int d, .int c, .int b, .ref 138, .long w]) (M1 := M1) (bc1 := 0) (bs1 := 0) (fun f => rfl) ?_
  refine mm_c_vir (y := 184) (y0 := 942) (bc1 := 0) (bs1 := 0) (bc2 := 0) (bs2 := 0) (L := [some (.ref 138), some (.int b), some (.int c), some (.int d), some (.int e), none, none, none, none, none, none, none, none]) (rest := [.long w]) (r := some (.long w)) (M1 := M2) rfl rfl hfs rfl (fun f => rfl) (mm_mono (fun xs h => by cases h) n 44 _ _ _ _ _ _ _ _ h2) ?_
  refine mm_seg (n := n + 43) 1 (z1 := 0) (pc1 := 943) (ls1 := [some (.ref 0), some (.ref 100), some (.ref 138), some (.int 0)]) (st1 := [.int (lg_cmp w w)]) (M1 := M2) (bc1 := 0) (bs1 := 0) (fun f => rfl) ?_
  rw [lx_cmp]
  refine mm_c_if_eq_t rfl rfl ?_
  exact lx_tail (n + 22) a b c d e M2
theorem lx_29 (a b c d e : Int32) (ha : a &&& 63 = 29) (h : mm_eqL 101 188 [some (.ref 100), some (.int b), none, none] [some (.ref 138), some (.int b), none, none, none]) : ∃ n M1, mm_x (some [a, b, c, d, e]) n 0 18 [some (.ref 0), some (.ref 100), some (.ref 138), some (.int 0)] [] mm_F0 0 0 = some (some (.int 1), M1) := by
  obtain ⟨n, w, M1, M2, h1, h2⟩ := h
  obtain ⟨fs, hfs⟩ := mm_kpx none n _ _ _ _ _ _ _ _ _ h1 138 10 _ rfl
  refine ⟨n + 100, M2, ?_⟩
  refine mm_seg (n := n + 95) 5 (z1 := 0) (pc1 := 23) (ls1 := [some (.ref 0), some (.ref 100), some (.ref 138), some (.int 0)]) (st1 := [.int (Int32.ofNat 5 - 5), .int 0]) (M1 := mm_F0) (bc1 := 0) (bs1 := 0) (fun f => rfl) ?_
  refine mm_c_cmp_gt_f rfl (by decide) ?_
  refine mm_seg (n := n + 89) 5 (z1 := 0) (pc1 := 32) (ls1 := [some (.ref 0), some (.ref 100), some (.ref 138), some (.int 0)]) (st1 := [.int (a &&& 63)]) (M1 := mm_F0) (bc1 := 0) (bs1 := 0) (fun f => rfl) ?_
  rw [ha]
  refine mm_seg (n := n + 82) 7 (z1 := 0) (pc1 := 954) (ls1 := [some (.ref 0), some (.ref 100), some (.ref 138), some (.int 0)]) (st1 := [.int b, .ref 100]) (M1 := mm_F0) (bc1 := 0) (bs1 := 0) (fun f => rfl) ?_
  refine mm_c_inv (y := 101) (y0 := 957) (bc1 := 0) (bs1 := 0) (bc2 := 0) (bs2 := 0) (L := [some (.ref 100), some (.int b), none, none]) (rest := []) (r := some (.long w)) (M1 := M1) (fun f => rfl) (mm_mono (fun xs h => by cases h) n 81 _ _ _ _ _ _ _ _ h1) ?_
  refine mm_seg (n := n + 75) 6 (z1 := 0) (pc1 := 963) (ls1 := [some (.ref 0), some (.ref 100), some (.ref 138), some (.int 0)]) (st1 := [.int b, .ref 138, .long w]) (M1 := M1) (bc1 := 0) (bs1 := 0) (fun f => rfl) ?_
  refine mm_c_vir (y := 188) (y0 := 966) (bc1 := 0) (bs1 := 0) (bc2 := 0) (bs2 := 0) (L := [some (.ref 138), some (.int b), none, none, none]) (rest := [.long w]) (r := some (.long w)) (M1 := M2) rfl rfl hfs rfl (fun f => rfl) (mm_mono (fun xs h => by cases h) n 74 _ _ _ _ _ _ _ _ h2) ?_
  refine mm_seg (n := n + 73) 1 (z1 := 0) (pc1 := 967) (ls1 := [some (.ref 0), some (.ref 100), some (.ref 138), some (.int 0)]) (st1 := [.int (lg_cmp w w)]) (M1 := M2) (bc1 := 0) (bs1 := 0) (fun f => rfl) ?_
  rw [lx_cmp]
  refine mm_c_if_eq_t rfl rfl ?_
  exact lx_tail (n + 52) a b c d e M2
theorem lx_30 (a b c d e : Int32) (ha : a &&& 63 = 30) (h : mm_eqI 102 189 [some (.ref 100), some (.int b)] [some (.ref 138), some (.int b), none, none]) : ∃ n M1, mm_x (some [a, b, c, d, e]) n 0 18 [some (.ref 0), some (.ref 100), some (.ref 138), some (.int 0)] [] mm_F0 0 0 = some (some (.int 1), M1) := by
  obtain ⟨n, w, M1, M2, h1, h2⟩ := h
  obtain ⟨fs, hfs⟩ := mm_kpx none n _ _ _ _ _ _ _ _ _ h1 138 10 _ rfl
  refine ⟨n + 100, M2, ?_⟩
  refine mm_seg (n := n + 95) 5 (z1 := 0) (pc1 := 23) (ls1 := [some (.ref 0), some (.ref 100), some (.ref 138), some (.int 0)]) (st1 := [.int (Int32.ofNat 5 - 5), .int 0]) (M1 := mm_F0) (bc1 := 0) (bs1 := 0) (fun f => rfl) ?_
  refine mm_c_cmp_gt_f rfl (by decide) ?_
  refine mm_seg (n := n + 89) 5 (z1 := 0) (pc1 := 32) (ls1 := [some (.ref 0), some (.ref 100), some (.ref 138), some (.int 0)]) (st1 := [.int (a &&& 63)]) (M1 := mm_F0) (bc1 := 0) (bs1 := 0) (fun f => rfl) ?_
  rw [ha]
  refine mm_seg (n := n + 82) 7 (z1 := 0) (pc1 := 978) (ls1 := [some (.ref 0), some (.ref 100), some (.ref 138), some (.int 0)]) (st1 := [.int b, .ref 100]) (M1 := mm_F0) (bc1 := 0) (bs1 := 0) (fun f => rfl) ?_
  refine mm_c_inv (y := 102) (y0 := 981) (bc1 := 0) (bs1 := 0) (bc2 := 0) (bs2 := 0) (L := [some (.ref 100), some (.int b)]) (rest := []) (r := some (.int w)) (M1 := M1) (fun f => rfl) (mm_mono (fun xs h => by cases h) n 81 _ _ _ _ _ _ _ _ h1) ?_
  refine mm_seg (n := n + 75) 6 (z1 := 0) (pc1 := 987) (ls1 := [some (.ref 0), some (.ref 100), some (.ref 138), some (.int 0)]) (st1 := [.int b, .ref 138, .int w]) (M1 := M1) (bc1 := 0) (bs1 := 0) (fun f => rfl) ?_
  refine mm_c_vir (y := 189) (y0 := 990) (bc1 := 0) (bs1 := 0) (bc2 := 0) (bs2 := 0) (L := [some (.ref 138), some (.int b), none, none]) (rest := [.int w]) (r := some (.int w)) (M1 := M2) rfl rfl hfs rfl (fun f => rfl) (mm_mono (fun xs h => by cases h) n 74 _ _ _ _ _ _ _ _ h2) ?_
  refine mm_c_cmp_eq_t rfl rfl ?_
  exact lx_tail (n + 53) a b c d e M2
theorem lx_31 (a b c d e : Int32) (ha : a &&& 63 = 31) (h : mm_eqI 106 191 [some (.ref 100), some (.int b)] [some (.ref 138), some (.int b), none]) : ∃ n M1, mm_x (some [a, b, c, d, e]) n 0 18 [some (.ref 0), some (.ref 100), some (.ref 138), some (.int 0)] [] mm_F0 0 0 = some (some (.int 1), M1) := by
  obtain ⟨n, w, M1, M2, h1, h2⟩ := h
  obtain ⟨fs, hfs⟩ := mm_kpx none n _ _ _ _ _ _ _ _ _ h1 138 10 _ rfl
  refine ⟨n + 100, M2, ?_⟩
  refine mm_seg (n := n + 95) 5 (z1 := 0) (pc1 := 23) (ls1 := [some (.ref 0), some (.ref 100), some (.ref 138), some (.int 0)]) (st1 := [.int (Int32.ofNat 5 - 5), .int 0]) (M1 := mm_F0) (bc1 := 0) (bs1 := 0) (fun f => rfl) ?_
  refine mm_c_cmp_gt_f rfl (by decide) ?_
  refine mm_seg (n := n + 89) 5 (z1 := 0) (pc1 := 32) (ls1 := [some (.ref 0), some (.ref 100), some (.ref 138), some (.int 0)]) (st1 := [.int (a &&& 63)]) (M1 := mm_F0) (bc1 := 0) (bs1 := 0) (fun f => rfl) ?_
  rw [ha]
  refine mm_seg (n := n + 82) 7 (z1 := 0) (pc1 := 1001) (ls1 := [some (.ref 0), some (.ref 100), some (.ref 138), some (.int 0)]) (st1 := [.int b, .ref 100]) (M1 := mm_F0) (bc1 := 0) (bs1 := 0) (fun f => rfl) ?_
  refine mm_c_inv (y := 106) (y0 := 1004) (bc1 := 0) (bs1 := 0) (bc2 := 0) (bs2 := 0) (L := [some (.ref 100), some (.int b)]) (rest := []) (r := some (.int w)) (M1 := M1) (fun f => rfl) (mm_mono (fun xs h => by cases h) n 81 _ _ _ _ _ _ _ _ h1) ?_
  refine mm_seg (n := n + 75) 6 (z1 := 0) (pc1 := 1010) (ls1 := [some (.ref 0), some (.ref 100), some (.ref 138), some (.int 0)]) (st1 := [.int b, .ref 138, .int w]) (M1 := M1) (bc1 := 0) (bs1 := 0) (fun f => rfl) ?_
  refine mm_c_vir (y := 191) (y0 := 1013) (bc1 := 0) (bs1 := 0) (bc2 := 0) (bs2 := 0) (L := [some (.ref 138), some (.int b), none]) (rest := [.int w]) (r := some (.int w)) (M1 := M2) rfl rfl hfs rfl (fun f => rfl) (mm_mono (fun xs h => by cases h) n 74 _ _ _ _ _ _ _ _ h2) ?_
  refine mm_c_cmp_eq_t rfl rfl ?_
  exact lx_tail (n + 53) a b c d e M2
theorem lx_32 (a b c d e : Int32) (ha : a &&& 63 = 32) (h : mm_eqI 107 192 [some (.ref 100), none, none] [some (.ref 138), none, none]) : ∃ n M1, mm_x (some [a, b, c, d, e]) n 0 18 [some (.ref 0), some (.ref 100), some (.ref 138), some (.int 0)] [] mm_F0 0 0 = some (some (.int 1), M1) := by
  obtain ⟨n, w, M1, M2, h1, h2⟩ := h
  obtain ⟨fs, hfs⟩ := mm_kpx none n _ _ _ _ _ _ _ _ _ h1 138 10 _ rfl
  refine ⟨n + 100, M2, ?_⟩
  refine mm_seg (n := n + 95) 5 (z1 := 0) (pc1 := 23) (ls1 := [some (.ref 0), some (.ref 100), some (.ref 138), some (.int 0)]) (st1 := [.int (Int32.ofNat 5 - 5), .int 0]) (M1 := mm_F0) (bc1 := 0) (bs1 := 0) (fun f => rfl) ?_
  refine mm_c_cmp_gt_f rfl (by decide) ?_
  refine mm_seg (n := n + 89) 5 (z1 := 0) (pc1 := 32) (ls1 := [some (.ref 0), some (.ref 100), some (.ref 138), some (.int 0)]) (st1 := [.int (a &&& 63)]) (M1 := mm_F0) (bc1 := 0) (bs1 := 0) (fun f => rfl) ?_
  rw [ha]
  refine mm_seg (n := n + 87) 2 (z1 := 0) (pc1 := 1019) (ls1 := [some (.ref 0), some (.ref 100), some (.ref 138), some (.int 0)]) (st1 := [.ref 100]) (M1 := mm_F0) (bc1 := 0) (bs1 := 0) (fun f => rfl) ?_
  refine mm_c_inv (y := 107) (y0 := 1022) (bc1 := 0) (bs1 := 0) (bc2 := 0) (bs2 := 0) (L := [some (.ref 100), none, none]) (rest := []) (r := some (.int w)) (M1 := M1) (fun f => rfl) (mm_mono (fun xs h => by cases h) n 86 _ _ _ _ _ _ _ _ h1) ?_
  refine mm_seg (n := n + 85) 1 (z1 := 0) (pc1 := 1023) (ls1 := [some (.ref 0), some (.ref 100), some (.ref 138), some (.int 0)]) (st1 := [.ref 138, .int w]) (M1 := M1) (bc1 := 0) (bs1 := 0) (fun f => rfl) ?_
  refine mm_c_vir (y := 192) (y0 := 1026) (bc1 := 0) (bs1 := 0) (bc2 := 0) (bs2 := 0) (L := [some (.ref 138), none, none]) (rest := [.int w]) (r := some (.int w)) (M1 := M2) rfl rfl hfs rfl (fun f => rfl) (mm_mono (fun xs h => by cases h) n 84 _ _ _ _ _ _ _ _ h2) ?_
  refine mm_c_cmp_eq_t rfl rfl ?_
  exact lx_tail (n + 63) a b c d e M2
theorem lx_33 (a b c d e : Int32) (ha : a &&& 63 = 33) (h : mm_eqI 108 193 [some (.ref 100), none] [some (.ref 138), none]) : ∃ n M1, mm_x (some [a, b, c, d, e]) n 0 18 [some (.ref 0), some (.ref 100), some (.ref 138), some (.int 0)] [] mm_F0 0 0 = some (some (.int 1), M1) := by
  obtain ⟨n, w, M1, M2, h1, h2⟩ := h
  obtain ⟨fs, hfs⟩ := mm_kpx none n _ _ _ _ _ _ _ _ _ h1 138 10 _ rfl
  refine ⟨n + 100, M2, ?_⟩
  refine mm_seg (n := n + 95) 5 (z1 := 0) (pc1 := 23) (ls1 := [some (.ref 0), some (.ref 100), some (.ref 138), some (.int 0)]) (st1 := [.int (Int32.ofNat 5 - 5), .int 0]) (M1 := mm_F0) (bc1 := 0) (bs1 := 0) (fun f => rfl) ?_
  refine mm_c_cmp_gt_f rfl (by decide) ?_
  refine mm_seg (n := n + 89) 5 (z1 := 0) (pc1 := 32) (ls1 := [some (.ref 0), some (.ref 100), some (.ref 138), some (.int 0)]) (st1 := [.int (a &&& 63)]) (M1 := mm_F0) (bc1 := 0) (bs1 := 0) (fun f => rfl) ?_
  rw [ha]
  refine mm_seg (n := n + 87) 2 (z1 := 0) (pc1 := 1032) (ls1 := [some (.ref 0), some (.ref 100), some (.ref 138), some (.int 0)]) (st1 := [.ref 100]) (M1 := mm_F0) (bc1 := 0) (bs1 := 0) (fun f => rfl) ?_
  refine mm_c_inv (y := 108) (y0 := 1035) (bc1 := 0) (bs1 := 0) (bc2 := 0) (bs2 := 0) (L := [some (.ref 100), none]) (rest := []) (r := some (.int w)) (M1 := M1) (fun f => rfl) (mm_mono (fun xs h => by cases h) n 86 _ _ _ _ _ _ _ _ h1) ?_
  refine mm_seg (n := n + 85) 1 (z1 := 0) (pc1 := 1036) (ls1 := [some (.ref 0), some (.ref 100), some (.ref 138), some (.int 0)]) (st1 := [.ref 138, .int w]) (M1 := M1) (bc1 := 0) (bs1 := 0) (fun f => rfl) ?_
  refine mm_c_vir (y := 193) (y0 := 1039) (bc1 := 0) (bs1 := 0) (bc2 := 0) (bs2 := 0) (L := [some (.ref 138), none]) (rest := [.int w]) (r := some (.int w)) (M1 := M2) rfl rfl hfs rfl (fun f => rfl) (mm_mono (fun xs h => by cases h) n 84 _ _ _ _ _ _ _ _ h2) ?_
  refine mm_c_cmp_eq_t rfl rfl ?_
  exact lx_tail (n + 63) a b c d e M2
theorem lx_34 (a b c d e : Int32) (ha : a &&& 63 = 34) (h : mm_eqI 109 194 [some (.ref 100), some (.int b), some (.int c), some (.int d), none, none, none, none, none] [some (.ref 138), some (.int b), some (.int c), some (.int d), none, none]) : ∃ n M1, mm_x (some [a, b, c, d, e]) n 0 18 [some (.ref 0), some (.ref 100), some (.ref 138), some (.int 0)] [] mm_F0 0 0 = some (some (.int 1), M1) := by
  obtain ⟨n, w, M1, M2, h1, h2⟩ := h
  obtain ⟨fs, hfs⟩ := mm_kpx none n _ _ _ _ _ _ _ _ _ h1 138 10 _ rfl
  refine ⟨n + 100, M2, ?_⟩
  refine mm_seg (n := n + 95) 5 (z1 := 0) (pc1 := 23) (ls1 := [some (.ref 0), some (.ref 100), some (.ref 138), some (.int 0)]) (st1 := [.int (Int32.ofNat 5 - 5), .int 0]) (M1 := mm_F0) (bc1 := 0) (bs1 := 0) (fun f => rfl) ?_
  refine mm_c_cmp_gt_f rfl (by decide) ?_
  refine mm_seg (n := n + 89) 5 (z1 := 0) (pc1 := 32) (ls1 := [some (.ref 0), some (.ref 100), some (.ref 138), some (.int 0)]) (st1 := [.int (a &&& 63)]) (M1 := mm_F0) (bc1 := 0) (bs1 := 0) (fun f => rfl) ?_
  rw [ha]
  refine mm_seg (n := n + 72) 17 (z1 := 0) (pc1 := 1060) (ls1 := [some (.ref 0), some (.ref 100), some (.ref 138), some (.int 0)]) (st1 := [.int d, .int c, .int b, .ref 100]) (M1 := mm_F0) (bc1 := 0) (bs1 := 0) (fun f => rfl) ?_
  refine mm_c_inv (y := 109) (y0 := 1063) (bc1 := 0) (bs1 := 0) (bc2 := 0) (bs2 := 0) (L := [some (.ref 100), some (.int b), some (.int c), some (.int d), none, none, none, none, none]) (rest := []) (r := some (.int w)) (M1 := M1) (fun f => rfl) (mm_mono (fun xs h => by cases h) n 71 _ _ _ _ _ _ _ _ h1) ?_
  refine mm_seg (n := n + 55) 16 (z1 := 0) (pc1 := 1079) (ls1 := [some (.ref 0), some (.ref 100), some (.ref 138), some (.int 0)]) (st1 := [.int d, .int c, .int b, .ref 138, .int w]) (M1 := M1) (bc1 := 0) (bs1 := 0) (fun f => rfl) ?_
  refine mm_c_vir (y := 194) (y0 := 1082) (bc1 := 0) (bs1 := 0) (bc2 := 0) (bs2 := 0) (L := [some (.ref 138), some (.int b), some (.int c), some (.int d), none, none]) (rest := [.int w]) (r := some (.int w)) (M1 := M2) rfl rfl hfs rfl (fun f => rfl) (mm_mono (fun xs h => by cases h) n 54 _ _ _ _ _ _ _ _ h2) ?_
  refine mm_c_cmp_eq_t rfl rfl ?_
  exact lx_tail (n + 33) a b c d e M2
theorem lx_35 (a b c d e : Int32) (ha : a &&& 63 = 35) (h : mm_eqI 112 196 [some (.ref 100)] [some (.ref 138)]) : ∃ n M1, mm_x (some [a, b, c, d, e]) n 0 18 [some (.ref 0), some (.ref 100), some (.ref 138), some (.int 0)] [] mm_F0 0 0 = some (some (.int 1), M1) := by
  obtain ⟨n, w, M1, M2, h1, h2⟩ := h
  obtain ⟨fs, hfs⟩ := mm_kpx none n _ _ _ _ _ _ _ _ _ h1 138 10 _ rfl
  refine ⟨n + 100, M2, ?_⟩
  refine mm_seg (n := n + 95) 5 (z1 := 0) (pc1 := 23) (ls1 := [some (.ref 0), some (.ref 100), some (.ref 138), some (.int 0)]) (st1 := [.int (Int32.ofNat 5 - 5), .int 0]) (M1 := mm_F0) (bc1 := 0) (bs1 := 0) (fun f => rfl) ?_
  refine mm_c_cmp_gt_f rfl (by decide) ?_
  refine mm_seg (n := n + 89) 5 (z1 := 0) (pc1 := 32) (ls1 := [some (.ref 0), some (.ref 100), some (.ref 138), some (.int 0)]) (st1 := [.int (a &&& 63)]) (M1 := mm_F0) (bc1 := 0) (bs1 := 0) (fun f => rfl) ?_
  rw [ha]
  refine mm_seg (n := n + 87) 2 (z1 := 0) (pc1 := 1088) (ls1 := [some (.ref 0), some (.ref 100), some (.ref 138), some (.int 0)]) (st1 := [.ref 100]) (M1 := mm_F0) (bc1 := 0) (bs1 := 0) (fun f => rfl) ?_
  refine mm_c_inv (y := 112) (y0 := 1091) (bc1 := 0) (bs1 := 0) (bc2 := 0) (bs2 := 0) (L := [some (.ref 100)]) (rest := []) (r := some (.int w)) (M1 := M1) (fun f => rfl) (mm_mono (fun xs h => by cases h) n 86 _ _ _ _ _ _ _ _ h1) ?_
  refine mm_seg (n := n + 85) 1 (z1 := 0) (pc1 := 1092) (ls1 := [some (.ref 0), some (.ref 100), some (.ref 138), some (.int 0)]) (st1 := [.ref 138, .int w]) (M1 := M1) (bc1 := 0) (bs1 := 0) (fun f => rfl) ?_
  refine mm_c_vir (y := 196) (y0 := 1095) (bc1 := 0) (bs1 := 0) (bc2 := 0) (bs2 := 0) (L := [some (.ref 138)]) (rest := [.int w]) (r := some (.int w)) (M1 := M2) rfl rfl hfs rfl (fun f => rfl) (mm_mono (fun xs h => by cases h) n 84 _ _ _ _ _ _ _ _ h2) ?_
  refine mm_c_cmp_eq_t rfl rfl ?_
  exact lx_tail (n + 63) a b c d e M2
theorem lx_36 (a b c d e : Int32) (ha : a &&& 63 = 36) (h : mm_eqI 113 197 [some (.ref 100)] [some (.ref 138)]) : ∃ n M1, mm_x (some [a, b, c, d, e]) n 0 18 [some (.ref 0), some (.ref 100), some (.ref 138), some (.int 0)] [] mm_F0 0 0 = some (some (.int 1), M1) := by
  obtain ⟨n, w, M1, M2, h1, h2⟩ := h
  obtain ⟨fs, hfs⟩ := mm_kpx none n _ _ _ _ _ _ _ _ _ h1 138 10 _ rfl
  refine ⟨n + 100, M2, ?_⟩
  refine mm_seg (n := n + 95) 5 (z1 := 0) (pc1 := 23) (ls1 := [some (.ref 0), some (.ref 100), some (.ref 138), some (.int 0)]) (st1 := [.int (Int32.ofNat 5 - 5), .int 0]) (M1 := mm_F0) (bc1 := 0) (bs1 := 0) (fun f => rfl) ?_
  refine mm_c_cmp_gt_f rfl (by decide) ?_
  refine mm_seg (n := n + 89) 5 (z1 := 0) (pc1 := 32) (ls1 := [some (.ref 0), some (.ref 100), some (.ref 138), some (.int 0)]) (st1 := [.int (a &&& 63)]) (M1 := mm_F0) (bc1 := 0) (bs1 := 0) (fun f => rfl) ?_
  rw [ha]
  refine mm_seg (n := n + 87) 2 (z1 := 0) (pc1 := 1101) (ls1 := [some (.ref 0), some (.ref 100), some (.ref 138), some (.int 0)]) (st1 := [.ref 100]) (M1 := mm_F0) (bc1 := 0) (bs1 := 0) (fun f => rfl) ?_
  refine mm_c_inv (y := 113) (y0 := 1104) (bc1 := 0) (bs1 := 0) (bc2 := 0) (bs2 := 0) (L := [some (.ref 100)]) (rest := []) (r := some (.int w)) (M1 := M1) (fun f => rfl) (mm_mono (fun xs h => by cases h) n 86 _ _ _ _ _ _ _ _ h1) ?_
  refine mm_seg (n := n + 85) 1 (z1 := 0) (pc1 := 1105) (ls1 := [some (.ref 0), some (.ref 100), some (.ref 138), some (.int 0)]) (st1 := [.ref 138, .int w]) (M1 := M1) (bc1 := 0) (bs1 := 0) (fun f => rfl) ?_
  refine mm_c_vir (y := 197) (y0 := 1108) (bc1 := 0) (bs1 := 0) (bc2 := 0) (bs2 := 0) (L := [some (.ref 138)]) (rest := [.int w]) (r := some (.int w)) (M1 := M2) rfl rfl hfs rfl (fun f => rfl) (mm_mono (fun xs h => by cases h) n 84 _ _ _ _ _ _ _ _ h2) ?_
  refine mm_c_cmp_eq_t rfl rfl ?_
  exact lx_tail (n + 63) a b c d e M2
theorem lx_37 (a b c d e : Int32) (ha : a &&& 63 = 37) (h : mm_eqI 114 198 [some (.ref 100), some (.int b)] [some (.ref 138), some (.int b)]) : ∃ n M1, mm_x (some [a, b, c, d, e]) n 0 18 [some (.ref 0), some (.ref 100), some (.ref 138), some (.int 0)] [] mm_F0 0 0 = some (some (.int 1), M1) := by
  obtain ⟨n, w, M1, M2, h1, h2⟩ := h
  obtain ⟨fs, hfs⟩ := mm_kpx none n _ _ _ _ _ _ _ _ _ h1 138 10 _ rfl
  refine ⟨n + 100, M2, ?_⟩
  refine mm_seg (n := n + 95) 5 (z1 := 0) (pc1 := 23) (ls1 := [some (.ref 0), some (.ref 100), some (.ref 138), some (.int 0)]) (st1 := [.int (Int32.ofNat 5 - 5), .int 0]) (M1 := mm_F0) (bc1 := 0) (bs1 := 0) (fun f => rfl) ?_
  refine mm_c_cmp_gt_f rfl (by decide) ?_
  refine mm_seg (n := n + 89) 5 (z1 := 0) (pc1 := 32) (ls1 := [some (.ref 0), some (.ref 100), some (.ref 138), some (.int 0)]) (st1 := [.int (a &&& 63)]) (M1 := mm_F0) (bc1 := 0) (bs1 := 0) (fun f => rfl) ?_
  rw [ha]
  refine mm_seg (n := n + 82) 7 (z1 := 0) (pc1 := 1119) (ls1 := [some (.ref 0), some (.ref 100), some (.ref 138), some (.int 0)]) (st1 := [.int b, .ref 100]) (M1 := mm_F0) (bc1 := 0) (bs1 := 0) (fun f => rfl) ?_
  refine mm_c_inv (y := 114) (y0 := 1122) (bc1 := 0) (bs1 := 0) (bc2 := 0) (bs2 := 0) (L := [some (.ref 100), some (.int b)]) (rest := []) (r := some (.int w)) (M1 := M1) (fun f => rfl) (mm_mono (fun xs h => by cases h) n 81 _ _ _ _ _ _ _ _ h1) ?_
  refine mm_seg (n := n + 75) 6 (z1 := 0) (pc1 := 1128) (ls1 := [some (.ref 0), some (.ref 100), some (.ref 138), some (.int 0)]) (st1 := [.int b, .ref 138, .int w]) (M1 := M1) (bc1 := 0) (bs1 := 0) (fun f => rfl) ?_
  refine mm_c_vir (y := 198) (y0 := 1131) (bc1 := 0) (bs1 := 0) (bc2 := 0) (bs2 := 0) (L := [some (.ref 138), some (.int b)]) (rest := [.int w]) (r := some (.int w)) (M1 := M2) rfl rfl hfs rfl (fun f => rfl) (mm_mono (fun xs h => by cases h) n 74 _ _ _ _ _ _ _ _ h2) ?_
  refine mm_c_cmp_eq_t rfl rfl ?_
  exact lx_tail (n + 53) a b c d e M2
theorem lx_def (a b c d e : Int32) (j : Nat) (hj : 38 ≤ j) (hj2 : j < 64) (ha : a &&& 63 = nI j) : ∃ n M1, mm_x (some [a, b, c, d, e]) n 0 18 [some (.ref 0), some (.ref 100), some (.ref 138), some (.int 0)] [] mm_F0 0 0 = some (some (.int 1), M1) := by
  refine ⟨70, mm_F0, ?_⟩
  refine mm_seg (n := 65) 5 (z1 := 0) (pc1 := 23) (ls1 := [some (.ref 0), some (.ref 100), some (.ref 138), some (.int 0)]) (st1 := [.int (Int32.ofNat 5 - 5), .int 0]) (M1 := mm_F0) (bc1 := 0) (bs1 := 0) (fun f => rfl) ?_
  refine mm_c_cmp_gt_f rfl (by decide) ?_
  refine mm_seg (n := 59) 5 (z1 := 0) (pc1 := 32) (ls1 := [some (.ref 0), some (.ref 100), some (.ref 138), some (.int 0)]) (st1 := [.int (a &&& 63)]) (M1 := mm_F0) (bc1 := 0) (bs1 := 0) (fun f => rfl) ?_
  rw [ha]
  refine mm_c_tsw (n := 58) (t := 1136) rfl (Or.inr (by rw [nI_toInt (by omega)]; omega)) (by decide) ?_
  exact lx_tail 38 a b c d e mm_F0
