def lx_MI : mm_H := [.inl (9, [.ref 117, .ref 124, .ref 131, .int 0, .ref 101, .ref 104, .int 0, .ref 105, .ref 106, .ref 107, .ref 108, .ref 109]), .inl (8, [.ref 102, .int 0, .ref 103, .int 0]), .inr (.inl [0, 0, 0, 0, 0, 0, 0, 0, 0, 0, 0, 0, 0, 0, 0, 0, 0, 0, 0, 0, 0, 0, 0, 0, 0, 0, 0, 0, 0, 0, 0, 0, 0, 0, 0, 0, 0, 0, 0, 0, 0, 0, 0, 0, 0, 0, 0, 0, 0, 0, 0, 0, 0, 0, 0, 0, 0, 0, 0, 0, 0, 0, 0, 0, 0, 0, 0, 0, 0, 0, 0, 0, 0, 0, 0, 0, 0, 0, 0, 0, 0, 0, 0, 0, 0, 0, 0, 0, 0, 0, 0, 0, 0, 0, 0, 0]), .inr (.inl [0, 0, 0, 0, 0, 0, 0, 0, 0, 0, 0, 0, 0, 0, 0, 0, 0, 0, 0, 0, 0, 0, 0, 0, 0, 0, 0, 0, 0, 0, 0, 0, 0, 0, 0, 0, 0, 0, 0, 0, 0, 0, 0, 0, 0, 0, 0, 0, 0, 0, 0, 0, 0, 0, 0, 0, 0, 0, 0, 0, 0, 0, 0, 0, 0, 0, 0, 0, 0, 0, 0, 0, 0, 0, 0, 0, 0, 0, 0, 0, 0, 0, 0, 0, 0, 0, 0, 0, 0, 0, 0, 0, 0, 0, 0, 0]), .inr (.inl [0, 0, 0, 0, 0, 0, 0, 0, 0, 0, 0, 0, 0, 0, 0, 0]), .inr (.inl [0, 0, 0, 0, 0, 0, 0]), .inl (6, [.int 0, .int 0]), .inr (.inl [0, 0, 0, 0, 0, 0, 0, 0, 0, 0, 0, 0, 0, 0, 0, 0, 0, 0, 0, 0, 0, 0, 0, 0, 0]), .inr (.inl [0, 0, 0, 0]), .inr (.inl [0, 0, 0, 0]), .inr (.inr [.ref 111, .ref 112, .ref 113, .ref 114, .ref 115, .ref 116]), .inl (3, []), .inl (2, []), .inl (7, []), .inl (0, []), .inl (5, []), .inl (4, []), .inl (1, [.ref 110, .ref 118, .ref 119, .ref 120, .ref 121, .ref 122, .ref 123, .int 0, .int 0, .int 24, .int 1, .int 5, .int 0]), .inr (.inl [0, 0, 0, 0, 0, 0, 0, 0, 0, 0, 0, 0, 0, 0, 0, 0, 0, 0, 0, 0, 0, 0, 0, 0, 0]), .inr (.inl [0, 0, 0, 0, 0, 0, 0, 0, 0, 0, 0, 0, 0, 0, 0, 0, 0, 0, 0, 0, 0, 0, 0, 0, 0]), .inr (.inl [0, 0, 0, 0, 0]), .inr (.inl [0, 0, 0, 0, 0]), .inr (.inl [0, 0, 0, 0, 0]), .inr (.inl [0, 0, 0, 0, 0]), .inl (1, [.ref 110, .ref 125, .ref 126, .ref 127, .ref 128, .ref 129, .ref 130, .int 0, .int 0, .int 24, .int 1, .int 5, .int 0]), .inr (.inl [0, 0, 0, 0, 0, 0, 0, 0, 0, 0, 0, 0, 0, 0, 0, 0, 0, 0, 0, 0, 0, 0, 0, 0, 0]), .inr (.inl [0, 0, 0, 0, 0, 0, 0, 0, 0, 0, 0, 0, 0, 0, 0, 0, 0, 0, 0, 0, 0, 0, 0, 0, 0]), .inr (.inl [0, 0, 0, 0, 0]), .inr (.inl [0, 0, 0, 0, 0]), .inr (.inl [0, 0, 0, 0, 0]), .inr (.inl [0, 0, 0, 0, 0]), .inl (1, [.ref 110, .ref 132, .ref 133, .ref 134, .ref 135, .ref 136, .ref 137, .int 0, .int 0, .int 24, .int 1, .int 5, .int 0]), .inr (.inl [0, 0, 0, 0, 0, 0, 0, 0, 0, 0, 0, 0, 0, 0, 0, 0, 0, 0, 0, 0, 0, 0, 0, 0, 0]), .inr (.inl [0, 0, 0, 0, 0, 0, 0, 0, 0, 0, 0, 0, 0, 0, 0, 0, 0, 0, 0, 0, 0, 0, 0, 0, 0]), .inr (.inl [0, 0, 0, 0, 0]), .inr (.inl [0, 0, 0, 0, 0]), .inr (.inl [0, 0, 0, 0, 0]), .inr (.inl [0, 0, 0, 0, 0])]
set_option maxRecDepth 100000 in
theorem lx_c1 : mm_x none 600 1 0 [some (.ref 100), none] [] [.inl (9, mm_df 9)] 37 509 = some (none, lx_MI) := by rfl
set_option maxRecDepth 100000 in
theorem lx_c2 : mm_x none 600 115 0 [some (.ref 138)] [] (lx_MI ++ [.inl (10, mm_df 10)]) 9 354 = some (none, mm_F0) := by rfl
theorem lx_start (X : List Int32) {n : Nat} {R : mm_O} (h : mm_x (some X) n 0 18 [some (.ref 0), some (.ref 100), some (.ref 138), some (.int 0)] [] mm_F0 0 0 = R) : mm_x (some X) (n + 700) 0 0 (mm_en 4 [.ref 0]) [] [] 48 889 = mm_x (some X) (n + 690) 0 18 [some (.ref 0), some (.ref 100), some (.ref 138), some (.int 0)] [] mm_F0 0 0 := by
  refine mm_seg (n := n + 698) 2 (z1 := 0) (pc1 := 4) (ls1 := [some (.ref 0), none, none, none]) (st1 := [.ref 100, .ref 100]) (M1 := [.inl (9, mm_df 9)]) (bc1 := 47) (bs1 := 877) (fun f => rfl) ?_
  refine mm_c_inv (y := 1) (y0 := 7) (bc1 := 37) (bs1 := 509) (bc2 := 10) (bs2 := 368) (L := [some (.ref 100), none]) (rest := [.ref 100]) (r := none) (M1 := lx_MI) (fun f => rfl) ((congrArg (fun k => mm_x (some X) k 1 0 [some (.ref 100), none] [] [.inl (9, mm_df 9)] 37 509) (show n + 697 = 600 + (n + 97) by omega)).trans (mm_mono (fun xs h => by cases h) 600 (n + 97) _ _ _ _ _ _ _ _ lx_c1)) ?_
  refine mm_seg (n := n + 694) 3 (z1 := 0) (pc1 := 12) (ls1 := [some (.ref 0), some (.ref 100), none, none]) (st1 := [.ref 138, .ref 138]) (M1 := lx_MI ++ [.inl (10, mm_df 10)]) (bc1 := 9) (bs1 := 354) (fun f => rfl) ?_
  refine mm_c_inv (y := 115) (y0 := 15) (bc1 := 9) (bs1 := 354) (bc2 := 0) (bs2 := 0) (L := [some (.ref 138)]) (rest := [.ref 138]) (r := none) (M1 := mm_F0) (fun f => rfl) ((congrArg (fun k => mm_x (some X) k 115 0 [some (.ref 138)] [] (lx_MI ++ [.inl (10, mm_df 10)]) 9 354) (show n + 693 = 600 + (n + 93) by omega)).trans (mm_mono (fun xs h => by cases h) 600 (n + 93) _ _ _ _ _ _ _ _ lx_c2)) ?_
  exact mm_seg (n := n + 690) 3 (z1 := 0) (pc1 := 18) (ls1 := [some (.ref 0), some (.ref 100), some (.ref 138), some (.int 0)]) (st1 := []) (M1 := mm_F0) (bc1 := 0) (bs1 := 0) (fun f => rfl) rfl
theorem lx_short0 (n : Nat) : mm_x (some []) (n + 20) 0 18 [some (.ref 0), some (.ref 100), some (.ref 138), some (.int 0)] [] mm_F0 0 0 = some (some (.int 1), mm_F0) := by
  refine mm_seg (n := n + 15) 5 (z1 := 0) (pc1 := 23) (ls1 := [some (.ref 0), some (.ref 100), some (.ref 138), some (.int 0)]) (st1 := [.int (Int32.ofNat 0 - 5), .int 0]) (M1 := mm_F0) (bc1 := 0) (bs1 := 0) (fun f => rfl) ?_
  refine mm_c_cmp_gt_t rfl (by decide) ?_
  rfl
theorem lx_short1 (n : Nat) (a : Int32) : mm_x (some [a]) (n + 20) 0 18 [some (.ref 0), some (.ref 100), some (.ref 138), some (.int 0)] [] mm_F0 0 0 = some (some (.int 1), mm_F0) := by
  refine mm_seg (n := n + 15) 5 (z1 := 0) (pc1 := 23) (ls1 := [some (.ref 0), some (.ref 100), some (.ref 138), some (.int 0)]) (st1 := [.int (Int32.ofNat 1 - 5), .int 0]) (M1 := mm_F0) (bc1 := 0) (bs1 := 0) (fun f => rfl) ?_
  refine mm_c_cmp_gt_t rfl (by decide) ?_
  rfl
theorem lx_short2 (n : Nat) (a b : Int32) : mm_x (some [a, b]) (n + 20) 0 18 [some (.ref 0), some (.ref 100), some (.ref 138), some (.int 0)] [] mm_F0 0 0 = some (some (.int 1), mm_F0) := by
  refine mm_seg (n := n + 15) 5 (z1 := 0) (pc1 := 23) (ls1 := [some (.ref 0), some (.ref 100), some (.ref 138), some (.int 0)]) (st1 := [.int (Int32.ofNat 2 - 5), .int 0]) (M1 := mm_F0) (bc1 := 0) (bs1 := 0) (fun f => rfl) ?_
  refine mm_c_cmp_gt_t rfl (by decide) ?_
  rfl
theorem lx_short3 (n : Nat) (a b c : Int32) : mm_x (some [a, b, c]) (n + 20) 0 18 [some (.ref 0), some (.ref 100), some (.ref 138), some (.int 0)] [] mm_F0 0 0 = some (some (.int 1), mm_F0) := by
  refine mm_seg (n := n + 15) 5 (z1 := 0) (pc1 := 23) (ls1 := [some (.ref 0), some (.ref 100), some (.ref 138), some (.int 0)]) (st1 := [.int (Int32.ofNat 3 - 5), .int 0]) (M1 := mm_F0) (bc1 := 0) (bs1 := 0) (fun f => rfl) ?_
  refine mm_c_cmp_gt_t rfl (by decide) ?_
  rfl
theorem lx_short4 (n : Nat) (a b c d : Int32) : mm_x (some [a, b, c, d]) (n + 20) 0 18 [some (.ref 0), some (.ref 100), some (.ref 138), some (.int 0)] [] mm_F0 0 0 = some (some (.int 1), mm_F0) := by
  refine mm_seg (n := n + 15) 5 (z1 := 0) (pc1 := 23) (ls1 := [some (.ref 0), some (.ref 100), some (.ref 138), some (.int 0)]) (st1 := [.int (Int32.ofNat 4 - 5), .int 0]) (M1 := mm_F0) (bc1 := 0) (bs1 := 0) (fun f => rfl) ?_
  refine mm_c_cmp_gt_t rfl (by decide) ?_
  rfl
theorem lx_all_open (hpl : ∀ x y z0 q : Int32, 0 ≤ x.toInt → x.toInt ≤ 24 → 0 ≤ y.toInt → y.toInt ≤ 7 → 2 ≤ z0.toInt → z0.toInt ≤ 20 → 0 ≤ q.toInt → q.toInt ≤ 1 → mm_eqL 94 184 [some (.ref 100), some (.int x), some (.int y), some (.int z0), some (.int q), none, none, none] [some (.ref 138), some (.int x), some (.int y), some (.int z0), some (.int q), none, none, none, none, none, none, none, none]) : ∀ X : List Int32, X.length ≤ 5 → ∃ n M1, mm_x (some X) n 0 18 [some (.ref 0), some (.ref 100), some (.ref 138), some (.int 0)] [] mm_F0 0 0 = some (some (.int 1), M1)
  | [], _ => ⟨_, _, lx_short0 0⟩
  | [a], _ => ⟨_, _, lx_short1 0 a⟩
  | [a, b], _ => ⟨_, _, lx_short2 0 a b⟩
  | [a, b, c], _ => ⟨_, _, lx_short3 0 a b c⟩
  | [a, b, c, d], _ => ⟨_, _, lx_short4 0 a b c d⟩
  | [a, b, c, d, e], _ => by
    obtain ⟨j, hj, ha⟩ := pk_andE a (m := 63) 6 (by decide)
    match j, hj, ha with
    | 0, _, ha => exact lx_0 a b c d e ha (op_letter b)
    | 1, _, ha => exact lx_1 a b c d e ha (op_kingdom)
    | 2, _, ha => exact lx_2 a b c d e ha (op_minister b c)
    | 3, _, ha => exact lx_3 a b c d e ha (op_cell b c)
    | 4, _, ha => exact lx_4 a b c d e ha (op_pushing b)
    | 5, _, ha => exact lx_5 a b c d e ha (op_heaps b c)
    | 6, _, ha => exact lx_6 a b c d e ha (op_kerbs b)
    | 7, _, ha => exact lx_7 a b c d e ha (op_stands b)
    | 8, _, ha => exact lx_8 a b c d e ha (op_goal b)
    | 9, _, ha => exact lx_9 a b c d e ha (op_weighs b)
    | 10, _, ha => exact lx_10 a b c d e ha (op_steps b)
    | 11, _, ha => exact lx_11 a b c d e ha (op_turn b c d)
    | 12, _, ha => exact lx_12 a b c d e ha (op_goes b)
    | 13, _, ha => exact lx_13 a b c d e ha (op_then b c)
    | 14, _, ha => exact lx_14 a b c d e ha (op_fallsThen b c)
    | 15, _, ha => exact lx_15 a b c d e ha (op_comes b)
    | 16, _, ha => exact lx_16 a b c d e ha (op_down b)
    | 17, _, ha => exact lx_17 a b c d e ha (op_stuck)
    | 18, _, ha => exact lx_18 a b c d e ha (op_climb b c)
    | 19, _, ha => exact lx_19 a b c d e ha (op_push)
    | 20, _, ha => exact lx_20 a b c d e ha (op_take)
    | 21, _, ha => exact lx_21 a b c d e ha (op_flat)
    | 22, _, ha => exact lx_22 a b c d e ha (op_mostWeight)
    | 23, _, ha => exact lx_23 a b c d e ha (op_start b)
    | 24, _, ha => exact lx_24 a b c d e ha (op_bestKind b c)
    | 25, _, ha => exact lx_25 a b c d e ha (op_far b)
    | 26, _, ha => exact lx_26 a b c d e ha (op_easy b)
    | 27, _, ha => exact lx_27 a b c d e ha (op_two b c d)
    | 28, _, ha => exact lx_28 a b c d e ha (op_plank_open hpl b c d e)
    | 29, _, ha => exact lx_29 a b c d e ha (op_mean b)
    | 30, _, ha => exact lx_30 a b c d e ha (op_whoPushed b)
    | 31, _, ha => exact lx_31 a b c d e ha (op_row b)
    | 32, _, ha => exact lx_32 a b c d e ha (op_judge)
    | 33, _, ha => exact lx_33 a b c d e ha (op_clear)
    | 34, _, ha => exact lx_34 a b c d e ha (op_lots b c d)
    | 35, _, ha => exact lx_35 a b c d e ha (op_image)
    | 36, _, ha => exact lx_36 a b c d e ha (op_on)
    | 37, _, ha => exact lx_37 a b c d e ha (op_count b)
    | j + 38, hj, ha => exact lx_def a b c d e (j + 38) (by omega) (show j + 38 < 64 from hj) ha
  | _ :: _ :: _ :: _ :: _ :: _ :: _, h => absurd h (by simp)
theorem lx_run_open (hpl : ∀ x y z0 q : Int32, 0 ≤ x.toInt → x.toInt ≤ 24 → 0 ≤ y.toInt → y.toInt ≤ 7 → 2 ≤ z0.toInt → z0.toInt ≤ 20 → 0 ≤ q.toInt → q.toInt ≤ 1 → mm_eqL 94 184 [some (.ref 100), some (.int x), some (.int y), some (.int z0), some (.int q), none, none, none] [some (.ref 138), some (.int x), some (.int y), some (.int z0), some (.int q), none, none, none, none, none, none, none, none]) (X : List Int32) (hX : X.length ≤ 5) : ∃ n M1, mm_x (some X) n 0 0 (mm_en 4 [.ref 0]) [] [] 48 889 = some (some (.int 1), M1) := by
  obtain ⟨n, M1, h⟩ := lx_all_open hpl X hX
  refine ⟨n + 700, M1, ?_⟩
  rw [lx_start X h]
  exact mm_mono (fun xs h => h) n 690 _ _ _ _ _ _ _ _ h
theorem lx_whole_open (hpl : ∀ x y z0 q : Int32, 0 ≤ x.toInt → x.toInt ≤ 24 → 0 ≤ y.toInt → y.toInt ≤ 7 → 2 ≤ z0.toInt → z0.toInt ≤ 20 → 0 ≤ q.toInt → q.toInt ≤ 1 → mm_eqL 94 184 [some (.ref 100), some (.int x), some (.int y), some (.int z0), some (.int q), none, none, none] [some (.ref 138), some (.int x), some (.int y), some (.int z0), some (.int q), none, none, none, none, none, none, none, none]) {p : Program} {e : Env} {s : State} {m : MethodId} {below : List Frame} {meth : Method} {c : Code} (l : Launch) {b L : Nat} {xs : Nat → Int32} (hL : L ≤ 5) (C0 : lw_At p s m meth c b L xs) : W p l e room_1 s m #[Value.ref b] below meth c s.heap [] 0 0 (lw_Z below #[Value.ref b] s) (entryFrame m ([Value.ref b] : List Value).toArray 4) := by
  obtain ⟨n, M1, h⟩ := lx_run_open hpl ((List.range L).map xs) (by rw [List.length_map, List.length_range]; exact hL)
  exact mm_glue l C0 h
