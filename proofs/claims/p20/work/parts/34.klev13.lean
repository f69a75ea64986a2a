/-! ===== the law's walk ===== -/
def mm_Q (X : List Int32) (pc : Nat) (ls : mm_L) (st : List Value) (M : mm_H) : Prop := ∃ (n : Nat) (M1 : mm_H), mm_x (some X) n 0 pc ls st M 0 0 = some (some (.int 1), M1)
section MQ
variable {X : List Int32} {pc pc1 : Nat} {ls ls1 : mm_L} {st st1 r : List Value} {M M1 : mm_H}
theorem mq_seg (k : Nat) (h : ∀ f : mm_F, mm_it (some X) k f 0 pc ls st M 0 0 = f 0 pc1 ls1 st1 M1 0 0) (h2 : mm_Q X pc1 ls1 st1 M1) : mm_Q X pc ls st M := by
  obtain ⟨n, M2, hn⟩ := h2
  exact ⟨n + k, M2, mm_seg k h hn⟩
theorem mq_ret (k : Nat) (h : ∀ f : mm_F, mm_it (some X) k f 0 pc ls st M 0 0 = some (some (.int 1), M1)) : mm_Q X pc ls st M := by
  refine ⟨0 + k, M1, ?_⟩
  rw [← mm_it_x]
  exact h _
theorem mq_v {v v' : Int32} (e : v = v') (h : mm_Q X pc ls (.int v' :: r) M) : mm_Q X pc ls (.int v :: r) M := by rw [e]; exact h
theorem mq_l (F : Int32 → mm_L) {v v' : Int32} (e : v = v') (h : mm_Q X pc (F v') st M) : mm_Q X pc (F v) st M := by rw [e]; exact h
theorem mq_ld {k : Nat} {ex : List (Nat × Nat)} {v : Int32} (hc : mm_code 0 pc = some (.iaload, ex)) (hk : k < 2 ^ 31) (hv : X[k]? = some v) (h : mm_Q X (pc + 1) ls (.int v :: r) M) : mm_Q X pc ls (.int (nI k) :: .ref 0 :: r) M := by
  obtain ⟨n, M2, hn⟩ := h
  refine ⟨n + 1, M2, ?_⟩
  have hg : mm_ia (some X) M 0 = some X := rfl
  have e : mm_2 (some X) .iaload ex pc ls (.int (nI k) :: .ref 0 :: r) M 0 0 = some (pc + 1, ls, .int v :: r, M, 0, 0) := by
    simp only [mm_2, hg]
    rw [if_neg (nI_pos hk), mm_n_eq, nI_clamp hk, hv]
  rw [mm_xs]
  unfold mm_b
  rw [hc]
  show (match mm_2 (some X) .iaload ex pc ls (.int (nI k) :: .ref 0 :: r) M 0 0 with
      | some (pc1, ls1, st1, M1, bc1, bs1) => mm_x (some X) n 0 pc1 ls1 st1 M1 bc1 bs1
      | none => none) = some (some (.int 1), M2)
  rw [e]
  exact hn
theorem mq_call {a ci y y0 idx : Nat} {L : mm_L} {rest : List Value} {rr : Option Value} (hc : mm_code 0 pc = some (.invokevirtual idx, [(ci, y)])) (hn : mm_n st (mm_rf y).2.2 = some (.ref a)) (hg : mm_rc M a = some ci) (hk : (Nat.beq ci ci && Nat.beq (mm_i y).2.1 ((mm_rf y).2.2 + 1)) = true)
    (h0 : ∀ f : mm_F, mm_inv f 0 pc ls st M 0 0 y = (match f y 0 L [] M 0 0 with
      | some (r, M1) => f 0 y0 ls (r.toList ++ rest) M1 0 0
      | none => none)) (hs : mm_R y 0 L [] M (rr, M1)) (h : mm_Q X y0 ls (rr.toList ++ rest) M1) : mm_Q X pc ls st M := by
  obtain ⟨a, ha⟩ := hs
  obtain ⟨b, M2, hb⟩ := h
  refine ⟨a + b + 1, M2, mm_c_vir hc hn hg hk h0 (mm_mono (fun xs h => by cases h) a b _ _ _ _ _ _ _ _ ha) ?_⟩
  rw [Nat.add_comm a b]
  exact mm_mono (fun xs h => h) b a _ _ _ _ _ _ _ _ hb
theorem mq_gt_t {off : Int} {t tt : Nat} {x y : Int32} (hc : mm_code 0 pc = some (.if_icmp .gt off, [(t, tt)])) (hq : y < x) (h : mm_Q X t ls r M) : mm_Q X pc ls (.int y :: .int x :: r) M := by
  obtain ⟨n, M2, hn⟩ := h
  exact ⟨n + 1, M2, mm_c_cmp_gt_t hc hq hn⟩
theorem mq_gt_f {off : Int} {t tt : Nat} {x y : Int32} (hc : mm_code 0 pc = some (.if_icmp .gt off, [(t, tt)])) (hq : ¬ y < x) (h : mm_Q X (pc + 3) ls r M) : mm_Q X pc ls (.int y :: .int x :: r) M := by
  obtain ⟨n, M2, hn⟩ := h
  exact ⟨n + 1, M2, mm_c_cmp_gt_f hc hq hn⟩
theorem mq_eq_t {off : Int} {t tt : Nat} {x : Int32} (hc : mm_code 0 pc = some (.if_icmp .eq off, [(t, tt)])) (h : mm_Q X t ls r M) : mm_Q X pc ls (.int x :: .int x :: r) M := by
  obtain ⟨n, M2, hn⟩ := h
  exact ⟨n + 1, M2, mm_c_cmp_eq_t hc rfl hn⟩
theorem mq_tsw {t : Nat} {d lo hi : Int} {offs : Array Int} {ex : List (Nat × Nat)} {x : Int32} (hc : mm_code 0 pc = some (.tableswitch d lo hi offs, ex)) (hq : x.toInt < lo ∨ hi < x.toInt) (ht : (pc : Int) + d = (t : Int)) (h : mm_Q X t ls r M) : mm_Q X pc ls (.int x :: r) M := by
  obtain ⟨n, M2, hn⟩ := h
  exact ⟨n + 1, M2, mm_c_tsw hc hq ht hn⟩
end MQ
theorem mr_kp {z pc : Nat} {ls : mm_L} {st : List Value} {M M1 : mm_H} {r : Option Value} (h : mm_R z pc ls st M (r, M1)) (a c : Nat) (fs : List Value) (hg : mm_g M a = some (.inl (c, fs))) : ∃ fs', mm_g M1 a = some (.inl (c, fs')) := by
  obtain ⟨n, hn⟩ := h
  exact mm_kpx none n _ _ _ _ _ _ _ _ _ hn a c fs hg
theorem lq_cmp (w : Int64) : lg_cmp w w = 0 := by
  unfold lg_cmp
  rw [if_neg (fun h => Int64.lt_irrefl h), if_pos rfl]
theorem k_len {i L : Nat} (hi : i < 2 ^ 20) (hL : L < 2 ^ 20) : (nI L - 5 : Int32) < nI i ↔ L < i + 5 := by
  have h2 := pk_sub_toInt (a := L) (b := 5) (by omega) (by omega)
  have h3 : (nI L - nI 5).toInt = (nI L - 5).toInt := rfl
  rw [Int32.lt_iff_toInt_lt, nI_toInt (by omega)]
  omega
theorem kInv_g {M : mm_H} (hM : kInv M) : mm_rc M 100 = some 9 ∧ ∃ fs, mm_g M 138 = some (.inl (10, fs)) := by
  obtain ⟨K, m, kk, im, le, ln, ys, vt, nu, nn, rf, vw, vq, yc, yh, yg, xm, xi, xw, vp, xn, xc, vs, rfl, -⟩ := hM
  exact ⟨rfl, _, rfl⟩
theorem lq_0 {X : List Int32} {i : Nat} {M : mm_H} {x1 : Int32} (hX : X.length < 2 ^ 20) (hi : i + 5 ≤ X.length) (h1 : X[i + 1]? = some x1) (g1 : mm_rc M 100 = some 9) (g2 : ∃ fs, mm_g M 138 = some (.inl (10, fs))) (h : oW 11 129 [some (.ref 100), some (.int x1)] [some (.ref 138), some (.int x1)] M) (HK : ∀ M2, kInv M2 → mm_Q X 18 [some (.ref 0), some (.ref 100), some (.ref 138), some (.int (nI (i + 5)))] [] M2) : mm_Q X 32 [some (.ref 0), some (.ref 100), some (.ref 138), some (.int (nI i))] [.int 0] M := by
  obtain ⟨w1, w2, M1, M2, r1, r2, hI⟩ := h
  obtain ⟨fs0, g3⟩ := g2
  obtain ⟨fs, hfs⟩ := mr_kp r1 138 10 fs0 g3
  refine mq_seg 6 (pc1 := 205) (ls1 := [some (.ref 0), some (.ref 100), some (.ref 138), some (.int (nI i))]) (st1 := [.int (nI i + 1), .ref 0, .ref 100]) (M1 := M) (fun f => rfl) ?_
  refine mq_v (nI_add i 1) ?_
  refine mq_ld (k := i + 1) rfl (by omega) h1 ?_
  refine mq_call (ci := 9) (y := 11) (y0 := 209) (L := [some (.ref 100), some (.int x1)]) (rest := []) (rr := some (.int w1)) (M1 := M1) rfl rfl g1 rfl (fun f => rfl) r1 ?_
  refine mq_seg 6 (pc1 := 215) (ls1 := [some (.ref 0), some (.ref 100), some (.ref 138), some (.int (nI i))]) (st1 := [.int (nI i + 1), .ref 0, .ref 138]) (M1 := M1) (fun f => rfl) ?_
  refine mq_v (nI_add i 1) ?_
  refine mq_ld (k := i + 1) rfl (by omega) h1 ?_
  refine mq_call (ci := 10) (y := 129) (y0 := 219) (L := [some (.ref 138), some (.int x1)]) (rest := []) (rr := some (.int w2)) (M1 := M2) rfl rfl (mm_Kp.rc hfs rfl) rfl (fun f => rfl) r2 ?_
  refine mq_seg 3 (pc1 := 1137) (ls1 := [some (.ref 0), some (.ref 100), some (.ref 138), some (.int (nI i + 5))]) (st1 := []) (M1 := M2) (fun f => rfl) ?_
  refine mq_l (fun q_ => [some (.ref 0), some (.ref 100), some (.ref 138), some (.int q_)]) (nI_add i 5) ?_
  refine mq_seg 1 (pc1 := 18) (ls1 := [some (.ref 0), some (.ref 100), some (.ref 138), some (.int (nI (i + 5)))]) (st1 := []) (M1 := M2) (fun f => rfl) ?_
  exact HK M2 hI
theorem lq_1 {X : List Int32} {i : Nat} {M : mm_H} (hX : X.length < 2 ^ 20) (hi : i + 5 ≤ X.length) (g1 : mm_rc M 100 = some 9) (g2 : ∃ fs, mm_g M 138 = some (.inl (10, fs))) (h : oW 14 131 [some (.ref 100), none] [some (.ref 138), none, none, none, none, none] M) (HK : ∀ M2, kInv M2 → mm_Q X 18 [some (.ref 0), some (.ref 100), some (.ref 138), some (.int (nI (i + 5)))] [] M2) : mm_Q X 32 [some (.ref 0), some (.ref 100), some (.ref 138), some (.int (nI i))] [.int 1] M := by
  obtain ⟨w1, w2, M1, M2, r1, r2, hI⟩ := h
  obtain ⟨fs0, g3⟩ := g2
  obtain ⟨fs, hfs⟩ := mr_kp r1 138 10 fs0 g3
  refine mq_seg 2 (pc1 := 224) (ls1 := [some (.ref 0), some (.ref 100), some (.ref 138), some (.int (nI i))]) (st1 := [.ref 100]) (M1 := M) (fun f => rfl) ?_
  refine mq_call (ci := 9) (y := 14) (y0 := 227) (L := [some (.ref 100), none]) (rest := []) (rr := some (.int w1)) (M1 := M1) rfl rfl g1 rfl (fun f => rfl) r1 ?_
  refine mq_seg 2 (pc1 := 229) (ls1 := [some (.ref 0), some (.ref 100), some (.ref 138), some (.int (nI i))]) (st1 := [.ref 138]) (M1 := M1) (fun f => rfl) ?_
  refine mq_call (ci := 10) (y := 131) (y0 := 232) (L := [some (.ref 138), none, none, none, none, none]) (rest := []) (rr := some (.int w2)) (M1 := M2) rfl rfl (mm_Kp.rc hfs rfl) rfl (fun f => rfl) r2 ?_
  refine mq_seg 3 (pc1 := 1137) (ls1 := [some (.ref 0), some (.ref 100), some (.ref 138), some (.int (nI i + 5))]) (st1 := []) (M1 := M2) (fun f => rfl) ?_
  refine mq_l (fun q_ => [some (.ref 0), some (.ref 100), some (.ref 138), some (.int q_)]) (nI_add i 5) ?_
  refine mq_seg 1 (pc1 := 18) (ls1 := [some (.ref 0), some (.ref 100), some (.ref 138), some (.int (nI (i + 5)))]) (st1 := []) (M1 := M2) (fun f => rfl) ?_
  exact HK M2 hI
theorem lq_2 {X : List Int32} {i : Nat} {M : mm_H} {x1 : Int32} {x2 : Int32} (hX : X.length < 2 ^ 20) (hi : i + 5 ≤ X.length) (h1 : X[i + 1]? = some x1) (h2 : X[i + 2]? = some x2) (g1 : mm_rc M 100 = some 9) (g2 : ∃ fs, mm_g M 138 = some (.inl (10, fs))) (h : oW 60 155 [some (.ref 100), some (.int x1), some (.int x2)] [some (.ref 138), some (.int x1), some (.int x2)] M) (HK : ∀ M2, kInv M2 → mm_Q X 18 [some (.ref 0), some (.ref 100), some (.ref 138), some (.int (nI (i + 5)))] [] M2) : mm_Q X 32 [some (.ref 0), some (.ref 100), some (.ref 138), some (.int (nI i))] [.int 2] M := by
  obtain ⟨w1, w2, M1, M2, r1, r2, hI⟩ := h
  obtain ⟨fs0, g3⟩ := g2
  obtain ⟨fs, hfs⟩ := mr_kp r1 138 10 fs0 g3
  refine mq_seg 6 (pc1 := 241) (ls1 := [some (.ref 0), some (.ref 100), some (.ref 138), some (.int (nI i))]) (st1 := [.int (nI i + 1), .ref 0, .ref 100]) (M1 := M) (fun f => rfl) ?_
  refine mq_v (nI_add i 1) ?_
  refine mq_ld (k := i + 1) rfl (by omega) h1 ?_
  refine mq_seg 4 (pc1 := 246) (ls1 := [some (.ref 0), some (.ref 100), some (.ref 138), some (.int (nI i))]) (st1 := [.int (nI i + 2), .ref 0, .int x1, .ref 100]) (M1 := M) (fun f => rfl) ?_
  refine mq_v (nI_add i 2) ?_
  refine mq_ld (k := i + 2) rfl (by omega) h2 ?_
  refine mq_call (ci := 9) (y := 60) (y0 := 250) (L := [some (.ref 100), some (.int x1), some (.int x2)]) (rest := []) (rr := some (.int w1)) (M1 := M1) rfl rfl g1 rfl (fun f => rfl) r1 ?_
  refine mq_seg 6 (pc1 := 256) (ls1 := [some (.ref 0), some (.ref 100), some (.ref 138), some (.int (nI i))]) (st1 := [.int (nI i + 1), .ref 0, .ref 138]) (M1 := M1) (fun f => rfl) ?_
  refine mq_v (nI_add i 1) ?_
  refine mq_ld (k := i + 1) rfl (by omega) h1 ?_
  refine mq_seg 4 (pc1 := 261) (ls1 := [some (.ref 0), some (.ref 100), some (.ref 138), some (.int (nI i))]) (st1 := [.int (nI i + 2), .ref 0, .int x1, .ref 138]) (M1 := M1) (fun f => rfl) ?_
  refine mq_v (nI_add i 2) ?_
  refine mq_ld (k := i + 2) rfl (by omega) h2 ?_
  refine mq_call (ci := 10) (y := 155) (y0 := 265) (L := [some (.ref 138), some (.int x1), some (.int x2)]) (rest := []) (rr := some (.int w2)) (M1 := M2) rfl rfl (mm_Kp.rc hfs rfl) rfl (fun f => rfl) r2 ?_
  refine mq_seg 3 (pc1 := 1137) (ls1 := [some (.ref 0), some (.ref 100), some (.ref 138), some (.int (nI i + 5))]) (st1 := []) (M1 := M2) (fun f => rfl) ?_
  refine mq_l (fun q_ => [some (.ref 0), some (.ref 100), some (.ref 138), some (.int q_)]) (nI_add i 5) ?_
  refine mq_seg 1 (pc1 := 18) (ls1 := [some (.ref 0), some (.ref 100), some (.ref 138), some (.int (nI (i + 5)))]) (st1 := []) (M1 := M2) (fun f => rfl) ?_
  exact HK M2 hI
theorem lq_3 {X : List Int32} {i : Nat} {M : mm_H} {x1 : Int32} {x2 : Int32} (hX : X.length < 2 ^ 20) (hi : i + 5 ≤ X.length) (h1 : X[i + 1]? = some x1) (h2 : X[i + 2]? = some x2) (g1 : mm_rc M 100 = some 9) (g2 : ∃ fs, mm_g M 138 = some (.inl (10, fs))) (h : oW 63 156 [some (.ref 100), some (.int x1), some (.int x2)] [some (.ref 138), some (.int x1), some (.int x2)] M) (HK : ∀ M2, kInv M2 → mm_Q X 18 [some (.ref 0), some (.ref 100), some (.ref 138), some (.int (nI (i + 5)))] [] M2) : mm_Q X 32 [some (.ref 0), some (.ref 100), some (.ref 138), some (.int (nI i))] [.int 3] M := by
  obtain ⟨w1, w2, M1, M2, r1, r2, hI⟩ := h
  obtain ⟨fs0, g3⟩ := g2
  obtain ⟨fs, hfs⟩ := mr_kp r1 138 10 fs0 g3
  refine mq_seg 6 (pc1 := 274) (ls1 := [some (.ref 0), some (.ref 100), some (.ref 138), some (.int (nI i))]) (st1 := [.int (nI i + 1), .ref 0, .ref 100]) (M1 := M) (fun f => rfl) ?_
  refine mq_v (nI_add i 1) ?_
  refine mq_ld (k := i + 1) rfl (by omega) h1 ?_
  refine mq_seg 4 (pc1 := 279) (ls1 := [some (.ref 0), some (.ref 100), some (.ref 138), some (.int (nI i))]) (st1 := [.int (nI i + 2), .ref 0, .int x1, .ref 100]) (M1 := M) (fun f => rfl) ?_
  refine mq_v (nI_add i 2) ?_
  refine mq_ld (k := i + 2) rfl (by omega) h2 ?_
  refine mq_call (ci := 9) (y := 63) (y0 := 283) (L := [some (.ref 100), some (.int x1), some (.int x2)]) (rest := []) (rr := some (.int w1)) (M1 := M1) rfl rfl g1 rfl (fun f => rfl) r1 ?_
  refine mq_seg 6 (pc1 := 289) (ls1 := [some (.ref 0), some (.ref 100), some (.ref 138), some (.int (nI i))]) (st1 := [.int (nI i + 1), .ref 0, .ref 138]) (M1 := M1) (fun f => rfl) ?_
  refine mq_v (nI_add i 1) ?_
  refine mq_ld (k := i + 1) rfl (by omega) h1 ?_
  refine mq_seg 4 (pc1 := 294) (ls1 := [some (.ref 0), some (.ref 100), some (.ref 138), some (.int (nI i))]) (st1 := [.int (nI i + 2), .ref 0, .int x1, .ref 138]) (M1 := M1) (fun f => rfl) ?_
  refine mq_v (nI_add i 2) ?_
  refine mq_ld (k := i + 2) rfl (by omega) h2 ?_
  refine mq_call (ci := 10) (y := 156) (y0 := 298) (L := [some (.ref 138), some (.int x1), some (.int x2)]) (rest := []) (rr := some (.int w2)) (M1 := M2) rfl rfl (mm_Kp.rc hfs rfl) rfl (fun f => rfl) r2 ?_
  refine mq_seg 3 (pc1 := 1137) (ls1 := [some (.ref 0), some (.ref 100), some (.ref 138), some (.int (nI i + 5))]) (st1 := []) (M1 := M2) (fun f => rfl) ?_
  refine mq_l (fun q_ => [some (.ref 0), some (.ref 100), some (.ref 138), some (.int q_)]) (nI_add i 5) ?_
  refine mq_seg 1 (pc1 := 18) (ls1 := [some (.ref 0), some (.ref 100), some (.ref 138), some (.int (nI (i + 5)))]) (st1 := []) (M1 := M2) (fun f => rfl) ?_
  exact HK M2 hI
theorem lq_4 {X : List Int32} {i : Nat} {M : mm_H} {x1 : Int32} (hX : X.length < 2 ^ 20) (hi : i + 5 ≤ X.length) (h1 : X[i + 1]? = some x1) (g1 : mm_rc M 100 = some 9) (g2 : ∃ fs, mm_g M 138 = some (.inl (10, fs))) (h : oW 64 157 [some (.ref 100), some (.int x1)] [some (.ref 138), some (.int x1), none, none] M) (HK : ∀ M2, kInv M2 → mm_Q X 18 [some (.ref 0), some (.ref 100), some (.ref 138), some (.int (nI (i + 5)))] [] M2) : mm_Q X 32 [some (.ref 0), some (.ref 100), some (.ref 138), some (.int (nI i))] [.int 4] M := by
  obtain ⟨w1, w2, M1, M2, r1, r2, hI⟩ := h
  obtain ⟨fs0, g3⟩ := g2
  obtain ⟨fs, hfs⟩ := mr_kp r1 138 10 fs0 g3
  refine mq_seg 6 (pc1 := 307) (ls1 := [some (.ref 0), some (.ref 100), some (.ref 138), some (.int (nI i))]) (st1 := [.int (nI i + 1), .ref 0, .ref 100]) (M1 := M) (fun f => rfl) ?_
  refine mq_v (nI_add i 1) ?_
  refine mq_ld (k := i + 1) rfl (by omega) h1 ?_
  refine mq_call (ci := 9) (y := 64) (y0 := 311) (L := [some (.ref 100), some (.int x1)]) (rest := []) (rr := some (.int w1)) (M1 := M1) rfl rfl g1 rfl (fun f => rfl) r1 ?_
  refine mq_seg 6 (pc1 := 317) (ls1 := [some (.ref 0), some (.ref 100), some (.ref 138), some (.int (nI i))]) (st1 := [.int (nI i + 1), .ref 0, .ref 138]) (M1 := M1) (fun f => rfl) ?_
  refine mq_v (nI_add i 1) ?_
  refine mq_ld (k := i + 1) rfl (by omega) h1 ?_
  refine mq_call (ci := 10) (y := 157) (y0 := 321) (L := [some (.ref 138), some (.int x1), none, none]) (rest := []) (rr := some (.int w2)) (M1 := M2) rfl rfl (mm_Kp.rc hfs rfl) rfl (fun f => rfl) r2 ?_
  refine mq_seg 3 (pc1 := 1137) (ls1 := [some (.ref 0), some (.ref 100), some (.ref 138), some (.int (nI i + 5))]) (st1 := []) (M1 := M2) (fun f => rfl) ?_
  refine mq_l (fun q_ => [some (.ref 0), some (.ref 100), some (.ref 138), some (.int q_)]) (nI_add i 5) ?_
  refine mq_seg 1 (pc1 := 18) (ls1 := [some (.ref 0), some (.ref 100), some (.ref 138), some (.int (nI (i + 5)))]) (st1 := []) (M1 := M2) (fun f => rfl) ?_
  exact HK M2 hI
theorem lq_5 {X : List Int32} {i : Nat} {M : mm_H} {x1 : Int32} {x2 : Int32} (hX : X.length < 2 ^ 20) (hi : i + 5 ≤ X.length) (h1 : X[i + 1]? = some x1) (h2 : X[i + 2]? = some x2) (g1 : mm_rc M 100 = some 9) (g2 : ∃ fs, mm_g M 138 = some (.inl (10, fs))) (h : oW 65 158 [some (.ref 100), some (.int x1), some (.int x2), none] [some (.ref 138), some (.int x1), some (.int x2), none] M) (HK : ∀ M2, kInv M2 → mm_Q X 18 [some (.ref 0), some (.ref 100), some (.ref 138), some (.int (nI (i + 5)))] [] M2) : mm_Q X 32 [some (.ref 0), some (.ref 100), some (.ref 138), some (.int (nI i))] [.int 5] M := by
  obtain ⟨w1, w2, M1, M2, r1, r2, hI⟩ := h
  obtain ⟨fs0, g3⟩ := g2
  obtain ⟨fs, hfs⟩ := mr_kp r1 138 10 fs0 g3
  refine mq_seg 6 (pc1 := 330) (ls1 := [some (.ref 0), some (.ref 100), some (.ref 138), some (.int (nI i))]) (st1 := [.int (nI i + 1), .ref 0, .ref 100]) (M1 := M) (fun f => rfl) ?_
  refine mq_v (nI_add i 1) ?_
  refine mq_ld (k := i + 1) rfl (by omega) h1 ?_
  refine mq_seg 4 (pc1 := 335) (ls1 := [some (.ref 0), some (.ref 100), some (.ref 138), some (.int (nI i))]) (st1 := [.int (nI i + 2), .ref 0, .int x1, .ref 100]) (M1 := M) (fun f => rfl) ?_
  refine mq_v (nI_add i 2) ?_
  refine mq_ld (k := i + 2) rfl (by omega) h2 ?_
  refine mq_call (ci := 9) (y := 65) (y0 := 339) (L := [some (.ref 100), some (.int x1), some (.int x2), none]) (rest := []) (rr := some (.int w1)) (M1 := M1) rfl rfl g1 rfl (fun f => rfl) r1 ?_
  refine mq_seg 6 (pc1 := 345) (ls1 := [some (.ref 0), some (.ref 100), some (.ref 138), some (.int (nI i))]) (st1 := [.int (nI i + 1), .ref 0, .ref 138]) (M1 := M1) (fun f => rfl) ?_
  refine mq_v (nI_add i 1) ?_
  refine mq_ld (k := i + 1) rfl (by omega) h1 ?_
  refine mq_seg 4 (pc1 := 350) (ls1 := [some (.ref 0), some (.ref 100), some (.ref 138), some (.int (nI i))]) (st1 := [.int (nI i + 2), .ref 0, .int x1, .ref 138]) (M1 := M1) (fun f => rfl) ?_
  refine mq_v (nI_add i 2) ?_
  refine mq_ld (k := i + 2) rfl (by omega) h2 ?_
  refine mq_call (ci := 10) (y := 158) (y0 := 354) (L := [some (.ref 138), some (.int x1), some (.int x2), none]) (rest := []) (rr := some (.int w2)) (M1 := M2) rfl rfl (mm_Kp.rc hfs rfl) rfl (fun f => rfl) r2 ?_
  refine mq_seg 3 (pc1 := 1137) (ls1 := [some (.ref 0), some (.ref 100), some (.ref 138), some (.int (nI i + 5))]) (st1 := []) (M1 := M2) (fun f => rfl) ?_
  refine mq_l (fun q_ => [some (.ref 0), some (.ref 100), some (.ref 138), some (.int q_)]) (nI_add i 5) ?_
  refine mq_seg 1 (pc1 := 18) (ls1 := [some (.ref 0), some (.ref 100), some (.ref 138), some (.int (nI (i + 5)))]) (st1 := []) (M1 := M2) (fun f => rfl) ?_
  exact HK M2 hI
theorem lq_6 {X : List Int32} {i : Nat} {M : mm_H} {x1 : Int32} (hX : X.length < 2 ^ 20) (hi : i + 5 ≤ X.length) (h1 : X[i + 1]? = some x1) (g1 : mm_rc M 100 = some 9) (g2 : ∃ fs, mm_g M 138 = some (.inl (10, fs))) (h : oW 66 161 [some (.ref 100), some (.int x1)] [some (.ref 138), some (.int x1)] M) (HK : ∀ M2, kInv M2 → mm_Q X 18 [some (.ref 0), some (.ref 100), some (.ref 138), some (.int (nI (i + 5)))] [] M2) : mm_Q X 32 [some (.ref 0), some (.ref 100), some (.ref 138), some (.int (nI i))] [.int 6] M := by
  obtain ⟨w1, w2, M1, M2, r1, r2, hI⟩ := h
  obtain ⟨fs0, g3⟩ := g2
  obtain ⟨fs, hfs⟩ := mr_kp r1 138 10 fs0 g3
  refine mq_seg 6 (pc1 := 363) (ls1 := [some (.ref 0), some (.ref 100), some (.ref 138), some (.int (nI i))]) (st1 := [.int (nI i + 1), .ref 0, .ref 100]) (M1 := M) (fun f => rfl) ?_
  refine mq_v (nI_add i 1) ?_
  refine mq_ld (k := i + 1) rfl (by omega) h1 ?_
  refine mq_call (ci := 9) (y := 66) (y0 := 367) (L := [some (.ref 100), some (.int x1)]) (rest := []) (rr := some (.int w1)) (M1 := M1) rfl rfl g1 rfl (fun f => rfl) r1 ?_
  refine mq_seg 6 (pc1 := 373) (ls1 := [some (.ref 0), some (.ref 100), some (.ref 138), some (.int (nI i))]) (st1 := [.int (nI i + 1), .ref 0, .ref 138]) (M1 := M1) (fun f => rfl) ?_
  refine mq_v (nI_add i 1) ?_
  refine mq_ld (k := i + 1) rfl (by omega) h1 ?_
  refine mq_call (ci := 10) (y := 161) (y0 := 377) (L := [some (.ref 138), some (.int x1)]) (rest := []) (rr := some (.int w2)) (M1 := M2) rfl rfl (mm_Kp.rc hfs rfl) rfl (fun f => rfl) r2 ?_
  refine mq_seg 3 (pc1 := 1137) (ls1 := [some (.ref 0), some (.ref 100), some (.ref 138), some (.int (nI i + 5))]) (st1 := []) (M1 := M2) (fun f => rfl) ?_
  refine mq_l (fun q_ => [some (.ref 0), some (.ref 100), some (.ref 138), some (.int q_)]) (nI_add i 5) ?_
  refine mq_seg 1 (pc1 := 18) (ls1 := [some (.ref 0), some (.ref 100), some (.ref 138), some (.int (nI (i + 5)))]) (st1 := []) (M1 := M2) (fun f => rfl) ?_
  exact HK M2 hI
theorem lq_7 {X : List Int32} {i : Nat} {M : mm_H} {x1 : Int32} (hX : X.length < 2 ^ 20) (hi : i + 5 ≤ X.length) (h1 : X[i + 1]? = some x1) (g1 : mm_rc M 100 = some 9) (g2 : ∃ fs, mm_g M 138 = some (.inl (10, fs))) (h : oW 67 162 [some (.ref 100), some (.int x1), none] [some (.ref 138), some (.int x1)] M) (HK : ∀ M2, kInv M2 → mm_Q X 18 [some (.ref 0), some (.ref 100), some (.ref 138), some (.int (nI (i + 5)))] [] M2) : mm_Q X 32 [some (.ref 0), some (.ref 100), some (.ref 138), some (.int (nI i))] [.int 7] M := by
  obtain ⟨w1, w2, M1, M2, r1, r2, hI⟩ := h
  obtain ⟨fs0, g3⟩ := g2
  obtain ⟨fs, hfs⟩ := mr_kp r1 138 10 fs0 g3
  refine mq_seg 6 (pc1 := 386) (ls1 := [some (.ref 0), some (.ref 100), some (.ref 138), some (.int (nI i))]) (st1 := [.int (nI i + 1), .ref 0, .ref 100]) (M1 := M) (fun f => rfl) ?_
  refine mq_v (nI_add i 1) ?_
  refine mq_ld (k := i + 1) rfl (by omega) h1 ?_
  refine mq_call (ci := 9) (y := 67) (y0 := 390) (L := [some (.ref 100), some (.int x1), none]) (rest := []) (rr := some (.int w1)) (M1 := M1) rfl rfl g1 rfl (fun f => rfl) r1 ?_
  refine mq_seg 6 (pc1 := 396) (ls1 := [some (.ref 0), some (.ref 100), some (.ref 138), some (.int (nI i))]) (st1 := [.int (nI i + 1), .ref 0, .ref 138]) (M1 := M1) (fun f => rfl) ?_
  refine mq_v (nI_add i 1) ?_
  refine mq_ld (k := i + 1) rfl (by omega) h1 ?_
  refine mq_call (ci := 10) (y := 162) (y0 := 400) (L := [some (.ref 138), some (.int x1)]) (rest := []) (rr := some (.int w2)) (M1 := M2) rfl rfl (mm_Kp.rc hfs rfl) rfl (fun f => rfl) r2 ?_
  refine mq_seg 3 (pc1 := 1137) (ls1 := [some (.ref 0), some (.ref 100), some (.ref 138), some (.int (nI i + 5))]) (st1 := []) (M1 := M2) (fun f => rfl) ?_
  refine mq_l (fun q_ => [some (.ref 0), some (.ref 100), some (.ref 138), some (.int q_)]) (nI_add i 5) ?_
  refine mq_seg 1 (pc1 := 18) (ls1 := [some (.ref 0), some (.ref 100), some (.ref 138), some (.int (nI (i + 5)))]) (st1 := []) (M1 := M2) (fun f => rfl) ?_
  exact HK M2 hI
theorem lq_8 {X : List Int32} {i : Nat} {M : mm_H} {x1 : Int32} (hX : X.length < 2 ^ 20) (hi : i + 5 ≤ X.length) (h1 : X[i + 1]? = some x1) (g1 : mm_rc M 100 = some 9) (g2 : ∃ fs, mm_g M 138 = some (.inl (10, fs))) (h : oW 68 163 [some (.ref 100), some (.int x1), none] [some (.ref 138), some (.int x1)] M) (HK : ∀ M2, kInv M2 → mm_Q X 18 [some (.ref 0), some (.ref 100), some (.ref 138), some (.int (nI (i + 5)))] [] M2) : mm_Q X 32 [some (.ref 0), some (.ref 100), some (.ref 138), some (.int (nI i))] [.int 8] M := by
  obtain ⟨w1, w2, M1, M2, r1, r2, hI⟩ := h
  obtain ⟨fs0, g3⟩ := g2
  obtain ⟨fs, hfs⟩ := mr_kp r1 138 10 fs0 g3
  refine mq_seg 6 (pc1 := 409) (ls1 := [some (.ref 0), some (.ref 100), some (.ref 138), some (.int (nI i))]) (st1 := [.int (nI i + 1), .ref 0, .ref 100]) (M1 := M) (fun f => rfl) ?_
  refine mq_v (nI_add i 1) ?_
  refine mq_ld (k := i + 1) rfl (by omega) h1 ?_
  refine mq_call (ci := 9) (y := 68) (y0 := 413) (L := [some (.ref 100), some (.int x1), none]) (rest := []) (rr := some (.int w1)) (M1 := M1) rfl rfl g1 rfl (fun f => rfl) r1 ?_
  refine mq_seg 6 (pc1 := 419) (ls1 := [some (.ref 0), some (.ref 100), some (.ref 138), some (.int (nI i))]) (st1 := [.int (nI i + 1), .ref 0, .ref 138]) (M1 := M1) (fun f => rfl) ?_
  refine mq_v (nI_add i 1) ?_
  refine mq_ld (k := i + 1) rfl (by omega) h1 ?_
  refine mq_call (ci := 10) (y := 163) (y0 := 423) (L := [some (.ref 138), some (.int x1)]) (rest := []) (rr := some (.int w2)) (M1 := M2) rfl rfl (mm_Kp.rc hfs rfl) rfl (fun f => rfl) r2 ?_
  refine mq_seg 3 (pc1 := 1137) (ls1 := [some (.ref 0), some (.ref 100), some (.ref 138), some (.int (nI i + 5))]) (st1 := []) (M1 := M2) (fun f => rfl) ?_
  refine mq_l (fun q_ => [some (.ref 0), some (.ref 100), some (.ref 138), some (.int q_)]) (nI_add i 5) ?_
  refine mq_seg 1 (pc1 := 18) (ls1 := [some (.ref 0), some (.ref 100), some (.ref 138), some (.int (nI (i + 5)))]) (st1 := []) (M1 := M2) (fun f => rfl) ?_
  exact HK M2 hI
theorem lq_9 {X : List Int32} {i : Nat} {M : mm_H} {x1 : Int32} (hX : X.length < 2 ^ 20) (hi : i + 5 ≤ X.length) (h1 : X[i + 1]? = some x1) (g1 : mm_rc M 100 = some 9) (g2 : ∃ fs, mm_g M 138 = some (.inl (10, fs))) (h : oW 69 164 [some (.ref 100), some (.int x1), none] [some (.ref 138), some (.int x1), none] M) (HK : ∀ M2, kInv M2 → mm_Q X 18 [some (.ref 0), some (.ref 100), some (.ref 138), some (.int (nI (i + 5)))] [] M2) : mm_Q X 32 [some (.ref 0), some (.ref 100), some (.ref 138), some (.int (nI i))] [.int 9] M := by
  obtain ⟨w1, w2, M1, M2, r1, r2, hI⟩ := h
  obtain ⟨fs0, g3⟩ := g2
  obtain ⟨fs, hfs⟩ := mr_kp r1 138 10 fs0 g3
  refine mq_seg 6 (pc1 := 432) (ls1 := [some (.ref 0), some (.ref 100), some (.ref 138), some (.int (nI i))]) (st1 := [.int (nI i + 1), .ref 0, .ref 100]) (M1 := M) (fun f => rfl) ?_
  refine mq_v (nI_add i 1) ?_
  refine mq_ld (k := i + 1) rfl (by omega) h1 ?_
  refine mq_call (ci := 9) (y := 69) (y0 := 436) (L := [some (.ref 100), some (.int x1), none]) (rest := []) (rr := some (.int w1)) (M1 := M1) rfl rfl g1 rfl (fun f => rfl) r1 ?_
  refine mq_seg 6 (pc1 := 442) (ls1 := [some (.ref 0), some (.ref 100), some (.ref 138), some (.int (nI i))]) (st1 := [.int (nI i + 1), .ref 0, .ref 138]) (M1 := M1) (fun f => rfl) ?_
  refine mq_v (nI_add i 1) ?_
  refine mq_ld (k := i + 1) rfl (by omega) h1 ?_
  refine mq_call (ci := 10) (y := 164) (y0 := 446) (L := [some (.ref 138), some (.int x1), none]) (rest := []) (rr := some (.int w2)) (M1 := M2) rfl rfl (mm_Kp.rc hfs rfl) rfl (fun f => rfl) r2 ?_
  refine mq_seg 3 (pc1 := 1137) (ls1 := [some (.ref 0), some (.ref 100), some (.ref 138), some (.int (nI i + 5))]) (st1 := []) (M1 := M2) (fun f => rfl) ?_
  refine mq_l (fun q_ => [some (.ref 0), some (.ref 100), some (.ref 138), some (.int q_)]) (nI_add i 5) ?_
  refine mq_seg 1 (pc1 := 18) (ls1 := [some (.ref 0), some (.ref 100), some (.ref 138), some (.int (nI (i + 5)))]) (st1 := []) (M1 := M2) (fun f => rfl) ?_
  exact HK M2 hI
theorem lq_10 {X : List Int32} {i : Nat} {M : mm_H} {x1 : Int32} (hX : X.length < 2 ^ 20) (hi : i + 5 ≤ X.length) (h1 : X[i + 1]? = some x1) (g1 : mm_rc M 100 = some 9) (g2 : ∃ fs, mm_g M 138 = some (.inl (10, fs))) (h : oW 70 165 [some (.ref 100), some (.int x1)] [some (.ref 138), some (.int x1)] M) (HK : ∀ M2, kInv M2 → mm_Q X 18 [some (.ref 0), some (.ref 100), some (.ref 138), some (.int (nI (i + 5)))] [] M2) : mm_Q X 32 [some (.ref 0), some (.ref 100), some (.ref 138), some (.int (nI i))] [.int 10] M := by
  obtain ⟨w1, w2, M1, M2, r1, r2, hI⟩ := h
  obtain ⟨fs0, g3⟩ := g2
  obtain ⟨fs, hfs⟩ := mr_kp r1 138 10 fs0 g3
  refine mq_seg 6 (pc1 := 455) (ls1 := [some (.ref 0), some (.ref 100), some (.ref 138), some (.int (nI i))]) (st1 := [.int (nI i + 1), .ref 0, .ref 100]) (M1 := M) (fun f => rfl) ?_
  refine mq_v (nI_add i 1) ?_
  refine mq_ld (k := i + 1) rfl (by omega) h1 ?_
  refine mq_call (ci := 9) (y := 70) (y0 := 459) (L := [some (.ref 100), some (.int x1)]) (rest := []) (rr := some (.int w1)) (M1 := M1) rfl rfl g1 rfl (fun f => rfl) r1 ?_
  refine mq_seg 6 (pc1 := 465) (ls1 := [some (.ref 0), some (.ref 100), some (.ref 138), some (.int (nI i))]) (st1 := [.int (nI i + 1), .ref 0, .ref 138]) (M1 := M1) (fun f => rfl) ?_
  refine mq_v (nI_add i 1) ?_
  refine mq_ld (k := i + 1) rfl (by omega) h1 ?_
  refine mq_call (ci := 10) (y := 165) (y0 := 469) (L := [some (.ref 138), some (.int x1)]) (rest := []) (rr := some (.int w2)) (M1 := M2) rfl rfl (mm_Kp.rc hfs rfl) rfl (fun f => rfl) r2 ?_
  refine mq_seg 3 (pc1 := 1137) (ls1 := [some (.ref 0), some (.ref 100), some (.ref 138), some (.int (nI i + 5))]) (st1 := []) (M1 := M2) (fun f => rfl) ?_
  refine mq_l (fun q_ => [some (.ref 0), some (.ref 100), some (.ref 138), some (.int q_)]) (nI_add i 5) ?_
  refine mq_seg 1 (pc1 := 18) (ls1 := [some (.ref 0), some (.ref 100), some (.ref 138), some (.int (nI (i + 5)))]) (st1 := []) (M1 := M2) (fun f => rfl) ?_
  exact HK M2 hI
theorem lq_11 {X : List Int32} {i : Nat} {M : mm_H} {x1 : Int32} {x2 : Int32} {x3 : Int32} (hX : X.length < 2 ^ 20) (hi : i + 5 ≤ X.length) (h1 : X[i + 1]? = some x1) (h2 : X[i + 2]? = some x2) (h3 : X[i + 3]? = some x3) (g1 : mm_rc M 100 = some 9) (g2 : ∃ fs, mm_g M 138 = some (.inl (10, fs))) (h : oW 72 166 [some (.ref 100), some (.int x1), some (.int x2), some (.int x3), none] [some (.ref 138), some (.int x1), some (.int x2), some (.int x3), none, none] M) (HK : ∀ M2, kInv M2 → mm_Q X 18 [some (.ref 0), some (.ref 100), some (.ref 138), some (.int (nI (i + 5)))] [] M2) : mm_Q X 32 [some (.ref 0), some (.ref 100), some (.ref 138), some (.int (nI i))] [.int 11] M := by
  obtain ⟨w1, w2, M1, M2, r1, r2, hI⟩ := h
  obtain ⟨fs0, g3⟩ := g2
  obtain ⟨fs, hfs⟩ := mr_kp r1 138 10 fs0 g3
  refine mq_seg 6 (pc1 := 478) (ls1 := [some (.ref 0), some (.ref 100), some (.ref 138), some (.int (nI i))]) (st1 := [.int (nI i + 1), .ref 0, .ref 100]) (M1 := M) (fun f => rfl) ?_
  refine mq_v (nI_add i 1) ?_
  refine mq_ld (k := i + 1) rfl (by omega) h1 ?_
  refine mq_seg 4 (pc1 := 483) (ls1 := [some (.ref 0), some (.ref 100), some (.ref 138), some (.int (nI i))]) (st1 := [.int (nI i + 2), .ref 0, .int x1, .ref 100]) (M1 := M) (fun f => rfl) ?_
  refine mq_v (nI_add i 2) ?_
  refine mq_ld (k := i + 2) rfl (by omega) h2 ?_
  refine mq_seg 4 (pc1 := 488) (ls1 := [some (.ref 0), some (.ref 100), some (.ref 138), some (.int (nI i))]) (st1 := [.int (nI i + 3), .ref 0, .int x2, .int x1, .ref 100]) (M1 := M) (fun f => rfl) ?_
  refine mq_v (nI_add i 3) ?_
  refine mq_ld (k := i + 3) rfl (by omega) h3 ?_
  refine mq_call (ci := 9) (y := 72) (y0 := 492) (L := [some (.ref 100), some (.int x1), some (.int x2), some (.int x3), none]) (rest := []) (rr := some (.int w1)) (M1 := M1) rfl rfl g1 rfl (fun f => rfl) r1 ?_
  refine mq_seg 6 (pc1 := 498) (ls1 := [some (.ref 0), some (.ref 100), some (.ref 138), some (.int (nI i))]) (st1 := [.int (nI i + 1), .ref 0, .ref 138]) (M1 := M1) (fun f => rfl) ?_
  refine mq_v (nI_add i 1) ?_
  refine mq_ld (k := i + 1) rfl (by omega) h1 ?_
  refine mq_seg 4 (pc1 := 503) (ls1 := [some (.ref 0), some (.ref 100), some (.ref 138), some (.int (nI i))]) (st1 := [.int (nI i + 2), .ref 0, .int x1, .ref 138]) (M1 := M1) (fun f => rfl) ?_
  refine mq_v (nI_add i 2) ?_
  refine mq_ld (k := i + 2) rfl (by omega) h2 ?_
  refine mq_seg 4 (pc1 := 508) (ls1 := [some (.ref 0), some (.ref 100), some (.ref 138), some (.int (nI i))]) (st1 := [.int (nI i + 3), .ref 0, .int x2, .int x1, .ref 138]) (M1 := M1) (fun f => rfl) ?_
  refine mq_v (nI_add i 3) ?_
  refine mq_ld (k := i + 3) rfl (by omega) h3 ?_
  refine mq_call (ci := 10) (y := 166) (y0 := 512) (L := [some (.ref 138), some (.int x1), some (.int x2), some (.int x3), none, none]) (rest := []) (rr := some (.int w2)) (M1 := M2) rfl rfl (mm_Kp.rc hfs rfl) rfl (fun f => rfl) r2 ?_
  refine mq_seg 3 (pc1 := 1137) (ls1 := [some (.ref 0), some (.ref 100), some (.ref 138), some (.int (nI i + 5))]) (st1 := []) (M1 := M2) (fun f => rfl) ?_
  refine mq_l (fun q_ => [some (.ref 0), some (.ref 100), some (.ref 138), some (.int q_)]) (nI_add i 5) ?_
  refine mq_seg 1 (pc1 := 18) (ls1 := [some (.ref 0), some (.ref 100), some (.ref 138), some (.int (nI (i + 5)))]) (st1 := []) (M1 := M2) (fun f => rfl) ?_
  exact HK M2 hI
theorem lq_12 {X : List Int32} {i : Nat} {M : mm_H} {x1 : Int32} (hX : X.length < 2 ^ 20) (hi : i + 5 ≤ X.length) (h1 : X[i + 1]? = some x1) (g1 : mm_rc M 100 = some 9) (g2 : ∃ fs, mm_g M 138 = some (.inl (10, fs))) (h : oW 73 167 [some (.ref 100), some (.int x1)] [some (.ref 138), some (.int x1)] M) (HK : ∀ M2, kInv M2 → mm_Q X 18 [some (.ref 0), some (.ref 100), some (.ref 138), some (.int (nI (i + 5)))] [] M2) : mm_Q X 32 [some (.ref 0), some (.ref 100), some (.ref 138), some (.int (nI i))] [.int 12] M := by
  obtain ⟨w1, w2, M1, M2, r1, r2, hI⟩ := h
  obtain ⟨fs0, g3⟩ := g2
  obtain ⟨fs, hfs⟩ := mr_kp r1 138 10 fs0 g3
  refine mq_seg 6 (pc1 := 521) (ls1 := [some (.ref 0), some (.ref 100), some (.ref 138), some (.int (nI i))]) (st1 := [.int (nI i + 1), .ref 0, .ref 100]) (M1 := M) (fun f => rfl) ?_
  refine mq_v (nI_add i 1) ?_
  refine mq_ld (k := i + 1) rfl (by omega) h1 ?_
  refine mq_call (ci := 9) (y := 73) (y0 := 525) (L := [some (.ref 100), some (.int x1)]) (rest := []) (rr := some (.int w1)) (M1 := M1) rfl rfl g1 rfl (fun f => rfl) r1 ?_
  refine mq_seg 6 (pc1 := 531) (ls1 := [some (.ref 0), some (.ref 100), some (.ref 138), some (.int (nI i))]) (st1 := [.int (nI i + 1), .ref 0, .ref 138]) (M1 := M1) (fun f => rfl) ?_
  refine mq_v (nI_add i 1) ?_
  refine mq_ld (k := i + 1) rfl (by omega) h1 ?_
  refine mq_call (ci := 10) (y := 167) (y0 := 535) (L := [some (.ref 138), some (.int x1)]) (rest := []) (rr := some (.int w2)) (M1 := M2) rfl rfl (mm_Kp.rc hfs rfl) rfl (fun f => rfl) r2 ?_
  refine mq_seg 3 (pc1 := 1137) (ls1 := [some (.ref 0), some (.ref 100), some (.ref 138), some (.int (nI i + 5))]) (st1 := []) (M1 := M2) (fun f => rfl) ?_
  refine mq_l (fun q_ => [some (.ref 0), some (.ref 100), some (.ref 138), some (.int q_)]) (nI_add i 5) ?_
  refine mq_seg 1 (pc1 := 18) (ls1 := [some (.ref 0), some (.ref 100), some (.ref 138), some (.int (nI (i + 5)))]) (st1 := []) (M1 := M2) (fun f => rfl) ?_
  exact HK M2 hI
theorem lq_13 {X : List Int32} {i : Nat} {M : mm_H} {x1 : Int32} {x2 : Int32} (hX : X.length < 2 ^ 20) (hi : i + 5 ≤ X.length) (h1 : X[i + 1]? = some x1) (h2 : X[i + 2]? = some x2) (g1 : mm_rc M 100 = some 9) (g2 : ∃ fs, mm_g M 138 = some (.inl (10, fs))) (h : oW 74 168 [some (.ref 100), some (.int x1), some (.int x2), none] [some (.ref 138), some (.int x1), some (.int x2), none] M) (HK : ∀ M2, kInv M2 → mm_Q X 18 [some (.ref 0), some (.ref 100), some (.ref 138), some (.int (nI (i + 5)))] [] M2) : mm_Q X 32 [some (.ref 0), some (.ref 100), some (.ref 138), some (.int (nI i))] [.int 13] M := by
  obtain ⟨w1, w2, M1, M2, r1, r2, hI⟩ := h
  obtain ⟨fs0, g3⟩ := g2
  obtain ⟨fs, hfs⟩ := mr_kp r1 138 10 fs0 g3
  refine mq_seg 6 (pc1 := 544) (ls1 := [some (.ref 0), some (.ref 100), some (.ref 138), some (.int (nI i))]) (st1 := [.int (nI i + 1), .ref 0, .ref 100]) (M1 := M) (fun f => rfl) ?_
  refine mq_v (nI_add i 1) ?_
  refine mq_ld (k := i + 1) rfl (by omega) h1 ?_
  refine mq_seg 4 (pc1 := 549) (ls1 := [some (.ref 0), some (.ref 100), some (.ref 138), some (.int (nI i))]) (st1 := [.int (nI i + 2), .ref 0, .int x1, .ref 100]) (M1 := M) (fun f => rfl) ?_
  refine mq_v (nI_add i 2) ?_
  refine mq_ld (k := i + 2) rfl (by omega) h2 ?_
  refine mq_call (ci := 9) (y := 74) (y0 := 553) (L := [some (.ref 100), some (.int x1), some (.int x2), none]) (rest := []) (rr := some (.int w1)) (M1 := M1) rfl rfl g1 rfl (fun f => rfl) r1 ?_
  refine mq_seg 6 (pc1 := 559) (ls1 := [some (.ref 0), some (.ref 100), some (.ref 138), some (.int (nI i))]) (st1 := [.int (nI i + 1), .ref 0, .ref 138]) (M1 := M1) (fun f => rfl) ?_
  refine mq_v (nI_add i 1) ?_
  refine mq_ld (k := i + 1) rfl (by omega) h1 ?_
  refine mq_seg 4 (pc1 := 564) (ls1 := [some (.ref 0), some (.ref 100), some (.ref 138), some (.int (nI i))]) (st1 := [.int (nI i + 2), .ref 0, .int x1, .ref 138]) (M1 := M1) (fun f => rfl) ?_
  refine mq_v (nI_add i 2) ?_
  refine mq_ld (k := i + 2) rfl (by omega) h2 ?_
  refine mq_call (ci := 10) (y := 168) (y0 := 568) (L := [some (.ref 138), some (.int x1), some (.int x2), none]) (rest := []) (rr := some (.int w2)) (M1 := M2) rfl rfl (mm_Kp.rc hfs rfl) rfl (fun f => rfl) r2 ?_
  refine mq_seg 3 (pc1 := 1137) (ls1 := [some (.ref 0), some (.ref 100), some (.ref 138), some (.int (nI i + 5))]) (st1 := []) (M1 := M2) (fun f => rfl) ?_
  refine mq_l (fun q_ => [some (.ref 0), some (.ref 100), some (.ref 138), some (.int q_)]) (nI_add i 5) ?_
  refine mq_seg 1 (pc1 := 18) (ls1 := [some (.ref 0), some (.ref 100), some (.ref 138), some (.int (nI (i + 5)))]) (st1 := []) (M1 := M2) (fun f => rfl) ?_
  exact HK M2 hI
theorem lq_14 {X : List Int32} {i : Nat} {M : mm_H} {x1 : Int32} {x2 : Int32} (hX : X.length < 2 ^ 20) (hi : i + 5 ≤ X.length) (h1 : X[i + 1]? = some x1) (h2 : X[i + 2]? = some x2) (g1 : mm_rc M 100 = some 9) (g2 : ∃ fs, mm_g M 138 = some (.inl (10, fs))) (h : oW 78 171 [some (.ref 100), some (.int x1), some (.int x2), none] [some (.ref 138), some (.int x1), some (.int x2), none] M) (HK : ∀ M2, kInv M2 → mm_Q X 18 [some (.ref 0), some (.ref 100), some (.ref 138), some (.int (nI (i + 5)))] [] M2) : mm_Q X 32 [some (.ref 0), some (.ref 100), some (.ref 138), some (.int (nI i))] [.int 14] M := by
  obtain ⟨w1, w2, M1, M2, r1, r2, hI⟩ := h
  obtain ⟨fs0, g3⟩ := g2
  obtain ⟨fs, hfs⟩ := mr_kp r1 138 10 fs0 g3
  refine mq_seg 6 (pc1 := 577) (ls1 := [some (.ref 0), some (.ref 100), some (.ref 138), some (.int (nI i))]) (st1 := [.int (nI i + 1), .ref 0, .ref 100]) (M1 := M) (fun f => rfl) ?_
  refine mq_v (nI_add i 1) ?_
  refine mq_ld (k := i + 1) rfl (by omega) h1 ?_
  refine mq_seg 4 (pc1 := 582) (ls1 := [some (.ref 0), some (.ref 100), some (.ref 138), some (.int (nI i))]) (st1 := [.int (nI i + 2), .ref 0, .int x1, .ref 100]) (M1 := M) (fun f => rfl) ?_
  refine mq_v (nI_add i 2) ?_
  refine mq_ld (k := i + 2) rfl (by omega) h2 ?_
  refine mq_call (ci := 9) (y := 78) (y0 := 586) (L := [some (.ref 100), some (.int x1), some (.int x2), none]) (rest := []) (rr := some (.int w1)) (M1 := M1) rfl rfl g1 rfl (fun f => rfl) r1 ?_
  refine mq_seg 6 (pc1 := 592) (ls1 := [some (.ref 0), some (.ref 100), some (.ref 138), some (.int (nI i))]) (st1 := [.int (nI i + 1), .ref 0, .ref 138]) (M1 := M1) (fun f => rfl) ?_
  refine mq_v (nI_add i 1) ?_
  refine mq_ld (k := i + 1) rfl (by omega) h1 ?_
  refine mq_seg 4 (pc1 := 597) (ls1 := [some (.ref 0), some (.ref 100), some (.ref 138), some (.int (nI i))]) (st1 := [.int (nI i + 2), .ref 0, .int x1, .ref 138]) (M1 := M1) (fun f => rfl) ?_
  refine mq_v (nI_add i 2) ?_
  refine mq_ld (k := i + 2) rfl (by omega) h2 ?_
  refine mq_call (ci := 10) (y := 171) (y0 := 601) (L := [some (.ref 138), some (.int x1), some (.int x2), none]) (rest := []) (rr := some (.int w2)) (M1 := M2) rfl rfl (mm_Kp.rc hfs rfl) rfl (fun f => rfl) r2 ?_
  refine mq_seg 3 (pc1 := 1137) (ls1 := [some (.ref 0), some (.ref 100), some (.ref 138), some (.int (nI i + 5))]) (st1 := []) (M1 := M2) (fun f => rfl) ?_
  refine mq_l (fun q_ => [some (.ref 0), some (.ref 100), some (.ref 138), some (.int q_)]) (nI_add i 5) ?_
  refine mq_seg 1 (pc1 := 18) (ls1 := [some (.ref 0), some (.ref 100), some (.ref 138), some (.int (nI (i + 5)))]) (st1 := []) (M1 := M2) (fun f => rfl) ?_
  exact HK M2 hI
theorem lq_15 {X : List Int32} {i : Nat} {M : mm_H} {x1 : Int32} (hX : X.length < 2 ^ 20) (hi : i + 5 ≤ X.length) (h1 : X[i + 1]? = some x1) (g1 : mm_rc M 100 = some 9) (g2 : ∃ fs, mm_g M 138 = some (.inl (10, fs))) (h : oW 79 172 [some (.ref 100), some (.int x1), none] [some (.ref 138), some (.int x1)] M) (HK : ∀ M2, kInv M2 → mm_Q X 18 [some (.ref 0), some (.ref 100), some (.ref 138), some (.int (nI (i + 5)))] [] M2) : mm_Q X 32 [some (.ref 0), some (.ref 100), some (.ref 138), some (.int (nI i))] [.int 15] M := by
  obtain ⟨w1, w2, M1, M2, r1, r2, hI⟩ := h
  obtain ⟨fs0, g3⟩ := g2
  obtain ⟨fs, hfs⟩ := mr_kp r1 138 10 fs0 g3
  refine mq_seg 6 (pc1 := 610) (ls1 := [some (.ref 0), some (.ref 100), some (.ref 138), some (.int (nI i))]) (st1 := [.int (nI i + 1), .ref 0, .ref 100]) (M1 := M) (fun f => rfl) ?_
  refine mq_v (nI_add i 1) ?_
  refine mq_ld (k := i + 1) rfl (by omega) h1 ?_
  refine mq_call (ci := 9) (y := 79) (y0 := 614) (L := [some (.ref 100), some (.int x1), none]) (rest := []) (rr := some (.int w1)) (M1 := M1) rfl rfl g1 rfl (fun f => rfl) r1 ?_
  refine mq_seg 6 (pc1 := 620) (ls1 := [some (.ref 0), some (.ref 100), some (.ref 138), some (.int (nI i))]) (st1 := [.int (nI i + 1), .ref 0, .ref 138]) (M1 := M1) (fun f => rfl) ?_
  refine mq_v (nI_add i 1) ?_
  refine mq_ld (k := i + 1) rfl (by omega) h1 ?_
  refine mq_call (ci := 10) (y := 172) (y0 := 624) (L := [some (.ref 138), some (.int x1)]) (rest := []) (rr := some (.int w2)) (M1 := M2) rfl rfl (mm_Kp.rc hfs rfl) rfl (fun f => rfl) r2 ?_
  refine mq_seg 3 (pc1 := 1137) (ls1 := [some (.ref 0), some (.ref 100), some (.ref 138), some (.int (nI i + 5))]) (st1 := []) (M1 := M2) (fun f => rfl) ?_
  refine mq_l (fun q_ => [some (.ref 0), some (.ref 100), some (.ref 138), some (.int q_)]) (nI_add i 5) ?_
  refine mq_seg 1 (pc1 := 18) (ls1 := [some (.ref 0), some (.ref 100), some (.ref 138), some (.int (nI (i + 5)))]) (st1 := []) (M1 := M2) (fun f => rfl) ?_
  exact HK M2 hI
theorem lq_16 {X : List Int32} {i : Nat} {M : mm_H} {x1 : Int32} (hX : X.length < 2 ^ 20) (hi : i + 5 ≤ X.length) (h1 : X[i + 1]? = some x1) (g1 : mm_rc M 100 = some 9) (g2 : ∃ fs, mm_g M 138 = some (.inl (10, fs))) (h : oW 81 174 [some (.ref 100), some (.int x1), none] [some (.ref 138), some (.int x1)] M) (HK : ∀ M2, kInv M2 → mm_Q X 18 [some (.ref 0), some (.ref 100), some (.ref 138), some (.int (nI (i + 5)))] [] M2) : mm_Q X 32 [some (.ref 0), some (.ref 100), some (.ref 138), some (.int (nI i))] [.int 16] M := by
  obtain ⟨w1, w2, M1, M2, r1, r2, hI⟩ := h
  obtain ⟨fs0, g3⟩ := g2
  obtain ⟨fs, hfs⟩ := mr_kp r1 138 10 fs0 g3
  refine mq_seg 6 (pc1 := 633) (ls1 := [some (.ref 0), some (.ref 100), some (.ref 138), some (.int (nI i))]) (st1 := [.int (nI i + 1), .ref 0, .ref 100]) (M1 := M) (fun f => rfl) ?_
  refine mq_v (nI_add i 1) ?_
  refine mq_ld (k := i + 1) rfl (by omega) h1 ?_
  refine mq_call (ci := 9) (y := 81) (y0 := 637) (L := [some (.ref 100), some (.int x1), none]) (rest := []) (rr := some (.int w1)) (M1 := M1) rfl rfl g1 rfl (fun f => rfl) r1 ?_
  refine mq_seg 6 (pc1 := 643) (ls1 := [some (.ref 0), some (.ref 100), some (.ref 138), some (.int (nI i))]) (st1 := [.int (nI i + 1), .ref 0, .ref 138]) (M1 := M1) (fun f => rfl) ?_
  refine mq_v (nI_add i 1) ?_
  refine mq_ld (k := i + 1) rfl (by omega) h1 ?_
  refine mq_call (ci := 10) (y := 174) (y0 := 647) (L := [some (.ref 138), some (.int x1)]) (rest := []) (rr := some (.int w2)) (M1 := M2) rfl rfl (mm_Kp.rc hfs rfl) rfl (fun f => rfl) r2 ?_
  refine mq_seg 3 (pc1 := 1137) (ls1 := [some (.ref 0), some (.ref 100), some (.ref 138), some (.int (nI i + 5))]) (st1 := []) (M1 := M2) (fun f => rfl) ?_
  refine mq_l (fun q_ => [some (.ref 0), some (.ref 100), some (.ref 138), some (.int q_)]) (nI_add i 5) ?_
  refine mq_seg 1 (pc1 := 18) (ls1 := [some (.ref 0), some (.ref 100), some (.ref 138), some (.int (nI (i + 5)))]) (st1 := []) (M1 := M2) (fun f => rfl) ?_
  exact HK M2 hI
theorem lq_17 {X : List Int32} {i : Nat} {M : mm_H} (hX : X.length < 2 ^ 20) (hi : i + 5 ≤ X.length) (g1 : mm_rc M 100 = some 9) (g2 : ∃ fs, mm_g M 138 = some (.inl (10, fs))) (h : oW 85 177 [some (.ref 100), none, none, none, none] [some (.ref 138), none, none, none] M) (HK : ∀ M2, kInv M2 → mm_Q X 18 [some (.ref 0), some (.ref 100), some (.ref 138), some (.int (nI (i + 5)))] [] M2) : mm_Q X 32 [some (.ref 0), some (.ref 100), some (.ref 138), some (.int (nI i))] [.int 17] M := by
  obtain ⟨w1, w2, M1, M2, r1, r2, hI⟩ := h
  obtain ⟨fs0, g3⟩ := g2
  obtain ⟨fs, hfs⟩ := mr_kp r1 138 10 fs0 g3
  refine mq_seg 2 (pc1 := 652) (ls1 := [some (.ref 0), some (.ref 100), some (.ref 138), some (.int (nI i))]) (st1 := [.ref 100]) (M1 := M) (fun f => rfl) ?_
  refine mq_call (ci := 9) (y := 85) (y0 := 655) (L := [some (.ref 100), none, none, none, none]) (rest := []) (rr := some (.int w1)) (M1 := M1) rfl rfl g1 rfl (fun f => rfl) r1 ?_
  refine mq_seg 2 (pc1 := 657) (ls1 := [some (.ref 0), some (.ref 100), some (.ref 138), some (.int (nI i))]) (st1 := [.ref 138]) (M1 := M1) (fun f => rfl) ?_
  refine mq_call (ci := 10) (y := 177) (y0 := 660) (L := [some (.ref 138), none, none, none]) (rest := []) (rr := some (.int w2)) (M1 := M2) rfl rfl (mm_Kp.rc hfs rfl) rfl (fun f => rfl) r2 ?_
  refine mq_seg 3 (pc1 := 1137) (ls1 := [some (.ref 0), some (.ref 100), some (.ref 138), some (.int (nI i + 5))]) (st1 := []) (M1 := M2) (fun f => rfl) ?_
  refine mq_l (fun q_ => [some (.ref 0), some (.ref 100), some (.ref 138), some (.int q_)]) (nI_add i 5) ?_
  refine mq_seg 1 (pc1 := 18) (ls1 := [some (.ref 0), some (.ref 100), some (.ref 138), some (.int (nI (i + 5)))]) (st1 := []) (M1 := M2) (fun f => rfl) ?_
  exact HK M2 hI
theorem lq_18 {X : List Int32} {i : Nat} {M : mm_H} {x1 : Int32} {x2 : Int32} (hX : X.length < 2 ^ 20) (hi : i + 5 ≤ X.length) (h1 : X[i + 1]? = some x1) (h2 : X[i + 2]? = some x2) (g1 : mm_rc M 100 = some 9) (g2 : ∃ fs, mm_g M 138 = some (.inl (10, fs))) (h : oI 86 178 [some (.ref 100), some (.int x1), some (.int x2), none, none] [some (.ref 138), some (.int x1), some (.int x2), none, none, none, none, none] M) (HK : ∀ M2, kInv M2 → mm_Q X 18 [some (.ref 0), some (.ref 100), some (.ref 138), some (.int (nI (i + 5)))] [] M2) : mm_Q X 32 [some (.ref 0), some (.ref 100), some (.ref 138), some (.int (nI i))] [.int 18] M := by
  obtain ⟨w1, M1, M2, r1, r2, hI⟩ := h
  obtain ⟨fs0, g3⟩ := g2
  obtain ⟨fs, hfs⟩ := mr_kp r1 138 10 fs0 g3
  refine mq_seg 6 (pc1 := 669) (ls1 := [some (.ref 0), some (.ref 100), some (.ref 138), some (.int (nI i))]) (st1 := [.int (nI i + 1), .ref 0, .ref 100]) (M1 := M) (fun f => rfl) ?_
  refine mq_v (nI_add i 1) ?_
  refine mq_ld (k := i + 1) rfl (by omega) h1 ?_
  refine mq_seg 4 (pc1 := 674) (ls1 := [some (.ref 0), some (.ref 100), some (.ref 138), some (.int (nI i))]) (st1 := [.int (nI i + 2), .ref 0, .int x1, .ref 100]) (M1 := M) (fun f => rfl) ?_
  refine mq_v (nI_add i 2) ?_
  refine mq_ld (k := i + 2) rfl (by omega) h2 ?_
  refine mq_call (ci := 9) (y := 86) (y0 := 678) (L := [some (.ref 100), some (.int x1), some (.int x2), none, none]) (rest := []) (rr := some (.int w1)) (M1 := M1) rfl rfl g1 rfl (fun f => rfl) r1 ?_
  refine mq_seg 5 (pc1 := 683) (ls1 := [some (.ref 0), some (.ref 100), some (.ref 138), some (.int (nI i))]) (st1 := [.int (nI i + 1), .ref 0, .ref 138, .int w1]) (M1 := M1) (fun f => rfl) ?_
  refine mq_v (nI_add i 1) ?_
  refine mq_ld (k := i + 1) rfl (by omega) h1 ?_
  refine mq_seg 4 (pc1 := 688) (ls1 := [some (.ref 0), some (.ref 100), some (.ref 138), some (.int (nI i))]) (st1 := [.int (nI i + 2), .ref 0, .int x1, .ref 138, .int w1]) (M1 := M1) (fun f => rfl) ?_
  refine mq_v (nI_add i 2) ?_
  refine mq_ld (k := i + 2) rfl (by omega) h2 ?_
  refine mq_call (ci := 10) (y := 178) (y0 := 692) (L := [some (.ref 138), some (.int x1), some (.int x2), none, none, none, none, none]) (rest := [.int w1]) (rr := some (.int w1)) (M1 := M2) rfl rfl (mm_Kp.rc hfs rfl) rfl (fun f => rfl) r2 ?_
  refine mq_eq_t rfl ?_
  refine mq_seg 1 (pc1 := 1137) (ls1 := [some (.ref 0), some (.ref 100), some (.ref 138), some (.int (nI i + 5))]) (st1 := []) (M1 := M2) (fun f => rfl) ?_
  refine mq_l (fun q_ => [some (.ref 0), some (.ref 100), some (.ref 138), some (.int q_)]) (nI_add i 5) ?_
  refine mq_seg 1 (pc1 := 18) (ls1 := [some (.ref 0), some (.ref 100), some (.ref 138), some (.int (nI (i + 5)))]) (st1 := []) (M1 := M2) (fun f => rfl) ?_
  exact HK M2 hI
theorem lq_19 {X : List Int32} {i : Nat} {M : mm_H} (hX : X.length < 2 ^ 20) (hi : i + 5 ≤ X.length) (g1 : mm_rc M 100 = some 9) (g2 : ∃ fs, mm_g M 138 = some (.inl (10, fs))) (h : oW 88 179 [some (.ref 100), none, none] [some (.ref 138), none, none, none, none] M) (HK : ∀ M2, kInv M2 → mm_Q X 18 [some (.ref 0), some (.ref 100), some (.ref 138), some (.int (nI (i + 5)))] [] M2) : mm_Q X 32 [some (.ref 0), some (.ref 100), some (.ref 138), some (.int (nI i))] [.int 19] M := by
  obtain ⟨w1, w2, M1, M2, r1, r2, hI⟩ := h
  obtain ⟨fs0, g3⟩ := g2
  obtain ⟨fs, hfs⟩ := mr_kp r1 138 10 fs0 g3
  refine mq_seg 2 (pc1 := 698) (ls1 := [some (.ref 0), some (.ref 100), some (.ref 138), some (.int (nI i))]) (st1 := [.ref 100]) (M1 := M) (fun f => rfl) ?_
  refine mq_call (ci := 9) (y := 88) (y0 := 701) (L := [some (.ref 100), none, none]) (rest := []) (rr := some (.int w1)) (M1 := M1) rfl rfl g1 rfl (fun f => rfl) r1 ?_
  refine mq_seg 2 (pc1 := 703) (ls1 := [some (.ref 0), some (.ref 100), some (.ref 138), some (.int (nI i))]) (st1 := [.ref 138]) (M1 := M1) (fun f => rfl) ?_
  refine mq_call (ci := 10) (y := 179) (y0 := 706) (L := [some (.ref 138), none, none, none, none]) (rest := []) (rr := some (.int w2)) (M1 := M2) rfl rfl (mm_Kp.rc hfs rfl) rfl (fun f => rfl) r2 ?_
  refine mq_seg 3 (pc1 := 1137) (ls1 := [some (.ref 0), some (.ref 100), some (.ref 138), some (.int (nI i + 5))]) (st1 := []) (M1 := M2) (fun f => rfl) ?_
  refine mq_l (fun q_ => [some (.ref 0), some (.ref 100), some (.ref 138), some (.int q_)]) (nI_add i 5) ?_
  refine mq_seg 1 (pc1 := 18) (ls1 := [some (.ref 0), some (.ref 100), some (.ref 138), some (.int (nI (i + 5)))]) (st1 := []) (M1 := M2) (fun f => rfl) ?_
  exact HK M2 hI
theorem lq_20 {X : List Int32} {i : Nat} {M : mm_H} (hX : X.length < 2 ^ 20) (hi : i + 5 ≤ X.length) (g1 : mm_rc M 100 = some 9) (g2 : ∃ fs, mm_g M 138 = some (.inl (10, fs))) (h : oW 91 184 [some (.ref 100), none, none] [some (.ref 138), none, none, none, none] M) (HK : ∀ M2, kInv M2 → mm_Q X 18 [some (.ref 0), some (.ref 100), some (.ref 138), some (.int (nI (i + 5)))] [] M2) : mm_Q X 32 [some (.ref 0), some (.ref 100), some (.ref 138), some (.int (nI i))] [.int 20] M := by
  obtain ⟨w1, w2, M1, M2, r1, r2, hI⟩ := h
  obtain ⟨fs0, g3⟩ := g2
  obtain ⟨fs, hfs⟩ := mr_kp r1 138 10 fs0 g3
  refine mq_seg 2 (pc1 := 711) (ls1 := [some (.ref 0), some (.ref 100), some (.ref 138), some (.int (nI i))]) (st1 := [.ref 100]) (M1 := M) (fun f => rfl) ?_
  refine mq_call (ci := 9) (y := 91) (y0 := 714) (L := [some (.ref 100), none, none]) (rest := []) (rr := some (.int w1)) (M1 := M1) rfl rfl g1 rfl (fun f => rfl) r1 ?_
  refine mq_seg 2 (pc1 := 716) (ls1 := [some (.ref 0), some (.ref 100), some (.ref 138), some (.int (nI i))]) (st1 := [.ref 138]) (M1 := M1) (fun f => rfl) ?_
  refine mq_call (ci := 10) (y := 184) (y0 := 719) (L := [some (.ref 138), none, none, none, none]) (rest := []) (rr := some (.int w2)) (M1 := M2) rfl rfl (mm_Kp.rc hfs rfl) rfl (fun f => rfl) r2 ?_
  refine mq_seg 3 (pc1 := 1137) (ls1 := [some (.ref 0), some (.ref 100), some (.ref 138), some (.int (nI i + 5))]) (st1 := []) (M1 := M2) (fun f => rfl) ?_
  refine mq_l (fun q_ => [some (.ref 0), some (.ref 100), some (.ref 138), some (.int q_)]) (nI_add i 5) ?_
  refine mq_seg 1 (pc1 := 18) (ls1 := [some (.ref 0), some (.ref 100), some (.ref 138), some (.int (nI (i + 5)))]) (st1 := []) (M1 := M2) (fun f => rfl) ?_
  exact HK M2 hI
theorem lq_21 {X : List Int32} {i : Nat} {M : mm_H} (hX : X.length < 2 ^ 20) (hi : i + 5 ≤ X.length) (g1 : mm_rc M 100 = some 9) (g2 : ∃ fs, mm_g M 138 = some (.inl (10, fs))) (h : oW 92 185 [some (.ref 100), none, none] [some (.ref 138), none, none, none, none] M) (HK : ∀ M2, kInv M2 → mm_Q X 18 [some (.ref 0), some (.ref 100), some (.ref 138), some (.int (nI (i + 5)))] [] M2) : mm_Q X 32 [some (.ref 0), some (.ref 100), some (.ref 138), some (.int (nI i))] [.int 21] M := by
  obtain ⟨w1, w2, M1, M2, r1, r2, hI⟩ := h
  obtain ⟨fs0, g3⟩ := g2
  obtain ⟨fs, hfs⟩ := mr_kp r1 138 10 fs0 g3
  refine mq_seg 2 (pc1 := 724) (ls1 := [some (.ref 0), some (.ref 100), some (.ref 138), some (.int (nI i))]) (st1 := [.ref 100]) (M1 := M) (fun f => rfl) ?_
  refine mq_call (ci := 9) (y := 92) (y0 := 727) (L := [some (.ref 100), none, none]) (rest := []) (rr := some (.int w1)) (M1 := M1) rfl rfl g1 rfl (fun f => rfl) r1 ?_
  refine mq_seg 2 (pc1 := 729) (ls1 := [some (.ref 0), some (.ref 100), some (.ref 138), some (.int (nI i))]) (st1 := [.ref 138]) (M1 := M1) (fun f => rfl) ?_
  refine mq_call (ci := 10) (y := 185) (y0 := 732) (L := [some (.ref 138), none, none, none, none]) (rest := []) (rr := some (.int w2)) (M1 := M2) rfl rfl (mm_Kp.rc hfs rfl) rfl (fun f => rfl) r2 ?_
  refine mq_seg 3 (pc1 := 1137) (ls1 := [some (.ref 0), some (.ref 100), some (.ref 138), some (.int (nI i + 5))]) (st1 := []) (M1 := M2) (fun f => rfl) ?_
  refine mq_l (fun q_ => [some (.ref 0), some (.ref 100), some (.ref 138), some (.int q_)]) (nI_add i 5) ?_
  refine mq_seg 1 (pc1 := 18) (ls1 := [some (.ref 0), some (.ref 100), some (.ref 138), some (.int (nI (i + 5)))]) (st1 := []) (M1 := M2) (fun f => rfl) ?_
  exact HK M2 hI
theorem lq_22 {X : List Int32} {i : Nat} {M : mm_H} (hX : X.length < 2 ^ 20) (hi : i + 5 ≤ X.length) (g1 : mm_rc M 100 = some 9) (g2 : ∃ fs, mm_g M 138 = some (.inl (10, fs))) (h : oW 93 186 [some (.ref 100), none, none] [some (.ref 138), none] M) (HK : ∀ M2, kInv M2 → mm_Q X 18 [some (.ref 0), some (.ref 100), some (.ref 138), some (.int (nI (i + 5)))] [] M2) : mm_Q X 32 [some (.ref 0), some (.ref 100), some (.ref 138), some (.int (nI i))] [.int 22] M := by
  obtain ⟨w1, w2, M1, M2, r1, r2, hI⟩ := h
  obtain ⟨fs0, g3⟩ := g2
  obtain ⟨fs, hfs⟩ := mr_kp r1 138 10 fs0 g3
  refine mq_seg 2 (pc1 := 737) (ls1 := [some (.ref 0), some (.ref 100), some (.ref 138), some (.int (nI i))]) (st1 := [.ref 100]) (M1 := M) (fun f => rfl) ?_
  refine mq_call (ci := 9) (y := 93) (y0 := 740) (L := [some (.ref 100), none, none]) (rest := []) (rr := some (.int w1)) (M1 := M1) rfl rfl g1 rfl (fun f => rfl) r1 ?_
  refine mq_seg 2 (pc1 := 742) (ls1 := [some (.ref 0), some (.ref 100), some (.ref 138), some (.int (nI i))]) (st1 := [.ref 138]) (M1 := M1) (fun f => rfl) ?_
  refine mq_call (ci := 10) (y := 186) (y0 := 745) (L := [some (.ref 138), none]) (rest := []) (rr := some (.int w2)) (M1 := M2) rfl rfl (mm_Kp.rc hfs rfl) rfl (fun f => rfl) r2 ?_
  refine mq_seg 3 (pc1 := 1137) (ls1 := [some (.ref 0), some (.ref 100), some (.ref 138), some (.int (nI i + 5))]) (st1 := []) (M1 := M2) (fun f => rfl) ?_
  refine mq_l (fun q_ => [some (.ref 0), some (.ref 100), some (.ref 138), some (.int q_)]) (nI_add i 5) ?_
  refine mq_seg 1 (pc1 := 18) (ls1 := [some (.ref 0), some (.ref 100), some (.ref 138), some (.int (nI (i + 5)))]) (st1 := []) (M1 := M2) (fun f => rfl) ?_
  exact HK M2 hI
theorem lq_23 {X : List Int32} {i : Nat} {M : mm_H} {x1 : Int32} (hX : X.length < 2 ^ 20) (hi : i + 5 ≤ X.length) (h1 : X[i + 1]? = some x1) (g1 : mm_rc M 100 = some 9) (g2 : ∃ fs, mm_g M 138 = some (.inl (10, fs))) (h : oW 94 187 [some (.ref 100), some (.int x1), none, none] [some (.ref 138), some (.int x1), none, none, none, none] M) (HK : ∀ M2, kInv M2 → mm_Q X 18 [some (.ref 0), some (.ref 100), some (.ref 138), some (.int (nI (i + 5)))] [] M2) : mm_Q X 32 [some (.ref 0), some (.ref 100), some (.ref 138), some (.int (nI i))] [.int 23] M := by
  obtain ⟨w1, w2, M1, M2, r1, r2, hI⟩ := h
  obtain ⟨fs0, g3⟩ := g2
  obtain ⟨fs, hfs⟩ := mr_kp r1 138 10 fs0 g3
  refine mq_seg 6 (pc1 := 754) (ls1 := [some (.ref 0), some (.ref 100), some (.ref 138), some (.int (nI i))]) (st1 := [.int (nI i + 1), .ref 0, .ref 100]) (M1 := M) (fun f => rfl) ?_
  refine mq_v (nI_add i 1) ?_
  refine mq_ld (k := i + 1) rfl (by omega) h1 ?_
  refine mq_call (ci := 9) (y := 94) (y0 := 758) (L := [some (.ref 100), some (.int x1), none, none]) (rest := []) (rr := some (.int w1)) (M1 := M1) rfl rfl g1 rfl (fun f => rfl) r1 ?_
  refine mq_seg 6 (pc1 := 764) (ls1 := [some (.ref 0), some (.ref 100), some (.ref 138), some (.int (nI i))]) (st1 := [.int (nI i + 1), .ref 0, .ref 138]) (M1 := M1) (fun f => rfl) ?_
  refine mq_v (nI_add i 1) ?_
  refine mq_ld (k := i + 1) rfl (by omega) h1 ?_
  refine mq_call (ci := 10) (y := 187) (y0 := 768) (L := [some (.ref 138), some (.int x1), none, none, none, none]) (rest := []) (rr := some (.int w2)) (M1 := M2) rfl rfl (mm_Kp.rc hfs rfl) rfl (fun f => rfl) r2 ?_
  refine mq_seg 3 (pc1 := 1137) (ls1 := [some (.ref 0), some (.ref 100), some (.ref 138), some (.int (nI i + 5))]) (st1 := []) (M1 := M2) (fun f => rfl) ?_
  refine mq_l (fun q_ => [some (.ref 0), some (.ref 100), some (.ref 138), some (.int q_)]) (nI_add i 5) ?_
  refine mq_seg 1 (pc1 := 18) (ls1 := [some (.ref 0), some (.ref 100), some (.ref 138), some (.int (nI (i + 5)))]) (st1 := []) (M1 := M2) (fun f => rfl) ?_
  exact HK M2 hI
theorem lq_24 {X : List Int32} {i : Nat} {M : mm_H} {x1 : Int32} {x2 : Int32} (hX : X.length < 2 ^ 20) (hi : i + 5 ≤ X.length) (h1 : X[i + 1]? = some x1) (h2 : X[i + 2]? = some x2) (g1 : mm_rc M 100 = some 9) (g2 : ∃ fs, mm_g M 138 = some (.inl (10, fs))) (h : oW 96 188 [some (.ref 100), some (.int x1), some (.int x2), none, none] [some (.ref 138), some (.int x1), some (.int x2), none, none, none, none] M) (HK : ∀ M2, kInv M2 → mm_Q X 18 [some (.ref 0), some (.ref 100), some (.ref 138), some (.int (nI (i + 5)))] [] M2) : mm_Q X 32 [some (.ref 0), some (.ref 100), some (.ref 138), some (.int (nI i))] [.int 24] M := by
  obtain ⟨w1, w2, M1, M2, r1, r2, hI⟩ := h
  obtain ⟨fs0, g3⟩ := g2
  obtain ⟨fs, hfs⟩ := mr_kp r1 138 10 fs0 g3
  refine mq_seg 6 (pc1 := 777) (ls1 := [some (.ref 0), some (.ref 100), some (.ref 138), some (.int (nI i))]) (st1 := [.int (nI i + 1), .ref 0, .ref 100]) (M1 := M) (fun f => rfl) ?_
  refine mq_v (nI_add i 1) ?_
  refine mq_ld (k := i + 1) rfl (by omega) h1 ?_
  refine mq_seg 4 (pc1 := 782) (ls1 := [some (.ref 0), some (.ref 100), some (.ref 138), some (.int (nI i))]) (st1 := [.int (nI i + 2), .ref 0, .int x1, .ref 100]) (M1 := M) (fun f => rfl) ?_
  refine mq_v (nI_add i 2) ?_
  refine mq_ld (k := i + 2) rfl (by omega) h2 ?_
  refine mq_call (ci := 9) (y := 96) (y0 := 786) (L := [some (.ref 100), some (.int x1), some (.int x2), none, none]) (rest := []) (rr := some (.int w1)) (M1 := M1) rfl rfl g1 rfl (fun f => rfl) r1 ?_
  refine mq_seg 6 (pc1 := 792) (ls1 := [some (.ref 0), some (.ref 100), some (.ref 138), some (.int (nI i))]) (st1 := [.int (nI i + 1), .ref 0, .ref 138]) (M1 := M1) (fun f => rfl) ?_
  refine mq_v (nI_add i 1) ?_
  refine mq_ld (k := i + 1) rfl (by omega) h1 ?_
  refine mq_seg 4 (pc1 := 797) (ls1 := [some (.ref 0), some (.ref 100), some (.ref 138), some (.int (nI i))]) (st1 := [.int (nI i + 2), .ref 0, .int x1, .ref 138]) (M1 := M1) (fun f => rfl) ?_
  refine mq_v (nI_add i 2) ?_
  refine mq_ld (k := i + 2) rfl (by omega) h2 ?_
  refine mq_call (ci := 10) (y := 188) (y0 := 801) (L := [some (.ref 138), some (.int x1), some (.int x2), none, none, none, none]) (rest := []) (rr := some (.int w2)) (M1 := M2) rfl rfl (mm_Kp.rc hfs rfl) rfl (fun f => rfl) r2 ?_
  refine mq_seg 3 (pc1 := 1137) (ls1 := [some (.ref 0), some (.ref 100), some (.ref 138), some (.int (nI i + 5))]) (st1 := []) (M1 := M2) (fun f => rfl) ?_
  refine mq_l (fun q_ => [some (.ref 0), some (.ref 100), some (.ref 138), some (.int q_)]) (nI_add i 5) ?_
  refine mq_seg 1 (pc1 := 18) (ls1 := [some (.ref 0), some (.ref 100), some (.ref 138), some (.int (nI (i + 5)))]) (st1 := []) (M1 := M2) (fun f => rfl) ?_
  exact HK M2 hI
theorem lq_25 {X : List Int32} {i : Nat} {M : mm_H} {x1 : Int32} (hX : X.length < 2 ^ 20) (hi : i + 5 ≤ X.length) (h1 : X[i + 1]? = some x1) (g1 : mm_rc M 100 = some 9) (g2 : ∃ fs, mm_g M 138 = some (.inl (10, fs))) (h : oW 97 189 [some (.ref 100), some (.int x1)] [some (.ref 138), some (.int x1), none, none, none, none, none] M) (HK : ∀ M2, kInv M2 → mm_Q X 18 [some (.ref 0), some (.ref 100), some (.ref 138), some (.int (nI (i + 5)))] [] M2) : mm_Q X 32 [some (.ref 0), some (.ref 100), some (.ref 138), some (.int (nI i))] [.int 25] M := by
  obtain ⟨w1, w2, M1, M2, r1, r2, hI⟩ := h
  obtain ⟨fs0, g3⟩ := g2
  obtain ⟨fs, hfs⟩ := mr_kp r1 138 10 fs0 g3
  refine mq_seg 6 (pc1 := 810) (ls1 := [some (.ref 0), some (.ref 100), some (.ref 138), some (.int (nI i))]) (st1 := [.int (nI i + 1), .ref 0, .ref 100]) (M1 := M) (fun f => rfl) ?_
  refine mq_v (nI_add i 1) ?_
  refine mq_ld (k := i + 1) rfl (by omega) h1 ?_
  refine mq_call (ci := 9) (y := 97) (y0 := 814) (L := [some (.ref 100), some (.int x1)]) (rest := []) (rr := some (.int w1)) (M1 := M1) rfl rfl g1 rfl (fun f => rfl) r1 ?_
  refine mq_seg 6 (pc1 := 820) (ls1 := [some (.ref 0), some (.ref 100), some (.ref 138), some (.int (nI i))]) (st1 := [.int (nI i + 1), .ref 0, .ref 138]) (M1 := M1) (fun f => rfl) ?_
  refine mq_v (nI_add i 1) ?_
  refine mq_ld (k := i + 1) rfl (by omega) h1 ?_
  refine mq_call (ci := 10) (y := 189) (y0 := 824) (L := [some (.ref 138), some (.int x1), none, none, none, none, none]) (rest := []) (rr := some (.int w2)) (M1 := M2) rfl rfl (mm_Kp.rc hfs rfl) rfl (fun f => rfl) r2 ?_
  refine mq_seg 3 (pc1 := 1137) (ls1 := [some (.ref 0), some (.ref 100), some (.ref 138), some (.int (nI i + 5))]) (st1 := []) (M1 := M2) (fun f => rfl) ?_
  refine mq_l (fun q_ => [some (.ref 0), some (.ref 100), some (.ref 138), some (.int q_)]) (nI_add i 5) ?_
  refine mq_seg 1 (pc1 := 18) (ls1 := [some (.ref 0), some (.ref 100), some (.ref 138), some (.int (nI (i + 5)))]) (st1 := []) (M1 := M2) (fun f => rfl) ?_
  exact HK M2 hI
theorem lq_26 {X : List Int32} {i : Nat} {M : mm_H} {x1 : Int32} (hX : X.length < 2 ^ 20) (hi : i + 5 ≤ X.length) (h1 : X[i + 1]? = some x1) (g1 : mm_rc M 100 = some 9) (g2 : ∃ fs, mm_g M 138 = some (.inl (10, fs))) (h : oW 101 193 [some (.ref 100), some (.int x1)] [some (.ref 138), some (.int x1), none, none, none] M) (HK : ∀ M2, kInv M2 → mm_Q X 18 [some (.ref 0), some (.ref 100), some (.ref 138), some (.int (nI (i + 5)))] [] M2) : mm_Q X 32 [some (.ref 0), some (.ref 100), some (.ref 138), some (.int (nI i))] [.int 26] M := by
  obtain ⟨w1, w2, M1, M2, r1, r2, hI⟩ := h
  obtain ⟨fs0, g3⟩ := g2
  obtain ⟨fs, hfs⟩ := mr_kp r1 138 10 fs0 g3
  refine mq_seg 6 (pc1 := 833) (ls1 := [some (.ref 0), some (.ref 100), some (.ref 138), some (.int (nI i))]) (st1 := [.int (nI i + 1), .ref 0, .ref 100]) (M1 := M) (fun f => rfl) ?_
  refine mq_v (nI_add i 1) ?_
  refine mq_ld (k := i + 1) rfl (by omega) h1 ?_
  refine mq_call (ci := 9) (y := 101) (y0 := 837) (L := [some (.ref 100), some (.int x1)]) (rest := []) (rr := some (.int w1)) (M1 := M1) rfl rfl g1 rfl (fun f => rfl) r1 ?_
  refine mq_seg 6 (pc1 := 843) (ls1 := [some (.ref 0), some (.ref 100), some (.ref 138), some (.int (nI i))]) (st1 := [.int (nI i + 1), .ref 0, .ref 138]) (M1 := M1) (fun f => rfl) ?_
  refine mq_v (nI_add i 1) ?_
  refine mq_ld (k := i + 1) rfl (by omega) h1 ?_
  refine mq_call (ci := 10) (y := 193) (y0 := 847) (L := [some (.ref 138), some (.int x1), none, none, none]) (rest := []) (rr := some (.int w2)) (M1 := M2) rfl rfl (mm_Kp.rc hfs rfl) rfl (fun f => rfl) r2 ?_
  refine mq_seg 3 (pc1 := 1137) (ls1 := [some (.ref 0), some (.ref 100), some (.ref 138), some (.int (nI i + 5))]) (st1 := []) (M1 := M2) (fun f => rfl) ?_
  refine mq_l (fun q_ => [some (.ref 0), some (.ref 100), some (.ref 138), some (.int q_)]) (nI_add i 5) ?_
  refine mq_seg 1 (pc1 := 18) (ls1 := [some (.ref 0), some (.ref 100), some (.ref 138), some (.int (nI (i + 5)))]) (st1 := []) (M1 := M2) (fun f => rfl) ?_
  exact HK M2 hI
theorem lq_27 {X : List Int32} {i : Nat} {M : mm_H} {x1 : Int32} {x2 : Int32} {x3 : Int32} (hX : X.length < 2 ^ 20) (hi : i + 5 ≤ X.length) (h1 : X[i + 1]? = some x1) (h2 : X[i + 2]? = some x2) (h3 : X[i + 3]? = some x3) (g1 : mm_rc M 100 = some 9) (g2 : ∃ fs, mm_g M 138 = some (.inl (10, fs))) (h : oW 105 195 [some (.ref 100), some (.int x1), some (.int x2), some (.int x3), none, none, none] [some (.ref 138), some (.int x1), some (.int x2), some (.int x3), none, none, none, none] M) (HK : ∀ M2, kInv M2 → mm_Q X 18 [some (.ref 0), some (.ref 100), some (.ref 138), some (.int (nI (i + 5)))] [] M2) : mm_Q X 32 [some (.ref 0), some (.ref 100), some (.ref 138), some (.int (nI i))] [.int 27] M := by
  obtain ⟨w1, w2, M1, M2, r1, r2, hI⟩ := h
  obtain ⟨fs0, g3⟩ := g2
  obtain ⟨fs, hfs⟩ := mr_kp r1 138 10 fs0 g3
  refine mq_seg 6 (pc1 := 856) (ls1 := [some (.ref 0), some (.ref 100), some (.ref 138), some (.int (nI i))]) (st1 := [.int (nI i + 1), .ref 0, .ref 100]) (M1 := M) (fun f => rfl) ?_
  refine mq_v (nI_add i 1) ?_
  refine mq_ld (k := i + 1) rfl (by omega) h1 ?_
  refine mq_seg 4 (pc1 := 861) (ls1 := [some (.ref 0), some (.ref 100), some (.ref 138), some (.int (nI i))]) (st1 := [.int (nI i + 2), .ref 0, .int x1, .ref 100]) (M1 := M) (fun f => rfl) ?_
  refine mq_v (nI_add i 2) ?_
  refine mq_ld (k := i + 2) rfl (by omega) h2 ?_
  refine mq_seg 4 (pc1 := 866) (ls1 := [some (.ref 0), some (.ref 100), some (.ref 138), some (.int (nI i))]) (st1 := [.int (nI i + 3), .ref 0, .int x2, .int x1, .ref 100]) (M1 := M) (fun f => rfl) ?_
  refine mq_v (nI_add i 3) ?_
  refine mq_ld (k := i + 3) rfl (by omega) h3 ?_
  refine mq_call (ci := 9) (y := 105) (y0 := 870) (L := [some (.ref 100), some (.int x1), some (.int x2), some (.int x3), none, none, none]) (rest := []) (rr := some (.int w1)) (M1 := M1) rfl rfl g1 rfl (fun f => rfl) r1 ?_
  refine mq_seg 6 (pc1 := 876) (ls1 := [some (.ref 0), some (.ref 100), some (.ref 138), some (.int (nI i))]) (st1 := [.int (nI i + 1), .ref 0, .ref 138]) (M1 := M1) (fun f => rfl) ?_
  refine mq_v (nI_add i 1) ?_
  refine mq_ld (k := i + 1) rfl (by omega) h1 ?_
  refine mq_seg 4 (pc1 := 881) (ls1 := [some (.ref 0), some (.ref 100), some (.ref 138), some (.int (nI i))]) (st1 := [.int (nI i + 2), .ref 0, .int x1, .ref 138]) (M1 := M1) (fun f => rfl) ?_
  refine mq_v (nI_add i 2) ?_
  refine mq_ld (k := i + 2) rfl (by omega) h2 ?_
  refine mq_seg 4 (pc1 := 886) (ls1 := [some (.ref 0), some (.ref 100), some (.ref 138), some (.int (nI i))]) (st1 := [.int (nI i + 3), .ref 0, .int x2, .int x1, .ref 138]) (M1 := M1) (fun f => rfl) ?_
  refine mq_v (nI_add i 3) ?_
  refine mq_ld (k := i + 3) rfl (by omega) h3 ?_
  refine mq_call (ci := 10) (y := 195) (y0 := 890) (L := [some (.ref 138), some (.int x1), some (.int x2), some (.int x3), none, none, none, none]) (rest := []) (rr := some (.int w2)) (M1 := M2) rfl rfl (mm_Kp.rc hfs rfl) rfl (fun f => rfl) r2 ?_
  refine mq_seg 3 (pc1 := 1137) (ls1 := [some (.ref 0), some (.ref 100), some (.ref 138), some (.int (nI i + 5))]) (st1 := []) (M1 := M2) (fun f => rfl) ?_
  refine mq_l (fun q_ => [some (.ref 0), some (.ref 100), some (.ref 138), some (.int q_)]) (nI_add i 5) ?_
  refine mq_seg 1 (pc1 := 18) (ls1 := [some (.ref 0), some (.ref 100), some (.ref 138), some (.int (nI (i + 5)))]) (st1 := []) (M1 := M2) (fun f => rfl) ?_
  exact HK M2 hI
theorem lq_28 {X : List Int32} {i : Nat} {M : mm_H} {x1 : Int32} {x2 : Int32} {x3 : Int32} {x4 : Int32} (hX : X.length < 2 ^ 20) (hi : i + 5 ≤ X.length) (h1 : X[i + 1]? = some x1) (h2 : X[i + 2]? = some x2) (h3 : X[i + 3]? = some x3) (h4 : X[i + 4]? = some x4) (g1 : mm_rc M 100 = some 9) (g2 : ∃ fs, mm_g M 138 = some (.inl (10, fs))) (h : oX 107 197 [some (.ref 100), some (.int x1), some (.int x2), some (.int x3), some (.int x4), none, none, none] [some (.ref 138), some (.int x1), some (.int x2), some (.int x3), some (.int x4), none, none, none, none, none, none, none, none] M) (HK : ∀ M2, kInv M2 → mm_Q X 18 [some (.ref 0), some (.ref 100), some (.ref 138), some (.int (nI (i + 5)))] [] M2) : mm_Q X 32 [some (.ref 0), some (.ref 100), some (.ref 138), some (.int (nI i))] [.int 28] M := by
  obtain ⟨w1, w2, M1, M2, r1, r2, hI⟩ := h
  obtain ⟨fs0, g3⟩ := g2
  obtain ⟨fs, hfs⟩ := mr_kp r1 138 10 fs0 g3
  refine mq_seg 6 (pc1 := 899) (ls1 := [some (.ref 0), some (.ref 100), some (.ref 138), some (.int (nI i))]) (st1 := [.int (nI i + 1), .ref 0, .ref 100]) (M1 := M) (fun f => rfl) ?_
  refine mq_v (nI_add i 1) ?_
  refine mq_ld (k := i + 1) rfl (by omega) h1 ?_
  refine mq_seg 4 (pc1 := 904) (ls1 := [some (.ref 0), some (.ref 100), some (.ref 138), some (.int (nI i))]) (st1 := [.int (nI i + 2), .ref 0, .int x1, .ref 100]) (M1 := M) (fun f => rfl) ?_
  refine mq_v (nI_add i 2) ?_
  refine mq_ld (k := i + 2) rfl (by omega) h2 ?_
  refine mq_seg 4 (pc1 := 909) (ls1 := [some (.ref 0), some (.ref 100), some (.ref 138), some (.int (nI i))]) (st1 := [.int (nI i + 3), .ref 0, .int x2, .int x1, .ref 100]) (M1 := M) (fun f => rfl) ?_
  refine mq_v (nI_add i 3) ?_
  refine mq_ld (k := i + 3) rfl (by omega) h3 ?_
  refine mq_seg 4 (pc1 := 914) (ls1 := [some (.ref 0), some (.ref 100), some (.ref 138), some (.int (nI i))]) (st1 := [.int (nI i + 4), .ref 0, .int x3, .int x2, .int x1, .ref 100]) (M1 := M) (fun f => rfl) ?_
  refine mq_v (nI_add i 4) ?_
  refine mq_ld (k := i + 4) rfl (by omega) h4 ?_
  refine mq_call (ci := 9) (y := 107) (y0 := 918) (L := [some (.ref 100), some (.int x1), some (.int x2), some (.int x3), some (.int x4), none, none, none]) (rest := []) (rr := some (.long w1)) (M1 := M1) rfl rfl g1 rfl (fun f => rfl) r1 ?_
  refine mq_seg 6 (pc1 := 924) (ls1 := [some (.ref 0), some (.ref 100), some (.ref 138), some (.int (nI i))]) (st1 := [.int (nI i + 1), .ref 0, .ref 138]) (M1 := M1) (fun f => rfl) ?_
  refine mq_v (nI_add i 1) ?_
  refine mq_ld (k := i + 1) rfl (by omega) h1 ?_
  refine mq_seg 4 (pc1 := 929) (ls1 := [some (.ref 0), some (.ref 100), some (.ref 138), some (.int (nI i))]) (st1 := [.int (nI i + 2), .ref 0, .int x1, .ref 138]) (M1 := M1) (fun f => rfl) ?_
  refine mq_v (nI_add i 2) ?_
  refine mq_ld (k := i + 2) rfl (by omega) h2 ?_
  refine mq_seg 4 (pc1 := 934) (ls1 := [some (.ref 0), some (.ref 100), some (.ref 138), some (.int (nI i))]) (st1 := [.int (nI i + 3), .ref 0, .int x2, .int x1, .ref 138]) (M1 := M1) (fun f => rfl) ?_
  refine mq_v (nI_add i 3) ?_
  refine mq_ld (k := i + 3) rfl (by omega) h3 ?_
  refine mq_seg 4 (pc1 := 939) (ls1 := [some (.ref 0), some (.ref 100), some (.ref 138), some (.int (nI i))]) (st1 := [.int (nI i + 4), .ref 0, .int x3, .int x2, .int x1, .ref 138]) (M1 := M1) (fun f => rfl) ?_
  refine mq_v (nI_add i 4) ?_
  refine mq_ld (k := i + 4) rfl (by omega) h4 ?_
  refine mq_call (ci := 10) (y := 197) (y0 := 943) (L := [some (.ref 138), some (.int x1), some (.int x2), some (.int x3), some (.int x4), none, none, none, none, none, none, none, none]) (rest := []) (rr := some (.long w2)) (M1 := M2) rfl rfl (mm_Kp.rc hfs rfl) rfl (fun f => rfl) r2 ?_
  refine mq_seg 3 (pc1 := 1137) (ls1 := [some (.ref 0), some (.ref 100), some (.ref 138), some (.int (nI i + 5))]) (st1 := []) (M1 := M2) (fun f => rfl) ?_
  refine mq_l (fun q_ => [some (.ref 0), some (.ref 100), some (.ref 138), some (.int q_)]) (nI_add i 5) ?_
  refine mq_seg 1 (pc1 := 18) (ls1 := [some (.ref 0), some (.ref 100), some (.ref 138), some (.int (nI (i + 5)))]) (st1 := []) (M1 := M2) (fun f => rfl) ?_
  exact HK M2 hI
theorem lq_29 {X : List Int32} {i : Nat} {M : mm_H} {x1 : Int32} (hX : X.length < 2 ^ 20) (hi : i + 5 ≤ X.length) (h1 : X[i + 1]? = some x1) (g1 : mm_rc M 100 = some 9) (g2 : ∃ fs, mm_g M 138 = some (.inl (10, fs))) (h : oX 114 201 [some (.ref 100), some (.int x1), none, none] [some (.ref 138), some (.int x1), none, none, none] M) (HK : ∀ M2, kInv M2 → mm_Q X 18 [some (.ref 0), some (.ref 100), some (.ref 138), some (.int (nI (i + 5)))] [] M2) : mm_Q X 32 [some (.ref 0), some (.ref 100), some (.ref 138), some (.int (nI i))] [.int 29] M := by
  obtain ⟨w1, w2, M1, M2, r1, r2, hI⟩ := h
  obtain ⟨fs0, g3⟩ := g2
  obtain ⟨fs, hfs⟩ := mr_kp r1 138 10 fs0 g3
  refine mq_seg 6 (pc1 := 952) (ls1 := [some (.ref 0), some (.ref 100), some (.ref 138), some (.int (nI i))]) (st1 := [.int (nI i + 1), .ref 0, .ref 100]) (M1 := M) (fun f => rfl) ?_
  refine mq_v (nI_add i 1) ?_
  refine mq_ld (k := i + 1) rfl (by omega) h1 ?_
  refine mq_call (ci := 9) (y := 114) (y0 := 956) (L := [some (.ref 100), some (.int x1), none, none]) (rest := []) (rr := some (.long w1)) (M1 := M1) rfl rfl g1 rfl (fun f => rfl) r1 ?_
  refine mq_seg 6 (pc1 := 962) (ls1 := [some (.ref 0), some (.ref 100), some (.ref 138), some (.int (nI i))]) (st1 := [.int (nI i + 1), .ref 0, .ref 138]) (M1 := M1) (fun f => rfl) ?_
  refine mq_v (nI_add i 1) ?_
  refine mq_ld (k := i + 1) rfl (by omega) h1 ?_
  refine mq_call (ci := 10) (y := 201) (y0 := 966) (L := [some (.ref 138), some (.int x1), none, none, none]) (rest := []) (rr := some (.long w2)) (M1 := M2) rfl rfl (mm_Kp.rc hfs rfl) rfl (fun f => rfl) r2 ?_
  refine mq_seg 3 (pc1 := 1137) (ls1 := [some (.ref 0), some (.ref 100), some (.ref 138), some (.int (nI i + 5))]) (st1 := []) (M1 := M2) (fun f => rfl) ?_
  refine mq_l (fun q_ => [some (.ref 0), some (.ref 100), some (.ref 138), some (.int q_)]) (nI_add i 5) ?_
  refine mq_seg 1 (pc1 := 18) (ls1 := [some (.ref 0), some (.ref 100), some (.ref 138), some (.int (nI (i + 5)))]) (st1 := []) (M1 := M2) (fun f => rfl) ?_
  exact HK M2 hI
theorem lq_30 {X : List Int32} {i : Nat} {M : mm_H} {x1 : Int32} (hX : X.length < 2 ^ 20) (hi : i + 5 ≤ X.length) (h1 : X[i + 1]? = some x1) (g1 : mm_rc M 100 = some 9) (g2 : ∃ fs, mm_g M 138 = some (.inl (10, fs))) (h : oW 115 202 [some (.ref 100), some (.int x1)] [some (.ref 138), some (.int x1), none, none] M) (HK : ∀ M2, kInv M2 → mm_Q X 18 [some (.ref 0), some (.ref 100), some (.ref 138), some (.int (nI (i + 5)))] [] M2) : mm_Q X 32 [some (.ref 0), some (.ref 100), some (.ref 138), some (.int (nI i))] [.int 30] M := by
  obtain ⟨w1, w2, M1, M2, r1, r2, hI⟩ := h
  obtain ⟨fs0, g3⟩ := g2
  obtain ⟨fs, hfs⟩ := mr_kp r1 138 10 fs0 g3
  refine mq_seg 6 (pc1 := 975) (ls1 := [some (.ref 0), some (.ref 100), some (.ref 138), some (.int (nI i))]) (st1 := [.int (nI i + 1), .ref 0, .ref 100]) (M1 := M) (fun f => rfl) ?_
  refine mq_v (nI_add i 1) ?_
  refine mq_ld (k := i + 1) rfl (by omega) h1 ?_
  refine mq_call (ci := 9) (y := 115) (y0 := 979) (L := [some (.ref 100), some (.int x1)]) (rest := []) (rr := some (.int w1)) (M1 := M1) rfl rfl g1 rfl (fun f => rfl) r1 ?_
  refine mq_seg 6 (pc1 := 985) (ls1 := [some (.ref 0), some (.ref 100), some (.ref 138), some (.int (nI i))]) (st1 := [.int (nI i + 1), .ref 0, .ref 138]) (M1 := M1) (fun f => rfl) ?_
  refine mq_v (nI_add i 1) ?_
  refine mq_ld (k := i + 1) rfl (by omega) h1 ?_
  refine mq_call (ci := 10) (y := 202) (y0 := 989) (L := [some (.ref 138), some (.int x1), none, none]) (rest := []) (rr := some (.int w2)) (M1 := M2) rfl rfl (mm_Kp.rc hfs rfl) rfl (fun f => rfl) r2 ?_
  refine mq_seg 3 (pc1 := 1137) (ls1 := [some (.ref 0), some (.ref 100), some (.ref 138), some (.int (nI i + 5))]) (st1 := []) (M1 := M2) (fun f => rfl) ?_
  refine mq_l (fun q_ => [some (.ref 0), some (.ref 100), some (.ref 138), some (.int q_)]) (nI_add i 5) ?_
  refine mq_seg 1 (pc1 := 18) (ls1 := [some (.ref 0), some (.ref 100), some (.ref 138), some (.int (nI (i + 5)))]) (st1 := []) (M1 := M2) (fun f => rfl) ?_
  exact HK M2 hI
theorem lq_31 {X : List Int32} {i : Nat} {M : mm_H} {x1 : Int32} (hX : X.length < 2 ^ 20) (hi : i + 5 ≤ X.length) (h1 : X[i + 1]? = some x1) (g1 : mm_rc M 100 = some 9) (g2 : ∃ fs, mm_g M 138 = some (.inl (10, fs))) (h : oW 119 204 [some (.ref 100), some (.int x1)] [some (.ref 138), some (.int x1), none] M) (HK : ∀ M2, kInv M2 → mm_Q X 18 [some (.ref 0), some (.ref 100), some (.ref 138), some (.int (nI (i + 5)))] [] M2) : mm_Q X 32 [some (.ref 0), some (.ref 100), some (.ref 138), some (.int (nI i))] [.int 31] M := by
  obtain ⟨w1, w2, M1, M2, r1, r2, hI⟩ := h
  obtain ⟨fs0, g3⟩ := g2
  obtain ⟨fs, hfs⟩ := mr_kp r1 138 10 fs0 g3
  refine mq_seg 6 (pc1 := 998) (ls1 := [some (.ref 0), some (.ref 100), some (.ref 138), some (.int (nI i))]) (st1 := [.int (nI i + 1), .ref 0, .ref 100]) (M1 := M) (fun f => rfl) ?_
  refine mq_v (nI_add i 1) ?_
  refine mq_ld (k := i + 1) rfl (by omega) h1 ?_
  refine mq_call (ci := 9) (y := 119) (y0 := 1002) (L := [some (.ref 100), some (.int x1)]) (rest := []) (rr := some (.int w1)) (M1 := M1) rfl rfl g1 rfl (fun f => rfl) r1 ?_
  refine mq_seg 6 (pc1 := 1008) (ls1 := [some (.ref 0), some (.ref 100), some (.ref 138), some (.int (nI i))]) (st1 := [.int (nI i + 1), .ref 0, .ref 138]) (M1 := M1) (fun f => rfl) ?_
  refine mq_v (nI_add i 1) ?_
  refine mq_ld (k := i + 1) rfl (by omega) h1 ?_
  refine mq_call (ci := 10) (y := 204) (y0 := 1012) (L := [some (.ref 138), some (.int x1), none]) (rest := []) (rr := some (.int w2)) (M1 := M2) rfl rfl (mm_Kp.rc hfs rfl) rfl (fun f => rfl) r2 ?_
  refine mq_seg 3 (pc1 := 1137) (ls1 := [some (.ref 0), some (.ref 100), some (.ref 138), some (.int (nI i + 5))]) (st1 := []) (M1 := M2) (fun f => rfl) ?_
  refine mq_l (fun q_ => [some (.ref 0), some (.ref 100), some (.ref 138), some (.int q_)]) (nI_add i 5) ?_
  refine mq_seg 1 (pc1 := 18) (ls1 := [some (.ref 0), some (.ref 100), some (.ref 138), some (.int (nI (i + 5)))]) (st1 := []) (M1 := M2) (fun f => rfl) ?_
  exact HK M2 hI
theorem lq_32 {X : List Int32} {i : Nat} {M : mm_H} (hX : X.length < 2 ^ 20) (hi : i + 5 ≤ X.length) (g1 : mm_rc M 100 = some 9) (g2 : ∃ fs, mm_g M 138 = some (.inl (10, fs))) (h : oW 120 205 [some (.ref 100), none, none] [some (.ref 138), none, none] M) (HK : ∀ M2, kInv M2 → mm_Q X 18 [some (.ref 0), some (.ref 100), some (.ref 138), some (.int (nI (i + 5)))] [] M2) : mm_Q X 32 [some (.ref 0), some (.ref 100), some (.ref 138), some (.int (nI i))] [.int 32] M := by
  obtain ⟨w1, w2, M1, M2, r1, r2, hI⟩ := h
  obtain ⟨fs0, g3⟩ := g2
  obtain ⟨fs, hfs⟩ := mr_kp r1 138 10 fs0 g3
  refine mq_seg 2 (pc1 := 1017) (ls1 := [some (.ref 0), some (.ref 100), some (.ref 138), some (.int (nI i))]) (st1 := [.ref 100]) (M1 := M) (fun f => rfl) ?_
  refine mq_call (ci := 9) (y := 120) (y0 := 1020) (L := [some (.ref 100), none, none]) (rest := []) (rr := some (.int w1)) (M1 := M1) rfl rfl g1 rfl (fun f => rfl) r1 ?_
  refine mq_seg 2 (pc1 := 1022) (ls1 := [some (.ref 0), some (.ref 100), some (.ref 138), some (.int (nI i))]) (st1 := [.ref 138]) (M1 := M1) (fun f => rfl) ?_
  refine mq_call (ci := 10) (y := 205) (y0 := 1025) (L := [some (.ref 138), none, none]) (rest := []) (rr := some (.int w2)) (M1 := M2) rfl rfl (mm_Kp.rc hfs rfl) rfl (fun f => rfl) r2 ?_
  refine mq_seg 3 (pc1 := 1137) (ls1 := [some (.ref 0), some (.ref 100), some (.ref 138), some (.int (nI i + 5))]) (st1 := []) (M1 := M2) (fun f => rfl) ?_
  refine mq_l (fun q_ => [some (.ref 0), some (.ref 100), some (.ref 138), some (.int q_)]) (nI_add i 5) ?_
  refine mq_seg 1 (pc1 := 18) (ls1 := [some (.ref 0), some (.ref 100), some (.ref 138), some (.int (nI (i + 5)))]) (st1 := []) (M1 := M2) (fun f => rfl) ?_
  exact HK M2 hI
theorem lq_33 {X : List Int32} {i : Nat} {M : mm_H} (hX : X.length < 2 ^ 20) (hi : i + 5 ≤ X.length) (g1 : mm_rc M 100 = some 9) (g2 : ∃ fs, mm_g M 138 = some (.inl (10, fs))) (h : oW 121 206 [some (.ref 100), none] [some (.ref 138), none] M) (HK : ∀ M2, kInv M2 → mm_Q X 18 [some (.ref 0), some (.ref 100), some (.ref 138), some (.int (nI (i + 5)))] [] M2) : mm_Q X 32 [some (.ref 0), some (.ref 100), some (.ref 138), some (.int (nI i))] [.int 33] M := by
  obtain ⟨w1, w2, M1, M2, r1, r2, hI⟩ := h
  obtain ⟨fs0, g3⟩ := g2
  obtain ⟨fs, hfs⟩ := mr_kp r1 138 10 fs0 g3
  refine mq_seg 2 (pc1 := 1030) (ls1 := [some (.ref 0), some (.ref 100), some (.ref 138), some (.int (nI i))]) (st1 := [.ref 100]) (M1 := M) (fun f => rfl) ?_
  refine mq_call (ci := 9) (y := 121) (y0 := 1033) (L := [some (.ref 100), none]) (rest := []) (rr := some (.int w1)) (M1 := M1) rfl rfl g1 rfl (fun f => rfl) r1 ?_
  refine mq_seg 2 (pc1 := 1035) (ls1 := [some (.ref 0), some (.ref 100), some (.ref 138), some (.int (nI i))]) (st1 := [.ref 138]) (M1 := M1) (fun f => rfl) ?_
  refine mq_call (ci := 10) (y := 206) (y0 := 1038) (L := [some (.ref 138), none]) (rest := []) (rr := some (.int w2)) (M1 := M2) rfl rfl (mm_Kp.rc hfs rfl) rfl (fun f => rfl) r2 ?_
  refine mq_seg 3 (pc1 := 1137) (ls1 := [some (.ref 0), some (.ref 100), some (.ref 138), some (.int (nI i + 5))]) (st1 := []) (M1 := M2) (fun f => rfl) ?_
  refine mq_l (fun q_ => [some (.ref 0), some (.ref 100), some (.ref 138), some (.int q_)]) (nI_add i 5) ?_
  refine mq_seg 1 (pc1 := 18) (ls1 := [some (.ref 0), some (.ref 100), some (.ref 138), some (.int (nI (i + 5)))]) (st1 := []) (M1 := M2) (fun f => rfl) ?_
  exact HK M2 hI
theorem lq_34 {X : List Int32} {i : Nat} {M : mm_H} {x1 : Int32} {x2 : Int32} {x3 : Int32} (hX : X.length < 2 ^ 20) (hi : i + 5 ≤ X.length) (h1 : X[i + 1]? = some x1) (h2 : X[i + 2]? = some x2) (h3 : X[i + 3]? = some x3) (g1 : mm_rc M 100 = some 9) (g2 : ∃ fs, mm_g M 138 = some (.inl (10, fs))) (h : oW 122 207 [some (.ref 100), some (.int x1), some (.int x2), some (.int x3), none, none, none, none, none] [some (.ref 138), some (.int x1), some (.int x2), some (.int x3), none, none] M) (HK : ∀ M2, kInv M2 → mm_Q X 18 [some (.ref 0), some (.ref 100), some (.ref 138), some (.int (nI (i + 5)))] [] M2) : mm_Q X 32 [some (.ref 0), some (.ref 100), some (.ref 138), some (.int (nI i))] [.int 34] M := by
  obtain ⟨w1, w2, M1, M2, r1, r2, hI⟩ := h
  obtain ⟨fs0, g3⟩ := g2
  obtain ⟨fs, hfs⟩ := mr_kp r1 138 10 fs0 g3
  refine mq_seg 6 (pc1 := 1047) (ls1 := [some (.ref 0), some (.ref 100), some (.ref 138), some (.int (nI i))]) (st1 := [.int (nI i + 1), .ref 0, .ref 100]) (M1 := M) (fun f => rfl) ?_
  refine mq_v (nI_add i 1) ?_
  refine mq_ld (k := i + 1) rfl (by omega) h1 ?_
  refine mq_seg 4 (pc1 := 1052) (ls1 := [some (.ref 0), some (.ref 100), some (.ref 138), some (.int (nI i))]) (st1 := [.int (nI i + 2), .ref 0, .int x1, .ref 100]) (M1 := M) (fun f => rfl) ?_
  refine mq_v (nI_add i 2) ?_
  refine mq_ld (k := i + 2) rfl (by omega) h2 ?_
  refine mq_seg 4 (pc1 := 1057) (ls1 := [some (.ref 0), some (.ref 100), some (.ref 138), some (.int (nI i))]) (st1 := [.int (nI i + 3), .ref 0, .int x2, .int x1, .ref 100]) (M1 := M) (fun f => rfl) ?_
  refine mq_v (nI_add i 3) ?_
  refine mq_ld (k := i + 3) rfl (by omega) h3 ?_
  refine mq_call (ci := 9) (y := 122) (y0 := 1061) (L := [some (.ref 100), some (.int x1), some (.int x2), some (.int x3), none, none, none, none, none]) (rest := []) (rr := some (.int w1)) (M1 := M1) rfl rfl g1 rfl (fun f => rfl) r1 ?_
  refine mq_seg 6 (pc1 := 1067) (ls1 := [some (.ref 0), some (.ref 100), some (.ref 138), some (.int (nI i))]) (st1 := [.int (nI i + 1), .ref 0, .ref 138]) (M1 := M1) (fun f => rfl) ?_
  refine mq_v (nI_add i 1) ?_
  refine mq_ld (k := i + 1) rfl (by omega) h1 ?_
  refine mq_seg 4 (pc1 := 1072) (ls1 := [some (.ref 0), some (.ref 100), some (.ref 138), some (.int (nI i))]) (st1 := [.int (nI i + 2), .ref 0, .int x1, .ref 138]) (M1 := M1) (fun f => rfl) ?_
  refine mq_v (nI_add i 2) ?_
  refine mq_ld (k := i + 2) rfl (by omega) h2 ?_
  refine mq_seg 4 (pc1 := 1077) (ls1 := [some (.ref 0), some (.ref 100), some (.ref 138), some (.int (nI i))]) (st1 := [.int (nI i + 3), .ref 0, .int x2, .int x1, .ref 138]) (M1 := M1) (fun f => rfl) ?_
  refine mq_v (nI_add i 3) ?_
  refine mq_ld (k := i + 3) rfl (by omega) h3 ?_
  refine mq_call (ci := 10) (y := 207) (y0 := 1081) (L := [some (.ref 138), some (.int x1), some (.int x2), some (.int x3), none, none]) (rest := []) (rr := some (.int w2)) (M1 := M2) rfl rfl (mm_Kp.rc hfs rfl) rfl (fun f => rfl) r2 ?_
  refine mq_seg 3 (pc1 := 1137) (ls1 := [some (.ref 0), some (.ref 100), some (.ref 138), some (.int (nI i + 5))]) (st1 := []) (M1 := M2) (fun f => rfl) ?_
  refine mq_l (fun q_ => [some (.ref 0), some (.ref 100), some (.ref 138), some (.int q_)]) (nI_add i 5) ?_
  refine mq_seg 1 (pc1 := 18) (ls1 := [some (.ref 0), some (.ref 100), some (.ref 138), some (.int (nI (i + 5)))]) (st1 := []) (M1 := M2) (fun f => rfl) ?_
  exact HK M2 hI
theorem lq_35 {X : List Int32} {i : Nat} {M : mm_H} (hX : X.length < 2 ^ 20) (hi : i + 5 ≤ X.length) (g1 : mm_rc M 100 = some 9) (g2 : ∃ fs, mm_g M 138 = some (.inl (10, fs))) (h : oW 125 209 [some (.ref 100)] [some (.ref 138)] M) (HK : ∀ M2, kInv M2 → mm_Q X 18 [some (.ref 0), some (.ref 100), some (.ref 138), some (.int (nI (i + 5)))] [] M2) : mm_Q X 32 [some (.ref 0), some (.ref 100), some (.ref 138), some (.int (nI i))] [.int 35] M := by
  obtain ⟨w1, w2, M1, M2, r1, r2, hI⟩ := h
  obtain ⟨fs0, g3⟩ := g2
  obtain ⟨fs, hfs⟩ := mr_kp r1 138 10 fs0 g3
  refine mq_seg 2 (pc1 := 1086) (ls1 := [some (.ref 0), some (.ref 100), some (.ref 138), some (.int (nI i))]) (st1 := [.ref 100]) (M1 := M) (fun f => rfl) ?_
  refine mq_call (ci := 9) (y := 125) (y0 := 1089) (L := [some (.ref 100)]) (rest := []) (rr := some (.int w1)) (M1 := M1) rfl rfl g1 rfl (fun f => rfl) r1 ?_
  refine mq_seg 2 (pc1 := 1091) (ls1 := [some (.ref 0), some (.ref 100), some (.ref 138), some (.int (nI i))]) (st1 := [.ref 138]) (M1 := M1) (fun f => rfl) ?_
  refine mq_call (ci := 10) (y := 209) (y0 := 1094) (L := [some (.ref 138)]) (rest := []) (rr := some (.int w2)) (M1 := M2) rfl rfl (mm_Kp.rc hfs rfl) rfl (fun f => rfl) r2 ?_
  refine mq_seg 3 (pc1 := 1137) (ls1 := [some (.ref 0), some (.ref 100), some (.ref 138), some (.int (nI i + 5))]) (st1 := []) (M1 := M2) (fun f => rfl) ?_
  refine mq_l (fun q_ => [some (.ref 0), some (.ref 100), some (.ref 138), some (.int q_)]) (nI_add i 5) ?_
  refine mq_seg 1 (pc1 := 18) (ls1 := [some (.ref 0), some (.ref 100), some (.ref 138), some (.int (nI (i + 5)))]) (st1 := []) (M1 := M2) (fun f => rfl) ?_
  exact HK M2 hI
theorem lq_36 {X : List Int32} {i : Nat} {M : mm_H} (hX : X.length < 2 ^ 20) (hi : i + 5 ≤ X.length) (g1 : mm_rc M 100 = some 9) (g2 : ∃ fs, mm_g M 138 = some (.inl (10, fs))) (h : oW 126 210 [some (.ref 100)] [some (.ref 138)] M) (HK : ∀ M2, kInv M2 → mm_Q X 18 [some (.ref 0), some (.ref 100), some (.ref 138), some (.int (nI (i + 5)))] [] M2) : mm_Q X 32 [some (.ref 0), some (.ref 100), some (.ref 138), some (.int (nI i))] [.int 36] M := by
  obtain ⟨w1, w2, M1, M2, r1, r2, hI⟩ := h
  obtain ⟨fs0, g3⟩ := g2
  obtain ⟨fs, hfs⟩ := mr_kp r1 138 10 fs0 g3
  refine mq_seg 2 (pc1 := 1099) (ls1 := [some (.ref 0), some (.ref 100), some (.ref 138), some (.int (nI i))]) (st1 := [.ref 100]) (M1 := M) (fun f => rfl) ?_
  refine mq_call (ci := 9) (y := 126) (y0 := 1102) (L := [some (.ref 100)]) (rest := []) (rr := some (.int w1)) (M1 := M1) rfl rfl g1 rfl (fun f => rfl) r1 ?_
  refine mq_seg 2 (pc1 := 1104) (ls1 := [some (.ref 0), some (.ref 100), some (.ref 138), some (.int (nI i))]) (st1 := [.ref 138]) (M1 := M1) (fun f => rfl) ?_
  refine mq_call (ci := 10) (y := 210) (y0 := 1107) (L := [some (.ref 138)]) (rest := []) (rr := some (.int w2)) (M1 := M2) rfl rfl (mm_Kp.rc hfs rfl) rfl (fun f => rfl) r2 ?_
  refine mq_seg 3 (pc1 := 1137) (ls1 := [some (.ref 0), some (.ref 100), some (.ref 138), some (.int (nI i + 5))]) (st1 := []) (M1 := M2) (fun f => rfl) ?_
  refine mq_l (fun q_ => [some (.ref 0), some (.ref 100), some (.ref 138), some (.int q_)]) (nI_add i 5) ?_
  refine mq_seg 1 (pc1 := 18) (ls1 := [some (.ref 0), some (.ref 100), some (.ref 138), some (.int (nI (i + 5)))]) (st1 := []) (M1 := M2) (fun f => rfl) ?_
  exact HK M2 hI
theorem lq_37 {X : List Int32} {i : Nat} {M : mm_H} {x1 : Int32} (hX : X.length < 2 ^ 20) (hi : i + 5 ≤ X.length) (h1 : X[i + 1]? = some x1) (g1 : mm_rc M 100 = some 9) (g2 : ∃ fs, mm_g M 138 = some (.inl (10, fs))) (h : oW 127 211 [some (.ref 100), some (.int x1)] [some (.ref 138), some (.int x1)] M) (HK : ∀ M2, kInv M2 → mm_Q X 18 [some (.ref 0), some (.ref 100), some (.ref 138), some (.int (nI (i + 5)))] [] M2) : mm_Q X 32 [some (.ref 0), some (.ref 100), some (.ref 138), some (.int (nI i))] [.int 37] M := by
  obtain ⟨w1, w2, M1, M2, r1, r2, hI⟩ := h
  obtain ⟨fs0, g3⟩ := g2
  obtain ⟨fs, hfs⟩ := mr_kp r1 138 10 fs0 g3
  refine mq_seg 6 (pc1 := 1116) (ls1 := [some (.ref 0), some (.ref 100), some (.ref 138), some (.int (nI i))]) (st1 := [.int (nI i + 1), .ref 0, .ref 100]) (M1 := M) (fun f => rfl) ?_
  refine mq_v (nI_add i 1) ?_
  refine mq_ld (k := i + 1) rfl (by omega) h1 ?_
  refine mq_call (ci := 9) (y := 127) (y0 := 1120) (L := [some (.ref 100), some (.int x1)]) (rest := []) (rr := some (.int w1)) (M1 := M1) rfl rfl g1 rfl (fun f => rfl) r1 ?_
  refine mq_seg 6 (pc1 := 1126) (ls1 := [some (.ref 0), some (.ref 100), some (.ref 138), some (.int (nI i))]) (st1 := [.int (nI i + 1), .ref 0, .ref 138]) (M1 := M1) (fun f => rfl) ?_
  refine mq_v (nI_add i 1) ?_
  refine mq_ld (k := i + 1) rfl (by omega) h1 ?_
  refine mq_call (ci := 10) (y := 211) (y0 := 1130) (L := [some (.ref 138), some (.int x1)]) (rest := []) (rr := some (.int w2)) (M1 := M2) rfl rfl (mm_Kp.rc hfs rfl) rfl (fun f => rfl) r2 ?_
  refine mq_seg 3 (pc1 := 1137) (ls1 := [some (.ref 0), some (.ref 100), some (.ref 138), some (.int (nI i + 5))]) (st1 := []) (M1 := M2) (fun f => rfl) ?_
  refine mq_l (fun q_ => [some (.ref 0), some (.ref 100), some (.ref 138), some (.int q_)]) (nI_add i 5) ?_
  refine mq_seg 1 (pc1 := 18) (ls1 := [some (.ref 0), some (.ref 100), some (.ref 138), some (.int (nI (i + 5)))]) (st1 := []) (M1 := M2) (fun f => rfl) ?_
  exact HK M2 hI
theorem lq_def {X : List Int32} {i j : Nat} {M : mm_H} (hj : 38 ≤ j) (hj2 : j < 64) (hI : kInv M) (HK : ∀ M2, kInv M2 → mm_Q X 18 [some (.ref 0), some (.ref 100), some (.ref 138), some (.int (nI (i + 5)))] [] M2) : mm_Q X 32 [some (.ref 0), some (.ref 100), some (.ref 138), some (.int (nI i))] [.int (nI j)] M := by
  refine mq_tsw (t := 1134) rfl (Or.inr (by rw [nI_toInt (by omega)]; omega)) (by decide) ?_
  refine mq_seg 1 (pc1 := 1137) (ls1 := [some (.ref 0), some (.ref 100), some (.ref 138), some (.int (nI i + 5))]) (st1 := []) (M1 := M) (fun f => rfl) ?_
  refine mq_l (fun q_ => [some (.ref 0), some (.ref 100), some (.ref 138), some (.int q_)]) (nI_add i 5) ?_
  refine mq_seg 1 (pc1 := 18) (ls1 := [some (.ref 0), some (.ref 100), some (.ref 138), some (.int (nI (i + 5)))]) (st1 := []) (M1 := M) (fun f => rfl) ?_
  exact HK M hI
theorem lq_ex {X : List Int32} {i : Nat} (M : mm_H) (hX : X.length < 2 ^ 20) (hi : i < 2 ^ 20) (hl : ¬ i + 5 ≤ X.length) : mm_Q X 18 [some (.ref 0), some (.ref 100), some (.ref 138), some (.int (nI i))] [] M := by
  refine mq_seg 5 (pc1 := 23) (ls1 := [some (.ref 0), some (.ref 100), some (.ref 138), some (.int (nI i))]) (st1 := [.int (nI X.length - 5), .int (nI i)]) (M1 := M) (fun f => rfl) ?_
  refine mq_gt_t rfl ((k_len hi hX).mpr (by omega)) ?_
  exact mq_ret 2 (M1 := M) (fun f => rfl)
theorem lq_hd {X : List Int32} {i : Nat} {M : mm_H} {a : Int32} (hX : X.length < 2 ^ 20) (hl : i + 5 ≤ X.length) (ha : X[i]? = some a) (h : mm_Q X 32 [some (.ref 0), some (.ref 100), some (.ref 138), some (.int (nI i))] [.int (a &&& 63)] M) : mm_Q X 18 [some (.ref 0), some (.ref 100), some (.ref 138), some (.int (nI i))] [] M := by
  refine mq_seg 5 (pc1 := 23) (ls1 := [some (.ref 0), some (.ref 100), some (.ref 138), some (.int (nI i))]) (st1 := [.int (nI X.length - 5), .int (nI i)]) (M1 := M) (fun f => rfl) ?_
  refine mq_gt_f rfl (fun e => absurd ((k_len (by omega) hX).mp e) (by omega)) ?_
  refine mq_seg 2 (pc1 := 28) (ls1 := [some (.ref 0), some (.ref 100), some (.ref 138), some (.int (nI i))]) (st1 := [.int (nI i), .ref 0]) (M1 := M) (fun f => rfl) ?_
  refine mq_ld (k := i) rfl (by omega) ha ?_
  refine mq_seg 2 (pc1 := 32) (ls1 := [some (.ref 0), some (.ref 100), some (.ref 138), some (.int (nI i))]) (st1 := [.int (a &&& 63)]) (M1 := M) (fun f => rfl) ?_
  exact h
theorem lq_all (X : List Int32) (hX : X.length ≤ 2560) : ∀ (k i : Nat) (M : mm_H), X.length ≤ i + k → i < 3000 → kInv M → mm_Q X 18 [some (.ref 0), some (.ref 100), some (.ref 138), some (.int (nI i))] [] M := by
  have hX2 : X.length < 2 ^ 20 := by omega
  intro k
  induction k with
  | zero => exact fun i M hk hi hM => lq_ex M hX2 (by omega) (by omega)
  | succ k IH =>
    intro i M hk hi hM
    by_cases hl : i + 5 ≤ X.length
    · have HK : ∀ M2, kInv M2 → mm_Q X 18 [some (.ref 0), some (.ref 100), some (.ref 138), some (.int (nI (i + 5)))] [] M2 := fun M2 h2 => IH (i + 5) M2 (by omega) (by omega) h2
      obtain ⟨g1, g2⟩ := kInv_g hM
      have h1 : X[i + 1]? = some (X[i + 1]'(by omega)) := List.getElem?_eq_getElem (by omega)
      have h2 : X[i + 2]? = some (X[i + 2]'(by omega)) := List.getElem?_eq_getElem (by omega)
      have h3 : X[i + 3]? = some (X[i + 3]'(by omega)) := List.getElem?_eq_getElem (by omega)
      have h4 : X[i + 4]? = some (X[i + 4]'(by omega)) := List.getElem?_eq_getElem (by omega)
      refine lq_hd hX2 hl (List.getElem?_eq_getElem (by omega)) ?_
      obtain ⟨j, hj, ha⟩ := pk_andE (X[i]'(by omega)) (m := 63) 6 (by decide)
      rw [ha]
      match j, hj with
      | 0, _ => exact lq_0 hX2 hl h1 g1 g2 (op_letter hM _).w HK
      | 1, _ => exact lq_1 hX2 hl g1 g2 (op_kingdomM hM).w HK
      | 2, _ => exact lq_2 hX2 hl h1 h2 g1 g2 (op_minister hM _ _).w HK
      | 3, _ => exact lq_3 hX2 hl h1 h2 g1 g2 (op_cell hM _ _).w HK
      | 4, _ => exact lq_4 hX2 hl h1 g1 g2 (op_pushing hM _).w HK
      | 5, _ => exact lq_5 hX2 hl h1 h2 g1 g2 (op_heaps hM _ _).w HK
      | 6, _ => exact lq_6 hX2 hl h1 g1 g2 (op_kerbs hM _).w HK
      | 7, _ => exact lq_7 hX2 hl h1 g1 g2 (op_stands hM _).w HK
      | 8, _ => exact lq_8 hX2 hl h1 g1 g2 (op_goal hM _).w HK
      | 9, _ => exact lq_9 hX2 hl h1 g1 g2 (op_weighs hM _).w HK
      | 10, _ => exact lq_10 hX2 hl h1 g1 g2 (op_steps hM _).w HK
      | 11, _ => exact lq_11 hX2 hl h1 h2 h3 g1 g2 (op_turn hM _ _ _).w HK
      | 12, _ => exact lq_12 hX2 hl h1 g1 g2 (op_goes hM _).w HK
      | 13, _ => exact lq_13 hX2 hl h1 h2 g1 g2 (op_then hM _ _).w HK
      | 14, _ => exact lq_14 hX2 hl h1 h2 g1 g2 (op_fallsThen hM _ _).w HK
      | 15, _ => exact lq_15 hX2 hl h1 g1 g2 (op_comes hM _).w HK
      | 16, _ => exact lq_16 hX2 hl h1 g1 g2 (op_down hM _) HK
      | 17, _ => exact lq_17 hX2 hl g1 g2 (op_stuck hM) HK
      | 18, _ => exact lq_18 hX2 hl h1 h2 g1 g2 (ot_climb hM _ _) HK
      | 19, _ => exact lq_19 hX2 hl g1 g2 (op_push hM) HK
      | 20, _ => exact lq_20 hX2 hl g1 g2 (op_take hM) HK
      | 21, _ => exact lq_21 hX2 hl g1 g2 (op_flat hM) HK
      | 22, _ => exact lq_22 hX2 hl g1 g2 (op_mostWeight hM) HK
      | 23, _ => exact lq_23 hX2 hl h1 g1 g2 (op_start hM _) HK
      | 24, _ => exact lq_24 hX2 hl h1 h2 g1 g2 (op_bestKind hM _ _) HK
      | 25, _ => exact lq_25 hX2 hl h1 g1 g2 (op_far hM _) HK
      | 26, _ => exact lq_26 hX2 hl h1 g1 g2 (op_easy hM _) HK
      | 27, _ => exact lq_27 hX2 hl h1 h2 h3 g1 g2 (op_two hM _ _ _) HK
      | 28, _ => exact lq_28 hX2 hl h1 h2 h3 h4 g1 g2 (op_plank hM _ _ _ _) HK
      | 29, _ => exact lq_29 hX2 hl h1 g1 g2 (op_mean hM _) HK
      | 30, _ => exact lq_30 hX2 hl h1 g1 g2 (op_whoPushed hM _) HK
      | 31, _ => exact lq_31 hX2 hl h1 g1 g2 (op_row hM _).w HK
      | 32, _ => exact lq_32 hX2 hl g1 g2 (op_judge hM) HK
      | 33, _ => exact lq_33 hX2 hl g1 g2 (op_clear hM).w HK
      | 34, _ => exact lq_34 hX2 hl h1 h2 h3 g1 g2 (op_lots hM _ _ _) HK
      | 35, _ => exact lq_35 hX2 hl g1 g2 (op_image hM).w HK
      | 36, _ => exact lq_36 hX2 hl g1 g2 (op_on hM).w HK
      | 37, _ => exact lq_37 hX2 hl h1 g1 g2 (op_count hM _).w HK
      | j + 38, hj => exact lq_def (by omega) (show j + 38 < 64 from hj) hM HK
    · exact lq_ex M hX2 (by omega) hl
def lx_MI : mm_H := [.inl (9, [.ref 117, .ref 124, .ref 131, .int 0, .ref 101, .ref 104, .int 0, .ref 105, .ref 106, .ref 107, .ref 108, .ref 109]), .inl (8, [.ref 102, .int 0, .ref 103, .int 0]), .inr (.inl [0, 0, 0, 0, 0, 0, 0, 0, 0, 0, 0, 0, 0, 0, 0, 0, 0, 0, 0, 0, 0, 0, 0, 0, 0, 0, 0, 0, 0, 0, 0, 0, 0, 0, 0, 0, 0, 0, 0, 0, 0, 0, 0, 0, 0, 0, 0, 0, 0, 0, 0, 0, 0, 0, 0, 0, 0, 0, 0, 0, 0, 0, 0, 0, 0, 0, 0, 0, 0, 0, 0, 0, 0, 0, 0, 0, 0, 0, 0, 0, 0, 0, 0, 0, 0, 0, 0, 0, 0, 0, 0, 0, 0, 0, 0, 0]), .inr (.inl [0, 0, 0, 0, 0, 0, 0, 0, 0, 0, 0, 0, 0, 0, 0, 0, 0, 0, 0, 0, 0, 0, 0, 0, 0, 0, 0, 0, 0, 0, 0, 0, 0, 0, 0, 0, 0, 0, 0, 0, 0, 0, 0, 0, 0, 0, 0, 0, 0, 0, 0, 0, 0, 0, 0, 0, 0, 0, 0, 0, 0, 0, 0, 0, 0, 0, 0, 0, 0, 0, 0, 0, 0, 0, 0, 0, 0, 0, 0, 0, 0, 0, 0, 0, 0, 0, 0, 0, 0, 0, 0, 0, 0, 0, 0, 0]), .inr (.inl [0, 0, 0, 0, 0, 0, 0, 0, 0, 0, 0, 0, 0, 0, 0, 0]), .inr (.inl [0, 0, 0, 0, 0, 0, 0]), .inl (6, [.int 0, .int 0]), .inr (.inl [0, 0, 0, 0, 0, 0, 0, 0, 0, 0, 0, 0, 0, 0, 0, 0, 0, 0, 0, 0, 0, 0, 0, 0, 0]), .inr (.inl [0, 0, 0, 0]), .inr (.inl [0, 0, 0, 0]), .inr (.inr [.ref 111, .ref 112, .ref 113, .ref 114, .ref 115, .ref 116]), .inl (3, []), .inl (2, []), .inl (7, []), .inl (0, []), .inl (5, []), .inl (4, []), .inl (1, [.ref 110, .ref 118, .ref 119, .ref 120, .ref 121, .ref 122, .ref 123, .int 0, .int 0, .int 24, .int 1, .int 5, .int 0]), .inr (.inl [0, 0, 0, 0, 0, 0, 0, 0, 0, 0, 0, 0, 0, 0, 0, 0, 0, 0, 0, 0, 0, 0, 0, 0, 0]), .inr (.inl [0, 0, 0, 0, 0, 0, 0, 0, 0, 0, 0, 0, 0, 0, 0, 0, 0, 0, 0, 0, 0, 0, 0, 0, 0]), .inr (.inl [0, 0, 0, 0, 0]), .inr (.inl [0, 0, 0, 0, 0]), .inr (.inl [0, 0, 0, 0, 0]), .inr (.inl [0, 0, 0, 0, 0]), .inl (1, [.ref 110, .ref 125, .ref 126, .ref 127, .ref 128, .ref 129, .ref 130, .int 0, .int 0, .int 24, .int 1, .int 5, .int 0]), .inr (.inl [0, 0, 0, 0, 0, 0, 0, 0, 0, 0, 0, 0, 0, 0, 0, 0, 0, 0, 0, 0, 0, 0, 0, 0, 0]), .inr (.inl [0, 0, 0, 0, 0, 0, 0, 0, 0, 0, 0, 0, 0, 0, 0, 0, 0, 0, 0, 0, 0, 0, 0, 0, 0]), .inr (.inl [0, 0, 0, 0, 0]), .inr (.inl [0, 0, 0, 0, 0]), .inr (.inl [0, 0, 0, 0, 0]), .inr (.inl [0, 0, 0, 0, 0]), .inl (1, [.ref 110, .ref 132, .ref 133, .ref 134, .ref 135, .ref 136, .ref 137, .int 0, .int 0, .int 24, .int 1, .int 5, .int 0]), .inr (.inl [0, 0, 0, 0, 0, 0, 0, 0, 0, 0, 0, 0, 0, 0, 0, 0, 0, 0, 0, 0, 0, 0, 0, 0, 0]), .inr (.inl [0, 0, 0, 0, 0, 0, 0, 0, 0, 0, 0, 0, 0, 0, 0, 0, 0, 0, 0, 0, 0, 0, 0, 0, 0]), .inr (.inl [0, 0, 0, 0, 0]), .inr (.inl [0, 0, 0, 0, 0]), .inr (.inl [0, 0, 0, 0, 0]), .inr (.inl [0, 0, 0, 0, 0])]
def lq_K0 : kK := ([0, 0, 0, 0, 0, 0, 0, 0, 0, 0, 0, 0, 0, 0, 0, 0, 0, 0, 0, 0, 0, 0, 0, 0, 0], [0, 0, 0, 0, 0, 0, 0, 0, 0, 0, 0, 0, 0, 0, 0, 0, 0, 0, 0, 0, 0, 0, 0, 0, 0], [0, 0, 0, 0, 0], [0, 0, 0, 0, 0], [0, 0, 0, 0, 0], [0, 0, 0, 0, 0], 0, 0, 24, 1, 5, 0)
def lq_F0 : mm_H := mk_M (cT 0 [0, 0, 0, 0, 0, 0, 0, 0, 0, 0, 0, 0, 0, 0, 0, 0, 0, 0, 0, 0, 0, 0, 0, 0, 0, 0, 0, 0, 0, 0, 0, 0, 0, 0, 0, 0, 0, 0, 0, 0, 0, 0, 0, 0, 0, 0, 0, 0, 0, 0, 0, 0, 0, 0, 0, 0, 0, 0, 0, 0, 0, 0, 0, 0, 0, 0, 0, 0, 0, 0, 0, 0, 0, 0, 0, 0, 0, 0, 0, 0, 0, 0, 0, 0, 0, 0, 0, 0, 0, 0, 0, 0, 0, 0, 0, 0] 0 [0, 0, 0, 0, 0, 0, 0, 0, 0, 0, 0, 0, 0, 0, 0, 0, 0, 0, 0, 0, 0, 0, 0, 0, 0, 0, 0, 0, 0, 0, 0, 0, 0, 0, 0, 0, 0, 0, 0, 0, 0, 0, 0, 0, 0, 0, 0, 0, 0, 0, 0, 0, 0, 0, 0, 0, 0, 0, 0, 0, 0, 0, 0, 0, 0, 0, 0, 0, 0, 0, 0, 0, 0, 0, 0, 0, 0, 0, 0, 0, 0, 0, 0, 0, 0, 0, 0, 0, 0, 0, 0, 0, 0, 0, 0, 0] 0 [0, 0, 0, 0, 0, 0, 0, 0, 0, 0, 0, 0, 0, 0, 0, 0] 0 [0, 0, 0, 0, 0, 0, 0] 0 0 [0, 0, 0, 0, 0, 0, 0, 0, 0, 0, 0, 0, 0, 0, 0, 0, 0, 0, 0, 0, 0, 0, 0, 0, 0] [0, 0, 0, 0] [0, 0, 0, 0]) (kr lq_K0) (kr lq_K0) (kr lq_K0) (rT lq_K0 [0, 0, 0, 0, 0, 0, 0, 0, 0, 0, 0, 0, 0, 0, 0, 0, 0, 0, 0, 0, 0, 0, 0, 0, 0, 0, 0, 0, 0, 0, 0, 0, 0, 0, 0, 0, 0, 0, 0, 0, 0, 0, 0, 0, 0, 0, 0, 0, 0, 0, 0, 0] [0, 0, 0, 0, 0, 0, 0, 0, 0, 0, 0, 0, 0, 0, 0, 0, 0, 0, 0, 0, 0, 0, 0, 0, 0, 0, 0, 0, 0, 0, 0, 0, 0, 0, 0, 0, 0, 0, 0, 0, 0, 0, 0, 0, 0, 0, 0, 0, 0, 0, 0, 0] [0, 0, 0, 0, 0, 0, 0, 0, 0, 0, 0, 0, 0, 0, 0, 0, 0, 0, 0, 0, 0, 0, 0, 0, 0, 0, 0, 0, 0, 0, 0, 0, 0, 0, 0, 0, 0, 0, 0, 0, 0, 0, 0, 0, 0, 0, 0, 0, 0, 0, 0, 0] 0 [0, 0, 0, 0, 0, 0, 0, 0, 0, 0, 0, 0, 0, 0, 0, 0, 0, 0, 0, 0, 0, 0, 0, 0, 0, 0, 0, 0, 0, 0, 0, 0, 0, 0, 0, 0, 0, 0, 0, 0, 0, 0, 0, 0, 0, 0, 0, 0, 0, 0, 0, 0, 0, 0, 0, 0, 0, 0, 0, 0, 0, 0, 0, 0, 0, 0, 0, 0, 0, 0, 0, 0, 0, 0, 0, 0, 0, 0, 0, 0, 0, 0, 0, 0, 0, 0, 0, 0, 0, 0, 0, 0, 0, 0, 0, 0] [0, 0, 0, 0, 0, 0, 0, 0, 0, 0, 0, 0, 0, 0, 0, 0] [0, 0, 0, 0, 0, 0, 0] 0 0 0 [0, 0] [0, 0, 0, 0, 0, 0, 0, 0, 0, 0, 0, 0, 0, 0, 0, 0, 0, 0, 0, 0, 0, 0, 0, 0, 0] 0)
set_option maxRecDepth 100000 in
theorem lx_c1 : mm_x none 600 1 0 [some (.ref 100), none] [] [.inl (9, mm_df 9)] 37 509 = some (none, lx_MI) := by rfl
set_option maxRecDepth 100000 in
theorem lx_c2 : mm_x none 600 128 0 [some (.ref 138)] [] (lx_MI ++ [.inl (10, mm_df 10)]) 9 354 = some (none, lq_F0) := by rfl
theorem lx_start (X : List Int32) (n : Nat) : mm_x (some X) (n + 700) 0 0 (mm_en 4 [.ref 0]) [] [] 48 889 = mm_x (some X) (n + 690) 0 18 [some (.ref 0), some (.ref 100), some (.ref 138), some (.int 0)] [] lq_F0 0 0 := by
  refine mm_seg (n := n + 698) 2 (z1 := 0) (pc1 := 4) (ls1 := [some (.ref 0), none, none, none]) (st1 := [.ref 100, .ref 100]) (M1 := [.inl (9, mm_df 9)]) (bc1 := 47) (bs1 := 877) (fun f => rfl) ?_
  refine mm_c_inv (y := 1) (y0 := 7) (bc1 := 37) (bs1 := 509) (bc2 := 10) (bs2 := 368) (L := [some (.ref 100), none]) (rest := [.ref 100]) (r := none) (M1 := lx_MI) (fun f => rfl) ((congrArg (fun k => mm_x (some X) k 1 0 [some (.ref 100), none] [] [.inl (9, mm_df 9)] 37 509) (show n + 697 = 600 + (n + 97) by omega)).trans (mm_mono (fun xs h => by cases h) 600 (n + 97) _ _ _ _ _ _ _ _ lx_c1)) ?_
  refine mm_seg (n := n + 694) 3 (z1 := 0) (pc1 := 12) (ls1 := [some (.ref 0), some (.ref 100), none, none]) (st1 := [.ref 138, .ref 138]) (M1 := lx_MI ++ [.inl (10, mm_df 10)]) (bc1 := 9) (bs1 := 354) (fun f => rfl) ?_
  refine mm_c_inv (y := 128) (y0 := 15) (bc1 := 9) (bs1 := 354) (bc2 := 0) (bs2 := 0) (L := [some (.ref 138)]) (rest := [.ref 138]) (r := none) (M1 := lq_F0) (fun f => rfl) ((congrArg (fun k => mm_x (some X) k 128 0 [some (.ref 138)] [] (lx_MI ++ [.inl (10, mm_df 10)]) 9 354) (show n + 693 = 600 + (n + 93) by omega)).trans (mm_mono (fun xs h => by cases h) 600 (n + 93) _ _ _ _ _ _ _ _ lx_c2)) ?_
  exact mm_seg (n := n + 690) 3 (z1 := 0) (pc1 := 18) (ls1 := [some (.ref 0), some (.ref 100), some (.ref 138), some (.int 0)]) (st1 := []) (M1 := lq_F0) (bc1 := 0) (bs1 := 0) (fun f => rfl) rfl
theorem kg_all {l : List Nat} {b : Nat} (h : ∀ x ∈ l, x ≤ b) (i : Nat) : kg l i ≤ b := by
  unfold kg
  rw [List.getD_eq_getElem?_getD]
  cases h2 : l[i]? with
  | none => exact Nat.zero_le b
  | some v => exact h v (List.mem_of_getElem? h2)
theorem lq_A0 : iA lq_K0 := ⟨⟨rfl, rfl, rfl, rfl, rfl, by decide, by decide, by decide, by decide, by decide, by decide, kg_all (by decide), kg_all (by decide), kg_all (by decide), kg_all (by decide), kg_all (by decide)⟩, by decide⟩
theorem lq_I0 : kInv lq_F0 := by
  refine ⟨lq_K0, kr lq_K0, kr lq_K0, 0, [0, 0, 0, 0, 0, 0, 0, 0, 0, 0, 0, 0, 0, 0, 0, 0, 0, 0, 0, 0, 0, 0, 0, 0, 0, 0, 0, 0, 0, 0, 0, 0, 0, 0, 0, 0, 0, 0, 0, 0, 0, 0, 0, 0, 0, 0, 0, 0, 0, 0, 0, 0, 0, 0, 0, 0, 0, 0, 0, 0, 0, 0, 0, 0, 0, 0, 0, 0, 0, 0, 0, 0, 0, 0, 0, 0, 0, 0, 0, 0, 0, 0, 0, 0, 0, 0, 0, 0, 0, 0, 0, 0, 0, 0, 0, 0], 0, [0, 0, 0, 0, 0, 0, 0, 0, 0, 0, 0, 0, 0, 0, 0, 0, 0, 0, 0, 0, 0, 0, 0, 0, 0, 0, 0, 0, 0, 0, 0, 0, 0, 0, 0, 0, 0, 0, 0, 0, 0, 0, 0, 0, 0, 0, 0, 0, 0, 0, 0, 0, 0, 0, 0, 0, 0, 0, 0, 0, 0, 0, 0, 0, 0, 0, 0, 0, 0, 0, 0, 0, 0, 0, 0, 0, 0, 0, 0, 0, 0, 0, 0, 0, 0, 0, 0, 0, 0, 0, 0, 0, 0, 0, 0, 0], 0, [0, 0, 0, 0, 0, 0, 0, 0, 0, 0, 0, 0, 0, 0, 0, 0], 0, [0, 0, 0, 0, 0, 0, 0], 0, 0, [0, 0, 0, 0, 0, 0, 0, 0, 0, 0, 0, 0, 0, 0, 0, 0, 0, 0, 0, 0, 0, 0, 0, 0, 0], [0, 0, 0, 0], [0, 0, 0, 0], [0, 0, 0, 0, 0, 0, 0, 0, 0, 0, 0, 0, 0, 0, 0, 0, 0, 0, 0, 0, 0, 0, 0, 0, 0, 0, 0, 0, 0, 0, 0, 0, 0, 0, 0, 0, 0, 0, 0, 0, 0, 0, 0, 0, 0, 0, 0, 0, 0, 0, 0, 0], [0, 0, 0, 0, 0, 0, 0, 0, 0, 0, 0, 0, 0, 0, 0, 0, 0, 0, 0, 0, 0, 0, 0, 0, 0, 0, 0, 0, 0, 0, 0, 0, 0, 0, 0, 0, 0, 0, 0, 0, 0, 0, 0, 0, 0, 0, 0, 0, 0, 0, 0, 0], [0, 0, 0, 0, 0, 0, 0, 0, 0, 0, 0, 0, 0, 0, 0, 0, 0, 0, 0, 0, 0, 0, 0, 0, 0, 0, 0, 0, 0, 0, 0, 0, 0, 0, 0, 0, 0, 0, 0, 0, 0, 0, 0, 0, 0, 0, 0, 0, 0, 0, 0, 0], 0, [0, 0], [0, 0, 0, 0, 0, 0, 0, 0, 0, 0, 0, 0, 0, 0, 0, 0, 0, 0, 0, 0, 0, 0, 0, 0, 0], 0, rfl, lq_A0, ⟨rfl, fun i => ?_, by decide⟩, ⟨rfl, kg_all (by decide), by decide⟩, rfl, ⟨kSh_r lq_A0.1, rfl, rfl, rfl, rfl⟩, ⟨rfl, rfl, rfl, rfl⟩, kSh_r lq_A0.1, rfl, by decide, fun h => absurd h (by decide)⟩
  exact Nat.lt_succ_of_le (kg_all (b := 255) (by decide) i)
theorem lq_run (X : List Int32) (hX : X.length ≤ 2560) : ∃ (n : Nat) (M1 : mm_H), mm_x (some X) n 0 0 (mm_en 4 [.ref 0]) [] [] 48 889 = some (some (.int 1), M1) := by
  obtain ⟨n, M1, h⟩ := lq_all X hX X.length 0 lq_F0 (by omega) (by omega) lq_I0
  refine ⟨n + 700, M1, ?_⟩
  rw [lx_start X n]
  exact mm_mono (fun xs h => h) n 690 _ _ _ _ _ _ _ _ h
theorem whole_start {p : Program} {e : Env} {s : State} {m : MethodId} {below : List Frame} {meth : Method} {c : Code} (l : Launch) (hflags : l.flags = flags0) {b L : Nat} {xs : Nat → Int32} (hL : L ≤ 2560) (C0 : lw_At p s m meth c b L xs) : W p l e room_1 s m #[Value.ref b] below meth c s.heap [] 0 0 (lw_Z below #[Value.ref b] s) (entryFrame m ([Value.ref b] : List Value).toArray 4) := by
  obtain ⟨n, M1, h⟩ := lq_run ((List.range L).map xs) (by rw [List.length_map, List.length_range]; exact hL)
  exact mm_glue l C0 h
