def ms_acc (f : Int32 → Int32) (g : Int32 → Int32 → Int32) : Nat → Int32 → Int32 → Int32
  | 0, _, v => v
  | k + 1, s, v => ms_acc f g k (f s) (g s v)
theorem ms_acc_0 (f : Int32 → Int32) (g : Int32 → Int32 → Int32) (s v : Int32) : ms_acc f g 0 s v = v := rfl
theorem ms_acc_s (f : Int32 → Int32) (g : Int32 → Int32 → Int32) (k : Nat) (s v : Int32) : ms_acc f g (k + 1) s v = ms_acc f g k (f s) (g s v) := rfl
def ms_f (s : Int32) : Int32 := ms_1 (ms_1 (ms_1 s))
def ms_g (s v : Int32) : Int32 := if ms_d 25 (ms_1 s) = ms_d 25 (ms_1 (ms_1 s)) then v + 1 else v
theorem ms_f_eq (s : Int32) : ms_f s = ms_1 (ms_1 (ms_1 s)) := rfl
theorem ms_g_t {s v : Int32} (h : ms_d 25 (ms_1 s) = ms_d 25 (ms_1 (ms_1 s))) : ms_g s v = v + 1 := if_pos h
theorem ms_g_f {s v : Int32} (h : ¬ ms_d 25 (ms_1 s) = ms_d 25 (ms_1 (ms_1 s))) : ms_g s v = v := if_neg h
theorem lc_all (k : Nat) : ∀ (j n : Nat) (ns a g la w s w1 w2 u1 u2 u3 u4 u6 t1 b1 b2 b3 b4 b5 v1 v2 v3 v4 v6 sd : Int32) (cl co : List Int32) (zz wh th fe sx : Int32), j + k ≤ 20 → 54 * k + 155 ≤ n → ∃ a' g' la' w' s' : Int32, mm_x none n 109 53 [some (.ref 100), some (.int (nI (j + k))), some (.int zz), some (.int wh), some (.int th), some (.int fe), some (.int sx), some (.int (nI j)), some (.ref 124)] [] (mm_MC ns a g la w s w1 w2 u1 u2 u3 u4 u6 t1 b1 b2 b3 b4 b5 v1 v2 v3 v4 v6 sd cl co) 0 0 = some (some (.int (if wh = 0 then ms_acc ms_f ms_g k sx th else fe)), (mm_MC ns a' g' la' w' s' w1 w2 u1 u2 u3 u4 u6 t1 b1 b2 b3 b4 b5 v1 v2 v3 v4 v6 sd cl co)) := by
  induction k with
  | zero =>
    intro j n ns a g la w s w1 w2 u1 u2 u3 u4 u6 t1 b1 b2 b3 b4 b5 v1 v2 v3 v4 v6 sd cl co zz wh th fe sx hj hn
    refine ⟨a, g, la, w, s, ?_⟩
    have f0 : n - 155 + 155 = n := by omega
    by_cases hw : wh = 0
    · have ex := lc_ex0 (n - 155) ns a g la w s w1 w2 u1 u2 u3 u4 u6 t1 b1 b2 b3 b4 b5 v1 v2 v3 v4 v6 sd cl co (nI (j + 0)) zz wh th fe sx (nI j) (nI_le (Nat.le_refl j) (by omega)) hw
      rw [f0] at ex
      rw [if_pos hw, ms_acc_0]
      exact ex
    · have ex := lc_ex1 (n - 155) ns a g la w s w1 w2 u1 u2 u3 u4 u6 t1 b1 b2 b3 b4 b5 v1 v2 v3 v4 v6 sd cl co (nI (j + 0)) zz wh th fe sx (nI j) (nI_le (Nat.le_refl j) (by omega)) hw
      rw [f0] at ex
      rw [if_neg hw]
      exact ex
  | succ k IH =>
    intro j n ns a g la w s w1 w2 u1 u2 u3 u4 u6 t1 b1 b2 b3 b4 b5 v1 v2 v3 v4 v6 sd cl co zz wh th fe sx hj hn
    have f0 : n - 155 + 155 = n := by omega
    have e2 : nI j + 1 = nI (j + 1) := nI_1 j
    have e3 : j + (k + 1) = (j + 1) + k := by omega
    by_cases hh : ms_d 25 (ms_1 sx) = ms_d 25 (ms_1 (ms_1 sx))
    · have it := lc_it1h (n - 155) ns a g la w s w1 w2 u1 u2 u3 u4 u6 t1 b1 b2 b3 b4 b5 v1 v2 v3 v4 v6 sd cl co (nI (j + (k + 1))) zz wh th fe sx (nI j) (nI_ge (by omega) (by omega)) hh
      rw [f0, e2, Int32.add_zero] at it
      obtain ⟨x1, x2, x3, x4, x5, ih⟩ := IH (j + 1) (n - 155 + 101) ns (ms_d 25 (ms_1 sx)) (ms_d 25 (ms_1 (ms_1 sx))) 1 (ms_d 11 (ms_1 (ms_1 (ms_1 sx)))) (ns + (nI 12)) w1 w2 u1 u2 u3 u4 u6 t1 b1 b2 b3 b4 b5 v1 v2 v3 v4 v6 sd cl co zz wh (th + 1) fe (ms_1 (ms_1 (ms_1 sx))) (by omega) (by omega)
      refine ⟨x1, x2, x3, x4, x5, ?_⟩
      rw [it, e3, ih]
      rw [ms_acc_s, ms_f_eq, ms_g_t hh]
    · have it := lc_it1n (n - 155) ns a g la w s w1 w2 u1 u2 u3 u4 u6 t1 b1 b2 b3 b4 b5 v1 v2 v3 v4 v6 sd cl co (nI (j + (k + 1))) zz wh th fe sx (nI j) (nI_ge (by omega) (by omega)) hh
      rw [f0, e2, Int32.add_zero, Int32.add_zero] at it
      obtain ⟨x1, x2, x3, x4, x5, ih⟩ := IH (j + 1) (n - 155 + 102) ns (ms_d 25 (ms_1 sx)) (ms_d 25 (ms_1 (ms_1 sx))) 1 (ms_d 11 (ms_1 (ms_1 (ms_1 sx)))) (ns + (nI 12)) w1 w2 u1 u2 u3 u4 u6 t1 b1 b2 b3 b4 b5 v1 v2 v3 v4 v6 sd cl co zz wh th fe (ms_1 (ms_1 (ms_1 sx))) (by omega) (by omega)
      refine ⟨x1, x2, x3, x4, x5, ?_⟩
      rw [it, e3, ih]
      rw [ms_acc_s, ms_f_eq, ms_g_f hh]
theorem lc_first (k n : Nat) (ns a g la w s w1 w2 u1 u2 u3 u4 u6 t1 b1 b2 b3 b4 b5 v1 v2 v3 v4 v6 sd : Int32) (cl co : List Int32) (zz wh th fe sx : Int32) (hk : k + 1 ≤ 20) (hn : 54 * (k + 1) + 155 ≤ n) : ∃ a' g' la' w' s' : Int32, mm_x none n 109 53 [some (.ref 100), some (.int (nI (k + 1))), some (.int zz), some (.int wh), some (.int th), some (.int fe), some (.int sx), some (.int 0), none] [] (mm_MC ns a g la w s w1 w2 u1 u2 u3 u4 u6 t1 b1 b2 b3 b4 b5 v1 v2 v3 v4 v6 sd cl co) 0 0 = some (some (.int (if wh = 0 then ms_acc ms_f ms_g (k + 1) sx th else fe)), (mm_MC ns a' g' la' w' s' w1 w2 u1 u2 u3 u4 u6 t1 b1 b2 b3 b4 b5 v1 v2 v3 v4 v6 sd cl co)) := by
  have f0 : n - 155 + 155 = n := by omega
  have e2 : (0 : Int32) + 1 = nI 1 := by decide
  have e3 : k + 1 = 1 + k := by omega
  by_cases hh : ms_d 25 (ms_1 sx) = ms_d 25 (ms_1 (ms_1 sx))
  · have it := lc_it0h (n - 155) ns a g la w s w1 w2 u1 u2 u3 u4 u6 t1 b1 b2 b3 b4 b5 v1 v2 v3 v4 v6 sd cl co (nI (k + 1)) zz wh th fe sx 0 (show ¬ nI (k + 1) ≤ nI 0 from nI_ge (by omega) (by omega)) hh
    rw [f0, e2, Int32.add_zero] at it
    obtain ⟨x1, x2, x3, x4, x5, ih⟩ := lc_all k 1 (n - 155 + 101) ns (ms_d 25 (ms_1 sx)) (ms_d 25 (ms_1 (ms_1 sx))) 1 (ms_d 11 (ms_1 (ms_1 (ms_1 sx)))) (ns + (nI 12)) w1 w2 u1 u2 u3 u4 u6 t1 b1 b2 b3 b4 b5 v1 v2 v3 v4 v6 sd cl co zz wh (th + 1) fe (ms_1 (ms_1 (ms_1 sx))) (by omega) (by omega)
    refine ⟨x1, x2, x3, x4, x5, ?_⟩
    rw [it, e3, ih]
    rw [← e3]
    rw [ms_acc_s, ms_f_eq, ms_g_t hh]
  · have it := lc_it0n (n - 155) ns a g la w s w1 w2 u1 u2 u3 u4 u6 t1 b1 b2 b3 b4 b5 v1 v2 v3 v4 v6 sd cl co (nI (k + 1)) zz wh th fe sx 0 (show ¬ nI (k + 1) ≤ nI 0 from nI_ge (by omega) (by omega)) hh
    rw [f0, e2, Int32.add_zero, Int32.add_zero] at it
    obtain ⟨x1, x2, x3, x4, x5, ih⟩ := lc_all k 1 (n - 155 + 102) ns (ms_d 25 (ms_1 sx)) (ms_d 25 (ms_1 (ms_1 sx))) 1 (ms_d 11 (ms_1 (ms_1 (ms_1 sx)))) (ns + (nI 12)) w1 w2 u1 u2 u3 u4 u6 t1 b1 b2 b3 b4 b5 v1 v2 v3 v4 v6 sd cl co zz wh th fe (ms_1 (ms_1 (ms_1 sx))) (by omega) (by omega)
    refine ⟨x1, x2, x3, x4, x5, ?_⟩
    rw [it, e3, ih]
    rw [← e3]
    rw [ms_acc_s, ms_f_eq, ms_g_f hh]
theorem lm_all0 (k : Nat) : ∀ (j n : Nat) (ns a g la w s w1 w2 u1 u2 u3 u4 u6 t1 b1 b2 b3 b4 b5 v1 v2 v3 v4 v6 sd : Int32) (cl co : List Int32) (zz v : Int32), j + k ≤ 20 → 52 * k + 586 ≤ n → ∃ b1' b2' b3' b4' b5' sd' : Int32, mm_x none n 194 52 [some (.ref 138), some (.int (nI (j + k))), some (.int zz), some (.int 0), some (.int v), some (.int (nI j))] [] (mm_MC ns a g la w s w1 w2 u1 u2 u3 u4 u6 t1 b1 b2 b3 b4 b5 v1 v2 v3 v4 v6 sd cl co) 0 0 = some (some (.int (ms_acc ms_f ms_g k sd v)), (mm_MC ns a g la w s w1 w2 u1 u2 u3 u4 u6 t1 b1' b2' b3' b4' b5' v1 v2 v3 v4 v6 sd' cl co)) := by
  induction k with
  | zero =>
    intro j n ns a g la w s w1 w2 u1 u2 u3 u4 u6 t1 b1 b2 b3 b4 b5 v1 v2 v3 v4 v6 sd cl co zz v hj hn
    refine ⟨b1, b2, b3, b4, b5, sd, ?_⟩
    have f0 : n - 586 + 586 = n := by omega
    have ex := lm_ex0 (n - 586) ns a g la w s w1 w2 u1 u2 u3 u4 u6 t1 b1 b2 b3 b4 b5 v1 v2 v3 v4 v6 sd cl co (nI (j + 0)) zz v (nI j) (nI_le (Nat.le_refl j) (by omega))
    rw [f0] at ex
    try rw [ms_acc_0]
    exact ex
  | succ k IH =>
    intro j n ns a g la w s w1 w2 u1 u2 u3 u4 u6 t1 b1 b2 b3 b4 b5 v1 v2 v3 v4 v6 sd cl co zz v hj hn
    have f0 : n - 586 + 586 = n := by omega
    have e2 : nI j + 1 = nI (j + 1) := nI_1 j
    have e3 : j + (k + 1) = (j + 1) + k := by omega
    by_cases hh : ms_d 25 (ms_1 sd) = ms_d 25 (ms_1 (ms_1 sd))
    · have it := lm_it0h (n - 586) ns a g la w s w1 w2 u1 u2 u3 u4 u6 t1 b1 b2 b3 b4 b5 v1 v2 v3 v4 v6 sd cl co (nI (j + (k + 1))) zz v (nI j) (nI_ge (by omega) (by omega)) hh
      rw [f0, e2] at it
      obtain ⟨x1, x2, x3, x4, x5, x6, ih⟩ := IH (j + 1) (n - 586 + 534) ns a g la w s w1 w2 u1 u2 u3 u4 u6 t1 (t1 + (nI 12)) (ms_d 25 (ms_1 sd)) (ms_d 25 (ms_1 (ms_1 sd))) 1 (ms_d 11 (ms_1 (ms_1 (ms_1 sd)))) v1 v2 v3 v4 v6 (ms_1 (ms_1 (ms_1 sd))) cl co zz (v + 1) (by omega) (by omega)
      refine ⟨x1, x2, x3, x4, x5, x6, ?_⟩
      rw [it, e3, ih]
      rw [ms_acc_s, ms_f_eq, ms_g_t hh]
    · have it := lm_it0n (n - 586) ns a g la w s w1 w2 u1 u2 u3 u4 u6 t1 b1 b2 b3 b4 b5 v1 v2 v3 v4 v6 sd cl co (nI (j + (k + 1))) zz v (nI j) (nI_ge (by omega) (by omega)) hh
      rw [f0, e2, Int32.add_zero] at it
      obtain ⟨x1, x2, x3, x4, x5, x6, ih⟩ := IH (j + 1) (n - 586 + 535) ns a g la w s w1 w2 u1 u2 u3 u4 u6 t1 (t1 + (nI 12)) (ms_d 25 (ms_1 sd)) (ms_d 25 (ms_1 (ms_1 sd))) 1 (ms_d 11 (ms_1 (ms_1 (ms_1 sd)))) v1 v2 v3 v4 v6 (ms_1 (ms_1 (ms_1 sd))) cl co zz v (by omega) (by omega)
      refine ⟨x1, x2, x3, x4, x5, x6, ?_⟩
      rw [it, e3, ih]
      rw [ms_acc_s, ms_f_eq, ms_g_f hh]
theorem lm_all1 (k : Nat) : ∀ (j n : Nat) (ns a g la w s w1 w2 u1 u2 u3 u4 u6 t1 b1 b2 b3 b4 b5 v1 v2 v3 v4 v6 sd : Int32) (cl co : List Int32) (zz v : Int32), j + k ≤ 20 → 52 * k + 586 ≤ n → ∃ b1' b2' b3' b4' b5' sd' : Int32, mm_x none n 194 52 [some (.ref 138), some (.int (nI (j + k))), some (.int zz), some (.int 1), some (.int v), some (.int (nI j))] [] (mm_MC ns a g la w s w1 w2 u1 u2 u3 u4 u6 t1 b1 b2 b3 b4 b5 v1 v2 v3 v4 v6 sd cl co) 0 0 = some (some (.int (v)), (mm_MC ns a g la w s w1 w2 u1 u2 u3 u4 u6 t1 b1' b2' b3' b4' b5' v1 v2 v3 v4 v6 sd' cl co)) := by
  induction k with
  | zero =>
    intro j n ns a g la w s w1 w2 u1 u2 u3 u4 u6 t1 b1 b2 b3 b4 b5 v1 v2 v3 v4 v6 sd cl co zz v hj hn
    refine ⟨b1, b2, b3, b4, b5, sd, ?_⟩
    have f0 : n - 586 + 586 = n := by omega
    have ex := lm_ex1 (n - 586) ns a g la w s w1 w2 u1 u2 u3 u4 u6 t1 b1 b2 b3 b4 b5 v1 v2 v3 v4 v6 sd cl co (nI (j + 0)) zz v (nI j) (nI_le (Nat.le_refl j) (by omega))
    rw [f0] at ex
    try rw [ms_acc_0]
    exact ex
  | succ k IH =>
    intro j n ns a g la w s w1 w2 u1 u2 u3 u4 u6 t1 b1 b2 b3 b4 b5 v1 v2 v3 v4 v6 sd cl co zz v hj hn
    have f0 : n - 586 + 586 = n := by omega
    have e2 : nI j + 1 = nI (j + 1) := nI_1 j
    have e3 : j + (k + 1) = (j + 1) + k := by omega
    have it := lm_it1x (n - 586) ns a g la w s w1 w2 u1 u2 u3 u4 u6 t1 b1 b2 b3 b4 b5 v1 v2 v3 v4 v6 sd cl co (nI (j + (k + 1))) zz v (nI j) (nI_ge (by omega) (by omega))
    rw [f0, e2, Int32.add_zero] at it
    obtain ⟨x1, x2, x3, x4, x5, x6, ih⟩ := IH (j + 1) (n - 586 + 537) ns a g la w s w1 w2 u1 u2 u3 u4 u6 t1 (t1 + (nI 12)) (ms_d 25 (ms_1 sd)) (ms_d 25 (ms_1 (ms_1 sd))) 1 (ms_d 11 (ms_1 (ms_1 (ms_1 sd)))) v1 v2 v3 v4 v6 (ms_1 (ms_1 (ms_1 sd))) cl co zz v (by omega) (by omega)
    refine ⟨x1, x2, x3, x4, x5, x6, ?_⟩
    rw [it, e3, ih]
set_option maxRecDepth 100000 in
theorem lc_st0 (n : Nat)  (x zz : Int32) (hxl : 1 ≤ x.toInt) (hxu : x.toInt ≤ 20) : mm_x none (n + 19) 109 0 [some (.ref 100), some (.int x), some (.int zz), some (.int 0), none, none, none, none, none] [] (mm_MC 0 0 24 1 5 0 0 0 0 0 0 0 0 0 0 0 0 0 0 0 0 0 0 0 0 ([0, 0, 0, 0, 0, 0, 0, 0, 0, 0, 0, 0, 0, 0, 0, 0, 0, 0, 0, 0, 0, 0, 0, 0, 0]) ([0, 0, 0, 0, 0, 0, 0, 0, 0, 0, 0, 0, 0, 0, 0, 0, 0, 0, 0, 0, 0, 0, 0, 0, 0])) 0 0 = mm_x none (n + 0) 109 53 [some (.ref 100), some (.int x), some (.int zz), some (.int 0), some (.int 0), some (.int 0), some (.int zz), some (.int 0), none] [] (mm_MC 0 0 24 1 5 0 0 0 0 0 0 0 0 0 0 0 0 0 0 0 0 0 0 0 0 ([0, 0, 0, 0, 0, 0, 0, 0, 0, 0, 0, 0, 0, 0, 0, 0, 0, 0, 0, 0, 0, 0, 0, 0, 0]) ([0, 0, 0, 0, 0, 0, 0, 0, 0, 0, 0, 0, 0, 0, 0, 0, 0, 0, 0, 0, 0, 0, 0, 0, 0])) 0 0 := by
  refine mm_seg (n := n + 17) 2 (z1 := 109) (pc1 := 2) (ls1 := [some (.ref 100), some (.int x), some (.int zz), some (.int 0), none, none, none, none, none]) (st1 := [.int 1, .int x]) (M1 := (mm_MC 0 0 24 1 5 0 0 0 0 0 0 0 0 0 0 0 0 0 0 0 0 0 0 0 0 ([0, 0, 0, 0, 0, 0, 0, 0, 0, 0, 0, 0, 0, 0, 0, 0, 0, 0, 0, 0, 0, 0, 0, 0, 0]) ([0, 0, 0, 0, 0, 0, 0, 0, 0, 0, 0, 0, 0, 0, 0, 0, 0, 0, 0, 0, 0, 0, 0, 0, 0]))) (bc1 := 0) (bs1 := 0) (fun f => rfl) ?_
  refine mm_c_cmp_ge_t rfl (mz_ge_t 1 (by decide) (by omega)) ?_
  refine mm_seg (n := n + 14) 2 (z1 := 109) (pc1 := 15) (ls1 := [some (.ref 100), some (.int x), some (.int zz), some (.int 0), none, none, none, none, none]) (st1 := [.int 20, .int x]) (M1 := (mm_MC 0 0 24 1 5 0 0 0 0 0 0 0 0 0 0 0 0 0 0 0 0 0 0 0 0 ([0, 0, 0, 0, 0, 0, 0, 0, 0, 0, 0, 0, 0, 0, 0, 0, 0, 0, 0, 0, 0, 0, 0, 0, 0]) ([0, 0, 0, 0, 0, 0, 0, 0, 0, 0, 0, 0, 0, 0, 0, 0, 0, 0, 0, 0, 0, 0, 0, 0, 0]))) (bc1 := 0) (bs1 := 0) (fun f => rfl) ?_
  refine mm_c_cmp_le_t rfl (mz_le_t 20 (by decide) (by omega)) ?_
  refine mm_seg (n := n + 0) 13 (z1 := 109) (pc1 := 53) (ls1 := [some (.ref 100), some (.int x), some (.int zz), some (.int 0), some (.int 0), some (.int 0), some (.int zz), some (.int 0), none]) (st1 := []) (M1 := (mm_MC 0 0 24 1 5 0 0 0 0 0 0 0 0 0 0 0 0 0 0 0 0 0 0 0 0 ([0, 0, 0, 0, 0, 0, 0, 0, 0, 0, 0, 0, 0, 0, 0, 0, 0, 0, 0, 0, 0, 0, 0, 0, 0]) ([0, 0, 0, 0, 0, 0, 0, 0, 0, 0, 0, 0, 0, 0, 0, 0, 0, 0, 0, 0, 0, 0, 0, 0, 0]))) (bc1 := 0) (bs1 := 0) (fun f => rfl) ?_
  rfl
set_option maxRecDepth 100000 in
theorem lm_st0 (n : Nat)  (x zz : Int32) (hxl : 1 ≤ x.toInt) (hxu : x.toInt ≤ 20) (a' g' la' w' s' : Int32) : mm_x none (n + 20) 194 0 [some (.ref 138), some (.int x), some (.int zz), some (.int 0), none, none] [] (mm_MC 0 a' g' la' w' s' 0 0 0 0 0 0 0 0 0 0 0 0 0 0 0 0 0 0 0 ([0, 0, 0, 0, 0, 0, 0, 0, 0, 0, 0, 0, 0, 0, 0, 0, 0, 0, 0, 0, 0, 0, 0, 0, 0]) ([0, 0, 0, 0, 0, 0, 0, 0, 0, 0, 0, 0, 0, 0, 0, 0, 0, 0, 0, 0, 0, 0, 0, 0, 0])) 0 0 = mm_x none (n + 2) 194 52 [some (.ref 138), some (.int x), some (.int zz), some (.int 0), some (.int 0), some (.int 0)] [] (mm_MC 0 a' g' la' w' s' 0 0 0 0 0 0 0 0 0 0 0 0 0 0 0 0 0 0 zz ([0, 0, 0, 0, 0, 0, 0, 0, 0, 0, 0, 0, 0, 0, 0, 0, 0, 0, 0, 0, 0, 0, 0, 0, 0]) ([0, 0, 0, 0, 0, 0, 0, 0, 0, 0, 0, 0, 0, 0, 0, 0, 0, 0, 0, 0, 0, 0, 0, 0, 0])) 0 0 := by
  refine mm_seg (n := n + 18) 2 (z1 := 194) (pc1 := 2) (ls1 := [some (.ref 138), some (.int x), some (.int zz), some (.int 0), none, none]) (st1 := [.int 1, .int x]) (M1 := (mm_MC 0 a' g' la' w' s' 0 0 0 0 0 0 0 0 0 0 0 0 0 0 0 0 0 0 0 ([0, 0, 0, 0, 0, 0, 0, 0, 0, 0, 0, 0, 0, 0, 0, 0, 0, 0, 0, 0, 0, 0, 0, 0, 0]) ([0, 0, 0, 0, 0, 0, 0, 0, 0, 0, 0, 0, 0, 0, 0, 0, 0, 0, 0, 0, 0, 0, 0, 0, 0]))) (bc1 := 0) (bs1 := 0) (fun f => rfl) ?_
  refine mm_c_cmp_ge_t rfl (mz_ge_t 1 (by decide) (by omega)) ?_
  refine mm_seg (n := n + 15) 2 (z1 := 194) (pc1 := 15) (ls1 := [some (.ref 138), some (.int x), some (.int zz), some (.int 0), none, none]) (st1 := [.int 20, .int x]) (M1 := (mm_MC 0 a' g' la' w' s' 0 0 0 0 0 0 0 0 0 0 0 0 0 0 0 0 0 0 0 ([0, 0, 0, 0, 0, 0, 0, 0, 0, 0, 0, 0, 0, 0, 0, 0, 0, 0, 0, 0, 0, 0, 0, 0, 0]) ([0, 0, 0, 0, 0, 0, 0, 0, 0, 0, 0, 0, 0, 0, 0, 0, 0, 0, 0, 0, 0, 0, 0, 0, 0]))) (bc1 := 0) (bs1 := 0) (fun f => rfl) ?_
  refine mm_c_cmp_le_t rfl (mz_le_t 20 (by decide) (by omega)) ?_
  refine mm_seg (n := n + 11) 3 (z1 := 194) (pc1 := 28) (ls1 := [some (.ref 138), some (.int x), some (.int zz), some (.int 0), none, none]) (st1 := [.int 1, .int 0, .int 0]) (M1 := (mm_MC 0 a' g' la' w' s' 0 0 0 0 0 0 0 0 0 0 0 0 0 0 0 0 0 0 0 ([0, 0, 0, 0, 0, 0, 0, 0, 0, 0, 0, 0, 0, 0, 0, 0, 0, 0, 0, 0, 0, 0, 0, 0, 0]) ([0, 0, 0, 0, 0, 0, 0, 0, 0, 0, 0, 0, 0, 0, 0, 0, 0, 0, 0, 0, 0, 0, 0, 0, 0]))) (bc1 := 0) (bs1 := 0) (fun f => rfl) ?_
  refine mm_c_inv (y := 122) (y0 := 31) (bc1 := 0) (bs1 := 0) (bc2 := 0) (bs2 := 0) (L := [some (.int 0), some (.int 0), some (.int 1)]) (rest := []) (r := some (.int 1)) (M1 := (mm_MC 0 a' g' la' w' s' 0 0 0 0 0 0 0 0 0 0 0 0 0 0 0 0 0 0 0 ([0, 0, 0, 0, 0, 0, 0, 0, 0, 0, 0, 0, 0, 0, 0, 0, 0, 0, 0, 0, 0, 0, 0, 0, 0]) ([0, 0, 0, 0, 0, 0, 0, 0, 0, 0, 0, 0, 0, 0, 0, 0, 0, 0, 0, 0, 0, 0, 0, 0, 0]))) (fun f => rfl) (rfl) ?_
  refine mm_seg (n := n + 2) 8 (z1 := 194) (pc1 := 52) (ls1 := [some (.ref 138), some (.int x), some (.int zz), some (.int 0), some (.int 0), some (.int 0)]) (st1 := []) (M1 := (mm_MC 0 a' g' la' w' s' 0 0 0 0 0 0 0 0 0 0 0 0 0 0 0 0 0 0 zz ([0, 0, 0, 0, 0, 0, 0, 0, 0, 0, 0, 0, 0, 0, 0, 0, 0, 0, 0, 0, 0, 0, 0, 0, 0]) ([0, 0, 0, 0, 0, 0, 0, 0, 0, 0, 0, 0, 0, 0, 0, 0, 0, 0, 0, 0, 0, 0, 0, 0, 0]))) (bc1 := 0) (bs1 := 0) (fun f => rfl) ?_
  rfl
set_option maxRecDepth 100000 in
theorem lc_st1 (n : Nat)  (x zz : Int32) (hxl : 1 ≤ x.toInt) (hxu : x.toInt ≤ 20) : mm_x none (n + 19) 109 0 [some (.ref 100), some (.int x), some (.int zz), some (.int 1), none, none, none, none, none] [] (mm_MC 0 0 24 1 5 0 0 0 0 0 0 0 0 0 0 0 0 0 0 0 0 0 0 0 0 ([0, 0, 0, 0, 0, 0, 0, 0, 0, 0, 0, 0, 0, 0, 0, 0, 0, 0, 0, 0, 0, 0, 0, 0, 0]) ([0, 0, 0, 0, 0, 0, 0, 0, 0, 0, 0, 0, 0, 0, 0, 0, 0, 0, 0, 0, 0, 0, 0, 0, 0])) 0 0 = mm_x none (n + 0) 109 53 [some (.ref 100), some (.int x), some (.int zz), some (.int 1), some (.int 0), some (.int 0), some (.int zz), some (.int 0), none] [] (mm_MC 0 0 24 1 5 0 0 0 0 0 0 0 0 0 0 0 0 0 0 0 0 0 0 0 0 ([0, 0, 0, 0, 0, 0, 0, 0, 0, 0, 0, 0, 0, 0, 0, 0, 0, 0, 0, 0, 0, 0, 0, 0, 0]) ([0, 0, 0, 0, 0, 0, 0, 0, 0, 0, 0, 0, 0, 0, 0, 0, 0, 0, 0, 0, 0, 0, 0, 0, 0])) 0 0 := by
  refine mm_seg (n := n + 17) 2 (z1 := 109) (pc1 := 2) (ls1 := [some (.ref 100), some (.int x), some (.int zz), some (.int 1), none, none, none, none, none]) (st1 := [.int 1, .int x]) (M1 := (mm_MC 0 0 24 1 5 0 0 0 0 0 0 0 0 0 0 0 0 0 0 0 0 0 0 0 0 ([0, 0, 0, 0, 0, 0, 0, 0, 0, 0, 0, 0, 0, 0, 0, 0, 0, 0, 0, 0, 0, 0, 0, 0, 0]) ([0, 0, 0, 0, 0, 0, 0, 0, 0, 0, 0, 0, 0, 0, 0, 0, 0, 0, 0, 0, 0, 0, 0, 0, 0]))) (bc1 := 0) (bs1 := 0) (fun f => rfl) ?_
  refine mm_c_cmp_ge_t rfl (mz_ge_t 1 (by decide) (by omega)) ?_
  refine mm_seg (n := n + 14) 2 (z1 := 109) (pc1 := 15) (ls1 := [some (.ref 100), some (.int x), some (.int zz), some (.int 1), none, none, none, none, none]) (st1 := [.int 20, .int x]) (M1 := (mm_MC 0 0 24 1 5 0 0 0 0 0 0 0 0 0 0 0 0 0 0 0 0 0 0 0 0 ([0, 0, 0, 0, 0, 0, 0, 0, 0, 0, 0, 0, 0, 0, 0, 0, 0, 0, 0, 0, 0, 0, 0, 0, 0]) ([0, 0, 0, 0, 0, 0, 0, 0, 0, 0, 0, 0, 0, 0, 0, 0, 0, 0, 0, 0, 0, 0, 0, 0, 0]))) (bc1 := 0) (bs1 := 0) (fun f => rfl) ?_
  refine mm_c_cmp_le_t rfl (mz_le_t 20 (by decide) (by omega)) ?_
  refine mm_seg (n := n + 0) 13 (z1 := 109) (pc1 := 53) (ls1 := [some (.ref 100), some (.int x), some (.int zz), some (.int 1), some (.int 0), some (.int 0), some (.int zz), some (.int 0), none]) (st1 := []) (M1 := (mm_MC 0 0 24 1 5 0 0 0 0 0 0 0 0 0 0 0 0 0 0 0 0 0 0 0 0 ([0, 0, 0, 0, 0, 0, 0, 0, 0, 0, 0, 0, 0, 0, 0, 0, 0, 0, 0, 0, 0, 0, 0, 0, 0]) ([0, 0, 0, 0, 0, 0, 0, 0, 0, 0, 0, 0, 0, 0, 0, 0, 0, 0, 0, 0, 0, 0, 0, 0, 0]))) (bc1 := 0) (bs1 := 0) (fun f => rfl) ?_
  rfl
set_option maxRecDepth 100000 in
theorem lm_st1 (n : Nat)  (x zz : Int32) (hxl : 1 ≤ x.toInt) (hxu : x.toInt ≤ 20) (a' g' la' w' s' : Int32) : mm_x none (n + 20) 194 0 [some (.ref 138), some (.int x), some (.int zz), some (.int 1), none, none] [] (mm_MC 0 a' g' la' w' s' 0 0 0 0 0 0 0 0 0 0 0 0 0 0 0 0 0 0 0 ([0, 0, 0, 0, 0, 0, 0, 0, 0, 0, 0, 0, 0, 0, 0, 0, 0, 0, 0, 0, 0, 0, 0, 0, 0]) ([0, 0, 0, 0, 0, 0, 0, 0, 0, 0, 0, 0, 0, 0, 0, 0, 0, 0, 0, 0, 0, 0, 0, 0, 0])) 0 0 = mm_x none (n + 2) 194 52 [some (.ref 138), some (.int x), some (.int zz), some (.int 1), some (.int 0), some (.int 0)] [] (mm_MC 0 a' g' la' w' s' 0 0 0 0 0 0 0 0 0 0 0 0 0 0 0 0 0 0 zz ([0, 0, 0, 0, 0, 0, 0, 0, 0, 0, 0, 0, 0, 0, 0, 0, 0, 0, 0, 0, 0, 0, 0, 0, 0]) ([0, 0, 0, 0, 0, 0, 0, 0, 0, 0, 0, 0, 0, 0, 0, 0, 0, 0, 0, 0, 0, 0, 0, 0, 0])) 0 0 := by
  refine mm_seg (n := n + 18) 2 (z1 := 194) (pc1 := 2) (ls1 := [some (.ref 138), some (.int x), some (.int zz), some (.int 1), none, none]) (st1 := [.int 1, .int x]) (M1 := (mm_MC 0 a' g' la' w' s' 0 0 0 0 0 0 0 0 0 0 0 0 0 0 0 0 0 0 0 ([0, 0, 0, 0, 0, 0, 0, 0, 0, 0, 0, 0, 0, 0, 0, 0, 0, 0, 0, 0, 0, 0, 0, 0, 0]) ([0, 0, 0, 0, 0, 0, 0, 0, 0, 0, 0, 0, 0, 0, 0, 0, 0, 0, 0, 0, 0, 0, 0, 0, 0]))) (bc1 := 0) (bs1 := 0) (fun f => rfl) ?_
  refine mm_c_cmp_ge_t rfl (mz_ge_t 1 (by decide) (by omega)) ?_
  refine mm_seg (n := n + 15) 2 (z1 := 194) (pc1 := 15) (ls1 := [some (.ref 138), some (.int x), some (.int zz), some (.int 1), none, none]) (st1 := [.int 20, .int x]) (M1 := (mm_MC 0 a' g' la' w' s' 0 0 0 0 0 0 0 0 0 0 0 0 0 0 0 0 0 0 0 ([0, 0, 0, 0, 0, 0, 0, 0, 0, 0, 0, 0, 0, 0, 0, 0, 0, 0, 0, 0, 0, 0, 0, 0, 0]) ([0, 0, 0, 0, 0, 0, 0, 0, 0, 0, 0, 0, 0, 0, 0, 0, 0, 0, 0, 0, 0, 0, 0, 0, 0]))) (bc1 := 0) (bs1 := 0) (fun f => rfl) ?_
  refine mm_c_cmp_le_t rfl (mz_le_t 20 (by decide) (by omega)) ?_
  refine mm_seg (n := n + 11) 3 (z1 := 194) (pc1 := 28) (ls1 := [some (.ref 138), some (.int x), some (.int zz), some (.int 1), none, none]) (st1 := [.int 1, .int 0, .int 1]) (M1 := (mm_MC 0 a' g' la' w' s' 0 0 0 0 0 0 0 0 0 0 0 0 0 0 0 0 0 0 0 ([0, 0, 0, 0, 0, 0, 0, 0, 0, 0, 0, 0, 0, 0, 0, 0, 0, 0, 0, 0, 0, 0, 0, 0, 0]) ([0, 0, 0, 0, 0, 0, 0, 0, 0, 0, 0, 0, 0, 0, 0, 0, 0, 0, 0, 0, 0, 0, 0, 0, 0]))) (bc1 := 0) (bs1 := 0) (fun f => rfl) ?_
  refine mm_c_inv (y := 122) (y0 := 31) (bc1 := 0) (bs1 := 0) (bc2 := 0) (bs2 := 0) (L := [some (.int 1), some (.int 0), some (.int 1)]) (rest := []) (r := some (.int 1)) (M1 := (mm_MC 0 a' g' la' w' s' 0 0 0 0 0 0 0 0 0 0 0 0 0 0 0 0 0 0 0 ([0, 0, 0, 0, 0, 0, 0, 0, 0, 0, 0, 0, 0, 0, 0, 0, 0, 0, 0, 0, 0, 0, 0, 0, 0]) ([0, 0, 0, 0, 0, 0, 0, 0, 0, 0, 0, 0, 0, 0, 0, 0, 0, 0, 0, 0, 0, 0, 0, 0, 0]))) (fun f => rfl) (rfl) ?_
  refine mm_seg (n := n + 2) 8 (z1 := 194) (pc1 := 52) (ls1 := [some (.ref 138), some (.int x), some (.int zz), some (.int 1), some (.int 0), some (.int 0)]) (st1 := []) (M1 := (mm_MC 0 a' g' la' w' s' 0 0 0 0 0 0 0 0 0 0 0 0 0 0 0 0 0 0 zz ([0, 0, 0, 0, 0, 0, 0, 0, 0, 0, 0, 0, 0, 0, 0, 0, 0, 0, 0, 0, 0, 0, 0, 0, 0]) ([0, 0, 0, 0, 0, 0, 0, 0, 0, 0, 0, 0, 0, 0, 0, 0, 0, 0, 0, 0, 0, 0, 0, 0, 0]))) (bc1 := 0) (bs1 := 0) (fun f => rfl) ?_
  rfl
theorem oe_lots_10 (k : Nat) (hk : k + 1 ≤ 20) (zz : Int32) : mm_eqI 109 194 [some (.ref 100), some (.int (nI (k + 1))), some (.int zz), some (.int 0), none, none, none, none, none] [some (.ref 138), some (.int (nI (k + 1))), some (.int zz), some (.int 0), none, none] := by
  have hxl : 1 ≤ (nI (k + 1)).toInt := by rw [nI_toInt (by omega)]; omega
  have hxu : (nI (k + 1)).toInt ≤ 20 := by rw [nI_toInt (by omega)]; omega
  obtain ⟨x1, x2, x3, x4, x5, h1⟩ := lc_first k 2981 0 0 24 1 5 0 0 0 0 0 0 0 0 0 0 0 0 0 0 0 0 0 0 0 0 ([0, 0, 0, 0, 0, 0, 0, 0, 0, 0, 0, 0, 0, 0, 0, 0, 0, 0, 0, 0, 0, 0, 0, 0, 0]) ([0, 0, 0, 0, 0, 0, 0, 0, 0, 0, 0, 0, 0, 0, 0, 0, 0, 0, 0, 0, 0, 0, 0, 0, 0]) zz 0 0 0 zz hk (by omega)
  obtain ⟨y1, y2, y3, y4, y5, y6, h2⟩ := lm_all0 (k + 1) 0 2982 0 x1 x2 x3 x4 x5 0 0 0 0 0 0 0 0 0 0 0 0 0 0 0 0 0 0 zz ([0, 0, 0, 0, 0, 0, 0, 0, 0, 0, 0, 0, 0, 0, 0, 0, 0, 0, 0, 0, 0, 0, 0, 0, 0]) ([0, 0, 0, 0, 0, 0, 0, 0, 0, 0, 0, 0, 0, 0, 0, 0, 0, 0, 0, 0, 0, 0, 0, 0, 0]) zz 0 (by omega) (by omega)
  rw [Nat.zero_add] at h2
  rw [if_pos rfl] at h1
  refine ⟨3000, ms_acc ms_f ms_g (k + 1) zz 0, _, _, (lc_st0 2981 (nI (k + 1)) zz hxl hxu).trans h1, (lm_st0 2980 (nI (k + 1)) zz hxl hxu x1 x2 x3 x4 x5).trans h2⟩
theorem oe_lots_11 (k : Nat) (hk : k + 1 ≤ 20) (zz : Int32) : mm_eqI 109 194 [some (.ref 100), some (.int (nI (k + 1))), some (.int zz), some (.int 1), none, none, none, none, none] [some (.ref 138), some (.int (nI (k + 1))), some (.int zz), some (.int 1), none, none] := by
  have hxl : 1 ≤ (nI (k + 1)).toInt := by rw [nI_toInt (by omega)]; omega
  have hxu : (nI (k + 1)).toInt ≤ 20 := by rw [nI_toInt (by omega)]; omega
  obtain ⟨x1, x2, x3, x4, x5, h1⟩ := lc_first k 2981 0 0 24 1 5 0 0 0 0 0 0 0 0 0 0 0 0 0 0 0 0 0 0 0 0 ([0, 0, 0, 0, 0, 0, 0, 0, 0, 0, 0, 0, 0, 0, 0, 0, 0, 0, 0, 0, 0, 0, 0, 0, 0]) ([0, 0, 0, 0, 0, 0, 0, 0, 0, 0, 0, 0, 0, 0, 0, 0, 0, 0, 0, 0, 0, 0, 0, 0, 0]) zz 1 0 0 zz hk (by omega)
  obtain ⟨y1, y2, y3, y4, y5, y6, h2⟩ := lm_all1 (k + 1) 0 2982 0 x1 x2 x3 x4 x5 0 0 0 0 0 0 0 0 0 0 0 0 0 0 0 0 0 0 zz ([0, 0, 0, 0, 0, 0, 0, 0, 0, 0, 0, 0, 0, 0, 0, 0, 0, 0, 0, 0, 0, 0, 0, 0, 0]) ([0, 0, 0, 0, 0, 0, 0, 0, 0, 0, 0, 0, 0, 0, 0, 0, 0, 0, 0, 0, 0, 0, 0, 0, 0]) zz 0 (by omega) (by omega)
  rw [Nat.zero_add] at h2
  rw [if_neg (by decide)] at h1
  refine ⟨3000, 0, _, _, (lc_st1 2981 (nI (k + 1)) zz hxl hxu).trans h1, (lm_st1 2980 (nI (k + 1)) zz hxl hxu x1 x2 x3 x4 x5).trans h2⟩
