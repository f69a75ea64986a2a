/-! ===== steps by definition: a branch whose way is known, a call whose answer is known ===== -/
section MMC
variable {X : Option (List Int32)} {n z pc t tt bc bs : Nat} {off : Int} {ls : mm_L} {r : List Value} {M : mm_H} {x y : Int32} {R : mm_O}
theorem mm_c_cmp_eq_t (hc : mm_code z pc = some (.if_icmp .eq off, [(t, tt)])) (hq : x = y) (h : mm_x X n z t ls r M bc bs = R) : mm_x X (n + 1) z pc ls (.int y :: .int x :: r) M bc bs = R := by
  rw [mm_xs]
  unfold mm_b
  rw [hc]
  show (if x = y then _ else _) = R
  rw [if_pos hq]
  exact h
theorem mm_c_if_eq_t (hc : mm_code z pc = some (.ifCond .eq off, [(t, tt)])) (hq : x = 0) (h : mm_x X n z t ls r M bc bs = R) : mm_x X (n + 1) z pc ls (.int x :: r) M bc bs = R := by
  rw [mm_xs]
  unfold mm_b
  rw [hc]
  show (if x = 0 then _ else _) = R
  rw [if_pos hq]
  exact h
theorem mm_c_cmp_eq_f (hc : mm_code z pc = some (.if_icmp .eq off, [(t, tt)])) (hq : ¬ x = y) (h : mm_x X n z (pc + 3) ls r M bc bs = R) : mm_x X (n + 1) z pc ls (.int y :: .int x :: r) M bc bs = R := by
  rw [mm_xs]
  unfold mm_b
  rw [hc]
  show (if x = y then _ else _) = R
  rw [if_neg hq]
  exact h
theorem mm_c_if_eq_f (hc : mm_code z pc = some (.ifCond .eq off, [(t, tt)])) (hq : ¬ x = 0) (h : mm_x X n z (pc + 3) ls r M bc bs = R) : mm_x X (n + 1) z pc ls (.int x :: r) M bc bs = R := by
  rw [mm_xs]
  unfold mm_b
  rw [hc]
  show (if x = 0 then _ else _) = R
  rw [if_neg hq]
  exact h
theorem mm_c_cmp_ne_t (hc : mm_code z pc = some (.if_icmp .ne off, [(t, tt)])) (hq : x = y) (h : mm_x X n z (pc + 3) ls r M bc bs = R) : mm_x X (n + 1) z pc ls (.int y :: .int x :: r) M bc bs = R := by
  rw [mm_xs]
  unfold mm_b
  rw [hc]
  show (if x = y then _ else _) = R
  rw [if_pos hq]
  exact h
theorem mm_c_if_ne_t (hc : mm_code z pc = some (.ifCond .ne off, [(t, tt)])) (hq : x = 0) (h : mm_x X n z (pc + 3) ls r M bc bs = R) : mm_x X (n + 1) z pc ls (.int x :: r) M bc bs = R := by
  rw [mm_xs]
  unfold mm_b
  rw [hc]
  show (if x = 0 then _ else _) = R
  rw [if_pos hq]
  exact h
theorem mm_c_cmp_ne_f (hc : mm_code z pc = some (.if_icmp .ne off, [(t, tt)])) (hq : ¬ x = y) (h : mm_x X n z t ls r M bc bs = R) : mm_x X (n + 1) z pc ls (.int y :: .int x :: r) M bc bs = R := by
  rw [mm_xs]
  unfold mm_b
  rw [hc]
  show (if x = y then _ else _) = R
  rw [if_neg hq]
  exact h
theorem mm_c_if_ne_f (hc : mm_code z pc = some (.ifCond .ne off, [(t, tt)])) (hq : ¬ x = 0) (h : mm_x X n z t ls r M bc bs = R) : mm_x X (n + 1) z pc ls (.int x :: r) M bc bs = R := by
  rw [mm_xs]
  unfold mm_b
  rw [hc]
  show (if x = 0 then _ else _) = R
  rw [if_neg hq]
  exact h
theorem mm_c_cmp_lt_t (hc : mm_code z pc = some (.if_icmp .lt off, [(t, tt)])) (hq : x < y) (h : mm_x X n z t ls r M bc bs = R) : mm_x X (n + 1) z pc ls (.int y :: .int x :: r) M bc bs = R := by
  rw [mm_xs]
  unfold mm_b
  rw [hc]
  show (if x < y then _ else _) = R
  rw [if_pos hq]
  exact h
theorem mm_c_if_lt_t (hc : mm_code z pc = some (.ifCond .lt off, [(t, tt)])) (hq : x < 0) (h : mm_x X n z t ls r M bc bs = R) : mm_x X (n + 1) z pc ls (.int x :: r) M bc bs = R := by
  rw [mm_xs]
  unfold mm_b
  rw [hc]
  show (if x < 0 then _ else _) = R
  rw [if_pos hq]
  exact h
theorem mm_c_cmp_lt_f (hc : mm_code z pc = some (.if_icmp .lt off, [(t, tt)])) (hq : ¬ x < y) (h : mm_x X n z (pc + 3) ls r M bc bs = R) : mm_x X (n + 1) z pc ls (.int y :: .int x :: r) M bc bs = R := by
  rw [mm_xs]
  unfold mm_b
  rw [hc]
  show (if x < y then _ else _) = R
  rw [if_neg hq]
  exact h
theorem mm_c_if_lt_f (hc : mm_code z pc = some (.ifCond .lt off, [(t, tt)])) (hq : ¬ x < 0) (h : mm_x X n z (pc + 3) ls r M bc bs = R) : mm_x X (n + 1) z pc ls (.int x :: r) M bc bs = R := by
  rw [mm_xs]
  unfold mm_b
  rw [hc]
  show (if x < 0 then _ else _) = R
  rw [if_neg hq]
  exact h
theorem mm_c_cmp_ge_t (hc : mm_code z pc = some (.if_icmp .ge off, [(t, tt)])) (hq : y ≤ x) (h : mm_x X n z t ls r M bc bs = R) : mm_x X (n + 1) z pc ls (.int y :: .int x :: r) M bc bs = R := by
  rw [mm_xs]
  unfold mm_b
  rw [hc]
  show (if y ≤ x then _ else _) = R
  rw [if_pos hq]
  exact h
theorem mm_c_if_ge_t (hc : mm_code z pc = some (.ifCond .ge off, [(t, tt)])) (hq : 0 ≤ x) (h : mm_x X n z t ls r M bc bs = R) : mm_x X (n + 1) z pc ls (.int x :: r) M bc bs = R := by
  rw [mm_xs]
  unfold mm_b
  rw [hc]
  show (if 0 ≤ x then _ else _) = R
  rw [if_pos hq]
  exact h
theorem mm_c_cmp_ge_f (hc : mm_code z pc = some (.if_icmp .ge off, [(t, tt)])) (hq : ¬ y ≤ x) (h : mm_x X n z (pc + 3) ls r M bc bs = R) : mm_x X (n + 1) z pc ls (.int y :: .int x :: r) M bc bs = R := by
  rw [mm_xs]
  unfold mm_b
  rw [hc]
  show (if y ≤ x then _ else _) = R
  rw [if_neg hq]
  exact h
theorem mm_c_if_ge_f (hc : mm_code z pc = some (.ifCond .ge off, [(t, tt)])) (hq : ¬ 0 ≤ x) (h : mm_x X n z (pc + 3) ls r M bc bs = R) : mm_x X (n + 1) z pc ls (.int x :: r) M bc bs = R := by
  rw [mm_xs]
  unfold mm_b
  rw [hc]
  show (if 0 ≤ x then _ else _) = R
  rw [if_neg hq]
  exact h
theorem mm_c_cmp_gt_t (hc : mm_code z pc = some (.if_icmp .gt off, [(t, tt)])) (hq : y < x) (h : mm_x X n z t ls r M bc bs = R) : mm_x X (n + 1) z pc ls (.int y :: .int x :: r) M bc bs = R := by
  rw [mm_xs]
  unfold mm_b
  rw [hc]
  show (if y < x then _ else _) = R
  rw [if_pos hq]
  exact h
theorem mm_c_if_gt_t (hc : mm_code z pc = some (.ifCond .gt off, [(t, tt)])) (hq : 0 < x) (h : mm_x X n z t ls r M bc bs = R) : mm_x X (n + 1) z pc ls (.int x :: r) M bc bs = R := by
  rw [mm_xs]
  unfold mm_b
  rw [hc]
  show (if 0 < x then _ else _) = R
  rw [if_pos hq]
  exact h
theorem mm_c_cmp_gt_f (hc : mm_code z pc = some (.if_icmp .gt off, [(t, tt)])) (hq : ¬ y < x) (h : mm_x X n z (pc + 3) ls r M bc bs = R) : mm_x X (n + 1) z pc ls (.int y :: .int x :: r) M bc bs = R := by
  rw [mm_xs]
  unfold mm_b
  rw [hc]
  show (if y < x then _ else _) = R
  rw [if_neg hq]
  exact h
theorem mm_c_if_gt_f (hc : mm_code z pc = some (.ifCond .gt off, [(t, tt)])) (hq : ¬ 0 < x) (h : mm_x X n z (pc + 3) ls r M bc bs = R) : mm_x X (n + 1) z pc ls (.int x :: r) M bc bs = R := by
  rw [mm_xs]
  unfold mm_b
  rw [hc]
  show (if 0 < x then _ else _) = R
  rw [if_neg hq]
  exact h
theorem mm_c_cmp_le_t (hc : mm_code z pc = some (.if_icmp .le off, [(t, tt)])) (hq : x ≤ y) (h : mm_x X n z t ls r M bc bs = R) : mm_x X (n + 1) z pc ls (.int y :: .int x :: r) M bc bs = R := by
  rw [mm_xs]
  unfold mm_b
  rw [hc]
  show (if x ≤ y then _ else _) = R
  rw [if_pos hq]
  exact h
theorem mm_c_if_le_t (hc : mm_code z pc = some (.ifCond .le off, [(t, tt)])) (hq : x ≤ 0) (h : mm_x X n z t ls r M bc bs = R) : mm_x X (n + 1) z pc ls (.int x :: r) M bc bs = R := by
  rw [mm_xs]
  unfold mm_b
  rw [hc]
  show (if x ≤ 0 then _ else _) = R
  rw [if_pos hq]
  exact h
theorem mm_c_cmp_le_f (hc : mm_code z pc = some (.if_icmp .le off, [(t, tt)])) (hq : ¬ x ≤ y) (h : mm_x X n z (pc + 3) ls r M bc bs = R) : mm_x X (n + 1) z pc ls (.int y :: .int x :: r) M bc bs = R := by
  rw [mm_xs]
  unfold mm_b
  rw [hc]
  show (if x ≤ y then _ else _) = R
  rw [if_neg hq]
  exact h
theorem mm_c_if_le_f (hc : mm_code z pc = some (.ifCond .le off, [(t, tt)])) (hq : ¬ x ≤ 0) (h : mm_x X n z (pc + 3) ls r M bc bs = R) : mm_x X (n + 1) z pc ls (.int x :: r) M bc bs = R := by
  rw [mm_xs]
  unfold mm_b
  rw [hc]
  show (if x ≤ 0 then _ else _) = R
  rw [if_neg hq]
  exact h
theorem mm_c_inv {y0 : Nat} {y : Nat} {L : mm_L} {st rest : List Value} {r : Option Value} {M1 : mm_H} {bc1 bs1 bc2 bs2 : Nat} (h0 : ∀ f : mm_F, mm_b X f z pc ls st M bc bs = (match f y 0 L [] M bc1 bs1 with
      | some (r, M1) => f z y0 ls (r.toList ++ rest) M1 bc2 bs2
      | none => none)) (hs : mm_x X n y 0 L [] M bc1 bs1 = some (r, M1)) (h : mm_x X n z y0 ls (r.toList ++ rest) M1 bc2 bs2 = R) : mm_x X (n + 1) z pc ls st M bc bs = R := by
  rw [mm_xs, h0, hs]
  exact h
end MMC
/-- k steps, then f -/
noncomputable def mm_it (X : Option (List Int32)) (k : Nat) (f : mm_F) : mm_F := Nat.rec (motive := fun _ => mm_F) f (fun _ ih => mm_b X ih) k
theorem mm_it_x (X : Option (List Int32)) (n : Nat) : ∀ k, mm_it X k (mm_x X n) = mm_x X (n + k)
  | 0 => rfl
  | k + 1 => by
    show mm_b X (mm_it X k (mm_x X n)) = _
    rw [mm_it_x X n k]
    rfl
theorem mm_seg {X : Option (List Int32)} {n : Nat} (k : Nat) {z pc bc bs z1 pc1 bc1 bs1 : Nat} {ls ls1 : mm_L} {st st1 : List Value} {M M1 : mm_H} {R : mm_O} (h : ∀ f : mm_F, mm_it X k f z pc ls st M bc bs = f z1 pc1 ls1 st1 M1 bc1 bs1) (h2 : mm_x X n z1 pc1 ls1 st1 M1 bc1 bs1 = R) : mm_x X (n + k) z pc ls st M bc bs = R := by
  rw [← mm_it_x, h]
  exact h2
theorem mm_c_tsw {X : Option (List Int32)} {n z pc bc bs t : Nat} {d lo hi : Int} {offs : Array Int} {ex : List (Nat × Nat)} {ls : mm_L} {r : List Value} {M : mm_H} {x : Int32} {R : mm_O} (hc : mm_code z pc = some (.tableswitch d lo hi offs, ex)) (hq : x.toInt < lo ∨ hi < x.toInt) (ht : (pc : Int) + d = (t : Int)) (h : mm_x X n z t ls r M bc bs = R) : mm_x X (n + 1) z pc ls (.int x :: r) M bc bs = R := by
  rw [mm_xs]
  unfold mm_b
  rw [hc]
  show (match (if x.toInt < lo ∨ hi < x.toInt then mm_tg pc d ls r else match mm_n offs.toList (x.toInt - lo).toNat with
      | some off => mm_tg pc off ls r
      | none => none) with
    | some (pc1, ls1, st1) => mm_x X n z pc1 ls1 st1 M bc bs
    | none => none) = R
  rw [if_pos hq]
  unfold mm_tg
  rw [ht, if_pos (Int.natCast_nonneg t), Int.toNat_natCast]
  exact h
/-- bounds of a number -/
theorem mz_lt_t {x c : Int32} (k : Int) (hc : c.toInt = k) (h : x.toInt < k) : x < c := Int32.lt_iff_toInt_lt.mpr (by rw [hc]; exact h)
theorem mz_lt_f {x c : Int32} (k : Int) (hc : c.toInt = k) (h : k ≤ x.toInt) : ¬ x < c := fun q => by
  have := Int32.lt_iff_toInt_lt.mp q
  rw [hc] at this
  omega
theorem mz_le_t {x c : Int32} (k : Int) (hc : c.toInt = k) (h : x.toInt ≤ k) : x ≤ c := Int32.le_iff_toInt_le.mpr (by rw [hc]; exact h)
theorem mz_le_f {x c : Int32} (k : Int) (hc : c.toInt = k) (h : k < x.toInt) : ¬ x ≤ c := fun q => by
  have := Int32.le_iff_toInt_le.mp q
  rw [hc] at this
  omega
theorem mz_gt_t {x c : Int32} (k : Int) (hc : c.toInt = k) (h : k < x.toInt) : c < x := Int32.lt_iff_toInt_lt.mpr (by rw [hc]; exact h)
theorem mz_gt_f {x c : Int32} (k : Int) (hc : c.toInt = k) (h : x.toInt ≤ k) : ¬ c < x := fun q => by
  have := Int32.lt_iff_toInt_lt.mp q
  rw [hc] at this
  omega
theorem mz_ge_t {x c : Int32} (k : Int) (hc : c.toInt = k) (h : k ≤ x.toInt) : c ≤ x := Int32.le_iff_toInt_le.mpr (by rw [hc]; exact h)
theorem mz_ge_f {x c : Int32} (k : Int) (hc : c.toInt = k) (h : x.toInt < k) : ¬ c ≤ x := fun q => by
  have := Int32.le_iff_toInt_le.mp q
  rw [hc] at this
  omega
theorem mz_eq_f {x c : Int32} (k : Int) (hc : c.toInt = k) (h : ¬ x.toInt = k) : ¬ x = c := fun q => h (by rw [q]; exact hc)
theorem mz_eq_g {x c : Int32} (k : Int) (hc : c.toInt = k) (h : ¬ x.toInt = k) : ¬ c = x := fun q => h (by rw [← q]; exact hc)
