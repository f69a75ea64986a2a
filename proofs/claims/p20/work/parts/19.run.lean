/-! ===== runs without a count of steps ===== -/
def mm_R (z pc : Nat) (ls : mm_L) (st : List Value) (M : mm_H) (o : Option Value × mm_H) : Prop := ∃ n, mm_x none n z pc ls st M 0 0 = some o
section MMR
variable {z pc pc1 t1 t2 : Nat} {ls ls1 : mm_L} {st st1 r : List Value} {M M1 : mm_H} {o : Option Value × mm_H}
theorem mr_seg (k : Nat) (h : ∀ f : mm_F, mm_it none k f z pc ls st M 0 0 = f z pc1 ls1 st1 M1 0 0) (h2 : mm_R z pc1 ls1 st1 M1 o) : mm_R z pc ls st M o := by
  obtain ⟨n, hn⟩ := h2
  exact ⟨n + k, mm_seg k h hn⟩
theorem mr_ret (k : Nat) (h : ∀ f : mm_F, mm_it none k f z pc ls st M 0 0 = some o) : mm_R z pc ls st M o := by
  refine ⟨0 + k, ?_⟩
  rw [← mm_it_x]
  exact h _
theorem mr_call {y y0 : Nat} {L : mm_L} {rest : List Value} {rr : Option Value} (h0 : ∀ f : mm_F, mm_b none f z pc ls st M 0 0 = (match f y 0 L [] M 0 0 with
      | some (r, M1) => f z y0 ls (r.toList ++ rest) M1 0 0
      | none => none)) (hs : mm_R y 0 L [] M (rr, M1)) (h : mm_R z y0 ls (rr.toList ++ rest) M1 o) : mm_R z pc ls st M o := by
  obtain ⟨a, ha⟩ := hs
  obtain ⟨b, hb⟩ := h
  refine ⟨a + b + 1, ?_⟩
  rw [mm_xs, h0, mm_mono (fun _ h => h) a b _ _ _ _ _ _ _ _ ha]
  show mm_x none (a + b) z y0 ls (rr.toList ++ rest) M1 0 0 = some o
  rw [Nat.add_comm]
  exact mm_mono (fun _ h => h) b a _ _ _ _ _ _ _ _ hb
theorem mr_if {C : Prop} [Decidable C] (h0 : ∀ f : mm_F, mm_b none f z pc ls st M 0 0 = if C then f z t1 ls r M 0 0 else f z t2 ls r M 0 0) (h1 : C → mm_R z t1 ls r M o) (h2 : ¬ C → mm_R z t2 ls r M o) : mm_R z pc ls st M o := by
  by_cases hc : C
  · obtain ⟨n, hn⟩ := h1 hc
    exact ⟨n + 1, by rw [mm_xs, h0, if_pos hc]; exact hn⟩
  · obtain ⟨n, hn⟩ := h2 hc
    exact ⟨n + 1, by rw [mm_xs, h0, if_neg hc]; exact hn⟩
theorem mr_t {C : Prop} [Decidable C] (hc : C) (h0 : ∀ f : mm_F, mm_b none f z pc ls st M 0 0 = if C then f z t1 ls r M 0 0 else f z t2 ls r M 0 0) (h1 : mm_R z t1 ls r M o) : mm_R z pc ls st M o := mr_if h0 (fun _ => h1) (fun h => absurd hc h)
theorem mr_f {C : Prop} [Decidable C] (hc : ¬ C) (h0 : ∀ f : mm_F, mm_b none f z pc ls st M 0 0 = if C then f z t1 ls r M 0 0 else f z t2 ls r M 0 0) (h1 : mm_R z t2 ls r M o) : mm_R z pc ls st M o := mr_if h0 (fun h => absurd h hc) (fun _ => h1)
theorem mr_ild {a : Nat} {ex : List (Nat × Nat)} {xs : List Int32} {i v : Int32} (hc : mm_code z pc = some (.iaload, ex)) (hg : mm_ia none M a = some xs) (h0 : ¬ i < 0) (hv : xs[i.toNatClampNeg]? = some v) (h : mm_R z (pc + 1) ls (.int v :: r) M o) : mm_R z pc ls (.int i :: .ref a :: r) M o := by
  obtain ⟨n, hn⟩ := h
  refine ⟨n + 1, ?_⟩
  have e : mm_2 none .iaload ex pc ls (.int i :: .ref a :: r) M 0 0 = some (pc + 1, ls, .int v :: r, M, 0, 0) := by
    simp only [mm_2, hg]
    rw [if_neg h0, mm_n_eq, hv]
  rw [mm_xs]
  unfold mm_b
  rw [hc]
  show (match mm_2 none .iaload ex pc ls (.int i :: .ref a :: r) M 0 0 with
      | some (pc1, ls1, st1, M1, bc1, bs1) => mm_x none n z pc1 ls1 st1 M1 bc1 bs1
      | none => none) = some o
  rw [e]
  exact hn
theorem mr_ldn {a k : Nat} {ex : List (Nat × Nat)} {xs : List Int32} {v : Int32} (hc : mm_code z pc = some (.iaload, ex)) (hg : mm_ia none M a = some xs) (hk : k < 2 ^ 31) (hv : xs[k]? = some v) (h : mm_R z (pc + 1) ls (.int v :: r) M o) : mm_R z pc ls (.int (nI k) :: .ref a :: r) M o :=
  mr_ild hc hg (nI_pos hk) (by rw [nI_clamp hk]; exact hv) h
theorem mr_ist {a : Nat} {ex : List (Nat × Nat)} {xs : List Int32} {i v : Int32} (hc : mm_code z pc = some (.iastore, ex)) (hg : mm_g M a = some (.inr (.inl xs))) (h0 : ¬ i < 0) (hl : i.toNatClampNeg < xs.length) (h : mm_R z (pc + 1) ls r (mm_s M (a - 100) (.inr (.inl (mm_s xs i.toNatClampNeg v)))) o) : mm_R z pc ls (.int v :: .int i :: .ref a :: r) M o := by
  obtain ⟨n, hn⟩ := h
  refine ⟨n + 1, ?_⟩
  have e : mm_2 none .iastore ex pc ls (.int v :: .int i :: .ref a :: r) M 0 0 = some (pc + 1, ls, r, mm_s M (a - 100) (.inr (.inl (mm_s xs i.toNatClampNeg v))), 0, 0) := by
    simp only [mm_2, hg]
    rw [if_neg (fun q => q.elim h0 (fun q => absurd hl (Nat.not_lt.mpr q)))]
  rw [mm_xs]
  unfold mm_b
  rw [hc]
  show (match mm_2 none .iastore ex pc ls (.int v :: .int i :: .ref a :: r) M 0 0 with
      | some (pc1, ls1, st1, M1, bc1, bs1) => mm_x none n z pc1 ls1 st1 M1 bc1 bs1
      | none => none) = some o
  rw [e]
  exact hn
theorem mr_stn {a k : Nat} {ex : List (Nat × Nat)} {xs ys : List Int32} {v : Int32} {M2 : mm_H} (hc : mm_code z pc = some (.iastore, ex)) (hg : mm_g M a = some (.inr (.inl xs))) (hk : k < 2 ^ 31) (hl : k < xs.length) (he : xs.set k v = ys) (hM : mm_s M (a - 100) (.inr (.inl ys)) = M2) (h : mm_R z (pc + 1) ls r M2 o) : mm_R z pc ls (.int v :: .int (nI k) :: .ref a :: r) M o := by
  refine mr_ist hc hg (nI_pos hk) (by rw [nI_clamp hk]; exact hl) ?_
  rw [nI_clamp hk, mm_s_eq xs, he, hM]
  exact h
theorem mr_eq {o1 : Option Value × mm_H} (h : mm_R z pc ls st M o1) (e : o1 = o) : mm_R z pc ls st M o := e ▸ h
theorem mr_M {M2 : mm_H} (e : M = M2) (h : mm_R z pc ls st M2 o) : mm_R z pc ls st M o := by rw [e]; exact h
theorem mr_tsw {d lo hi : Int} {offs : Array Int} {ex : List (Nat × Nat)} {x : Int32} (hc : mm_code z pc = some (.tableswitch d lo hi offs, ex)) (hq : x.toInt < lo ∨ hi < x.toInt) (ht : (pc : Int) + d = (t1 : Int)) (h : mm_R z t1 ls r M o) : mm_R z pc ls (.int x :: r) M o := by
  obtain ⟨n, hn⟩ := h
  exact ⟨n + 1, mm_c_tsw hc hq ht hn⟩
theorem mr_lsw {d : Int} {ps : Array (Int × Int)} {ex : List (Nat × Nat)} {x : Int32} (hc : mm_code z pc = some (.lookupswitch d ps, ex)) (hq : Op.lookupswitch.offset ps.toList d x.toInt = d) (ht : (pc : Int) + d = (t1 : Int)) (h : mm_R z t1 ls r M o) : mm_R z pc ls (.int x :: r) M o := by
  obtain ⟨n, hn⟩ := h
  refine ⟨n + 1, ?_⟩
  rw [mm_xs]
  unfold mm_b
  rw [hc]
  show (match mm_tg pc (Op.lookupswitch.offset ps.toList d x.toInt) ls r with
    | some (pc1, ls1, st1) => mm_x none n z pc1 ls1 st1 M 0 0
    | none => none) = some o
  rw [hq]
  unfold mm_tg
  rw [ht, if_pos (Int.natCast_nonneg t1), Int.toNat_natCast]
  exact hn
end MMR
/-! ===== a run over some cells is a run over more: holes ===== -/
def mm_ho (c : mm_C) : Bool := match c with
  | .inr (.inr []) => true
  | _ => false
def mm_ov : mm_H → mm_H → mm_H
  | [], N => N
  | _ :: _, [] => []
  | c :: M, d :: N => (cond (mm_ho c) d c) :: mm_ov M N
theorem mm_ov_len : ∀ (M N : mm_H), M.length ≤ N.length → (mm_ov M N).length = N.length
  | [], _, _ => rfl
  | _ :: _, [], h => absurd h (by simp)
  | _ :: M, _ :: N, h => congrArg (· + 1) (mm_ov_len M N (Nat.le_of_succ_le_succ h))
theorem mm_ov_n : ∀ (M N : mm_H) (k : Nat) (c : mm_C), M.length ≤ N.length → M[k]? = some c → mm_ho c = false → (mm_ov M N)[k]? = some c
  | [], _, _, _, _, h, _ => by simp at h
  | _ :: _, [], _, _, h, _, _ => absurd h (by simp)
  | a :: M, d :: N, 0, c, _, h, hc => by
    cases h
    show (cond (mm_ho a) d a :: mm_ov M N)[0]? = some a
    rw [hc]
    rfl
  | a :: M, d :: N, k + 1, c, hl, h, hc => by
    rw [List.getElem?_cons_succ] at h
    show (cond (mm_ho a) d a :: mm_ov M N)[k + 1]? = some c
    rw [List.getElem?_cons_succ]
    exact mm_ov_n M N k c (Nat.le_of_succ_le_succ hl) h hc
theorem mm_ov_s : ∀ (M N : mm_H) (k : Nat) (c : mm_C), M.length ≤ N.length → k < M.length → mm_ho c = false → (mm_ov M N).set k c = mm_ov (M.set k c) N
  | [], _, _, _, _, h, _ => by simp at h
  | _ :: _, [], _, _, h, _, _ => absurd h (by simp)
  | a :: M, d :: N, 0, c, _, _, hc => by
    show (cond (mm_ho a) d a :: mm_ov M N).set 0 c = cond (mm_ho c) d c :: mm_ov M N
    rw [hc]
    rfl
  | a :: M, d :: N, k + 1, c, hl, h, hc => by
    show (cond (mm_ho a) d a) :: (mm_ov M N).set k c = cond (mm_ho a) d a :: mm_ov (M.set k c) N
    rw [mm_ov_s M N k c (Nat.le_of_succ_le_succ hl) (Nat.lt_of_succ_lt_succ h) hc]
theorem mm_ov_g {M N : mm_H} {a : Nat} {c : mm_C} (hl : M.length ≤ N.length) (h : mm_g M a = some c) (hc : mm_ho c = false) : mm_g (mm_ov M N) a = some c := by
  obtain ⟨h1, h2⟩ := mm_glt h
  unfold mm_g
  have hb : Nat.ble 100 a = true := Nat.ble_eq_true_of_le h1
  rw [hb]
  show mm_n (mm_ov M N) (a - 100) = some c
  rw [mm_n_eq]
  exact mm_ov_n M N _ c hl h2 hc
theorem mm_ov_w {M N : mm_H} {a : Nat} {c0 c : mm_C} (hl : M.length ≤ N.length) (h : mm_g M a = some c0) (hc : mm_ho c = false) : mm_s (mm_ov M N) (a - 100) c = mm_ov (mm_s M (a - 100) c) N ∧ (mm_s M (a - 100) c).length = M.length := by
  obtain ⟨h1, h2⟩ := mm_glt h
  rw [mm_s_eq, mm_s_eq]
  exact ⟨mm_ov_s M N _ c hl (List.getElem?_eq_some_iff.mp h2).1 hc, List.length_set⟩
theorem mm_ov_i {M N : mm_H} {a : Nat} {xs : List Int32} (hl : M.length ≤ N.length) (h : mm_ia none M a = some xs) : mm_ia none (mm_ov M N) a = some xs := by
  unfold mm_ia at h ⊢
  cases hc : Nat.beq a 0 <;> rw [hc] at h
  · simp only [cond_false] at h ⊢
    split at h
    · rename_i ys hg
      cases h
      rw [mm_ov_g hl hg rfl]
    · cases h
  · cases h
theorem mm_fr2 {N : mm_H} {i : Instr} {ex : List (Nat × Nat)} {pc : Nat} {ls : mm_L} {st : List Value} {M : mm_H} (hl : M.length ≤ N.length) {pc1 : Nat} {ls1 : mm_L} {st1 : List Value} {M1 : mm_H} {b1 b2 : Nat} (h : mm_2 none i ex pc ls st M 0 0 = some (pc1, ls1, st1, M1, b1, b2)) : b1 = 0 ∧ b2 = 0 ∧ M1.length = M.length ∧ mm_2 none i ex pc ls st (mm_ov M N) 0 0 = some (pc1, ls1, st1, mm_ov M1 N, 0, 0) := by
  cases i with
  | getfield k =>
    simp only [mm_2] at h ⊢
    split at h
    · rename_i ci k a r
      cases h11 : Nat.beq ci 11 <;> rw [h11] at h
      · simp only [cond_false] at h ⊢
        split at h
        · rename_i c fs hg
          rw [mm_ov_g hl hg rfl]
          simp only []
          cases hc : Nat.beq c ci <;> rw [hc] at h
          · cases h
          · simp only [cond_true] at h ⊢
            split at h
            · cases h
              exact ⟨rfl, rfl, rfl, rfl⟩
            · cases h
        · cases h
      · simp only [cond_true] at h ⊢
        split at h
        · cases h
          exact ⟨rfl, rfl, rfl, rfl⟩
        · cases h
    · cases h
  | getstatic k =>
    simp only [mm_2] at h ⊢
    split at h
    · cases h
      exact ⟨rfl, rfl, rfl, rfl⟩
    · cases h
      exact ⟨rfl, rfl, rfl, rfl⟩
    · cases h
  | baload =>
    simp only [mm_2] at h ⊢
    split at h
    · split at h
      · split at h
        · cases h
        · rename_i hj
          simp only [if_neg hj]
          split at h
          · cases h
            exact ⟨rfl, rfl, rfl, rfl⟩
          · cases h
      · cases h
    · cases h
  | putfield k =>
    simp only [mm_2] at h ⊢
    split at h
    · rename_i ci k tk fin v a r
      split at h
      · rename_i c fs hg
        rw [mm_ov_g hl hg rfl]
        simp only []
        cases hc : (Nat.beq c ci && (mm_fit tk v && Nat.blt k fs.length)) <;> rw [hc] at h
        · cases h
        · cases h
          obtain ⟨g1, g2⟩ := mm_ov_w (c := .inl (c, mm_s fs k v)) hl hg rfl
          exact ⟨rfl, rfl, g2, by rw [g1]; rfl⟩
      · cases h
    · cases h
  | iaload =>
    simp only [mm_2] at h ⊢
    split at h
    · split at h
      · rename_i xs hia
        rw [mm_ov_i hl hia]
        simp only []
        split at h
        · cases h
        · rename_i hj
          simp only [if_neg hj]
          split at h
          · cases h
            exact ⟨rfl, rfl, rfl, rfl⟩
          · cases h
      · cases h
    · cases h
  | iastore =>
    simp only [mm_2] at h ⊢
    split at h
    · rename_i v j a r
      split at h
      · rename_i xs hg
        rw [mm_ov_g hl hg rfl]
        simp only []
        split at h
        · cases h
        · rename_i hj
          cases h
          obtain ⟨g1, g2⟩ := mm_ov_w (c := .inr (.inl (mm_s xs j.toNatClampNeg v))) hl hg rfl
          exact ⟨rfl, rfl, g2, by rw [if_neg hj, g1]⟩
      · cases h
    · cases h
  | aaload =>
    simp only [mm_2] at h ⊢
    split at h
    · split at h
      · rename_i xs hg
        split at h
        · cases h
        · rename_i hj
          split at h
          · rename_i v hv
            cases h
            have hne : mm_ho (.inr (.inr xs)) = false := by
              cases xs with
              | nil => cases hv
              | cons _ _ => rfl
            rw [mm_ov_g hl hg hne]
            simp only [if_neg hj, hv]
            exact ⟨trivial, trivial, trivial, trivial⟩
          · cases h
      · cases h
    · cases h
  | aastore =>
    simp only [mm_2] at h ⊢
    split at h
    · rename_i v j a r
      split at h
      · rename_i xs hg
        split at h
        · rename_i c fs hg2
          split at h
          · cases h
          · rename_i hj
            cases hc : (Nat.beq c 0 || (Nat.beq c 2 || (Nat.beq c 3 || (Nat.beq c 4 || (Nat.beq c 5 || Nat.beq c 7))))) <;> rw [hc] at h
            · cases h
            · cases h
              have hne : ∀ ys : List Value, ys.length = xs.length → mm_ho (.inr (.inr ys)) = false := by
                intro ys he
                cases ys with
                | nil =>
                  exfalso
                  apply hj
                  right
                  have h0 : xs.length = 0 := he.symm
                  omega
                | cons _ _ => rfl
              obtain ⟨g1, g2⟩ := mm_ov_w (c := .inr (.inr (mm_s xs j.toNatClampNeg (.ref v)))) hl hg (hne _ (by rw [mm_s_eq, List.length_set]))
              rw [mm_ov_g hl hg (hne xs rfl), mm_ov_g hl hg2 rfl]
              simp only [if_neg hj, hc]
              exact ⟨trivial, trivial, g2, by rw [g1]; rfl⟩
        · cases h
      · cases h
    · cases h
  | arraylength =>
    simp only [mm_2] at h ⊢
    split at h
    · split at h
      · cases h
        exact ⟨rfl, rfl, rfl, rfl⟩
      · split at h
        · rename_i xs hia
          rw [mm_ov_i hl hia]
          cases h
          exact ⟨rfl, rfl, rfl, rfl⟩
        · cases h
    · cases h
  | new k =>
    simp only [mm_2] at h
    split at h <;> cases h
  | newarray k =>
    cases k <;> first
      | (cases h; done)
      | (simp only [mm_2] at h
         split at h
         · split at h <;> cases h
         · cases h)
  | anewarray k =>
    simp only [mm_2] at h
    split at h
    · split at h <;> cases h
    · cases h
  | _ => cases h
def mm_Fr (N : mm_H) (f : mm_F) : Prop := ∀ (z pc : Nat) (ls : mm_L) (st : List Value) (M : mm_H) (r : Option Value) (M' : mm_H), M.length ≤ N.length → f z pc ls st M 0 0 = some (r, M') → M'.length = M.length ∧ f z pc ls st (mm_ov M N) 0 0 = some (r, mm_ov M' N)
theorem mm_rcov {M N : mm_H} {a c : Nat} (hl : M.length ≤ N.length) (h : mm_rc M a = some c) : mm_rc (mm_ov M N) a = some c := by
  unfold mm_rc at h ⊢
  cases hc : (Nat.ble 1 a && Nat.ble a 6) <;> rw [hc] at h
  · simp only [cond_false] at h ⊢
    split at h
    · rename_i hg
      rw [mm_ov_g hl hg rfl]
      exact h
    · cases h
  · exact h
theorem mm_frb {N : mm_H} {f : mm_F} (hf : mm_Fr N f) : mm_Fr N (mm_b none f) := by
  intro z pc ls st M r M' hl h
  have hinv : ∀ y, mm_inv f z pc ls st M 0 0 y = some (r, M') → M'.length = M.length ∧ mm_inv f z pc ls st (mm_ov M N) 0 0 y = some (r, mm_ov M' N) := by
    intro y h
    unfold mm_inv at h ⊢
    cases hc : (Nat.ble (mm_i y).2.1 st.length && (Nat.ble (mm_cat (st.drop (mm_i y).2.1)) 8 && (Nat.ble (mm_i y).2.2.2.1 0 && (Nat.ble (mm_i y).2.2.2.2 0 && Nat.ble (mm_sl (st.take (mm_i y).2.1).reverse).length (mm_i y).1)))) <;> rw [hc] at h
    · cases h
    · simp only [cond_true] at h ⊢
      rw [Bool.and_eq_true, Bool.and_eq_true, Bool.and_eq_true, Bool.and_eq_true] at hc
      have e1 : (mm_i y).2.2.2.1 = 0 := Nat.le_zero.mp (Nat.le_of_ble_eq_true hc.2.2.1)
      have e2 : (mm_i y).2.2.2.2 = 0 := Nat.le_zero.mp (Nat.le_of_ble_eq_true hc.2.2.2.1)
      rw [e1, e2] at h ⊢
      split at h
      · rename_i r1 M2 he
        obtain ⟨q, he2⟩ := hf _ _ _ _ _ _ _ hl he
        obtain ⟨q2, h2⟩ := hf _ _ _ _ _ _ _ (by omega) h
        refine ⟨by omega, ?_⟩
        rw [he2]
        exact h2
      · cases h
  have hite : ∀ (q : Prop) [Decidable q] (z1 pc1 : Nat) (ls1 : mm_L) (st1 : List Value) (z2 pc2 : Nat) (ls2 : mm_L) (st2 : List Value), (if q then f z1 pc1 ls1 st1 M 0 0 else f z2 pc2 ls2 st2 M 0 0) = some (r, M') → M'.length = M.length ∧ (if q then f z1 pc1 ls1 st1 (mm_ov M N) 0 0 else f z2 pc2 ls2 st2 (mm_ov M N) 0 0) = some (r, mm_ov M' N) := by
    intro q _ z1 pc1 ls1 st1 z2 pc2 ls2 st2 h
    by_cases hq : q
    · simp only [if_pos hq] at h ⊢
      exact hf _ _ _ _ _ _ _ hl h
    · simp only [if_neg hq] at h ⊢
      exact hf _ _ _ _ _ _ _ hl h
  have hit2 : ∀ (q : Prop) [Decidable q] (z2 pc2 : Nat) (ls2 : mm_L) (st2 : List Value), (if q then none else f z2 pc2 ls2 st2 M 0 0) = some (r, M') → M'.length = M.length ∧ (if q then none else f z2 pc2 ls2 st2 (mm_ov M N) 0 0) = some (r, mm_ov M' N) := by
    intro q _ z2 pc2 ls2 st2 h
    by_cases hq : q
    · simp only [if_pos hq] at h
      cases h
    · simp only [if_neg hq] at h ⊢
      exact hf _ _ _ _ _ _ _ hl h
  have hcnd : ∀ (q : Bool) (z2 pc2 : Nat) (ls2 : mm_L) (st2 : List Value), (cond q (f z2 pc2 ls2 st2 M 0 0) none) = some (r, M') → M'.length = M.length ∧ (cond q (f z2 pc2 ls2 st2 (mm_ov M N) 0 0) none) = some (r, mm_ov M' N) := by
    intro q z2 pc2 ls2 st2 h
    cases q
    · cases h
    · exact hf _ _ _ _ _ _ _ hl h
  have hcni : ∀ (q : Bool) (y : Nat), (cond q (mm_inv f z pc ls st M 0 0 y) none) = some (r, M') → M'.length = M.length ∧ (cond q (mm_inv f z pc ls st (mm_ov M N) 0 0 y) none) = some (r, mm_ov M' N) := by
    intro q y h
    cases q
    · cases h
    · exact hinv _ h
  have hret : ∀ (q : Bool) (v : Option Value), (cond q (some (v, M)) none) = some (r, M') → M'.length = M.length ∧ (cond q (some (v, mm_ov M N)) none) = some (r, mm_ov M' N) := by
    intro q v h
    cases q
    · cases h
    · cases h
      exact ⟨rfl, rfl⟩
  have h1 : ∀ i ex, mm_code z pc = some (i, ex) → (match mm_1 i ex pc ls st with
      | some (pc1, ls1, st1) => f z pc1 ls1 st1 M 0 0
      | none => none) = some (r, M') → M'.length = M.length ∧ (match mm_1 i ex pc ls st with
      | some (pc1, ls1, st1) => f z pc1 ls1 st1 (mm_ov M N) 0 0
      | none => none) = some (r, mm_ov M' N) := by
    intro i ex _ h
    split at h
    · exact hf _ _ _ _ _ _ _ hl h
    · cases h
  have h2 : ∀ i ex, (match mm_2 none i ex pc ls st M 0 0 with
      | some (pc1, ls1, st1, M1, bc1, bs1) => f z pc1 ls1 st1 M1 bc1 bs1
      | none => none) = some (r, M') → M'.length = M.length ∧ (match mm_2 none i ex pc ls st (mm_ov M N) 0 0 with
      | some (pc1, ls1, st1, M1, bc1, bs1) => f z pc1 ls1 st1 M1 bc1 bs1
      | none => none) = some (r, mm_ov M' N) := by
    intro i ex h
    split at h
    · rename_i he
      obtain ⟨e1, e2, e3, e4⟩ := mm_fr2 hl he
      subst e1; subst e2
      rw [e4]
      obtain ⟨g1, g2⟩ := hf _ _ _ _ _ _ _ (by omega) h
      exact ⟨by omega, g2⟩
    · cases h
  unfold mm_b at h ⊢
  cases hcd : mm_code z pc with
  | none => rw [hcd] at h; cases h
  | some x =>
    obtain ⟨i, ex⟩ := x
    rw [hcd] at h
    cases i with
    | ireturn =>
      simp only [] at h ⊢
      split at h
      · exact hret _ _ h
      · cases h
    | lreturn =>
      simp only [] at h ⊢
      split at h
      · exact hret _ _ h
      · cases h
    | areturn =>
      simp only [] at h ⊢
      split at h
      · exact hret _ _ h
      · cases h
    | return_ =>
      simp only [] at h ⊢
      split at h
      · exact hret _ _ h
      · cases h
    | idiv =>
      simp only [] at h ⊢
      split at h
      · exact hit2 _ _ _ _ _ h
      · cases h
    | irem =>
      simp only [] at h ⊢
      split at h
      · exact hit2 _ _ _ _ _ h
      · cases h
    | ldiv =>
      simp only [] at h ⊢
      split at h
      · exact hit2 _ _ _ _ _ h
      · cases h
    | lrem =>
      simp only [] at h ⊢
      split at h
      · exact hit2 _ _ _ _ _ h
      · cases h
    | if_icmp k off =>
      simp only [] at h ⊢
      split at h
      · cases k <;> exact hite _ _ _ _ _ _ _ _ _ h
      · cases h
    | ifCond k off =>
      simp only [] at h ⊢
      split at h
      · cases k <;> exact hite _ _ _ _ _ _ _ _ _ h
      · cases h
    | invokestatic idx =>
      simp only [] at h ⊢
      split at h
      · exact hcni _ _ h
      · unfold mm_acp at h ⊢
        split at h
        · split at h
          · rename_i ys xs he1 he2
            rw [mm_ov_g hl he1 rfl, mm_ov_g hl he2 rfl]
            simp only []
            split at h
            · rename_i hc
              rw [if_pos hc]
              obtain ⟨g1, g2⟩ := mm_ov_w (c := .inr (.inl xs)) hl he1 rfl
              rw [g1]
              obtain ⟨g3, g4⟩ := hf _ _ _ _ _ _ _ (by omega) h
              exact ⟨by omega, g4⟩
            · cases h
          · cases h
        · cases h
      · split at h
        · exact hcnd _ _ _ _ _ h
        · cases h
      · split at h
        · exact hcnd _ _ _ _ _ h
        · cases h
      · split at h
        · exact hcnd _ _ _ _ _ h
        · cases h
      · cases h
    | invokespecial idx =>
      simp only [] at h ⊢
      split at h
      · split at h
        · exact hcnd _ _ _ _ _ h
        · cases h
      · split at h
        · rename_i he
          try rw [he]
          exact hcni _ _ h
        · cases h
      · split at h
        · rename_i he
          try rw [he]
          try simp only [] at h ⊢
          split at h
          · rename_i he2
            rw [mm_ov_g hl he2 rfl]
            exact hcni _ _ h
          · cases h
        · cases h
      · cases h
    | invokevirtual idx =>
      simp only [] at h ⊢
      split at h
      · split at h
        · rename_i he
          try rw [he]
          try simp only [] at h ⊢
          split at h
          · rename_i he2
            rw [mm_rcov hl he2]
            exact hcni _ _ h
          · cases h
        · cases h
      · split at h
        · rename_i he
          try rw [he]
          try simp only [] at h ⊢
          split at h
          · rename_i he2
            rw [mm_rcov hl he2]
            try simp only [] at h ⊢
            split at h
            · rename_i he3
              try rw [he3]
              exact hcni _ _ h
            · cases h
          · cases h
        · cases h
      · cases h
    | getfield k => exact h2 _ _ h
    | putfield k => exact h2 _ _ h
    | getstatic k => exact h2 _ _ h
    | baload => exact h2 _ _ h
    | iaload => exact h2 _ _ h
    | iastore => exact h2 _ _ h
    | aaload => exact h2 _ _ h
    | aastore => exact h2 _ _ h
    | arraylength => exact h2 _ _ h
    | new k => exact h2 _ _ h
    | newarray k => exact h2 _ _ h
    | anewarray k => exact h2 _ _ h
    | _ => exact h1 _ _ hcd h
theorem mm_frx (N : mm_H) : ∀ n, mm_Fr N (mm_x none n)
  | 0 => fun _ _ _ _ _ _ _ _ h => by cases h
  | n + 1 => mm_frb (mm_frx N n)
/-- what goes through over some cells goes through over more, and leaves these -/
theorem mr_fr {z pc : Nat} {ls : mm_L} {st : List Value} {M M' M1 M2 : mm_H} {r : Option Value} (N : mm_H) (h : mm_R z pc ls st M (r, M')) (hl : Nat.ble M.length N.length = true) (e1 : mm_ov M N = M1) (e2 : mm_ov M' N = M2) : mm_R z pc ls st M1 (r, M2) := by
  obtain ⟨n, hn⟩ := h
  subst e1; subst e2
  exact ⟨n, (mm_frx N n _ _ _ _ _ _ _ (Nat.le_of_ble_eq_true hl) hn).2⟩
/-- what goes through without a heap goes through with any, and leaves it -/
theorem mr_pure {z pc n : Nat} {ls : mm_L} {st : List Value} {r : Option Value} {M' : mm_H} (h : mm_x none n z pc ls st [] 0 0 = some (r, M')) (M : mm_H) : mm_R z pc ls st M (r, M) := by
  obtain ⟨g1, g2⟩ := mm_frx M n _ _ _ _ _ _ _ (Nat.zero_le _) h
  have e : M' = [] := List.eq_nil_of_length_eq_zero g1
  subst e
  exact ⟨n, g2⟩
