theorem kstep_none {he ke ki fi fa or : List Nat} {mi a g l w s x : Nat} (hn : knext (he, ke, ki, fi, fa, or, mi, a, g, l, w, s) = none) : kstep (he, ke, ki, fi, fa, or, mi, a, g, l, w, s) x = (he, ke, ki, fi, fa, or, mi, a, g, l, w, s + 1) := by
  simp only [kstep, hn]
theorem kstep_some {he ke ki fi fa or : List Nat} {mi a g l w s x y : Nat} (hn : knext (he, ke, ki, fi, fa, or, mi, a, g, l, w, s) = some y) : kstep (he, ke, ki, fi, fa, or, mi, a, g, l, w, s) x = match kbey a y with
      | none => (he, ke, ki, fi, fa, or, mi, a, g, l, w, s + 1)
      | some t => if khold (kg ki (kg or 0)) (kg fi (kg or 0)) < kload he ke a w t + x then (he, ke, ki, fi, fa.set (kg or 0) (min 99 (kg fa (kg or 0) + 1)), klast or mi (kg or 0), mi, a, g, l, w, s + 1) else (he, ke, ki, fi, fa, or, mi, t, g, y, w, s + 1) := by
  simp only [kstep, hn]
  cases kbey a y <;> rfl
theorem kstep_cases (k : kK) (x : Nat) (P : kK → Prop) (h0 : ∀ (he ke ki fi fa or : List Nat) (mi a g l w s : Nat), k = (he, ke, ki, fi, fa, or, mi, a, g, l, w, s) → P (he, ke, ki, fi, fa, or, mi, a, g, l, w, s + 1))
    (h1 : ∀ (he ke ki fi fa or : List Nat) (mi a g l w s t : Nat), k = (he, ke, ki, fi, fa, or, mi, a, g, l, w, s) → 0 < mi → P (he, ke, ki, fi, fa.set (kg or 0) (min 99 (kg fa (kg or 0) + 1)), klast or mi (kg or 0), mi, a, g, l, w, s + 1))
    (h2 : ∀ (he ke ki fi fa or : List Nat) (mi a g l w s y t : Nat), k = (he, ke, ki, fi, fa, or, mi, a, g, l, w, s) → knext (he, ke, ki, fi, fa, or, mi, a, g, l, w, s) = some y → kbey a y = some t → P (he, ke, ki, fi, fa, or, mi, t, g, y, w, s + 1)) : P (kstep k x) := by
  obtain ⟨he, ke, ki, fi, fa, or, mi, a, g, l, w, s⟩ := k
  cases hn : knext (he, ke, ki, fi, fa, or, mi, a, g, l, w, s) with
  | none =>
    rw [kstep_none hn]
    exact h0 _ _ _ _ _ _ _ _ _ _ _ _ rfl
  | some y =>
    rw [kstep_some hn]
    cases hb : kbey a y with
    | none => exact h0 _ _ _ _ _ _ _ _ _ _ _ _ rfl
    | some t =>
      by_cases hq : khold (kg ki (kg or 0)) (kg fi (kg or 0)) < kload he ke a w t + x
      · simp only [if_pos hq]
        exact h1 _ _ _ _ _ _ _ _ _ _ _ _ t rfl (knext_mi hn)
      · simp only [if_neg hq]
        exact h2 _ _ _ _ _ _ _ _ _ _ _ _ y t rfl hn hb
theorem kV_step {k : kK} (hV : kV k) (x : Nat) : kV (kstep k x) := by
  refine kstep_cases k x kV ?_ ?_ ?_
  · intro he ke ki fi fa or mi a g l w s e
    subst e
    exact hV
  · intro he ke ki fi fa or mi a g l w s t e hm
    subst e
    obtain ⟨v1, v2, v3, v4, v5, v6, v7, v8, v9, v10, v11, v12, v13, v14, v15, v16⟩ := hV
    refine ⟨v1, v2, v3, v4, by rw [List.length_set]; exact v5, kO_last mi v7 or v6 _ (kO_lt mi v7 or v6 0 hm), v7, v8, v9, v10, v11, v12, v13, v14, v15, fun i => ?_⟩
    rw [kg_setc]
    split
    · omega
    · exact v16 i
  · intro he ke ki fi fa or mi a g l w s y t e hn hb
    subst e
    have hy := knext_lt hV hn
    obtain ⟨v1, v2, v3, v4, v5, v6, v7, v8, v9, v10, v11, v12, v13, v14, v15, v16⟩ := hV
    exact ⟨v1, v2, v3, v4, v5, v6, v7, kbey_lt v8 hb, v9, hy, v11, v12, v13, v14, v15, v16⟩
theorem kst_step (k : kK) (x : Nat) : k_st (kstep k x) = k_st k + 1 := by
  refine kstep_cases k x (fun q => k_st q = k_st k + 1) ?_ ?_ ?_
  · intro he ke ki fi fa or mi a g l w s e; subst e; rfl
  · intro he ke ki fi fa or mi a g l w s t e hm; subst e; rfl
  · intro he ke ki fi fa or mi a g l w s y t e hn hb; subst e; rfl
theorem kmi_step (k : kK) (x : Nat) : k_mi (kstep k x) = k_mi k := by
  refine kstep_cases k x (fun q => k_mi q = k_mi k) ?_ ?_ ?_
  · intro he ke ki fi fa or mi a g l w s e; subst e; rfl
  · intro he ke ki fi fa or mi a g l w s t e hm; subst e; rfl
  · intro he ke ki fi fa or mi a g l w s y t e hn hb; subst e; rfl
theorem kgo_step (k : kK) (x : Nat) : k_go (kstep k x) = k_go k := by
  refine kstep_cases k x (fun q => k_go q = k_go k) ?_ ?_ ?_
  · intro he ke ki fi fa or mi a g l w s e; subst e; rfl
  · intro he ke ki fi fa or mi a g l w s t e hm; subst e; rfl
  · intro he ke ki fi fa or mi a g l w s y t e hn hb; subst e; rfl
def ksteps : Nat → kK → kK
  | 0, k => k
  | n + 1, k => ksteps n (kstep k 0)
theorem kV_steps : ∀ (n : Nat) {k : kK}, kV k → kV (ksteps n k)
  | 0, _, h => h
  | n + 1, _, h => kV_steps n (kV_step h 0)
theorem kst_steps : ∀ (n : Nat) (k : kK), k_st (ksteps n k) = k_st k + n
  | 0, _ => rfl
  | n + 1, k => by
    show k_st (ksteps n (kstep k 0)) = k_st k + (n + 1)
    rw [kst_steps n, kst_step]
    omega
theorem kmi_steps : ∀ (n : Nat) (k : kK), k_mi (ksteps n k) = k_mi k
  | 0, _ => rfl
  | n + 1, k => by
    show k_mi (ksteps n (kstep k 0)) = k_mi k
    rw [kmi_steps n, kmi_step]
def ksum (l : List Nat) : Nat → Nat
  | 0 => 0
  | n + 1 => ksum l n + kg l n
theorem ksum_le {l : List Nat} {b : Nat} (h : ∀ i, kg l i ≤ b) : ∀ n, ksum l n ≤ n * b
  | 0 => by rw [Nat.zero_mul]; exact Nat.le_refl 0
  | n + 1 => by
    have h1 := ksum_le h n
    have h2 := h n
    show ksum l n + kg l n ≤ (n + 1) * b
    rw [Nat.succ_mul]
    omega
/-- behind how many steps it is at a cell first: r more are looked at -/
def kwa : Nat → Nat → kK → Nat → Option Nat
  | 0, n, k, c => if k_at k = c then some n else none
  | r + 1, n, k, c => if k_at k = c then some n else kwa r (n + 1) (kstep k 0) c
/-- behind how many steps he has more falls than f first -/
def kwf : Nat → Nat → kK → Nat → Nat → Option Nat
  | 0, _, _, _, _ => none
  | r + 1, n, k, p, f => if f < kg (k_fa (kstep k 0)) p then some n else kwf r (n + 1) (kstep k 0) p f
def kN (o : Option Nat) : Int32 := match o with
  | some n => nI n
  | none => 1000000
theorem kwa_le : ∀ (r n : Nat) (k : kK) (c v : Nat), kwa r n k c = some v → v ≤ n + r
  | 0, n, k, c, v, h => by
    unfold kwa at h
    split at h
    · cases h; omega
    · cases h
  | r + 1, n, k, c, v, h => by
    unfold kwa at h
    split at h
    · cases h; omega
    · have := kwa_le r (n + 1) (kstep k 0) c v h
      omega
theorem kwf_le : ∀ (r n : Nat) (k : kK) (p f v : Nat), kwf r n k p f = some v → v < n + r
  | 0, n, k, p, f, v, h => by cases h
  | r + 1, n, k, p, f, v, h => by
    unfold kwf at h
    split at h
    · cases h; omega
    · have := kwf_le r (n + 1) (kstep k 0) p f v h
      omega
set_option maxRecDepth 100000 in
theorem kc_by0_m (n : Nat) (hn : n < 1000) (k : Nat) : ∀ (he ke ki fi fa or : List Nat) (mi a g l w s j : Nat), kV (he, ke, ki, fi, fa, or, mi, a, g, l, w, s) → s + k < 2 ^ 30 → j + k = n → mm_R 43 2 [some (.ref 124), some (.int (nI n)), some (.int (nI j))] [] (kSm (kr (he, ke, ki, fi, fa, or, mi, a, g, l, w, s))) (none, kSm (kr (ksteps k (he, ke, ki, fi, fa, or, mi, a, g, l, w, s)))) := by
  induction k with
  | zero =>
    intro he ke ki fi fa or mi a g l w s j hV hs hj
    refine mr_seg 2 (pc1 := 4) (ls1 := [some (.ref 124), some (.int (nI n)), some (.int (nI j))]) (st1 := [.int (nI n), .int (nI j)]) (M1 := (kSm (kr (he, ke, ki, fi, fa, or, mi, a, g, l, w, s)))) (fun f => rfl) ?_
    refine mr_t (C := (nI n) ≤ (nI j)) (nI_let (a := n) (b := j) (by omega)) (fun f => rfl) ?_
    exact mr_ret 1 (fun f => rfl)
  | succ k IH =>
    intro he ke ki fi fa or mi a g l w s j hV hs hj
    refine mr_seg 2 (pc1 := 4) (ls1 := [some (.ref 124), some (.int (nI n)), some (.int (nI j))]) (st1 := [.int (nI n), .int (nI j)]) (M1 := (kSm (kr (he, ke, ki, fi, fa, or, mi, a, g, l, w, s)))) (fun f => rfl) ?_
    refine mr_f (C := (nI n) ≤ (nI j)) (nI_lef (a := n) (b := j) (by omega)) (fun f => rfl) ?_
    refine mr_seg 2 (pc1 := 9) (ls1 := [some (.ref 124), some (.int (nI n)), some (.int (nI j))]) (st1 := [.int 0, .ref 124]) (M1 := (kSm (kr (he, ke, ki, fi, fa, or, mi, a, g, l, w, s)))) (fun f => rfl) ?_
    refine mr_call (y := 44) (y0 := 12) (L := [some (.ref 124), some (.int 0), none, none, none]) (rest := []) (rr := none) (M1 := (kSm (kr (kstep (he, ke, ki, fi, fa, or, mi, a, g, l, w, s) 0)))) (fun f => rfl) (kc_adv_m he ke ki fi fa or mi a g l w s 0 (by decide) hV (by omega)) ?_
    generalize hK : kstep (he, ke, ki, fi, fa, or, mi, a, g, l, w, s) 0 = K2
    have hV2 : kV K2 := hK ▸ kV_step hV 0
    have hs2 : k_st K2 = s + 1 := hK ▸ kst_step (he, ke, ki, fi, fa, or, mi, a, g, l, w, s) 0
    obtain ⟨he2, ke2, ki2, fi2, fa2, or2, mi2, a2, g2, l2, w2, s2⟩ := K2
    have hs3 : s2 = s + 1 := hs2
    refine mr_seg 1 (pc1 := 15) (ls1 := [some (.ref 124), some (.int (nI n)), some (.int ((nI j) + 1))]) (st1 := []) (M1 := (kSm (kr (he2, ke2, ki2, fi2, fa2, or2, mi2, a2, g2, l2, w2, s2)))) (fun f => rfl) ?_
    refine mr_l (fun q_ => [some (.ref 124), some (.int (nI n)), some (.int q_)]) (nI_add j 1) ?_
    refine mr_seg 1 (pc1 := 2) (ls1 := [some (.ref 124), some (.int (nI n)), some (.int (nI (j + 1)))]) (st1 := []) (M1 := (kSm (kr (he2, ke2, ki2, fi2, fa2, or2, mi2, a2, g2, l2, w2, s2)))) (fun f => rfl) ?_
    rw [show ksteps (k + 1) (he, ke, ki, fi, fa, or, mi, a, g, l, w, s) = ksteps k (he2, ke2, ki2, fi2, fa2, or2, mi2, a2, g2, l2, w2, s2) from by show ksteps k (kstep (he, ke, ki, fi, fa, or, mi, a, g, l, w, s) 0) = _; rw [hK]]
    exact IH he2 ke2 ki2 fi2 fa2 or2 mi2 a2 g2 l2 w2 s2 (j + 1) hV2 (by omega) (by omega)
theorem kc_by_m (n : Nat) (hn : n < 1000) (K : kK) (hV : kV K) (hs : k_st K < 2 ^ 20) : mm_R 43 0 [some (.ref 124), some (.int (nI n)), none] [] (kSm (kr K)) (none, kSm (kr (ksteps n K))) := by
  obtain ⟨he, ke, ki, fi, fa, or, mi, a, g, l, w, s⟩ := K
  have hs' : s < 2 ^ 20 := hs
  refine mr_seg 2 (pc1 := 2) (ls1 := [some (.ref 124), some (.int (nI n)), some (.int 0)]) (st1 := []) (M1 := kSm (kr (he, ke, ki, fi, fa, or, mi, a, g, l, w, s))) (fun f => rfl) ?_
  exact kc_by0_m n hn n he ke ki fi fa or mi a g l w s 0 hV (by omega) (by omega)
set_option maxRecDepth 100000 in
theorem kc_by0_n (n : Nat) (hn : n < 1000) (k : Nat) : ∀ (he ke ki fi fa or : List Nat) (mi a g l w s j : Nat), kV (he, ke, ki, fi, fa, or, mi, a, g, l, w, s) → s + k < 2 ^ 30 → j + k = n → mm_R 43 2 [some (.ref 117), some (.int (nI n)), some (.int (nI j))] [] (kSn (kr (he, ke, ki, fi, fa, or, mi, a, g, l, w, s))) (none, kSn (kr (ksteps k (he, ke, ki, fi, fa, or, mi, a, g, l, w, s)))) := by
  induction k with
  | zero =>
    intro he ke ki fi fa or mi a g l w s j hV hs hj
    refine mr_seg 2 (pc1 := 4) (ls1 := [some (.ref 117), some (.int (nI n)), some (.int (nI j))]) (st1 := [.int (nI n), .int (nI j)]) (M1 := (kSn (kr (he, ke, ki, fi, fa, or, mi, a, g, l, w, s)))) (fun f => rfl) ?_
    refine mr_t (C := (nI n) ≤ (nI j)) (nI_let (a := n) (b := j) (by omega)) (fun f => rfl) ?_
    exact mr_ret 1 (fun f => rfl)
  | succ k IH =>
    intro he ke ki fi fa or mi a g l w s j hV hs hj
    refine mr_seg 2 (pc1 := 4) (ls1 := [some (.ref 117), some (.int (nI n)), some (.int (nI j))]) (st1 := [.int (nI n), .int (nI j)]) (M1 := (kSn (kr (he, ke, ki, fi, fa, or, mi, a, g, l, w, s)))) (fun f => rfl) ?_
    refine mr_f (C := (nI n) ≤ (nI j)) (nI_lef (a := n) (b := j) (by omega)) (fun f => rfl) ?_
    refine mr_seg 2 (pc1 := 9) (ls1 := [some (.ref 117), some (.int (nI n)), some (.int (nI j))]) (st1 := [.int 0, .ref 117]) (M1 := (kSn (kr (he, ke, ki, fi, fa, or, mi, a, g, l, w, s)))) (fun f => rfl) ?_
    refine mr_call (y := 44) (y0 := 12) (L := [some (.ref 117), some (.int 0), none, none, none]) (rest := []) (rr := none) (M1 := (kSn (kr (kstep (he, ke, ki, fi, fa, or, mi, a, g, l, w, s) 0)))) (fun f => rfl) (kc_adv_n he ke ki fi fa or mi a g l w s 0 (by decide) hV (by omega)) ?_
    generalize hK : kstep (he, ke, ki, fi, fa, or, mi, a, g, l, w, s) 0 = K2
    have hV2 : kV K2 := hK ▸ kV_step hV 0
    have hs2 : k_st K2 = s + 1 := hK ▸ kst_step (he, ke, ki, fi, fa, or, mi, a, g, l, w, s) 0
    obtain ⟨he2, ke2, ki2, fi2, fa2, or2, mi2, a2, g2, l2, w2, s2⟩ := K2
    have hs3 : s2 = s + 1 := hs2
    refine mr_seg 1 (pc1 := 15) (ls1 := [some (.ref 117), some (.int (nI n)), some (.int ((nI j) + 1))]) (st1 := []) (M1 := (kSn (kr (he2, ke2, ki2, fi2, fa2, or2, mi2, a2, g2, l2, w2, s2)))) (fun f => rfl) ?_
    refine mr_l (fun q_ => [some (.ref 117), some (.int (nI n)), some (.int q_)]) (nI_add j 1) ?_
    refine mr_seg 1 (pc1 := 2) (ls1 := [some (.ref 117), some (.int (nI n)), some (.int (nI (j + 1)))]) (st1 := []) (M1 := (kSn (kr (he2, ke2, ki2, fi2, fa2, or2, mi2, a2, g2, l2, w2, s2)))) (fun f => rfl) ?_
    rw [show ksteps (k + 1) (he, ke, ki, fi, fa, or, mi, a, g, l, w, s) = ksteps k (he2, ke2, ki2, fi2, fa2, or2, mi2, a2, g2, l2, w2, s2) from by show ksteps k (kstep (he, ke, ki, fi, fa, or, mi, a, g, l, w, s) 0) = _; rw [hK]]
    exact IH he2 ke2 ki2 fi2 fa2 or2 mi2 a2 g2 l2 w2 s2 (j + 1) hV2 (by omega) (by omega)
theorem kc_by_n (n : Nat) (hn : n < 1000) (K : kK) (hV : kV K) (hs : k_st K < 2 ^ 20) : mm_R 43 0 [some (.ref 117), some (.int (nI n)), none] [] (kSn (kr K)) (none, kSn (kr (ksteps n K))) := by
  obtain ⟨he, ke, ki, fi, fa, or, mi, a, g, l, w, s⟩ := K
  have hs' : s < 2 ^ 20 := hs
  refine mr_seg 2 (pc1 := 2) (ls1 := [some (.ref 117), some (.int (nI n)), some (.int 0)]) (st1 := []) (M1 := kSn (kr (he, ke, ki, fi, fa, or, mi, a, g, l, w, s))) (fun f => rfl) ?_
  exact kc_by0_n n hn n he ke ki fi fa or mi a g l w s 0 hV (by omega) (by omega)
set_option maxRecDepth 100000 in
theorem rc_by0_m (n : Nat) (hn : n < 1000) (k : Nat) : ∀ (he ke ki fi fa or : List Nat) (mi a g l w s j : Nat), kV (he, ke, ki, fi, fa, or, mi, a, g, l, w, s) → s + k < 2 ^ 30 → j + k = n → mm_R 145 2 [some (.ref 140), some (.int (nI n)), some (.int (nI j))] [] (rSm (er (he, ke, ki, fi, fa, or, mi, a, g, l, w, s))) (none, rSm (er (ksteps k (he, ke, ki, fi, fa, or, mi, a, g, l, w, s)))) := by
  induction k with
  | zero =>
    intro he ke ki fi fa or mi a g l w s j hV hs hj
    refine mr_seg 2 (pc1 := 4) (ls1 := [some (.ref 140), some (.int (nI n)), some (.int (nI j))]) (st1 := [.int (nI n), .int (nI j)]) (M1 := (rSm (er (he, ke, ki, fi, fa, or, mi, a, g, l, w, s)))) (fun f => rfl) ?_
    refine mr_t (C := (nI n) ≤ (nI j)) (nI_let (a := n) (b := j) (by omega)) (fun f => rfl) ?_
    exact mr_ret 1 (fun f => rfl)
  | succ k IH =>
    intro he ke ki fi fa or mi a g l w s j hV hs hj
    refine mr_seg 2 (pc1 := 4) (ls1 := [some (.ref 140), some (.int (nI n)), some (.int (nI j))]) (st1 := [.int (nI n), .int (nI j)]) (M1 := (rSm (er (he, ke, ki, fi, fa, or, mi, a, g, l, w, s)))) (fun f => rfl) ?_
    refine mr_f (C := (nI n) ≤ (nI j)) (nI_lef (a := n) (b := j) (by omega)) (fun f => rfl) ?_
    refine mr_seg 2 (pc1 := 9) (ls1 := [some (.ref 140), some (.int (nI n)), some (.int (nI j))]) (st1 := [.int 0, .ref 140]) (M1 := (rSm (er (he, ke, ki, fi, fa, or, mi, a, g, l, w, s)))) (fun f => rfl) ?_
    refine mr_call (y := 146) (y0 := 12) (L := [some (.ref 140), some (.int 0), none, none, none]) (rest := []) (rr := none) (M1 := (rSm (er (kstep (he, ke, ki, fi, fa, or, mi, a, g, l, w, s) 0)))) (fun f => rfl) (rc_step_m he ke ki fi fa or mi a g l w s 0 (by decide) hV (by omega)) ?_
    generalize hK : kstep (he, ke, ki, fi, fa, or, mi, a, g, l, w, s) 0 = K2
    have hV2 : kV K2 := hK ▸ kV_step hV 0
    have hs2 : k_st K2 = s + 1 := hK ▸ kst_step (he, ke, ki, fi, fa, or, mi, a, g, l, w, s) 0
    obtain ⟨he2, ke2, ki2, fi2, fa2, or2, mi2, a2, g2, l2, w2, s2⟩ := K2
    have hs3 : s2 = s + 1 := hs2
    refine mr_seg 1 (pc1 := 15) (ls1 := [some (.ref 140), some (.int (nI n)), some (.int ((nI j) + 1))]) (st1 := []) (M1 := (rSm (er (he2, ke2, ki2, fi2, fa2, or2, mi2, a2, g2, l2, w2, s2)))) (fun f => rfl) ?_
    refine mr_l (fun q_ => [some (.ref 140), some (.int (nI n)), some (.int q_)]) (nI_add j 1) ?_
    refine mr_seg 1 (pc1 := 2) (ls1 := [some (.ref 140), some (.int (nI n)), some (.int (nI (j + 1)))]) (st1 := []) (M1 := (rSm (er (he2, ke2, ki2, fi2, fa2, or2, mi2, a2, g2, l2, w2, s2)))) (fun f => rfl) ?_
    rw [show ksteps (k + 1) (he, ke, ki, fi, fa, or, mi, a, g, l, w, s) = ksteps k (he2, ke2, ki2, fi2, fa2, or2, mi2, a2, g2, l2, w2, s2) from by show ksteps k (kstep (he, ke, ki, fi, fa, or, mi, a, g, l, w, s) 0) = _; rw [hK]]
    exact IH he2 ke2 ki2 fi2 fa2 or2 mi2 a2 g2 l2 w2 s2 (j + 1) hV2 (by omega) (by omega)
theorem rc_by_m (n : Nat) (hn : n < 1000) (K : kK) (hV : kV K) (hs : k_st K < 2 ^ 20) : mm_R 145 0 [some (.ref 140), some (.int (nI n)), none] [] (rSm (er K)) (none, rSm (er (ksteps n K))) := by
  obtain ⟨he, ke, ki, fi, fa, or, mi, a, g, l, w, s⟩ := K
  have hs' : s < 2 ^ 20 := hs
  refine mr_seg 2 (pc1 := 2) (ls1 := [some (.ref 140), some (.int (nI n)), some (.int 0)]) (st1 := []) (M1 := rSm (er (he, ke, ki, fi, fa, or, mi, a, g, l, w, s))) (fun f => rfl) ?_
  exact rc_by0_m n hn n he ke ki fi fa or mi a g l w s 0 hV (by omega) (by omega)
set_option maxRecDepth 100000 in
theorem rc_by0_s (n : Nat) (hn : n < 1000) (k : Nat) : ∀ (he ke ki fi fa or : List Nat) (mi a g l w s j : Nat), kV (he, ke, ki, fi, fa, or, mi, a, g, l, w, s) → s + k < 2 ^ 30 → j + k = n → mm_R 145 2 [some (.ref 139), some (.int (nI n)), some (.int (nI j))] [] (rSs (er (he, ke, ki, fi, fa, or, mi, a, g, l, w, s))) (none, rSs (er (ksteps k (he, ke, ki, fi, fa, or, mi, a, g, l, w, s)))) := by
  induction k with
  | zero =>
    intro he ke ki fi fa or mi a g l w s j hV hs hj
    refine mr_seg 2 (pc1 := 4) (ls1 := [some (.ref 139), some (.int (nI n)), some (.int (nI j))]) (st1 := [.int (nI n), .int (nI j)]) (M1 := (rSs (er (he, ke, ki, fi, fa, or, mi, a, g, l, w, s)))) (fun f => rfl) ?_
    refine mr_t (C := (nI n) ≤ (nI j)) (nI_let (a := n) (b := j) (by omega)) (fun f => rfl) ?_
    exact mr_ret 1 (fun f => rfl)
  | succ k IH =>
    intro he ke ki fi fa or mi a g l w s j hV hs hj
    refine mr_seg 2 (pc1 := 4) (ls1 := [some (.ref 139), some (.int (nI n)), some (.int (nI j))]) (st1 := [.int (nI n), .int (nI j)]) (M1 := (rSs (er (he, ke, ki, fi, fa, or, mi, a, g, l, w, s)))) (fun f => rfl) ?_
    refine mr_f (C := (nI n) ≤ (nI j)) (nI_lef (a := n) (b := j) (by omega)) (fun f => rfl) ?_
    refine mr_seg 2 (pc1 := 9) (ls1 := [some (.ref 139), some (.int (nI n)), some (.int (nI j))]) (st1 := [.int 0, .ref 139]) (M1 := (rSs (er (he, ke, ki, fi, fa, or, mi, a, g, l, w, s)))) (fun f => rfl) ?_
    refine mr_call (y := 146) (y0 := 12) (L := [some (.ref 139), some (.int 0), none, none, none]) (rest := []) (rr := none) (M1 := (rSs (er (kstep (he, ke, ki, fi, fa, or, mi, a, g, l, w, s) 0)))) (fun f => rfl) (rc_step_s he ke ki fi fa or mi a g l w s 0 (by decide) hV (by omega)) ?_
    generalize hK : kstep (he, ke, ki, fi, fa, or, mi, a, g, l, w, s) 0 = K2
    have hV2 : kV K2 := hK ▸ kV_step hV 0
    have hs2 : k_st K2 = s + 1 := hK ▸ kst_step (he, ke, ki, fi, fa, or, mi, a, g, l, w, s) 0
    obtain ⟨he2, ke2, ki2, fi2, fa2, or2, mi2, a2, g2, l2, w2, s2⟩ := K2
    have hs3 : s2 = s + 1 := hs2
    refine mr_seg 1 (pc1 := 15) (ls1 := [some (.ref 139), some (.int (nI n)), some (.int ((nI j) + 1))]) (st1 := []) (M1 := (rSs (er (he2, ke2, ki2, fi2, fa2, or2, mi2, a2, g2, l2, w2, s2)))) (fun f => rfl) ?_
    refine mr_l (fun q_ => [some (.ref 139), some (.int (nI n)), some (.int q_)]) (nI_add j 1) ?_
    refine mr_seg 1 (pc1 := 2) (ls1 := [some (.ref 139), some (.int (nI n)), some (.int (nI (j + 1)))]) (st1 := []) (M1 := (rSs (er (he2, ke2, ki2, fi2, fa2, or2, mi2, a2, g2, l2, w2, s2)))) (fun f => rfl) ?_
    rw [show ksteps (k + 1) (he, ke, ki, fi, fa, or, mi, a, g, l, w, s) = ksteps k (he2, ke2, ki2, fi2, fa2, or2, mi2, a2, g2, l2, w2, s2) from by show ksteps k (kstep (he, ke, ki, fi, fa, or, mi, a, g, l, w, s) 0) = _; rw [hK]]
    exact IH he2 ke2 ki2 fi2 fa2 or2 mi2 a2 g2 l2 w2 s2 (j + 1) hV2 (by omega) (by omega)
theorem rc_by_s (n : Nat) (hn : n < 1000) (K : kK) (hV : kV K) (hs : k_st K < 2 ^ 20) : mm_R 145 0 [some (.ref 139), some (.int (nI n)), none] [] (rSs (er K)) (none, rSs (er (ksteps n K))) := by
  obtain ⟨he, ke, ki, fi, fa, or, mi, a, g, l, w, s⟩ := K
  have hs' : s < 2 ^ 20 := hs
  refine mr_seg 2 (pc1 := 2) (ls1 := [some (.ref 139), some (.int (nI n)), some (.int 0)]) (st1 := []) (M1 := rSs (er (he, ke, ki, fi, fa, or, mi, a, g, l, w, s))) (fun f => rfl) ?_
  exact rc_by0_s n hn n he ke ki fi fa or mi a g l w s 0 hV (by omega) (by omega)
def kwaK : Nat → kK → Nat → kK
  | 0, k, _ => k
  | r + 1, k, c => if k_at k = c then k else kwaK r (kstep k 0) c
def kwfK : Nat → kK → Nat → Nat → kK
  | 0, k, _, _ => k
  | r + 1, k, p, f => if f < kg (k_fa (kstep k 0)) p then kstep k 0 else kwfK r (kstep k 0) p f
theorem kwa_t {r n c : Nat} {k : kK} (h : k_at k = c) : kwa r n k c = some n := by
  cases r <;> (unfold kwa; rw [if_pos h])
theorem kwa_f {r n c : Nat} {k : kK} (h : ¬ k_at k = c) : kwa (r + 1) n k c = kwa r (n + 1) (kstep k 0) c := by
  show (if k_at k = c then some n else kwa r (n + 1) (kstep k 0) c) = _
  rw [if_neg h]
theorem kwa_0 {n c : Nat} {k : kK} (h : ¬ k_at k = c) : kwa 0 n k c = none := by
  unfold kwa
  rw [if_neg h]
theorem kwaK_t {r c : Nat} {k : kK} (h : k_at k = c) : kwaK r k c = k := by
  cases r with
  | zero => rfl
  | succ r =>
    unfold kwaK
    rw [if_pos h]
theorem kwaK_f {r c : Nat} {k : kK} (h : ¬ k_at k = c) : kwaK (r + 1) k c = kwaK r (kstep k 0) c := by
  show (if k_at k = c then k else kwaK r (kstep k 0) c) = _
  rw [if_neg h]
theorem kV_waK : ∀ (r : Nat) {k : kK} (c : Nat), kV k → kV (kwaK r k c)
  | 0, _, _, h => h
  | r + 1, k, c, h => by
    by_cases q : k_at k = c
    · rw [kwaK_t q]
      exact h
    · rw [kwaK_f q]
      exact kV_waK r c (kV_step h 0)
theorem kwf_t {r n p f : Nat} {k k2 : kK} (e : kstep k 0 = k2) (h : f < kg (k_fa k2) p) : kwf (r + 1) n k p f = some n ∧ kwfK (r + 1) k p f = k2 := by
  subst e
  exact ⟨if_pos h, if_pos h⟩
theorem kwf_f {r n p f : Nat} {k k2 : kK} (e : kstep k 0 = k2) (h : ¬ f < kg (k_fa k2) p) : kwf (r + 1) n k p f = kwf r (n + 1) k2 p f ∧ kwfK (r + 1) k p f = kwfK r k2 p f := by
  subst e
  exact ⟨if_neg h, if_neg h⟩
theorem kV_wfK : ∀ (r : Nat) {k : kK} (p f : Nat), kV k → kV (kwfK r k p f)
  | 0, _, _, _, h => h
  | r + 1, k, p, f, h => by
    by_cases q : f < kg (k_fa (kstep k 0)) p
    · rw [(kwf_t (n := 0) rfl q).2]
      exact kV_step h 0
    · rw [(kwf_f (n := 0) rfl q).2]
      exact kV_wfK r p f (kV_step h 0)
set_option maxRecDepth 100000 in
theorem kc_wa0 (c : Nat) (hc : c < 25) (k : Nat) : ∀ (he ke ki fi fa or : List Nat) (mi a g l w s j : Nat), kV (he, ke, ki, fi, fa, or, mi, a, g, l, w, s) → s + k < 2 ^ 30 → j + k = 60 → mm_R 80 2 [some (.ref 124), some (.int (nI c)), some (.int (nI j))] [] (kSm (kr (he, ke, ki, fi, fa, or, mi, a, g, l, w, s))) (some (.int (kN (kwa k j (he, ke, ki, fi, fa, or, mi, a, g, l, w, s) c))), kSm (kr (kwaK k (he, ke, ki, fi, fa, or, mi, a, g, l, w, s) c))) := by
  induction k with
  | zero =>
    intro he ke ki fi fa or mi a g l w s j hV hs hj
    have ha : a < 25 := hV.2.2.2.2.2.2.2.1
    refine mr_seg 2 (pc1 := 5) (ls1 := [some (.ref 124), some (.int (nI c)), some (.int (nI j))]) (st1 := [.int 60, .int (nI j)]) (M1 := (kSm (kr (he, ke, ki, fi, fa, or, mi, a, g, l, w, s)))) (fun f => rfl) ?_
    refine mr_t (C := 60 ≤ (nI j)) (nI_let (a := 60) (b := j) (by omega)) (fun f => rfl) ?_
    refine mr_seg 3 (pc1 := 34) (ls1 := [some (.ref 124), some (.int (nI c)), some (.int (nI j))]) (st1 := [.int (nI c), .int (nI a)]) (M1 := (kSm (kr (he, ke, ki, fi, fa, or, mi, a, g, l, w, s)))) (fun f => rfl) ?_
    refine mr_ifN (C := (nI a) = (nI c)) (nI_eqi (a := a) (b := c) (by omega)) (fun f => rfl) (fun h1 => ?_) (fun h1 => ?_)
    · refine mr_eq (mr_ret 3 (o := (some (.int 60), (kSm (kr (he, ke, ki, fi, fa, or, mi, a, g, l, w, s))))) (fun f => rfl)) ?_
      rw [kwa_t (show k_at (he, ke, ki, fi, fa, or, mi, a, g, l, w, s) = c from h1), show j = 60 by omega]
      rfl
    · refine mr_eq (mr_ret 2 (o := (some (.int 1000000), (kSm (kr (he, ke, ki, fi, fa, or, mi, a, g, l, w, s))))) (fun f => rfl)) ?_
      rw [kwa_0 (show ¬ k_at (he, ke, ki, fi, fa, or, mi, a, g, l, w, s) = c from h1)]
      rfl
  | succ k IH =>
    intro he ke ki fi fa or mi a g l w s j hV hs hj
    have ha : a < 25 := hV.2.2.2.2.2.2.2.1
    refine mr_seg 2 (pc1 := 5) (ls1 := [some (.ref 124), some (.int (nI c)), some (.int (nI j))]) (st1 := [.int 60, .int (nI j)]) (M1 := (kSm (kr (he, ke, ki, fi, fa, or, mi, a, g, l, w, s)))) (fun f => rfl) ?_
    refine mr_f (C := 60 ≤ (nI j)) (nI_lef (a := 60) (b := j) (by omega)) (fun f => rfl) ?_
    refine mr_seg 3 (pc1 := 13) (ls1 := [some (.ref 124), some (.int (nI c)), some (.int (nI j))]) (st1 := [.int (nI c), .int (nI a)]) (M1 := (kSm (kr (he, ke, ki, fi, fa, or, mi, a, g, l, w, s)))) (fun f => rfl) ?_
    refine mr_ifN (C := (nI a) = (nI c)) (nI_eqi (a := a) (b := c) (by omega)) (fun f => rfl) (fun h1 => ?_) (fun h1 => ?_)
    · refine mr_eq (mr_ret 2 (o := (some (.int (nI j)), (kSm (kr (he, ke, ki, fi, fa, or, mi, a, g, l, w, s))))) (fun f => rfl)) ?_
      rw [kwa_t (show k_at (he, ke, ki, fi, fa, or, mi, a, g, l, w, s) = c from h1), kwaK_t (show k_at (he, ke, ki, fi, fa, or, mi, a, g, l, w, s) = c from h1)]
      rfl
    · refine mr_seg 2 (pc1 := 20) (ls1 := [some (.ref 124), some (.int (nI c)), some (.int (nI j))]) (st1 := [.int 0, .ref 124]) (M1 := (kSm (kr (he, ke, ki, fi, fa, or, mi, a, g, l, w, s)))) (fun f => rfl) ?_
      refine mr_call (y := 44) (y0 := 23) (L := [some (.ref 124), some (.int 0), none, none, none]) (rest := []) (rr := none) (M1 := (kSm (kr (kstep (he, ke, ki, fi, fa, or, mi, a, g, l, w, s) 0)))) (fun f => rfl) (kc_adv_m he ke ki fi fa or mi a g l w s 0 (by decide) hV (by omega)) ?_
      generalize hK : kstep (he, ke, ki, fi, fa, or, mi, a, g, l, w, s) 0 = K2
      have hV2 : kV K2 := hK ▸ kV_step hV 0
      have hs2 : k_st K2 = s + 1 := hK ▸ kst_step (he, ke, ki, fi, fa, or, mi, a, g, l, w, s) 0
      obtain ⟨he2, ke2, ki2, fi2, fa2, or2, mi2, a2, g2, l2, w2, s2⟩ := K2
      have hs3 : s2 = s + 1 := hs2
      refine mr_seg 1 (pc1 := 26) (ls1 := [some (.ref 124), some (.int (nI c)), some (.int ((nI j) + 1))]) (st1 := []) (M1 := (kSm (kr (he2, ke2, ki2, fi2, fa2, or2, mi2, a2, g2, l2, w2, s2)))) (fun f => rfl) ?_
      refine mr_l (fun q_ => [some (.ref 124), some (.int (nI c)), some (.int q_)]) (nI_add j 1) ?_
      refine mr_seg 1 (pc1 := 2) (ls1 := [some (.ref 124), some (.int (nI c)), some (.int (nI (j + 1)))]) (st1 := []) (M1 := (kSm (kr (he2, ke2, ki2, fi2, fa2, or2, mi2, a2, g2, l2, w2, s2)))) (fun f => rfl) ?_
      rw [kwa_f (show ¬ k_at (he, ke, ki, fi, fa, or, mi, a, g, l, w, s) = c from h1), kwaK_f (show ¬ k_at (he, ke, ki, fi, fa, or, mi, a, g, l, w, s) = c from h1), hK]
      exact IH he2 ke2 ki2 fi2 fa2 or2 mi2 a2 g2 l2 w2 s2 (j + 1) hV2 (by omega) (by omega)
theorem kc_wa (c : Nat) (hc : c < 25) (K : kK) (hV : kV K) (hs : k_st K < 2 ^ 20) : mm_R 80 0 [some (.ref 124), some (.int (nI c)), none] [] (kSm (kr K)) (some (.int (kN (kwa 60 0 K c))), kSm (kr (kwaK 60 K c))) := by
  obtain ⟨he, ke, ki, fi, fa, or, mi, a, g, l, w, s⟩ := K
  have hs' : s < 2 ^ 20 := hs
  refine mr_seg 2 (pc1 := 2) (ls1 := [some (.ref 124), some (.int (nI c)), some (.int 0)]) (st1 := []) (M1 := kSm (kr (he, ke, ki, fi, fa, or, mi, a, g, l, w, s))) (fun f => rfl) ?_
  exact kc_wa0 c hc 60 he ke ki fi fa or mi a g l w s 0 hV (by omega) (by omega)
set_option maxRecDepth 100000 in
theorem kc_wt0 (he ke ki fi fa or : List Nat) (mi a g l w s : Nat) (hV : kV (he, ke, ki, fi, fa, or, mi, a, g, l, w, s)) (hs : s < 2 ^ 20) : mm_R 89 0 [some (.ref 124)] [] (kSm (kr (he, ke, ki, fi, fa, or, mi, a, g, l, w, s))) (some (.int (kN (kwa 60 0 (he, ke, ki, fi, fa, or, mi, a, g, l, w, s) g))), kSm (kr (kwaK 60 (he, ke, ki, fi, fa, or, mi, a, g, l, w, s) g))) := by
  have hg : g < 25 := hV.2.2.2.2.2.2.2.2.1
  refine mr_seg 3 (pc1 := 5) (ls1 := [some (.ref 124)]) (st1 := [.int (nI g), .ref 124]) (M1 := (kSm (kr (he, ke, ki, fi, fa, or, mi, a, g, l, w, s)))) (fun f => rfl) ?_
  refine mr_call (y := 80) (y0 := 8) (L := [some (.ref 124), some (.int (nI g)), none]) (rest := []) (rr := some (.int (kN (kwa 60 0 (he, ke, ki, fi, fa, or, mi, a, g, l, w, s) g)))) (M1 := (kSm (kr (kwaK 60 (he, ke, ki, fi, fa, or, mi, a, g, l, w, s) g)))) (fun f => rfl) (kc_wa g (by omega) (he, ke, ki, fi, fa, or, mi, a, g, l, w, s) hV hs) ?_
  exact mr_ret 1 (fun f => rfl)
theorem kc_wt (K : kK) (hV : kV K) (hs : k_st K < 2 ^ 20) : mm_R 89 0 [some (.ref 124)] [] (kSm (kr K)) (some (.int (kN (kwa 60 0 K (k_go K)))), kSm (kr (kwaK 60 K (k_go K)))) := by
  obtain ⟨he, ke, ki, fi, fa, or, mi, a, g, l, w, s⟩ := K
  exact kc_wt0 he ke ki fi fa or mi a g l w s hV hs
set_option maxRecDepth 100000 in
theorem kc_wf0 (p f : Nat) (hp : p < 5) (hf : f ≤ 99) (k : Nat) : ∀ (he ke ki fi fa or : List Nat) (mi a g l w s j : Nat), kV (he, ke, ki, fi, fa, or, mi, a, g, l, w, s) → s + k < 2 ^ 30 → j + k = 61 → mm_R 83 9 [some (.ref 124), some (.int (nI p)), some (.int (nI f)), some (.int (nI j))] [] (kSm (kr (he, ke, ki, fi, fa, or, mi, a, g, l, w, s))) (some (.int (kN (kwf k j (he, ke, ki, fi, fa, or, mi, a, g, l, w, s) p f))), kSm (kr (kwfK k (he, ke, ki, fi, fa, or, mi, a, g, l, w, s) p f))) := by
  induction k with
  | zero =>
    intro he ke ki fi fa or mi a g l w s j hV hs hj
    refine mr_seg 2 (pc1 := 12) (ls1 := [some (.ref 124), some (.int (nI p)), some (.int (nI f)), some (.int (nI j))]) (st1 := [.int 60, .int (nI j)]) (M1 := (kSm (kr (he, ke, ki, fi, fa, or, mi, a, g, l, w, s)))) (fun f => rfl) ?_
    refine mr_t (C := 60 < (nI j)) (nI_ltt (a := 60) (b := j) (by omega)) (fun f => rfl) ?_
    refine mr_eq (mr_ret 2 (o := (some (.int 1000000), (kSm (kr (he, ke, ki, fi, fa, or, mi, a, g, l, w, s))))) (fun f => rfl)) ?_
    rfl
  | succ k IH =>
    intro he ke ki fi fa or mi a g l w s j hV hs hj
    refine mr_seg 2 (pc1 := 12) (ls1 := [some (.ref 124), some (.int (nI p)), some (.int (nI f)), some (.int (nI j))]) (st1 := [.int 60, .int (nI j)]) (M1 := (kSm (kr (he, ke, ki, fi, fa, or, mi, a, g, l, w, s)))) (fun f => rfl) ?_
    refine mr_f (C := 60 < (nI j)) (nI_ltf (a := 60) (b := j) (by omega)) (fun f => rfl) ?_
    refine mr_seg 2 (pc1 := 17) (ls1 := [some (.ref 124), some (.int (nI p)), some (.int (nI f)), some (.int (nI j))]) (st1 := [.int 0, .ref 124]) (M1 := (kSm (kr (he, ke, ki, fi, fa, or, mi, a, g, l, w, s)))) (fun f => rfl) ?_
    refine mr_call (y := 44) (y0 := 20) (L := [some (.ref 124), some (.int 0), none, none, none]) (rest := []) (rr := none) (M1 := (kSm (kr (kstep (he, ke, ki, fi, fa, or, mi, a, g, l, w, s) 0)))) (fun f => rfl) (kc_adv_m he ke ki fi fa or mi a g l w s 0 (by decide) hV (by omega)) ?_
    generalize hK : kstep (he, ke, ki, fi, fa, or, mi, a, g, l, w, s) 0 = K2
    have hV2 : kV K2 := hK ▸ kV_step hV 0
    have hs2 : k_st K2 = s + 1 := hK ▸ kst_step (he, ke, ki, fi, fa, or, mi, a, g, l, w, s) 0
    obtain ⟨he2, ke2, ki2, fi2, fa2, or2, mi2, a2, g2, l2, w2, s2⟩ := K2
    have hs3 : s2 = s + 1 := hs2
    have hf5 : fa2.length = 5 := hV2.2.2.2.2.1
    have hf9 : kg fa2 p ≤ 99 := hV2.2.2.2.2.2.2.2.2.2.2.2.2.2.2.2 p
    refine mr_seg 3 (pc1 := 25) (ls1 := [some (.ref 124), some (.int (nI p)), some (.int (nI f)), some (.int (nI j))]) (st1 := [.int (nI p), .ref 129]) (M1 := (kSm (kr (he2, ke2, ki2, fi2, fa2, or2, mi2, a2, g2, l2, w2, s2)))) (fun f => rfl) ?_
    refine mr_ldk (l0 := fa2) rfl rfl (k := p) (by omega) ?_
    refine mr_seg 1 (pc1 := 27) (ls1 := [some (.ref 124), some (.int (nI p)), some (.int (nI f)), some (.int (nI j))]) (st1 := [.int (nI f), .int (nI (kg fa2 p))]) (M1 := (kSm (kr (he2, ke2, ki2, fi2, fa2, or2, mi2, a2, g2, l2, w2, s2)))) (fun f => rfl) ?_
    refine mr_ifN (C := (nI (kg fa2 p)) ≤ (nI f)) (nI_lei (a := kg fa2 p) (b := f) (by omega)) (fun f => rfl) (fun h1 => ?_) (fun h1 => ?_)
    · refine mr_seg 1 (pc1 := 35) (ls1 := [some (.ref 124), some (.int (nI p)), some (.int (nI f)), some (.int ((nI j) + 1))]) (st1 := []) (M1 := (kSm (kr (he2, ke2, ki2, fi2, fa2, or2, mi2, a2, g2, l2, w2, s2)))) (fun f => rfl) ?_
      refine mr_l (fun q_ => [some (.ref 124), some (.int (nI p)), some (.int (nI f)), some (.int q_)]) (nI_add j 1) ?_
      refine mr_seg 1 (pc1 := 9) (ls1 := [some (.ref 124), some (.int (nI p)), some (.int (nI f)), some (.int (nI (j + 1)))]) (st1 := []) (M1 := (kSm (kr (he2, ke2, ki2, fi2, fa2, or2, mi2, a2, g2, l2, w2, s2)))) (fun f => rfl) ?_
      have q := kwf_f (r := k) (n := j) (p := p) (f := f) hK (show ¬ f < kg (k_fa (he2, ke2, ki2, fi2, fa2, or2, mi2, a2, g2, l2, w2, s2)) p by show ¬ f < kg fa2 p; omega)
      rw [q.1, q.2]
      exact IH he2 ke2 ki2 fi2 fa2 or2 mi2 a2 g2 l2 w2 s2 (j + 1) hV2 (by omega) (by omega)
    · refine mr_eq (mr_ret 2 (o := (some (.int (nI j)), (kSm (kr (he2, ke2, ki2, fi2, fa2, or2, mi2, a2, g2, l2, w2, s2))))) (fun f => rfl)) ?_
      have q := kwf_t (r := k) (n := j) (p := p) (f := f) hK (show f < kg (k_fa (he2, ke2, ki2, fi2, fa2, or2, mi2, a2, g2, l2, w2, s2)) p by show f < kg fa2 p; omega)
      rw [q.1, q.2]
      rfl
theorem kc_wf (p : Nat) (hp : p < 5) (K : kK) (hV : kV K) (hs : k_st K < 2 ^ 20) : mm_R 83 0 [some (.ref 124), some (.int (nI p)), none, none] [] (kSm (kr K)) (some (.int (kN (kwf 60 1 K p (kg (k_fa K) p)))), kSm (kr (kwfK 60 K p (kg (k_fa K) p)))) := by
  obtain ⟨he, ke, ki, fi, fa, or, mi, a, g, l, w, s⟩ := K
  have hs' : s < 2 ^ 20 := hs
  obtain ⟨v1, v2, v3, v4, v5, v6, v7, v8, v9, v10, v11, v12, v13, v14, v15, v16⟩ := id hV
  have w16 := v16 p
  refine mr_seg 3 (pc1 := 5) (ls1 := [some (.ref 124), some (.int (nI p)), none, none]) (st1 := [.int (nI p), .ref 129]) (M1 := (kSm (kr (he, ke, ki, fi, fa, or, mi, a, g, l, w, s)))) (fun f => rfl) ?_
  refine mr_ldk (l0 := fa) rfl rfl (k := p) (by omega) ?_
  refine mr_seg 3 (pc1 := 9) (ls1 := [some (.ref 124), some (.int (nI p)), some (.int (nI (kg fa p))), some (.int 1)]) (st1 := []) (M1 := (kSm (kr (he, ke, ki, fi, fa, or, mi, a, g, l, w, s)))) (fun f => rfl) ?_
  exact kc_wf0 p (kg fa p) hp (v16 p) 60 he ke ki fi fa or mi a g l w s 1 hV (by omega) (by omega)
set_option maxRecDepth 100000 in
theorem kc_af0_m (he ke ki fi fa or : List Nat) (mi a g l w s : Nat) (hV : kV (he, ke, ki, fi, fa, or, mi, a, g, l, w, s)) (k : Nat) : ∀ j : Nat, j + k = mi → mm_R 77 4 [some (.ref 124), some (.int (nI (ksum fa j))), some (.int (nI j))] [] (kSm (kr (he, ke, ki, fi, fa, or, mi, a, g, l, w, s))) (some (.int (nI (ksum fa mi))), kSm (kr (he, ke, ki, fi, fa, or, mi, a, g, l, w, s))) := by
  obtain ⟨v1, v2, v3, v4, v5, v6, v7, v8, v9, v10, v11, v12, v13, v14, v15, v16⟩ := hV
  have v6l := kO_len mi v7 or v6
  have qs := ksum_le v16
  induction k with
  | zero =>
    intro j hj
    have q1 := qs j
    have q2 := qs (j + 1)
    have q3 := v16 j
    refine mr_seg 3 (pc1 := 9) (ls1 := [some (.ref 124), some (.int (nI (ksum fa j))), some (.int (nI j))]) (st1 := [.int (nI mi), .int (nI j)]) (M1 := (kSm (kr (he, ke, ki, fi, fa, or, mi, a, g, l, w, s)))) (fun f => rfl) ?_
    refine mr_t (C := (nI mi) ≤ (nI j)) (nI_let (a := mi) (b := j) (by omega)) (fun f => rfl) ?_
    refine mr_eq (mr_ret 2 (o := (some (.int (nI (ksum fa j))), (kSm (kr (he, ke, ki, fi, fa, or, mi, a, g, l, w, s))))) (fun f => rfl)) ?_
    rw [show j = mi by omega]
  | succ k IH =>
    intro j hj
    have q1 := qs j
    have q2 := qs (j + 1)
    have q3 := v16 j
    refine mr_seg 3 (pc1 := 9) (ls1 := [some (.ref 124), some (.int (nI (ksum fa j))), some (.int (nI j))]) (st1 := [.int (nI mi), .int (nI j)]) (M1 := (kSm (kr (he, ke, ki, fi, fa, or, mi, a, g, l, w, s)))) (fun f => rfl) ?_
    refine mr_f (C := (nI mi) ≤ (nI j)) (nI_lef (a := mi) (b := j) (by omega)) (fun f => rfl) ?_
    refine mr_seg 4 (pc1 := 18) (ls1 := [some (.ref 124), some (.int (nI (ksum fa j))), some (.int (nI j))]) (st1 := [.int (nI j), .ref 129, .int (nI (ksum fa j))]) (M1 := (kSm (kr (he, ke, ki, fi, fa, or, mi, a, g, l, w, s)))) (fun f => rfl) ?_
    refine mr_ldk (l0 := fa) rfl rfl (k := j) (by omega) ?_
    refine mr_seg 1 (pc1 := 20) (ls1 := [some (.ref 124), some (.int (nI (ksum fa j))), some (.int (nI j))]) (st1 := [.int ((nI (ksum fa j)) + (nI (kg fa j)))]) (M1 := (kSm (kr (he, ke, ki, fi, fa, or, mi, a, g, l, w, s)))) (fun f => rfl) ?_
    refine mr_v (nI_add (ksum fa j) (kg fa j)) ?_
    refine mr_seg 2 (pc1 := 24) (ls1 := [some (.ref 124), some (.int (nI (ksum fa j + kg fa j))), some (.int ((nI j) + 1))]) (st1 := []) (M1 := (kSm (kr (he, ke, ki, fi, fa, or, mi, a, g, l, w, s)))) (fun f => rfl) ?_
    refine mr_l (fun q_ => [some (.ref 124), some (.int (nI (ksum fa j + kg fa j))), some (.int q_)]) (nI_add j 1) ?_
    refine mr_seg 1 (pc1 := 4) (ls1 := [some (.ref 124), some (.int (nI (ksum fa j + kg fa j))), some (.int (nI (j + 1)))]) (st1 := []) (M1 := (kSm (kr (he, ke, ki, fi, fa, or, mi, a, g, l, w, s)))) (fun f => rfl) ?_
    exact IH (j + 1) (by omega)
theorem kc_af_m (K : kK) (hV : kV K) : mm_R 77 0 [some (.ref 124), none, none] [] (kSm (kr K)) (some (.int (nI (ksum (k_fa K) (k_mi K)))), kSm (kr K)) := by
  obtain ⟨he, ke, ki, fi, fa, or, mi, a, g, l, w, s⟩ := K
  refine mr_seg 4 (pc1 := 4) (ls1 := [some (.ref 124), some (.int 0), some (.int 0)]) (st1 := []) (M1 := kSm (kr (he, ke, ki, fi, fa, or, mi, a, g, l, w, s))) (fun f => rfl) ?_
  exact kc_af0_m he ke ki fi fa or mi a g l w s hV mi 0 (by omega)
set_option maxRecDepth 100000 in
theorem kc_af0_n (he ke ki fi fa or : List Nat) (mi a g l w s : Nat) (hV : kV (he, ke, ki, fi, fa, or, mi, a, g, l, w, s)) (k : Nat) : ∀ j : Nat, j + k = mi → mm_R 77 4 [some (.ref 117), some (.int (nI (ksum fa j))), some (.int (nI j))] [] (kSn (kr (he, ke, ki, fi, fa, or, mi, a, g, l, w, s))) (some (.int (nI (ksum fa mi))), kSn (kr (he, ke, ki, fi, fa, or, mi, a, g, l, w, s))) := by
  obtain ⟨v1, v2, v3, v4, v5, v6, v7, v8, v9, v10, v11, v12, v13, v14, v15, v16⟩ := hV
  have v6l := kO_len mi v7 or v6
  have qs := ksum_le v16
  induction k with
  | zero =>
    intro j hj
    have q1 := qs j
    have q2 := qs (j + 1)
    have q3 := v16 j
    refine mr_seg 3 (pc1 := 9) (ls1 := [some (.ref 117), some (.int (nI (ksum fa j))), some (.int (nI j))]) (st1 := [.int (nI mi), .int (nI j)]) (M1 := (kSn (kr (he, ke, ki, fi, fa, or, mi, a, g, l, w, s)))) (fun f => rfl) ?_
    refine mr_t (C := (nI mi) ≤ (nI j)) (nI_let (a := mi) (b := j) (by omega)) (fun f => rfl) ?_
    refine mr_eq (mr_ret 2 (o := (some (.int (nI (ksum fa j))), (kSn (kr (he, ke, ki, fi, fa, or, mi, a, g, l, w, s))))) (fun f => rfl)) ?_
    rw [show j = mi by omega]
  | succ k IH =>
    intro j hj
    have q1 := qs j
    have q2 := qs (j + 1)
    have q3 := v16 j
    refine mr_seg 3 (pc1 := 9) (ls1 := [some (.ref 117), some (.int (nI (ksum fa j))), some (.int (nI j))]) (st1 := [.int (nI mi), .int (nI j)]) (M1 := (kSn (kr (he, ke, ki, fi, fa, or, mi, a, g, l, w, s)))) (fun f => rfl) ?_
    refine mr_f (C := (nI mi) ≤ (nI j)) (nI_lef (a := mi) (b := j) (by omega)) (fun f => rfl) ?_
    refine mr_seg 4 (pc1 := 18) (ls1 := [some (.ref 117), some (.int (nI (ksum fa j))), some (.int (nI j))]) (st1 := [.int (nI j), .ref 122, .int (nI (ksum fa j))]) (M1 := (kSn (kr (he, ke, ki, fi, fa, or, mi, a, g, l, w, s)))) (fun f => rfl) ?_
    refine mr_ldk (l0 := fa) rfl rfl (k := j) (by omega) ?_
    refine mr_seg 1 (pc1 := 20) (ls1 := [some (.ref 117), some (.int (nI (ksum fa j))), some (.int (nI j))]) (st1 := [.int ((nI (ksum fa j)) + (nI (kg fa j)))]) (M1 := (kSn (kr (he, ke, ki, fi, fa, or, mi, a, g, l, w, s)))) (fun f => rfl) ?_
    refine mr_v (nI_add (ksum fa j) (kg fa j)) ?_
    refine mr_seg 2 (pc1 := 24) (ls1 := [some (.ref 117), some (.int (nI (ksum fa j + kg fa j))), some (.int ((nI j) + 1))]) (st1 := []) (M1 := (kSn (kr (he, ke, ki, fi, fa, or, mi, a, g, l, w, s)))) (fun f => rfl) ?_
    refine mr_l (fun q_ => [some (.ref 117), some (.int (nI (ksum fa j + kg fa j))), some (.int q_)]) (nI_add j 1) ?_
    refine mr_seg 1 (pc1 := 4) (ls1 := [some (.ref 117), some (.int (nI (ksum fa j + kg fa j))), some (.int (nI (j + 1)))]) (st1 := []) (M1 := (kSn (kr (he, ke, ki, fi, fa, or, mi, a, g, l, w, s)))) (fun f => rfl) ?_
    exact IH (j + 1) (by omega)
theorem kc_af_n (K : kK) (hV : kV K) : mm_R 77 0 [some (.ref 117), none, none] [] (kSn (kr K)) (some (.int (nI (ksum (k_fa K) (k_mi K)))), kSn (kr K)) := by
  obtain ⟨he, ke, ki, fi, fa, or, mi, a, g, l, w, s⟩ := K
  refine mr_seg 4 (pc1 := 4) (ls1 := [some (.ref 117), some (.int 0), some (.int 0)]) (st1 := []) (M1 := kSn (kr (he, ke, ki, fi, fa, or, mi, a, g, l, w, s))) (fun f => rfl) ?_
  exact kc_af0_n he ke ki fi fa or mi a g l w s hV mi 0 (by omega)
set_option maxRecDepth 100000 in
theorem rc_af0_m (he ke ki fi fa or : List Nat) (mi a g l w s : Nat) (hV : kV (he, ke, ki, fi, fa, or, mi, a, g, l, w, s)) (k : Nat) : ∀ j : Nat, j + k = mi → mm_R 170 4 [some (.ref 140), some (.int (nI (ksum fa j))), some (.int (nI j))] [] (rSm (er (he, ke, ki, fi, fa, or, mi, a, g, l, w, s))) (some (.int (nI (ksum fa mi))), rSm (er (he, ke, ki, fi, fa, or, mi, a, g, l, w, s))) := by
  obtain ⟨v1, v2, v3, v4, v5, v6, v7, v8, v9, v10, v11, v12, v13, v14, v15, v16⟩ := hV
  have v6l := kO_len mi v7 or v6
  have qs := ksum_le v16
  induction k with
  | zero =>
    intro j hj
    have q1 := qs j
    have q2 := qs (j + 1)
    have q3 := v16 j
    refine mr_seg 3 (pc1 := 7) (ls1 := [some (.ref 140), some (.int (nI (ksum fa j))), some (.int (nI j))]) (st1 := [.int 0, .ref 140, .int (nI j)]) (M1 := (rSm (er (he, ke, ki, fi, fa, or, mi, a, g, l, w, s)))) (fun f => rfl) ?_
    refine mr_ldn (xs := (er (he, ke, ki, fi, fa, or, mi, a, g, l, w, s))) rfl rfl (k := 0) (by decide) rfl ?_
    refine mr_t (C := (nI mi) ≤ (nI j)) (nI_let (a := mi) (b := j) (by omega)) (fun f => rfl) ?_
    refine mr_eq (mr_ret 2 (o := (some (.int (nI (ksum fa j))), (rSm (er (he, ke, ki, fi, fa, or, mi, a, g, l, w, s))))) (fun f => rfl)) ?_
    rw [show j = mi by omega]
  | succ k IH =>
    intro j hj
    have q1 := qs j
    have q2 := qs (j + 1)
    have q3 := v16 j
    refine mr_seg 3 (pc1 := 7) (ls1 := [some (.ref 140), some (.int (nI (ksum fa j))), some (.int (nI j))]) (st1 := [.int 0, .ref 140, .int (nI j)]) (M1 := (rSm (er (he, ke, ki, fi, fa, or, mi, a, g, l, w, s)))) (fun f => rfl) ?_
    refine mr_ldn (xs := (er (he, ke, ki, fi, fa, or, mi, a, g, l, w, s))) rfl rfl (k := 0) (by decide) rfl ?_
    refine mr_f (C := (nI mi) ≤ (nI j)) (nI_lef (a := mi) (b := j) (by omega)) (fun f => rfl) ?_
    refine mr_seg 4 (pc1 := 15) (ls1 := [some (.ref 140), some (.int (nI (ksum fa j))), some (.int (nI j))]) (st1 := [.int 2, .int (nI j), .ref 140, .int (nI (ksum fa j))]) (M1 := (rSm (er (he, ke, ki, fi, fa, or, mi, a, g, l, w, s)))) (fun f => rfl) ?_
    refine mr_call (y := 141) (y0 := 18) (L := [some (.int (nI j)), some (.int 2)]) (rest := [.ref 140, .int (nI (ksum fa j))]) (rr := some (.int (nI (32 + 3 * j + 2)))) (M1 := (rSm (er (he, ke, ki, fi, fa, or, mi, a, g, l, w, s)))) (fun f => rfl) (rc_of j 2 (by omega) (by decide) _) ?_
    refine mr_ldn (xs := (er (he, ke, ki, fi, fa, or, mi, a, g, l, w, s))) rfl rfl (k := 32 + 3 * j + 2) (by omega) (er_fa (K := (he, ke, ki, fi, fa, or, mi, a, g, l, w, s)) v1 (by omega)) ?_
    refine mr_seg 1 (pc1 := 20) (ls1 := [some (.ref 140), some (.int (nI (ksum fa j))), some (.int (nI j))]) (st1 := [.int ((nI (ksum fa j)) + (nI (kg fa j)))]) (M1 := (rSm (er (he, ke, ki, fi, fa, or, mi, a, g, l, w, s)))) (fun f => rfl) ?_
    refine mr_v (nI_add (ksum fa j) (kg fa j)) ?_
    refine mr_seg 2 (pc1 := 24) (ls1 := [some (.ref 140), some (.int (nI (ksum fa j + kg fa j))), some (.int ((nI j) + 1))]) (st1 := []) (M1 := (rSm (er (he, ke, ki, fi, fa, or, mi, a, g, l, w, s)))) (fun f => rfl) ?_
    refine mr_l (fun q_ => [some (.ref 140), some (.int (nI (ksum fa j + kg fa j))), some (.int q_)]) (nI_add j 1) ?_
    refine mr_seg 1 (pc1 := 4) (ls1 := [some (.ref 140), some (.int (nI (ksum fa j + kg fa j))), some (.int (nI (j + 1)))]) (st1 := []) (M1 := (rSm (er (he, ke, ki, fi, fa, or, mi, a, g, l, w, s)))) (fun f => rfl) ?_
    exact IH (j + 1) (by omega)
theorem rc_af_m (K : kK) (hV : kV K) : mm_R 170 0 [some (.ref 140), none, none] [] (rSm (er K)) (some (.int (nI (ksum (k_fa K) (k_mi K)))), rSm (er K)) := by
  obtain ⟨he, ke, ki, fi, fa, or, mi, a, g, l, w, s⟩ := K
  refine mr_seg 4 (pc1 := 4) (ls1 := [some (.ref 140), some (.int 0), some (.int 0)]) (st1 := []) (M1 := rSm (er (he, ke, ki, fi, fa, or, mi, a, g, l, w, s))) (fun f => rfl) ?_
  exact rc_af0_m he ke ki fi fa or mi a g l w s hV mi 0 (by omega)
set_option maxRecDepth 100000 in
theorem rc_af0_s (he ke ki fi fa or : List Nat) (mi a g l w s : Nat) (hV : kV (he, ke, ki, fi, fa, or, mi, a, g, l, w, s)) (k : Nat) : ∀ j : Nat, j + k = mi → mm_R 170 4 [some (.ref 139), some (.int (nI (ksum fa j))), some (.int (nI j))] [] (rSs (er (he, ke, ki, fi, fa, or, mi, a, g, l, w, s))) (some (.int (nI (ksum fa mi))), rSs (er (he, ke, ki, fi, fa, or, mi, a, g, l, w, s))) := by
  obtain ⟨v1, v2, v3, v4, v5, v6, v7, v8, v9, v10, v11, v12, v13, v14, v15, v16⟩ := hV
  have v6l := kO_len mi v7 or v6
  have qs := ksum_le v16
  induction k with
  | zero =>
    intro j hj
    have q1 := qs j
    have q2 := qs (j + 1)
    have q3 := v16 j
    refine mr_seg 3 (pc1 := 7) (ls1 := [some (.ref 139), some (.int (nI (ksum fa j))), some (.int (nI j))]) (st1 := [.int 0, .ref 139, .int (nI j)]) (M1 := (rSs (er (he, ke, ki, fi, fa, or, mi, a, g, l, w, s)))) (fun f => rfl) ?_
    refine mr_ldn (xs := (er (he, ke, ki, fi, fa, or, mi, a, g, l, w, s))) rfl rfl (k := 0) (by decide) rfl ?_
    refine mr_t (C := (nI mi) ≤ (nI j)) (nI_let (a := mi) (b := j) (by omega)) (fun f => rfl) ?_
    refine mr_eq (mr_ret 2 (o := (some (.int (nI (ksum fa j))), (rSs (er (he, ke, ki, fi, fa, or, mi, a, g, l, w, s))))) (fun f => rfl)) ?_
    rw [show j = mi by omega]
  | succ k IH =>
    intro j hj
    have q1 := qs j
    have q2 := qs (j + 1)
    have q3 := v16 j
    refine mr_seg 3 (pc1 := 7) (ls1 := [some (.ref 139), some (.int (nI (ksum fa j))), some (.int (nI j))]) (st1 := [.int 0, .ref 139, .int (nI j)]) (M1 := (rSs (er (he, ke, ki, fi, fa, or, mi, a, g, l, w, s)))) (fun f => rfl) ?_
    refine mr_ldn (xs := (er (he, ke, ki, fi, fa, or, mi, a, g, l, w, s))) rfl rfl (k := 0) (by decide) rfl ?_
    refine mr_f (C := (nI mi) ≤ (nI j)) (nI_lef (a := mi) (b := j) (by omega)) (fun f => rfl) ?_
    refine mr_seg 4 (pc1 := 15) (ls1 := [some (.ref 139), some (.int (nI (ksum fa j))), some (.int (nI j))]) (st1 := [.int 2, .int (nI j), .ref 139, .int (nI (ksum fa j))]) (M1 := (rSs (er (he, ke, ki, fi, fa, or, mi, a, g, l, w, s)))) (fun f => rfl) ?_
    refine mr_call (y := 141) (y0 := 18) (L := [some (.int (nI j)), some (.int 2)]) (rest := [.ref 139, .int (nI (ksum fa j))]) (rr := some (.int (nI (32 + 3 * j + 2)))) (M1 := (rSs (er (he, ke, ki, fi, fa, or, mi, a, g, l, w, s)))) (fun f => rfl) (rc_of j 2 (by omega) (by decide) _) ?_
    refine mr_ldn (xs := (er (he, ke, ki, fi, fa, or, mi, a, g, l, w, s))) rfl rfl (k := 32 + 3 * j + 2) (by omega) (er_fa (K := (he, ke, ki, fi, fa, or, mi, a, g, l, w, s)) v1 (by omega)) ?_
    refine mr_seg 1 (pc1 := 20) (ls1 := [some (.ref 139), some (.int (nI (ksum fa j))), some (.int (nI j))]) (st1 := [.int ((nI (ksum fa j)) + (nI (kg fa j)))]) (M1 := (rSs (er (he, ke, ki, fi, fa, or, mi, a, g, l, w, s)))) (fun f => rfl) ?_
    refine mr_v (nI_add (ksum fa j) (kg fa j)) ?_
    refine mr_seg 2 (pc1 := 24) (ls1 := [some (.ref 139), some (.int (nI (ksum fa j + kg fa j))), some (.int ((nI j) + 1))]) (st1 := []) (M1 := (rSs (er (he, ke, ki, fi, fa, or, mi, a, g, l, w, s)))) (fun f => rfl) ?_
    refine mr_l (fun q_ => [some (.ref 139), some (.int (nI (ksum fa j + kg fa j))), some (.int q_)]) (nI_add j 1) ?_
    refine mr_seg 1 (pc1 := 4) (ls1 := [some (.ref 139), some (.int (nI (ksum fa j + kg fa j))), some (.int (nI (j + 1)))]) (st1 := []) (M1 := (rSs (er (he, ke, ki, fi, fa, or, mi, a, g, l, w, s)))) (fun f => rfl) ?_
    exact IH (j + 1) (by omega)
theorem rc_af_s (K : kK) (hV : kV K) : mm_R 170 0 [some (.ref 139), none, none] [] (rSs (er K)) (some (.int (nI (ksum (k_fa K) (k_mi K)))), rSs (er K)) := by
  obtain ⟨he, ke, ki, fi, fa, or, mi, a, g, l, w, s⟩ := K
  refine mr_seg 4 (pc1 := 4) (ls1 := [some (.ref 139), some (.int 0), some (.int 0)]) (st1 := []) (M1 := rSs (er (he, ke, ki, fi, fa, or, mi, a, g, l, w, s))) (fun f => rfl) ?_
  exact rc_af0_s he ke ki fi fa or mi a g l w s hV mi 0 (by omega)
def kfir (k : kK) : Option Nat := if k_mi k = 0 then none else some (kg (k_or k) 0)
set_option maxRecDepth 100000 in
theorem kc_fir_m (he ke ki fi fa or : List Nat) (mi a g l w s : Nat) (hV : kV (he, ke, ki, fi, fa, or, mi, a, g, l, w, s)) : mm_R 71 0 [some (.ref 124)] [] (kSm (kr (he, ke, ki, fi, fa, or, mi, a, g, l, w, s))) (some (.int (kI (kfir (he, ke, ki, fi, fa, or, mi, a, g, l, w, s)))), kSm (kr (he, ke, ki, fi, fa, or, mi, a, g, l, w, s))) := by
  obtain ⟨v1, v2, v3, v4, v5, v6, v7, v8, v9, v10, v11, v12, v13, v14, v15, v16⟩ := hV
  have v6l := kO_len mi v7 or v6
  refine mr_seg 2 (pc1 := 4) (ls1 := [some (.ref 124)]) (st1 := [.int (nI mi)]) (M1 := (kSm (kr (he, ke, ki, fi, fa, or, mi, a, g, l, w, s)))) (fun f => rfl) ?_
  refine mr_ifN (C := (nI mi) = 0) (nI_eqi (a := mi) (b := 0) (by omega)) (fun f => rfl) (fun h1 => ?_) (fun h1 => ?_)
  · refine mr_eq (mr_ret 3 (o := (some (.int (-9)), (kSm (kr (he, ke, ki, fi, fa, or, mi, a, g, l, w, s))))) (fun f => rfl)) ?_
    unfold kfir
    rw [if_pos (show  k_mi (he, ke, ki, fi, fa, or, mi, a, g, l, w, s) = 0 from h1)]
    rfl
  · refine mr_seg 3 (pc1 := 17) (ls1 := [some (.ref 124)]) (st1 := [.int 0, .ref 130]) (M1 := (kSm (kr (he, ke, ki, fi, fa, or, mi, a, g, l, w, s)))) (fun f => rfl) ?_
    refine mr_ldk (l0 := or) rfl rfl (k := 0) (by omega) ?_
    refine mr_eq (mr_ret 1 (o := (some (.int (nI (kg or 0))), (kSm (kr (he, ke, ki, fi, fa, or, mi, a, g, l, w, s))))) (fun f => rfl)) ?_
    unfold kfir
    rw [if_neg (show ¬ k_mi (he, ke, ki, fi, fa, or, mi, a, g, l, w, s) = 0 from h1)]
    rfl
set_option maxRecDepth 100000 in
theorem kc_fir_n (he ke ki fi fa or : List Nat) (mi a g l w s : Nat) (hV : kV (he, ke, ki, fi, fa, or, mi, a, g, l, w, s)) : mm_R 71 0 [some (.ref 117)] [] (kSn (kr (he, ke, ki, fi, fa, or, mi, a, g, l, w, s))) (some (.int (kI (kfir (he, ke, ki, fi, fa, or, mi, a, g, l, w, s)))), kSn (kr (he, ke, ki, fi, fa, or, mi, a, g, l, w, s))) := by
  obtain ⟨v1, v2, v3, v4, v5, v6, v7, v8, v9, v10, v11, v12, v13, v14, v15, v16⟩ := hV
  have v6l := kO_len mi v7 or v6
  refine mr_seg 2 (pc1 := 4) (ls1 := [some (.ref 117)]) (st1 := [.int (nI mi)]) (M1 := (kSn (kr (he, ke, ki, fi, fa, or, mi, a, g, l, w, s)))) (fun f => rfl) ?_
  refine mr_ifN (C := (nI mi) = 0) (nI_eqi (a := mi) (b := 0) (by omega)) (fun f => rfl) (fun h1 => ?_) (fun h1 => ?_)
  · refine mr_eq (mr_ret 3 (o := (some (.int (-9)), (kSn (kr (he, ke, ki, fi, fa, or, mi, a, g, l, w, s))))) (fun f => rfl)) ?_
    unfold kfir
    rw [if_pos (show  k_mi (he, ke, ki, fi, fa, or, mi, a, g, l, w, s) = 0 from h1)]
    rfl
  · refine mr_seg 3 (pc1 := 17) (ls1 := [some (.ref 117)]) (st1 := [.int 0, .ref 123]) (M1 := (kSn (kr (he, ke, ki, fi, fa, or, mi, a, g, l, w, s)))) (fun f => rfl) ?_
    refine mr_ldk (l0 := or) rfl rfl (k := 0) (by omega) ?_
    refine mr_eq (mr_ret 1 (o := (some (.int (nI (kg or 0))), (kSn (kr (he, ke, ki, fi, fa, or, mi, a, g, l, w, s))))) (fun f => rfl)) ?_
    unfold kfir
    rw [if_neg (show ¬ k_mi (he, ke, ki, fi, fa, or, mi, a, g, l, w, s) = 0 from h1)]
    rfl
theorem kc_firx_m (K : kK) (hV : kV K) : mm_R 71 0 [some (.ref 124)] [] (kSm (kr K)) (some (.int (kI (kfir K))), kSm (kr K)) := by
  obtain ⟨he, ke, ki, fi, fa, or, mi, a, g, l, w, s⟩ := K
  exact kc_fir_m he ke ki fi fa or mi a g l w s hV
theorem kc_firx_n (K : kK) (hV : kV K) : mm_R 71 0 [some (.ref 117)] [] (kSn (kr K)) (some (.int (kI (kfir K))), kSn (kr K)) := by
  obtain ⟨he, ke, ki, fi, fa, or, mi, a, g, l, w, s⟩ := K
  exact kc_fir_n he ke ki fi fa or mi a g l w s hV
theorem kfir_0 {K : kK} (h : k_mi K = 0) : kI (kfir K) = -9 := by
  unfold kfir
  rw [if_pos h]
  rfl
theorem kfir_1 {K : kK} (h : ¬ k_mi K = 0) : kI (kfir K) = nI (kg (k_or K) 0) := by
  unfold kfir
  rw [if_neg h]
  rfl
theorem kV_he {K : kK} (h : kV K) : (k_he K).length = 25 := by
  obtain ⟨he, ke, ki, fi, fa, or, mi, a, g, l, w, s⟩ := K
  exact h.1
theorem kV_fa {K : kK} (h : kV K) : (k_fa K).length = 5 := by
  obtain ⟨he, ke, ki, fi, fa, or, mi, a, g, l, w, s⟩ := K
  exact h.2.2.2.2.1
theorem kV_orl {K : kK} (h : kV K) : (k_or K).length = 5 := by
  obtain ⟨he, ke, ki, fi, fa, or, mi, a, g, l, w, s⟩ := K
  obtain ⟨v1, v2, v3, v4, v5, v6, v7, -⟩ := h
  exact kO_len mi v7 or v6
