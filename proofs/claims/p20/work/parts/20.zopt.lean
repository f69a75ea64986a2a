theorem nI_ltt {a b : Nat} (h : a < 2 ^ 31 ∧ b < 2 ^ 31 ∧ a < b) : nI a < nI b := (nI_ltI (a := a) (b := b) h.1 h.2.1).mpr h.2.2
theorem nI_ltf {a b : Nat} (h : a < 2 ^ 31 ∧ b < 2 ^ 31 ∧ ¬ a < b) : ¬ nI a < nI b := fun e => h.2.2 ((nI_ltI (a := a) (b := b) h.1 h.2.1).mp e)
theorem nI_lti {a b : Nat} (h : a < 2 ^ 31 ∧ b < 2 ^ 31) : nI a < nI b ↔ a < b := nI_ltI (a := a) (b := b) h.1 h.2
theorem nI_let {a b : Nat} (h : a < 2 ^ 31 ∧ b < 2 ^ 31 ∧ a ≤ b) : nI a ≤ nI b := (nI_leI (a := a) (b := b) h.1 h.2.1).mpr h.2.2
theorem nI_lef {a b : Nat} (h : a < 2 ^ 31 ∧ b < 2 ^ 31 ∧ ¬ a ≤ b) : ¬ nI a ≤ nI b := fun e => h.2.2 ((nI_leI (a := a) (b := b) h.1 h.2.1).mp e)
theorem nI_lei {a b : Nat} (h : a < 2 ^ 31 ∧ b < 2 ^ 31) : nI a ≤ nI b ↔ a ≤ b := nI_leI (a := a) (b := b) h.1 h.2
theorem nI_eqt {a b : Nat} (h : a = b) : nI a = nI b := by rw [h]
theorem nI_eqf {a b : Nat} (h : a < 2 ^ 31 ∧ b < 2 ^ 31 ∧ ¬ a = b) : ¬ nI a = nI b := fun e => h.2.2 ((nI_eq (a := a) (b := b) h.1 h.2.1).mp e)
theorem nI_eqi {a b : Nat} (h : a < 2 ^ 31 ∧ b < 2 ^ 31) : nI a = nI b ↔ a = b := nI_eq (a := a) (b := b) h.1 h.2
theorem mr_ldk {z pc a k : Nat} {ls : mm_L} {r : List Value} {M : mm_H} {o : Option Value × mm_H} {ex : List (Nat × Nat)} {l0 : List Nat} (hc : mm_code z pc = some (.iaload, ex)) (hg : mm_ia none M a = some (l0.map nI)) (hk : k < 2 ^ 31 ∧ k < l0.length) (h : mm_R z (pc + 1) ls (.int (nI (kg l0 k)) :: r) M o) : mm_R z pc ls (.int (nI k) :: .ref a :: r) M o := mr_ldn hc hg hk.1 (kg_ok hk.2) h
theorem mr_stk {z pc a k v : Nat} {ls : mm_L} {r : List Value} {M M2 : mm_H} {o : Option Value × mm_H} {ex : List (Nat × Nat)} {l0 : List Nat} (hc : mm_code z pc = some (.iastore, ex)) (hg : mm_g M a = some (.inr (.inl (l0.map nI)))) (hk : k < 2 ^ 31 ∧ k < l0.length) (hM : mm_s M (a - 100) (.inr (.inl ((l0.set k v).map nI))) = M2) (h : mm_R z (pc + 1) ls r M2 o) : mm_R z pc ls (.int (nI v) :: .int (nI k) :: .ref a :: r) M o := mr_stn hc hg hk.1 (by rw [List.length_map]; exact hk.2) ks_ok hM h
