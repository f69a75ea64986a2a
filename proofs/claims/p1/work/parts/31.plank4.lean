theorem mm_g_nil (a : Nat) : mm_g [] a = none := by
  unfold mm_g
  cases Nat.ble 100 a <;> rfl
theorem mm_ia_nil (a : Nat) : mm_ia none [] a = none := by
  unfold mm_ia
  rw [mm_g_nil]
  cases Nat.beq a 0 <;> rfl
theorem mm_p2 (i : Instr) (ex : List (Nat × Nat)) (pc : Nat) (ls : mm_L) (st : List Value) : mm_2 none i ex pc ls st [] 0 0 = none := by
  cases i with
  | getfield k =>
    simp only [mm_2]
    split
    · rw [mm_g_nil]
    · rfl
  | putfield k =>
    simp only [mm_2]
    split
    · rw [mm_g_nil]
    · rfl
  | iaload =>
    simp only [mm_2]
    split
    · rw [mm_ia_nil]
    · rfl
  | iastore =>
    simp only [mm_2]
    split
    · rw [mm_g_nil]
    · rfl
  | aaload =>
    simp only [mm_2]
    split
    · rw [mm_g_nil]
    · rfl
  | aastore =>
    simp only [mm_2]
    split
    · rw [mm_g_nil]
    · rfl
  | arraylength =>
    simp only [mm_2]
    split
    · rw [mm_ia_nil]
    · rfl
  | new k =>
    simp only [mm_2]
    split <;> rfl
  | newarray k =>
    cases k <;> first
      | rfl
      | (simp only [mm_2]
         split
         · split <;> rfl
         · rfl)
  | anewarray k =>
    simp only [mm_2]
    split
    · split <;> rfl
    · rfl
  | _ => rfl
/-- what goes through without a heap goes through with any, and leaves it -/
def mm_Pu (f : mm_F) : Prop := ∀ (z pc : Nat) (ls : mm_L) (st : List Value) (r : Option Value) (M' : mm_H), f z pc ls st [] 0 0 = some (r, M') → M' = [] ∧ ∀ M, f z pc ls st M 0 0 = some (r, M)
theorem mm_bp {f : mm_F} (hf : mm_Pu f) : mm_Pu (mm_b none f) := by
  intro z pc ls st r M' h
  have hinv : ∀ y, mm_inv f z pc ls st [] 0 0 y = some (r, M') → M' = [] ∧ ∀ M, mm_inv f z pc ls st M 0 0 y = some (r, M) := by
    intro y h
    unfold mm_inv at h ⊢
    cases hc : (Nat.ble (mm_i y).2.1 st.length && (Nat.ble (mm_cat (st.drop (mm_i y).2.1)) 8 && (Nat.ble (mm_i y).2.2.2.1 0 && (Nat.ble (mm_i y).2.2.2.2 0 && Nat.ble (mm_sl (st.take (mm_i y).2.1).reverse).length (mm_i y).1)))) <;> rw [hc] at h
    · cases h
    · simp only [cond_true] at h ⊢
      rw [Bool.and_eq_true, Bool.and_eq_true, Bool.and_eq_true, Bool.and_eq_true] at hc
      have e1 : (mm_i y).2.2.2.1 = 0 := Nat.le_zero.mp (Nat.le_of_ble_eq_true hc.2.2.1)
      have e2 : (mm_i y).2.2.2.2 = 0 := Nat.le_zero.mp (Nat.le_of_ble_eq_true hc.2.2.2.1)
      rw [e1, e2] at h ⊢
      split at h
      · rename_i r1 M2 he
        obtain ⟨q, he2⟩ := hf _ _ _ _ _ _ he
        subst q
        obtain ⟨q, h2⟩ := hf _ _ _ _ _ _ h
        refine ⟨q, fun M => ?_⟩
        rw [he2 M]
        exact h2 M
      · cases h
  have hite : ∀ (q : Prop) [Decidable q] (z1 pc1 : Nat) (ls1 : mm_L) (st1 : List Value) (z2 pc2 : Nat) (ls2 : mm_L) (st2 : List Value), (if q then f z1 pc1 ls1 st1 [] 0 0 else f z2 pc2 ls2 st2 [] 0 0) = some (r, M') → M' = [] ∧ ∀ M, (if q then f z1 pc1 ls1 st1 M 0 0 else f z2 pc2 ls2 st2 M 0 0) = some (r, M) := by
    intro q _ z1 pc1 ls1 st1 z2 pc2 ls2 st2 h
    by_cases hq : q
    · simp only [if_pos hq] at h ⊢
      exact hf _ _ _ _ _ _ h
    · simp only [if_neg hq] at h ⊢
      exact hf _ _ _ _ _ _ h
  have hit2 : ∀ (q : Prop) [Decidable q] (z2 pc2 : Nat) (ls2 : mm_L) (st2 : List Value), (if q then none else f z2 pc2 ls2 st2 [] 0 0) = some (r, M') → M' = [] ∧ ∀ M, (if q then none else f z2 pc2 ls2 st2 M 0 0) = some (r, M) := by
    intro q _ z2 pc2 ls2 st2 h
    by_cases hq : q
    · simp only [if_pos hq] at h
      cases h
    · simp only [if_neg hq] at h ⊢
      exact hf _ _ _ _ _ _ h
  have hcnd : ∀ (q : Bool) (z2 pc2 : Nat) (ls2 : mm_L) (st2 : List Value), (cond q (f z2 pc2 ls2 st2 [] 0 0) none) = some (r, M') → M' = [] ∧ ∀ M, (cond q (f z2 pc2 ls2 st2 M 0 0) none) = some (r, M) := by
    intro q z2 pc2 ls2 st2 h
    cases q
    · cases h
    · exact hf _ _ _ _ _ _ h
  have hcni : ∀ (q : Bool) (y : Nat), (cond q (mm_inv f z pc ls st [] 0 0 y) none) = some (r, M') → M' = [] ∧ ∀ M, (cond q (mm_inv f z pc ls st M 0 0 y) none) = some (r, M) := by
    intro q y h
    cases q
    · cases h
    · exact hinv _ h
  have hret : ∀ (q : Bool) (v : Option Value), (cond q (some (v, ([] : mm_H))) none) = some (r, M') → M' = [] ∧ ∀ M : mm_H, (cond q (some (v, M)) none) = some (r, M) := by
    intro q v h
    cases q
    · cases h
    · cases h
      exact ⟨rfl, fun _ => rfl⟩
  have h1 : ∀ i ex, mm_code z pc = some (i, ex) → (match mm_1 i ex pc ls st with
      | some (pc1, ls1, st1) => f z pc1 ls1 st1 [] 0 0
      | none => none) = some (r, M') → M' = [] ∧ ∀ M, (match mm_1 i ex pc ls st with
      | some (pc1, ls1, st1) => f z pc1 ls1 st1 M 0 0
      | none => none) = some (r, M) := by
    intro i ex _ h
    split at h
    · exact hf _ _ _ _ _ _ h
    · cases h
  have h2 : ∀ i ex, (match mm_2 none i ex pc ls st [] 0 0 with
      | some (pc1, ls1, st1, M1, bc1, bs1) => f z pc1 ls1 st1 M1 bc1 bs1
      | none => none) = some (r, M') → False := by
    intro i ex h
    rw [mm_p2] at h
    cases h
  unfold mm_b at h ⊢
  cases hcd : mm_code z pc with
  | none => rw [hcd] at h; cases h
  | some x =>
    obtain ⟨i, ex⟩ := x
    rw [hcd] at h
    cases i with
    | ireturn =>
      simp only [] at h ⊢
      split at h
      · exact hret _ _ h
      · cases h
    | lreturn =>
      simp only [] at h ⊢
      split at h
      · exact hret _ _ h
      · cases h
    | areturn =>
      simp only [] at h ⊢
      split at h
      · exact hret _ _ h
      · cases h
    | return_ =>
      simp only [] at h ⊢
      split at h
      · exact hret _ _ h
      · cases h
    | idiv =>
      simp only [] at h ⊢
      split at h
      · exact hit2 _ _ _ _ _ h
      · cases h
    | irem =>
      simp only [] at h ⊢
      split at h
      · exact hit2 _ _ _ _ _ h
      · cases h
    | ldiv =>
      simp only [] at h ⊢
      split at h
      · exact hit2 _ _ _ _ _ h
      · cases h
    | lrem =>
      simp only [] at h ⊢
      split at h
      · exact hit2 _ _ _ _ _ h
      · cases h
    | if_icmp k off =>
      simp only [] at h ⊢
      split at h
      · cases k <;> exact hite _ _ _ _ _ _ _ _ _ h
      · cases h
    | ifCond k off =>
      simp only [] at h ⊢
      split at h
      · cases k <;> exact hite _ _ _ _ _ _ _ _ _ h
      · cases h
    | invokestatic idx =>
      simp only [] at h ⊢
      split at h
      · exact hcni _ _ h
      · exfalso
        unfold mm_acp at h
        split at h
        · rw [mm_g_nil] at h
          cases h
        · cases h
      · split at h
        · exact hcnd _ _ _ _ _ h
        · cases h
      · split at h
        · exact hcnd _ _ _ _ _ h
        · cases h
      · split at h
        · exact hcnd _ _ _ _ _ h
        · cases h
      · cases h
    | invokespecial idx =>
      simp only [] at h ⊢
      split at h
      · split at h
        · exact hcnd _ _ _ _ _ h
        · cases h
      · split at h
        · rename_i he
          try rw [he]
          exact hcni _ _ h
        · cases h
      · cases h
    | invokevirtual idx =>
      exfalso
      simp only [] at h
      split at h
      · split at h
        · rw [mm_g_nil] at h
          cases h
        · cases h
      · cases h
    | getfield k => exact (h2 _ _ h).elim
    | putfield k => exact (h2 _ _ h).elim
    | iaload => exact (h2 _ _ h).elim
    | iastore => exact (h2 _ _ h).elim
    | aaload => exact (h2 _ _ h).elim
    | aastore => exact (h2 _ _ h).elim
    | arraylength => exact (h2 _ _ h).elim
    | new k => exact (h2 _ _ h).elim
    | newarray k => exact (h2 _ _ h).elim
    | anewarray k => exact (h2 _ _ h).elim
    | _ => exact h1 _ _ hcd h
theorem mm_pure : ∀ n, mm_Pu (mm_x none n)
  | 0 => fun _ _ _ _ _ _ h => by cases h
  | n + 1 => mm_bp (mm_pure n)
