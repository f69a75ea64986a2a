/-! ===== more steps, more of the script: the same answer ===== -/
theorem mm_m2 {X Y : Option (List Int32)} (hX : ∀ xs, X = some xs → Y = some xs) {i : Instr} {ex : List (Nat × Nat)} {pc : Nat} {ls : mm_L} {st : List Value} {M : mm_H} {bc bs : Nat} {o : Nat × mm_L × List Value × mm_H × Nat × Nat} (h : mm_2 X i ex pc ls st M bc bs = some o) : mm_2 Y i ex pc ls st M bc bs = some o := by
  have hia : ∀ (a : Nat) (xs : List Int32), mm_ia X M a = some xs → mm_ia Y M a = some xs := by
    intro a xs h
    unfold mm_ia at h ⊢
    cases hc : Nat.beq a 0 <;> rw [hc] at h
    · exact h
    · exact hX _ h
  cases i with
  | iaload =>
    simp only [mm_2] at h ⊢
    split at h
    · split at h
      · rename_i xs hxs
        rw [hia _ _ hxs]
        exact h
      · cases h
    · cases h
  | arraylength =>
    simp only [mm_2] at h ⊢
    split at h
    · split at h
      · exact h
      · split at h
        · rename_i xs hxs
          rw [hia _ _ hxs]
          exact h
        · cases h
    · cases h
  | newarray k => cases k <;> exact h
  | _ => exact h
theorem mm_bm {X Y : Option (List Int32)} (hX : ∀ xs, X = some xs → Y = some xs) {f g : mm_F} (hfg : ∀ z pc ls st M bc bs o, f z pc ls st M bc bs = some o → g z pc ls st M bc bs = some o) {z pc : Nat} {ls : mm_L} {st : List Value} {M : mm_H} {bc bs : Nat} {o : Option Value × mm_H} (h : mm_b X f z pc ls st M bc bs = some o) : mm_b Y g z pc ls st M bc bs = some o := by
  have hinv : ∀ y, mm_inv f z pc ls st M bc bs y = some o → mm_inv g z pc ls st M bc bs y = some o := by
    intro y h
    unfold mm_inv at h ⊢
    cases hc : (Nat.ble (mm_i y).2.1 st.length && (Nat.ble (mm_cat (st.drop (mm_i y).2.1)) 8 && (Nat.ble (mm_i y).2.2.2.1 bc && (Nat.ble (mm_i y).2.2.2.2 bs && Nat.ble (mm_sl (st.take (mm_i y).2.1).reverse).length (mm_i y).1)))) <;> rw [hc] at h
    · cases h
    · simp only [cond_true] at h ⊢
      split at h
      · rename_i r1 M2 he
        rw [hfg _ _ _ _ _ _ _ _ he]
        exact hfg _ _ _ _ _ _ _ _ h
      · cases h
  have hite : ∀ (q : Prop) [Decidable q] (z1 pc1 : Nat) (ls1 : mm_L) (st1 : List Value) (M1 : mm_H) (bc1 bs1 z2 pc2 : Nat) (ls2 : mm_L) (st2 : List Value) (M2 : mm_H) (bc2 bs2 : Nat), (if q then f z1 pc1 ls1 st1 M1 bc1 bs1 else f z2 pc2 ls2 st2 M2 bc2 bs2) = some o → (if q then g z1 pc1 ls1 st1 M1 bc1 bs1 else g z2 pc2 ls2 st2 M2 bc2 bs2) = some o := by
    intro q _ z1 pc1 ls1 st1 M1 bc1 bs1 z2 pc2 ls2 st2 M2 bc2 bs2 h
    by_cases hq : q
    · rw [if_pos hq] at h ⊢
      exact hfg _ _ _ _ _ _ _ _ h
    · rw [if_neg hq] at h ⊢
      exact hfg _ _ _ _ _ _ _ _ h
  have hit2 : ∀ (q : Prop) [Decidable q] (z2 pc2 : Nat) (ls2 : mm_L) (st2 : List Value) (M2 : mm_H) (bc2 bs2 : Nat), (if q then none else f z2 pc2 ls2 st2 M2 bc2 bs2) = some o → (if q then none else g z2 pc2 ls2 st2 M2 bc2 bs2) = some o := by
    intro q _ z2 pc2 ls2 st2 M2 bc2 bs2 h
    by_cases hq : q
    · rw [if_pos hq] at h
      cases h
    · rw [if_neg hq] at h ⊢
      exact hfg _ _ _ _ _ _ _ _ h
  have hcnd : ∀ (q : Bool) (z2 pc2 : Nat) (ls2 : mm_L) (st2 : List Value) (M2 : mm_H) (bc2 bs2 : Nat), (cond q (f z2 pc2 ls2 st2 M2 bc2 bs2) none) = some o → (cond q (g z2 pc2 ls2 st2 M2 bc2 bs2) none) = some o := by
    intro q z2 pc2 ls2 st2 M2 bc2 bs2 h
    cases q
    · cases h
    · exact hfg _ _ _ _ _ _ _ _ h
  have hcni : ∀ (q : Bool) (y : Nat), (cond q (mm_inv f z pc ls st M bc bs y) none) = some o → (cond q (mm_inv g z pc ls st M bc bs y) none) = some o := by
    intro q y h
    cases q
    · cases h
    · exact hinv _ h
  have h1 : ∀ i ex, mm_code z pc = some (i, ex) → (match mm_1 i ex pc ls st with
      | some (pc1, ls1, st1) => f z pc1 ls1 st1 M bc bs
      | none => none) = some o → (match mm_1 i ex pc ls st with
      | some (pc1, ls1, st1) => g z pc1 ls1 st1 M bc bs
      | none => none) = some o := by
    intro i ex _ h
    split at h
    · exact hfg _ _ _ _ _ _ _ _ h
    · cases h
  have h2 : ∀ i ex, (match mm_2 X i ex pc ls st M bc bs with
      | some (pc1, ls1, st1, M1, bc1, bs1) => f z pc1 ls1 st1 M1 bc1 bs1
      | none => none) = some o → (match mm_2 Y i ex pc ls st M bc bs with
      | some (pc1, ls1, st1, M1, bc1, bs1) => g z pc1 ls1 st1 M1 bc1 bs1
      | none => none) = some o := by
    intro i ex h
    split at h
    · rename_i he
      rw [mm_m2 hX he]
      exact hfg _ _ _ _ _ _ _ _ h
    · cases h
  unfold mm_b at h ⊢
  cases hcd : mm_code z pc with
  | none => rw [hcd] at h; cases h
  | some x =>
    obtain ⟨i, ex⟩ := x
    rw [hcd] at h
    cases i with
    | ireturn => exact h
    | lreturn => exact h
    | areturn => exact h
    | return_ => exact h
    | idiv => 
      simp only [] at h ⊢
      split at h
      · exact hit2 _ _ _ _ _ _ _ _ h
      · cases h
    | irem => 
      simp only [] at h ⊢
      split at h
      · exact hit2 _ _ _ _ _ _ _ _ h
      · cases h
    | ldiv => 
      simp only [] at h ⊢
      split at h
      · exact hit2 _ _ _ _ _ _ _ _ h
      · cases h
    | lrem => 
      simp only [] at h ⊢
      split at h
      · exact hit2 _ _ _ _ _ _ _ _ h
      · cases h
    | if_icmp k off =>
      simp only [] at h ⊢
      split at h
      · cases k <;> exact hite _ _ _ _ _ _ _ _ _ _ _ _ _ _ _ h
      · cases h
    | ifCond k off =>
      simp only [] at h ⊢
      split at h
      · cases k <;> exact hite _ _ _ _ _ _ _ _ _ _ _ _ _ _ _ h
      · cases h
    | invokestatic idx =>
      simp only [] at h ⊢
      split at h
      · exact hcni _ _ h
      · unfold mm_acp at h ⊢
        split at h
        · split at h
          · rename_i he1 he2
            try simp only [he1, he2]
            split at h
            · rename_i hc
              rw [if_pos hc]
              exact hfg _ _ _ _ _ _ _ _ h
            · cases h
          · cases h
        · cases h
      · split at h
        · exact hcnd _ _ _ _ _ _ _ _ h
        · cases h
      · split at h
        · exact hcnd _ _ _ _ _ _ _ _ h
        · cases h
      · split at h
        · exact hcnd _ _ _ _ _ _ _ _ h
        · cases h
      · cases h
    | invokespecial idx =>
      simp only [] at h ⊢
      split at h
      · split at h
        · exact hcnd _ _ _ _ _ _ _ _ h
        · cases h
      · split at h
        · rename_i he
          try rw [he]
          exact hcni _ _ h
        · cases h
      · split at h
        · rename_i he
          try rw [he]
          try simp only [] at h ⊢
          split at h
          · rename_i he2
            try rw [he2]
            exact hcni _ _ h
          · cases h
        · cases h
      · cases h
    | invokevirtual idx =>
      simp only [] at h ⊢
      split at h
      · split at h
        · rename_i he
          try rw [he]
          try simp only [] at h ⊢
          split at h
          · rename_i he2
            try rw [he2]
            exact hcni _ _ h
          · cases h
        · cases h
      · split at h
        · rename_i he
          try rw [he]
          try simp only [] at h ⊢
          split at h
          · rename_i he2
            try rw [he2]
            try simp only [] at h ⊢
            split at h
            · rename_i he3
              try rw [he3]
              exact hcni _ _ h
            · cases h
          · cases h
        · cases h
      · cases h
    | getfield k => exact h2 _ _ h
    | putfield k => exact h2 _ _ h
    | getstatic k => exact h2 _ _ h
    | baload => exact h2 _ _ h
    | iaload => exact h2 _ _ h
    | iastore => exact h2 _ _ h
    | aaload => exact h2 _ _ h
    | aastore => exact h2 _ _ h
    | arraylength => exact h2 _ _ h
    | new k => exact h2 _ _ h
    | newarray k => exact h2 _ _ h
    | anewarray k => exact h2 _ _ h
    | _ => exact h1 _ _ hcd h
theorem mm_mono {X Y : Option (List Int32)} (hX : ∀ xs, X = some xs → Y = some xs) : ∀ (n k z pc : Nat) (ls : mm_L) (st : List Value) (M : mm_H) (bc bs : Nat) (o : Option Value × mm_H), mm_x X n z pc ls st M bc bs = some o → mm_x Y (n + k) z pc ls st M bc bs = some o
  | 0, _, _, _, _, _, _, _, _, _, h => by cases h
  | n + 1, k, z, pc, ls, st, M, bc, bs, o, h => by
    rw [Nat.add_right_comm]
    exact mm_bm hX (fun z pc ls st M bc bs o h => mm_mono hX n k z pc ls st M bc bs o h) h
