/-! ===== an object stays one of its class ===== -/
def mm_Kp (M M' : mm_H) : Prop := ∀ (a c : Nat) (fs : List Value), mm_g M a = some (.inl (c, fs)) → ∃ fs', mm_g M' a = some (.inl (c, fs'))
theorem mm_Kp.rf (M : mm_H) : mm_Kp M M := fun _ _ fs h => ⟨fs, h⟩
theorem mm_Kp.tr {A B C : mm_H} (h1 : mm_Kp A B) (h2 : mm_Kp B C) : mm_Kp A C := by
  intro a c fs h
  obtain ⟨f1, g1⟩ := h1 a c fs h
  exact h2 a c f1 g1
theorem mm_Kp.gi {M : mm_H} {a : Nat} {c : mm_C} (h1 : 100 ≤ a) (h2 : M[a - 100]? = some c) : mm_g M a = some c := by
  unfold mm_g
  have hb : Nat.ble 100 a = true := Nat.ble_eq_true_of_le h1
  rw [hb]
  show mm_n M (a - 100) = some c
  rw [mm_n_eq]
  exact h2
theorem mm_Kp.st {M : mm_H} {b : Nat} {c0 c1 : mm_C} (hb : mm_g M b = some c0) (hc : ∀ c fs, c0 = .inl (c, fs) → ∃ fs', c1 = .inl (c, fs')) : mm_Kp M (mm_s M (b - 100) c1) := by
  intro a c fs h
  obtain ⟨a1, a2⟩ := mm_glt h
  obtain ⟨b1, b2⟩ := mm_glt hb
  rw [mm_s_eq]
  by_cases e : b = a
  · subst e
    rw [a2] at b2
    cases b2
    obtain ⟨fs', e2⟩ := hc c fs rfl
    refine ⟨fs', mm_Kp.gi a1 ?_⟩
    rw [List.getElem?_set_self (List.getElem?_eq_some_iff.mp a2).1, e2]
  · refine ⟨fs, mm_Kp.gi a1 ?_⟩
    rw [List.getElem?_set_ne (by omega)]
    exact a2
theorem mm_Kp.ps {M : mm_H} (x : mm_C) : mm_Kp M (M ++ [x]) := by
  intro a c fs h
  obtain ⟨a1, a2⟩ := mm_glt h
  refine ⟨fs, mm_Kp.gi a1 ?_⟩
  rw [List.getElem?_append_left (List.getElem?_eq_some_iff.mp a2).1]
  exact a2
theorem mm_kp2 {X : Option (List Int32)} {i : Instr} {ex : List (Nat × Nat)} {pc : Nat} {ls : mm_L} {st : List Value} {M : mm_H} {bc bs : Nat} {pc1 : Nat} {ls1 : mm_L} {st1 : List Value} {M1 : mm_H} {b1 b2 : Nat} (h : mm_2 X i ex pc ls st M bc bs = some (pc1, ls1, st1, M1, b1, b2)) : mm_Kp M M1 := by
  cases i with
  | getfield k =>
    simp only [mm_2] at h
    split at h
    · rename_i ci k a r
      cases h11 : Nat.beq ci 11 <;> rw [h11] at h
      · simp only [cond_false] at h
        split at h
        · rename_i c fs hg
          cases hc : Nat.beq c ci <;> rw [hc] at h
          · cases h
          · simp only [cond_true] at h
            split at h
            · cases h
              exact mm_Kp.rf _
            · cases h
        · cases h
      · simp only [cond_true] at h
        split at h
        · cases h
          exact mm_Kp.rf _
        · cases h
    · cases h
  | getstatic k =>
    simp only [mm_2] at h
    split at h
    · cases h
      exact mm_Kp.rf _
    · cases h
      exact mm_Kp.rf _
    · cases h
  | baload =>
    simp only [mm_2] at h
    split at h
    · split at h
      · split at h
        · cases h
        · split at h
          · cases h
            exact mm_Kp.rf _
          · cases h
      · cases h
    · cases h
  | putfield k =>
    simp only [mm_2] at h
    split at h
    · rename_i ci k tk fin v a r
      split at h
      · rename_i c fs hg
        cases hc : (Nat.beq c ci && (mm_fit tk v && Nat.blt k fs.length)) <;> rw [hc] at h
        · cases h
        · cases h
          exact mm_Kp.st hg (fun c' fs' e => by cases e; exact ⟨_, rfl⟩)
      · cases h
    · cases h
  | iaload =>
    simp only [mm_2] at h
    split at h
    · split at h
      · split at h
        · cases h
        · split at h
          · cases h
            exact mm_Kp.rf _
          · cases h
      · cases h
    · cases h
  | iastore =>
    simp only [mm_2] at h
    split at h
    · split at h
      · rename_i xs hg
        split at h
        · cases h
        · cases h
          exact mm_Kp.st hg (fun c' fs' e => by cases e)
      · cases h
    · cases h
  | aaload =>
    simp only [mm_2] at h
    split at h
    · split at h
      · split at h
        · cases h
        · split at h
          · cases h
            exact mm_Kp.rf _
          · cases h
      · cases h
    · cases h
  | aastore =>
    simp only [mm_2] at h
    split at h
    · split at h
      · rename_i xs hg
        split at h
        · rename_i c fs hg2
          split at h
          · cases h
          · cases hc : (Nat.beq c 0 || (Nat.beq c 2 || (Nat.beq c 3 || (Nat.beq c 4 || (Nat.beq c 5 || Nat.beq c 7))))) <;> rw [hc] at h
            · cases h
            · cases h
              exact mm_Kp.st hg (fun c' fs' e => by cases e)
        · cases h
      · cases h
    · cases h
  | arraylength =>
    simp only [mm_2] at h
    split at h
    · split at h
      · cases h
        exact mm_Kp.rf _
      · split at h
        · cases h
          exact mm_Kp.rf _
        · cases h
    · cases h
  | new k =>
    simp only [mm_2] at h
    split at h
    · rename_i ci y
      cases hc : (Nat.ble 1 bc && Nat.ble (mm_df ci).length bs) <;> rw [hc] at h
      · cases h
      · cases h
        exact mm_Kp.ps _
    · cases h
  | newarray k =>
    cases k with
    | int =>
      simp only [mm_2] at h
      split at h
      · rename_i n r
        split at h
        · cases h
        · cases hc : (Nat.ble 1 bc && (Nat.ble n.toNatClampNeg bs && Nat.ble n.toNatClampNeg 100000)) <;> rw [hc] at h
          · cases h
          · cases h
            exact mm_Kp.ps _
      · cases h
    | _ => cases h
  | anewarray k =>
    simp only [mm_2] at h
    split at h
    · rename_i n r
      split at h
      · cases h
      · cases hc : (Nat.ble 1 bc && (Nat.ble n.toNatClampNeg bs && Nat.ble n.toNatClampNeg 100000)) <;> rw [hc] at h
        · cases h
        · cases h
          exact mm_Kp.ps _
    · cases h
  | _ => cases h
def mm_Kf (f : mm_F) : Prop := ∀ (z pc : Nat) (ls : mm_L) (st : List Value) (M : mm_H) (bc bs : Nat) (r : Option Value) (M' : mm_H), f z pc ls st M bc bs = some (r, M') → mm_Kp M M'
theorem mm_kpb {X : Option (List Int32)} {f : mm_F} (hf : mm_Kf f) : mm_Kf (mm_b X f) := by
  intro z pc ls st M bc bs r M' h
  have hinv : ∀ y, mm_inv f z pc ls st M bc bs y = some (r, M') → mm_Kp M M' := by
    intro y h
    obtain ⟨r1, M2, -, -, -, -, -, h6, h7⟩ := mm_invs h
    exact (hf _ _ _ _ _ _ _ _ _ h6).tr (hf _ _ _ _ _ _ _ _ _ h7)
  have hite : ∀ (q : Prop) [Decidable q] (z1 pc1 : Nat) (ls1 : mm_L) (st1 : List Value) (z2 pc2 : Nat) (ls2 : mm_L) (st2 : List Value), (if q then f z1 pc1 ls1 st1 M bc bs else f z2 pc2 ls2 st2 M bc bs) = some (r, M') → mm_Kp M M' := by
    intro q _ z1 pc1 ls1 st1 z2 pc2 ls2 st2 h
    by_cases hq : q
    · simp only [if_pos hq] at h
      exact hf _ _ _ _ _ _ _ _ _ h
    · simp only [if_neg hq] at h
      exact hf _ _ _ _ _ _ _ _ _ h
  have hit2 : ∀ (q : Prop) [Decidable q] (z2 pc2 : Nat) (ls2 : mm_L) (st2 : List Value), (if q then none else f z2 pc2 ls2 st2 M bc bs) = some (r, M') → mm_Kp M M' := by
    intro q _ z2 pc2 ls2 st2 h
    by_cases hq : q
    · simp only [if_pos hq] at h
      cases h
    · simp only [if_neg hq] at h
      exact hf _ _ _ _ _ _ _ _ _ h
  have hcnd : ∀ (q : Bool) (z2 pc2 : Nat) (ls2 : mm_L) (st2 : List Value), (cond q (f z2 pc2 ls2 st2 M bc bs) none) = some (r, M') → mm_Kp M M' := by
    intro q z2 pc2 ls2 st2 h
    cases q
    · cases h
    · exact hf _ _ _ _ _ _ _ _ _ h
  have hcni : ∀ (q : Bool) (y : Nat), (cond q (mm_inv f z pc ls st M bc bs y) none) = some (r, M') → mm_Kp M M' := by
    intro q y h
    cases q
    · cases h
    · exact hinv _ h
  have hret : ∀ (q : Bool) (v : Option Value), (cond q (some (v, M)) none) = some (r, M') → mm_Kp M M' := by
    intro q v h
    cases q
    · cases h
    · cases h
      exact mm_Kp.rf _
  have h1 : ∀ i ex, mm_code z pc = some (i, ex) → (match mm_1 i ex pc ls st with
      | some (pc1, ls1, st1) => f z pc1 ls1 st1 M bc bs
      | none => none) = some (r, M') → mm_Kp M M' := by
    intro i ex _ h
    split at h
    · exact hf _ _ _ _ _ _ _ _ _ h
    · cases h
  have h2 : ∀ i ex, (match mm_2 X i ex pc ls st M bc bs with
      | some (pc1, ls1, st1, M1, bc1, bs1) => f z pc1 ls1 st1 M1 bc1 bs1
      | none => none) = some (r, M') → mm_Kp M M' := by
    intro i ex h
    split at h
    · rename_i he
      exact (mm_kp2 he).tr (hf _ _ _ _ _ _ _ _ _ h)
    · cases h
  unfold mm_b at h
  cases hcd : mm_code z pc with
  | none => rw [hcd] at h; cases h
  | some x =>
    obtain ⟨i, ex⟩ := x
    rw [hcd] at h
    cases i with
    | ireturn =>
      simp only [] at h
      split at h
      · exact hret _ _ h
      · cases h
    | lreturn =>
      simp only [] at h
      split at h
      · exact hret _ _ h
      · cases h
    | areturn =>
      simp only [] at h
      split at h
      · exact hret _ _ h
      · cases h
    | return_ =>
      simp only [] at h
      split at h
      · exact hret _ _ h
      · cases h
    | idiv =>
      simp only [] at h
      split at h
      · exact hit2 _ _ _ _ _ h
      · cases h
    | irem =>
      simp only [] at h
      split at h
      · exact hit2 _ _ _ _ _ h
      · cases h
    | ldiv =>
      simp only [] at h
      split at h
      · exact hit2 _ _ _ _ _ h
      · cases h
    | lrem =>
      simp only [] at h
      split at h
      · exact hit2 _ _ _ _ _ h
      · cases h
    | if_icmp k off =>
      simp only [] at h
      split at h
      · cases k <;> exact hite _ _ _ _ _ _ _ _ _ h
      · cases h
    | ifCond k off =>
      simp only [] at h
      split at h
      · cases k <;> exact hite _ _ _ _ _ _ _ _ _ h
      · cases h
    | invokestatic idx =>
      simp only [] at h
      split at h
      · exact hcni _ _ h
      · unfold mm_acp at h
        split at h
        · split at h
          · rename_i ys xs he1 he2
            split at h
            · exact (mm_Kp.st he1 (fun c' fs' e => by cases e)).tr (hf _ _ _ _ _ _ _ _ _ h)
            · cases h
          · cases h
        · cases h
      · split at h
        · exact hcnd _ _ _ _ _ h
        · cases h
      · split at h
        · exact hcnd _ _ _ _ _ h
        · cases h
      · split at h
        · exact hcnd _ _ _ _ _ h
        · cases h
      · cases h
    | invokespecial idx =>
      simp only [] at h
      split at h
      · split at h
        · exact hcnd _ _ _ _ _ h
        · cases h
      · split at h
        · exact hcni _ _ h
        · cases h
      · split at h
        · split at h
          · exact hcni _ _ h
          · cases h
        · cases h
      · cases h
    | invokevirtual idx =>
      simp only [] at h
      split at h
      · split at h
        · split at h
          · exact hcni _ _ h
          · cases h
        · cases h
      · split at h
        · split at h
          · split at h
            · exact hcni _ _ h
            · cases h
          · cases h
        · cases h
      · cases h
    | getfield k => exact h2 _ _ h
    | putfield k => exact h2 _ _ h
    | getstatic k => exact h2 _ _ h
    | baload => exact h2 _ _ h
    | iaload => exact h2 _ _ h
    | iastore => exact h2 _ _ h
    | aaload => exact h2 _ _ h
    | aastore => exact h2 _ _ h
    | arraylength => exact h2 _ _ h
    | new k => exact h2 _ _ h
    | newarray k => exact h2 _ _ h
    | anewarray k => exact h2 _ _ h
    | _ => exact h1 _ _ hcd h
theorem mm_kpx (X : Option (List Int32)) : ∀ n, mm_Kf (mm_x X n)
  | 0 => fun _ _ _ _ _ _ _ _ _ h => by cases h
  | n + 1 => mm_kpb (mm_kpx X n)
theorem mm_c_vir {X : Option (List Int32)} {n z pc bc bs a ci y y0 idx bc1 bs1 bc2 bs2 : Nat} {ls : mm_L} {M M1 : mm_H} {R : mm_O} {L : mm_L} {st rest : List Value} {r : Option Value} (hc : mm_code z pc = some (.invokevirtual idx, [(ci, y)])) (hn : mm_n st (mm_rf y).2.2 = some (.ref a)) (hg : mm_rc M a = some ci) (hk : (Nat.beq ci ci && Nat.beq (mm_i y).2.1 ((mm_rf y).2.2 + 1)) = true)
    (h0 : ∀ f : mm_F, mm_inv f z pc ls st M bc bs y = (match f y 0 L [] M bc1 bs1 with
      | some (r, M1) => f z y0 ls (r.toList ++ rest) M1 bc2 bs2
      | none => none)) (hs : mm_x X n y 0 L [] M bc1 bs1 = some (r, M1)) (h : mm_x X n z y0 ls (r.toList ++ rest) M1 bc2 bs2 = R) : mm_x X (n + 1) z pc ls st M bc bs = R := by
  have e : mm_b X (mm_x X n) z pc ls st M bc bs = mm_inv (mm_x X n) z pc ls st M bc bs y := by
    unfold mm_b
    rw [hc]
    simp only [hn, hg, hk, cond_true]
  rw [mm_xs, e, h0, hs]
  exact h
theorem mm_Kp.rc {M : mm_H} {a c : Nat} {fs : List Value} (h : mm_g M a = some (.inl (c, fs))) (hc : Nat.blt c 11 = true) : mm_rc M a = some c := by
  obtain ⟨h1, -⟩ := mm_glt h
  unfold mm_rc
  have hb : (Nat.ble 1 a && Nat.ble a 6) = false := by
    cases hq : Nat.ble a 6 with
    | false => exact Bool.and_false _
    | true => have := Nat.le_of_ble_eq_true hq; omega
  rw [hb, h]
  simp only [cond_false, hc, cond_true]
