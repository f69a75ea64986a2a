theorem mm_ln {a ln : Nat} (h : a + 1 = ln ∨ a + 1 = 0) : ln = a + 1 := h.elim (fun q => q.symm) (fun q => absurd q (Nat.succ_ne_zero a))
theorem mm_blt {a b : Nat} (h : Nat.blt a b = true) : a < b := Nat.le_of_ble_eq_true h
section MS1
variable {p : Program} {l : Launch} {e : Env} {R : Room} {s : State} {m : MethodId} {args : Array Value} {below : List Frame} {meth : Method} {c : Code} {H : Heap} {locs : List Loc} {cells slots : Nat} {Q : State → Prop}
theorem mm_tgs {B : mm_B} {pc pc1 : Nat} {off : Int} {ls ls1 : mm_L} {r st1 : List Value} (h : mm_tg pc off ls r = some (pc1, ls1, st1)) : (pc : Int) + off = (pc1 : Int) ∧ ls1 = ls ∧ st1 = r := by
  unfold mm_tg at h
  split at h
  · rename_i h0
    cases h
    exact ⟨(Int.toNat_of_nonneg h0).symm, rfl, rfl⟩
  · cases h
set_option maxHeartbeats 4000000 in
theorem mm_s1 (B : mm_B) {X : List Int32} {z pc pc1 : Nat} {i : Instr} {ex : List (Nat × Nat)} {ls ls1 : mm_L} {st st1 : List Value} (hx : p.tables.exec = Jvm.exec) (hb : c.code = mm_by z) (hown : s.vm.findClass (mm_y z).cls = some m.cls) (hG : mm_G B X s) (h : mm_1 i ex pc ls st = some (pc1, ls1, st1)) (K : mm_K z pc (i, ex)) {Ls : Array Slot} (hl : mm_lo B Ls ls)
    (kk : ∀ Ls1 : Array Slot, ls1.length = ls.length → mm_lo B Ls1 ls1 → W p l e R s m args below meth c H locs cells slots Q (F0 m pc1 Ls1 (st1.map (mm_v B)))) : W p l e R s m args below meth c H locs cells slots Q (F0 m pc Ls (st.map (mm_v B))) := by
  obtain ⟨⟨ln, hd, hln⟩, ho⟩ := K
  have hT : mm_T s := hG.1
  cases i with
  | i2b =>
    simp only [mm_1] at h
    split at h
    · cases h
      have e1 := mm_ln (a := 0) hln; subst e1
      exact lv_i2b hx hb hd rfl (kk Ls rfl hl)
    · cases h
  | pop =>
    simp only [mm_1] at h
    split at h
    · cases h
      have e1 := mm_ln (a := 0) hln; subst e1
      exact lv_pop hx hb hd rfl (kk Ls rfl hl)
    · cases h
  | pop2 =>
    simp only [mm_1] at h
    split at h
    · cases h
      have e1 := mm_ln (a := 0) hln; subst e1
      exact lv_pop2_2 hx hb hd rfl (kk Ls rfl hl)
    · cases h
  | iconst n =>
    cases h
    have e1 := mm_ln (a := 0) hln; subst e1
    exact lv_iconst hx hb hd rfl (kk Ls rfl hl)
  | bipush n =>
    cases h
    have e1 := mm_ln (a := 1) hln; subst e1
    exact lv_bipush hx hb hd rfl (kk Ls rfl hl)
  | sipush n =>
    cases h
    have e1 := mm_ln (a := 2) hln; subst e1
    exact lv_sipush hx hb hd rfl (kk Ls rfl hl)
  | lconst n =>
    cases h
    have e1 := mm_ln (a := 0) hln; subst e1
    exact lv_lconst hx hb hd rfl (kk Ls rfl hl)
  | iload_n k =>
    simp only [mm_1, mm_il] at h
    split at h
    · rename_i x hk
      cases h
      have e1 := mm_ln (a := 0) hln; subst e1
      exact lv_iload_n hx hb hd rfl (hl.at hk) (kk Ls rfl hl)
    · cases h
  | iload k =>
    simp only [mm_1, mm_il] at h
    split at h
    · rename_i x hk
      cases h
      have e1 := mm_ln (a := 1) hln; subst e1
      exact lv_iload hx hb hd (hl.at hk) (kk Ls rfl hl)
    · cases h
  | lload_n k =>
    simp only [mm_1, mm_ll] at h
    split at h
    · rename_i x hk
      cases h
      have e1 := mm_ln (a := 0) hln; subst e1
      exact lv_lload_n hx hb hd rfl (hl.at hk) (kk Ls rfl hl)
    · cases h
  | lload k =>
    simp only [mm_1, mm_ll] at h
    split at h
    · rename_i x hk
      cases h
      have e1 := mm_ln (a := 1) hln; subst e1
      exact lv_lload hx hb hd (hl.at hk) (kk Ls rfl hl)
    · cases h
  | aload_n k =>
    simp only [mm_1, mm_al] at h
    split at h
    · rename_i x hk
      cases h
      have e1 := mm_ln (a := 0) hln; subst e1
      exact lv_aload_n hx hb hd rfl (hl.at hk) (kk Ls rfl hl)
    · cases h
  | aload k =>
    simp only [mm_1, mm_al] at h
    split at h
    · rename_i x hk
      cases h
      have e1 := mm_ln (a := 1) hln; subst e1
      exact lv_aload hx hb hd (hl.at hk) (kk Ls rfl hl)
    · cases h
  | istore_n k =>
    simp only [mm_1, mm_is] at h
    split at h
    · rename_i x r
      cases hc : Nat.blt (k : Nat) ls.length <;> rw [hc] at h
      · cases h
      · cases h
        have e1 := mm_ln (a := 0) hln; subst e1
        exact lv_istore_n hx hb hd rfl hl (mm_blt hc) rfl (fun ls2 h2 => kk ls2 (mm_w1_len _ _ _) (mm_lo.w1 h2))
    · cases h
  | istore k =>
    simp only [mm_1, mm_is] at h
    split at h
    · rename_i x r
      cases hc : Nat.blt (k : Nat) ls.length <;> rw [hc] at h
      · cases h
      · cases h
        have e1 := mm_ln (a := 1) hln; subst e1
        exact lv_istore hx hb hd hl (mm_blt hc) rfl (fun ls2 h2 => kk ls2 (mm_w1_len _ _ _) (mm_lo.w1 h2))
    · cases h
  | lstore_n k =>
    simp only [mm_1, mm_lst] at h
    split at h
    · rename_i x r
      cases hc : Nat.blt ((k : Nat) + 1) ls.length <;> rw [hc] at h
      · cases h
      · cases h
        have e1 := mm_ln (a := 0) hln; subst e1
        exact lv_lstore_n hx hb hd rfl hl (mm_blt hc) rfl (fun ls2 h2 => kk ls2 (mm_w2_len _ _ _) (mm_lo.w2 h2))
    · cases h
  | lstore k =>
    simp only [mm_1, mm_lst] at h
    split at h
    · rename_i x r
      cases hc : Nat.blt ((k : Nat) + 1) ls.length <;> rw [hc] at h
      · cases h
      · cases h
        have e1 := mm_ln (a := 1) hln; subst e1
        exact lv_lstore hx hb hd hl (mm_blt hc) rfl (fun ls2 h2 => kk ls2 (mm_w2_len _ _ _) (mm_lo.w2 h2))
    · cases h
  | astore_n k =>
    simp only [mm_1, mm_as] at h
    split at h
    · rename_i x r
      cases hc : Nat.blt (k : Nat) ls.length <;> rw [hc] at h
      · cases h
      · cases h
        have e1 := mm_ln (a := 0) hln; subst e1
        exact lv_astore_n hx hb hd rfl hl (mm_blt hc) rfl (fun ls2 h2 => kk ls2 (mm_w1_len _ _ _) (mm_lo.w1 h2))
    · cases h
  | astore k =>
    simp only [mm_1, mm_as] at h
    split at h
    · rename_i x r
      cases hc : Nat.blt (k : Nat) ls.length <;> rw [hc] at h
      · cases h
      · cases h
        have e1 := mm_ln (a := 1) hln; subst e1
        exact lv_astore hx hb hd hl (mm_blt hc) rfl (fun ls2 h2 => kk ls2 (mm_w1_len _ _ _) (mm_lo.w1 h2))
    · cases h
  | iinc k n =>
    simp only [mm_1] at h
    split at h
    · rename_i x hk
      cases h
      have e1 := mm_ln (a := 2) hln; subst e1
      have hk2 : ls[k]? = some (some (.int x)) := by
        have := hl.at hk
        unfold mm_ld at hk
        rw [mm_n_eq] at hk
        split at hk
        · rename_i w hw
          cases hk
          exact hw
        · cases hk
      obtain ⟨j, hj⟩ := List.getElem?_of_mem (mm_asc_mem (B := B) (q := (k, .int x)).mpr ⟨_, hk2, rfl⟩)
      exact lv_iinc hx hb hd hl hj rfl (List.getElem?_eq_some_iff.mp hk2).1 rfl (fun ls2 h2 => kk ls2 (mm_w1_len _ _ _) (mm_lo.w1 (v := .int (x + Int32.ofInt n)) h2))
    · cases h
  | iadd  =>
    simp only [mm_1, mm_i2] at h
    split at h
    · cases h
      have e1 := mm_ln (a := 0) hln; subst e1
      exact lv_iadd hx hb hd (kk Ls rfl hl)
    · cases h
  | isub  =>
    simp only [mm_1, mm_i2] at h
    split at h
    · cases h
      have e1 := mm_ln (a := 0) hln; subst e1
      exact lv_isub hx hb hd (kk Ls rfl hl)
    · cases h
  | imul  =>
    simp only [mm_1, mm_i2] at h
    split at h
    · cases h
      have e1 := mm_ln (a := 0) hln; subst e1
      exact lv_imul hx hb hd (kk Ls rfl hl)
    · cases h
  | iand  =>
    simp only [mm_1, mm_i2] at h
    split at h
    · cases h
      have e1 := mm_ln (a := 0) hln; subst e1
      exact lv_iand hx hb hd (kk Ls rfl hl)
    · cases h
  | ior  =>
    simp only [mm_1, mm_i2] at h
    split at h
    · cases h
      have e1 := mm_ln (a := 0) hln; subst e1
      exact lv_ior hx hb hd (kk Ls rfl hl)
    · cases h
  | ixor  =>
    simp only [mm_1, mm_i2] at h
    split at h
    · cases h
      have e1 := mm_ln (a := 0) hln; subst e1
      exact lv_ixor hx hb hd (kk Ls rfl hl)
    · cases h
  | ishl  =>
    simp only [mm_1, mm_i2] at h
    split at h
    · cases h
      have e1 := mm_ln (a := 0) hln; subst e1
      exact lv_ishl hx hb hd (kk Ls rfl hl)
    · cases h
  | ishr  =>
    simp only [mm_1, mm_i2] at h
    split at h
    · cases h
      have e1 := mm_ln (a := 0) hln; subst e1
      exact lv_ishr hx hb hd (kk Ls rfl hl)
    · cases h
  | iushr  =>
    simp only [mm_1, mm_i2] at h
    split at h
    · cases h
      have e1 := mm_ln (a := 0) hln; subst e1
      exact lv_iushr hx hb hd rfl (kk Ls rfl hl)
    · cases h
  | ladd  =>
    simp only [mm_1, mm_l2] at h
    split at h
    · cases h
      have e1 := mm_ln (a := 0) hln; subst e1
      exact lv_ladd hx hb hd (kk Ls rfl hl)
    · cases h
  | lsub  =>
    simp only [mm_1, mm_l2] at h
    split at h
    · cases h
      have e1 := mm_ln (a := 0) hln; subst e1
      exact lv_lsub hx hb hd (kk Ls rfl hl)
    · cases h
  | lmul  =>
    simp only [mm_1, mm_l2] at h
    split at h
    · cases h
      have e1 := mm_ln (a := 0) hln; subst e1
      exact lv_lmul hx hb hd (kk Ls rfl hl)
    · cases h
  | ineg  =>
    simp only [mm_1] at h
    split at h
    · cases h
      have e1 := mm_ln (a := 0) hln; subst e1
      exact lv_ineg hx hb hd (kk Ls rfl hl)
    · cases h
  | lcmp  =>
    simp only [mm_1] at h
    split at h
    · cases h
      have e1 := mm_ln (a := 0) hln; subst e1
      exact W.lcmp hx hb hd (kk Ls rfl hl)
    · cases h
  | i2l  =>
    simp only [mm_1] at h
    split at h
    · cases h
      have e1 := mm_ln (a := 0) hln; subst e1
      exact lv_i2l hx hb hd rfl (kk Ls rfl hl)
    · cases h
  | i2c  =>
    simp only [mm_1] at h
    split at h
    · cases h
      have e1 := mm_ln (a := 0) hln; subst e1
      exact lv_i2c hx hb hd rfl (kk Ls rfl hl)
    · cases h
  | dup  =>
    simp only [mm_1] at h
    split at h
    · cases h
      have e1 := mm_ln (a := 0) hln; subst e1
      exact lv_dup hx hb hd rfl (kk Ls rfl hl)
    · cases h
      have e1 := mm_ln (a := 0) hln; subst e1
      exact lv_dup hx hb hd rfl (kk Ls rfl hl)
    · cases h
  | dup2  =>
    simp only [mm_1] at h
    split at h
    · cases h
      have e1 := mm_ln (a := 0) hln; subst e1
      exact lv_dup2_11 hx hb hd rfl rfl (kk Ls rfl hl)
    · cases h
  | goto off =>
    simp only [mm_1] at h
    split at h
    · cases h
      have e1 := mm_ln (a := 2) hln; subst e1
      exact lv_goto hx hb hd ho (kk Ls rfl hl)
    · cases h
  | tableswitch d lo hi offs =>
    simp only [mm_1] at h
    split at h
    · rename_i x r
      split at h
      · rename_i hc
        obtain ⟨g1, g2, g3⟩ := mm_tgs (B := B) h
        subst g2; subst g3
        exact lv_tableOut hx hb hd hc g1 (kk Ls rfl hl)
      · rename_i hc
        split at h
        · rename_i off hoff
          obtain ⟨g1, g2, g3⟩ := mm_tgs (B := B) h
          subst g2; subst g3
          rw [mm_n_eq, Array.getElem?_toList] at hoff
          exact lv_tableIn hx hb hd (fun q => hc (Or.inl q)) (fun q => hc (Or.inr q)) hoff g1 (kk Ls rfl hl)
        · cases h
    · cases h
  | lookupswitch d ps =>
    simp only [mm_1] at h
    split at h
    · obtain ⟨g1, g2, g3⟩ := mm_tgs (B := B) h
      subst g2; subst g3
      exact lv_lookup hx hb hd ho rfl g1 (kk Ls rfl hl)
    · cases h
  | ldc k =>
    simp only [mm_1] at h
    split at h
    · cases h
      have e1 := mm_ln (a := 1) hln; subst e1
      exact lv_ldc hx hb hown (hT.use ho rfl args) hd (kk Ls rfl hl)
    · rename_i kk0
      cases hc : Nat.blt kk0 6 <;> rw [hc] at h
      · cases h
      · cases h
        have e1 := mm_ln (a := 1) hln; subst e1
        obtain ⟨o1, o2⟩ := ho
        subst o2
        have hlt : kk0 < 6 := mm_blt hc
        have hq : mm_a B (1 + kk0) = B.2.1 (1 + kk0) := by
          unfold mm_a
          rw [if_pos (by omega)]
        have hk := kk Ls rfl hl
        rw [List.map_cons] at hk
        refine va_ldcS hx hb (own := "SovereignInBarrow$Telling") (by rw [← o1]; exact hown) (hG.2.2.2.2.2.2.2.2.1 kk0 hlt) hd ?_
        rw [← hq]
        exact hk
    · cases h
  | ldc_w k =>
    simp only [mm_1] at h
    split at h
    · cases h
      have e1 := mm_ln (a := 2) hln; subst e1
      exact lv_ldcw hx hb hown (hT.use ho rfl args) hd (kk Ls rfl hl)
    · cases h
  | ldc2_w k =>
    simp only [mm_1] at h
    split at h
    · cases h
      have e1 := mm_ln (a := 2) hln; subst e1
      exact lv_ldc2 hx hb hown (hT.use ho rfl args) hd (kk Ls rfl hl)
    · cases h
  | _ => cases h
end MS1
