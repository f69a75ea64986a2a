section MSA
variable {p : Program} {l : Launch} {e : Env} {s : State} {m : MethodId} {args : Array Value} {below : List Frame} {meth : Method} {c : Code} {H : Heap} {locs : List Loc} {cells slots : Nat} {Q : State → Prop}
theorem mm_kA {B : mm_B} {X : List Int32} {n z pc bc bs idx : Nat} {ls : mm_L} {st : List Value} {M M1 : mm_H} {r : Option Value} {Ls : Array Slot} (hSP : mm_SP B X l n) (C : mm_At B X p s m meth c z) (hRet : mm_Ret B p l e s m args below meth c Q z r M1) (hlen : ls.length = (mm_i z).1) (hlo : mm_lo B Ls ls) (hP : va_P B.2.2.1 vwCl (mm_w B M) H) (hS : va_S (mm_A B) s.heap H locs) (hbc : mm_mc z = cells + bc) (hbs : mm_ms z = slots + bs) (hsz : s.heap.size + cells = B.1 + M.length)
    (hd : decode (mm_by z) pc = .ok (.invokestatic idx, 3)) (ho : Cond.methodLink (mm_y z).cls idx arraycopyName ∈ lw_tbl ∧ 1 ≤ (mm_rf z).1 ∧ nativeFrameWords "java/lang/System" "arraycopy" 5 + 11 ≤ (mm_rf z).2.1) (h : mm_acp (mm_x (some X) n) z pc ls st M bc bs = some (r, M1)) :
    W p l e (mm_rm z) s m args below meth c H locs cells slots Q (F0 m pc Ls (st.map (mm_v B))) := by
  obtain ⟨hx, hb, hr0, hml, hown, hlocks, hnm, hG⟩ := id C
  have hT := hG.1
  unfold mm_acp at h
  split at h
  · rename_i nn dp a sp b
    split at h
    · rename_i ys xs hga hgb
      split at h
      · rename_i hc
        obtain ⟨rfl, rfl, hn, hnx, hny⟩ := hc
        obtain ⟨ha, hM⟩ := mm_glt hga
        refine va_copyi hx hb (hml.trans (hlo.1.trans hlen).symm) hown (hT.use ho.1 rfl args) (hT.use mm_qSn rfl args) (hT.use mm_qSs rfl args) (hT.use mm_qSi rfl args) hG.2.1 hP (mm_D B M) hS (b - 100) (a - 100) 0 0 (mm_gat hgb) (mm_gat hga) rfl rfl rfl (by decide) (by decide) hn (by rw [hnx]; show 0 + _ ≤ _; omega) (by rw [hny]; show 0 + _ ≤ _; omega) (fun i _ => rfl) ho.2.1 (by show 0 + _ ≤ _; rw [Nat.zero_add]; exact ho.2.2) hd (fun H1 locs1 h1 _ h3 => ?_)
        refine hSP z (pc + 3) ls [] (mm_s M (a - 100) (.inr (.inl xs))) bc bs r M1 h p e s m args below meth c Q C hRet H1 locs1 Ls cells slots hlen hlo ?_ h3 hbc hbs (by rw [mm_s_eq, List.length_set]; exact hsz)
        rw [← mm_gset ha]
        have hlt : a - 100 < (mm_w B M).length := (List.getElem?_eq_some_iff.mp (mm_gat (B := B) hga)).1
        intro k q hk
        by_cases hkp : k = a - 100
        · subst hkp
          rw [List.getElem?_set_self hlt] at hk
          cases hk
          have h4 := h1 (a - 100) _ (List.getElem?_set_self hlt)
          have e1 : ys.length = xs.length := hny.symm.trans hnx
          have h5 : H1[mm_a B a]? = some (arrV B.2.2.2.1 ys.length (fun j => .int (va_cpy (fun j => xs.getD j 0) (fun j => ys.getD j 0) (0 : Int32).toNatClampNeg (0 : Int32).toNatClampNeg nn.toNatClampNeg j))) := h4
          show H1[mm_a B a]? = some (arrV B.2.2.2.1 xs.length (fun j => .int (xs.getD j 0)))
          rw [h5, e1]
          congr 1
          unfold arrV
          congr 2
          funext j
          have hcp : va_cpy (fun j => xs.getD j 0) (fun j => ys.getD j 0) 0 0 nn.toNatClampNeg j.val = xs.getD j.val 0 := by
            have h7 : j.val < 0 + nn.toNatClampNeg := by rw [hnx, Nat.zero_add]; exact j.isLt
            rw [pk_cpy_in (Nat.zero_le _) h7]
            show xs.getD (0 + (j.val - 0)) 0 = _
            rw [Nat.zero_add, Nat.sub_zero]
          show Value.int (va_cpy (fun j => xs.getD j 0) (fun j => ys.getD j 0) 0 0 nn.toNatClampNeg j.val) = Value.int (xs.getD j.val 0)
          rw [hcp]
        · exact h1 k q (by rw [List.getElem?_set_ne (Ne.symm hkp)] at hk ⊢; exact hk)
      · cases h
    · cases h
  · cases h
end MSA
theorem mm_sels : ∀ {es : List (Nat × Nat)} {c y : Nat}, mm_sel es c = some y → (c, y) ∈ es
  | [], _, _, h => by cases h
  | e :: es, c, y, h => by
    unfold mm_sel at h
    cases hc : Nat.beq e.1 c <;> rw [hc] at h
    · exact List.mem_cons_of_mem _ (mm_sels h)
    · have h1 := Nat.eq_of_beq_eq_true hc
      cases h
      rw [← h1]
      exact List.mem_cons_self
set_option maxHeartbeats 8000000 in
theorem mm_step {B : mm_B} {X : List Int32} {l : Launch} (hCl : mm_Cl B) {n : Nat} (hSP : mm_SP B X l n) : mm_SP B X l (n + 1) := by
  intro z pc ls st M bc bs r M1 h p e s m args below meth c Q C hRet H locs Ls cells slots hlen hlo hP hS hbc hbs hsz
  rw [mm_xs] at h
  unfold mm_b at h
  cases hcd : mm_code z pc with
  | none => rw [hcd] at h; cases h
  | some x =>
    obtain ⟨i, ex⟩ := x
    have K := mm_cok z pc _ hcd
    rw [hcd] at h
    obtain ⟨hx, hb, hr0, hml, hown, hlocks, hnm, hG⟩ := id C
    have hT := hG.1
    cases i with
    | ireturn  =>
      simp only [] at h
      split at h
      · rename_i v
        cases hc : (mm_rok z v && (Nat.beq bc 0 && Nat.beq bs 0)) <;> rw [hc] at h
        · cases h
        · simp only [Bool.and_eq_true] at hc
          have b1 := Nat.eq_of_beq_eq_true hc.2.1
          have b2 := Nat.eq_of_beq_eq_true hc.2.2
          subst b1; subst b2
          cases h
          obtain ⟨⟨ln, hd, hln⟩, ho⟩ := K
          have e1 := mm_ln (a := 0) hln; subst e1
          have ec : cells = mm_mc z := by omega
          have es : slots = mm_ms z := by omega
          subst ec; subst es
          exact hRet H locs Ls pc _ hP hS hsz ⟨rfl, hd, hc.1⟩
      · cases h
    | lreturn  =>
      simp only [] at h
      split at h
      · rename_i v
        cases hc : (Nat.beq (mm_i z).2.2.1 2 && (Nat.beq bc 0 && Nat.beq bs 0)) <;> rw [hc] at h
        · cases h
        · simp only [Bool.and_eq_true] at hc
          have b1 := Nat.eq_of_beq_eq_true hc.2.1
          have b2 := Nat.eq_of_beq_eq_true hc.2.2
          subst b1; subst b2
          cases h
          obtain ⟨⟨ln, hd, hln⟩, ho⟩ := K
          have e1 := mm_ln (a := 0) hln; subst e1
          have ec : cells = mm_mc z := by omega
          have es : slots = mm_ms z := by omega
          subst ec; subst es
          exact hRet H locs Ls pc _ hP hS hsz ⟨rfl, hd, Nat.eq_of_beq_eq_true hc.1⟩
      · cases h
    | areturn  =>
      simp only [] at h
      split at h
      · rename_i v
        cases hc : (Nat.beq (mm_i z).2.2.1 3 && (Nat.beq bc 0 && Nat.beq bs 0)) <;> rw [hc] at h
        · cases h
        · simp only [Bool.and_eq_true] at hc
          have b1 := Nat.eq_of_beq_eq_true hc.2.1
          have b2 := Nat.eq_of_beq_eq_true hc.2.2
          subst b1; subst b2
          cases h
          obtain ⟨⟨ln, hd, hln⟩, ho⟩ := K
          have e1 := mm_ln (a := 0) hln; subst e1
          have ec : cells = mm_mc z := by omega
          have es : slots = mm_ms z := by omega
          subst ec; subst es
          exact hRet H locs Ls pc _ hP hS hsz ⟨rfl, hd, Nat.eq_of_beq_eq_true hc.1⟩
      · cases h
    | return_  =>
      simp only [] at h
      split at h
      · skip
        cases hc : (Nat.beq (mm_i z).2.2.1 0 && (Nat.beq bc 0 && Nat.beq bs 0)) <;> rw [hc] at h
        · cases h
        · simp only [Bool.and_eq_true] at hc
          have b1 := Nat.eq_of_beq_eq_true hc.2.1
          have b2 := Nat.eq_of_beq_eq_true hc.2.2
          subst b1; subst b2
          cases h
          obtain ⟨⟨ln, hd, hln⟩, ho⟩ := K
          have e1 := mm_ln (a := 0) hln; subst e1
          have ec : cells = mm_mc z := by omega
          have es : slots = mm_ms z := by omega
          subst ec; subst es
          exact hRet H locs Ls pc _ hP hS hsz ⟨rfl, hd, Nat.eq_of_beq_eq_true hc.1⟩
      · cases h
    | idiv  =>
      simp only [] at h
      split at h
      · split at h
        · cases h
        · rename_i hne
          obtain ⟨⟨ln, hd, hln⟩, ho⟩ := K
          have e1 := mm_ln (a := 0) hln; subst e1
          exact lv_idiv hx hb hd hne (hSP z (pc + 1) ls _ M bc bs r M1 h p e s m args below meth c Q C hRet H locs Ls cells slots hlen hlo hP hS hbc hbs hsz)
      · cases h
    | irem  =>
      simp only [] at h
      split at h
      · split at h
        · cases h
        · rename_i hne
          obtain ⟨⟨ln, hd, hln⟩, ho⟩ := K
          have e1 := mm_ln (a := 0) hln; subst e1
          exact lv_irem hx hb hd hne (hSP z (pc + 1) ls _ M bc bs r M1 h p e s m args below meth c Q C hRet H locs Ls cells slots hlen hlo hP hS hbc hbs hsz)
      · cases h
    | ldiv  =>
      simp only [] at h
      split at h
      · split at h
        · cases h
        · rename_i hne
          obtain ⟨⟨ln, hd, hln⟩, ho⟩ := K
          have e1 := mm_ln (a := 0) hln; subst e1
          exact lv_ldiv hx hb hd hne (hSP z (pc + 1) ls _ M bc bs r M1 h p e s m args below meth c Q C hRet H locs Ls cells slots hlen hlo hP hS hbc hbs hsz)
      · cases h
    | lrem  =>
      simp only [] at h
      split at h
      · split at h
        · cases h
        · rename_i hne
          obtain ⟨⟨ln, hd, hln⟩, ho⟩ := K
          have e1 := mm_ln (a := 0) hln; subst e1
          exact lv_lrem hx hb hd hne (hSP z (pc + 1) ls _ M bc bs r M1 h p e s m args below meth c Q C hRet H locs Ls cells slots hlen hlo hP hS hbc hbs hsz)
      · cases h
    | if_icmp k off =>
      obtain ⟨⟨ln, hd, hln⟩, ho⟩ := K
      have e1 := mm_ln (a := 2) hln; subst e1
      simp only [] at h
      split at h
      · rename_i zt_ ztt_ zy_ zx_ zr_
        cases k with
        | eq =>
          exact lv_icmp_eq hx hb hd ho (fun q => by rw [if_pos q] at h; exact hSP z zt_ ls _ M bc bs r M1 h p e s m args below meth c Q C hRet H locs Ls cells slots hlen hlo hP hS hbc hbs hsz) (fun q => by rw [if_neg q] at h; exact hSP z (pc + 3) ls _ M bc bs r M1 h p e s m args below meth c Q C hRet H locs Ls cells slots hlen hlo hP hS hbc hbs hsz)
        | ne =>
          dsimp only at h
          exact lv_icmp_ne hx hb hd ho (fun q => by rw [if_neg q] at h; exact hSP z zt_ ls _ M bc bs r M1 h p e s m args below meth c Q C hRet H locs Ls cells slots hlen hlo hP hS hbc hbs hsz) (fun q => by rw [if_pos q] at h; exact hSP z (pc + 3) ls _ M bc bs r M1 h p e s m args below meth c Q C hRet H locs Ls cells slots hlen hlo hP hS hbc hbs hsz)
        | lt =>
          exact lv_icmp_lt hx hb hd ho (fun q => by rw [if_pos q] at h; exact hSP z zt_ ls _ M bc bs r M1 h p e s m args below meth c Q C hRet H locs Ls cells slots hlen hlo hP hS hbc hbs hsz) (fun q => by rw [if_neg q] at h; exact hSP z (pc + 3) ls _ M bc bs r M1 h p e s m args below meth c Q C hRet H locs Ls cells slots hlen hlo hP hS hbc hbs hsz)
        | ge =>
          exact lv_icmp_ge hx hb hd ho (fun q => by rw [if_pos q] at h; exact hSP z zt_ ls _ M bc bs r M1 h p e s m args below meth c Q C hRet H locs Ls cells slots hlen hlo hP hS hbc hbs hsz) (fun q => by rw [if_neg q] at h; exact hSP z (pc + 3) ls _ M bc bs r M1 h p e s m args below meth c Q C hRet H locs Ls cells slots hlen hlo hP hS hbc hbs hsz)
        | gt =>
          exact lv_icmp_gt hx hb hd ho (fun q => by rw [if_pos q] at h; exact hSP z zt_ ls _ M bc bs r M1 h p e s m args below meth c Q C hRet H locs Ls cells slots hlen hlo hP hS hbc hbs hsz) (fun q => by rw [if_neg q] at h; exact hSP z (pc + 3) ls _ M bc bs r M1 h p e s m args below meth c Q C hRet H locs Ls cells slots hlen hlo hP hS hbc hbs hsz)
        | le =>
          exact lv_icmp_le hx hb hd ho (fun q => by rw [if_pos q] at h; exact hSP z zt_ ls _ M bc bs r M1 h p e s m args below meth c Q C hRet H locs Ls cells slots hlen hlo hP hS hbc hbs hsz) (fun q => by rw [if_neg q] at h; exact hSP z (pc + 3) ls _ M bc bs r M1 h p e s m args below meth c Q C hRet H locs Ls cells slots hlen hlo hP hS hbc hbs hsz)
      · cases h
    | ifCond k off =>
      obtain ⟨⟨ln, hd, hln⟩, ho⟩ := K
      have e1 := mm_ln (a := 2) hln; subst e1
      simp only [] at h
      split at h
      · rename_i zt_ ztt_ zx_ zr_
        cases k with
        | eq =>
          exact lv_if_eq hx hb hd ho (fun q => by rw [if_pos q] at h; exact hSP z zt_ ls _ M bc bs r M1 h p e s m args below meth c Q C hRet H locs Ls cells slots hlen hlo hP hS hbc hbs hsz) (fun q => by rw [if_neg q] at h; exact hSP z (pc + 3) ls _ M bc bs r M1 h p e s m args below meth c Q C hRet H locs Ls cells slots hlen hlo hP hS hbc hbs hsz)
        | ne =>
          dsimp only at h
          exact lv_if_ne hx hb hd ho (fun q => by rw [if_neg q] at h; exact hSP z zt_ ls _ M bc bs r M1 h p e s m args below meth c Q C hRet H locs Ls cells slots hlen hlo hP hS hbc hbs hsz) (fun q => by rw [if_pos q] at h; exact hSP z (pc + 3) ls _ M bc bs r M1 h p e s m args below meth c Q C hRet H locs Ls cells slots hlen hlo hP hS hbc hbs hsz)
        | lt =>
          exact lv_if_lt hx hb hd ho (fun q => by rw [if_pos q] at h; exact hSP z zt_ ls _ M bc bs r M1 h p e s m args below meth c Q C hRet H locs Ls cells slots hlen hlo hP hS hbc hbs hsz) (fun q => by rw [if_neg q] at h; exact hSP z (pc + 3) ls _ M bc bs r M1 h p e s m args below meth c Q C hRet H locs Ls cells slots hlen hlo hP hS hbc hbs hsz)
        | ge =>
          exact lv_if_ge hx hb hd ho (fun q => by rw [if_pos q] at h; exact hSP z zt_ ls _ M bc bs r M1 h p e s m args below meth c Q C hRet H locs Ls cells slots hlen hlo hP hS hbc hbs hsz) (fun q => by rw [if_neg q] at h; exact hSP z (pc + 3) ls _ M bc bs r M1 h p e s m args below meth c Q C hRet H locs Ls cells slots hlen hlo hP hS hbc hbs hsz)
        | gt =>
          exact lv_if_gt hx hb hd ho (fun q => by rw [if_pos q] at h; exact hSP z zt_ ls _ M bc bs r M1 h p e s m args below meth c Q C hRet H locs Ls cells slots hlen hlo hP hS hbc hbs hsz) (fun q => by rw [if_neg q] at h; exact hSP z (pc + 3) ls _ M bc bs r M1 h p e s m args below meth c Q C hRet H locs Ls cells slots hlen hlo hP hS hbc hbs hsz)
        | le =>
          exact lv_if_le hx hb hd ho (fun q => by rw [if_pos q] at h; exact hSP z zt_ ls _ M bc bs r M1 h p e s m args below meth c Q C hRet H locs Ls cells slots hlen hlo hP hS hbc hbs hsz) (fun q => by rw [if_neg q] at h; exact hSP z (pc + 3) ls _ M bc bs r M1 h p e s m args below meth c Q C hRet H locs Ls cells slots hlen hlo hP hS hbc hbs hsz)
      · cases h
    | invokestatic idx =>
      obtain ⟨⟨ln, hd, hln⟩, ho⟩ := K
      have e1 := mm_ln (a := 2) hln; subst e1
      simp only [] at h
      split at h
      · rename_i zy_
        cases hc : Nat.beq (mm_i zy_).2.1 (mm_rf zy_).2.2 <;> rw [hc] at h
        · cases h
        · exact mm_kS hSP C hRet hlen hlo hP hS hbc hbs hsz hd ho (Nat.eq_of_beq_eq_true hc) h
      · exact mm_kA hSP C hRet hlen hlo hP hS hbc hbs hsz hd ho h
      · split at h
        · rename_i zx_ zr_
          cases hc : Nat.ble (mm_cat zr_) 8 <;> rw [hc] at h
          · cases h
          · have hc8 : (((List.map (mm_v B) zr_).map fun v => v.category).sum) ≤ 8 := by rw [mm_vsum]; exact Nat.le_of_ble_eq_true hc
            have hfr : 21 ≤ (mm_rm z).locals := ho.2.2
            exact va_mabs hx hb (hml.trans (hlo.1.trans hlen).symm) hown (hT.use ho.1 rfl args) (hT.use mm_qM3 rfl args) (hT.use mm_qMi rfl args) (hT.use mm_qC3 rfl args) ho.2.1 (by omega) (by show _ ≤ mm_mc z; omega) (by show _ ≤ mm_ms z; omega) hd (hSP z (pc + 3) ls _ M bc bs r M1 h p e s m args below meth c Q C hRet H locs Ls cells slots hlen hlo hP hS hbc hbs hsz)
        · cases h
      · split at h
        · rename_i zy_ zx_ zr_
          cases hc : Nat.ble (mm_cat zr_) 8 <;> rw [hc] at h
          · cases h
          · have hc8 : (((List.map (mm_v B) zr_).map fun v => v.category).sum) ≤ 8 := by rw [mm_vsum]; exact Nat.le_of_ble_eq_true hc
            have hfr : 21 ≤ (mm_rm z).locals := ho.2.2
            exact va_mmax hx hb (hml.trans (hlo.1.trans hlen).symm) hown (hT.use ho.1 rfl args) (hT.use mm_qM4 rfl args) (hT.use mm_qMi rfl args) (hT.use mm_qC4 rfl args) ho.2.1 (by omega) (by show _ ≤ mm_mc z; omega) (by show _ ≤ mm_ms z; omega) hd (hSP z (pc + 3) ls _ M bc bs r M1 h p e s m args below meth c Q C hRet H locs Ls cells slots hlen hlo hP hS hbc hbs hsz)
        · cases h
      · split at h
        · rename_i zy_ zx_ zr_
          cases hc : Nat.ble (mm_cat zr_) 8 <;> rw [hc] at h
          · cases h
          · have hc8 : (((List.map (mm_v B) zr_).map fun v => v.category).sum) ≤ 8 := by rw [mm_vsum]; exact Nat.le_of_ble_eq_true hc
            have hfr : 21 ≤ (mm_rm z).locals := ho.2.2
            exact va_mmin hx hb (hml.trans (hlo.1.trans hlen).symm) hown (hT.use ho.1 rfl args) (hT.use mm_qM5 rfl args) (hT.use mm_qMi rfl args) (hT.use mm_qC5 rfl args) ho.2.1 (by omega) (by show _ ≤ mm_mc z; omega) (by show _ ≤ mm_ms z; omega) hd (hSP z (pc + 3) ls _ M bc bs r M1 h p e s m args below meth c Q C hRet H locs Ls cells slots hlen hlo hP hS hbc hbs hsz)
        · cases h
      · cases h
    | invokespecial idx =>
      obtain ⟨⟨ln, hd, hln⟩, ho⟩ := K
      have e1 := mm_ln (a := 2) hln; subst e1
      simp only [] at h
      split at h
      · split at h
        · rename_i za_ zr_
          cases hc : Nat.ble (mm_cat zr_) 8 <;> rw [hc] at h
          · cases h
          · have hc8 : (((List.map (mm_v B) zr_).map fun v => v.category).sum) ≤ 8 := by rw [mm_vsum]; exact Nat.le_of_ble_eq_true hc
            have hfr : 20 ≤ (mm_rm z).locals := ho.2.2
            refine W.objInit hx hb hown (hT.use ho.1 rfl args) (hT.use mm_qOi rfl args) (hT.use mm_qOc rfl args) rfl (hlo.1.trans (hlen.trans hml.symm)) (a := mm_a B za_) (rest := List.map (mm_v B) zr_) rfl hd ho.2.1 (by show 2 * 0 + _ + 12 ≤ _; omega) (hSP z (pc + 3) ls _ M bc bs r M1 h p e s m args below meth c Q C hRet H locs Ls cells slots hlen hlo hP hS hbc hbs hsz)
        · cases h
      · rename_i zy_
        split at h
        · rename_i za_ zha_
          cases hc : Nat.beq (mm_i zy_).2.1 ((mm_rf zy_).2.2 + 1) <;> rw [hc] at h
          · cases h
          · exact mm_kI hSP C hRet hlen hlo hP hS hbc hbs hsz hd ho (Nat.eq_of_beq_eq_true hc) zha_ h
        · cases h
      · rename_i zy_
        split at h
        · rename_i za_ zha_
          split at h
          · rename_i zc_ zfs_ zhg_
            cases hc : (Nat.blt zc_ 11 && Nat.beq (mm_i zy_).2.1 ((mm_rf zy_).2.2 + 1)) <;> rw [hc] at h
            · cases h
            · simp only [Bool.and_eq_true] at hc
              exact mm_kU hSP C hRet hlen hlo hP hS hbc hbs hsz hd ho (Nat.eq_of_beq_eq_true hc.2) zha_ (mm_blt hc.1) zhg_ h
          · cases h
        · cases h
      · cases h
    | invokevirtual idx =>
      obtain ⟨⟨ln, hd, hln⟩, ho⟩ := K
      have e1 := mm_ln (a := 2) hln; subst e1
      simp only [] at h
      split at h
      · rename_i zci_ zy_
        split at h
        · rename_i za_ zha_
          split at h
          · rename_i zc_ zhg_
            cases hc : (Nat.beq zc_ zci_ && Nat.beq (mm_i zy_).2.1 ((mm_rf zy_).2.2 + 1)) <;> rw [hc] at h
            · cases h
            · simp only [Bool.and_eq_true] at hc
              have ec := Nat.eq_of_beq_eq_true hc.1
              subst ec
              exact mm_kV hSP C hRet hlen hlo hP hS hbc hbs hsz hd ho (Nat.eq_of_beq_eq_true hc.2) zha_ zhg_ h
          · cases h
        · cases h
      · rename_i ze0_ zes_ zne_
        have ho2 : Cond.methodLink (mm_y z).cls idx (mm_y ze0_.2) ∈ lw_tbl ∧ Cond.sameMethod (mm_y ze0_.2).cls (mm_y ze0_.2).cls (mm_y ze0_.2).name (mm_y ze0_.2).desc ∈ lw_tbl ∧ 0 < ze0_.2 ∧ ze0_.2 < mm_NM ∧ ∀ e ∈ ze0_ :: zes_, mm_vok z idx (mm_y ze0_.2) e ∧ (mm_rf e.2).2.2 = (mm_rf ze0_.2).2.2 := by
          cases zes_ with
          | nil => exact (zne_ ze0_.1 ze0_.2 rfl rfl).elim
          | cons e1 es1 => exact ho
        split at h
        · rename_i za_ zha_
          split at h
          · rename_i zc_ zhg_
            split at h
            · rename_i zy_ zhy_
              cases hc : Nat.beq (mm_i zy_).2.1 ((mm_rf zy_).2.2 + 1) <;> rw [hc] at h
              · cases h
              · obtain ⟨o1, o2, o3, o4, o5⟩ := ho2
                have hm := mm_sels zhy_
                obtain ⟨o6, o7⟩ := o5 _ hm
                obtain ⟨-, -, -, o8, -⟩ := (o5 _ List.mem_cons_self).1
                exact mm_kD hSP C hRet hlen hlo hP hS hbc hbs hsz hd o1 o2 o3 o4 o8 o6 o7 (Nat.eq_of_beq_eq_true hc) (by rw [o7]; exact zha_) zhg_ h
            · cases h
          · cases h
        · cases h
      · cases h
    | getfield k =>
      exact mm_k2 hCl hSP C hRet hlen hlo hP hS hbc hbs hsz K h
    | putfield k =>
      exact mm_k2 hCl hSP C hRet hlen hlo hP hS hbc hbs hsz K h
    | getstatic k =>
      exact mm_k2 hCl hSP C hRet hlen hlo hP hS hbc hbs hsz K h
    | baload  =>
      exact mm_k2 hCl hSP C hRet hlen hlo hP hS hbc hbs hsz K h
    | iaload  =>
      exact mm_k2 hCl hSP C hRet hlen hlo hP hS hbc hbs hsz K h
    | iastore  =>
      exact mm_k2 hCl hSP C hRet hlen hlo hP hS hbc hbs hsz K h
    | aaload  =>
      exact mm_k2 hCl hSP C hRet hlen hlo hP hS hbc hbs hsz K h
    | aastore  =>
      exact mm_k2 hCl hSP C hRet hlen hlo hP hS hbc hbs hsz K h
    | arraylength  =>
      exact mm_k2 hCl hSP C hRet hlen hlo hP hS hbc hbs hsz K h
    | new k =>
      exact mm_k2 hCl hSP C hRet hlen hlo hP hS hbc hbs hsz K h
    | newarray k =>
      exact mm_k2 hCl hSP C hRet hlen hlo hP hS hbc hbs hsz K h
    | anewarray k =>
      exact mm_k2 hCl hSP C hRet hlen hlo hP hS hbc hbs hsz K h
    | _ => exact mm_k1 hSP C hRet hlen hlo hP hS hbc hbs hsz K h
theorem mm_sound {B : mm_B} {X : List Int32} {l : Launch} (hCl : mm_Cl B) : ∀ n, mm_SP B X l n
  | 0 => by
    intro z pc ls st M bc bs r M1 h
    cases h
  | n + 1 => mm_step hCl (mm_sound hCl n)
