/-! ===== instructions that read or write cells ===== -/
theorem mm_ugood {C : String} {T : u_T} {N : Nat} : ∀ w ∈ u_ws C T N, mm_gw w = true := by
  intro w hw
  obtain ⟨k, -, rfl⟩ := List.mem_map.mp hw
  unfold u_lay
  split <;> rfl
/-- what the names say of the classes -/
def mm_Cl (B : mm_B) : Prop := ∀ (ci : Nat) (r : vw_C), vwCl[ci]? = some r → (∀ w ∈ u_ws r.1 r.2.1 r.2.2, w ∈ lw_tbl) ∧ (∃ ty0 : Nat → FieldType, (∀ k, k < r.2.2 → parseFieldDescriptor (r.2.1 k).2.2.1 = some (ty0 k)) ∧ ∀ j, j < r.2.2 → defaultValue (ty0 j) = vp_V ((mm_df ci).map (mm_v B)) j) ∧ (∀ a, a < r.2.2 → ∀ b, b < r.2.2 → a ≠ b → (r.2.1 a).2.1 ≠ (r.2.1 b).2.1) ∧ (mm_df ci).length = r.2.2 ∧ Cond.instantiable r.1 r.2.2 ∈ lw_tbl ∧ Cond.initialized r.1 ∈ lw_tbl
theorem mm_fits {B : mm_B} {tk : Nat} {ty : FieldType} {v : Value} (h1 : mm_tyk tk ty) (h2 : mm_fit tk v = true) : narrow ty (mm_v B v) = mm_v B v ∧ fits ty (mm_v B v) = true := by
  cases v with
  | int x =>
    simp only [mm_fit, Bool.or_eq_true, Bool.and_eq_true, decide_eq_true_eq] at h2
    rcases h2 with h2 | ⟨h2, h3⟩
    · have e := Nat.eq_of_beq_eq_true h2
      subst e
      have e2 : ty = .int := h1
      subst e2
      exact ⟨rfl, rfl⟩
    · have e := Nat.eq_of_beq_eq_true h2
      subst e
      have e2 : ty = .boolean := h1
      subst e2
      rcases h3 with h3 | h3
      · subst h3; exact ⟨show narrow .boolean (.int 0) = .int 0 by decide, show fits .boolean (.int 0) = true by decide⟩
      · subst h3; exact ⟨show narrow .boolean (.int 1) = .int 1 by decide, show fits .boolean (.int 1) = true by decide⟩
  | ref a =>
    have e := Nat.eq_of_beq_eq_true h2
    subst e
    rcases h1 with ⟨t, rfl⟩ | ⟨t, rfl⟩
    · exact ⟨rfl, rfl⟩
    · exact ⟨rfl, rfl⟩
  | _ => cases h2
theorem mm_vpin {i : Int32} {n : Nat} (h1 : ¬ i < 0) (h2 : i.toNatClampNeg < n) : vp_in i n := fun h => h.elim h1 (fun q => absurd h2 (Nat.not_lt.mpr q))
theorem k_a11 {a : Nat} (h : 1 ≤ a) : 11 + (a - 1) = a + 10 := by omega
theorem mm_sbs {a : Nat} {xs : List Int32} (h : mm_sb a = some xs) : 11 ≤ a ∧ a ≤ 16 ∧ mm_byt.getD (a - 11) [] = xs ∧ mm_sln.getD (a - 11) 0 = xs.length := by
  unfold mm_sb at h
  cases hc : (Nat.ble 11 a && Nat.ble a 16) <;> rw [hc] at h
  · cases h
  · rw [Bool.and_eq_true] at hc
    have h1 := Nat.le_of_ble_eq_true hc.1
    have h2 := Nat.le_of_ble_eq_true hc.2
    refine ⟨h1, h2, ?_⟩
    obtain ⟨k, rfl⟩ : ∃ k, a = 11 + k := ⟨a - 11, by omega⟩
    rw [Nat.add_sub_cancel_left] at h ⊢
    match k, h2 with
    | 0, _ => cases h; exact ⟨rfl, rfl⟩
    | 1, _ => cases h; exact ⟨rfl, rfl⟩
    | 2, _ => cases h; exact ⟨rfl, rfl⟩
    | 3, _ => cases h; exact ⟨rfl, rfl⟩
    | 4, _ => cases h; exact ⟨rfl, rfl⟩
    | 5, _ => cases h; exact ⟨rfl, rfl⟩
    | k + 6, h => omega
section MS2
variable {p : Program} {l : Launch} {e : Env} {R : Room} {s : State} {m : MethodId} {args : Array Value} {below : List Frame} {meth : Method} {c : Code} {H : Heap} {locs : List Loc} {cells slots : Nat} {Q : State → Prop}
theorem mm_sized {g : JFrame} (k : H.size ≤ s.heap.size + cells → W p l e R s m args below meth c H locs cells slots Q g) : W p l e R s m args below meth c H locs cells slots Q g := fun T hT X => k (hT ▸ X.heapSize) T hT X
theorem mm_newq {B : mm_B} {M : mm_H} {x : va_E} {q : Nat} {H1 : Heap} (hP : va_P B.2.2.1 vwCl (mm_w B M ++ [(q, x)]) H1) (hD : va_D (mm_A B) (mm_w B M ++ [(q, x)])) (hz : H1.size ≤ B.1 + M.length + 1) : q = B.1 + M.length := by
  have hlen : (mm_w B M).length = M.length := by unfold mm_w; exact List.length_mapIdx
  have hq : (mm_w B M ++ [(q, x)])[M.length]? = some (q, x) := by rw [← hlen]; simp
  have h1 : q < H1.size := (hP _ _ hq).lt
  have h2 : B.1 ≤ q := hD.2 _ _ hq
  rcases Nat.lt_or_ge q (B.1 + M.length) with h | h
  · have hk : q - B.1 < M.length := by omega
    obtain ⟨c, hc⟩ : ∃ c, M[q - B.1]? = some c := ⟨_, List.getElem?_eq_getElem hk⟩
    have hg := mm_wg1 (B := B) hc
    have hg2 : (mm_w B M ++ [(q, x)])[q - B.1]? = some (B.1 + (q - B.1), mm_e B c) := by
      rw [List.getElem?_append_left (by rw [hlen]; exact hk)]; exact hg
    have := hD.1 _ _ _ _ hg2 hq (by show B.1 + (q - B.1) = q; omega)
    omega
  · omega
set_option maxHeartbeats 4000000 in
theorem mm_s2 (B : mm_B) {X : List Int32} (hCl : mm_Cl B) {z pc pc1 bc bs bc1 bs1 : Nat} {i : Instr} {ex : List (Nat × Nat)} {ls ls1 : mm_L} {st st1 : List Value} {M M1 : mm_H} (hx : p.tables.exec = Jvm.exec) (hb : c.code = mm_by z) (hown : s.vm.findClass (mm_y z).cls = some m.cls) (hin : z = 0 ∨ meth.name = (mm_y z).name) (hG : mm_G B X s) (h : mm_2 (some X) i ex pc ls st M bc bs = some (pc1, ls1, st1, M1, bc1, bs1)) (K : mm_K z pc (i, ex)) {Ls : Array Slot}
    (hP : va_P B.2.2.1 vwCl (mm_w B M) H) (hS : va_S (mm_A B) s.heap H locs) (hRc : R.cells = cells + bc) (hRs : R.slots = slots + bs) (hsz : s.heap.size + cells = B.1 + M.length)
    (kk : ∀ (H1 : Heap) (locs1 : List Loc) (cells1 slots1 : Nat), ls1 = ls → va_P B.2.2.1 vwCl (mm_w B M1) H1 → va_S (mm_A B) s.heap H1 locs1 → R.cells = cells1 + bc1 → R.slots = slots1 + bs1 → s.heap.size + cells1 = B.1 + M1.length → W p l e R s m args below meth c H1 locs1 cells1 slots1 Q (F0 m pc1 Ls (st1.map (mm_v B)))) : W p l e R s m args below meth c H locs cells slots Q (F0 m pc Ls (st.map (mm_v B))) := by
  obtain ⟨⟨ln, hd, hln⟩, ho⟩ := K
  obtain ⟨hT, hK, hAc, hAo, hX, hX0, hBs, hSg⟩ := hG
  have hA : ∀ q, s.heap.size ≤ q → mm_A B q := fun q h => Nat.le_trans hBs h
  have hD := mm_D B M
  cases i with
  | getfield idx =>
    simp only [mm_2] at h
    split at h
    · rename_i ci k a r
      cases h11 : Nat.beq ci 11 with
      | true =>
        rw [h11] at h
        have e11 := Nat.eq_of_beq_eq_true h11
        subst e11
        simp only [cond_true] at h
        split at h
        · rename_i v hv
          cases h
          have e1 := mm_ln (a := 2) hln; subst e1
          unfold mm_sf at hv
          cases ha : (Nat.ble 1 a && Nat.ble a 6) <;> rw [ha] at hv
          · cases hv
          · rw [Bool.and_eq_true] at ha
            have a1 := Nat.le_of_ble_eq_true ha.1
            have a2 := Nat.le_of_ble_eq_true ha.2
            have hq : mm_a B a = B.2.1 (1 + (a - 1)) := by
              unfold mm_a
              rw [if_pos (by omega), show @Eq Nat (1 + (a - 1)) a from Nat.add_sub_cancel' a1]
            have hkk := kk H locs cells slots rfl hP hS hRc hRs hsz
            simp only [cond_true] at hv
            rw [List.map_cons] at hkk
            show W p l e R s m args below meth c H locs cells slots Q (F0 m pc Ls (.ref (mm_a B a) :: r.map (mm_v B)))
            rw [hq]
            split at hv
            · cases hv
              have hq2 : mm_v B (.ref (a + 10)) = .ref (B.2.1 (11 + (a - 1))) := by
                show Value.ref (mm_a B (a + 10)) = _
                unfold mm_a
                rw [if_pos (by omega), show @Eq Nat (11 + (a - 1)) (a + 10) from k_a11 a1]
              rw [hq2] at hkk
              exact vk_getf hx hb (hSg.1.1 (a - 1) (by omega)).2.2.1 hS hown (hT.use ho rfl args) (fun x h => h) hd hkk
            · cases hv
              exact vk_getf hx hb (hSg.1.1 (a - 1) (by omega)).2.1 hS hown (hT.use ho rfl args) (fun x h => h) hd hkk
            · cases hv
        · cases h
      | false =>
      rw [h11] at h
      simp only [cond_false] at h
      have hne : ci ≠ 11 := fun q => by rw [q] at h11; cases h11
      split at h
      · rename_i ci2 fs hg
        cases hc : Nat.beq ci2 ci <;> rw [hc] at h
        · cases h
        · have e2 := Nat.eq_of_beq_eq_true hc
          subst e2
          simp only [cond_true] at h
          split at h
          · rename_i v hv
            cases h
            have e1 := mm_ln (a := 2) hln; subst e1
            have ho2 : ∃ r, vwCl[ci2]? = some r ∧ k < r.2.2 ∧ Cond.fieldLink (mm_y z).cls idx (r.2.1 k).1 (r.2.1 k).2.1 (r.2.1 k).2.2.1 ∈ lw_tbl := by
              simp only [mm_ok] at ho
              split at ho
              · rename_i q; simp only [List.cons.injEq, Prod.mk.injEq] at q; exact absurd q.1.1 hne
              · rename_i q; simp only [List.cons.injEq, Prod.mk.injEq] at q; exact absurd q.1.1 hne
              · rename_i q; simp only [List.cons.injEq, Prod.mk.injEq] at q; obtain ⟨⟨rfl, rfl⟩, -⟩ := q; exact ho
              · rename_i q; exact absurd rfl (q ci2 k)
            obtain ⟨rr, hr, hk, hlk⟩ := ho2
            obtain ⟨C, T, N⟩ := rr
            have hu := (hCl _ _ hr).1
            rw [mm_n_eq] at hv
            exact va_get (C := C) (T := T) (N := N) hx hb (fun w hw => hT.use (hu w hw) (mm_ugood w hw) args) (fun w hw => hw) hown hK hP _ (mm_gat hg) hr k hk (hT.use hlk rfl args) (fun x h => h) (v := mm_v B v) (by rw [List.getElem?_map, hv]; rfl) hd (kk H locs cells slots rfl hP hS hRc hRs hsz)
          · cases h
      · cases h
    · cases h
  | putfield idx =>
    simp only [mm_2] at h
    split at h
    · rename_i ci k tk fin v a r
      split at h
      · rename_i ci2 fs hg
        cases hc : (Nat.beq ci2 ci && (mm_fit tk v && Nat.blt k fs.length)) <;> rw [hc] at h
        · cases h
        · simp only [Bool.and_eq_true] at hc
          have e2 := Nat.eq_of_beq_eq_true hc.1
          subst e2
          cases h
          have e1 := mm_ln (a := 2) hln; subst e1
          obtain ⟨rr, hr, hk, hlk, ty, hty, htk, hfn⟩ := ho
          obtain ⟨C, T, N⟩ := rr
          obtain ⟨hu, ⟨ty0, hty0, -⟩, hnm, -⟩ := hCl _ _ hr
          obtain ⟨hf1, hf2⟩ := mm_fits (B := B) htk hc.2.1
          have hk2 : k < (fs.map (mm_v B)).length := by rw [List.length_map]; exact mm_blt hc.2.2
          obtain ⟨ha, hM⟩ := mm_glt hg
          have hset : ∀ H1, va_P B.2.2.1 vwCl ((mm_w B M).set (a - 100) (mm_a B a, .inr (ci2, (fs.map (mm_v B)).set k (mm_v B v)))) H1 → va_P B.2.2.1 vwCl (mm_w B (mm_s M (a - 100) (.inl (ci2, mm_s fs k v)))) H1 := by
            intro H1 h1
            have he : mm_e B (.inl (ci2, mm_s fs k v)) = .inr (ci2, (fs.map (mm_v B)).set k (mm_v B v)) := by
              show Sum.inr (ci2, (mm_s fs k v).map (mm_v B)) = _
              rw [mm_s_eq, List.map_set]
            rw [← mm_gset ha, he]
            exact h1
          have hlen : s.heap.size + cells = B.1 + (mm_s M (a - 100) (.inl (ci2, mm_s fs k v))).length := by rw [mm_s_eq, List.length_set]; exact hsz
          match fin, hfn with
          | 0, hfn =>
            exact va_put (C := C) (T := T) (N := N) hx hb (fun w hw => hT.use (hu w hw) (mm_ugood w hw) args) (fun w hw => hw) ty0 hty0 hnm hown hK hP hD hS _ (mm_gat hg) hr k hk (hT.use hlk rfl args) (fun x h => h) hfn hty hf1 hf2 hk2 hd (fun H1 locs1 h1 _ h3 => kk H1 locs1 cells slots rfl (hset H1 h1) h3 hRc hRs hlen)
          | fin + 1, hfn =>
            exact va_putF (C := C) (T := T) (N := N) hx hb (fun w hw => hT.use (hu w hw) (mm_ugood w hw) args) (fun w hw => hw) ty0 hty0 hnm hown hK hP hD hS _ (mm_gat hg) hr k hk (hT.use hlk rfl args) (fun x h => h) hfn.1 (hin.elim (fun h0 => by rw [h0] at hfn; exact absurd hfn.2.1 (by decide)) (fun h1 => h1.trans hfn.2.1)) hfn.2.2 hty hf1 hf2 hk2 hd (fun H1 locs1 h1 _ h3 => kk H1 locs1 cells slots rfl (hset H1 h1) h3 hRc hRs hlen)
      · cases h
    · cases h
  | getstatic idx =>
    simp only [mm_2] at h
    split at h
    · cases h
      have e1 := mm_ln (a := 2) hln; subst e1
      obtain ⟨o1, o2⟩ := ho
      subst o2
      have hkk := kk H locs cells slots rfl hP hS hRc hRs hsz
      exact va_gets hx hb hSg.2.2.1 hS hown (hT.use o1 rfl args) (fun x h => h) hd hkk
    · cases h
      have e1 := mm_ln (a := 2) hln; subst e1
      obtain ⟨o1, -⟩ := ho
      have hkk := kk H locs cells slots rfl hP hS hRc hRs hsz
      exact va_gets hx hb hSg.2.2.2 hS hown (hT.use o1 rfl args) (fun x h => h) hd hkk
    · cases h
  | baload =>
    simp only [mm_2] at h
    split at h
    · rename_i j a r
      split at h
      · rename_i xs hia
        split at h
        · cases h
        · rename_i hj
          split at h
          · rename_i v hv
            cases h
            have e1 := mm_ln (a := 0) hln; subst e1
            obtain ⟨a1, a2, hb1, hb2⟩ := mm_sbs hia
            rw [mm_n_eq] at hv
            have hlt := (List.getElem?_eq_some_iff.mp hv).1
            have hq : mm_a B a = B.2.1 (11 + (a - 11)) := by
              unfold mm_a
              rw [if_pos (by omega), show @Eq Nat (11 + (a - 11)) a from Nat.add_sub_cancel' a1]
            have hkk := kk H locs cells slots rfl hP hS hRc hRs hsz
            show W p l e R s m args below meth c H locs cells slots Q (F0 m pc Ls (.int j :: .ref (mm_a B a) :: r.map (mm_v B)))
            rw [hq]
            refine va_tb hx hb (hSg.1.1 (a - 11) (by omega)).2.2.2 hS (mm_vpin hj (by rw [hb2]; exact hlt)) (v := .int v) ?_ hd hkk
            show Value.int ((mm_byt.getD (a - 11) []).getD j.toNatClampNeg 0) = _
            rw [hb1, List.getD_eq_getElem?_getD, hv]
            rfl
          · cases h
      · cases h
    · cases h
  | iaload =>
    simp only [mm_2] at h
    split at h
    · rename_i j a r
      split at h
      · rename_i xs hia
        split at h
        · cases h
        · rename_i hj
          split at h
          · rename_i v hv
            cases h
            have e1 := mm_ln (a := 0) hln; subst e1
            rw [mm_n_eq] at hv
            have hlt := (List.getElem?_eq_some_iff.mp hv).1
            unfold mm_ia at hia
            cases ha : Nat.beq a 0 <;> rw [ha] at hia
            · simp only [cond_false] at hia
              split at hia
              · rename_i ys hg
                cases hia
                have hgd : xs.getD j.toNatClampNeg 0 = v := by rw [List.getD_eq_getElem?_getD, hv]; rfl
                refine va_iald hx hb hK hP _ 0 (mm_gat hg) rfl (mm_vpin hj hlt) hd ?_
                have := kk H locs cells slots rfl hP hS hRc hRs hsz
                rw [hgd]
                exact this
              · cases hia
            · cases hia
              have e0 := Nat.eq_of_beq_eq_true ha
              subst e0
              have hgd : X.getD j.toNatClampNeg 0 = v := by rw [List.getD_eq_getElem?_getD, hv]; rfl
              refine va_sld hx hb hX (Nat.lt_of_lt_of_le hX0 hBs) (A := mm_A B) (Nat.not_le.mpr hX0) hS (mm_vpin hj hlt) hd ?_
              have := kk H locs cells slots rfl hP hS hRc hRs hsz
              rw [hgd]
              exact this
          · cases h
      · cases h
    · cases h
  | iastore =>
    simp only [mm_2] at h
    split at h
    · rename_i v j a r
      split at h
      · rename_i xs hg
        split at h
        · cases h
        · rename_i hj
          cases h
          have e1 := mm_ln (a := 0) hln; subst e1
          have hlt : j.toNatClampNeg < xs.length := Nat.not_le.mp fun q => hj (Or.inr q)
          obtain ⟨ha, hM⟩ := mm_glt hg
          refine va_iast hx hb hK hP hD hS _ 0 (mm_gat hg) rfl (mm_vpin (fun q => hj (Or.inl q)) hlt) hd (fun H1 locs1 h1 _ h3 => ?_)
          refine kk H1 locs1 cells slots rfl ?_ h3 hRc hRs (by rw [mm_s_eq, List.length_set]; exact hsz)
          have he : mm_e B (.inr (.inl (mm_s xs j.toNatClampNeg v))) = .inl (B.2.2.2.1, xs.length, .inl (upd (fun j => xs.getD j 0) j.toNatClampNeg v)) := by
            show Sum.inl (B.2.2.2.1, (mm_s xs j.toNatClampNeg v).length, Sum.inl (fun k => (mm_s xs j.toNatClampNeg v).getD k 0)) = _
            rw [mm_s_eq, List.length_set]
            congr 4
            funext k
            unfold upd
            rw [List.getD_eq_getElem?_getD, List.getElem?_set]
            by_cases q : j.toNatClampNeg = k
            · subst q; rw [if_pos rfl, if_pos rfl, if_pos hlt]; rfl
            · rw [if_neg q, if_neg (fun q2 => q q2.symm)]; rfl
          rw [← mm_gset ha, he]
          exact h1
      · cases h
    · cases h
  | aaload =>
    simp only [mm_2] at h
    split at h
    · rename_i j a r
      split at h
      · rename_i xs hg
        split at h
        · cases h
        · rename_i hj
          split at h
          · rename_i v hv
            cases h
            have e1 := mm_ln (a := 0) hln; subst e1
            rw [mm_n_eq] at hv
            have hlt := (List.getElem?_eq_some_iff.mp hv).1
            have hgd : mm_or B (xs.getD j.toNatClampNeg .null) = some (mm_a B v) := by rw [List.getD_eq_getElem?_getD, hv]; rfl
            refine va_aldq (C := "SovereignInBarrow$Minister") hx hb hK hP _ 1 (mm_gat hg) rfl (mm_vpin hj hlt) hd ?_
            have := kk H locs cells slots rfl hP hS hRc hRs hsz
            rw [hgd]
            exact this
          · cases h
      · cases h
    · cases h
  | arraylength =>
    simp only [mm_2] at h
    split at h
    · rename_i a r
      split at h
      · rename_i xs hia
        cases h
        have e1 := mm_ln (a := 0) hln; subst e1
        obtain ⟨a1, a2, hb1, hb2⟩ := mm_sbs hia
        have hq : mm_a B a = B.2.1 (11 + (a - 11)) := by
          unfold mm_a
          rw [if_pos (by omega), show @Eq Nat (11 + (a - 11)) a from Nat.add_sub_cancel' a1]
        have hkk := kk H locs cells slots rfl hP hS hRc hRs hsz
        show W p l e R s m args below meth c H locs cells slots Q (F0 m pc Ls (.ref (mm_a B a) :: r.map (mm_v B)))
        rw [hq]
        exact va_tlen hx hb (hSg.1.1 (a - 11) (by omega)).2.2.2 hS (by rw [hb2]) hd hkk
      · split at h
        rotate_left
        · cases h
        rename_i xs hia
        cases h
        have e1 := mm_ln (a := 0) hln; subst e1
        unfold mm_ia at hia
        cases ha : Nat.beq a 0 <;> rw [ha] at hia
        · simp only [cond_false] at hia
          split at hia
          · rename_i ys hg
            cases hia
            exact va_alen hx hb hK hP _ 0 (mm_gat hg) rfl rfl hd (kk H locs cells slots rfl hP hS hRc hRs hsz)
          · cases hia
        · cases hia
          have e0 := Nat.eq_of_beq_eq_true ha
          subst e0
          exact va_slen hx hb hX (Nat.lt_of_lt_of_le hX0 hBs) (A := mm_A B) (Nat.not_le.mpr hX0) hS hd (kk H locs cells slots rfl hP hS hRc hRs hsz)
    · cases h
  | new idx =>
    simp only [mm_2] at h
    split at h
    · rename_i ci y
      cases hc : (Nat.ble 1 bc && Nat.ble (mm_df ci).length bs) <;> rw [hc] at h
      · cases h
      · simp only [Bool.and_eq_true] at hc
        have c1 := Nat.le_of_ble_eq_true hc.1
        have c2 := Nat.le_of_ble_eq_true hc.2
        cases h
        have e1 := mm_ln (a := 2) hln; subst e1
        obtain ⟨rr, hr, hlk⟩ := ho
        obtain ⟨C, T, N⟩ := rr
        obtain ⟨hu, ⟨ty0, hty0, hdf⟩, hnm, hlen, hins, hini⟩ := hCl _ _ hr
        have hlen' : (mm_df ci).length = N := hlen
        refine va_new (C := C) (T := T) (N := N) (fs := (mm_df ci).map (mm_v B)) hx hb (fun w hw => hT.use (hu w hw) (mm_ugood w hw) args) (fun w hw => hw) ty0 hty0 hown (hT.use hlk rfl args) (hT.use hins rfl args) (hT.use hini rfl args) hK hP hD hS hA hr hdf (by omega) (by omega) hd (fun q H1 h1 h2 h3 => ?_)
        refine mm_sized (fun hz => ?_)
        have hq := mm_newq h1 h2 (by omega)
        subst hq
        have hm : mm_a B (100 + M.length) = B.1 + M.length := by unfold mm_a; rw [if_neg (by omega)]; omega
        have := kk H1 locs (cells + 1) (slots + N) rfl (by rw [← mm_wpush]; exact h1) h3 (by omega) (by omega) (by rw [List.length_append]; show _ = B.1 + (M.length + 1); omega)
        rw [List.map_cons] at this
        show W p l e R s m args below meth c H1 locs (cells + 1) (slots + N) Q (F0 m (pc + 3) Ls (.ref (B.1 + M.length) :: _))
        rw [← hm]
        exact this
    · cases h
  | newarray at0 =>
    cases at0 with
    | int =>
      simp only [mm_2] at h
      split at h
      · rename_i n r
        split at h
        · cases h
        · rename_i hn
          cases hc : (Nat.ble 1 bc && (Nat.ble n.toNatClampNeg bs && Nat.ble n.toNatClampNeg 100000)) <;> rw [hc] at h
          · cases h
          · simp only [Bool.and_eq_true] at hc
            have c1 := Nat.le_of_ble_eq_true hc.1
            have c2 := Nat.le_of_ble_eq_true hc.2.1
            have c3 := Nat.le_of_ble_eq_true hc.2.2
            cases h
            have e1 := mm_ln (a := 1) hln; subst e1
            refine va_newa (atype := .int) (ty := .int) (a0 := (n.toNatClampNeg, .inl (fun j => (List.replicate n.toNatClampNeg (0 : Int32)).getD j 0))) hx hb (word_at (State.WarmedH.refl s) (Or.inr ⟨_, rfl⟩) hAc) rfl hK hP hD hS hA (fun cA => ?_) hn rfl (by show n.toNatClampNeg * 4 ≤ _; omega) (by omega) (by omega) hd (fun q cA H1 h0 h1 h2 h3 => ?_)
            · have hf : (fun j => (List.replicate n.toNatClampNeg (0 : Int32)).getD j 0) = (fun _ => (0 : Int32)) := by
                funext j
                rw [List.getD_eq_getElem?_getD, List.getElem?_replicate]
                split <;> rfl
              rw [hf]
              rfl
            · have hcA : cA = B.2.2.2.1 := by
                have g1 := va_nm_int (h0.2 2 (cA, .int) rfl).2
                have g2 := va_nm_int (hK.2 0 (B.2.2.2.1, .int) rfl).2
                exact Option.some.inj (g1.symm.trans g2)
              subst hcA
              refine mm_sized (fun hz => ?_)
              have hq := mm_newq h1 h2 (by omega)
              subst hq
              have hm : mm_a B (100 + M.length) = B.1 + M.length := by unfold mm_a; rw [if_neg (by omega)]; omega
              have he : mm_e B (.inr (.inl (List.replicate n.toNatClampNeg 0))) = .inl (B.2.2.2.1, n.toNatClampNeg, .inl (fun j => (List.replicate n.toNatClampNeg (0 : Int32)).getD j 0)) := by
                show Sum.inl (B.2.2.2.1, (List.replicate n.toNatClampNeg (0 : Int32)).length, _) = _
                rw [List.length_replicate]
              have := kk H1 locs (cells + 1) (slots + n.toNatClampNeg) rfl (by rw [← mm_wpush, he]; exact h1) h3 (by omega) (by omega) (by rw [List.length_append]; show _ = B.1 + (M.length + 1); omega)
              rw [List.map_cons] at this
              show W p l e R s m args below meth c H1 locs (cells + 1) (slots + n.toNatClampNeg) Q (F0 m (pc + 2) Ls (.ref (B.1 + M.length) :: _))
              rw [← hm]
              exact this
      · cases h
    | _ => cases h
  | anewarray idx =>
    simp only [mm_2] at h
    split at h
    · rename_i n r
      split at h
      · cases h
      · rename_i hn
        cases hc : (Nat.ble 1 bc && (Nat.ble n.toNatClampNeg bs && Nat.ble n.toNatClampNeg 100000)) <;> rw [hc] at h
        · cases h
        · simp only [Bool.and_eq_true] at hc
          have c1 := Nat.le_of_ble_eq_true hc.1
          have c2 := Nat.le_of_ble_eq_true hc.2.1
          have c3 := Nat.le_of_ble_eq_true hc.2.2
          cases h
          have e1 := mm_ln (a := 2) hln; subst e1
          refine va_newq (C := "SovereignInBarrow$Minister") hx hb hown (hT.use ho rfl args) hAo hK hP hD hS hA hn rfl (by omega) (by omega) (by omega) hd (fun q cA H1 h0 h1 h2 h3 => ?_)
          have hcA : cA = B.2.2.2.2 := by
            obtain ⟨kA, comp, -, -, -, g1⟩ := (h0.2 2 (cA, .object "SovereignInBarrow$Minister") rfl).2
            obtain ⟨kA2, comp2, -, -, -, g2⟩ := (hK.2 1 (B.2.2.2.2, .object "SovereignInBarrow$Minister") rfl).2
            exact Option.some.inj (g1.symm.trans g2)
          subst hcA
          refine mm_sized (fun hz => ?_)
          have hq := mm_newq h1 h2 (by omega)
          subst hq
          have hm : mm_a B (100 + M.length) = B.1 + M.length := by unfold mm_a; rw [if_neg (by omega)]; omega
          have he : mm_e B (.inr (.inr (List.replicate n.toNatClampNeg .null))) = .inl (B.2.2.2.2, n.toNatClampNeg, .inr (.inr (.inr (.inr (fun _ => none))))) := by
            show Sum.inl (B.2.2.2.2, (List.replicate n.toNatClampNeg Value.null).length, _) = _
            rw [List.length_replicate]
            have hf : (fun j => mm_or B ((List.replicate n.toNatClampNeg Value.null).getD j .null)) = (fun _ => none) := by
              funext j
              rw [List.getD_eq_getElem?_getD, List.getElem?_replicate]
              split <;> rfl
            rw [hf]
          have := kk H1 locs (cells + 1) (slots + n.toNatClampNeg) rfl (by rw [← mm_wpush, he]; exact h1) h3 (by omega) (by omega) (by rw [List.length_append]; show _ = B.1 + (M.length + 1); omega)
          rw [List.map_cons] at this
          show W p l e R s m args below meth c H1 locs (cells + 1) (slots + n.toNatClampNeg) Q (F0 m (pc + 3) Ls (.ref (B.1 + M.length) :: _))
          rw [← hm]
          exact this
    · cases h
  | aastore =>
    simp only [mm_2] at h
    split at h
    · rename_i v j a r
      split at h
      · rename_i xs hg
        split at h
        · rename_i ci2 fs hgv
          split at h
          · cases h
          · rename_i hj
            cases hc : (Nat.beq ci2 0 || (Nat.beq ci2 2 || (Nat.beq ci2 3 || (Nat.beq ci2 4 || (Nat.beq ci2 5 || Nat.beq ci2 7))))) <;> rw [hc] at h
            · cases h
            · cases h
              have e1 := mm_ln (a := 0) hln; subst e1
              have hlt : j.toNatClampNeg < xs.length := Nat.not_le.mp fun q => hj (Or.inr q)
              obtain ⟨ha, hM⟩ := mm_glt hg
              have cast : ∀ (C : String) (comp c0 : ClassId), Cond.castable C "SovereignInBarrow$Minister" ∈ lw_tbl → s.vm.findClass "SovereignInBarrow$Minister" = some comp → s.vm.findClass C = some c0 → s.vm.assignable c0 comp = true := by
                intro C comp c0 hw h1 h2
                obtain ⟨c3, t3, w1, w2, w3⟩ := Cond.castable_spec (hT.use hw rfl args)
                cases h2.symm.trans w1
                cases h1.symm.trans w2
                exact w3
              have hany : va_Any "SovereignInBarrow$Minister" s H (mm_a B v) := by
                simp only [Bool.or_eq_true] at hc
                rcases hc with hc | hc | hc | hc | hc | hc <;> have e := Nat.eq_of_beq_eq_true hc <;> subst e
                · exact va_rAny hK hP (mm_gat hgv) (r := (RX0, TX0, 0)) rfl (fun comp c0 h1 h2 => cast _ comp c0 mm_qK0 h1 h2)
                · exact va_rAny hK hP (mm_gat hgv) (r := (RX2, TX2, 0)) rfl (fun comp c0 h1 h2 => cast _ comp c0 mm_qK2 h1 h2)
                · refine va_rAny hK hP (mm_gat hgv) (r := (RX3, TX3, 0)) rfl (fun comp c0 h1 h2 => ?_)
                  have h2 : s.vm.findClass "SovereignInBarrow$Minister" = some c0 := h2
                  cases h1.symm.trans h2
                  exact va_asg _ _
                · exact va_rAny hK hP (mm_gat hgv) (r := (RX4, TX4, 0)) rfl (fun comp c0 h1 h2 => cast _ comp c0 mm_qK4 h1 h2)
                · exact va_rAny hK hP (mm_gat hgv) (r := (RX5, TX5, 0)) rfl (fun comp c0 h1 h2 => cast _ comp c0 mm_qK5 h1 h2)
                · exact va_rAny hK hP (mm_gat hgv) (r := (RX7, TX7, 0)) rfl (fun comp c0 h1 h2 => cast _ comp c0 mm_qK7 h1 h2)
              refine va_astqM (E := "SovereignInBarrow$Minister") hx hb hK hP hD hS _ 1 (mm_gat hg) rfl hany (mm_vpin (fun q => hj (Or.inl q)) hlt) hd (fun H1 locs1 h1 _ h3 => ?_)
              refine kk H1 locs1 cells slots rfl ?_ h3 hRc hRs (by rw [mm_s_eq, List.length_set]; exact hsz)
              have he : mm_e B (.inr (.inr (mm_s xs j.toNatClampNeg (.ref v)))) = .inl (B.2.2.2.2, xs.length, .inr (.inr (.inr (.inr (va_up (fun j => mm_or B (xs.getD j .null)) j.toNatClampNeg (some (mm_a B v))))))) := by
                show Sum.inl (B.2.2.2.2, (mm_s xs j.toNatClampNeg (.ref v)).length, _) = _
                rw [mm_s_eq, List.length_set]
                have hf : (fun k => mm_or B ((xs.set j.toNatClampNeg (.ref v)).getD k .null)) = va_up (fun j => mm_or B (xs.getD j .null)) j.toNatClampNeg (some (mm_a B v)) := by
                  funext k
                  unfold va_up
                  rw [List.getD_eq_getElem?_getD, List.getElem?_set]
                  by_cases q : j.toNatClampNeg = k
                  · subst q; rw [if_pos rfl, if_pos rfl, if_pos hlt]; rfl
                  · rw [if_neg q, if_neg (fun q2 => q q2.symm)]; rfl
                rw [hf]
              rw [← mm_gset ha, he]
              exact h1
        · cases h
      · cases h
    · cases h
  | _ => cases h
end MS2
