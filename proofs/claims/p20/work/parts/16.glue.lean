def R_law : String := "SovereignInBarrowLaw"
def lw_P (b : Addr) (xs : List Int32) (args : Array Value) (s : State) : Prop := args = #[.ref b] ∧ s.IntsAt b xs ∧ xs.length ≤ 2560 ∧ (Jvm.Cond.and given_1 narrow_1).before args s = true
def lw_Q (_ : Array Value) (s : State) (o : Outcome) (t : State) : Prop := o = .returned (some (.int 1)) ∧ Framed s o t [] 48 889
def lw_Z (below : List Frame) (a : Array Value) (s : State) : State → Prop := fun t => ∃ o, t.status = .running ∧ Ended t below o ∧ lw_Q a s o t
/-- the law's own end, with 1 on the stack, nothing written that was there before, its room as the claim has it -/
theorem lw_ret {p : Program} {l : Launch} {e : Env} {s : State} {m : MethodId} {below : List Frame} {meth : Method} {c : Code} {b : Nat} (hx : p.tables.exec = Jvm.exec) (hb : c.code = code) (hr : meth.sig.returnType = ret) (hlocks : meth.locks = false) {pc : Nat} {H : Heap} {ls : Array Slot} (hdg : decode code pc = .ok (.ireturn, 1)) : W p l e room_1 s m #[Value.ref b] below meth c H [] 48 889 (lw_Z below #[Value.ref b] s) (F0 m pc ls [.int 1]) := by
  intro T hT X
  obtain ⟨fs, hret, hrun, hended, hW, hframe⟩ := X.leave (v := some (.int 1)) (hlocks := hlocks) (fun h => by rw [hr] at h; cases h)
  have hmeth' : T.vm.method? m = some meth := X.method'
  refine ⟨T.setFrames fs, ?_, .returned (some (.int 1)), hrun, hended, rfl, ⟨_, rfl⟩, hW, hframe⟩
  jvm_step X.here [X.here.top, hx, hb, hdg, hmeth', hr, ret, narrow_b1]
  (try refine ⟨rfl, ?_⟩); (try refine ⟨rfl, ?_⟩)
  first | (intro acts; rw [hret _ acts rfl rfl rfl]) | rw [hret _ _ rfl rfl rfl]
  exact Steps.refl _
/-- what holds at the law's entry: the machine, the code, the tables' words (any of lw_tbl by 'hts w (by decide +kernel)'), the script of L ints xs at the cell b, what the Statement gives of the start (any of its parts by flat_of_before) -/
def lw_At (p : Program) (s : State) (m : MethodId) (meth : Method) (c : Code) (b L : Nat) (xs : Nat → Int32) : Prop :=
  p.tables.exec = Jvm.exec ∧ c.code = code ∧ meth.sig.returnType = ret ∧ c.maxLocals = 4 ∧ s.vm.findClass R_law = some m.cls ∧ (∀ w ∈ lw_tbl, w.before #[Value.ref b] s = true) ∧ va_X b L xs s s.heap ∧ b < s.heap.size ∧ meth.locks = false ∧ (Jvm.Cond.and given_1 narrow_1).before #[Value.ref b] s = true

theorem mm_cls (B : mm_B) : mm_Cl B := by
  intro ci r h
  match ci, h with
  | 0, h =>
    cases h
    exact ⟨mmu_0, ⟨tyX0, tyX0_ok, fun j hj => absurd hj (Nat.not_lt_zero j)⟩, nmX0, rfl, mm_qN0, mm_qI0⟩
  | 1, h =>
    cases h
    exact ⟨mmu_1, ⟨tyX1, tyX1_ok, fun j hj => by
      match j, hj with
      | 0, _ => rfl
      | 1, _ => rfl
      | 2, _ => rfl
      | 3, _ => rfl
      | 4, _ => rfl
      | 5, _ => rfl
      | 6, _ => rfl
      | 7, _ => rfl
      | 8, _ => rfl
      | 9, _ => rfl
      | 10, _ => rfl
      | 11, _ => rfl
      | 12, _ => rfl
      | j + 13, hj => exact absurd (show j + 13 < 13 from hj) (by omega)⟩, nmX1, rfl, mm_qN1, mm_qI1⟩
  | 2, h =>
    cases h
    exact ⟨mmu_2, ⟨tyX2, tyX2_ok, fun j hj => absurd hj (Nat.not_lt_zero j)⟩, nmX2, rfl, mm_qN2, mm_qI2⟩
  | 3, h =>
    cases h
    exact ⟨mmu_3, ⟨tyX3, tyX3_ok, fun j hj => absurd hj (Nat.not_lt_zero j)⟩, nmX3, rfl, mm_qN3, mm_qI3⟩
  | 4, h =>
    cases h
    exact ⟨mmu_4, ⟨tyX4, tyX4_ok, fun j hj => absurd hj (Nat.not_lt_zero j)⟩, nmX4, rfl, mm_qN4, mm_qI4⟩
  | 5, h =>
    cases h
    exact ⟨mmu_5, ⟨tyX5, tyX5_ok, fun j hj => absurd hj (Nat.not_lt_zero j)⟩, nmX5, rfl, mm_qN5, mm_qI5⟩
  | 6, h =>
    cases h
    exact ⟨mmu_6, ⟨tyX6, tyX6_ok, fun j hj => by
      match j, hj with
      | 0, _ => rfl
      | 1, _ => rfl
      | j + 2, hj => exact absurd (show j + 2 < 2 from hj) (by omega)⟩, nmX6, rfl, mm_qN6, mm_qI6⟩
  | 7, h =>
    cases h
    exact ⟨mmu_7, ⟨tyX7, tyX7_ok, fun j hj => absurd hj (Nat.not_lt_zero j)⟩, nmX7, rfl, mm_qN7, mm_qI7⟩
  | 8, h =>
    cases h
    exact ⟨mmu_8, ⟨tyX8, tyX8_ok, fun j hj => by
      match j, hj with
      | 0, _ => rfl
      | 1, _ => rfl
      | 2, _ => rfl
      | 3, _ => rfl
      | j + 4, hj => exact absurd (show j + 4 < 4 from hj) (by omega)⟩, nmX8, rfl, mm_qN8, mm_qI8⟩
  | 9, h =>
    cases h
    exact ⟨mmu_9, ⟨tyX9, tyX9_ok, fun j hj => by
      match j, hj with
      | 0, _ => rfl
      | 1, _ => rfl
      | 2, _ => rfl
      | 3, _ => rfl
      | 4, _ => rfl
      | 5, _ => rfl
      | 6, _ => rfl
      | 7, _ => rfl
      | 8, _ => rfl
      | 9, _ => rfl
      | 10, _ => rfl
      | 11, _ => rfl
      | j + 12, hj => exact absurd (show j + 12 < 12 from hj) (by omega)⟩, nmX9, rfl, mm_qN9, mm_qI9⟩
  | 10, h =>
    cases h
    exact ⟨mmu_10, ⟨tyX10, tyX10_ok, fun j hj => by
      match j, hj with
      | 0, _ => rfl
      | 1, _ => rfl
      | 2, _ => rfl
      | 3, _ => rfl
      | 4, _ => rfl
      | 5, _ => rfl
      | 6, _ => rfl
      | 7, _ => rfl
      | 8, _ => rfl
      | 9, _ => rfl
      | 10, _ => rfl
      | 11, _ => rfl
      | 12, _ => rfl
      | 13, _ => rfl
      | j + 14, hj => exact absurd (show j + 14 < 14 from hj) (by omega)⟩, nmX10, rfl, mm_qN10, mm_qI10⟩
  | k + 11, h => cases h
theorem mm_Sc {N : Nat} {len : List Nat} {byt : List (List Int32)} {adK adV f g : Nat → Nat} {A : Nat → Prop} {U : State} {H : Heap} (h : vk_S N len byt adK adV A U H) (hf : ∀ i, i < N → f i = adK i) (hg : ∀ i, i < N → g i = adV i) : vk_S N len byt f g A U H := by
  refine ⟨fun i hi => ?_, fun i j hi hj e => h.2 i j hi hj (by rw [hf i hi, hf j hj] at e; exact e)⟩
  rw [hf i hi, hg i hi]
  exact h.1 i hi
abbrev mm_tm (i : Nat) : Term := Term.string "SovereignInBarrow$Telling" (mm_six i)
theorem mm_g1 : ∀ i, i < 6 → (Cond.exactly (mm_tm i) "java/lang/String") ∈ flatC (Jvm.Cond.and given_1 narrow_1) := by decide +kernel
theorem mm_g2 : ∀ i, i < 6 → (Cond.eq (.field (mm_tm i) "java/lang/String" "coder" "B") (.int 0)) ∈ flatC (Jvm.Cond.and given_1 narrow_1) := by decide +kernel
theorem mm_g3 : ∀ i, i < 6 → (Cond.arrayOf (.field (mm_tm i) "java/lang/String" "value" "[B") .byte) ∈ flatC (Jvm.Cond.and given_1 narrow_1) := by decide +kernel
theorem mm_g4 : ∀ i, i < 6 → (Cond.eq (.length (.field (mm_tm i) "java/lang/String" "value" "[B")) (.int (Int32.ofNat (mm_sln.getD i 0)))) ∈ flatC (Jvm.Cond.and given_1 narrow_1) := by decide +kernel
theorem mm_g5 : ∀ i, i < 6 → ∀ j, j < mm_sln.getD i 0 → (Cond.eq (.elem (.field (mm_tm i) "java/lang/String" "value" "[B") (.int (Int32.ofNat j))) (.int ((mm_byt.getD i []).getD j 0))) ∈ flatC (Jvm.Cond.and given_1 narrow_1) := by decide +kernel
theorem mm_g6 : ∀ i, i < 6 → ∀ j, j < 6 → i ≠ j → (Cond.not (Cond.eq (mm_tm i) (mm_tm j))) ∈ flatC (Jvm.Cond.and given_1 narrow_1) ∨ (Cond.not (Cond.eq (mm_tm j) (mm_tm i))) ∈ flatC (Jvm.Cond.and given_1 narrow_1) := by decide +kernel
theorem mm_g7 : (Cond.eq (.static "java/lang/String" "COMPACT_STRINGS" "Z") (.int 1)) ∈ flatC (Jvm.Cond.and given_1 narrow_1) := by decide +kernel
theorem mm_g8 : (Cond.isRef (.static "jdk/internal/util/Preconditions" "SIOOBE_FORMATTER" "Ljava/util/function/BiFunction;")) ∈ flatC (Jvm.Cond.and given_1 narrow_1) := by decide +kernel
theorem mm_texts {s : State} {b : Nat} (hts : ∀ w ∈ lw_tbl, w.before #[Value.ref b] s = true) (hgv : (Jvm.Cond.and given_1 narrow_1).before #[Value.ref b] s = true) : ∃ (adK adV : Nat → Nat) (fm : Nat), vk_S 6 mm_sln mm_byt adK adV (fun q => s.heap.size ≤ q) s s.heap ∧ (∀ k, k < 6 → vk_R "SovereignInBarrow$Telling" (mm_six k) (mm_stx k) (adK k) s) ∧ va_Z "java/lang/String" "COMPACT_STRINGS" "Z" (.int 1) (fun q => s.heap.size ≤ q) s s.heap ∧ va_Z "jdk/internal/util/Preconditions" "SIOOBE_FORMATTER" "Ljava/util/function/BiFunction;" (if fm = 0 then .null else .ref (fm - 1)) (fun q => s.heap.size ≤ q) s s.heap := by
  have hs := flat_of_before _ hgv
  have hA : ∀ a : Nat, a < s.heap.size → ¬ s.heap.size ≤ a := fun a h => Nat.not_le.mpr h
  obtain ⟨adK, adV, h1, h2⟩ := vk_Sof (N := 6) (tm := mm_tm) (len := mm_sln) (byt := mm_byt) (A := fun q => s.heap.size ≤ q) (args := #[Value.ref b]) (s := s) (by decide) (fun i hi => hs _ (mm_g1 i hi)) (fun i hi => hs _ (mm_g2 i hi)) (fun i hi => hs _ (mm_g3 i hi)) (fun i hi => hs _ (mm_g4 i hi)) (fun i hi j hj => hs _ (mm_g5 i hi j hj)) (fun i j hi hj hne => (mm_g6 i hi j hj hne).elim (fun q => Or.inl (hs _ q)) (fun q => Or.inr (hs _ q))) hA
  obtain ⟨fm, h3⟩ : ∃ fm : Nat, va_Z "jdk/internal/util/Preconditions" "SIOOBE_FORMATTER" "Ljava/util/function/BiFunction;" (if fm = 0 then .null else .ref (fm - 1)) (fun q => s.heap.size ≤ q) s s.heap := by
    rcases va_Zqof (hts _ mm_qZ2) (hts _ mm_qZ4) (hs _ mm_g8) hA with h | ⟨t, h⟩
    · exact ⟨0, h⟩
    · exact ⟨t + 1, by rw [if_neg (by omega), Nat.add_sub_cancel]; exact h⟩
  refine ⟨adK, adV, fm, h1, fun k hk => ?_, va_Zof (hts _ mm_qZ1) (hts _ mm_qZ3) (va_eqt (hs _ mm_g7)) hA, h3⟩
  refine vk_R.of (A := #[Value.ref b]) (hts _ ?_) (h2 k hk)
  match k, hk with
  | 0, _ => exact mm_qT0
  | 1, _ => exact mm_qT1
  | 2, _ => exact mm_qT2
  | 3, _ => exact mm_qT3
  | 4, _ => exact mm_qT4
  | 5, _ => exact mm_qT5
  | k + 6, hk => exact absurd hk (by omega)
theorem mm_glue {p : Program} {e : Env} {s : State} {m : MethodId} {below : List Frame} {meth : Method} {c : Code} (l : Launch) {b L : Nat} {xs : Nat → Int32} (C0 : lw_At p s m meth c b L xs) {n : Nat} {M1 : mm_H} (hex : mm_x (some ((List.range L).map xs)) n 0 0 (mm_en 4 [.ref 0]) [] [] 48 889 = some (some (.int 1), M1)) : W p l e room_1 s m #[Value.ref b] below meth c s.heap [] 0 0 (lw_Z below #[Value.ref b] s) (entryFrame m ([Value.ref b] : List Value).toArray 4) := by
  obtain ⟨hx, hb, hr, hml, hown, hts, hX, hbl, hlocks, hgv⟩ := id C0
  have hT : mm_T s := fun w hw hg => va_tabs (mm_gon hg) rfl (hts w hw)
  have hk : ∀ ci : Nat, ∃ q : ClassId × (Nat → Nat), ∀ r : vw_C, vwCl[ci]? = some r → u_Kn s r.1 r.2.1 r.2.2 q.1 q.2 := by
    intro ci
    cases hc : vwCl[ci]? with
    | none => exact ⟨(0, fun _ => 0), fun r h => by cases h⟩
    | some r =>
      obtain ⟨hu, -, -, -, hins, -⟩ := mm_cls (0, fun _ => 0, (fun _ => 0, fun _ _ => 0), 0, 0) ci r hc
      obtain ⟨cC, iS, h1⟩ := u_known (C := r.1) (T := r.2.1) (N := r.2.2) (n := r.2.2) hts hu (hts _ hins)
      exact ⟨(cC, iS), fun r2 h => by cases h; exact h1⟩
  obtain ⟨cI, kI, compI, i1, i2, i3⟩ := Cond.arrayClass_spec (hts _ mm_qAi)
  obtain ⟨comp, cM, kM, j1, -, j2, j3, j4⟩ := Cond.arrayOver_spec (hts _ mm_qAo)
  obtain ⟨adK, adV, fm, hS1, hS2, hS3, hS4⟩ := mm_texts hts hgv
  generalize hBe : ((s.heap.size, fun k => if k = 0 then b else if k ≤ 6 then adK (k - 1) else if k ≤ 16 then adV (k - 11) else fm, (fun ci => (Classical.choose (hk ci)).1, fun ci => (Classical.choose (hk ci)).2), cI, cM) : mm_B) = B
  have hB1 : B.1 = s.heap.size := by rw [← hBe]
  have hB2 : B.2.1 0 = b := by rw [← hBe]; rfl
  have hSg : mm_Sg B s := by
    subst hBe
    refine ⟨mm_Sc hS1 (fun i hi => ?_) (fun i hi => ?_), fun k hk => ?_, hS3, hS4⟩
    · show (if 1 + i = 0 then b else if 1 + i ≤ 6 then adK (1 + i - 1) else if 1 + i ≤ 16 then adV (1 + i - 11) else fm) = adK i
      rw [if_neg (by omega), if_pos (by omega), show 1 + i - 1 = i by omega]
    · show (if 11 + i = 0 then b else if 11 + i ≤ 6 then adK (11 + i - 1) else if 11 + i ≤ 16 then adV (11 + i - 11) else fm) = adV i
      rw [if_neg (by omega), if_neg (by omega), if_pos (by omega), show 11 + i - 11 = i by omega]
    · have h := hS2 k hk
      have e : (if 1 + k = 0 then b else if 1 + k ≤ 6 then adK (1 + k - 1) else if 1 + k ≤ 16 then adV (1 + k - 11) else fm) = adK k := by
        rw [if_neg (by omega), if_pos (by omega), show 1 + k - 1 = k by omega]
      show vk_R _ _ _ (if 1 + k = 0 then b else if 1 + k ≤ 6 then adK (1 + k - 1) else if 1 + k ≤ 16 then adV (1 + k - 11) else fm) s
      rw [e]
      exact h
  have hK : va_K B.2.2.1 vwCl (mm_tys B) s := by
    subst hBe
    refine ⟨fun ci r h => Classical.choose_spec (hk ci) r h, fun k q hq => ?_⟩
    match k, hq with
    | 0, hq =>
      cases hq
      exact ⟨fun n z => ⟨fun k h => (by cases h), kI, i2, compI, i3⟩, i1⟩
    | 1, hq =>
      cases hq
      exact ⟨fun n z => ⟨fun k h => (by cases h), kM, j2, comp, j3⟩, kM, comp, j2, j3, j1, j4⟩
    | k + 2, hq => cases hq
  have hXl : ((List.range L).map xs).length = L := by rw [List.length_map, List.length_range]
  have hX2 : va_X (B.2.1 0) ((List.range L).map xs).length (fun j => ((List.range L).map xs).getD j 0) s s.heap := by
    rw [hB2, hXl]
    obtain ⟨scr, h1, h2, h3, h4, h5⟩ := hX
    refine ⟨scr, h1, h2, h3, h4, fun j hj => ?_⟩
    have e1 : ((List.range L).map xs).getD j 0 = xs j := by
      rw [List.getD_eq_getElem?_getD, List.getElem?_map, List.getElem?_range hj]; rfl
    show scr.slots[j]? = some (Value.int (((List.range L).map xs).getD j 0))
    rw [e1]
    exact h5 j hj
  have hG : mm_G B ((List.range L).map xs) s := ⟨hT, hK, word_at (State.WarmedH.refl s) (Or.inr ⟨_, rfl⟩) (hts _ mm_qAi), va_AO.of (hts _ mm_qAo), hX2, by rw [hB2, hB1]; exact hbl, by rw [hB1]; exact Nat.le_refl _, hSg⟩
  have hat : mm_At B ((List.range L).map xs) p s m meth c 0 := ⟨hx, hb, hr, hml, hown, hlocks, Or.inl rfl, hG⟩
  have hv0 : ([Value.ref b] : List Value) = ([.ref 0] : List Value).map (mm_v B) := by
    show [Value.ref b] = [Value.ref (B.2.1 0)]
    rw [hB2]
  have hen : (mm_sl [.ref 0]).length ≤ 4 := by decide
  rw [lg_entry_eq, hv0]
  refine mm_sound (mm_cls B) n 0 0 _ [] [] 48 889 _ M1 hex p e s m _ below meth c (lw_Z below #[Value.ref b] s) hat ?_ s.heap [] _ 0 0 (mm_en_len hen) (mm_en_lo B hen) (fun k q h => by cases h) va_S.rf rfl rfl (by rw [hB1]; rfl)
  intro H locs Ls pc st hP1 hS1 hz1 hr1
  obtain ⟨rfl, hd, hv⟩ := hr1
  exact va_forget (fun q hq => by have := hS1.2.2 q hq; unfold mm_A at this; rw [hB1] at this; exact this) (lw_ret hx hb hr hlocks hd)
