section MSU
variable {p : Program} {l : Launch} {e : Env} {s : State} {m : MethodId} {args : Array Value} {below : List Frame} {meth : Method} {c : Code} {H : Heap} {locs : List Loc} {cells slots : Nat} {Q : State → Prop}
theorem mm_kS {B : mm_B} {X : List Int32} {n z pc bc bs y idx : Nat} {ls : mm_L} {st : List Value} {M M1 : mm_H} {r : Option Value} {Ls : Array Slot} (hSP : mm_SP B X l n) (C : mm_At B X p s m meth c z) (hRet : mm_Ret B p l e s m args below meth c Q z r M1) (hlen : ls.length = (mm_i z).1) (hlo : mm_lo B Ls ls) (hP : va_P B.2.2.1 vwCl (mm_w B M) H) (hS : va_S (mm_A B) s.heap H locs) (hbc : mm_mc z = cells + bc) (hbs : mm_ms z = slots + bs) (hsz : s.heap.size + cells = B.1 + M.length)
    (hd : decode (mm_by z) pc = .ok (.invokestatic idx, 3)) (ho : (Cond.methodLink (mm_y z).cls idx (mm_y y) ∈ lw_tbl ∨ ∃ host, Cond.methodLinkNest (mm_y z).cls idx (mm_y y) host ∈ lw_tbl) ∧ Cond.static (mm_y y) ∈ lw_tbl ∧ mm_call z y = true) (hn : (mm_i y).2.1 = (mm_rf y).2.2) (h : mm_inv (mm_x (some X) n) z pc ls st M bc bs y = some (r, M1)) :
    W p l e (mm_rm z) s m args below meth c H locs cells slots Q (F0 m pc Ls (st.map (mm_v B))) := by
  obtain ⟨hlk, hst, hcl⟩ := ho
  obtain ⟨g1, g2, g3, g4⟩ := mm_cws hcl
  obtain ⟨f1, f2, f3, f4, f5, f6⟩ := mm_mok y g1 g2
  obtain ⟨hx, hb, hr0, hml, hown, hlocks, hnm, hG⟩ := id C
  have hT := hG.1
  refine mm_kc hSP C hRet hlen hlo hP hS hbc hbs hsz h hcl (fun r1 M2 hHz h1 h2 h3 h4 hM => ?_)
  have hsize : (F0 m pc Ls (st.map (mm_v B))).locals.size = (mm_i z).1 := hlo.1.trans hlen
  have hcat : 2 * (F0 m pc Ls (st.map (mm_v B))).monitorRoom + (((st.drop (mm_i y).2.1).map (mm_v B)).map fun v => v.category).sum ≤ 8 := by
    rw [mm_vsum]
    show 2 * 0 + mm_cat (st.drop (mm_i y).2.1) ≤ 8
    omega
  have hal : ((st.take (mm_i y).2.1).reverse.map (mm_v B)).length = (mm_rf y).2.2 := by
    rw [List.length_map, List.length_reverse, List.length_take, ← hn]; omega
  have hsig : ∀ sig, parseMethodDescriptor (mm_y y).desc = some sig → (mm_rf y).2.2 = sig.parameters.length := fun sig hs => by
    rw [hs] at f5
    exact (Option.some.inj f5).symm
  have hpre : PreS s H (mm_Pc B X (st.take (mm_i y).2.1).reverse M) ((st.take (mm_i y).2.1).reverse.map (mm_v B)) := ⟨mm_blind B X _ M, mm_pre hG hP hS hHz⟩
  have hroom : cells + mm_mc y ≤ (mm_rm z).cells ∧ slots + mm_ms y ≤ (mm_rm z).slots := ⟨by show _ ≤ mm_mc z; omega, by show _ ≤ mm_ms z; omega⟩
  rcases hlk with hlk | ⟨host, hlk⟩
  · exact va_runS (Ts := []) (own := (mm_y z).cls) (index := idx) (n := (mm_rf y).2.2) ⟨hx, hb, hml, hown, fun w hw => absurd hw List.not_mem_nil⟩ hM ⟨⟨rfl, rfl, g3, g4, mm_cwd hT f1, List.mem_cons_self, hT.use f1 rfl args, hT.use f2 rfl args, f4, hsig, hT.use hlk rfl args⟩, hT.use hst rfl args⟩ hpre rfl hal hsize (mm_take h1 B) hcat hd hroom
  · exact va_runSN (Ts := []) (own := (mm_y z).cls) (index := idx) (host := host) (n := (mm_rf y).2.2) ⟨hx, hb, hml, hown, fun w hw => absurd hw List.not_mem_nil⟩ hM ⟨⟨⟨rfl, rfl, g3, g4, mm_cwd hT f1, List.mem_cons_self⟩, hT.use f1 rfl args, hT.use f2 rfl args, f4, hsig, hT.use hlk rfl args⟩, hT.use hst rfl args, trivial⟩ hpre rfl hal hsize (mm_take h1 B) hcat hd hroom
theorem mm_kI {B : mm_B} {X : List Int32} {n z pc bc bs y idx a : Nat} {ls : mm_L} {st : List Value} {M M1 : mm_H} {r : Option Value} {Ls : Array Slot} (hSP : mm_SP B X l n) (C : mm_At B X p s m meth c z) (hRet : mm_Ret B p l e s m args below meth c Q z r M1) (hlen : ls.length = (mm_i z).1) (hlo : mm_lo B Ls ls) (hP : va_P B.2.2.1 vwCl (mm_w B M) H) (hS : va_S (mm_A B) s.heap H locs) (hbc : mm_mc z = cells + bc) (hbs : mm_ms z = slots + bs) (hsz : s.heap.size + cells = B.1 + M.length)
    (hd : decode (mm_by z) pc = .ok (.invokespecial idx, 3)) (ho : (Cond.methodLink (mm_y z).cls idx (mm_y y) ∈ lw_tbl ∨ ∃ host, Cond.methodLinkNest (mm_y z).cls idx (mm_y y) host ∈ lw_tbl) ∧ Cond.instanceMethod (mm_y y) ∈ lw_tbl ∧ (mm_y y).name = "<init>" ∧ mm_rt y = none ∧ mm_call z y = true) (hn : (mm_i y).2.1 = (mm_rf y).2.2 + 1) (ha : mm_n st (mm_rf y).2.2 = some (.ref a)) (h : mm_inv (mm_x (some X) n) z pc ls st M bc bs y = some (r, M1)) :
    W p l e (mm_rm z) s m args below meth c H locs cells slots Q (F0 m pc Ls (st.map (mm_v B))) := by
  obtain ⟨hlk, hst, hini, hrt, hcl⟩ := ho
  obtain ⟨g1, g2, g3, g4⟩ := mm_cws hcl
  obtain ⟨f1, f2, f3, f4, f5, f6⟩ := mm_mok y g1 g2
  obtain ⟨hx, hb, hr0, hml, hown, hlocks, hnm, hG⟩ := id C
  have hT := hG.1
  refine mm_kc hSP C hRet hlen hlo hP hS hbc hbs hsz h hcl (fun r1 M2 hHz h1 h2 h3 h4 hM => ?_)
  have hsize : (F0 m pc Ls (st.map (mm_v B))).locals.size = (mm_i z).1 := hlo.1.trans hlen
  have hcat : 2 * (F0 m pc Ls (st.map (mm_v B))).monitorRoom + (((st.drop (mm_i y).2.1).map (mm_v B)).map fun v => v.category).sum ≤ 8 := by
    rw [mm_vsum]
    show 2 * 0 + mm_cat (st.drop (mm_i y).2.1) ≤ 8
    omega
  have htk : (st.take (mm_i y).2.1).reverse = .ref a :: (st.take (mm_rf y).2.2).reverse := by
    have := mm_takeR (n := (mm_i y).2.1) h1 (by omega) (by rw [hn, Nat.add_sub_cancel]; exact ha)
    rw [this, hn, Nat.add_sub_cancel]
  have hal : ((st.take (mm_rf y).2.2).reverse.map (mm_v B)).length = (mm_rf y).2.2 := by
    rw [List.length_map, List.length_reverse, List.length_take]; omega
  have hsig : ∀ sig, parseMethodDescriptor (mm_y y).desc = some sig → (mm_rf y).2.2 = sig.parameters.length := fun sig hs => by
    rw [hs] at f5
    exact (Option.some.inj f5).symm
  have hpre0 := mm_pre (av := (st.take (mm_i y).2.1).reverse) hG hP hS hHz
  have hbl := mm_blind B X (st.take (mm_i y).2.1).reverse M
  have hstk := mm_take (B := B) h1
  generalize hR : st.drop (mm_i y).2.1 = rest at hstk hcat ⊢
  rw [htk] at hM hpre0 hbl hstk ⊢
  rw [List.map_cons, List.reverse_cons, List.append_assoc] at hstk
  have hroom : cells + mm_mc y ≤ (mm_rm z).cells ∧ slots + mm_ms y ≤ (mm_rm z).slots := ⟨by show _ ≤ mm_mc z; omega, by show _ ≤ mm_ms z; omega⟩
  have hcode : Cond.code (mm_y y) (mm_by y) (mm_i y).1 none ∈ [Cond.code (mm_y y) (mm_by y) (mm_i y).1 (mm_rt y)] := by rw [hrt]; exact List.mem_cons_self
  have f1' : Cond.code (mm_y y) (mm_by y) (mm_i y).1 none ∈ lw_tbl := by rw [← hrt]; exact f1
  rcases hlk with hlk | ⟨host, hlk⟩
  · exact va_runI (Ts := []) (own := (mm_y z).cls) (index := idx) (n := (mm_rf y).2.2) ⟨hx, hb, hml, hown, fun w hw => absurd hw List.not_mem_nil⟩ hM ⟨⟨rfl, rfl, g3, g4, mm_cwd hT f1, hcode, hT.use f1' rfl args, hT.use f2 rfl args, f4, hsig, hT.use hlk rfl args⟩, hini, hT.use hst rfl args⟩ ⟨hbl, hpre0⟩ rfl hal hsize hstk hcat hd hroom
  · exact va_runIN (Ts := []) (own := (mm_y z).cls) (index := idx) (host := host) (n := (mm_rf y).2.2) ⟨hx, hb, hml, hown, fun w hw => absurd hw List.not_mem_nil⟩ hM ⟨⟨⟨rfl, rfl, g3, g4, mm_cwd hT f1, hcode⟩, hT.use f1' rfl args, hT.use f2 rfl args, f4, hsig, hT.use hlk rfl args⟩, hini, hT.use hst rfl args⟩ ⟨hbl, hpre0⟩ rfl hal hsize hstk hcat hd hroom
theorem mm_kV {B : mm_B} {X : List Int32} {n z pc bc bs y idx a ci : Nat} {fs : List Value} {ls : mm_L} {st : List Value} {M M1 : mm_H} {r : Option Value} {Ls : Array Slot} (hSP : mm_SP B X l n) (C : mm_At B X p s m meth c z) (hRet : mm_Ret B p l e s m args below meth c Q z r M1) (hlen : ls.length = (mm_i z).1) (hlo : mm_lo B Ls ls) (hP : va_P B.2.2.1 vwCl (mm_w B M) H) (hS : va_S (mm_A B) s.heap H locs) (hbc : mm_mc z = cells + bc) (hbs : mm_ms z = slots + bs) (hsz : s.heap.size + cells = B.1 + M.length)
    (hd : decode (mm_by z) pc = .ok (.invokevirtual idx, 3)) (ho : ∃ r, vwCl[ci]? = some r ∧ Cond.methodLink (mm_y z).cls idx (mm_y y) ∈ lw_tbl ∧ Cond.instanceMethod (mm_y y) ∈ lw_tbl ∧ Cond.selects r.1 (mm_y y) (mm_y y) ∈ lw_tbl ∧ mm_call z y = true) (hn : (mm_i y).2.1 = (mm_rf y).2.2 + 1) (ha : mm_n st (mm_rf y).2.2 = some (.ref a)) (hg : mm_g M a = some (.inl (ci, fs))) (h : mm_inv (mm_x (some X) n) z pc ls st M bc bs y = some (r, M1)) :
    W p l e (mm_rm z) s m args below meth c H locs cells slots Q (F0 m pc Ls (st.map (mm_v B))) := by
  obtain ⟨rr, hrr, hlk, hst, hsel, hcl⟩ := ho
  obtain ⟨g1, g2, g3, g4⟩ := mm_cws hcl
  obtain ⟨f1, f2, f3, f4, f5, f6⟩ := mm_mok y g1 g2
  obtain ⟨hx, hb, hr0, hml, hown, hlocks, hnm, hG⟩ := id C
  have hT := hG.1
  refine mm_kc hSP C hRet hlen hlo hP hS hbc hbs hsz h hcl (fun r1 M2 hHz h1 h2 h3 h4 hM => ?_)
  have hsize : (F0 m pc Ls (st.map (mm_v B))).locals.size = (mm_i z).1 := hlo.1.trans hlen
  have hcat : 2 * (F0 m pc Ls (st.map (mm_v B))).monitorRoom + (((st.drop (mm_i y).2.1).map (mm_v B)).map fun v => v.category).sum ≤ 8 := by
    rw [mm_vsum]
    show 2 * 0 + mm_cat (st.drop (mm_i y).2.1) ≤ 8
    omega
  have htk : (st.take (mm_i y).2.1).reverse = .ref a :: (st.take (mm_rf y).2.2).reverse := by
    have := mm_takeR (n := (mm_i y).2.1) h1 (by omega) (by rw [hn, Nat.add_sub_cancel]; exact ha)
    rw [this, hn, Nat.add_sub_cancel]
  have hal : ((st.take (mm_rf y).2.2).reverse.map (mm_v B)).length = (mm_rf y).2.2 := by
    rw [List.length_map, List.length_reverse, List.length_take]; omega
  have hsig : ∀ sig, parseMethodDescriptor (mm_y y).desc = some sig → (mm_rf y).2.2 = sig.parameters.length := fun sig hs => by
    rw [hs] at f5
    exact (Option.some.inj f5).symm
  have hpre0 := mm_pre (av := (st.take (mm_i y).2.1).reverse) hG hP hS hHz
  have hbl := mm_blind B X (st.take (mm_i y).2.1).reverse M
  have hstk := mm_take (B := B) h1
  generalize hR : st.drop (mm_i y).2.1 = rest at hstk hcat ⊢
  rw [htk] at hM hpre0 hbl hstk ⊢
  rw [List.map_cons, List.reverse_cons, List.append_assoc] at hstk
  have hroom : cells + mm_mc y ≤ (mm_rm z).cells ∧ slots + mm_ms y ≤ (mm_rm z).slots := ⟨by show _ ≤ mm_mc z; omega, by show _ ≤ mm_ms z; omega⟩
  have hrecv := va_recv hG.2.1 hP hrr (mm_gat hg)
  exact va_runV (Ts := []) (own := (mm_y z).cls) (C := rr.1) (index := idx) (n := (mm_rf y).2.2) ⟨hx, hb, hml, hown, fun w hw => absurd hw List.not_mem_nil⟩ hM ⟨⟨rfl, rfl, g3, g4, mm_cwd hT f1, List.mem_cons_self, hT.use f1 rfl args, hT.use f2 rfl args, f4, hsig, hT.use hlk rfl args⟩, hT.use hst rfl args, hT.use hsel rfl args⟩ ⟨hbl, hrecv, hpre0⟩ rfl hal hsize hstk hcat hd hroom
end MSU
