theorem mm_rcs {M : mm_H} {a ci : Nat} (h : mm_rc M a = some ci) : (ci = 11 ∧ 1 ≤ a ∧ a ≤ 6) ∨ (ci < 11 ∧ ∃ fs, mm_g M a = some (.inl (ci, fs))) := by
  unfold mm_rc at h
  cases hc : (Nat.ble 1 a && Nat.ble a 6) <;> rw [hc] at h
  · simp only [cond_false] at h
    split at h
    · rename_i c fs hg
      cases hl : Nat.blt c 11 <;> rw [hl] at h
      · cases h
      · cases h
        exact Or.inr ⟨mm_blt hl, fs, hg⟩
    · cases h
  · cases h
    rw [Bool.and_eq_true] at hc
    exact Or.inl ⟨rfl, Nat.le_of_ble_eq_true hc.1, Nat.le_of_ble_eq_true hc.2⟩
theorem mm_recv {B : mm_B} {X : List Int32} {s : State} {M : mm_H} {H : Heap} {locs : List Loc} {a ci : Nat} {C : String} (hG : mm_G B X s) (hP : va_P B.2.2.1 vwCl (mm_w B M) H) (hS : va_S (mm_A B) s.heap H locs) (h : mm_rc M a = some ci) (hC : mm_cn ci = some C) : ∃ cell : Cell, H[mm_a B a]? = some cell ∧ cell.vm.isStatics = false ∧ s.vm.findClass C = some cell.cls := by
  rcases mm_rcs h with ⟨rfl, h1, h2⟩ | ⟨h1, fs, hg⟩
  · cases hC
    have hq : mm_a B a = B.2.1 (1 + (a - 1)) := by
      unfold mm_a
      rw [if_pos (by omega), show @Eq Nat (1 + (a - 1)) a from Nat.add_sub_cancel' h1]
    rw [hq]
    exact vk_recv (i := a - 1) hG.2.2.2.2.2.2.2.1 (by omega) hS
  · unfold mm_cn at hC
    have hb : Nat.beq ci 11 = false := by
      cases hq : Nat.beq ci 11 with
      | false => rfl
      | true => have := Nat.eq_of_beq_eq_true hq; omega
    rw [hb] at hC
    simp only [cond_false] at hC
    cases hv : vwCl[ci]? with
    | none => rw [hv] at hC; cases hC
    | some r =>
      rw [hv] at hC
      cases hC
      exact va_recv hG.2.1 hP hv (mm_gat hg)
theorem mm_subc {s : State} {args : Array Value} {C D : String} {ps cd : ClassId} (hps : s.vm.findClass C = some ps) (hcd : s.vm.findClass D = some cd) (h : C = D ∨ (Cond.superclass C D).before args s = true) : s.vm.isSubclass ps cd = true := by
  rcases h with h | h
  · subst h
    have e : ps = cd := Option.some.inj (hps.symm.trans hcd)
    subst e
    simp [Vm.isSubclass, Vm.isSubclassAux]
  · obtain ⟨p2, k, kp, h1, h2, h3, h4, -, -, -⟩ := Cond.superclass_spec hps h
    have e : p2 = cd := Option.some.inj (h1.symm.trans hcd)
    subst e
    have hlt : ps < s.vm.classes.size := (Array.getElem?_eq_some_iff.mp h2).1
    obtain ⟨n, hn⟩ := Nat.exists_eq_succ_of_ne_zero (Nat.ne_of_gt (Nat.lt_of_le_of_lt (Nat.zero_le _) hlt))
    unfold Vm.isSubclass
    rw [hn]
    unfold Vm.isSubclassAux
    rw [h2]
    simp only [h4]
    unfold Vm.isSubclassAux
    simp
section MSV
variable {p : Program} {l : Launch} {e : Env} {R : Room} {s : State} {m : MethodId} {args : Array Value} {below : List Frame} {meth : Method} {c : Code} {H : Heap} {locs : List Loc} {cells slots : Nat}
theorem mm_runSU {y : MethodName} {bytes cc : ByteArray} {maxL nL mc ms n index : Nat} {ret : Option FieldType} {ws : List Cond} {rm : Room} {Pc : Array Value → State → Prop} {Qc : Array Value → State → Outcome → State → Prop} {free : Addr → Prop} {Ts : List Cond} {own C Cs : String} {cC : ClassId} {b : Addr} {As rest : List Value} {g : JFrame}
    (hat : ClassAt s C cC) (S : CallFix p m c cc nL s args Ts own) (hM : Met l y ws rm Pc Qc mc ms free)
    (hback : rm.cells = mc ∧ rm.slots = ms ∧ rm.frames + 1 ≤ R.frames ∧ 8 + (maxL + 11) + rm.locals ≤ R.locals ∧ (∀ w ∈ ws, ∀ (a' : Array Value) (U : State), s.WarmedH U.vm → w.before a' U = true) ∧ Cond.code y bytes maxL ret ∈ ws)
    (hlink : (Cond.methodLink own index ⟨Cs, y.name, y.desc⟩).before args s = true) (hsame : (Cond.sameMethod Cs y.cls y.name y.desc).before args s = true) (hsup : (Cond.superclass own Cs).before args s = true) (hsub : Cs = y.cls ∨ (Cond.superclass Cs y.cls).before args s = true) (hinst : (Cond.instanceMethod y).before args s = true) (hini : (Cond.initialized y.cls).before args s = true) (hcode : (Cond.code y bytes maxL ret).before args s = true) (hno : y.name ≠ "<init>") (hlen : ∀ sig, parseMethodDescriptor y.desc = some sig → n = sig.parameters.length)
    (hp : PreV s H C b Pc As)
    (hg : g.method = m) (hn : As.length = n) (hsize : g.locals.size = nL) (hstack : g.stack = As.reverse ++ .ref b :: rest) (hW : 2 * g.monitorRoom + (rest.map fun v => v.category).sum ≤ 8) (hdg : decode cc g.pc = .ok (.invokespecial index, 3)) (hf : cells + mc ≤ R.cells ∧ slots + ms ≤ R.slots) :
    va_Run p l e R s m args below meth c H locs cells slots mc ms g rest (Qc (Value.ref b :: As).toArray) (free) := by
  obtain ⟨hrc, hrs, hfr, hlo, hws, hcw⟩ := hback
  have hK : Back l R p e below s args y 3 8 (PreOf R mc ms Pc) (PostOf Qc mc ms free) := back_of (bytes := bytes) (maxL := maxL) (ret := ret) hM hp.1 hrc hrs hfr hlo hws hcw (fun a' U hW => word_at hW (Or.inl (by first | rfl | simp [Cond.onTables, Cond.keeps, Cond.steady])) hini)
  obtain ⟨hx, hb, hml, ho, -⟩ := S
  obtain ⟨-, ⟨cellB, hcB, hoB, hclB⟩, hPc⟩ := hp
  obtain ⟨hfc, kB, hkB, -⟩ := hat
  cases hfc.symm.trans hclB
  intro T hT X
  obtain ⟨mk, methM, hnamed, hmethM, hstM, habM⟩ := Cond.instanceMethod_spec hinst
  obtain ⟨methM', cM, hmethM', -, -, -, -, -, -, hsigM⟩ := Cond.code_spec hnamed hcode
  cases hmethM.symm.trans hmethM'
  obtain ⟨ps, dk, kp, hps, hdk, hkp, hsuper, -, -, hnid⟩ := Cond.superclass_spec ho hsup
  have hnn : s.methodNamed? ⟨y.cls, y.name, y.desc⟩ = some mk := hnamed
  have hss : s.vm.isSubclass ps mk.cls = true := mm_subc hps (findClass_of_methodNamed hnamed) hsub
  obtain ⟨vm₁, X₁, hstep₁⟩ := X.invokespecialUp hx ho hlink hsame hnn hmethM hstM habM hno hdk hnid hps hsuper hss (a := b) (cell := cellB) (by rw [hT]; exact hcB)
    (fun z h => by rw [h] at hoB; cases hoB) hkB (g := g) hg (argsL := As) (rest := rest) (hn.trans (hlen _ hsigM)) hstack (by rw [hb]; exact hdg)
  obtain ⟨v, ⟨U', l2, c2, s2⟩, X', ⟨g', mk', t, L, e1, e2, hq, h1, hL, h2, h3⟩, hsteps⟩ := hK m meth c ⟨T.setVm vm₁, locs, cells, slots⟩ { g with stack := rest } (.invokespecial index) mk (Value.ref b :: As).toArray X₁ hg (hsize.trans hml.symm) (by rw [hb]; exact hdg) hW (X₁.named hnamed) ⟨hf.1, hf.2, hPc (T.setVm vm₁) hT X₁.warmed⟩
  dsimp only [Pt.U, Pt.locs, Pt.cells, Pt.slots] at X' e1 e2 h1 h2 h3 hsteps
  subst h1; subst h2; subst h3
  exact ⟨v, (T.setVm vm₁).calling g' mk' (Value.ref b :: As).toArray, t, U', L, hT, X', hL, e1, e2, hq, fun target h => hstep₁ _ (by rw [doInvoke_state]; exact (hsteps.trans h))⟩
end MSV
section MSU
variable {p : Program} {l : Launch} {e : Env} {s : State} {m : MethodId} {args : Array Value} {below : List Frame} {meth : Method} {c : Code} {H : Heap} {locs : List Loc} {cells slots : Nat} {Q : State → Prop}
theorem mm_kS {B : mm_B} {X : List Int32} {n z pc bc bs y idx : Nat} {ls : mm_L} {st : List Value} {M M1 : mm_H} {r : Option Value} {Ls : Array Slot} (hSP : mm_SP B X l n) (C : mm_At B X p s m meth c z) (hRet : mm_Ret B p l e s m args below meth c Q z r M1) (hlen : ls.length = (mm_i z).1) (hlo : mm_lo B Ls ls) (hP : va_P B.2.2.1 vwCl (mm_w B M) H) (hS : va_S (mm_A B) s.heap H locs) (hbc : mm_mc z = cells + bc) (hbs : mm_ms z = slots + bs) (hsz : s.heap.size + cells = B.1 + M.length)
    (hd : decode (mm_by z) pc = .ok (.invokestatic idx, 3)) (ho : (Cond.methodLink (mm_y z).cls idx (mm_y y) ∈ lw_tbl ∨ ∃ host, Cond.methodLinkNest (mm_y z).cls idx (mm_y y) host ∈ lw_tbl) ∧ Cond.static (mm_y y) ∈ lw_tbl ∧ mm_call z y = true) (hn : (mm_i y).2.1 = (mm_rf y).2.2) (h : mm_inv (mm_x (some X) n) z pc ls st M bc bs y = some (r, M1)) :
    W p l e (mm_rm z) s m args below meth c H locs cells slots Q (F0 m pc Ls (st.map (mm_v B))) := by
  obtain ⟨hlk, hst, hcl⟩ := ho
  obtain ⟨g1, g2, g3, g4⟩ := mm_cws hcl
  obtain ⟨f1, f2, f3, f4, f5, f6⟩ := mm_mok y g1 g2
  obtain ⟨hx, hb, hr0, hml, hown, hlocks, hnm, hG⟩ := id C
  have hT := hG.1
  refine mm_kc hSP C hRet hlen hlo hP hS hbc hbs hsz h hcl (fun r1 M2 hHz h1 h2 h3 h4 hM => ?_)
  have hsize : (F0 m pc Ls (st.map (mm_v B))).locals.size = (mm_i z).1 := hlo.1.trans hlen
  have hcat : 2 * (F0 m pc Ls (st.map (mm_v B))).monitorRoom + (((st.drop (mm_i y).2.1).map (mm_v B)).map fun v => v.category).sum ≤ 8 := by
    rw [mm_vsum]
    show 2 * 0 + mm_cat (st.drop (mm_i y).2.1) ≤ 8
    omega
  have hal : ((st.take (mm_i y).2.1).reverse.map (mm_v B)).length = (mm_rf y).2.2 := by
    rw [List.length_map, List.length_reverse, List.length_take, ← hn]; omega
  have hsig : ∀ sig, parseMethodDescriptor (mm_y y).desc = some sig → (mm_rf y).2.2 = sig.parameters.length := fun sig hs => by
    rw [hs] at f5
    exact (Option.some.inj f5).symm
  have hpre : PreS s H (mm_Pc B X (st.take (mm_i y).2.1).reverse M) ((st.take (mm_i y).2.1).reverse.map (mm_v B)) := ⟨mm_blind B X _ M, mm_pre hG hP hS hHz⟩
  have hroom : cells + mm_mc y ≤ (mm_rm z).cells ∧ slots + mm_ms y ≤ (mm_rm z).slots := ⟨by show _ ≤ mm_mc z; omega, by show _ ≤ mm_ms z; omega⟩
  rcases hlk with hlk | ⟨host, hlk⟩
  · exact va_runS (Ts := []) (own := (mm_y z).cls) (index := idx) (n := (mm_rf y).2.2) ⟨hx, hb, hml, hown, fun w hw => absurd hw List.not_mem_nil⟩ hM ⟨⟨rfl, rfl, g3, g4, mm_cwd hT f1, List.mem_cons_self, hT.use f1 rfl args, hT.use f2 rfl args, f4, hsig, hT.use hlk rfl args⟩, hT.use hst rfl args⟩ hpre rfl hal hsize (mm_take h1 B) hcat hd hroom
  · exact va_runSN (Ts := []) (own := (mm_y z).cls) (index := idx) (host := host) (n := (mm_rf y).2.2) ⟨hx, hb, hml, hown, fun w hw => absurd hw List.not_mem_nil⟩ hM ⟨⟨⟨rfl, rfl, g3, g4, mm_cwd hT f1, List.mem_cons_self⟩, hT.use f1 rfl args, hT.use f2 rfl args, f4, hsig, hT.use hlk rfl args⟩, hT.use hst rfl args, trivial⟩ hpre rfl hal hsize (mm_take h1 B) hcat hd hroom
theorem mm_kI {B : mm_B} {X : List Int32} {n z pc bc bs y idx a : Nat} {ls : mm_L} {st : List Value} {M M1 : mm_H} {r : Option Value} {Ls : Array Slot} (hSP : mm_SP B X l n) (C : mm_At B X p s m meth c z) (hRet : mm_Ret B p l e s m args below meth c Q z r M1) (hlen : ls.length = (mm_i z).1) (hlo : mm_lo B Ls ls) (hP : va_P B.2.2.1 vwCl (mm_w B M) H) (hS : va_S (mm_A B) s.heap H locs) (hbc : mm_mc z = cells + bc) (hbs : mm_ms z = slots + bs) (hsz : s.heap.size + cells = B.1 + M.length)
    (hd : decode (mm_by z) pc = .ok (.invokespecial idx, 3)) (ho : (Cond.methodLink (mm_y z).cls idx (mm_y y) ∈ lw_tbl ∨ ∃ host, Cond.methodLinkNest (mm_y z).cls idx (mm_y y) host ∈ lw_tbl) ∧ Cond.instanceMethod (mm_y y) ∈ lw_tbl ∧ (mm_y y).name = "<init>" ∧ mm_rt y = none ∧ mm_call z y = true) (hn : (mm_i y).2.1 = (mm_rf y).2.2 + 1) (ha : mm_n st (mm_rf y).2.2 = some (.ref a)) (h : mm_inv (mm_x (some X) n) z pc ls st M bc bs y = some (r, M1)) :
    W p l e (mm_rm z) s m args below meth c H locs cells slots Q (F0 m pc Ls (st.map (mm_v B))) := by
  obtain ⟨hlk, hst, hini, hrt, hcl⟩ := ho
  obtain ⟨g1, g2, g3, g4⟩ := mm_cws hcl
  obtain ⟨f1, f2, f3, f4, f5, f6⟩ := mm_mok y g1 g2
  obtain ⟨hx, hb, hr0, hml, hown, hlocks, hnm, hG⟩ := id C
  have hT := hG.1
  refine mm_kc hSP C hRet hlen hlo hP hS hbc hbs hsz h hcl (fun r1 M2 hHz h1 h2 h3 h4 hM => ?_)
  have hsize : (F0 m pc Ls (st.map (mm_v B))).locals.size = (mm_i z).1 := hlo.1.trans hlen
  have hcat : 2 * (F0 m pc Ls (st.map (mm_v B))).monitorRoom + (((st.drop (mm_i y).2.1).map (mm_v B)).map fun v => v.category).sum ≤ 8 := by
    rw [mm_vsum]
    show 2 * 0 + mm_cat (st.drop (mm_i y).2.1) ≤ 8
    omega
  have htk : (st.take (mm_i y).2.1).reverse = .ref a :: (st.take (mm_rf y).2.2).reverse := by
    have := mm_takeR (n := (mm_i y).2.1) h1 (by omega) (by rw [hn, Nat.add_sub_cancel]; exact ha)
    rw [this, hn, Nat.add_sub_cancel]
  have hal : ((st.take (mm_rf y).2.2).reverse.map (mm_v B)).length = (mm_rf y).2.2 := by
    rw [List.length_map, List.length_reverse, List.length_take]; omega
  have hsig : ∀ sig, parseMethodDescriptor (mm_y y).desc = some sig → (mm_rf y).2.2 = sig.parameters.length := fun sig hs => by
    rw [hs] at f5
    exact (Option.some.inj f5).symm
  have hpre0 := mm_pre (av := (st.take (mm_i y).2.1).reverse) hG hP hS hHz
  have hbl := mm_blind B X (st.take (mm_i y).2.1).reverse M
  have hstk := mm_take (B := B) h1
  generalize hR : st.drop (mm_i y).2.1 = rest at hstk hcat ⊢
  rw [htk] at hM hpre0 hbl hstk ⊢
  rw [List.map_cons, List.reverse_cons, List.append_assoc] at hstk
  have hroom : cells + mm_mc y ≤ (mm_rm z).cells ∧ slots + mm_ms y ≤ (mm_rm z).slots := ⟨by show _ ≤ mm_mc z; omega, by show _ ≤ mm_ms z; omega⟩
  have hcode : Cond.code (mm_y y) (mm_by y) (mm_i y).1 none ∈ [Cond.code (mm_y y) (mm_by y) (mm_i y).1 (mm_rt y)] := by rw [hrt]; exact List.mem_cons_self
  have f1' : Cond.code (mm_y y) (mm_by y) (mm_i y).1 none ∈ lw_tbl := by rw [← hrt]; exact f1
  rcases hlk with hlk | ⟨host, hlk⟩
  · exact va_runI (Ts := []) (own := (mm_y z).cls) (index := idx) (n := (mm_rf y).2.2) ⟨hx, hb, hml, hown, fun w hw => absurd hw List.not_mem_nil⟩ hM ⟨⟨rfl, rfl, g3, g4, mm_cwd hT f1, hcode, hT.use f1' rfl args, hT.use f2 rfl args, f4, hsig, hT.use hlk rfl args⟩, hini, hT.use hst rfl args⟩ ⟨hbl, hpre0⟩ rfl hal hsize hstk hcat hd hroom
  · exact va_runIN (Ts := []) (own := (mm_y z).cls) (index := idx) (host := host) (n := (mm_rf y).2.2) ⟨hx, hb, hml, hown, fun w hw => absurd hw List.not_mem_nil⟩ hM ⟨⟨⟨rfl, rfl, g3, g4, mm_cwd hT f1, hcode⟩, hT.use f1' rfl args, hT.use f2 rfl args, f4, hsig, hT.use hlk rfl args⟩, hini, hT.use hst rfl args⟩ ⟨hbl, hpre0⟩ rfl hal hsize hstk hcat hd hroom
theorem mm_kV {B : mm_B} {X : List Int32} {n z pc bc bs y idx a ci : Nat} {ls : mm_L} {st : List Value} {M M1 : mm_H} {r : Option Value} {Ls : Array Slot} (hSP : mm_SP B X l n) (C : mm_At B X p s m meth c z) (hRet : mm_Ret B p l e s m args below meth c Q z r M1) (hlen : ls.length = (mm_i z).1) (hlo : mm_lo B Ls ls) (hP : va_P B.2.2.1 vwCl (mm_w B M) H) (hS : va_S (mm_A B) s.heap H locs) (hbc : mm_mc z = cells + bc) (hbs : mm_ms z = slots + bs) (hsz : s.heap.size + cells = B.1 + M.length)
    (hd : decode (mm_by z) pc = .ok (.invokevirtual idx, 3)) (ho : ∃ C, mm_cn ci = some C ∧ Cond.methodLink (mm_y z).cls idx (mm_y y) ∈ lw_tbl ∧ Cond.instanceMethod (mm_y y) ∈ lw_tbl ∧ Cond.selects C (mm_y y) (mm_y y) ∈ lw_tbl ∧ mm_call z y = true) (hn : (mm_i y).2.1 = (mm_rf y).2.2 + 1) (ha : mm_n st (mm_rf y).2.2 = some (.ref a)) (hg : mm_rc M a = some ci) (h : mm_inv (mm_x (some X) n) z pc ls st M bc bs y = some (r, M1)) :
    W p l e (mm_rm z) s m args below meth c H locs cells slots Q (F0 m pc Ls (st.map (mm_v B))) := by
  obtain ⟨rr, hrr, hlk, hst, hsel, hcl⟩ := ho
  obtain ⟨g1, g2, g3, g4⟩ := mm_cws hcl
  obtain ⟨f1, f2, f3, f4, f5, f6⟩ := mm_mok y g1 g2
  obtain ⟨hx, hb, hr0, hml, hown, hlocks, hnm, hG⟩ := id C
  have hT := hG.1
  refine mm_kc hSP C hRet hlen hlo hP hS hbc hbs hsz h hcl (fun r1 M2 hHz h1 h2 h3 h4 hM => ?_)
  have hsize : (F0 m pc Ls (st.map (mm_v B))).locals.size = (mm_i z).1 := hlo.1.trans hlen
  have hcat : 2 * (F0 m pc Ls (st.map (mm_v B))).monitorRoom + (((st.drop (mm_i y).2.1).map (mm_v B)).map fun v => v.category).sum ≤ 8 := by
    rw [mm_vsum]
    show 2 * 0 + mm_cat (st.drop (mm_i y).2.1) ≤ 8
    omega
  have htk : (st.take (mm_i y).2.1).reverse = .ref a :: (st.take (mm_rf y).2.2).reverse := by
    have := mm_takeR (n := (mm_i y).2.1) h1 (by omega) (by rw [hn, Nat.add_sub_cancel]; exact ha)
    rw [this, hn, Nat.add_sub_cancel]
  have hal : ((st.take (mm_rf y).2.2).reverse.map (mm_v B)).length = (mm_rf y).2.2 := by
    rw [List.length_map, List.length_reverse, List.length_take]; omega
  have hsig : ∀ sig, parseMethodDescriptor (mm_y y).desc = some sig → (mm_rf y).2.2 = sig.parameters.length := fun sig hs => by
    rw [hs] at f5
    exact (Option.some.inj f5).symm
  have hpre0 := mm_pre (av := (st.take (mm_i y).2.1).reverse) hG hP hS hHz
  have hbl := mm_blind B X (st.take (mm_i y).2.1).reverse M
  have hstk := mm_take (B := B) h1
  generalize hR : st.drop (mm_i y).2.1 = rest at hstk hcat ⊢
  rw [htk] at hM hpre0 hbl hstk ⊢
  rw [List.map_cons, List.reverse_cons, List.append_assoc] at hstk
  have hroom : cells + mm_mc y ≤ (mm_rm z).cells ∧ slots + mm_ms y ≤ (mm_rm z).slots := ⟨by show _ ≤ mm_mc z; omega, by show _ ≤ mm_ms z; omega⟩
  have hrecv := mm_recv hG hP hS hg hrr
  exact va_runV (Ts := []) (own := (mm_y z).cls) (C := rr) (index := idx) (n := (mm_rf y).2.2) ⟨hx, hb, hml, hown, fun w hw => absurd hw List.not_mem_nil⟩ hM ⟨⟨rfl, rfl, g3, g4, mm_cwd hT f1, List.mem_cons_self, hT.use f1 rfl args, hT.use f2 rfl args, f4, hsig, hT.use hlk rfl args⟩, hT.use hst rfl args, hT.use hsel rfl args⟩ ⟨hbl, hrecv, hpre0⟩ rfl hal hsize hstk hcat hd hroom
theorem mm_kD {B : mm_B} {X : List Int32} {n z pc bc bs y idx a ci : Nat} {ls : mm_L} {st : List Value} {M M1 : mm_H} {r : Option Value} {Ls : Array Slot} (hSP : mm_SP B X l n) (C : mm_At B X p s m meth c z) (hRet : mm_Ret B p l e s m args below meth c Q z r M1) (hlen : ls.length = (mm_i z).1) (hlo : mm_lo B Ls ls) (hP : va_P B.2.2.1 vwCl (mm_w B M) H) (hS : va_S (mm_A B) s.heap H locs) (hbc : mm_mc z = cells + bc) (hbs : mm_ms z = slots + bs) (hsz : s.heap.size + cells = B.1 + M.length)
    (hd : decode (mm_by z) pc = .ok (.invokevirtual idx, 3)) {y0 : Nat} (hlk : Cond.methodLink (mm_y z).cls idx (mm_y y0) ∈ lw_tbl) (hsm : Cond.sameMethod (mm_y y0).cls (mm_y y0).cls (mm_y y0).name (mm_y y0).desc ∈ lw_tbl) (y00 : 0 < y0) (y01 : y0 < mm_NM) (hin0 : Cond.instanceMethod (mm_y y0) ∈ lw_tbl) (ho : mm_vok z idx (mm_y y0) (ci, y)) (hnn : (mm_rf y).2.2 = (mm_rf y0).2.2) (hn : (mm_i y).2.1 = (mm_rf y).2.2 + 1) (ha : mm_n st (mm_rf y).2.2 = some (.ref a)) (hg : mm_rc M a = some ci) (h : mm_inv (mm_x (some X) n) z pc ls st M bc bs y = some (r, M1)) :
    W p l e (mm_rm z) s m args below meth c H locs cells slots Q (F0 m pc Ls (st.map (mm_v B))) := by
  obtain ⟨rr, hrr, hsel, hst, hcl⟩ := ho
  obtain ⟨j1, j2, j3, j4, j5, j6⟩ := mm_mok y0 y00 y01
  obtain ⟨g1, g2, g3, g4⟩ := mm_cws hcl
  obtain ⟨f1, f2, f3, f4, f5, f6⟩ := mm_mok y g1 g2
  obtain ⟨hx, hb, hr0, hml, hown, hlocks, hnm, hG⟩ := id C
  have hT := hG.1
  refine mm_kc hSP C hRet hlen hlo hP hS hbc hbs hsz h hcl (fun r1 M2 hHz h1 h2 h3 h4 hM => ?_)
  have hsize : (F0 m pc Ls (st.map (mm_v B))).locals.size = (mm_i z).1 := hlo.1.trans hlen
  have hcat : 2 * (F0 m pc Ls (st.map (mm_v B))).monitorRoom + (((st.drop (mm_i y).2.1).map (mm_v B)).map fun v => v.category).sum ≤ 8 := by
    rw [mm_vsum]
    show 2 * 0 + mm_cat (st.drop (mm_i y).2.1) ≤ 8
    omega
  have htk : (st.take (mm_i y).2.1).reverse = .ref a :: (st.take (mm_rf y).2.2).reverse := by
    have := mm_takeR (n := (mm_i y).2.1) h1 (by omega) (by rw [hn, Nat.add_sub_cancel]; exact ha)
    rw [this, hn, Nat.add_sub_cancel]
  have hal : ((st.take (mm_rf y).2.2).reverse.map (mm_v B)).length = (mm_rf y).2.2 := by
    rw [List.length_map, List.length_reverse, List.length_take]; omega
  have hsig : ∀ sig, parseMethodDescriptor (mm_y y0).desc = some sig → (mm_rf y).2.2 = sig.parameters.length := fun sig hs => by
    rw [hs] at j5
    rw [hnn]
    exact (Option.some.inj j5).symm
  have hcn : mm_cn ci = some rr.1 := by
    unfold mm_cn
    have hlt : ci < 11 := (List.getElem?_eq_some_iff.mp hrr).1
    have hb1 : Nat.beq ci 11 = false := by
      cases hq : Nat.beq ci 11 with
      | false => rfl
      | true => have := Nat.eq_of_beq_eq_true hq; omega
    have hrr2 : vwCl[ci]? = some rr := hrr
    rw [hb1, hrr2]
    rfl
  have hpre0 := mm_pre (av := (st.take (mm_i y).2.1).reverse) hG hP hS hHz
  have hbl := mm_blind B X (st.take (mm_i y).2.1).reverse M
  have hstk := mm_take (B := B) h1
  generalize hR : st.drop (mm_i y).2.1 = rest at hstk hcat ⊢
  rw [htk] at hM hpre0 hbl hstk ⊢
  rw [List.map_cons, List.reverse_cons, List.append_assoc] at hstk
  have hroom : cells + mm_mc y ≤ (mm_rm z).cells ∧ slots + mm_ms y ≤ (mm_rm z).slots := ⟨by show _ ≤ mm_mc z; omega, by show _ ≤ mm_ms z; omega⟩
  have hrecv := mm_recv hG hP hS hg hcn
  exact va_runU (Ts := []) (own := (mm_y z).cls) (C := rr.1) (owner := (mm_y y0).cls) (x := mm_y y0) (index := idx) (n := (mm_rf y).2.2) ⟨hx, hb, hml, hown, fun w hw => absurd hw List.not_mem_nil⟩ hM ⟨⟨rfl, rfl, g3, g4, mm_cwd hT f1, List.mem_cons_self⟩, hT.use f1 rfl args, hT.use f2 rfl args, j4, hsig, hT.use hlk rfl args, hT.use hsm rfl args, va_Decl.of (hT.use hin0 rfl args) (hT.use j1 rfl args), hT.use hsel rfl args, hT.use hst rfl args⟩ ⟨hbl, hrecv, hpre0⟩ rfl hal hsize hstk hcat hd hroom
theorem mm_kU {B : mm_B} {X : List Int32} {n z pc bc bs y idx a ci : Nat} {ls : mm_L} {st : List Value} {M M1 : mm_H} {r : Option Value} {Ls : Array Slot} (hSP : mm_SP B X l n) (C : mm_At B X p s m meth c z) (hRet : mm_Ret B p l e s m args below meth c Q z r M1) (hlen : ls.length = (mm_i z).1) (hlo : mm_lo B Ls ls) (hP : va_P B.2.2.1 vwCl (mm_w B M) H) (hS : va_S (mm_A B) s.heap H locs) (hbc : mm_mc z = cells + bc) (hbs : mm_ms z = slots + bs) (hsz : s.heap.size + cells = B.1 + M.length)
    (hd : decode (mm_by z) pc = .ok (.invokespecial idx, 3)) (ho : ∃ C, Cond.methodLink (mm_y z).cls idx ⟨C, (mm_y y).name, (mm_y y).desc⟩ ∈ lw_tbl ∧ Cond.sameMethod C (mm_y y).cls (mm_y y).name (mm_y y).desc ∈ lw_tbl ∧ Cond.superclass (mm_y z).cls C ∈ lw_tbl ∧ (C = (mm_y y).cls ∨ Cond.superclass C (mm_y y).cls ∈ lw_tbl) ∧ (mm_y y).name ≠ "<init>" ∧ Cond.instanceMethod (mm_y y) ∈ lw_tbl ∧ mm_call z y = true) (hn : (mm_i y).2.1 = (mm_rf y).2.2 + 1) (ha : mm_n st (mm_rf y).2.2 = some (.ref a)) {fs : List Value} (hci : ci < 11) (hg : mm_g M a = some (.inl (ci, fs))) (h : mm_inv (mm_x (some X) n) z pc ls st M bc bs y = some (r, M1)) :
    W p l e (mm_rm z) s m args below meth c H locs cells slots Q (F0 m pc Ls (st.map (mm_v B))) := by
  obtain ⟨Cs, hlk, hsm, hsp, hsb, hno, hst, hcl⟩ := ho
  obtain ⟨rr, hrr⟩ : ∃ rr, vwCl[ci]? = some rr := ⟨_, List.getElem?_eq_getElem (show ci < vwCl.length from hci)⟩
  obtain ⟨g1, g2, g3, g4⟩ := mm_cws hcl
  obtain ⟨f1, f2, f3, f4, f5, f6⟩ := mm_mok y g1 g2
  obtain ⟨hx, hb, hr0, hml, hown, hlocks, hnm, hG⟩ := id C
  have hT := hG.1
  refine mm_kc hSP C hRet hlen hlo hP hS hbc hbs hsz h hcl (fun r1 M2 hHz h1 h2 h3 h4 hM => ?_)
  have hsize : (F0 m pc Ls (st.map (mm_v B))).locals.size = (mm_i z).1 := hlo.1.trans hlen
  have hcat : 2 * (F0 m pc Ls (st.map (mm_v B))).monitorRoom + (((st.drop (mm_i y).2.1).map (mm_v B)).map fun v => v.category).sum ≤ 8 := by
    rw [mm_vsum]
    show 2 * 0 + mm_cat (st.drop (mm_i y).2.1) ≤ 8
    omega
  have htk : (st.take (mm_i y).2.1).reverse = .ref a :: (st.take (mm_rf y).2.2).reverse := by
    have := mm_takeR (n := (mm_i y).2.1) h1 (by omega) (by rw [hn, Nat.add_sub_cancel]; exact ha)
    rw [this, hn, Nat.add_sub_cancel]
  have hal : ((st.take (mm_rf y).2.2).reverse.map (mm_v B)).length = (mm_rf y).2.2 := by
    rw [List.length_map, List.length_reverse, List.length_take]; omega
  have hsig : ∀ sig, parseMethodDescriptor (mm_y y).desc = some sig → (mm_rf y).2.2 = sig.parameters.length := fun sig hs => by
    rw [hs] at f5
    exact (Option.some.inj f5).symm
  have hpre0 := mm_pre (av := (st.take (mm_i y).2.1).reverse) hG hP hS hHz
  have hbl := mm_blind B X (st.take (mm_i y).2.1).reverse M
  have hstk := mm_take (B := B) h1
  generalize hR : st.drop (mm_i y).2.1 = rest at hstk hcat ⊢
  rw [htk] at hM hpre0 hbl hstk ⊢
  rw [List.map_cons, List.reverse_cons, List.append_assoc] at hstk
  have hroom : cells + mm_mc y ≤ (mm_rm z).cells ∧ slots + mm_ms y ≤ (mm_rm z).slots := ⟨by show _ ≤ mm_mc z; omega, by show _ ≤ mm_ms z; omega⟩
  have hrecv := va_recv hG.2.1 hP hrr (mm_gat hg)
  have hkn := hG.2.1.1 ci rr hrr
  exact mm_runSU (Ts := []) (own := (mm_y z).cls) (C := rr.1) (Cs := Cs) (index := idx) (n := (mm_rf y).2.2) hkn.2 ⟨hx, hb, hml, hown, fun w hw => absurd hw List.not_mem_nil⟩ hM ⟨rfl, rfl, g3, g4, mm_cwd hT f1, List.mem_cons_self⟩ (hT.use hlk rfl args) (hT.use hsm rfl args) (hT.use hsp rfl args) (hsb.elim Or.inl (fun q => Or.inr (hT.use q rfl args))) (hT.use hst rfl args) (hT.use f2 rfl args) (hT.use f1 rfl args) hno hsig ⟨hbl, hrecv, hpre0⟩ rfl hal hsize hstk hcat hd hroom
end MSU
