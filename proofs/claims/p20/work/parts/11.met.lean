/-! ===== the small machine's walk is the machine's ===== -/
theorem mm_rtk_0 {z : Nat} (h : mm_rtk (mm_i z).2.2.1 (mm_rt z) = true) (hk : (mm_i z).2.2.1 = 0) : mm_rt z = none := by
  rw [hk] at h
  generalize mm_rt z = t at h ⊢
  cases t with
  | none => rfl
  | some ty => cases ty <;> cases h
theorem mm_rtk_2 {z : Nat} (h : mm_rtk (mm_i z).2.2.1 (mm_rt z) = true) (hk : (mm_i z).2.2.1 = 2) : mm_rt z = some .long := by
  rw [hk] at h
  generalize mm_rt z = t at h ⊢
  cases t with
  | none => cases h
  | some ty => cases ty <;> first | rfl | cases h
theorem mm_rtk_3 {z : Nat} (h : mm_rtk (mm_i z).2.2.1 (mm_rt z) = true) (hk : (mm_i z).2.2.1 = 3) : (∃ t, mm_rt z = some (.object t)) ∨ ∃ t, mm_rt z = some (.array t) := by
  rw [hk] at h
  generalize mm_rt z = t at h ⊢
  cases t with
  | none => cases h
  | some ty => cases ty <;> first | exact Or.inl ⟨_, rfl⟩ | exact Or.inr ⟨_, rfl⟩ | cases h
theorem mm_rtk_i {z : Nat} {v : Int32} (h : mm_rtk (mm_i z).2.2.1 (mm_rt z) = true) (hv : mm_rok z v = true) : ∃ ty, mm_rt z = some ty ∧ narrow ty (.int v) = .int v := by
  unfold mm_rok at hv
  generalize hk : (mm_i z).2.2.1 = k at h hv
  generalize mm_rt z = t at h ⊢
  match k, hv with
  | 1, _ =>
    cases t with
    | none => cases h
    | some ty => cases ty <;> first | exact ⟨_, rfl, rfl⟩ | cases h
  | 4, hv =>
    cases t with
    | none => cases h
    | some ty =>
      have hv2 : v = 0 ∨ v = 1 := by
        have hv3 : (decide (v = 0) || decide (v = 1)) = true := hv
        rw [Bool.or_eq_true, decide_eq_true_eq, decide_eq_true_eq] at hv3
        exact hv3
      cases ty with
      | boolean =>
        rcases hv2 with hv2 | hv2
        · subst hv2; exact ⟨_, rfl, by decide⟩
        · subst hv2; exact ⟨_, rfl, by decide⟩
      | _ => cases h
  | 5, hv =>
    have hv2 : v.toInt8.toInt32 = v := of_decide_eq_true hv
    cases t with
    | none => cases h
    | some ty =>
      cases ty with
      | byte => exact ⟨_, rfl, congrArg Value.int hv2⟩
      | _ => cases h
  | 6, hv =>
    have hv2 : v.toUInt32.toUInt16.toUInt32.toInt32 = v := of_decide_eq_true hv
    cases t with
    | none => cases h
    | some ty =>
      cases ty with
      | char => exact ⟨_, rfl, congrArg Value.int hv2⟩
      | _ => cases h
def mm_isr (B : mm_B) (z pc : Nat) (r : Option Value) (st : List Value) : Prop := st = r.toList.map (mm_v B) ∧ match r with
  | none => decode (mm_by z) pc = .ok (.return_, 1) ∧ (mm_i z).2.2.1 = 0
  | some (.int v) => decode (mm_by z) pc = .ok (.ireturn, 1) ∧ mm_rok z v = true
  | some (.long _) => decode (mm_by z) pc = .ok (.lreturn, 1) ∧ (mm_i z).2.2.1 = 2
  | some (.ref _) => decode (mm_by z) pc = .ok (.areturn, 1) ∧ (mm_i z).2.2.1 = 3
  | _ => False
def mm_At (B : mm_B) (X : List Int32) (p : Program) (s : State) (m : MethodId) (meth : Method) (c : Code) (z : Nat) : Prop :=
  p.tables.exec = Jvm.exec ∧ c.code = mm_by z ∧ meth.sig.returnType = mm_rt z ∧ c.maxLocals = (mm_i z).1 ∧ s.vm.findClass (mm_y z).cls = some m.cls ∧ meth.locks = false ∧ (z = 0 ∨ meth.name = (mm_y z).name) ∧ mm_G B X s
abbrev mm_mc (z : Nat) : Nat := (mm_i z).2.2.2.1
abbrev mm_ms (z : Nat) : Nat := (mm_i z).2.2.2.2
/-- what the end of a method gives -/
def mm_Ret (B : mm_B) (p : Program) (l : Launch) (e : Env) (s : State) (m : MethodId) (args : Array Value) (below : List Frame) (meth : Method) (c : Code) (Q : State → Prop) (z : Nat) (r : Option Value) (M1 : mm_H) : Prop :=
  ∀ (H : Heap) (locs : List Loc) (Ls : Array Slot) (pc : Nat) (st : List Value), va_P B.2.2.1 vwCl (mm_w B M1) H → va_S (mm_A B) s.heap H locs → s.heap.size + mm_mc z = B.1 + M1.length → mm_isr B z pc r st →
    W p l e (mm_rm z) s m args below meth c H locs (mm_mc z) (mm_ms z) Q (F0 m pc Ls st)
/-- the statement of n steps -/
def mm_SP (B : mm_B) (X : List Int32) (l : Launch) (n : Nat) : Prop :=
  ∀ (z pc : Nat) (ls : mm_L) (st : List Value) (M : mm_H) (bc bs : Nat) (r : Option Value) (M1 : mm_H), mm_x (some X) n z pc ls st M bc bs = some (r, M1) →
  ∀ (p : Program) (e : Env) (s : State) (m : MethodId) (args : Array Value) (below : List Frame) (meth : Method) (c : Code) (Q : State → Prop), mm_At B X p s m meth c z → mm_Ret B p l e s m args below meth c Q z r M1 →
  ∀ (H : Heap) (locs : List Loc) (Ls : Array Slot) (cells slots : Nat), ls.length = (mm_i z).1 → mm_lo B Ls ls → va_P B.2.2.1 vwCl (mm_w B M) H → va_S (mm_A B) s.heap H locs → mm_mc z = cells + bc → mm_ms z = slots + bs → s.heap.size + cells = B.1 + M.length →
    W p l e (mm_rm z) s m args below meth c H locs cells slots Q (F0 m pc Ls (st.map (mm_v B)))
def mm_Pc (B : mm_B) (X : List Int32) (av : List Value) (M : mm_H) : Array Value → State → Prop := fun a U => a = (av.map (mm_v B)).toArray ∧ mm_G B X U ∧ va_P B.2.2.1 vwCl (mm_w B M) U.heap ∧ U.heap.size = B.1 + M.length
def mm_Qc (B : mm_B) (mc : Nat) (r : Option Value) (M1 : mm_H) : Array Value → State → Outcome → State → Prop := fun _ st o t => o = .returned (r.map (mm_v B)) ∧ va_P B.2.2.1 vwCl (mm_w B M1) t.heap ∧ va_F (mm_A B) st t ∧ st.heap.size + mc = B.1 + M1.length
theorem mm_met {B : mm_B} {X : List Int32} {l : Launch} {n : Nat} (hSP : mm_SP B X l n) {z : Nat} {av : List Value} {M M1 : mm_H} {r : Option Value} (h0 : 0 < z) (h1 : z < mm_NM) (hlen : (mm_sl av).length ≤ (mm_i z).1)
    (hex : mm_x (some X) n z 0 (mm_en (mm_i z).1 av) [] M (mm_mc z) (mm_ms z) = some (r, M1)) : Met l (mm_y z) [Cond.code (mm_y z) (mm_by z) (mm_i z).1 (mm_rt z)] (mm_rm z) (mm_Pc B X av M) (mm_Qc B (mm_mc z) r M1) (mm_mc z) (mm_ms z) (mm_A B) := by
  obtain ⟨f1, f2, f3, f4, f5, f6⟩ := mm_mok z h0 h1
  refine Met.ofW (cc := mm_by z) (maxL := (mm_i z).1) (ret := mm_rt z) f3 rfl ?_
  intro p e s m args below meth c s₁ Bd hml hv
  obtain ⟨rfl, hG, hP, hsz⟩ := hv
  have hat : mm_At B X p s m meth c z := ⟨Bd.exec, Bd.bytes, Bd.returns, hml, findClass_of_methodNamed Bd.named, Bd.notSynchronized, Or.inr (name_of_methodNamed Bd.named Bd.method).1, hG⟩
  rw [lg_entry_eq]
  refine hSP z 0 _ [] M _ _ r M1 hex p e s m _ below meth c _ hat ?_ s.heap [] _ 0 0 (mm_en_len hlen) (mm_en_lo B hlen) hP va_S.rf (Nat.zero_add _).symm (Nat.zero_add _).symm (by omega)
  intro H locs Ls pc st hP1 hS1 hz1 hr
  have hq : ∀ t : State, t.heap = H → s.WarmedH t.vm → mm_Qc B (mm_mc z) r M1 (av.map (mm_v B)).toArray s (.returned (r.map (mm_v B))) t := fun t ht _ => ⟨rfl, by rw [ht]; exact hP1, hS1.F ht, hz1⟩
  obtain ⟨rfl, hr⟩ := hr
  match r, hr, hq with
  | none, hr, hq => exact W.vret Bd.exec Bd.bytes (Bd.returns.trans (mm_rtk_0 f6 hr.2)) hq hS1.2.2 hr.1 Bd.notSynchronized
  | some (.int v), hr, hq =>
    obtain ⟨ty, g1, g2⟩ := mm_rtk_i f6 hr.2
    exact W.zret Bd.exec Bd.bytes (Bd.returns.trans g1) g2 hq hS1.2.2 hr.1 Bd.notSynchronized
  | some (.long v), hr, hq => exact W.lret Bd.exec Bd.bytes (Bd.returns.trans (mm_rtk_2 f6 hr.2)) hq hS1.2.2 hr.1 Bd.notSynchronized
  | some (.ref v), hr, hq =>
    rcases mm_rtk_3 f6 hr.2 with ⟨t, g⟩ | ⟨t, g⟩
    · exact W.aret Bd.exec Bd.bytes (Bd.returns.trans g) (Or.inl ⟨t, rfl⟩) (Or.inr ⟨_, rfl⟩) hq hS1.2.2 hr.1 Bd.notSynchronized
    · exact W.aret Bd.exec Bd.bytes (Bd.returns.trans g) (Or.inr ⟨t, rfl⟩) (Or.inr ⟨_, rfl⟩) hq hS1.2.2 hr.1 Bd.notSynchronized
