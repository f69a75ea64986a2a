/-! ===== the small machine's state and the machine's: cells at base + k, what is only read by ext ===== -/
abbrev mm_B : Type := Nat × (Nat → Nat) × va_G × ClassId × ClassId
def mm_a (B : mm_B) (k : Nat) : Nat := if k < 100 then B.2.1 k else B.1 + (k - 100)
/-- what nobody looks at: a reference, or null -/
def mm_fv (B : mm_B) : Value := if B.2.1 20 = 0 then .null else .ref (B.2.1 20 - 1)
def mm_v (B : mm_B) (v : Value) : Value := match v with
  | .ref k => .ref (mm_a B k)
  | .retAddr _ => mm_fv B
  | w => w
theorem mm_vc (B : mm_B) (v : Value) : (mm_v B v).category = v.category := by
  cases v <;> first
    | rfl
    | (show (mm_fv B).category = 1; unfold mm_fv; split <;> rfl)
theorem mm_vsum (B : mm_B) (st : List Value) : ((st.map (mm_v B)).map fun v => v.category).sum = mm_cat st := by
  unfold mm_cat
  rw [List.map_map]
  congr 1
  apply List.map_congr_left
  intro v _
  exact mm_vc B v
def mm_or (B : mm_B) (v : Value) : Option Nat := match v with
  | .ref k => some (mm_a B k)
  | _ => none
def mm_e (B : mm_B) (c : mm_C) : va_E := match c with
  | .inl (ci, fs) => .inr (ci, fs.map (mm_v B))
  | .inr (.inl xs) => .inl (B.2.2.2.1, xs.length, .inl (fun j => xs.getD j 0))
  | .inr (.inr vs) => .inl (B.2.2.2.2, vs.length, .inr (.inr (.inr (.inr (fun j => mm_or B (vs.getD j .null))))))
def mm_w (B : mm_B) (M : mm_H) : va_W := M.mapIdx (fun k c => (B.1 + k, mm_e B c))
theorem mm_wg (B : mm_B) (M : mm_H) (k : Nat) : (mm_w B M)[k]? = (M[k]?).map (fun c => (B.1 + k, mm_e B c)) := by
  unfold mm_w
  rw [List.getElem?_mapIdx]
theorem mm_wg1 {B : mm_B} {M : mm_H} {k : Nat} {c : mm_C} (h : M[k]? = some c) : (mm_w B M)[k]? = some (B.1 + k, mm_e B c) := by
  rw [mm_wg, h]; rfl
theorem mm_wset (B : mm_B) (M : mm_H) (k : Nat) (c : mm_C) : (mm_w B M).set k (B.1 + k, mm_e B c) = mm_w B (M.set k c) := by
  apply List.ext_getElem?
  intro j
  rw [mm_wg, List.getElem?_set, List.getElem?_set]
  have hl : (mm_w B M).length = M.length := by unfold mm_w; exact List.length_mapIdx
  by_cases h : k = j
  · subst h
    rw [if_pos rfl, if_pos rfl, hl]
    split <;> rfl
  · rw [if_neg h, if_neg h, mm_wg]
theorem mm_wpush (B : mm_B) (M : mm_H) (c : mm_C) : mm_w B M ++ [(B.1 + M.length, mm_e B c)] = mm_w B (M ++ [c]) := by
  unfold mm_w
  rw [List.mapIdx_append]
  simp
def mm_A (B : mm_B) : Nat → Prop := fun q => B.1 ≤ q
theorem mm_D (B : mm_B) (M : mm_H) : va_D (mm_A B) (mm_w B M) := by
  have key : ∀ (k : Nat) (q : Nat × va_E), (mm_w B M)[k]? = some q → q.1 = B.1 + k := by
    intro k q h
    rw [mm_wg] at h
    cases hm : M[k]? with
    | none => rw [hm] at h; cases h
    | some c => rw [hm] at h; cases h; rfl
  refine ⟨fun i j p q hi hj h => ?_, fun k q hk => ?_⟩
  · rw [key i p hi, key j q hj] at h; omega
  · show B.1 ≤ q.1
    rw [key k q hk]; omega
theorem mm_glt {M : mm_H} {a : Nat} {c : mm_C} (h : mm_g M a = some c) : 100 ≤ a ∧ M[a - 100]? = some c := by
  unfold mm_g at h
  cases hc : Nat.ble 100 a with
  | false => rw [hc] at h; cases h
  | true =>
    rw [hc] at h
    refine ⟨Nat.le_of_ble_eq_true hc, ?_⟩
    rw [← mm_n_eq]; exact h
theorem mm_gat {B : mm_B} {M : mm_H} {a : Nat} {c : mm_C} (h : mm_g M a = some c) : (mm_w B M)[a - 100]? = some (mm_a B a, mm_e B c) := by
  obtain ⟨h1, h2⟩ := mm_glt h
  rw [mm_wg1 h2]
  unfold mm_a
  rw [if_neg (by omega)]
theorem mm_gset {B : mm_B} {M : mm_H} {a : Nat} {c : mm_C} (h1 : 100 ≤ a) : (mm_w B M).set (a - 100) (mm_a B a, mm_e B c) = mm_w B (mm_s M (a - 100) c) := by
  rw [mm_s_eq, ← mm_wset]
  unfold mm_a
  rw [if_neg (by omega)]
/-- words that hold at every later state -/
def mm_gw (w : Cond) : Bool := match w with
  | .methodLinkNest .. => true
  | .castable .. => true
  | .arrayClass _ => false
  | w => w.onTables && w.keeps
def mm_T (U : State) : Prop := ∀ w ∈ lw_tbl, mm_gw w = true → w.before #[] U = true
theorem mm_gon {w : Cond} (h : mm_gw w = true) : w.onTables = true := by
  cases w <;> first | rfl | (simp [mm_gw] at h; done) | (simp only [mm_gw, Bool.and_eq_true] at h; exact h.1)
theorem mm_T.use {s : State} (h : mm_T s) {w : Cond} (hw : w ∈ lw_tbl) (hg : mm_gw w = true) (args : Array Value) : w.before args s = true := va_tabs (mm_gon hg) rfl (h w hw hg)
theorem mm_T.go {s U : State} (h : mm_T s) (hW : s.WarmedH U.vm) : mm_T U := by
  intro w hw hg
  have h0 := h w hw hg
  cases w <;> first
    | exact va_Nw.warmM hW h0
    | exact va_Nw.warmC hW h0
    | (simp [mm_gw] at hg; done)
    | exact word_at hW (Or.inl hg) h0
def mm_tys (B : mm_B) : List (ClassId × FieldType) := [(B.2.2.2.1, .int), (B.2.2.2.2, .object "SovereignInBarrow$Minister")]
def mm_Sg (B : mm_B) (U : State) : Prop := vk_S 6 mm_sln mm_byt (fun i => B.2.1 (1 + i)) (fun i => B.2.1 (11 + i)) (mm_A B) U U.heap ∧ (∀ k, k < 6 → vk_R "SovereignInBarrow$Telling" (mm_six k) (mm_stx k) (B.2.1 (1 + k)) U) ∧ va_Z "java/lang/String" "COMPACT_STRINGS" "Z" (.int 1) (mm_A B) U U.heap ∧ va_Z "jdk/internal/util/Preconditions" "SIOOBE_FORMATTER" "Ljava/util/function/BiFunction;" (mm_fv B) (mm_A B) U U.heap
theorem mm_Sg.go {B : mm_B} {s U : State} (h : mm_Sg B s) (hW : s.WarmedH U.vm) (hk : ∀ q, q < B.1 → U.heap[q]? = s.heap[q]?) : mm_Sg B U := by
  have hq : ∀ a : Nat, a < s.heap.size → ¬ mm_A B a → U.heap[a]? = s.heap[a]? := fun a _ h2 => hk a (Nat.not_le.mp h2)
  obtain ⟨h1, h2, h3, h4⟩ := h
  exact ⟨(h1.moved hW.alike).kept hq, fun k hk => (h2 k hk).warm hW, (va_Z.moved hW.alike h3).kept hq, (va_Z.moved hW.alike h4).kept hq⟩
def mm_G (B : mm_B) (X : List Int32) (U : State) : Prop := mm_T U ∧ va_K B.2.2.1 vwCl (mm_tys B) U ∧ (Cond.arrayClass .int).before #[] U = true ∧ va_AO "SovereignInBarrow$Minister" U ∧ va_X (B.2.1 0) X.length (fun j => X.getD j 0) U U.heap ∧ B.2.1 0 < B.1 ∧ B.1 ≤ U.heap.size ∧ mm_Sg B U
theorem mm_G.go {B : mm_B} {X : List Int32} {s U : State} (h : mm_G B X s) (hW : s.WarmedH U.vm) (hk : ∀ q, q < B.1 → U.heap[q]? = s.heap[q]?) (hz : B.1 ≤ U.heap.size) : mm_G B X U := by
  obtain ⟨h1, h2, h3, h4, h5, h6, h7, h8⟩ := h
  exact ⟨h1.go hW, va_K.moved hW.alike h2, word_at hW (Or.inr ⟨_, rfl⟩) h3, h4.moved hW.alike, (h5.moved hW.alike).kept (hk _ h6), h6, hz, h8.go hW hk⟩
/-- locals -/
def mm_asc (B : mm_B) (ls : mm_L) : List (Nat × Value) := (List.range ls.length).filterMap (fun k => match ls[k]? with
  | some (some v) => some (k, mm_v B v)
  | _ => none)
theorem mm_asc_mem {B : mm_B} {ls : mm_L} {q : Nat × Value} : q ∈ mm_asc B ls ↔ ∃ v, ls[q.1]? = some (some v) ∧ q.2 = mm_v B v := by
  unfold mm_asc
  rw [List.mem_filterMap]
  constructor
  · rintro ⟨k, -, h⟩
    cases hk : ls[k]? with
    | none => rw [hk] at h; cases h
    | some o =>
      cases o with
      | none => rw [hk] at h; cases h
      | some v => rw [hk] at h; cases h; exact ⟨v, hk, rfl⟩
  · rintro ⟨v, h1, h2⟩
    refine ⟨q.1, List.mem_range.mpr (List.getElem?_eq_some_iff.mp h1).1, ?_⟩
    rw [h1]
    show some (q.1, mm_v B v) = some q
    rw [← h2]
def mm_lo (B : mm_B) (Ls : Array Slot) (ls : mm_L) : Prop := lv_has Ls ls.length (mm_asc B ls)
theorem mm_lo.at {B : mm_B} {Ls : Array Slot} {ls : mm_L} (h : mm_lo B Ls ls) {i : Nat} {v : Value} (hi : mm_ld ls i = some v) : Ls[i]? = some (.val (mm_v B v)) := by
  have h1 : ls[i]? = some (some v) := by
    unfold mm_ld at hi
    rw [mm_n_eq] at hi
    cases hk : ls[i]? with
    | none => rw [hk] at hi; cases hi
    | some o =>
      cases o with
      | none => rw [hk] at hi; cases hi
      | some w => rw [hk] at hi; cases hi; rfl
  exact h.2.2 (i, mm_v B v) (mm_asc_mem.mpr ⟨v, h1, rfl⟩)
theorem mm_cl_len (ls : mm_L) (i : Nat) : (mm_cl ls i).length = ls.length := by
  unfold mm_cl
  split
  · rfl
  · split
    · cases Nat.beq _ 2 <;> simp [mm_s_eq]
    · rfl
theorem mm_w1_len (ls : mm_L) (i : Nat) (v : Value) : (mm_w1 ls i v).length = ls.length := by
  unfold mm_w1; rw [mm_s_eq, List.length_set, mm_cl_len]
theorem mm_w2_len (ls : mm_L) (i : Nat) (v : Value) : (mm_w2 ls i v).length = ls.length := by
  unfold mm_w2; rw [mm_s_eq, mm_s_eq, List.length_set, List.length_set, mm_cl_len]
theorem mm_cl_get {ls : mm_L} {i k : Nat} {v : Value} (h : (mm_cl ls i)[k]? = some (some v)) : ls[k]? = some (some v) ∧ ¬ (k + 1 = i ∧ v.category = 2) := by
  unfold mm_cl at h
  split at h
  · exact ⟨h, by omega⟩
  · rename_i j
    split at h
    · rename_i w hw
      rw [mm_n_eq] at hw
      cases hb : Nat.beq w.category 2 with
      | false =>
        rw [hb] at h
        refine ⟨h, fun z => ?_⟩
        have e : k = j := by omega
        subst e
        have h' : ls[k]? = some (some v) := h
        rw [hw] at h'
        cases h'
        rw [z.2] at hb
        cases hb
      | true =>
        rw [hb] at h
        have h' : (mm_s ls j none)[k]? = some (some v) := h
        rw [mm_s_eq, List.getElem?_set] at h'
        by_cases e : j = k
        · rw [if_pos e] at h'
          split at h' <;> cases h'
        · rw [if_neg e] at h'
          exact ⟨h', fun z => e (by omega)⟩
    · rename_i hno
      refine ⟨h, fun z => ?_⟩
      have e : k = j := by omega
      subst e
      exact hno v (by rw [mm_n_eq]; exact h)
theorem mm_lo.sub {B : mm_B} {Ls : Array Slot} {n : Nat} {ls : mm_L} {l : List (Nat × Value)} (h : lv_has Ls n l) (hn : ls.length = n) (hm : ∀ q ∈ mm_asc B ls, q ∈ l) : mm_lo B Ls ls := by
  unfold mm_lo
  rw [hn]
  exact ⟨h.1, h.2.1, fun q hq => h.2.2 q (hm q hq)⟩
theorem mm_lo.w1 {B : mm_B} {Ls : Array Slot} {ls : mm_L} {i : Nat} {v : Value} (h : lv_has Ls ls.length ((i, mm_v B v) :: (mm_asc B ls).filter (fun q => !(q.1 == i) && !(q.1 + 1 == i && q.2.category == 2)))) : mm_lo B Ls (mm_w1 ls i v) := by
  refine mm_lo.sub h (mm_w1_len ls i v) ?_
  intro q hq
  obtain ⟨w, h1, h2⟩ := mm_asc_mem.mp hq
  unfold mm_w1 at h1
  rw [mm_s_eq, List.getElem?_set] at h1
  by_cases e : i = q.1
  · rw [if_pos e] at h1
    split at h1
    · cases h1
      rw [e, ← h2]
      exact List.mem_cons_self
    · cases h1
  · rw [if_neg e] at h1
    obtain ⟨g1, g2⟩ := mm_cl_get h1
    refine List.mem_cons_of_mem _ (List.mem_filter.mpr ⟨mm_asc_mem.mpr ⟨w, g1, h2⟩, ?_⟩)
    have e1 : ¬ q.1 = i := fun z => e z.symm
    have e2 : ¬ (q.1 + 1 = i ∧ q.2.category = 2) := by rw [h2, mm_vc]; exact g2
    simp only [Bool.and_eq_true, Bool.not_eq_true', beq_eq_false_iff_ne, ne_eq, Bool.and_eq_false_iff]
    refine ⟨e1, ?_⟩
    by_cases z : q.1 + 1 = i
    · exact Or.inr (fun z2 => e2 ⟨z, z2⟩)
    · exact Or.inl z
theorem mm_lo.w2 {B : mm_B} {Ls : Array Slot} {ls : mm_L} {i : Nat} {v : Value} (h : lv_has Ls ls.length ((i, mm_v B v) :: (mm_asc B ls).filter (fun q => !(q.1 == i) && (!(q.1 == i + 1) && !(q.1 + 1 == i && q.2.category == 2))))) : mm_lo B Ls (mm_w2 ls i v) := by
  refine mm_lo.sub h (mm_w2_len ls i v) ?_
  intro q hq
  obtain ⟨w, h1, h2⟩ := mm_asc_mem.mp hq
  unfold mm_w2 at h1
  rw [mm_s_eq, mm_s_eq, List.getElem?_set] at h1
  by_cases e0 : i + 1 = q.1
  · rw [if_pos e0] at h1
    split at h1 <;> cases h1
  · rw [if_neg e0, List.getElem?_set] at h1
    by_cases e : i = q.1
    · rw [if_pos e] at h1
      split at h1
      · cases h1
        rw [e, ← h2]
        exact List.mem_cons_self
      · cases h1
    · rw [if_neg e] at h1
      obtain ⟨g1, g2⟩ := mm_cl_get h1
      refine List.mem_cons_of_mem _ (List.mem_filter.mpr ⟨mm_asc_mem.mpr ⟨w, g1, h2⟩, ?_⟩)
      have e1 : ¬ q.1 = i := fun z => e z.symm
      have e3 : ¬ q.1 = i + 1 := fun z => e0 z.symm
      have e2 : ¬ (q.1 + 1 = i ∧ q.2.category = 2) := by rw [h2, mm_vc]; exact g2
      simp only [Bool.and_eq_true, Bool.not_eq_true', beq_eq_false_iff_ne, ne_eq, Bool.and_eq_false_iff]
      refine ⟨e1, e3, ?_⟩
      by_cases z : q.1 + 1 = i
      · exact Or.inr (fun z2 => e2 ⟨z, z2⟩)
      · exact Or.inl z
/-- a method's start -/
theorem mm_sl_map (B : mm_B) : ∀ vs : List Value, lg_sl (vs.map (mm_v B)) = (mm_sl vs).map (fun o => match o with | some v => Slot.val (mm_v B v) | none => Slot.second)
  | [] => rfl
  | v :: vs => by
    have ih := mm_sl_map B vs
    unfold lg_sl mm_sl at ih ⊢
    rw [List.map_cons, List.flatMap_cons, List.flatMap_cons, ih, mm_vc, List.map_append]
    congr 1
    split <;> rfl
theorem mm_sl_len (B : mm_B) (vs : List Value) : (lg_sl (vs.map (mm_v B))).length = (mm_sl vs).length := by rw [mm_sl_map, List.length_map]
theorem mm_lv_args (B : mm_B) : ∀ (vs : List Value) (i k : Nat) (v : Value), (mm_sl vs)[k]? = some (some v) → (i + k, mm_v B v) ∈ lv_args i (vs.map (mm_v B))
  | [], i, k, v, h => by simp [mm_sl] at h
  | w :: vs, i, k, v, h => by
    rw [List.map_cons]
    show _ ∈ (i, mm_v B w) :: lv_args (if (mm_v B w).category = 2 then i + 2 else i + 1) (vs.map (mm_v B))
    rw [mm_vc]
    have hs : mm_sl (w :: vs) = (if w.category = 2 then [some w, none] else [some w]) ++ mm_sl vs := by unfold mm_sl; rw [List.flatMap_cons]
    rw [hs] at h
    by_cases hc : w.category = 2
    · rw [if_pos hc] at h ⊢
      match k, h with
      | 0, h => cases h; exact List.mem_cons_self
      | 1, h => cases h
      | k + 2, h =>
        have := mm_lv_args B vs (i + 2) k v h
        rw [show i + (k + 2) = i + 2 + k by omega]
        exact List.mem_cons_of_mem _ this
    · rw [if_neg hc] at h ⊢
      match k, h with
      | 0, h => cases h; exact List.mem_cons_self
      | k + 1, h =>
        have := mm_lv_args B vs (i + 1) k v h
        rw [show i + (k + 1) = i + 1 + k by omega]
        exact List.mem_cons_of_mem _ this
theorem mm_en_len {n : Nat} {vs : List Value} (h : (mm_sl vs).length ≤ n) : (mm_en n vs).length = n := by
  unfold mm_en
  rw [List.length_append, List.length_replicate]
  omega
theorem mm_en_lo (B : mm_B) {n : Nat} {vs : List Value} (h : (mm_sl vs).length ≤ n) : mm_lo B ((lg_sl (vs.map (mm_v B)) ++ List.replicate (n - (lg_sl (vs.map (mm_v B))).length) Slot.unset).toArray) (mm_en n vs) := by
  have h0 := lv_entry (vs.map (mm_v B)) (n := n) (by rw [mm_sl_len]; exact h)
  refine mm_lo.sub h0 (mm_en_len h) ?_
  intro q hq
  obtain ⟨v, h1, h2⟩ := mm_asc_mem.mp hq
  unfold mm_en at h1
  rw [List.getElem?_append] at h1
  split at h1
  · have := mm_lv_args B vs 0 q.1 v h1
    rw [Nat.zero_add, ← h2] at this
    exact this
  · rw [List.getElem?_replicate] at h1
    split at h1 <;> cases h1
