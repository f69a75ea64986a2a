section MST
variable {p : Program} {l : Launch} {e : Env} {R : Room} {s : State} {m : MethodId} {args : Array Value} {below : List Frame} {meth : Method} {c : Code} {H : Heap} {locs : List Loc} {cells slots : Nat} {Q : State → Prop}
theorem mm_hsz {B : mm_B} {M : mm_H} (hP : va_P B.2.2.1 vwCl (mm_w B M) H) (hS : va_S (mm_A B) s.heap H locs) (hBs : B.1 ≤ s.heap.size) (hz : H.size ≤ s.heap.size + cells) (hsz : s.heap.size + cells = B.1 + M.length) : H.size = B.1 + M.length := by
  have h1 := hS.1
  rcases Nat.eq_zero_or_pos M.length with h | h
  · omega
  · obtain ⟨c, hc⟩ : ∃ c, M[M.length - 1]? = some c := ⟨_, List.getElem?_eq_getElem (by omega)⟩
    have h2 : B.1 + (M.length - 1) < H.size := (hP _ _ (mm_wg1 (B := B) hc)).lt
    omega
theorem mm_blind (B : mm_B) (X : List Int32) (av : List Value) (M : mm_H) : FrameBlind (mm_Pc B X av M) := by
  intro a U g mk h
  obtain ⟨h1, h2, h3, h4⟩ := h
  exact ⟨h1, mm_G.go (U := U.calling g mk a) h2 (State.WarmedH.refl U) (fun _ _ => rfl) h2.2.2.2.2.2.2.1, h3, h4⟩
theorem mm_pre {B : mm_B} {X : List Int32} {av : List Value} {M : mm_H} (hG : mm_G B X s) (hP : va_P B.2.2.1 vwCl (mm_w B M) H) (hS : va_S (mm_A B) s.heap H locs) (hz : H.size = B.1 + M.length) : ∀ U : State, U.heap = H → s.WarmedH U.vm → mm_Pc B X av M (av.map (mm_v B)).toArray U := by
  intro U hU hW
  have hBs := hG.2.2.2.2.2.2.1
  refine ⟨rfl, hG.go hW (fun q hq => ?_) (by rw [hU]; omega), by rw [hU]; exact hP, by rw [hU]; exact hz⟩
  rw [hU]
  exact hS.2.1 q (Nat.lt_of_lt_of_le hq hBs) (Nat.not_le.mpr hq)
theorem mm_cr {B : mm_B} {r : Option Value} {M1 : mm_H} {mc ms pc : Nat} {ls : Array Slot} {st0 rest : List Value} {a : Array Value} (hr : va_Run p l e R s m args below meth c H locs cells slots mc ms (F0 m pc ls st0) rest (mm_Qc B mc r M1 a) (mm_A B)) (hS : va_S (mm_A B) s.heap H locs)
    (kk : ∀ (H1 : Heap) (locs1 : List Loc), H.size + mc = B.1 + M1.length → va_P B.2.2.1 vwCl (mm_w B M1) H1 → va_S (mm_A B) s.heap H1 locs1 → W p l e R s m args below meth c H1 locs1 (cells + mc) (slots + ms) Q (F0 m (pc + 3) ls (r.toList.map (mm_v B) ++ rest))) : W p l e R s m args below meth c H locs cells slots Q (F0 m pc ls st0) := by
  intro T hT X
  obtain ⟨v, st₀, t, T', L, h0, X', hL, e1, e2, ⟨hv, hP1, ⟨hz, hk⟩, hm⟩, st⟩ := hr T hT X
  have hv2 : v = r.map (mm_v B) := Outcome.returned.inj hv
  rw [h0] at hz hk hm
  have e3 : v.toList = r.toList.map (mm_v B) := by rw [hv2]; cases r <;> rfl
  obtain ⟨t2, a1, b1⟩ := kk T'.heap (locs ++ L) hm (by rw [e1]; exact hP1) ⟨Nat.le_trans hS.1 (by rw [e1]; exact hz), fun q h1 h2 => by rw [e1, hk q (Nat.lt_of_lt_of_le h1 hS.1) h2]; exact hS.2.1 q h1 h2, fun q hq => by
      rcases List.mem_append.mp hq with h | h
      · exact hS.2.2 q h
      · exact hL q h⟩ T' rfl X'
  refine ⟨t2, st t2 ?_, b1⟩
  rw [← e3] at a1
  exact a1
theorem mm_cws {z y : Nat} (h : mm_call z y = true) : 0 < y ∧ y < mm_NM ∧ (mm_rm y).frames + 1 ≤ (mm_rm z).frames ∧ 8 + ((mm_i y).1 + 11) + (mm_rm y).locals ≤ (mm_rm z).locals := by
  unfold mm_call at h
  simp only [Bool.and_eq_true] at h
  exact ⟨Nat.le_of_ble_eq_true h.1, mm_blt h.2.1, Nat.le_of_ble_eq_true h.2.2.1, Nat.le_of_ble_eq_true h.2.2.2⟩
theorem mm_cwd {s : State} {y : Nat} (hT : mm_T s) (hc : Cond.code (mm_y y) (mm_by y) (mm_i y).1 (mm_rt y) ∈ lw_tbl) : ∀ w ∈ [Cond.code (mm_y y) (mm_by y) (mm_i y).1 (mm_rt y)], ∀ (a' : Array Value) (U : State), s.WarmedH U.vm → w.before a' U = true := by
  intro w hw a' U hW
  have e := List.mem_singleton.mp hw
  subst e
  exact (hT.go hW).use hc rfl a'
theorem mm_invs {ih : mm_F} {z pc bc bs y : Nat} {ls : mm_L} {st : List Value} {M : mm_H} {o : Option Value × mm_H} (h : mm_inv ih z pc ls st M bc bs y = some o) : ∃ (r1 : Option Value) (M2 : mm_H), (mm_i y).2.1 ≤ st.length ∧ mm_cat (st.drop (mm_i y).2.1) ≤ 8 ∧ mm_mc y ≤ bc ∧ mm_ms y ≤ bs ∧ (mm_sl (st.take (mm_i y).2.1).reverse).length ≤ (mm_i y).1 ∧
    ih y 0 (mm_en (mm_i y).1 (st.take (mm_i y).2.1).reverse) [] M (mm_mc y) (mm_ms y) = some (r1, M2) ∧ ih z (pc + 3) ls (r1.toList ++ st.drop (mm_i y).2.1) M2 (bc - mm_mc y) (bs - mm_ms y) = some o := by
  unfold mm_inv at h
  cases hc : (Nat.ble (mm_i y).2.1 st.length && (Nat.ble (mm_cat (st.drop (mm_i y).2.1)) 8 && (Nat.ble (mm_i y).2.2.2.1 bc && (Nat.ble (mm_i y).2.2.2.2 bs && Nat.ble (mm_sl (st.take (mm_i y).2.1).reverse).length (mm_i y).1)))) <;> rw [hc] at h
  · cases h
  · simp only [Bool.and_eq_true] at hc
    simp only [cond_true] at h
    split at h
    · rename_i r1 M2 he
      exact ⟨r1, M2, Nat.le_of_ble_eq_true hc.1, Nat.le_of_ble_eq_true hc.2.1, Nat.le_of_ble_eq_true hc.2.2.1, Nat.le_of_ble_eq_true hc.2.2.2.1, Nat.le_of_ble_eq_true hc.2.2.2.2, he, h⟩
    · cases h
/-- behind any call of a method of ours: what is left to show is the machine's run of it -/
theorem mm_kc {B : mm_B} {X : List Int32} {n z pc bc bs y : Nat} {ls : mm_L} {st : List Value} {M M1 : mm_H} {r : Option Value} {Ls : Array Slot} (hSP : mm_SP B X l n) (C : mm_At B X p s m meth c z) (hRet : mm_Ret B p l e s m args below meth c Q z r M1) (hlen : ls.length = (mm_i z).1) (hlo : mm_lo B Ls ls) (hP : va_P B.2.2.1 vwCl (mm_w B M) H) (hS : va_S (mm_A B) s.heap H locs) (hbc : mm_mc z = cells + bc) (hbs : mm_ms z = slots + bs) (hsz : s.heap.size + cells = B.1 + M.length)
    (h : mm_inv (mm_x (some X) n) z pc ls st M bc bs y = some (r, M1)) (hcl : mm_call z y = true)
    (hrun : ∀ (r1 : Option Value) (M2 : mm_H), H.size = B.1 + M.length → (mm_i y).2.1 ≤ st.length → mm_cat (st.drop (mm_i y).2.1) ≤ 8 → mm_mc y ≤ bc → mm_ms y ≤ bs → Met l (mm_y y) [Cond.code (mm_y y) (mm_by y) (mm_i y).1 (mm_rt y)] (mm_rm y) (mm_Pc B X (st.take (mm_i y).2.1).reverse M) (mm_Qc B (mm_mc y) r1 M2) (mm_mc y) (mm_ms y) (mm_A B) →
      va_Run p l e (mm_rm z) s m args below meth c H locs cells slots (mm_mc y) (mm_ms y) (F0 m pc Ls (st.map (mm_v B))) ((st.drop (mm_i y).2.1).map (mm_v B)) (mm_Qc B (mm_mc y) r1 M2 (((st.take (mm_i y).2.1).reverse).map (mm_v B)).toArray) (mm_A B)) :
    W p l e (mm_rm z) s m args below meth c H locs cells slots Q (F0 m pc Ls (st.map (mm_v B))) := by
  obtain ⟨r1, M2, h1, h2, h3, h4, h5, h6, h7⟩ := mm_invs h
  obtain ⟨g1, g2, g3, g4⟩ := mm_cws hcl
  refine mm_sized (fun hz => ?_)
  have hHz := mm_hsz hP hS C.2.2.2.2.2.2.2.2.2.2.2.2.2.1 hz hsz
  refine mm_cr (hrun r1 M2 hHz h1 h2 h3 h4 (mm_met hSP g1 g2 h5 h6)) hS (fun H1 locs1 hm hP1 hS1 => ?_)
  have := hSP z (pc + 3) ls _ M2 _ _ r M1 h7 p e s m args below meth c Q C hRet H1 locs1 Ls (cells + mm_mc y) (slots + mm_ms y) hlen hlo hP1 hS1 (by omega) (by omega) (by omega)
  rw [List.map_append] at this
  exact this
theorem mm_k1 {B : mm_B} {X : List Int32} {n z pc bc bs : Nat} {i : Instr} {ex : List (Nat × Nat)} {ls : mm_L} {st : List Value} {M M1 : mm_H} {r : Option Value} {Ls : Array Slot} (hSP : mm_SP B X l n) (C : mm_At B X p s m meth c z) (hRet : mm_Ret B p l e s m args below meth c Q z r M1) (hlen : ls.length = (mm_i z).1) (hlo : mm_lo B Ls ls) (hP : va_P B.2.2.1 vwCl (mm_w B M) H) (hS : va_S (mm_A B) s.heap H locs) (hbc : mm_mc z = cells + bc) (hbs : mm_ms z = slots + bs) (hsz : s.heap.size + cells = B.1 + M.length)
    (K : mm_K z pc (i, ex)) (h : (match mm_1 i ex pc ls st with
      | some (pc1, ls1, st1) => mm_x (some X) n z pc1 ls1 st1 M bc bs
      | none => none) = some (r, M1)) :
    W p l e (mm_rm z) s m args below meth c H locs cells slots Q (F0 m pc Ls (st.map (mm_v B))) := by
  split at h
  · rename_i pc1 ls1 st1 h1
    exact mm_s1 B (X := X) C.1 C.2.1 C.2.2.2.2.1 C.2.2.2.2.2.2.2 h1 K hlo (fun Ls1 hl1 hlo1 => hSP z pc1 ls1 st1 M bc bs r M1 h p e s m args below meth c Q C hRet H locs Ls1 cells slots (hl1.trans hlen) hlo1 hP hS hbc hbs hsz)
  · cases h
theorem mm_k2 {B : mm_B} {X : List Int32} (hCl : mm_Cl B) {n z pc bc bs : Nat} {i : Instr} {ex : List (Nat × Nat)} {ls : mm_L} {st : List Value} {M M1 : mm_H} {r : Option Value} {Ls : Array Slot} (hSP : mm_SP B X l n) (C : mm_At B X p s m meth c z) (hRet : mm_Ret B p l e s m args below meth c Q z r M1) (hlen : ls.length = (mm_i z).1) (hlo : mm_lo B Ls ls) (hP : va_P B.2.2.1 vwCl (mm_w B M) H) (hS : va_S (mm_A B) s.heap H locs) (hbc : mm_mc z = cells + bc) (hbs : mm_ms z = slots + bs) (hsz : s.heap.size + cells = B.1 + M.length)
    (K : mm_K z pc (i, ex)) (h : (match mm_2 (some X) i ex pc ls st M bc bs with
      | some (pc1, ls1, st1, M2, bc1, bs1) => mm_x (some X) n z pc1 ls1 st1 M2 bc1 bs1
      | none => none) = some (r, M1)) :
    W p l e (mm_rm z) s m args below meth c H locs cells slots Q (F0 m pc Ls (st.map (mm_v B))) := by
  split at h
  · rename_i pc1 ls1 st1 M2 bc1 bs1 h1
    exact mm_s2 B (X := X) hCl C.1 C.2.1 C.2.2.2.2.1 C.2.2.2.2.2.2.1 C.2.2.2.2.2.2.2 h1 K hP hS (show mm_mc z = _ from hbc) (show mm_ms z = _ from hbs) hsz (fun H1 locs1 cells1 slots1 hl1 hP1 hS1 hc1 hs1 hz1 => hSP z pc1 ls1 st1 M2 bc1 bs1 r M1 h p e s m args below meth c Q C hRet H1 locs1 Ls cells1 slots1 (by rw [hl1]; exact hlen) (by rw [hl1]; exact hlo) hP1 hS1 hc1 hs1 hz1)
  · cases h
end MST
theorem mm_take {n : Nat} {st : List Value} (h : n ≤ st.length) (B : mm_B) : st.map (mm_v B) = ((st.take n).reverse.map (mm_v B)).reverse ++ (st.drop n).map (mm_v B) := by
  rw [← List.map_reverse, List.reverse_reverse, ← List.map_append, List.take_append_drop]
theorem mm_takeR {n : Nat} {st : List Value} {a : Nat} (h : n ≤ st.length) (hn : 0 < n) (ha : mm_n st (n - 1) = some (.ref a)) : (st.take n).reverse = .ref a :: (st.take (n - 1)).reverse := by
  rw [mm_n_eq] at ha
  obtain ⟨k, rfl⟩ : ∃ k, n = k + 1 := ⟨n - 1, by omega⟩
  rw [Nat.add_sub_cancel] at ha ⊢
  rw [List.take_succ, ha, List.reverse_append]
  rfl
