theorem k_i2c_tt : (List.range 256).all (fun c => decide (((nI c).toUInt32 % 65536).toInt32 = nI c)) = true := by decide +kernel
theorem k_i2c_t {P : Prop} [Decidable P] (h : decide P = true) : P := of_decide_eq_true h
/-! ===== statements in their row ===== -/
def mk_Mn (c : cC) (A1 A2 A3 A4 A5 A6 : List Int32) (b1 b2 b3 b4 b5 b6 : Int32) (m k : kG) (r : cR) : mm_H := [.inl (9, [.ref 117, .ref 124, .ref 131, .int c.1, .ref 101, .ref 104, .int c.2.2.2.2.2.2.1, .ref 105, .ref 106, .ref 107, .ref 108, .ref 109]), .inl (8, [.ref 102, .int c.2.2.1, .ref 103, .int c.2.2.2.2.1]), .inr (.inl c.2.1), .inr (.inl c.2.2.2.1), .inr (.inl c.2.2.2.2.2.1), .inr (.inl c.2.2.2.2.2.2.2.1), .inl (6, [.int c.2.2.2.2.2.2.2.2.1, .int c.2.2.2.2.2.2.2.2.2.1]), .inr (.inl c.2.2.2.2.2.2.2.2.2.2.1), .inr (.inl c.2.2.2.2.2.2.2.2.2.2.2.1), .inr (.inl c.2.2.2.2.2.2.2.2.2.2.2.2), .inr (.inr [.ref 111, .ref 112, .ref 113, .ref 114, .ref 115, .ref 116]), .inl (3, []), .inl (2, []), .inl (7, []), .inl (0, []), .inl (5, []), .inl (4, []), .inl (1, [.ref 110, .ref 118, .ref 119, .ref 120, .ref 121, .ref 122, .ref 123, .int b1, .int b2, .int b3, .int b4, .int b5, .int b6]), .inr (.inl A1), .inr (.inl A2), .inr (.inl A3), .inr (.inl A4), .inr (.inl A5), .inr (.inl A6), .inl (1, [.ref 110, .ref 125, .ref 126, .ref 127, .ref 128, .ref 129, .ref 130, .int m.2.2.2.2.2.2.1, .int m.2.2.2.2.2.2.2.1, .int m.2.2.2.2.2.2.2.2.1, .int m.2.2.2.2.2.2.2.2.2.1, .int m.2.2.2.2.2.2.2.2.2.2.1, .int m.2.2.2.2.2.2.2.2.2.2.2]), .inr (.inl m.1), .inr (.inl m.2.1), .inr (.inl m.2.2.1), .inr (.inl m.2.2.2.1), .inr (.inl m.2.2.2.2.1), .inr (.inl m.2.2.2.2.2.1), .inl (1, [.ref 110, .ref 132, .ref 133, .ref 134, .ref 135, .ref 136, .ref 137, .int k.2.2.2.2.2.2.1, .int k.2.2.2.2.2.2.2.1, .int k.2.2.2.2.2.2.2.2.1, .int k.2.2.2.2.2.2.2.2.2.1, .int k.2.2.2.2.2.2.2.2.2.2.1, .int k.2.2.2.2.2.2.2.2.2.2.2]), .inr (.inl k.1), .inr (.inl k.2.1), .inr (.inl k.2.2.1), .inr (.inl k.2.2.2.1), .inr (.inl k.2.2.2.2.1), .inr (.inl k.2.2.2.2.2.1), .inl (10, [.ref 139, .ref 140, .ref 141, .ref 142, .int r.2.2.2.2.1, .ref 143, .ref 144, .ref 145, .int r.2.2.2.2.2.2.2.2.1, .int r.2.2.2.2.2.2.2.2.2.1, .int r.2.2.2.2.2.2.2.2.2.2.1, .ref 146, .ref 147, .int r.2.2.2.2.2.2.2.2.2.2.2.2.2]), .inr (.inl r.1), .inr (.inl r.2.1), .inr (.inl r.2.2.1), .inr (.inl r.2.2.2.1), .inr (.inl r.2.2.2.2.2.1), .inr (.inl r.2.2.2.2.2.2.1), .inr (.inl r.2.2.2.2.2.2.2.1), .inr (.inl r.2.2.2.2.2.2.2.2.2.2.2.1), .inr (.inl r.2.2.2.2.2.2.2.2.2.2.2.2.1)]
theorem mk_Nk (c : cC) (he ke ki fi fa or : List Nat) (mi a g l w s : Nat) (m k : kG) (r : cR) : mk_Mn c (he.map nI) (ke.map nI) (ki.map nI) (fi.map nI) (fa.map nI) (or.map nI) (nI mi) (nI a) (nI g) (nI l) (nI w) (nI s) m k r = mk_M c (kr (he, ke, ki, fi, fa, or, mi, a, g, l, w, s)) m k r := rfl
theorem kg_okc {le : List Nat} {p c : Nat} (hc : kg le p = c) (h : p < le.length) : (le.map nI)[p]? = some (nI c) := by
  rw [← hc]
  exact kg_ok h
theorem k_i2c {c : Nat} (h : c < 256) : ((nI c).toUInt32 % 65536).toInt32 = nI c := k_i2c_t (k_all k_i2c_tt h)
theorem kst_f {le : List Nat} {ln p : Nat} (h : kmis le ln p = none) : p + 2 < ln ∧ 48 ≤ kg le (p + 1) ∧ 48 ≤ kg le (p + 2) := by
  rcases kshr_c (kg le p) with q | q | q | q | q
  · have := kok_1 h q
    omega
  · obtain ⟨a, ⟨k, hk⟩, b⟩ := kok_2 h q
    have := kkind_le hk
    omega
  · have := kok_3 h q
    omega
  · have := kok_4 h q
    omega
  · rw [kmis_5 (kmis_lt h) q] at h
    cases h
theorem knum_lt {le : List Nat} {p : Nat} (h1 : kg le (p + 1) < 256) (h2 : kg le (p + 2) < 256) : knum le p < 3000 := by
  unfold knum
  omega
def kks (le : List Nat) (K : kK) : Nat → kK
  | 0 => K
  | i + 1 => kapp le (kpos le i) (kks le K i)
def kL (le : List Nat) (ln n : Nat) : Prop := ∀ i, i < n → kmis le ln (kpos le i) = none ∧ kpos le (i + 1) < ln
theorem kpos_s {le : List Nat} {ln i : Nat} (h : kmis le ln (kpos le i) = none) : kpos le i + 2 < kpos le (i + 1) := (knx_le h).2
theorem kpos_le {le : List Nat} {ln n : Nat} (h : kL le ln n) : ∀ i, i ≤ n → i ≤ kpos le i ∧ (i = 0 ∨ kpos le i < ln) ∧ kpos le i ≤ ln := by
  intro i
  induction i with
  | zero => exact fun _ => ⟨Nat.zero_le _, Or.inl rfl, Nat.zero_le _⟩
  | succ i ih =>
    intro hi
    have h1 := h i (by omega)
    have h2 := kpos_s h1.1
    have h3 := ih (by omega)
    exact ⟨by omega, Or.inr h1.2, Nat.le_of_lt h1.2⟩
theorem kAB0 (le : List Nat) (ln : Nat) : ∀ (r i : Nat), kL le ln i → ln ≤ kpos le i + r → ∃ n, kL le ln n ∧ ((∃ m, kmis le ln (kpos le n) = some m) ∨ (kmis le ln (kpos le n) = none ∧ ¬ kpos le (n + 1) < ln))
  | 0, i, hL, hr => ⟨i, hL, Or.inl ⟨_, kmis_0 (by omega)⟩⟩
  | r + 1, i, hL, hr => by
    cases hk : kmis le ln (kpos le i) with
    | some m => exact ⟨i, hL, Or.inl ⟨m, hk⟩⟩
    | none =>
      by_cases h : kpos le (i + 1) < ln
      · have h2 := kpos_s hk
        refine kAB0 le ln r (i + 1) (fun j hj => ?_) (by omega)
        by_cases e : j = i
        · subst e
          exact ⟨hk, h⟩
        · exact hL j (by omega)
      · exact ⟨i, hL, Or.inr ⟨hk, h⟩⟩
theorem kAB (le : List Nat) (ln : Nat) : ∃ n, kL le ln n ∧ ((∃ m, kmis le ln (kpos le n) = some m) ∨ (kmis le ln (kpos le n) = none ∧ ¬ kpos le (n + 1) < ln)) := kAB0 le ln ln 0 (fun i h => absurd h (Nat.not_lt_zero i)) (Nat.le_add_left ln _)
def kwi (le : List Nat) (K : kK) (i : Nat) : Bool := kwr le (kpos le i) (k_mi (kks le K i)) (k_st (kks le K i))
theorem kWO (le : List Nat) (K : kK) : ∀ n, (∀ i, i < n → kwi le K i = false) ∨ ∃ j, j < n ∧ (∀ i, i < j → kwi le K i = false) ∧ kwi le K j = true
  | 0 => Or.inl (fun i h => absurd h (Nat.not_lt_zero i))
  | n + 1 => by
    rcases kWO le K n with h | ⟨j, h1, h2, h3⟩
    · cases hq : kwi le K n with
      | false =>
        refine Or.inl (fun i hi => ?_)
        by_cases e : i = n
        · subst e
          exact hq
        · exact h i (by omega)
      | true => exact Or.inr ⟨n, by omega, h, hq⟩
    · exact Or.inr ⟨j, by omega, h2, h3⟩
theorem kap_V {le : List Nat} {ln p : Nat} {K : kK} (b2 : ∀ i, kg le i < 256) (hk : kmis le ln p = none) (hA : iA K) (hw : kwr le p (k_mi K) (k_st K) = false) : iA (kapp le p K) := by
  obtain ⟨he, ke, ki, fi, fa, or, mi, a, g, l, w, s⟩ := K
  obtain ⟨hV, hst⟩ := id hA
  have hst2 : s ≤ 999 := hst
  obtain ⟨v1, v2, v3, v4, v5, v6, v7, v8, v9, v10, v11, v12, v13, v14, v15, v16⟩ := id hV
  have hw' : kwr le p mi s = false := hw
  rcases kmis_l hk with h | h | h | h | h | h | h | h
  · rw [kwr_99 h] at hw'
    have q : ¬ (25 ≤ knum le p) := of_decide_eq_false hw'
    have e := kok_1 hk (by rw [h]; rfl)
    rw [kapp_99 h]
    exact ⟨⟨by rw [List.length_set]; exact v1, v2, v3, v4, v5, v6, v7, v8, v9, v10, v11, fun i => by rw [kg_setc]; split; omega; exact v12 i, v13, v14, v15, v16⟩, hst⟩
  · rw [kwr_107 h] at hw'
    have q : ¬ (25 ≤ knum le p) := of_decide_eq_false hw'
    have e := v13 (knum le p)
    rw [kapp_107 h]
    exact ⟨⟨v1, by rw [List.length_set]; exact v2, v3, v4, v5, v6, v7, v8, v9, v10, v11, v12, fun i => by rw [kg_setc]; split; omega; exact v13 i, v14, v15, v16⟩, hst⟩
  · rw [kwr_98 h] at hw'
    have q : ¬ (25 ≤ knum le p) := of_decide_eq_false hw'
    rw [kapp_98 h]
    exact ⟨⟨v1, v2, v3, v4, v5, v6, v7, by omega, v9, v10, v11, v12, v13, v14, v15, v16⟩, hst⟩
  · rw [kwr_103 h] at hw'
    have q : ¬ (25 ≤ knum le p) := of_decide_eq_false hw'
    rw [kapp_103 h]
    exact ⟨⟨v1, v2, v3, v4, v5, v6, v7, v8, by omega, v10, v11, v12, v13, v14, v15, v16⟩, hst⟩
  · rw [kwr_119 h] at hw'
    have q : ¬ (20 < knum le p) := of_decide_eq_false hw'
    rw [kapp_119 h]
    exact ⟨⟨v1, v2, v3, v4, v5, v6, v7, v8, v9, v10, by omega, v12, v13, v14, v15, v16⟩, hst⟩
  · rw [kwr_115 h] at hw'
    have q : ¬ (knum le p < 1 ∨ 60 < knum le p ∨ 999 < s + knum le p) := of_decide_eq_false hw'
    rw [kapp_115 h]
    exact ⟨kV_steps _ hV, by rw [kst_steps]; show s + knum le p ≤ 999; omega⟩
  · rw [kwr_109 h] at hw'
    have q : ¬ (5 ≤ mi) := of_decide_eq_false hw'
    rw [kapp_109 h]
    obtain ⟨e1, ⟨k, e2⟩, e3, e4, e5⟩ := kok_2 hk (by rw [h]; rfl)
    have e6 := (kkind_le e2).1
    rw [e2]
    refine ⟨⟨v1, v2, by rw [List.length_set]; exact v3, by rw [List.length_set]; exact v4, by rw [List.length_set]; exact v5, kO_add mi (by omega) or v6, by omega, v8, v9, v10, v11, v12, v13, fun i => ?_, fun i => ?_, fun i => ?_⟩, hst⟩
    · rw [kg_setc]
      split
      · exact e6
      · exact v14 i
    · rw [kg_setc]
      split
      · omega
      · exact v15 i
    · rw [kg_setc]
      split
      · omega
      · exact v16 i
  · rw [kwr_120 h] at hw'
    have q : ¬ (mi ≤ kg le (p + 1) - 48) := of_decide_eq_false hw'
    rw [kapp_120 h]
    exact ⟨⟨v1, v2, v3, v4, v5, kO_last mi v7 or v6 _ (by omega), v7, v8, v9, v10, v11, v12, v13, v14, v15, v16⟩, hst⟩
theorem kap_mi {le : List Nat} {p : Nat} {K : kK} (hl : kg le p = 99 ∨ kg le p = 107 ∨ kg le p = 98 ∨ kg le p = 103 ∨ kg le p = 119 ∨ kg le p = 115 ∨ kg le p = 109 ∨ kg le p = 120) : k_mi (kapp le p K) = if kg le p = 109 then k_mi K + 1 else k_mi K := by
  obtain ⟨he, ke, ki, fi, fa, or, mi, a, g, l, w, s⟩ := K
  rcases hl with h | h | h | h | h | h | h | h
  · rw [kapp_99 h, h]; rfl
  · rw [kapp_107 h, h]; rfl
  · rw [kapp_98 h, h]; rfl
  · rw [kapp_103 h, h]; rfl
  · rw [kapp_119 h, h]; rfl
  · rw [kapp_115 h, kmi_steps, h]; rfl
  · rw [kapp_109 h, h]; rfl
  · rw [kapp_120 h, h]; rfl
theorem kap_st {le : List Nat} {p : Nat} {K : kK} (hl : kg le p = 99 ∨ kg le p = 107 ∨ kg le p = 98 ∨ kg le p = 103 ∨ kg le p = 119 ∨ kg le p = 115 ∨ kg le p = 109 ∨ kg le p = 120) : k_st (kapp le p K) = if kg le p = 115 then k_st K + knum le p else k_st K := by
  obtain ⟨he, ke, ki, fi, fa, or, mi, a, g, l, w, s⟩ := K
  rcases hl with h | h | h | h | h | h | h | h
  · rw [kapp_99 h, h]; rfl
  · rw [kapp_107 h, h]; rfl
  · rw [kapp_98 h, h]; rfl
  · rw [kapp_103 h, h]; rfl
  · rw [kapp_119 h, h]; rfl
  · rw [kapp_115 h, kst_steps, h]; rfl
  · rw [kapp_109 h, h]; rfl
  · rw [kapp_120 h, h]; rfl
theorem kks_A {le : List Nat} {ln n : Nat} {K : kK} (b2 : ∀ i, kg le i < 256) (hL : ∀ i, i < n → kmis le ln (kpos le i) = none) (hA : iA K) (hw : ∀ i, i < n → kwi le K i = false) : ∀ i, i ≤ n → iA (kks le K i) := by
  intro i
  induction i with
  | zero => exact fun _ => hA
  | succ i ih => exact fun hi => kap_V b2 (hL i (by omega)) (ih (by omega)) (hw i (by omega))
theorem k_f1 {m : Nat} (h : m < 2 ^ 20) : ¬ (-1000 : Int32) - nI m = -9 := by
  intro q
  have h1 := congrArg Int32.toInt q
  have h0 : (-1000 : Int32).toInt = -1000 := by decide
  have h3 : (-9 : Int32).toInt = -9 := by decide
  rw [Int32.toInt_sub, nI_toInt (by omega), h0, h3, Int.bmod_eq_of_le (by omega) (by omega)] at h1
  omega
theorem k_f2 {m : Nat} (h : m < 2 ^ 20) : ¬ (-2000 : Int32) - nI m = -9 := by
  intro q
  have h1 := congrArg Int32.toInt q
  have h0 : (-2000 : Int32).toInt = -2000 := by decide
  have h3 : (-9 : Int32).toInt = -9 := by decide
  rw [Int32.toInt_sub, nI_toInt (by omega), h0, h3, Int.bmod_eq_of_le (by omega) (by omega)] at h1
  omega
set_option maxRecDepth 100000 in
theorem kd_dig (im : Nat) (le : List Nat) (ln : Nat) (ys : List Int32) (vt : Int32) (nu : List Nat) (nn : Nat) (rf : List Nat) (vw vq : Int32) (yc yh yg : List Int32) (n m kk : kG) (q : cR) (t : Nat) (hB : iB le ln) (ht : t < ln) (h48 : 48 ≤ kg le t) : mm_R 36 0 [some (.ref 101), some (.int (nI t))] [] (mk_M (cT im le ln ys vt nu nn rf vw vq yc yh yg) n m kk q) (some (.int (nI (kg le t - 48))), (mk_M (cT im le ln ys vt nu nn rf vw vq yc yh yg) n m kk q)) := by
  obtain ⟨b1, b2, b3⟩ := id hB
  have e0 := b2 t
  refine mr_seg 3 (pc1 := 5) (ls1 := [some (.ref 101), some (.int (nI t))]) (st1 := [.int (nI ln), .int (nI t)]) (M1 := (mk_M (cT im le ln ys vt nu nn rf vw vq yc yh yg) n m kk q)) (fun f => rfl) ?_
  refine mr_f (C := (nI ln) ≤ (nI t)) (nI_lef (a := ln) (b := t) (by omega)) (fun f => rfl) ?_
  refine mr_seg 3 (pc1 := 13) (ls1 := [some (.ref 101), some (.int (nI t))]) (st1 := [.int (nI t), .ref 102]) (M1 := (mk_M (cT im le ln ys vt nu nn rf vw vq yc yh yg) n m kk q)) (fun f => rfl) ?_
  refine mr_ldk (l0 := le) rfl rfl (k := t) (by omega) ?_
  refine mr_seg 2 (pc1 := 17) (ls1 := [some (.ref 101), some (.int (nI t))]) (st1 := [.int ((nI (kg le t)) - (48 : Int32))]) (M1 := (mk_M (cT im le ln ys vt nu nn rf vw vq yc yh yg) n m kk q)) (fun f => rfl) ?_
  refine mr_v (pk_sub (a := kg le t) (b := 48) (by omega)) ?_
  exact mr_ret 2 (fun f => rfl)
set_option maxRecDepth 100000 in
theorem kd_two (im : Nat) (le : List Nat) (ln : Nat) (ys : List Int32) (vt : Int32) (nu : List Nat) (nn : Nat) (rf : List Nat) (vw vq : Int32) (yc yh yg : List Int32) (n m kk : kG) (q : cR) (p : Nat) (hB : iB le ln) (f1 : p + 2 < ln) (f2 : 48 ≤ kg le (p + 1)) (f3 : 48 ≤ kg le (p + 2)) : mm_R 35 0 [some (.ref 101), some (.int (nI (p + 1)))] [] (mk_M (cT im le ln ys vt nu nn rf vw vq yc yh yg) n m kk q) (some (.int (nI (knum le p))), (mk_M (cT im le ln ys vt nu nn rf vw vq yc yh yg) n m kk q)) := by
  obtain ⟨b1, b2, b3⟩ := id hB
  have e1 := b2 (p + 1)
  have e2 := b2 (p + 2)
  refine mr_seg 3 (pc1 := 4) (ls1 := [some (.ref 101), some (.int (nI (p + 1)))]) (st1 := [.int (nI (p + 1)), .ref 101, .int 10]) (M1 := (mk_M (cT im le ln ys vt nu nn rf vw vq yc yh yg) n m kk q)) (fun f => rfl) ?_
  refine mr_call (y := 36) (y0 := 7) (L := [some (.ref 101), some (.int (nI (p + 1)))]) (rest := [.int 10]) (rr := some (.int (nI (kg le (p + 1) - 48)))) (M1 := (mk_M (cT im le ln ys vt nu nn rf vw vq yc yh yg) n m kk q)) (fun f => rfl) (kd_dig im le ln ys vt nu nn rf vw vq yc yh yg n m kk q (p + 1) hB (by omega) (by omega)) ?_
  refine mr_seg 1 (pc1 := 8) (ls1 := [some (.ref 101), some (.int (nI (p + 1)))]) (st1 := [.int ((10 : Int32) * (nI (kg le (p + 1) - 48)))]) (M1 := (mk_M (cT im le ln ys vt nu nn rf vw vq yc yh yg) n m kk q)) (fun f => rfl) ?_
  refine mr_v (pk_mul 10 (kg le (p + 1) - 48)) ?_
  refine mr_seg 4 (pc1 := 12) (ls1 := [some (.ref 101), some (.int (nI (p + 1)))]) (st1 := [.int ((nI (p + 1)) + (1 : Int32)), .ref 101, .int (nI (10 * (kg le (p + 1) - 48)))]) (M1 := (mk_M (cT im le ln ys vt nu nn rf vw vq yc yh yg) n m kk q)) (fun f => rfl) ?_
  refine mr_v (show nI (p + 1) + nI 1 = nI (p + 2) from nI_add (p + 1) 1) ?_
  refine mr_call (y := 36) (y0 := 15) (L := [some (.ref 101), some (.int (nI (p + 2)))]) (rest := [.int (nI (10 * (kg le (p + 1) - 48)))]) (rr := some (.int (nI (kg le (p + 2) - 48)))) (M1 := (mk_M (cT im le ln ys vt nu nn rf vw vq yc yh yg) n m kk q)) (fun f => rfl) (kd_dig im le ln ys vt nu nn rf vw vq yc yh yg n m kk q (p + 2) hB (by omega) (by omega)) ?_
  refine mr_seg 1 (pc1 := 16) (ls1 := [some (.ref 101), some (.int (nI (p + 1)))]) (st1 := [.int ((nI (10 * (kg le (p + 1) - 48))) + (nI (kg le (p + 2) - 48)))]) (M1 := (mk_M (cT im le ln ys vt nu nn rf vw vq yc yh yg) n m kk q)) (fun f => rfl) ?_
  refine mr_v (nI_add (10 * (kg le (p + 1) - 48)) (kg le (p + 2) - 48)) ?_
  refine mr_eq (mr_ret 1 (o := (some (.int (nI (10 * (kg le (p + 1) - 48) + (kg le (p + 2) - 48)))), (mk_M (cT im le ln ys vt nu nn rf vw vq yc yh yg) n m kk q))) (fun f => rfl)) ?_
  rfl
set_option maxRecDepth 100000 in
theorem kd_wr_99_0 (im : Nat) (le : List Nat) (ln : Nat) (ys : List Int32) (vt : Int32) (nu : List Nat) (nn : Nat) (rf : List Nat) (vw vq : Int32) (yc yh yg : List Int32) (n m kk : kG) (q : cR) (p mi st : Nat) (hB : iB le ln) (hk : kmis le ln p = none) (hm : mi ≤ 5) (hs : st ≤ 999) (hc : kg le p = 99) (hq : knum le p < 25) : mm_R 34 0 [some (.ref 101), some (.int (nI p)), some (.int (nI mi)), some (.int (nI st)), none] [] (mk_M (cT im le ln ys vt nu nn rf vw vq yc yh yg) n m kk q) (some (.int (cond (kwr le p mi st) 1 0)), (mk_M (cT im le ln ys vt nu nn rf vw vq yc yh yg) n m kk q)) := by
  obtain ⟨b1, b2, b3⟩ := id hB
  obtain ⟨f1, f2, f3⟩ := kst_f hk
  have e0 := b2 p
  have e1 := b2 (p + 1)
  have e2 := b2 (p + 2)
  have ekn := knum_lt e1 e2
  refine mr_seg 4 (pc1 := 4) (ls1 := [some (.ref 101), some (.int (nI p)), some (.int (nI mi)), some (.int (nI st)), none]) (st1 := [.int ((nI p) + (1 : Int32)), .ref 101]) (M1 := (mk_M (cT im le ln ys vt nu nn rf vw vq yc yh yg) n m kk q)) (fun f => rfl) ?_
  refine mr_v (nI_add p 1) ?_
  refine mr_call (y := 35) (y0 := 7) (L := [some (.ref 101), some (.int (nI (p + 1)))]) (rest := []) (rr := some (.int (nI (knum le p)))) (M1 := (mk_M (cT im le ln ys vt nu nn rf vw vq yc yh yg) n m kk q)) (fun f => rfl) (kd_two im le ln ys vt nu nn rf vw vq yc yh yg n m kk q p hB f1 f2 f3) ?_
  refine mr_seg 4 (pc1 := 14) (ls1 := [some (.ref 101), some (.int (nI p)), some (.int (nI mi)), some (.int (nI st)), some (.int (nI (knum le p)))]) (st1 := [.int (nI p), .ref 102]) (M1 := (mk_M (cT im le ln ys vt nu nn rf vw vq yc yh yg) n m kk q)) (fun f => rfl) ?_
  refine mr_ldn (xs := (le.map nI)) rfl rfl (v := 99) (k := p) (by omega) (kg_okc hc (by omega)) ?_
  refine mr_seg 2 (pc1 := 128) (ls1 := [some (.ref 101), some (.int (nI p)), some (.int (nI mi)), some (.int (nI st)), some (.int (nI (knum le p)))]) (st1 := [.int (nI (knum le p))]) (M1 := (mk_M (cT im le ln ys vt nu nn rf vw vq yc yh yg) n m kk q)) (fun f => rfl) ?_
  refine mr_call (y := 37) (y0 := 131) (L := [some (.int (nI (knum le p)))]) (rest := []) (rr := some (.int 1)) (M1 := (mk_M (cT im le ln ys vt nu nn rf vw vq yc yh yg) n m kk q)) (fun f => rfl) (ms_c1_ok (x := (nI (knum le p))) (nI_ltf (a := knum le p) (b := 0) (by omega)) (nI_lef (a := 25) (b := knum le p) (by omega))) ?_
  refine mr_eq (mr_ret 3 (o := (some (.int 0), (mk_M (cT im le ln ys vt nu nn rf vw vq yc yh yg) n m kk q))) (fun f => rfl)) ?_
  rw [show kwr le p mi st = false from (kwr_99 hc).trans (decide_eq_false (by omega))] <;> rfl
set_option maxRecDepth 100000 in
theorem kd_wr_99_1 (im : Nat) (le : List Nat) (ln : Nat) (ys : List Int32) (vt : Int32) (nu : List Nat) (nn : Nat) (rf : List Nat) (vw vq : Int32) (yc yh yg : List Int32) (n m kk : kG) (q : cR) (p mi st : Nat) (hB : iB le ln) (hk : kmis le ln p = none) (hm : mi ≤ 5) (hs : st ≤ 999) (hc : kg le p = 99) (hq : 25 ≤ knum le p) : mm_R 34 0 [some (.ref 101), some (.int (nI p)), some (.int (nI mi)), some (.int (nI st)), none] [] (mk_M (cT im le ln ys vt nu nn rf vw vq yc yh yg) n m kk q) (some (.int (cond (kwr le p mi st) 1 0)), (mk_M (cT im le ln ys vt nu nn rf vw vq yc yh yg) n m kk q)) := by
  obtain ⟨b1, b2, b3⟩ := id hB
  obtain ⟨f1, f2, f3⟩ := kst_f hk
  have e0 := b2 p
  have e1 := b2 (p + 1)
  have e2 := b2 (p + 2)
  have ekn := knum_lt e1 e2
  refine mr_seg 4 (pc1 := 4) (ls1 := [some (.ref 101), some (.int (nI p)), some (.int (nI mi)), some (.int (nI st)), none]) (st1 := [.int ((nI p) + (1 : Int32)), .ref 101]) (M1 := (mk_M (cT im le ln ys vt nu nn rf vw vq yc yh yg) n m kk q)) (fun f => rfl) ?_
  refine mr_v (nI_add p 1) ?_
  refine mr_call (y := 35) (y0 := 7) (L := [some (.ref 101), some (.int (nI (p + 1)))]) (rest := []) (rr := some (.int (nI (knum le p)))) (M1 := (mk_M (cT im le ln ys vt nu nn rf vw vq yc yh yg) n m kk q)) (fun f => rfl) (kd_two im le ln ys vt nu nn rf vw vq yc yh yg n m kk q p hB f1 f2 f3) ?_
  refine mr_seg 4 (pc1 := 14) (ls1 := [some (.ref 101), some (.int (nI p)), some (.int (nI mi)), some (.int (nI st)), some (.int (nI (knum le p)))]) (st1 := [.int (nI p), .ref 102]) (M1 := (mk_M (cT im le ln ys vt nu nn rf vw vq yc yh yg) n m kk q)) (fun f => rfl) ?_
  refine mr_ldn (xs := (le.map nI)) rfl rfl (v := 99) (k := p) (by omega) (kg_okc hc (by omega)) ?_
  refine mr_seg 2 (pc1 := 128) (ls1 := [some (.ref 101), some (.int (nI p)), some (.int (nI mi)), some (.int (nI st)), some (.int (nI (knum le p)))]) (st1 := [.int (nI (knum le p))]) (M1 := (mk_M (cT im le ln ys vt nu nn rf vw vq yc yh yg) n m kk q)) (fun f => rfl) ?_
  refine mr_call (y := 37) (y0 := 131) (L := [some (.int (nI (knum le p)))]) (rest := []) (rr := some (.int 0)) (M1 := (mk_M (cT im le ln ys vt nu nn rf vw vq yc yh yg) n m kk q)) (fun f => rfl) (ms_c1_hi (x := (nI (knum le p))) (nI_ltf (a := knum le p) (b := 0) (by omega)) (nI_let (a := 25) (b := knum le p) (by omega))) ?_
  refine mr_eq (mr_ret 4 (o := (some (.int 1), (mk_M (cT im le ln ys vt nu nn rf vw vq yc yh yg) n m kk q))) (fun f => rfl)) ?_
  rw [show kwr le p mi st = true from (kwr_99 hc).trans (decide_eq_true (by omega))] <;> rfl
set_option maxRecDepth 100000 in
theorem kd_wr_107_0 (im : Nat) (le : List Nat) (ln : Nat) (ys : List Int32) (vt : Int32) (nu : List Nat) (nn : Nat) (rf : List Nat) (vw vq : Int32) (yc yh yg : List Int32) (n m kk : kG) (q : cR) (p mi st : Nat) (hB : iB le ln) (hk : kmis le ln p = none) (hm : mi ≤ 5) (hs : st ≤ 999) (hc : kg le p = 107) (hq : knum le p < 25) : mm_R 34 0 [some (.ref 101), some (.int (nI p)), some (.int (nI mi)), some (.int (nI st)), none] [] (mk_M (cT im le ln ys vt nu nn rf vw vq yc yh yg) n m kk q) (some (.int (cond (kwr le p mi st) 1 0)), (mk_M (cT im le ln ys vt nu nn rf vw vq yc yh yg) n m kk q)) := by
  obtain ⟨b1, b2, b3⟩ := id hB
  obtain ⟨f1, f2, f3⟩ := kst_f hk
  have e0 := b2 p
  have e1 := b2 (p + 1)
  have e2 := b2 (p + 2)
  have ekn := knum_lt e1 e2
  refine mr_seg 4 (pc1 := 4) (ls1 := [some (.ref 101), some (.int (nI p)), some (.int (nI mi)), some (.int (nI st)), none]) (st1 := [.int ((nI p) + (1 : Int32)), .ref 101]) (M1 := (mk_M (cT im le ln ys vt nu nn rf vw vq yc yh yg) n m kk q)) (fun f => rfl) ?_
  refine mr_v (nI_add p 1) ?_
  refine mr_call (y := 35) (y0 := 7) (L := [some (.ref 101), some (.int (nI (p + 1)))]) (rest := []) (rr := some (.int (nI (knum le p)))) (M1 := (mk_M (cT im le ln ys vt nu nn rf vw vq yc yh yg) n m kk q)) (fun f => rfl) (kd_two im le ln ys vt nu nn rf vw vq yc yh yg n m kk q p hB f1 f2 f3) ?_
  refine mr_seg 4 (pc1 := 14) (ls1 := [some (.ref 101), some (.int (nI p)), some (.int (nI mi)), some (.int (nI st)), some (.int (nI (knum le p)))]) (st1 := [.int (nI p), .ref 102]) (M1 := (mk_M (cT im le ln ys vt nu nn rf vw vq yc yh yg) n m kk q)) (fun f => rfl) ?_
  refine mr_ldn (xs := (le.map nI)) rfl rfl (v := 107) (k := p) (by omega) (kg_okc hc (by omega)) ?_
  refine mr_seg 2 (pc1 := 128) (ls1 := [some (.ref 101), some (.int (nI p)), some (.int (nI mi)), some (.int (nI st)), some (.int (nI (knum le p)))]) (st1 := [.int (nI (knum le p))]) (M1 := (mk_M (cT im le ln ys vt nu nn rf vw vq yc yh yg) n m kk q)) (fun f => rfl) ?_
  refine mr_call (y := 37) (y0 := 131) (L := [some (.int (nI (knum le p)))]) (rest := []) (rr := some (.int 1)) (M1 := (mk_M (cT im le ln ys vt nu nn rf vw vq yc yh yg) n m kk q)) (fun f => rfl) (ms_c1_ok (x := (nI (knum le p))) (nI_ltf (a := knum le p) (b := 0) (by omega)) (nI_lef (a := 25) (b := knum le p) (by omega))) ?_
  refine mr_eq (mr_ret 3 (o := (some (.int 0), (mk_M (cT im le ln ys vt nu nn rf vw vq yc yh yg) n m kk q))) (fun f => rfl)) ?_
  rw [show kwr le p mi st = false from (kwr_107 hc).trans (decide_eq_false (by omega))] <;> rfl
set_option maxRecDepth 100000 in
theorem kd_wr_107_1 (im : Nat) (le : List Nat) (ln : Nat) (ys : List Int32) (vt : Int32) (nu : List Nat) (nn : Nat) (rf : List Nat) (vw vq : Int32) (yc yh yg : List Int32) (n m kk : kG) (q : cR) (p mi st : Nat) (hB : iB le ln) (hk : kmis le ln p = none) (hm : mi ≤ 5) (hs : st ≤ 999) (hc : kg le p = 107) (hq : 25 ≤ knum le p) : mm_R 34 0 [some (.ref 101), some (.int (nI p)), some (.int (nI mi)), some (.int (nI st)), none] [] (mk_M (cT im le ln ys vt nu nn rf vw vq yc yh yg) n m kk q) (some (.int (cond (kwr le p mi st) 1 0)), (mk_M (cT im le ln ys vt nu nn rf vw vq yc yh yg) n m kk q)) := by
  obtain ⟨b1, b2, b3⟩ := id hB
  obtain ⟨f1, f2, f3⟩ := kst_f hk
  have e0 := b2 p
  have e1 := b2 (p + 1)
  have e2 := b2 (p + 2)
  have ekn := knum_lt e1 e2
  refine mr_seg 4 (pc1 := 4) (ls1 := [some (.ref 101), some (.int (nI p)), some (.int (nI mi)), some (.int (nI st)), none]) (st1 := [.int ((nI p) + (1 : Int32)), .ref 101]) (M1 := (mk_M (cT im le ln ys vt nu nn rf vw vq yc yh yg) n m kk q)) (fun f => rfl) ?_
  refine mr_v (nI_add p 1) ?_
  refine mr_call (y := 35) (y0 := 7) (L := [some (.ref 101), some (.int (nI (p + 1)))]) (rest := []) (rr := some (.int (nI (knum le p)))) (M1 := (mk_M (cT im le ln ys vt nu nn rf vw vq yc yh yg) n m kk q)) (fun f => rfl) (kd_two im le ln ys vt nu nn rf vw vq yc yh yg n m kk q p hB f1 f2 f3) ?_
  refine mr_seg 4 (pc1 := 14) (ls1 := [some (.ref 101), some (.int (nI p)), some (.int (nI mi)), some (.int (nI st)), some (.int (nI (knum le p)))]) (st1 := [.int (nI p), .ref 102]) (M1 := (mk_M (cT im le ln ys vt nu nn rf vw vq yc yh yg) n m kk q)) (fun f => rfl) ?_
  refine mr_ldn (xs := (le.map nI)) rfl rfl (v := 107) (k := p) (by omega) (kg_okc hc (by omega)) ?_
  refine mr_seg 2 (pc1 := 128) (ls1 := [some (.ref 101), some (.int (nI p)), some (.int (nI mi)), some (.int (nI st)), some (.int (nI (knum le p)))]) (st1 := [.int (nI (knum le p))]) (M1 := (mk_M (cT im le ln ys vt nu nn rf vw vq yc yh yg) n m kk q)) (fun f => rfl) ?_
  refine mr_call (y := 37) (y0 := 131) (L := [some (.int (nI (knum le p)))]) (rest := []) (rr := some (.int 0)) (M1 := (mk_M (cT im le ln ys vt nu nn rf vw vq yc yh yg) n m kk q)) (fun f => rfl) (ms_c1_hi (x := (nI (knum le p))) (nI_ltf (a := knum le p) (b := 0) (by omega)) (nI_let (a := 25) (b := knum le p) (by omega))) ?_
  refine mr_eq (mr_ret 4 (o := (some (.int 1), (mk_M (cT im le ln ys vt nu nn rf vw vq yc yh yg) n m kk q))) (fun f => rfl)) ?_
  rw [show kwr le p mi st = true from (kwr_107 hc).trans (decide_eq_true (by omega))] <;> rfl
set_option maxRecDepth 100000 in
theorem kd_wr_98_0 (im : Nat) (le : List Nat) (ln : Nat) (ys : List Int32) (vt : Int32) (nu : List Nat) (nn : Nat) (rf : List Nat) (vw vq : Int32) (yc yh yg : List Int32) (n m kk : kG) (q : cR) (p mi st : Nat) (hB : iB le ln) (hk : kmis le ln p = none) (hm : mi ≤ 5) (hs : st ≤ 999) (hc : kg le p = 98) (hq : knum le p < 25) : mm_R 34 0 [some (.ref 101), some (.int (nI p)), some (.int (nI mi)), some (.int (nI st)), none] [] (mk_M (cT im le ln ys vt nu nn rf vw vq yc yh yg) n m kk q) (some (.int (cond (kwr le p mi st) 1 0)), (mk_M (cT im le ln ys vt nu nn rf vw vq yc yh yg) n m kk q)) := by
  obtain ⟨b1, b2, b3⟩ := id hB
  obtain ⟨f1, f2, f3⟩ := kst_f hk
  have e0 := b2 p
  have e1 := b2 (p + 1)
  have e2 := b2 (p + 2)
  have ekn := knum_lt e1 e2
  refine mr_seg 4 (pc1 := 4) (ls1 := [some (.ref 101), some (.int (nI p)), some (.int (nI mi)), some (.int (nI st)), none]) (st1 := [.int ((nI p) + (1 : Int32)), .ref 101]) (M1 := (mk_M (cT im le ln ys vt nu nn rf vw vq yc yh yg) n m kk q)) (fun f => rfl) ?_
  refine mr_v (nI_add p 1) ?_
  refine mr_call (y := 35) (y0 := 7) (L := [some (.ref 101), some (.int (nI (p + 1)))]) (rest := []) (rr := some (.int (nI (knum le p)))) (M1 := (mk_M (cT im le ln ys vt nu nn rf vw vq yc yh yg) n m kk q)) (fun f => rfl) (kd_two im le ln ys vt nu nn rf vw vq yc yh yg n m kk q p hB f1 f2 f3) ?_
  refine mr_seg 4 (pc1 := 14) (ls1 := [some (.ref 101), some (.int (nI p)), some (.int (nI mi)), some (.int (nI st)), some (.int (nI (knum le p)))]) (st1 := [.int (nI p), .ref 102]) (M1 := (mk_M (cT im le ln ys vt nu nn rf vw vq yc yh yg) n m kk q)) (fun f => rfl) ?_
  refine mr_ldn (xs := (le.map nI)) rfl rfl (v := 98) (k := p) (by omega) (kg_okc hc (by omega)) ?_
  refine mr_seg 2 (pc1 := 128) (ls1 := [some (.ref 101), some (.int (nI p)), some (.int (nI mi)), some (.int (nI st)), some (.int (nI (knum le p)))]) (st1 := [.int (nI (knum le p))]) (M1 := (mk_M (cT im le ln ys vt nu nn rf vw vq yc yh yg) n m kk q)) (fun f => rfl) ?_
  refine mr_call (y := 37) (y0 := 131) (L := [some (.int (nI (knum le p)))]) (rest := []) (rr := some (.int 1)) (M1 := (mk_M (cT im le ln ys vt nu nn rf vw vq yc yh yg) n m kk q)) (fun f => rfl) (ms_c1_ok (x := (nI (knum le p))) (nI_ltf (a := knum le p) (b := 0) (by omega)) (nI_lef (a := 25) (b := knum le p) (by omega))) ?_
  refine mr_eq (mr_ret 3 (o := (some (.int 0), (mk_M (cT im le ln ys vt nu nn rf vw vq yc yh yg) n m kk q))) (fun f => rfl)) ?_
  rw [show kwr le p mi st = false from (kwr_98 hc).trans (decide_eq_false (by omega))] <;> rfl
set_option maxRecDepth 100000 in
theorem kd_wr_98_1 (im : Nat) (le : List Nat) (ln : Nat) (ys : List Int32) (vt : Int32) (nu : List Nat) (nn : Nat) (rf : List Nat) (vw vq : Int32) (yc yh yg : List Int32) (n m kk : kG) (q : cR) (p mi st : Nat) (hB : iB le ln) (hk : kmis le ln p = none) (hm : mi ≤ 5) (hs : st ≤ 999) (hc : kg le p = 98) (hq : 25 ≤ knum le p) : mm_R 34 0 [some (.ref 101), some (.int (nI p)), some (.int (nI mi)), some (.int (nI st)), none] [] (mk_M (cT im le ln ys vt nu nn rf vw vq yc yh yg) n m kk q) (some (.int (cond (kwr le p mi st) 1 0)), (mk_M (cT im le ln ys vt nu nn rf vw vq yc yh yg) n m kk q)) := by
  obtain ⟨b1, b2, b3⟩ := id hB
  obtain ⟨f1, f2, f3⟩ := kst_f hk
  have e0 := b2 p
  have e1 := b2 (p + 1)
  have e2 := b2 (p + 2)
  have ekn := knum_lt e1 e2
  refine mr_seg 4 (pc1 := 4) (ls1 := [some (.ref 101), some (.int (nI p)), some (.int (nI mi)), some (.int (nI st)), none]) (st1 := [.int ((nI p) + (1 : Int32)), .ref 101]) (M1 := (mk_M (cT im le ln ys vt nu nn rf vw vq yc yh yg) n m kk q)) (fun f => rfl) ?_
  refine mr_v (nI_add p 1) ?_
  refine mr_call (y := 35) (y0 := 7) (L := [some (.ref 101), some (.int (nI (p + 1)))]) (rest := []) (rr := some (.int (nI (knum le p)))) (M1 := (mk_M (cT im le ln ys vt nu nn rf vw vq yc yh yg) n m kk q)) (fun f => rfl) (kd_two im le ln ys vt nu nn rf vw vq yc yh yg n m kk q p hB f1 f2 f3) ?_
  refine mr_seg 4 (pc1 := 14) (ls1 := [some (.ref 101), some (.int (nI p)), some (.int (nI mi)), some (.int (nI st)), some (.int (nI (knum le p)))]) (st1 := [.int (nI p), .ref 102]) (M1 := (mk_M (cT im le ln ys vt nu nn rf vw vq yc yh yg) n m kk q)) (fun f => rfl) ?_
  refine mr_ldn (xs := (le.map nI)) rfl rfl (v := 98) (k := p) (by omega) (kg_okc hc (by omega)) ?_
  refine mr_seg 2 (pc1 := 128) (ls1 := [some (.ref 101), some (.int (nI p)), some (.int (nI mi)), some (.int (nI st)), some (.int (nI (knum le p)))]) (st1 := [.int (nI (knum le p))]) (M1 := (mk_M (cT im le ln ys vt nu nn rf vw vq yc yh yg) n m kk q)) (fun f => rfl) ?_
  refine mr_call (y := 37) (y0 := 131) (L := [some (.int (nI (knum le p)))]) (rest := []) (rr := some (.int 0)) (M1 := (mk_M (cT im le ln ys vt nu nn rf vw vq yc yh yg) n m kk q)) (fun f => rfl) (ms_c1_hi (x := (nI (knum le p))) (nI_ltf (a := knum le p) (b := 0) (by omega)) (nI_let (a := 25) (b := knum le p) (by omega))) ?_
  refine mr_eq (mr_ret 4 (o := (some (.int 1), (mk_M (cT im le ln ys vt nu nn rf vw vq yc yh yg) n m kk q))) (fun f => rfl)) ?_
  rw [show kwr le p mi st = true from (kwr_98 hc).trans (decide_eq_true (by omega))] <;> rfl
set_option maxRecDepth 100000 in
theorem kd_wr_103_0 (im : Nat) (le : List Nat) (ln : Nat) (ys : List Int32) (vt : Int32) (nu : List Nat) (nn : Nat) (rf : List Nat) (vw vq : Int32) (yc yh yg : List Int32) (n m kk : kG) (q : cR) (p mi st : Nat) (hB : iB le ln) (hk : kmis le ln p = none) (hm : mi ≤ 5) (hs : st ≤ 999) (hc : kg le p = 103) (hq : knum le p < 25) : mm_R 34 0 [some (.ref 101), some (.int (nI p)), some (.int (nI mi)), some (.int (nI st)), none] [] (mk_M (cT im le ln ys vt nu nn rf vw vq yc yh yg) n m kk q) (some (.int (cond (kwr le p mi st) 1 0)), (mk_M (cT im le ln ys vt nu nn rf vw vq yc yh yg) n m kk q)) := by
  obtain ⟨b1, b2, b3⟩ := id hB
  obtain ⟨f1, f2, f3⟩ := kst_f hk
  have e0 := b2 p
  have e1 := b2 (p + 1)
  have e2 := b2 (p + 2)
  have ekn := knum_lt e1 e2
  refine mr_seg 4 (pc1 := 4) (ls1 := [some (.ref 101), some (.int (nI p)), some (.int (nI mi)), some (.int (nI st)), none]) (st1 := [.int ((nI p) + (1 : Int32)), .ref 101]) (M1 := (mk_M (cT im le ln ys vt nu nn rf vw vq yc yh yg) n m kk q)) (fun f => rfl) ?_
  refine mr_v (nI_add p 1) ?_
  refine mr_call (y := 35) (y0 := 7) (L := [some (.ref 101), some (.int (nI (p + 1)))]) (rest := []) (rr := some (.int (nI (knum le p)))) (M1 := (mk_M (cT im le ln ys vt nu nn rf vw vq yc yh yg) n m kk q)) (fun f => rfl) (kd_two im le ln ys vt nu nn rf vw vq yc yh yg n m kk q p hB f1 f2 f3) ?_
  refine mr_seg 4 (pc1 := 14) (ls1 := [some (.ref 101), some (.int (nI p)), some (.int (nI mi)), some (.int (nI st)), some (.int (nI (knum le p)))]) (st1 := [.int (nI p), .ref 102]) (M1 := (mk_M (cT im le ln ys vt nu nn rf vw vq yc yh yg) n m kk q)) (fun f => rfl) ?_
  refine mr_ldn (xs := (le.map nI)) rfl rfl (v := 103) (k := p) (by omega) (kg_okc hc (by omega)) ?_
  refine mr_seg 2 (pc1 := 128) (ls1 := [some (.ref 101), some (.int (nI p)), some (.int (nI mi)), some (.int (nI st)), some (.int (nI (knum le p)))]) (st1 := [.int (nI (knum le p))]) (M1 := (mk_M (cT im le ln ys vt nu nn rf vw vq yc yh yg) n m kk q)) (fun f => rfl) ?_
  refine mr_call (y := 37) (y0 := 131) (L := [some (.int (nI (knum le p)))]) (rest := []) (rr := some (.int 1)) (M1 := (mk_M (cT im le ln ys vt nu nn rf vw vq yc yh yg) n m kk q)) (fun f => rfl) (ms_c1_ok (x := (nI (knum le p))) (nI_ltf (a := knum le p) (b := 0) (by omega)) (nI_lef (a := 25) (b := knum le p) (by omega))) ?_
  refine mr_eq (mr_ret 3 (o := (some (.int 0), (mk_M (cT im le ln ys vt nu nn rf vw vq yc yh yg) n m kk q))) (fun f => rfl)) ?_
  rw [show kwr le p mi st = false from (kwr_103 hc).trans (decide_eq_false (by omega))] <;> rfl
set_option maxRecDepth 100000 in
theorem kd_wr_103_1 (im : Nat) (le : List Nat) (ln : Nat) (ys : List Int32) (vt : Int32) (nu : List Nat) (nn : Nat) (rf : List Nat) (vw vq : Int32) (yc yh yg : List Int32) (n m kk : kG) (q : cR) (p mi st : Nat) (hB : iB le ln) (hk : kmis le ln p = none) (hm : mi ≤ 5) (hs : st ≤ 999) (hc : kg le p = 103) (hq : 25 ≤ knum le p) : mm_R 34 0 [some (.ref 101), some (.int (nI p)), some (.int (nI mi)), some (.int (nI st)), none] [] (mk_M (cT im le ln ys vt nu nn rf vw vq yc yh yg) n m kk q) (some (.int (cond (kwr le p mi st) 1 0)), (mk_M (cT im le ln ys vt nu nn rf vw vq yc yh yg) n m kk q)) := by
  obtain ⟨b1, b2, b3⟩ := id hB
  obtain ⟨f1, f2, f3⟩ := kst_f hk
  have e0 := b2 p
  have e1 := b2 (p + 1)
  have e2 := b2 (p + 2)
  have ekn := knum_lt e1 e2
  refine mr_seg 4 (pc1 := 4) (ls1 := [some (.ref 101), some (.int (nI p)), some (.int (nI mi)), some (.int (nI st)), none]) (st1 := [.int ((nI p) + (1 : Int32)), .ref 101]) (M1 := (mk_M (cT im le ln ys vt nu nn rf vw vq yc yh yg) n m kk q)) (fun f => rfl) ?_
  refine mr_v (nI_add p 1) ?_
  refine mr_call (y := 35) (y0 := 7) (L := [some (.ref 101), some (.int (nI (p + 1)))]) (rest := []) (rr := some (.int (nI (knum le p)))) (M1 := (mk_M (cT im le ln ys vt nu nn rf vw vq yc yh yg) n m kk q)) (fun f => rfl) (kd_two im le ln ys vt nu nn rf vw vq yc yh yg n m kk q p hB f1 f2 f3) ?_
  refine mr_seg 4 (pc1 := 14) (ls1 := [some (.ref 101), some (.int (nI p)), some (.int (nI mi)), some (.int (nI st)), some (.int (nI (knum le p)))]) (st1 := [.int (nI p), .ref 102]) (M1 := (mk_M (cT im le ln ys vt nu nn rf vw vq yc yh yg) n m kk q)) (fun f => rfl) ?_
  refine mr_ldn (xs := (le.map nI)) rfl rfl (v := 103) (k := p) (by omega) (kg_okc hc (by omega)) ?_
  refine mr_seg 2 (pc1 := 128) (ls1 := [some (.ref 101), some (.int (nI p)), some (.int (nI mi)), some (.int (nI st)), some (.int (nI (knum le p)))]) (st1 := [.int (nI (knum le p))]) (M1 := (mk_M (cT im le ln ys vt nu nn rf vw vq yc yh yg) n m kk q)) (fun f => rfl) ?_
  refine mr_call (y := 37) (y0 := 131) (L := [some (.int (nI (knum le p)))]) (rest := []) (rr := some (.int 0)) (M1 := (mk_M (cT im le ln ys vt nu nn rf vw vq yc yh yg) n m kk q)) (fun f => rfl) (ms_c1_hi (x := (nI (knum le p))) (nI_ltf (a := knum le p) (b := 0) (by omega)) (nI_let (a := 25) (b := knum le p) (by omega))) ?_
  refine mr_eq (mr_ret 4 (o := (some (.int 1), (mk_M (cT im le ln ys vt nu nn rf vw vq yc yh yg) n m kk q))) (fun f => rfl)) ?_
  rw [show kwr le p mi st = true from (kwr_103 hc).trans (decide_eq_true (by omega))] <;> rfl
set_option maxRecDepth 100000 in
theorem kd_wr_119 (im : Nat) (le : List Nat) (ln : Nat) (ys : List Int32) (vt : Int32) (nu : List Nat) (nn : Nat) (rf : List Nat) (vw vq : Int32) (yc yh yg : List Int32) (n m kk : kG) (q : cR) (p mi st : Nat) (hB : iB le ln) (hk : kmis le ln p = none) (hm : mi ≤ 5) (hs : st ≤ 999) (hc : kg le p = 119) : mm_R 34 0 [some (.ref 101), some (.int (nI p)), some (.int (nI mi)), some (.int (nI st)), none] [] (mk_M (cT im le ln ys vt nu nn rf vw vq yc yh yg) n m kk q) (some (.int (cond (kwr le p mi st) 1 0)), (mk_M (cT im le ln ys vt nu nn rf vw vq yc yh yg) n m kk q)) := by
  obtain ⟨b1, b2, b3⟩ := id hB
  obtain ⟨f1, f2, f3⟩ := kst_f hk
  have e0 := b2 p
  have e1 := b2 (p + 1)
  have e2 := b2 (p + 2)
  have ekn := knum_lt e1 e2
  refine mr_seg 4 (pc1 := 4) (ls1 := [some (.ref 101), some (.int (nI p)), some (.int (nI mi)), some (.int (nI st)), none]) (st1 := [.int ((nI p) + (1 : Int32)), .ref 101]) (M1 := (mk_M (cT im le ln ys vt nu nn rf vw vq yc yh yg) n m kk q)) (fun f => rfl) ?_
  refine mr_v (nI_add p 1) ?_
  refine mr_call (y := 35) (y0 := 7) (L := [some (.ref 101), some (.int (nI (p + 1)))]) (rest := []) (rr := some (.int (nI (knum le p)))) (M1 := (mk_M (cT im le ln ys vt nu nn rf vw vq yc yh yg) n m kk q)) (fun f => rfl) (kd_two im le ln ys vt nu nn rf vw vq yc yh yg n m kk q p hB f1 f2 f3) ?_
  refine mr_seg 4 (pc1 := 14) (ls1 := [some (.ref 101), some (.int (nI p)), some (.int (nI mi)), some (.int (nI st)), some (.int (nI (knum le p)))]) (st1 := [.int (nI p), .ref 102]) (M1 := (mk_M (cT im le ln ys vt nu nn rf vw vq yc yh yg) n m kk q)) (fun f => rfl) ?_
  refine mr_ldn (xs := (le.map nI)) rfl rfl (v := 119) (k := p) (by omega) (kg_okc hc (by omega)) ?_
  refine mr_seg 3 (pc1 := 88) (ls1 := [some (.ref 101), some (.int (nI p)), some (.int (nI mi)), some (.int (nI st)), some (.int (nI (knum le p)))]) (st1 := [.int 20, .int (nI (knum le p))]) (M1 := (mk_M (cT im le ln ys vt nu nn rf vw vq yc yh yg) n m kk q)) (fun f => rfl) ?_
  refine mr_ifN (C := (nI (knum le p)) ≤ 20) (nI_lei (a := knum le p) (b := 20) (by omega)) (fun f => rfl) (fun h1 => ?_) (fun h1 => ?_)
  · refine mr_eq (mr_ret 2 (o := (some (.int 0), (mk_M (cT im le ln ys vt nu nn rf vw vq yc yh yg) n m kk q))) (fun f => rfl)) ?_
    rw [show kwr le p mi st = false from (kwr_119 hc).trans (decide_eq_false (by omega))] <;> rfl
  · refine mr_eq (mr_ret 3 (o := (some (.int 1), (mk_M (cT im le ln ys vt nu nn rf vw vq yc yh yg) n m kk q))) (fun f => rfl)) ?_
    rw [show kwr le p mi st = true from (kwr_119 hc).trans (decide_eq_true (by omega))] <;> rfl
set_option maxRecDepth 100000 in
theorem kd_wr_115 (im : Nat) (le : List Nat) (ln : Nat) (ys : List Int32) (vt : Int32) (nu : List Nat) (nn : Nat) (rf : List Nat) (vw vq : Int32) (yc yh yg : List Int32) (n m kk : kG) (q : cR) (p mi st : Nat) (hB : iB le ln) (hk : kmis le ln p = none) (hm : mi ≤ 5) (hs : st ≤ 999) (hc : kg le p = 115) : mm_R 34 0 [some (.ref 101), some (.int (nI p)), some (.int (nI mi)), some (.int (nI st)), none] [] (mk_M (cT im le ln ys vt nu nn rf vw vq yc yh yg) n m kk q) (some (.int (cond (kwr le p mi st) 1 0)), (mk_M (cT im le ln ys vt nu nn rf vw vq yc yh yg) n m kk q)) := by
  obtain ⟨b1, b2, b3⟩ := id hB
  obtain ⟨f1, f2, f3⟩ := kst_f hk
  have e0 := b2 p
  have e1 := b2 (p + 1)
  have e2 := b2 (p + 2)
  have ekn := knum_lt e1 e2
  refine mr_seg 4 (pc1 := 4) (ls1 := [some (.ref 101), some (.int (nI p)), some (.int (nI mi)), some (.int (nI st)), none]) (st1 := [.int ((nI p) + (1 : Int32)), .ref 101]) (M1 := (mk_M (cT im le ln ys vt nu nn rf vw vq yc yh yg) n m kk q)) (fun f => rfl) ?_
  refine mr_v (nI_add p 1) ?_
  refine mr_call (y := 35) (y0 := 7) (L := [some (.ref 101), some (.int (nI (p + 1)))]) (rest := []) (rr := some (.int (nI (knum le p)))) (M1 := (mk_M (cT im le ln ys vt nu nn rf vw vq yc yh yg) n m kk q)) (fun f => rfl) (kd_two im le ln ys vt nu nn rf vw vq yc yh yg n m kk q p hB f1 f2 f3) ?_
  refine mr_seg 4 (pc1 := 14) (ls1 := [some (.ref 101), some (.int (nI p)), some (.int (nI mi)), some (.int (nI st)), some (.int (nI (knum le p)))]) (st1 := [.int (nI p), .ref 102]) (M1 := (mk_M (cT im le ln ys vt nu nn rf vw vq yc yh yg) n m kk q)) (fun f => rfl) ?_
  refine mr_ldn (xs := (le.map nI)) rfl rfl (v := 115) (k := p) (by omega) (kg_okc hc (by omega)) ?_
  refine mr_seg 3 (pc1 := 100) (ls1 := [some (.ref 101), some (.int (nI p)), some (.int (nI mi)), some (.int (nI st)), some (.int (nI (knum le p)))]) (st1 := [.int 1, .int (nI (knum le p))]) (M1 := (mk_M (cT im le ln ys vt nu nn rf vw vq yc yh yg) n m kk q)) (fun f => rfl) ?_
  refine mr_ifN (C := (nI (knum le p)) < 1) (nI_lti (a := knum le p) (b := 1) (by omega)) (fun f => rfl) (fun h1 => ?_) (fun h1 => ?_)
  · refine mr_eq (mr_ret 3 (o := (some (.int 1), (mk_M (cT im le ln ys vt nu nn rf vw vq yc yh yg) n m kk q))) (fun f => rfl)) ?_
    rw [show kwr le p mi st = true from (kwr_115 hc).trans (decide_eq_true (by omega))] <;> rfl
  · refine mr_seg 2 (pc1 := 107) (ls1 := [some (.ref 101), some (.int (nI p)), some (.int (nI mi)), some (.int (nI st)), some (.int (nI (knum le p)))]) (st1 := [.int 60, .int (nI (knum le p))]) (M1 := (mk_M (cT im le ln ys vt nu nn rf vw vq yc yh yg) n m kk q)) (fun f => rfl) ?_
    refine mr_ifN (C := 60 < (nI (knum le p))) (nI_lti (a := 60) (b := knum le p) (by omega)) (fun f => rfl) (fun h2 => ?_) (fun h2 => ?_)
    · refine mr_eq (mr_ret 3 (o := (some (.int 1), (mk_M (cT im le ln ys vt nu nn rf vw vq yc yh yg) n m kk q))) (fun f => rfl)) ?_
      rw [show kwr le p mi st = true from (kwr_115 hc).trans (decide_eq_true (by omega))] <;> rfl
    · refine mr_seg 3 (pc1 := 114) (ls1 := [some (.ref 101), some (.int (nI p)), some (.int (nI mi)), some (.int (nI st)), some (.int (nI (knum le p)))]) (st1 := [.int ((nI st) + (nI (knum le p)))]) (M1 := (mk_M (cT im le ln ys vt nu nn rf vw vq yc yh yg) n m kk q)) (fun f => rfl) ?_
      refine mr_v (nI_add st (knum le p)) ?_
      refine mr_seg 1 (pc1 := 117) (ls1 := [some (.ref 101), some (.int (nI p)), some (.int (nI mi)), some (.int (nI st)), some (.int (nI (knum le p)))]) (st1 := [.int 999, .int (nI (st + knum le p))]) (M1 := (mk_M (cT im le ln ys vt nu nn rf vw vq yc yh yg) n m kk q)) (fun f => rfl) ?_
      refine mr_ifN (C := (nI (st + knum le p)) ≤ 999) (nI_lei (a := st + knum le p) (b := 999) (by omega)) (fun f => rfl) (fun h3 => ?_) (fun h3 => ?_)
      · refine mr_eq (mr_ret 2 (o := (some (.int 0), (mk_M (cT im le ln ys vt nu nn rf vw vq yc yh yg) n m kk q))) (fun f => rfl)) ?_
        rw [show kwr le p mi st = false from (kwr_115 hc).trans (decide_eq_false (by omega))] <;> rfl
      · refine mr_eq (mr_ret 3 (o := (some (.int 1), (mk_M (cT im le ln ys vt nu nn rf vw vq yc yh yg) n m kk q))) (fun f => rfl)) ?_
        rw [show kwr le p mi st = true from (kwr_115 hc).trans (decide_eq_true (by omega))] <;> rfl
set_option maxRecDepth 100000 in
theorem kd_wr_109 (im : Nat) (le : List Nat) (ln : Nat) (ys : List Int32) (vt : Int32) (nu : List Nat) (nn : Nat) (rf : List Nat) (vw vq : Int32) (yc yh yg : List Int32) (n m kk : kG) (q : cR) (p mi st : Nat) (hB : iB le ln) (hk : kmis le ln p = none) (hm : mi ≤ 5) (hs : st ≤ 999) (hc : kg le p = 109) : mm_R 34 0 [some (.ref 101), some (.int (nI p)), some (.int (nI mi)), some (.int (nI st)), none] [] (mk_M (cT im le ln ys vt nu nn rf vw vq yc yh yg) n m kk q) (some (.int (cond (kwr le p mi st) 1 0)), (mk_M (cT im le ln ys vt nu nn rf vw vq yc yh yg) n m kk q)) := by
  obtain ⟨b1, b2, b3⟩ := id hB
  obtain ⟨f1, f2, f3⟩ := kst_f hk
  have e0 := b2 p
  have e1 := b2 (p + 1)
  have e2 := b2 (p + 2)
  have ekn := knum_lt e1 e2
  refine mr_seg 4 (pc1 := 4) (ls1 := [some (.ref 101), some (.int (nI p)), some (.int (nI mi)), some (.int (nI st)), none]) (st1 := [.int ((nI p) + (1 : Int32)), .ref 101]) (M1 := (mk_M (cT im le ln ys vt nu nn rf vw vq yc yh yg) n m kk q)) (fun f => rfl) ?_
  refine mr_v (nI_add p 1) ?_
  refine mr_call (y := 35) (y0 := 7) (L := [some (.ref 101), some (.int (nI (p + 1)))]) (rest := []) (rr := some (.int (nI (knum le p)))) (M1 := (mk_M (cT im le ln ys vt nu nn rf vw vq yc yh yg) n m kk q)) (fun f => rfl) (kd_two im le ln ys vt nu nn rf vw vq yc yh yg n m kk q p hB f1 f2 f3) ?_
  refine mr_seg 4 (pc1 := 14) (ls1 := [some (.ref 101), some (.int (nI p)), some (.int (nI mi)), some (.int (nI st)), some (.int (nI (knum le p)))]) (st1 := [.int (nI p), .ref 102]) (M1 := (mk_M (cT im le ln ys vt nu nn rf vw vq yc yh yg) n m kk q)) (fun f => rfl) ?_
  refine mr_ldn (xs := (le.map nI)) rfl rfl (v := 109) (k := p) (by omega) (kg_okc hc (by omega)) ?_
  refine mr_seg 3 (pc1 := 58) (ls1 := [some (.ref 101), some (.int (nI p)), some (.int (nI mi)), some (.int (nI st)), some (.int (nI (knum le p)))]) (st1 := [.int 5, .int (nI mi)]) (M1 := (mk_M (cT im le ln ys vt nu nn rf vw vq yc yh yg) n m kk q)) (fun f => rfl) ?_
  refine mr_ifN (C := (nI mi) < 5) (nI_lti (a := mi) (b := 5) (by omega)) (fun f => rfl) (fun h1 => ?_) (fun h1 => ?_)
  · refine mr_eq (mr_ret 2 (o := (some (.int 0), (mk_M (cT im le ln ys vt nu nn rf vw vq yc yh yg) n m kk q))) (fun f => rfl)) ?_
    rw [show kwr le p mi st = false from (kwr_109 hc).trans (decide_eq_false (by omega))] <;> rfl
  · refine mr_eq (mr_ret 3 (o := (some (.int 1), (mk_M (cT im le ln ys vt nu nn rf vw vq yc yh yg) n m kk q))) (fun f => rfl)) ?_
    rw [show kwr le p mi st = true from (kwr_109 hc).trans (decide_eq_true (by omega))] <;> rfl
set_option maxRecDepth 100000 in
theorem kd_wr_120 (im : Nat) (le : List Nat) (ln : Nat) (ys : List Int32) (vt : Int32) (nu : List Nat) (nn : Nat) (rf : List Nat) (vw vq : Int32) (yc yh yg : List Int32) (n m kk : kG) (q : cR) (p mi st : Nat) (hB : iB le ln) (hk : kmis le ln p = none) (hm : mi ≤ 5) (hs : st ≤ 999) (hc : kg le p = 120) : mm_R 34 0 [some (.ref 101), some (.int (nI p)), some (.int (nI mi)), some (.int (nI st)), none] [] (mk_M (cT im le ln ys vt nu nn rf vw vq yc yh yg) n m kk q) (some (.int (cond (kwr le p mi st) 1 0)), (mk_M (cT im le ln ys vt nu nn rf vw vq yc yh yg) n m kk q)) := by
  obtain ⟨b1, b2, b3⟩ := id hB
  obtain ⟨f1, f2, f3⟩ := kst_f hk
  have e0 := b2 p
  have e1 := b2 (p + 1)
  have e2 := b2 (p + 2)
  have ekn := knum_lt e1 e2
  refine mr_seg 4 (pc1 := 4) (ls1 := [some (.ref 101), some (.int (nI p)), some (.int (nI mi)), some (.int (nI st)), none]) (st1 := [.int ((nI p) + (1 : Int32)), .ref 101]) (M1 := (mk_M (cT im le ln ys vt nu nn rf vw vq yc yh yg) n m kk q)) (fun f => rfl) ?_
  refine mr_v (nI_add p 1) ?_
  refine mr_call (y := 35) (y0 := 7) (L := [some (.ref 101), some (.int (nI (p + 1)))]) (rest := []) (rr := some (.int (nI (knum le p)))) (M1 := (mk_M (cT im le ln ys vt nu nn rf vw vq yc yh yg) n m kk q)) (fun f => rfl) (kd_two im le ln ys vt nu nn rf vw vq yc yh yg n m kk q p hB f1 f2 f3) ?_
  refine mr_seg 4 (pc1 := 14) (ls1 := [some (.ref 101), some (.int (nI p)), some (.int (nI mi)), some (.int (nI st)), some (.int (nI (knum le p)))]) (st1 := [.int (nI p), .ref 102]) (M1 := (mk_M (cT im le ln ys vt nu nn rf vw vq yc yh yg) n m kk q)) (fun f => rfl) ?_
  refine mr_ldn (xs := (le.map nI)) rfl rfl (v := 120) (k := p) (by omega) (kg_okc hc (by omega)) ?_
  refine mr_seg 5 (pc1 := 71) (ls1 := [some (.ref 101), some (.int (nI p)), some (.int (nI mi)), some (.int (nI st)), some (.int (nI (knum le p)))]) (st1 := [.int ((nI p) + (1 : Int32)), .ref 101]) (M1 := (mk_M (cT im le ln ys vt nu nn rf vw vq yc yh yg) n m kk q)) (fun f => rfl) ?_
  refine mr_v (nI_add p 1) ?_
  refine mr_call (y := 36) (y0 := 74) (L := [some (.ref 101), some (.int (nI (p + 1)))]) (rest := []) (rr := some (.int (nI (kg le (p + 1) - 48)))) (M1 := (mk_M (cT im le ln ys vt nu nn rf vw vq yc yh yg) n m kk q)) (fun f => rfl) (kd_dig im le ln ys vt nu nn rf vw vq yc yh yg n m kk q (p + 1) hB (by omega) (by omega)) ?_
  refine mr_seg 1 (pc1 := 75) (ls1 := [some (.ref 101), some (.int (nI p)), some (.int (nI mi)), some (.int (nI st)), some (.int (nI (knum le p)))]) (st1 := [.int (nI mi), .int (nI (kg le (p + 1) - 48))]) (M1 := (mk_M (cT im le ln ys vt nu nn rf vw vq yc yh yg) n m kk q)) (fun f => rfl) ?_
  refine mr_ifN (C := (nI (kg le (p + 1) - 48)) < (nI mi)) (nI_lti (a := kg le (p + 1) - 48) (b := mi) (by omega)) (fun f => rfl) (fun h1 => ?_) (fun h1 => ?_)
  · refine mr_eq (mr_ret 2 (o := (some (.int 0), (mk_M (cT im le ln ys vt nu nn rf vw vq yc yh yg) n m kk q))) (fun f => rfl)) ?_
    rw [show kwr le p mi st = false from (kwr_120 hc).trans (decide_eq_false (by omega))] <;> rfl
  · refine mr_eq (mr_ret 3 (o := (some (.int 1), (mk_M (cT im le ln ys vt nu nn rf vw vq yc yh yg) n m kk q))) (fun f => rfl)) ?_
    rw [show kwr le p mi st = true from (kwr_120 hc).trans (decide_eq_true (by omega))] <;> rfl
theorem kd_wr (im : Nat) (le : List Nat) (ln : Nat) (ys : List Int32) (vt : Int32) (nu : List Nat) (nn : Nat) (rf : List Nat) (vw vq : Int32) (yc yh yg : List Int32) (n m kk : kG) (q : cR) (p mi st : Nat) (hB : iB le ln) (hk : kmis le ln p = none) (hm : mi ≤ 5) (hs : st ≤ 999) : mm_R 34 0 [some (.ref 101), some (.int (nI p)), some (.int (nI mi)), some (.int (nI st)), none] [] (mk_M (cT im le ln ys vt nu nn rf vw vq yc yh yg) n m kk q) (some (.int (cond (kwr le p mi st) 1 0)), (mk_M (cT im le ln ys vt nu nn rf vw vq yc yh yg) n m kk q)) := by
  rcases kmis_l hk with hc | hc | hc | hc | hc | hc | hc | hc
  · rcases Nat.lt_or_ge (knum le p) 25 with hq | hq
    · exact kd_wr_99_0 im le ln ys vt nu nn rf vw vq yc yh yg n m kk q p mi st hB hk hm hs hc hq
    · exact kd_wr_99_1 im le ln ys vt nu nn rf vw vq yc yh yg n m kk q p mi st hB hk hm hs hc hq
  · rcases Nat.lt_or_ge (knum le p) 25 with hq | hq
    · exact kd_wr_107_0 im le ln ys vt nu nn rf vw vq yc yh yg n m kk q p mi st hB hk hm hs hc hq
    · exact kd_wr_107_1 im le ln ys vt nu nn rf vw vq yc yh yg n m kk q p mi st hB hk hm hs hc hq
  · rcases Nat.lt_or_ge (knum le p) 25 with hq | hq
    · exact kd_wr_98_0 im le ln ys vt nu nn rf vw vq yc yh yg n m kk q p mi st hB hk hm hs hc hq
    · exact kd_wr_98_1 im le ln ys vt nu nn rf vw vq yc yh yg n m kk q p mi st hB hk hm hs hc hq
  · rcases Nat.lt_or_ge (knum le p) 25 with hq | hq
    · exact kd_wr_103_0 im le ln ys vt nu nn rf vw vq yc yh yg n m kk q p mi st hB hk hm hs hc hq
    · exact kd_wr_103_1 im le ln ys vt nu nn rf vw vq yc yh yg n m kk q p mi st hB hk hm hs hc hq
  · exact kd_wr_119 im le ln ys vt nu nn rf vw vq yc yh yg n m kk q p mi st hB hk hm hs hc
  · exact kd_wr_115 im le ln ys vt nu nn rf vw vq yc yh yg n m kk q p mi st hB hk hm hs hc
  · exact kd_wr_109 im le ln ys vt nu nn rf vw vq yc yh yg n m kk q p mi st hB hk hm hs hc
  · exact kd_wr_120 im le ln ys vt nu nn rf vw vq yc yh yg n m kk q p mi st hB hk hm hs hc
set_option maxRecDepth 100000 in
theorem kd_ka (im : Nat) (le : List Nat) (ln : Nat) (ys : List Int32) (vt : Int32) (nu : List Nat) (nn : Nat) (rf : List Nat) (vw vq : Int32) (yc yh yg : List Int32) (n m kk : kG) (q : cR) (t kd : Nat) (hB : iB le ln) (ht : t < ln) (hkd : kkind (kg le t) = some kd) : mm_R 40 0 [some (.ref 101), some (.int (nI t))] [] (mk_M (cT im le ln ys vt nu nn rf vw vq yc yh yg) n m kk q) (some (.int (nI kd)), (mk_M (cT im le ln ys vt nu nn rf vw vq yc yh yg) n m kk q)) := by
  obtain ⟨b1, b2, b3⟩ := id hB
  have e0 := b2 t
  refine mr_seg 4 (pc1 := 7) (ls1 := [some (.ref 101), some (.int (nI t))]) (st1 := [.int (nI t), .ref 102, .ref 6]) (M1 := (mk_M (cT im le ln ys vt nu nn rf vw vq yc yh yg) n m kk q)) (fun f => rfl) ?_
  refine mr_ldk (l0 := le) rfl rfl (k := t) (by omega) ?_
  refine mr_seg 1 (pc1 := 9) (ls1 := [some (.ref 101), some (.int (nI t))]) (st1 := [.int (((nI (kg le t)).toUInt32 % 65536).toInt32), .ref 6]) (M1 := (mk_M (cT im le ln ys vt nu nn rf vw vq yc yh yg) n m kk q)) (fun f => rfl) ?_
  refine mr_v (k_i2c (show kg le t < 256 by omega)) ?_
  refine mr_call (y := 28) (y0 := 12) (L := [some (.ref 6), some (.int (nI (kg le t)))]) (rest := []) (rr := some (.int (nI kd))) (M1 := (mk_M (cT im le ln ys vt nu nn rf vw vq yc yh yg) n m kk q)) (fun f => rfl) (mr_eq (kd_io (c := kg le t) (by omega) _) (by rw [hkd] <;> rfl)) ?_
  exact mr_ret 1 (fun f => rfl)
set_option maxRecDepth 100000 in
theorem kd_ts_99 (he ke ki fi fa or : List Nat) (mi a g l w s : Nat) (im : Nat) (le : List Nat) (ln : Nat) (ys : List Int32) (vt : Int32) (nu : List Nat) (nn : Nat) (rf : List Nat) (vw vq : Int32) (yc yh yg : List Int32) (m kk : kG) (q : cR) (p : Nat) (hB : iB le ln) (hk : kmis le ln p = none) (hA : iA (he, ke, ki, fi, fa, or, mi, a, g, l, w, s)) (hw : kwr le p mi s = false) (hc : kg le p = 99) : mm_R 39 0 [some (.ref 101), some (.int (nI p)), some (.ref 117), none] [] (mk_M (cT im le ln ys vt nu nn rf vw vq yc yh yg) (kr (he, ke, ki, fi, fa, or, mi, a, g, l, w, s)) m kk q) (none, mk_M (cT im le ln ys vt nu nn rf vw vq yc yh yg) (kr (kapp le p (he, ke, ki, fi, fa, or, mi, a, g, l, w, s))) m kk q) := by
  obtain ⟨b1, b2, b3⟩ := id hB
  obtain ⟨hV, hst⟩ := id hA
  have hst2 : s ≤ 999 := hst
  obtain ⟨v1, v2, v3, v4, v5, v6, v7, v8, v9, v10, v11, v12, v13, v14, v15, v16⟩ := id hV
  have v6l := kO_len mi v7 or v6
  obtain ⟨f1, f2, f3⟩ := kst_f hk
  have e0 := b2 p
  have e1 := b2 (p + 1)
  have e2 := b2 (p + 2)
  have ekn := knum_lt e1 e2
  rw [kwr_99 hc] at hw
  have hq : ¬ (25 ≤ knum le p) := of_decide_eq_false hw
  have ok := kok_1 hk (by rw [hc]; rfl)
  have e3 := b2 (p + 3)
  refine mr_seg 4 (pc1 := 4) (ls1 := [some (.ref 101), some (.int (nI p)), some (.ref 117), none]) (st1 := [.int ((nI p) + (1 : Int32)), .ref 101]) (M1 := (mk_M (cT im le ln ys vt nu nn rf vw vq yc yh yg) (kr (he, ke, ki, fi, fa, or, mi, a, g, l, w, s)) m kk q)) (fun f => rfl) ?_
  refine mr_v (nI_add p 1) ?_
  refine mr_call (y := 35) (y0 := 7) (L := [some (.ref 101), some (.int (nI (p + 1)))]) (rest := []) (rr := some (.int (nI (knum le p)))) (M1 := (mk_M (cT im le ln ys vt nu nn rf vw vq yc yh yg) (kr (he, ke, ki, fi, fa, or, mi, a, g, l, w, s)) m kk q)) (fun f => rfl) (kd_two im le ln ys vt nu nn rf vw vq yc yh yg (kr (he, ke, ki, fi, fa, or, mi, a, g, l, w, s)) m kk q p hB f1 f2 f3) ?_
  refine mr_seg 4 (pc1 := 13) (ls1 := [some (.ref 101), some (.int (nI p)), some (.ref 117), some (.int (nI (knum le p)))]) (st1 := [.int (nI p), .ref 102]) (M1 := (mk_M (cT im le ln ys vt nu nn rf vw vq yc yh yg) (kr (he, ke, ki, fi, fa, or, mi, a, g, l, w, s)) m kk q)) (fun f => rfl) ?_
  refine mr_ldn (xs := (le.map nI)) rfl rfl (v := 99) (k := p) (by omega) (kg_okc hc (by omega)) ?_
  refine mr_seg 8 (pc1 := 129) (ls1 := [some (.ref 101), some (.int (nI p)), some (.ref 117), some (.int (nI (knum le p)))]) (st1 := [.int ((nI p) + (3 : Int32)), .ref 101, .int (nI (knum le p)), .ref 118]) (M1 := (mk_M (cT im le ln ys vt nu nn rf vw vq yc yh yg) (kr (he, ke, ki, fi, fa, or, mi, a, g, l, w, s)) m kk q)) (fun f => rfl) ?_
  refine mr_v (nI_add p 3) ?_
  refine mr_call (y := 36) (y0 := 132) (L := [some (.ref 101), some (.int (nI (p + 3)))]) (rest := [.int (nI (knum le p)), .ref 118]) (rr := some (.int (nI (kg le (p + 3) - 48)))) (M1 := (mk_M (cT im le ln ys vt nu nn rf vw vq yc yh yg) (kr (he, ke, ki, fi, fa, or, mi, a, g, l, w, s)) m kk q)) (fun f => rfl) (kd_dig im le ln ys vt nu nn rf vw vq yc yh yg (kr (he, ke, ki, fi, fa, or, mi, a, g, l, w, s)) m kk q (p + 3) hB (by omega) (by omega)) ?_
  refine mr_stk (l0 := he) (M2 := (mk_Mn (cT im le ln ys vt nu nn rf vw vq yc yh yg) ((he.set (knum le p) (kg le (p + 3) - 48)).map nI) (ke.map nI) (ki.map nI) (fi.map nI) (fa.map nI) (or.map nI) (nI mi) (nI a) (nI g) (nI l) (nI w) (nI s) m kk q)) rfl rfl (k := knum le p) (v := (kg le (p + 3) - 48)) (by omega) rfl ?_
  refine mr_M (mk_Nk (cT im le ln ys vt nu nn rf vw vq yc yh yg) (he.set (knum le p) (kg le (p + 3) - 48)) ke ki fi fa or mi a g l w s m kk q) ?_
  refine mr_eq (mr_ret 2 (o := (none, (mk_M (cT im le ln ys vt nu nn rf vw vq yc yh yg) (kr (he.set (knum le p) (kg le (p + 3) - 48), ke, ki, fi, fa, or, mi, a, g, l, w, s)) m kk q))) (fun f => rfl)) ?_
  rw [kapp_99 hc]
set_option maxRecDepth 100000 in
theorem kd_ts_107 (he ke ki fi fa or : List Nat) (mi a g l w s : Nat) (im : Nat) (le : List Nat) (ln : Nat) (ys : List Int32) (vt : Int32) (nu : List Nat) (nn : Nat) (rf : List Nat) (vw vq : Int32) (yc yh yg : List Int32) (m kk : kG) (q : cR) (p : Nat) (hB : iB le ln) (hk : kmis le ln p = none) (hA : iA (he, ke, ki, fi, fa, or, mi, a, g, l, w, s)) (hw : kwr le p mi s = false) (hc : kg le p = 107) : mm_R 39 0 [some (.ref 101), some (.int (nI p)), some (.ref 117), none] [] (mk_M (cT im le ln ys vt nu nn rf vw vq yc yh yg) (kr (he, ke, ki, fi, fa, or, mi, a, g, l, w, s)) m kk q) (none, mk_M (cT im le ln ys vt nu nn rf vw vq yc yh yg) (kr (kapp le p (he, ke, ki, fi, fa, or, mi, a, g, l, w, s))) m kk q) := by
  obtain ⟨b1, b2, b3⟩ := id hB
  obtain ⟨hV, hst⟩ := id hA
  have hst2 : s ≤ 999 := hst
  obtain ⟨v1, v2, v3, v4, v5, v6, v7, v8, v9, v10, v11, v12, v13, v14, v15, v16⟩ := id hV
  have v6l := kO_len mi v7 or v6
  obtain ⟨f1, f2, f3⟩ := kst_f hk
  have e0 := b2 p
  have e1 := b2 (p + 1)
  have e2 := b2 (p + 2)
  have ekn := knum_lt e1 e2
  rw [kwr_107 hc] at hw
  have hq : ¬ (25 ≤ knum le p) := of_decide_eq_false hw
  have w13 := v13 (knum le p)
  refine mr_seg 4 (pc1 := 4) (ls1 := [some (.ref 101), some (.int (nI p)), some (.ref 117), none]) (st1 := [.int ((nI p) + (1 : Int32)), .ref 101]) (M1 := (mk_M (cT im le ln ys vt nu nn rf vw vq yc yh yg) (kr (he, ke, ki, fi, fa, or, mi, a, g, l, w, s)) m kk q)) (fun f => rfl) ?_
  refine mr_v (nI_add p 1) ?_
  refine mr_call (y := 35) (y0 := 7) (L := [some (.ref 101), some (.int (nI (p + 1)))]) (rest := []) (rr := some (.int (nI (knum le p)))) (M1 := (mk_M (cT im le ln ys vt nu nn rf vw vq yc yh yg) (kr (he, ke, ki, fi, fa, or, mi, a, g, l, w, s)) m kk q)) (fun f => rfl) (kd_two im le ln ys vt nu nn rf vw vq yc yh yg (kr (he, ke, ki, fi, fa, or, mi, a, g, l, w, s)) m kk q p hB f1 f2 f3) ?_
  refine mr_seg 4 (pc1 := 13) (ls1 := [some (.ref 101), some (.int (nI p)), some (.ref 117), some (.int (nI (knum le p)))]) (st1 := [.int (nI p), .ref 102]) (M1 := (mk_M (cT im le ln ys vt nu nn rf vw vq yc yh yg) (kr (he, ke, ki, fi, fa, or, mi, a, g, l, w, s)) m kk q)) (fun f => rfl) ?_
  refine mr_ldn (xs := (le.map nI)) rfl rfl (v := 107) (k := p) (by omega) (kg_okc hc (by omega)) ?_
  refine mr_seg 8 (pc1 := 147) (ls1 := [some (.ref 101), some (.int (nI p)), some (.ref 117), some (.int (nI (knum le p)))]) (st1 := [.int (nI (knum le p)), .ref 119, .int 1, .int (nI (knum le p)), .ref 119]) (M1 := (mk_M (cT im le ln ys vt nu nn rf vw vq yc yh yg) (kr (he, ke, ki, fi, fa, or, mi, a, g, l, w, s)) m kk q)) (fun f => rfl) ?_
  refine mr_ldk (l0 := ke) rfl rfl (k := knum le p) (by omega) ?_
  refine mr_seg 1 (pc1 := 149) (ls1 := [some (.ref 101), some (.int (nI p)), some (.ref 117), some (.int (nI (knum le p)))]) (st1 := [.int ((1 : Int32) - (nI (kg ke (knum le p)))), .int (nI (knum le p)), .ref 119]) (M1 := (mk_M (cT im le ln ys vt nu nn rf vw vq yc yh yg) (kr (he, ke, ki, fi, fa, or, mi, a, g, l, w, s)) m kk q)) (fun f => rfl) ?_
  refine mr_v (pk_sub (a := 1) (b := kg ke (knum le p)) (by omega)) ?_
  refine mr_stk (l0 := ke) (M2 := (mk_Mn (cT im le ln ys vt nu nn rf vw vq yc yh yg) (he.map nI) ((ke.set (knum le p) (1 - (kg ke (knum le p)))).map nI) (ki.map nI) (fi.map nI) (fa.map nI) (or.map nI) (nI mi) (nI a) (nI g) (nI l) (nI w) (nI s) m kk q)) rfl rfl (k := knum le p) (v := (1 - (kg ke (knum le p)))) (by omega) rfl ?_
  refine mr_M (mk_Nk (cT im le ln ys vt nu nn rf vw vq yc yh yg) he (ke.set (knum le p) (1 - (kg ke (knum le p)))) ki fi fa or mi a g l w s m kk q) ?_
  refine mr_eq (mr_ret 2 (o := (none, (mk_M (cT im le ln ys vt nu nn rf vw vq yc yh yg) (kr (he, ke.set (knum le p) (1 - (kg ke (knum le p))), ki, fi, fa, or, mi, a, g, l, w, s)) m kk q))) (fun f => rfl)) ?_
  rw [kapp_107 hc]
set_option maxRecDepth 100000 in
theorem kd_ts_98 (he ke ki fi fa or : List Nat) (mi a g l w s : Nat) (im : Nat) (le : List Nat) (ln : Nat) (ys : List Int32) (vt : Int32) (nu : List Nat) (nn : Nat) (rf : List Nat) (vw vq : Int32) (yc yh yg : List Int32) (m kk : kG) (q : cR) (p : Nat) (hB : iB le ln) (hk : kmis le ln p = none) (hA : iA (he, ke, ki, fi, fa, or, mi, a, g, l, w, s)) (hw : kwr le p mi s = false) (hc : kg le p = 98) : mm_R 39 0 [some (.ref 101), some (.int (nI p)), some (.ref 117), none] [] (mk_M (cT im le ln ys vt nu nn rf vw vq yc yh yg) (kr (he, ke, ki, fi, fa, or, mi, a, g, l, w, s)) m kk q) (none, mk_M (cT im le ln ys vt nu nn rf vw vq yc yh yg) (kr (kapp le p (he, ke, ki, fi, fa, or, mi, a, g, l, w, s))) m kk q) := by
  obtain ⟨b1, b2, b3⟩ := id hB
  obtain ⟨hV, hst⟩ := id hA
  have hst2 : s ≤ 999 := hst
  obtain ⟨v1, v2, v3, v4, v5, v6, v7, v8, v9, v10, v11, v12, v13, v14, v15, v16⟩ := id hV
  have v6l := kO_len mi v7 or v6
  obtain ⟨f1, f2, f3⟩ := kst_f hk
  have e0 := b2 p
  have e1 := b2 (p + 1)
  have e2 := b2 (p + 2)
  have ekn := knum_lt e1 e2
  rw [kwr_98 hc] at hw
  have hq : ¬ (25 ≤ knum le p) := of_decide_eq_false hw
  refine mr_seg 4 (pc1 := 4) (ls1 := [some (.ref 101), some (.int (nI p)), some (.ref 117), none]) (st1 := [.int ((nI p) + (1 : Int32)), .ref 101]) (M1 := (mk_M (cT im le ln ys vt nu nn rf vw vq yc yh yg) (kr (he, ke, ki, fi, fa, or, mi, a, g, l, w, s)) m kk q)) (fun f => rfl) ?_
  refine mr_v (nI_add p 1) ?_
  refine mr_call (y := 35) (y0 := 7) (L := [some (.ref 101), some (.int (nI (p + 1)))]) (rest := []) (rr := some (.int (nI (knum le p)))) (M1 := (mk_M (cT im le ln ys vt nu nn rf vw vq yc yh yg) (kr (he, ke, ki, fi, fa, or, mi, a, g, l, w, s)) m kk q)) (fun f => rfl) (kd_two im le ln ys vt nu nn rf vw vq yc yh yg (kr (he, ke, ki, fi, fa, or, mi, a, g, l, w, s)) m kk q p hB f1 f2 f3) ?_
  refine mr_seg 4 (pc1 := 13) (ls1 := [some (.ref 101), some (.int (nI p)), some (.ref 117), some (.int (nI (knum le p)))]) (st1 := [.int (nI p), .ref 102]) (M1 := (mk_M (cT im le ln ys vt nu nn rf vw vq yc yh yg) (kr (he, ke, ki, fi, fa, or, mi, a, g, l, w, s)) m kk q)) (fun f => rfl) ?_
  refine mr_ldn (xs := (le.map nI)) rfl rfl (v := 98) (k := p) (by omega) (kg_okc hc (by omega)) ?_
  refine mr_seg 4 (pc1 := 179) (ls1 := [some (.ref 101), some (.int (nI p)), some (.ref 117), some (.int (nI (knum le p)))]) (st1 := []) (M1 := (mk_Mn (cT im le ln ys vt nu nn rf vw vq yc yh yg) (he.map nI) (ke.map nI) (ki.map nI) (fi.map nI) (fa.map nI) (or.map nI) (nI mi) (nI (knum le p)) (nI g) (nI l) (nI w) (nI s) m kk q)) (fun f => rfl) ?_
  refine mr_M (mk_Nk (cT im le ln ys vt nu nn rf vw vq yc yh yg) he ke ki fi fa or mi (knum le p) g l w s m kk q) ?_
  refine mr_eq (mr_ret 2 (o := (none, (mk_M (cT im le ln ys vt nu nn rf vw vq yc yh yg) (kr (he, ke, ki, fi, fa, or, mi, knum le p, g, l, w, s)) m kk q))) (fun f => rfl)) ?_
  rw [kapp_98 hc]
set_option maxRecDepth 100000 in
theorem kd_ts_103 (he ke ki fi fa or : List Nat) (mi a g l w s : Nat) (im : Nat) (le : List Nat) (ln : Nat) (ys : List Int32) (vt : Int32) (nu : List Nat) (nn : Nat) (rf : List Nat) (vw vq : Int32) (yc yh yg : List Int32) (m kk : kG) (q : cR) (p : Nat) (hB : iB le ln) (hk : kmis le ln p = none) (hA : iA (he, ke, ki, fi, fa, or, mi, a, g, l, w, s)) (hw : kwr le p mi s = false) (hc : kg le p = 103) : mm_R 39 0 [some (.ref 101), some (.int (nI p)), some (.ref 117), none] [] (mk_M (cT im le ln ys vt nu nn rf vw vq yc yh yg) (kr (he, ke, ki, fi, fa, or, mi, a, g, l, w, s)) m kk q) (none, mk_M (cT im le ln ys vt nu nn rf vw vq yc yh yg) (kr (kapp le p (he, ke, ki, fi, fa, or, mi, a, g, l, w, s))) m kk q) := by
  obtain ⟨b1, b2, b3⟩ := id hB
  obtain ⟨hV, hst⟩ := id hA
  have hst2 : s ≤ 999 := hst
  obtain ⟨v1, v2, v3, v4, v5, v6, v7, v8, v9, v10, v11, v12, v13, v14, v15, v16⟩ := id hV
  have v6l := kO_len mi v7 or v6
  obtain ⟨f1, f2, f3⟩ := kst_f hk
  have e0 := b2 p
  have e1 := b2 (p + 1)
  have e2 := b2 (p + 2)
  have ekn := knum_lt e1 e2
  rw [kwr_103 hc] at hw
  have hq : ¬ (25 ≤ knum le p) := of_decide_eq_false hw
  refine mr_seg 4 (pc1 := 4) (ls1 := [some (.ref 101), some (.int (nI p)), some (.ref 117), none]) (st1 := [.int ((nI p) + (1 : Int32)), .ref 101]) (M1 := (mk_M (cT im le ln ys vt nu nn rf vw vq yc yh yg) (kr (he, ke, ki, fi, fa, or, mi, a, g, l, w, s)) m kk q)) (fun f => rfl) ?_
  refine mr_v (nI_add p 1) ?_
  refine mr_call (y := 35) (y0 := 7) (L := [some (.ref 101), some (.int (nI (p + 1)))]) (rest := []) (rr := some (.int (nI (knum le p)))) (M1 := (mk_M (cT im le ln ys vt nu nn rf vw vq yc yh yg) (kr (he, ke, ki, fi, fa, or, mi, a, g, l, w, s)) m kk q)) (fun f => rfl) (kd_two im le ln ys vt nu nn rf vw vq yc yh yg (kr (he, ke, ki, fi, fa, or, mi, a, g, l, w, s)) m kk q p hB f1 f2 f3) ?_
  refine mr_seg 4 (pc1 := 13) (ls1 := [some (.ref 101), some (.int (nI p)), some (.ref 117), some (.int (nI (knum le p)))]) (st1 := [.int (nI p), .ref 102]) (M1 := (mk_M (cT im le ln ys vt nu nn rf vw vq yc yh yg) (kr (he, ke, ki, fi, fa, or, mi, a, g, l, w, s)) m kk q)) (fun f => rfl) ?_
  refine mr_ldn (xs := (le.map nI)) rfl rfl (v := 103) (k := p) (by omega) (kg_okc hc (by omega)) ?_
  refine mr_seg 4 (pc1 := 187) (ls1 := [some (.ref 101), some (.int (nI p)), some (.ref 117), some (.int (nI (knum le p)))]) (st1 := []) (M1 := (mk_Mn (cT im le ln ys vt nu nn rf vw vq yc yh yg) (he.map nI) (ke.map nI) (ki.map nI) (fi.map nI) (fa.map nI) (or.map nI) (nI mi) (nI a) (nI (knum le p)) (nI l) (nI w) (nI s) m kk q)) (fun f => rfl) ?_
  refine mr_M (mk_Nk (cT im le ln ys vt nu nn rf vw vq yc yh yg) he ke ki fi fa or mi a (knum le p) l w s m kk q) ?_
  refine mr_eq (mr_ret 2 (o := (none, (mk_M (cT im le ln ys vt nu nn rf vw vq yc yh yg) (kr (he, ke, ki, fi, fa, or, mi, a, knum le p, l, w, s)) m kk q))) (fun f => rfl)) ?_
  rw [kapp_103 hc]
set_option maxRecDepth 100000 in
theorem kd_ts_119 (he ke ki fi fa or : List Nat) (mi a g l w s : Nat) (im : Nat) (le : List Nat) (ln : Nat) (ys : List Int32) (vt : Int32) (nu : List Nat) (nn : Nat) (rf : List Nat) (vw vq : Int32) (yc yh yg : List Int32) (m kk : kG) (q : cR) (p : Nat) (hB : iB le ln) (hk : kmis le ln p = none) (hA : iA (he, ke, ki, fi, fa, or, mi, a, g, l, w, s)) (hw : kwr le p mi s = false) (hc : kg le p = 119) : mm_R 39 0 [some (.ref 101), some (.int (nI p)), some (.ref 117), none] [] (mk_M (cT im le ln ys vt nu nn rf vw vq yc yh yg) (kr (he, ke, ki, fi, fa, or, mi, a, g, l, w, s)) m kk q) (none, mk_M (cT im le ln ys vt nu nn rf vw vq yc yh yg) (kr (kapp le p (he, ke, ki, fi, fa, or, mi, a, g, l, w, s))) m kk q) := by
  obtain ⟨b1, b2, b3⟩ := id hB
  obtain ⟨hV, hst⟩ := id hA
  have hst2 : s ≤ 999 := hst
  obtain ⟨v1, v2, v3, v4, v5, v6, v7, v8, v9, v10, v11, v12, v13, v14, v15, v16⟩ := id hV
  have v6l := kO_len mi v7 or v6
  obtain ⟨f1, f2, f3⟩ := kst_f hk
  have e0 := b2 p
  have e1 := b2 (p + 1)
  have e2 := b2 (p + 2)
  have ekn := knum_lt e1 e2
  rw [kwr_119 hc] at hw
  have hq : ¬ (20 < knum le p) := of_decide_eq_false hw
  refine mr_seg 4 (pc1 := 4) (ls1 := [some (.ref 101), some (.int (nI p)), some (.ref 117), none]) (st1 := [.int ((nI p) + (1 : Int32)), .ref 101]) (M1 := (mk_M (cT im le ln ys vt nu nn rf vw vq yc yh yg) (kr (he, ke, ki, fi, fa, or, mi, a, g, l, w, s)) m kk q)) (fun f => rfl) ?_
  refine mr_v (nI_add p 1) ?_
  refine mr_call (y := 35) (y0 := 7) (L := [some (.ref 101), some (.int (nI (p + 1)))]) (rest := []) (rr := some (.int (nI (knum le p)))) (M1 := (mk_M (cT im le ln ys vt nu nn rf vw vq yc yh yg) (kr (he, ke, ki, fi, fa, or, mi, a, g, l, w, s)) m kk q)) (fun f => rfl) (kd_two im le ln ys vt nu nn rf vw vq yc yh yg (kr (he, ke, ki, fi, fa, or, mi, a, g, l, w, s)) m kk q p hB f1 f2 f3) ?_
  refine mr_seg 4 (pc1 := 13) (ls1 := [some (.ref 101), some (.int (nI p)), some (.ref 117), some (.int (nI (knum le p)))]) (st1 := [.int (nI p), .ref 102]) (M1 := (mk_M (cT im le ln ys vt nu nn rf vw vq yc yh yg) (kr (he, ke, ki, fi, fa, or, mi, a, g, l, w, s)) m kk q)) (fun f => rfl) ?_
  refine mr_ldn (xs := (le.map nI)) rfl rfl (v := 119) (k := p) (by omega) (kg_okc hc (by omega)) ?_
  refine mr_seg 4 (pc1 := 195) (ls1 := [some (.ref 101), some (.int (nI p)), some (.ref 117), some (.int (nI (knum le p)))]) (st1 := []) (M1 := (mk_Mn (cT im le ln ys vt nu nn rf vw vq yc yh yg) (he.map nI) (ke.map nI) (ki.map nI) (fi.map nI) (fa.map nI) (or.map nI) (nI mi) (nI a) (nI g) (nI l) (nI (knum le p)) (nI s) m kk q)) (fun f => rfl) ?_
  refine mr_M (mk_Nk (cT im le ln ys vt nu nn rf vw vq yc yh yg) he ke ki fi fa or mi a g l (knum le p) s m kk q) ?_
  refine mr_eq (mr_ret 2 (o := (none, (mk_M (cT im le ln ys vt nu nn rf vw vq yc yh yg) (kr (he, ke, ki, fi, fa, or, mi, a, g, l, knum le p, s)) m kk q))) (fun f => rfl)) ?_
  rw [kapp_119 hc]
set_option maxRecDepth 100000 in
theorem kd_ts_115 (he ke ki fi fa or : List Nat) (mi a g l w s : Nat) (im : Nat) (le : List Nat) (ln : Nat) (ys : List Int32) (vt : Int32) (nu : List Nat) (nn : Nat) (rf : List Nat) (vw vq : Int32) (yc yh yg : List Int32) (m kk : kG) (q : cR) (p : Nat) (hB : iB le ln) (hk : kmis le ln p = none) (hA : iA (he, ke, ki, fi, fa, or, mi, a, g, l, w, s)) (hw : kwr le p mi s = false) (hc : kg le p = 115) : mm_R 39 0 [some (.ref 101), some (.int (nI p)), some (.ref 117), none] [] (mk_M (cT im le ln ys vt nu nn rf vw vq yc yh yg) (kr (he, ke, ki, fi, fa, or, mi, a, g, l, w, s)) m kk q) (none, mk_M (cT im le ln ys vt nu nn rf vw vq yc yh yg) (kr (kapp le p (he, ke, ki, fi, fa, or, mi, a, g, l, w, s))) m kk q) := by
  obtain ⟨b1, b2, b3⟩ := id hB
  obtain ⟨hV, hst⟩ := id hA
  have hst2 : s ≤ 999 := hst
  obtain ⟨v1, v2, v3, v4, v5, v6, v7, v8, v9, v10, v11, v12, v13, v14, v15, v16⟩ := id hV
  have v6l := kO_len mi v7 or v6
  obtain ⟨f1, f2, f3⟩ := kst_f hk
  have e0 := b2 p
  have e1 := b2 (p + 1)
  have e2 := b2 (p + 2)
  have ekn := knum_lt e1 e2
  rw [kwr_115 hc] at hw
  have hq : ¬ (knum le p < 1 ∨ 60 < knum le p ∨ 999 < s + knum le p) := of_decide_eq_false hw
  refine mr_seg 4 (pc1 := 4) (ls1 := [some (.ref 101), some (.int (nI p)), some (.ref 117), none]) (st1 := [.int ((nI p) + (1 : Int32)), .ref 101]) (M1 := (mk_M (cT im le ln ys vt nu nn rf vw vq yc yh yg) (kr (he, ke, ki, fi, fa, or, mi, a, g, l, w, s)) m kk q)) (fun f => rfl) ?_
  refine mr_v (nI_add p 1) ?_
  refine mr_call (y := 35) (y0 := 7) (L := [some (.ref 101), some (.int (nI (p + 1)))]) (rest := []) (rr := some (.int (nI (knum le p)))) (M1 := (mk_M (cT im le ln ys vt nu nn rf vw vq yc yh yg) (kr (he, ke, ki, fi, fa, or, mi, a, g, l, w, s)) m kk q)) (fun f => rfl) (kd_two im le ln ys vt nu nn rf vw vq yc yh yg (kr (he, ke, ki, fi, fa, or, mi, a, g, l, w, s)) m kk q p hB f1 f2 f3) ?_
  refine mr_seg 4 (pc1 := 13) (ls1 := [some (.ref 101), some (.int (nI p)), some (.ref 117), some (.int (nI (knum le p)))]) (st1 := [.int (nI p), .ref 102]) (M1 := (mk_M (cT im le ln ys vt nu nn rf vw vq yc yh yg) (kr (he, ke, ki, fi, fa, or, mi, a, g, l, w, s)) m kk q)) (fun f => rfl) ?_
  refine mr_ldn (xs := (le.map nI)) rfl rfl (v := 115) (k := p) (by omega) (kg_okc hc (by omega)) ?_
  refine mr_seg 3 (pc1 := 214) (ls1 := [some (.ref 101), some (.int (nI p)), some (.ref 117), some (.int (nI (knum le p)))]) (st1 := [.int (nI (knum le p)), .ref 117]) (M1 := (mk_M (cT im le ln ys vt nu nn rf vw vq yc yh yg) (kr (he, ke, ki, fi, fa, or, mi, a, g, l, w, s)) m kk q)) (fun f => rfl) ?_
  refine mr_call (y := 43) (y0 := 217) (L := [some (.ref 117), some (.int (nI (knum le p))), none]) (rest := []) (rr := none) (M1 := (mk_M (cT im le ln ys vt nu nn rf vw vq yc yh yg) (kr (ksteps (knum le p) (he, ke, ki, fi, fa, or, mi, a, g, l, w, s))) m kk q)) (fun f => rfl) (kl_n (cT im le ln ys vt nu nn rf vw vq yc yh yg) m kk q (kc_by_n (knum le p) (by omega) (he, ke, ki, fi, fa, or, mi, a, g, l, w, s) hV (show s < 2 ^ 20 by omega))) ?_
  refine mr_eq (mr_ret 2 (o := (none, (mk_M (cT im le ln ys vt nu nn rf vw vq yc yh yg) (kr (ksteps (knum le p) (he, ke, ki, fi, fa, or, mi, a, g, l, w, s))) m kk q))) (fun f => rfl)) ?_
  rw [kapp_115 hc]
set_option maxRecDepth 100000 in
theorem kd_ts_109 (he ke ki fi fa or : List Nat) (mi a g l w s : Nat) (im : Nat) (le : List Nat) (ln : Nat) (ys : List Int32) (vt : Int32) (nu : List Nat) (nn : Nat) (rf : List Nat) (vw vq : Int32) (yc yh yg : List Int32) (m kk : kG) (q : cR) (p : Nat) (hB : iB le ln) (hk : kmis le ln p = none) (hA : iA (he, ke, ki, fi, fa, or, mi, a, g, l, w, s)) (hw : kwr le p mi s = false) (hc : kg le p = 109) : mm_R 39 0 [some (.ref 101), some (.int (nI p)), some (.ref 117), none] [] (mk_M (cT im le ln ys vt nu nn rf vw vq yc yh yg) (kr (he, ke, ki, fi, fa, or, mi, a, g, l, w, s)) m kk q) (none, mk_M (cT im le ln ys vt nu nn rf vw vq yc yh yg) (kr (kapp le p (he, ke, ki, fi, fa, or, mi, a, g, l, w, s))) m kk q) := by
  obtain ⟨b1, b2, b3⟩ := id hB
  obtain ⟨hV, hst⟩ := id hA
  have hst2 : s ≤ 999 := hst
  obtain ⟨v1, v2, v3, v4, v5, v6, v7, v8, v9, v10, v11, v12, v13, v14, v15, v16⟩ := id hV
  have v6l := kO_len mi v7 or v6
  obtain ⟨f1, f2, f3⟩ := kst_f hk
  have e0 := b2 p
  have e1 := b2 (p + 1)
  have e2 := b2 (p + 2)
  have ekn := knum_lt e1 e2
  rw [kwr_109 hc] at hw
  have hq : ¬ (5 ≤ mi) := of_decide_eq_false hw
  obtain ⟨o1, ⟨kd, hkd⟩, o3, o4, o5⟩ := kok_2 hk (by rw [hc]; rfl)
  have o6 := (kkind_le hkd).1
  refine mr_seg 4 (pc1 := 4) (ls1 := [some (.ref 101), some (.int (nI p)), some (.ref 117), none]) (st1 := [.int ((nI p) + (1 : Int32)), .ref 101]) (M1 := (mk_M (cT im le ln ys vt nu nn rf vw vq yc yh yg) (kr (he, ke, ki, fi, fa, or, mi, a, g, l, w, s)) m kk q)) (fun f => rfl) ?_
  refine mr_v (nI_add p 1) ?_
  refine mr_call (y := 35) (y0 := 7) (L := [some (.ref 101), some (.int (nI (p + 1)))]) (rest := []) (rr := some (.int (nI (knum le p)))) (M1 := (mk_M (cT im le ln ys vt nu nn rf vw vq yc yh yg) (kr (he, ke, ki, fi, fa, or, mi, a, g, l, w, s)) m kk q)) (fun f => rfl) (kd_two im le ln ys vt nu nn rf vw vq yc yh yg (kr (he, ke, ki, fi, fa, or, mi, a, g, l, w, s)) m kk q p hB f1 f2 f3) ?_
  refine mr_seg 4 (pc1 := 13) (ls1 := [some (.ref 101), some (.int (nI p)), some (.ref 117), some (.int (nI (knum le p)))]) (st1 := [.int (nI p), .ref 102]) (M1 := (mk_M (cT im le ln ys vt nu nn rf vw vq yc yh yg) (kr (he, ke, ki, fi, fa, or, mi, a, g, l, w, s)) m kk q)) (fun f => rfl) ?_
  refine mr_ldn (xs := (le.map nI)) rfl rfl (v := 109) (k := p) (by omega) (kg_okc hc (by omega)) ?_
  refine mr_seg 6 (pc1 := 158) (ls1 := [some (.ref 101), some (.int (nI p)), some (.ref 117), some (.int (nI (knum le p)))]) (st1 := [.int ((nI p) + (1 : Int32)), .ref 101, .ref 117]) (M1 := (mk_M (cT im le ln ys vt nu nn rf vw vq yc yh yg) (kr (he, ke, ki, fi, fa, or, mi, a, g, l, w, s)) m kk q)) (fun f => rfl) ?_
  refine mr_v (nI_add p 1) ?_
  refine mr_call (y := 40) (y0 := 161) (L := [some (.ref 101), some (.int (nI (p + 1)))]) (rest := [.ref 117]) (rr := some (.int (nI kd))) (M1 := (mk_M (cT im le ln ys vt nu nn rf vw vq yc yh yg) (kr (he, ke, ki, fi, fa, or, mi, a, g, l, w, s)) m kk q)) (fun f => rfl) (kd_ka im le ln ys vt nu nn rf vw vq yc yh yg (kr (he, ke, ki, fi, fa, or, mi, a, g, l, w, s)) m kk q (p + 1) kd hB (by omega) hkd) ?_
  refine mr_seg 4 (pc1 := 165) (ls1 := [some (.ref 101), some (.int (nI p)), some (.ref 117), some (.int (nI (knum le p)))]) (st1 := [.int ((nI p) + (2 : Int32)), .ref 101, .int (nI kd), .ref 117]) (M1 := (mk_M (cT im le ln ys vt nu nn rf vw vq yc yh yg) (kr (he, ke, ki, fi, fa, or, mi, a, g, l, w, s)) m kk q)) (fun f => rfl) ?_
  refine mr_v (nI_add p 2) ?_
  refine mr_call (y := 36) (y0 := 168) (L := [some (.ref 101), some (.int (nI (p + 2)))]) (rest := [.int (nI kd), .ref 117]) (rr := some (.int (nI (kg le (p + 2) - 48)))) (M1 := (mk_M (cT im le ln ys vt nu nn rf vw vq yc yh yg) (kr (he, ke, ki, fi, fa, or, mi, a, g, l, w, s)) m kk q)) (fun f => rfl) (kd_dig im le ln ys vt nu nn rf vw vq yc yh yg (kr (he, ke, ki, fi, fa, or, mi, a, g, l, w, s)) m kk q (p + 2) hB (by omega) (by omega)) ?_
  refine mr_call (y := 41) (y0 := 171) (L := [some (.ref 117), some (.int (nI kd)), some (.int (nI (kg le (p + 2) - 48)))]) (rest := []) (rr := none) (M1 := (mk_M (cT im le ln ys vt nu nn rf vw vq yc yh yg) (kr (he, ke, ki.set mi kd, fi.set mi (kg le (p + 2) - 48), fa.set mi 0, or.set mi mi, mi + 1, a, g, l, w, s)) m kk q)) (fun f => rfl) (by
      refine mr_seg 3 (pc1 := 5) (ls1 := [some (.ref 117), some (.int (nI kd)), some (.int (nI (kg le (p + 2) - 48)))]) (st1 := [.int 5, .int (nI mi)]) (M1 := (mk_M (cT im le ln ys vt nu nn rf vw vq yc yh yg) (kr (he, ke, ki, fi, fa, or, mi, a, g, l, w, s)) m kk q)) (fun f => rfl) ?_
      refine mr_f (C := 5 ≤ (nI mi)) (nI_lef (a := 5) (b := mi) (by omega)) (fun f => rfl) ?_
      refine mr_seg 5 (pc1 := 17) (ls1 := [some (.ref 117), some (.int (nI kd)), some (.int (nI (kg le (p + 2) - 48)))]) (st1 := [.int (nI kd), .int (nI mi), .ref 120]) (M1 := (mk_M (cT im le ln ys vt nu nn rf vw vq yc yh yg) (kr (he, ke, ki, fi, fa, or, mi, a, g, l, w, s)) m kk q)) (fun f => rfl) ?_
      refine mr_stk (l0 := ki) (M2 := (mk_Mn (cT im le ln ys vt nu nn rf vw vq yc yh yg) (he.map nI) (ke.map nI) ((ki.set mi kd).map nI) (fi.map nI) (fa.map nI) (or.map nI) (nI mi) (nI a) (nI g) (nI l) (nI w) (nI s) m kk q)) rfl rfl (k := mi) (v := kd) (by omega) rfl ?_
      refine mr_M (mk_Nk (cT im le ln ys vt nu nn rf vw vq yc yh yg) he ke (ki.set mi kd) fi fa or mi a g l w s m kk q) ?_
      refine mr_seg 5 (pc1 := 27) (ls1 := [some (.ref 117), some (.int (nI kd)), some (.int (nI (kg le (p + 2) - 48)))]) (st1 := [.int (nI (kg le (p + 2) - 48)), .int (nI mi), .ref 121]) (M1 := (mk_M (cT im le ln ys vt nu nn rf vw vq yc yh yg) (kr (he, ke, ki.set mi kd, fi, fa, or, mi, a, g, l, w, s)) m kk q)) (fun f => rfl) ?_
      refine mr_stk (l0 := fi) (M2 := (mk_Mn (cT im le ln ys vt nu nn rf vw vq yc yh yg) (he.map nI) (ke.map nI) ((ki.set mi kd).map nI) ((fi.set mi (kg le (p + 2) - 48)).map nI) (fa.map nI) (or.map nI) (nI mi) (nI a) (nI g) (nI l) (nI w) (nI s) m kk q)) rfl rfl (k := mi) (v := (kg le (p + 2) - 48)) (by omega) rfl ?_
      refine mr_M (mk_Nk (cT im le ln ys vt nu nn rf vw vq yc yh yg) he ke (ki.set mi kd) (fi.set mi (kg le (p + 2) - 48)) fa or mi a g l w s m kk q) ?_
      refine mr_seg 5 (pc1 := 37) (ls1 := [some (.ref 117), some (.int (nI kd)), some (.int (nI (kg le (p + 2) - 48)))]) (st1 := [.int 0, .int (nI mi), .ref 122]) (M1 := (mk_M (cT im le ln ys vt nu nn rf vw vq yc yh yg) (kr (he, ke, ki.set mi kd, fi.set mi (kg le (p + 2) - 48), fa, or, mi, a, g, l, w, s)) m kk q)) (fun f => rfl) ?_
      refine mr_stk (l0 := fa) (M2 := (mk_Mn (cT im le ln ys vt nu nn rf vw vq yc yh yg) (he.map nI) (ke.map nI) ((ki.set mi kd).map nI) ((fi.set mi (kg le (p + 2) - 48)).map nI) ((fa.set mi 0).map nI) (or.map nI) (nI mi) (nI a) (nI g) (nI l) (nI w) (nI s) m kk q)) rfl rfl (k := mi) (v := 0) (by omega) rfl ?_
      refine mr_M (mk_Nk (cT im le ln ys vt nu nn rf vw vq yc yh yg) he ke (ki.set mi kd) (fi.set mi (kg le (p + 2) - 48)) (fa.set mi 0) or mi a g l w s m kk q) ?_
      refine mr_seg 6 (pc1 := 50) (ls1 := [some (.ref 117), some (.int (nI kd)), some (.int (nI (kg le (p + 2) - 48)))]) (st1 := [.int (nI mi), .int (nI mi), .ref 123]) (M1 := (mk_M (cT im le ln ys vt nu nn rf vw vq yc yh yg) (kr (he, ke, ki.set mi kd, fi.set mi (kg le (p + 2) - 48), fa.set mi 0, or, mi, a, g, l, w, s)) m kk q)) (fun f => rfl) ?_
      refine mr_stk (l0 := or) (M2 := (mk_Mn (cT im le ln ys vt nu nn rf vw vq yc yh yg) (he.map nI) (ke.map nI) ((ki.set mi kd).map nI) ((fi.set mi (kg le (p + 2) - 48)).map nI) ((fa.set mi 0).map nI) ((or.set mi mi).map nI) (nI mi) (nI a) (nI g) (nI l) (nI w) (nI s) m kk q)) rfl rfl (k := mi) (v := mi) (by omega) rfl ?_
      refine mr_M (mk_Nk (cT im le ln ys vt nu nn rf vw vq yc yh yg) he ke (ki.set mi kd) (fi.set mi (kg le (p + 2) - 48)) (fa.set mi 0) (or.set mi mi) mi a g l w s m kk q) ?_
      refine mr_seg 5 (pc1 := 58) (ls1 := [some (.ref 117), some (.int (nI kd)), some (.int (nI (kg le (p + 2) - 48)))]) (st1 := [.int ((nI mi) + (1 : Int32)), .ref 117]) (M1 := (mk_M (cT im le ln ys vt nu nn rf vw vq yc yh yg) (kr (he, ke, ki.set mi kd, fi.set mi (kg le (p + 2) - 48), fa.set mi 0, or.set mi mi, mi, a, g, l, w, s)) m kk q)) (fun f => rfl) ?_
      refine mr_v (nI_add mi 1) ?_
      refine mr_seg 1 (pc1 := 61) (ls1 := [some (.ref 117), some (.int (nI kd)), some (.int (nI (kg le (p + 2) - 48)))]) (st1 := []) (M1 := (mk_Mn (cT im le ln ys vt nu nn rf vw vq yc yh yg) (he.map nI) (ke.map nI) ((ki.set mi kd).map nI) ((fi.set mi (kg le (p + 2) - 48)).map nI) ((fa.set mi 0).map nI) ((or.set mi mi).map nI) (nI (mi + 1)) (nI a) (nI g) (nI l) (nI w) (nI s) m kk q)) (fun f => rfl) ?_
      refine mr_M (mk_Nk (cT im le ln ys vt nu nn rf vw vq yc yh yg) he ke (ki.set mi kd) (fi.set mi (kg le (p + 2) - 48)) (fa.set mi 0) (or.set mi mi) (mi + 1) a g l w s m kk q) ?_
      exact mr_ret 1 (fun f => rfl)) ?_
  refine mr_eq (mr_ret 2 (o := (none, (mk_M (cT im le ln ys vt nu nn rf vw vq yc yh yg) (kr (he, ke, ki.set mi kd, fi.set mi (kg le (p + 2) - 48), fa.set mi 0, or.set mi mi, mi + 1, a, g, l, w, s)) m kk q))) (fun f => rfl)) ?_
  rw [kapp_109 hc, hkd]
  rfl
set_option maxRecDepth 100000 in
theorem kd_ts_120 (he ke ki fi fa or : List Nat) (mi a g l w s : Nat) (im : Nat) (le : List Nat) (ln : Nat) (ys : List Int32) (vt : Int32) (nu : List Nat) (nn : Nat) (rf : List Nat) (vw vq : Int32) (yc yh yg : List Int32) (m kk : kG) (q : cR) (p : Nat) (hB : iB le ln) (hk : kmis le ln p = none) (hA : iA (he, ke, ki, fi, fa, or, mi, a, g, l, w, s)) (hw : kwr le p mi s = false) (hc : kg le p = 120) : mm_R 39 0 [some (.ref 101), some (.int (nI p)), some (.ref 117), none] [] (mk_M (cT im le ln ys vt nu nn rf vw vq yc yh yg) (kr (he, ke, ki, fi, fa, or, mi, a, g, l, w, s)) m kk q) (none, mk_M (cT im le ln ys vt nu nn rf vw vq yc yh yg) (kr (kapp le p (he, ke, ki, fi, fa, or, mi, a, g, l, w, s))) m kk q) := by
  obtain ⟨b1, b2, b3⟩ := id hB
  obtain ⟨hV, hst⟩ := id hA
  have hst2 : s ≤ 999 := hst
  obtain ⟨v1, v2, v3, v4, v5, v6, v7, v8, v9, v10, v11, v12, v13, v14, v15, v16⟩ := id hV
  have v6l := kO_len mi v7 or v6
  obtain ⟨f1, f2, f3⟩ := kst_f hk
  have e0 := b2 p
  have e1 := b2 (p + 1)
  have e2 := b2 (p + 2)
  have ekn := knum_lt e1 e2
  rw [kwr_120 hc] at hw
  have hq : ¬ (mi ≤ kg le (p + 1) - 48) := of_decide_eq_false hw
  have ok := kok_3 hk (by rw [hc]; rfl)
  refine mr_seg 4 (pc1 := 4) (ls1 := [some (.ref 101), some (.int (nI p)), some (.ref 117), none]) (st1 := [.int ((nI p) + (1 : Int32)), .ref 101]) (M1 := (mk_M (cT im le ln ys vt nu nn rf vw vq yc yh yg) (kr (he, ke, ki, fi, fa, or, mi, a, g, l, w, s)) m kk q)) (fun f => rfl) ?_
  refine mr_v (nI_add p 1) ?_
  refine mr_call (y := 35) (y0 := 7) (L := [some (.ref 101), some (.int (nI (p + 1)))]) (rest := []) (rr := some (.int (nI (knum le p)))) (M1 := (mk_M (cT im le ln ys vt nu nn rf vw vq yc yh yg) (kr (he, ke, ki, fi, fa, or, mi, a, g, l, w, s)) m kk q)) (fun f => rfl) (kd_two im le ln ys vt nu nn rf vw vq yc yh yg (kr (he, ke, ki, fi, fa, or, mi, a, g, l, w, s)) m kk q p hB f1 f2 f3) ?_
  refine mr_seg 4 (pc1 := 13) (ls1 := [some (.ref 101), some (.int (nI p)), some (.ref 117), some (.int (nI (knum le p)))]) (st1 := [.int (nI p), .ref 102]) (M1 := (mk_M (cT im le ln ys vt nu nn rf vw vq yc yh yg) (kr (he, ke, ki, fi, fa, or, mi, a, g, l, w, s)) m kk q)) (fun f => rfl) ?_
  refine mr_ldn (xs := (le.map nI)) rfl rfl (v := 120) (k := p) (by omega) (kg_okc hc (by omega)) ?_
  refine mr_seg 6 (pc1 := 203) (ls1 := [some (.ref 101), some (.int (nI p)), some (.ref 117), some (.int (nI (knum le p)))]) (st1 := [.int ((nI p) + (1 : Int32)), .ref 101, .ref 117]) (M1 := (mk_M (cT im le ln ys vt nu nn rf vw vq yc yh yg) (kr (he, ke, ki, fi, fa, or, mi, a, g, l, w, s)) m kk q)) (fun f => rfl) ?_
  refine mr_v (nI_add p 1) ?_
  refine mr_call (y := 36) (y0 := 206) (L := [some (.ref 101), some (.int (nI (p + 1)))]) (rest := [.ref 117]) (rr := some (.int (nI (kg le (p + 1) - 48)))) (M1 := (mk_M (cT im le ln ys vt nu nn rf vw vq yc yh yg) (kr (he, ke, ki, fi, fa, or, mi, a, g, l, w, s)) m kk q)) (fun f => rfl) (kd_dig im le ln ys vt nu nn rf vw vq yc yh yg (kr (he, ke, ki, fi, fa, or, mi, a, g, l, w, s)) m kk q (p + 1) hB (by omega) (by omega)) ?_
  refine mr_call (y := 42) (y0 := 209) (L := [some (.ref 117), some (.int (nI (kg le (p + 1) - 48))), none, none]) (rest := []) (rr := none) (M1 := (mk_M (cT im le ln ys vt nu nn rf vw vq yc yh yg) (kr (he, ke, ki, fi, fa, klast or mi (kg le (p + 1) - 48), mi, a, g, l, w, s)) m kk q)) (fun f => rfl) (kl_n (cT im le ln ys vt nu nn rf vw vq yc yh yg) m kk q (kc_last_n he ke ki fi fa or mi a g l w s (kg le (p + 1) - 48) (by omega) v6 v7)) ?_
  refine mr_eq (mr_ret 2 (o := (none, (mk_M (cT im le ln ys vt nu nn rf vw vq yc yh yg) (kr (he, ke, ki, fi, fa, klast or mi (kg le (p + 1) - 48), mi, a, g, l, w, s)) m kk q))) (fun f => rfl)) ?_
  rw [kapp_120 hc]
theorem kd_ts0 (he ke ki fi fa or : List Nat) (mi a g l w s : Nat) (im : Nat) (le : List Nat) (ln : Nat) (ys : List Int32) (vt : Int32) (nu : List Nat) (nn : Nat) (rf : List Nat) (vw vq : Int32) (yc yh yg : List Int32) (m kk : kG) (q : cR) (p : Nat) (hB : iB le ln) (hk : kmis le ln p = none) (hA : iA (he, ke, ki, fi, fa, or, mi, a, g, l, w, s)) (hw : kwr le p mi s = false) : mm_R 39 0 [some (.ref 101), some (.int (nI p)), some (.ref 117), none] [] (mk_M (cT im le ln ys vt nu nn rf vw vq yc yh yg) (kr (he, ke, ki, fi, fa, or, mi, a, g, l, w, s)) m kk q) (none, mk_M (cT im le ln ys vt nu nn rf vw vq yc yh yg) (kr (kapp le p (he, ke, ki, fi, fa, or, mi, a, g, l, w, s))) m kk q) := by
  rcases kmis_l hk with hc | hc | hc | hc | hc | hc | hc | hc
  · exact kd_ts_99 he ke ki fi fa or mi a g l w s im le ln ys vt nu nn rf vw vq yc yh yg m kk q p hB hk hA hw hc
  · exact kd_ts_107 he ke ki fi fa or mi a g l w s im le ln ys vt nu nn rf vw vq yc yh yg m kk q p hB hk hA hw hc
  · exact kd_ts_98 he ke ki fi fa or mi a g l w s im le ln ys vt nu nn rf vw vq yc yh yg m kk q p hB hk hA hw hc
  · exact kd_ts_103 he ke ki fi fa or mi a g l w s im le ln ys vt nu nn rf vw vq yc yh yg m kk q p hB hk hA hw hc
  · exact kd_ts_119 he ke ki fi fa or mi a g l w s im le ln ys vt nu nn rf vw vq yc yh yg m kk q p hB hk hA hw hc
  · exact kd_ts_115 he ke ki fi fa or mi a g l w s im le ln ys vt nu nn rf vw vq yc yh yg m kk q p hB hk hA hw hc
  · exact kd_ts_109 he ke ki fi fa or mi a g l w s im le ln ys vt nu nn rf vw vq yc yh yg m kk q p hB hk hA hw hc
  · exact kd_ts_120 he ke ki fi fa or mi a g l w s im le ln ys vt nu nn rf vw vq yc yh yg m kk q p hB hk hA hw hc
theorem kd_ts (K : kK) (im : Nat) (le : List Nat) (ln : Nat) (ys : List Int32) (vt : Int32) (nu : List Nat) (nn : Nat) (rf : List Nat) (vw vq : Int32) (yc yh yg : List Int32) (m kk : kG) (q : cR) (p : Nat) (hB : iB le ln) (hk : kmis le ln p = none) (hA : iA K) (hw : kwr le p (k_mi K) (k_st K) = false) : mm_R 39 0 [some (.ref 101), some (.int (nI p)), some (.ref 117), none] [] (mk_M (cT im le ln ys vt nu nn rf vw vq yc yh yg) (kr K) m kk q) (none, mk_M (cT im le ln ys vt nu nn rf vw vq yc yh yg) (kr (kapp le p K)) m kk q) := by
  obtain ⟨he, ke, ki, fi, fa, or, mi, a, g, l, w, s⟩ := K
  exact kd_ts0 he ke ki fi fa or mi a g l w s im le ln ys vt nu nn rf vw vq yc yh yg m kk q p hB hk hA hw
set_option maxRecDepth 100000 in
theorem kd_fmA0 (im : Nat) (le : List Nat) (ln : Nat) (nu : List Nat) (nn : Nat) (rf : List Nat) (vw vq : Int32) (yc yh yg : List Int32) (n m kk : kG) (q : cR) (hB : iB le ln) (k0 mf : Nat) (hL : kL le ln k0) (hmf0 : kmis le ln (kpos le k0) = some mf) (hmb : mf < 1000) (k : Nat) : ∀ (i : Nat) (ys : List Int32) (lo : Option Value), i + k = k0 → ys.length = 96 → (∀ i2, i2 < i → ys[i2]? = some (nI (kpos le i2))) → mm_E 16 7 [some (.ref 101), some (.int (nI (kpos le i))), lo] [] (mk_M (cT im le ln ys (nI i) nu nn rf vw vq yc yh yg) n m kk q) (fun r M1 => r = some (.int (nI mf)) ∧ ∃ (ys2 : List Int32) (vt2 : Int32), ys2.length = 96 ∧ M1 = mk_M (cT im le ln ys2 vt2 nu nn rf vw vq yc yh yg) n m kk q) := by
  obtain ⟨b1, b2, b3⟩ := id hB
  induction k with
  | zero =>
    intro i ys lo hi hy hys
    have hb := kpos_le hL i (by omega)
    have hmf : kmis le ln (kpos le i) = some mf := by rw [show i = k0 by omega]; exact hmf0
    refine me_seg 2 (pc1 := 9) (ls1 := [some (.ref 101), some (.int (nI (kpos le i))), lo]) (st1 := [.int (nI (kpos le i)), .ref 101]) (M1 := (mk_M (cT im le ln ys (nI i) nu nn rf vw vq yc yh yg) n m kk q)) (fun f => rfl) ?_
    refine me_call (y := 17) (y0 := 12) (L := [some (.ref 101), some (.int (nI (kpos le i))), none, none, none]) (rest := []) (rr := some (.int (nI mf))) (M1 := (mk_M (cT im le ln ys (nI i) nu nn rf vw vq yc yh yg) n m kk q)) (fun f => rfl) (mr_eq (kd_mis im le ln ys (nI i) nu nn rf vw vq yc yh yg n m kk q (kpos le i) hB (by omega)) (by rw [hmf] <;> rfl)) ?_
    refine me_seg 3 (pc1 := 16) (ls1 := [some (.ref 101), some (.int (nI (kpos le i))), some (.int (nI mf))]) (st1 := [.int (-9), .int (nI mf)]) (M1 := (mk_M (cT im le ln ys (nI i) nu nn rf vw vq yc yh yg) n m kk q)) (fun f => rfl) ?_
    refine me_f (C := (nI mf) = (-9)) (k_n9 (by omega)) (fun f => rfl) ?_
    refine me_ret 2 (r := some (.int (nI mf))) (M1 := (mk_M (cT im le ln ys (nI i) nu nn rf vw vq yc yh yg) n m kk q)) (fun f => rfl) ?_
    exact ⟨rfl, ys, nI i, hy, rfl⟩
  | succ k IH =>
    intro i ys lo hi hy hys
    have hb := kpos_le hL i (by omega)
    obtain ⟨hk, hlt⟩ := hL i (by omega)
    have hkl := kmis_lt hk
    rcases kshr_c (kg le (kpos le i)) with hs | hs | hs | hs | hs
    · have he : kpos le (i + 1) = kpos le i + 5 := by
        show knx le (kpos le i) = _
        unfold knx
        rw [hs]
        show kpos le i + 1 + 4 = _
        omega
      refine me_seg 2 (pc1 := 9) (ls1 := [some (.ref 101), some (.int (nI (kpos le i))), lo]) (st1 := [.int (nI (kpos le i)), .ref 101]) (M1 := (mk_M (cT im le ln ys (nI i) nu nn rf vw vq yc yh yg) n m kk q)) (fun f => rfl) ?_
      refine me_call (y := 17) (y0 := 12) (L := [some (.ref 101), some (.int (nI (kpos le i))), none, none, none]) (rest := []) (rr := some (.int (-9))) (M1 := (mk_M (cT im le ln ys (nI i) nu nn rf vw vq yc yh yg) n m kk q)) (fun f => rfl) (mr_eq (kd_mis im le ln ys (nI i) nu nn rf vw vq yc yh yg n m kk q (kpos le i) hB (by omega)) (by rw [hk] <;> rfl)) ?_
      refine me_seg 9 (pc1 := 30) (ls1 := [some (.ref 101), some (.int (nI (kpos le i))), some (.int (-9))]) (st1 := [.int (nI (kpos le i)), .int (nI i), .ref 103]) (M1 := (mk_M (cT im le ln ys (nI i) nu nn rf vw vq yc yh yg) n m kk q)) (fun f => rfl) ?_
      refine me_stn (xs := ys) (ys := (ys.set i (nI (kpos le i)))) (M2 := (mk_M (cT im le ln (ys.set i (nI (kpos le i))) (nI i) nu nn rf vw vq yc yh yg) n m kk q)) rfl rfl (k := i) (by omega) (by omega) rfl rfl ?_
      refine me_seg 5 (pc1 := 38) (ls1 := [some (.ref 101), some (.int (nI (kpos le i))), some (.int (-9))]) (st1 := [.int ((nI i) + (1 : Int32)), .ref 101]) (M1 := (mk_M (cT im le ln (ys.set i (nI (kpos le i))) (nI i) nu nn rf vw vq yc yh yg) n m kk q)) (fun f => rfl) ?_
      refine me_v (nI_add i 1) ?_
      refine me_seg 6 (pc1 := 48) (ls1 := [some (.ref 101), some (.int (nI (kpos le i))), some (.int (-9))]) (st1 := [.int (nI (kpos le i)), .ref 102, .int 1, .int (nI (kpos le i))]) (M1 := (mk_M (cT im le ln (ys.set i (nI (kpos le i))) (nI (i + 1)) nu nn rf vw vq yc yh yg) n m kk q)) (fun f => rfl) ?_
      refine me_ldn (xs := (le.map nI)) rfl rfl (k := kpos le i) (by omega) (kg_ok (by omega)) ?_
      refine me_call (y := 18) (y0 := 52) (L := [some (.int (nI (kg le (kpos le i))))]) (rest := [.int 1, .int (nI (kpos le i))]) (rr := some (.ref 1)) (M1 := (mk_M (cT im le ln (ys.set i (nI (kpos le i))) (nI (i + 1)) nu nn rf vw vq yc yh yg) n m kk q)) (fun f => rfl) (mr_eq (kd_shp (c := kg le (kpos le i)) (by have := b2 (kpos le i); omega) _) (by rw [hs])) ?_
      refine me_call (y := 20) (y0 := 55) (L := [some (.ref 1)]) (rest := [.int 1, .int (nI (kpos le i))]) (rr := some (.int 4)) (M1 := (mk_M (cT im le ln (ys.set i (nI (kpos le i))) (nI (i + 1)) nu nn rf vw vq yc yh yg) n m kk q)) (fun f => rfl) (mr_chk_ok (n := 300) (z := 20) (ls := [some (.ref 1)]) (v := 4) (by decide +kernel) _) ?_
      refine me_seg 2 (pc1 := 57) (ls1 := [some (.ref 101), some (.int (nI (kpos le i))), some (.int (-9))]) (st1 := [.int ((nI (kpos le i)) + (5 : Int32))]) (M1 := (mk_M (cT im le ln (ys.set i (nI (kpos le i))) (nI (i + 1)) nu nn rf vw vq yc yh yg) n m kk q)) (fun f => rfl) ?_
      refine me_v (nI_add (kpos le i) 5) ?_
      refine me_seg 4 (pc1 := 63) (ls1 := [some (.ref 101), some (.int (nI (kpos le i + 5))), some (.int (-9))]) (st1 := [.int (nI ln), .int (nI (kpos le i + 5))]) (M1 := (mk_M (cT im le ln (ys.set i (nI (kpos le i))) (nI (i + 1)) nu nn rf vw vq yc yh yg) n m kk q)) (fun f => rfl) ?_
      refine me_t (C := (nI (kpos le i + 5)) < (nI ln)) (nI_ltt (a := kpos le i + 5) (b := ln) (by omega)) (fun f => rfl) ?_
      have IH2 := IH (i + 1) (ys.set i (nI (kpos le i))) (some (.int (-9))) (by omega) (by rw [List.length_set]; exact hy) ?_
      · rw [he] at IH2
        exact IH2
      · intro i2 h2
        rw [List.getElem?_set]
        by_cases e : i = i2
        · subst e
          rw [if_pos rfl, if_pos (by omega)]
        · rw [if_neg e]
          exact hys i2 (by omega)
    · have he : kpos le (i + 1) = kpos le i + 4 := by
        show knx le (kpos le i) = _
        unfold knx
        rw [hs]
        show kpos le i + 1 + 3 = _
        omega
      refine me_seg 2 (pc1 := 9) (ls1 := [some (.ref 101), some (.int (nI (kpos le i))), lo]) (st1 := [.int (nI (kpos le i)), .ref 101]) (M1 := (mk_M (cT im le ln ys (nI i) nu nn rf vw vq yc yh yg) n m kk q)) (fun f => rfl) ?_
      refine me_call (y := 17) (y0 := 12) (L := [some (.ref 101), some (.int (nI (kpos le i))), none, none, none]) (rest := []) (rr := some (.int (-9))) (M1 := (mk_M (cT im le ln ys (nI i) nu nn rf vw vq yc yh yg) n m kk q)) (fun f => rfl) (mr_eq (kd_mis im le ln ys (nI i) nu nn rf vw vq yc yh yg n m kk q (kpos le i) hB (by omega)) (by rw [hk] <;> rfl)) ?_
      refine me_seg 9 (pc1 := 30) (ls1 := [some (.ref 101), some (.int (nI (kpos le i))), some (.int (-9))]) (st1 := [.int (nI (kpos le i)), .int (nI i), .ref 103]) (M1 := (mk_M (cT im le ln ys (nI i) nu nn rf vw vq yc yh yg) n m kk q)) (fun f => rfl) ?_
      refine me_stn (xs := ys) (ys := (ys.set i (nI (kpos le i)))) (M2 := (mk_M (cT im le ln (ys.set i (nI (kpos le i))) (nI i) nu nn rf vw vq yc yh yg) n m kk q)) rfl rfl (k := i) (by omega) (by omega) rfl rfl ?_
      refine me_seg 5 (pc1 := 38) (ls1 := [some (.ref 101), some (.int (nI (kpos le i))), some (.int (-9))]) (st1 := [.int ((nI i) + (1 : Int32)), .ref 101]) (M1 := (mk_M (cT im le ln (ys.set i (nI (kpos le i))) (nI i) nu nn rf vw vq yc yh yg) n m kk q)) (fun f => rfl) ?_
      refine me_v (nI_add i 1) ?_
      refine me_seg 6 (pc1 := 48) (ls1 := [some (.ref 101), some (.int (nI (kpos le i))), some (.int (-9))]) (st1 := [.int (nI (kpos le i)), .ref 102, .int 1, .int (nI (kpos le i))]) (M1 := (mk_M (cT im le ln (ys.set i (nI (kpos le i))) (nI (i + 1)) nu nn rf vw vq yc yh yg) n m kk q)) (fun f => rfl) ?_
      refine me_ldn (xs := (le.map nI)) rfl rfl (k := kpos le i) (by omega) (kg_ok (by omega)) ?_
      refine me_call (y := 18) (y0 := 52) (L := [some (.int (nI (kg le (kpos le i))))]) (rest := [.int 1, .int (nI (kpos le i))]) (rr := some (.ref 2)) (M1 := (mk_M (cT im le ln (ys.set i (nI (kpos le i))) (nI (i + 1)) nu nn rf vw vq yc yh yg) n m kk q)) (fun f => rfl) (mr_eq (kd_shp (c := kg le (kpos le i)) (by have := b2 (kpos le i); omega) _) (by rw [hs])) ?_
      refine me_call (y := 20) (y0 := 55) (L := [some (.ref 2)]) (rest := [.int 1, .int (nI (kpos le i))]) (rr := some (.int 3)) (M1 := (mk_M (cT im le ln (ys.set i (nI (kpos le i))) (nI (i + 1)) nu nn rf vw vq yc yh yg) n m kk q)) (fun f => rfl) (mr_chk_ok (n := 300) (z := 20) (ls := [some (.ref 2)]) (v := 3) (by decide +kernel) _) ?_
      refine me_seg 2 (pc1 := 57) (ls1 := [some (.ref 101), some (.int (nI (kpos le i))), some (.int (-9))]) (st1 := [.int ((nI (kpos le i)) + (4 : Int32))]) (M1 := (mk_M (cT im le ln (ys.set i (nI (kpos le i))) (nI (i + 1)) nu nn rf vw vq yc yh yg) n m kk q)) (fun f => rfl) ?_
      refine me_v (nI_add (kpos le i) 4) ?_
      refine me_seg 4 (pc1 := 63) (ls1 := [some (.ref 101), some (.int (nI (kpos le i + 4))), some (.int (-9))]) (st1 := [.int (nI ln), .int (nI (kpos le i + 4))]) (M1 := (mk_M (cT im le ln (ys.set i (nI (kpos le i))) (nI (i + 1)) nu nn rf vw vq yc yh yg) n m kk q)) (fun f => rfl) ?_
      refine me_t (C := (nI (kpos le i + 4)) < (nI ln)) (nI_ltt (a := kpos le i + 4) (b := ln) (by omega)) (fun f => rfl) ?_
      have IH2 := IH (i + 1) (ys.set i (nI (kpos le i))) (some (.int (-9))) (by omega) (by rw [List.length_set]; exact hy) ?_
      · rw [he] at IH2
        exact IH2
      · intro i2 h2
        rw [List.getElem?_set]
        by_cases e : i = i2
        · subst e
          rw [if_pos rfl, if_pos (by omega)]
        · rw [if_neg e]
          exact hys i2 (by omega)
    · have he : kpos le (i + 1) = kpos le i + 3 := by
        show knx le (kpos le i) = _
        unfold knx
        rw [hs]
        show kpos le i + 1 + 2 = _
        omega
      refine me_seg 2 (pc1 := 9) (ls1 := [some (.ref 101), some (.int (nI (kpos le i))), lo]) (st1 := [.int (nI (kpos le i)), .ref 101]) (M1 := (mk_M (cT im le ln ys (nI i) nu nn rf vw vq yc yh yg) n m kk q)) (fun f => rfl) ?_
      refine me_call (y := 17) (y0 := 12) (L := [some (.ref 101), some (.int (nI (kpos le i))), none, none, none]) (rest := []) (rr := some (.int (-9))) (M1 := (mk_M (cT im le ln ys (nI i) nu nn rf vw vq yc yh yg) n m kk q)) (fun f => rfl) (mr_eq (kd_mis im le ln ys (nI i) nu nn rf vw vq yc yh yg n m kk q (kpos le i) hB (by omega)) (by rw [hk] <;> rfl)) ?_
      refine me_seg 9 (pc1 := 30) (ls1 := [some (.ref 101), some (.int (nI (kpos le i))), some (.int (-9))]) (st1 := [.int (nI (kpos le i)), .int (nI i), .ref 103]) (M1 := (mk_M (cT im le ln ys (nI i) nu nn rf vw vq yc yh yg) n m kk q)) (fun f => rfl) ?_
      refine me_stn (xs := ys) (ys := (ys.set i (nI (kpos le i)))) (M2 := (mk_M (cT im le ln (ys.set i (nI (kpos le i))) (nI i) nu nn rf vw vq yc yh yg) n m kk q)) rfl rfl (k := i) (by omega) (by omega) rfl rfl ?_
      refine me_seg 5 (pc1 := 38) (ls1 := [some (.ref 101), some (.int (nI (kpos le i))), some (.int (-9))]) (st1 := [.int ((nI i) + (1 : Int32)), .ref 101]) (M1 := (mk_M (cT im le ln (ys.set i (nI (kpos le i))) (nI i) nu nn rf vw vq yc yh yg) n m kk q)) (fun f => rfl) ?_
      refine me_v (nI_add i 1) ?_
      refine me_seg 6 (pc1 := 48) (ls1 := [some (.ref 101), some (.int (nI (kpos le i))), some (.int (-9))]) (st1 := [.int (nI (kpos le i)), .ref 102, .int 1, .int (nI (kpos le i))]) (M1 := (mk_M (cT im le ln (ys.set i (nI (kpos le i))) (nI (i + 1)) nu nn rf vw vq yc yh yg) n m kk q)) (fun f => rfl) ?_
      refine me_ldn (xs := (le.map nI)) rfl rfl (k := kpos le i) (by omega) (kg_ok (by omega)) ?_
      refine me_call (y := 18) (y0 := 52) (L := [some (.int (nI (kg le (kpos le i))))]) (rest := [.int 1, .int (nI (kpos le i))]) (rr := some (.ref 3)) (M1 := (mk_M (cT im le ln (ys.set i (nI (kpos le i))) (nI (i + 1)) nu nn rf vw vq yc yh yg) n m kk q)) (fun f => rfl) (mr_eq (kd_shp (c := kg le (kpos le i)) (by have := b2 (kpos le i); omega) _) (by rw [hs])) ?_
      refine me_call (y := 20) (y0 := 55) (L := [some (.ref 3)]) (rest := [.int 1, .int (nI (kpos le i))]) (rr := some (.int 2)) (M1 := (mk_M (cT im le ln (ys.set i (nI (kpos le i))) (nI (i + 1)) nu nn rf vw vq yc yh yg) n m kk q)) (fun f => rfl) (mr_chk_ok (n := 300) (z := 20) (ls := [some (.ref 3)]) (v := 2) (by decide +kernel) _) ?_
      refine me_seg 2 (pc1 := 57) (ls1 := [some (.ref 101), some (.int (nI (kpos le i))), some (.int (-9))]) (st1 := [.int ((nI (kpos le i)) + (3 : Int32))]) (M1 := (mk_M (cT im le ln (ys.set i (nI (kpos le i))) (nI (i + 1)) nu nn rf vw vq yc yh yg) n m kk q)) (fun f => rfl) ?_
      refine me_v (nI_add (kpos le i) 3) ?_
      refine me_seg 4 (pc1 := 63) (ls1 := [some (.ref 101), some (.int (nI (kpos le i + 3))), some (.int (-9))]) (st1 := [.int (nI ln), .int (nI (kpos le i + 3))]) (M1 := (mk_M (cT im le ln (ys.set i (nI (kpos le i))) (nI (i + 1)) nu nn rf vw vq yc yh yg) n m kk q)) (fun f => rfl) ?_
      refine me_t (C := (nI (kpos le i + 3)) < (nI ln)) (nI_ltt (a := kpos le i + 3) (b := ln) (by omega)) (fun f => rfl) ?_
      have IH2 := IH (i + 1) (ys.set i (nI (kpos le i))) (some (.int (-9))) (by omega) (by rw [List.length_set]; exact hy) ?_
      · rw [he] at IH2
        exact IH2
      · intro i2 h2
        rw [List.getElem?_set]
        by_cases e : i = i2
        · subst e
          rw [if_pos rfl, if_pos (by omega)]
        · rw [if_neg e]
          exact hys i2 (by omega)
    · have he : kpos le (i + 1) = kpos le i + 4 := by
        show knx le (kpos le i) = _
        unfold knx
        rw [hs]
        show kpos le i + 1 + 3 = _
        omega
      refine me_seg 2 (pc1 := 9) (ls1 := [some (.ref 101), some (.int (nI (kpos le i))), lo]) (st1 := [.int (nI (kpos le i)), .ref 101]) (M1 := (mk_M (cT im le ln ys (nI i) nu nn rf vw vq yc yh yg) n m kk q)) (fun f => rfl) ?_
      refine me_call (y := 17) (y0 := 12) (L := [some (.ref 101), some (.int (nI (kpos le i))), none, none, none]) (rest := []) (rr := some (.int (-9))) (M1 := (mk_M (cT im le ln ys (nI i) nu nn rf vw vq yc yh yg) n m kk q)) (fun f => rfl) (mr_eq (kd_mis im le ln ys (nI i) nu nn rf vw vq yc yh yg n m kk q (kpos le i) hB (by omega)) (by rw [hk] <;> rfl)) ?_
      refine me_seg 9 (pc1 := 30) (ls1 := [some (.ref 101), some (.int (nI (kpos le i))), some (.int (-9))]) (st1 := [.int (nI (kpos le i)), .int (nI i), .ref 103]) (M1 := (mk_M (cT im le ln ys (nI i) nu nn rf vw vq yc yh yg) n m kk q)) (fun f => rfl) ?_
      refine me_stn (xs := ys) (ys := (ys.set i (nI (kpos le i)))) (M2 := (mk_M (cT im le ln (ys.set i (nI (kpos le i))) (nI i) nu nn rf vw vq yc yh yg) n m kk q)) rfl rfl (k := i) (by omega) (by omega) rfl rfl ?_
      refine me_seg 5 (pc1 := 38) (ls1 := [some (.ref 101), some (.int (nI (kpos le i))), some (.int (-9))]) (st1 := [.int ((nI i) + (1 : Int32)), .ref 101]) (M1 := (mk_M (cT im le ln (ys.set i (nI (kpos le i))) (nI i) nu nn rf vw vq yc yh yg) n m kk q)) (fun f => rfl) ?_
      refine me_v (nI_add i 1) ?_
      refine me_seg 6 (pc1 := 48) (ls1 := [some (.ref 101), some (.int (nI (kpos le i))), some (.int (-9))]) (st1 := [.int (nI (kpos le i)), .ref 102, .int 1, .int (nI (kpos le i))]) (M1 := (mk_M (cT im le ln (ys.set i (nI (kpos le i))) (nI (i + 1)) nu nn rf vw vq yc yh yg) n m kk q)) (fun f => rfl) ?_
      refine me_ldn (xs := (le.map nI)) rfl rfl (k := kpos le i) (by omega) (kg_ok (by omega)) ?_
      refine me_call (y := 18) (y0 := 52) (L := [some (.int (nI (kg le (kpos le i))))]) (rest := [.int 1, .int (nI (kpos le i))]) (rr := some (.ref 4)) (M1 := (mk_M (cT im le ln (ys.set i (nI (kpos le i))) (nI (i + 1)) nu nn rf vw vq yc yh yg) n m kk q)) (fun f => rfl) (mr_eq (kd_shp (c := kg le (kpos le i)) (by have := b2 (kpos le i); omega) _) (by rw [hs])) ?_
      refine me_call (y := 20) (y0 := 55) (L := [some (.ref 4)]) (rest := [.int 1, .int (nI (kpos le i))]) (rr := some (.int 3)) (M1 := (mk_M (cT im le ln (ys.set i (nI (kpos le i))) (nI (i + 1)) nu nn rf vw vq yc yh yg) n m kk q)) (fun f => rfl) (mr_chk_ok (n := 300) (z := 20) (ls := [some (.ref 4)]) (v := 3) (by decide +kernel) _) ?_
      refine me_seg 2 (pc1 := 57) (ls1 := [some (.ref 101), some (.int (nI (kpos le i))), some (.int (-9))]) (st1 := [.int ((nI (kpos le i)) + (4 : Int32))]) (M1 := (mk_M (cT im le ln (ys.set i (nI (kpos le i))) (nI (i + 1)) nu nn rf vw vq yc yh yg) n m kk q)) (fun f => rfl) ?_
      refine me_v (nI_add (kpos le i) 4) ?_
      refine me_seg 4 (pc1 := 63) (ls1 := [some (.ref 101), some (.int (nI (kpos le i + 4))), some (.int (-9))]) (st1 := [.int (nI ln), .int (nI (kpos le i + 4))]) (M1 := (mk_M (cT im le ln (ys.set i (nI (kpos le i))) (nI (i + 1)) nu nn rf vw vq yc yh yg) n m kk q)) (fun f => rfl) ?_
      refine me_t (C := (nI (kpos le i + 4)) < (nI ln)) (nI_ltt (a := kpos le i + 4) (b := ln) (by omega)) (fun f => rfl) ?_
      have IH2 := IH (i + 1) (ys.set i (nI (kpos le i))) (some (.int (-9))) (by omega) (by rw [List.length_set]; exact hy) ?_
      · rw [he] at IH2
        exact IH2
      · intro i2 h2
        rw [List.getElem?_set]
        by_cases e : i = i2
        · subst e
          rw [if_pos rfl, if_pos (by omega)]
        · rw [if_neg e]
          exact hys i2 (by omega)
    · rw [kmis_5 (kmis_lt hk) hs] at hk
      cases hk
set_option maxRecDepth 100000 in
theorem kd_fmB0 (im : Nat) (le : List Nat) (ln : Nat) (nu : List Nat) (nn : Nat) (rf : List Nat) (vw vq : Int32) (yc yh yg : List Int32) (n m kk : kG) (q : cR) (hB : iB le ln) (k0 : Nat) (hL : kL le ln k0) (hkk : kmis le ln (kpos le k0) = none) (hge : ¬ kpos le (k0 + 1) < ln) (k : Nat) : ∀ (i : Nat) (ys : List Int32) (lo : Option Value), i + k = k0 → ys.length = 96 → (∀ i2, i2 < i → ys[i2]? = some (nI (kpos le i2))) → mm_E 16 7 [some (.ref 101), some (.int (nI (kpos le i))), lo] [] (mk_M (cT im le ln ys (nI i) nu nn rf vw vq yc yh yg) n m kk q) (fun r M1 => r = some (.int (-9)) ∧ ∃ ys2 : List Int32, ys2.length = 96 ∧ (∀ i, i ≤ k0 → ys2[i]? = some (nI (kpos le i))) ∧ M1 = mk_M (cT im le ln ys2 (nI (k0 + 1)) nu nn rf vw vq yc yh yg) n m kk q) := by
  obtain ⟨b1, b2, b3⟩ := id hB
  induction k with
  | zero =>
    intro i ys lo hi hy hys
    have hb := kpos_le hL i (by omega)
    have hk : kmis le ln (kpos le i) = none := by rw [show i = k0 by omega]; exact hkk
    have hge2 : ¬ kpos le (i + 1) < ln := by rw [show i = k0 by omega]; exact hge
    have hkl := kmis_lt hk
    rcases kshr_c (kg le (kpos le i)) with hs | hs | hs | hs | hs
    · have he : kpos le (i + 1) = kpos le i + 5 := by
        show knx le (kpos le i) = _
        unfold knx
        rw [hs]
        show kpos le i + 1 + 4 = _
        omega
      refine me_seg 2 (pc1 := 9) (ls1 := [some (.ref 101), some (.int (nI (kpos le i))), lo]) (st1 := [.int (nI (kpos le i)), .ref 101]) (M1 := (mk_M (cT im le ln ys (nI i) nu nn rf vw vq yc yh yg) n m kk q)) (fun f => rfl) ?_
      refine me_call (y := 17) (y0 := 12) (L := [some (.ref 101), some (.int (nI (kpos le i))), none, none, none]) (rest := []) (rr := some (.int (-9))) (M1 := (mk_M (cT im le ln ys (nI i) nu nn rf vw vq yc yh yg) n m kk q)) (fun f => rfl) (mr_eq (kd_mis im le ln ys (nI i) nu nn rf vw vq yc yh yg n m kk q (kpos le i) hB (by omega)) (by rw [hk] <;> rfl)) ?_
      refine me_seg 9 (pc1 := 30) (ls1 := [some (.ref 101), some (.int (nI (kpos le i))), some (.int (-9))]) (st1 := [.int (nI (kpos le i)), .int (nI i), .ref 103]) (M1 := (mk_M (cT im le ln ys (nI i) nu nn rf vw vq yc yh yg) n m kk q)) (fun f => rfl) ?_
      refine me_stn (xs := ys) (ys := (ys.set i (nI (kpos le i)))) (M2 := (mk_M (cT im le ln (ys.set i (nI (kpos le i))) (nI i) nu nn rf vw vq yc yh yg) n m kk q)) rfl rfl (k := i) (by omega) (by omega) rfl rfl ?_
      refine me_seg 5 (pc1 := 38) (ls1 := [some (.ref 101), some (.int (nI (kpos le i))), some (.int (-9))]) (st1 := [.int ((nI i) + (1 : Int32)), .ref 101]) (M1 := (mk_M (cT im le ln (ys.set i (nI (kpos le i))) (nI i) nu nn rf vw vq yc yh yg) n m kk q)) (fun f => rfl) ?_
      refine me_v (nI_add i 1) ?_
      refine me_seg 6 (pc1 := 48) (ls1 := [some (.ref 101), some (.int (nI (kpos le i))), some (.int (-9))]) (st1 := [.int (nI (kpos le i)), .ref 102, .int 1, .int (nI (kpos le i))]) (M1 := (mk_M (cT im le ln (ys.set i (nI (kpos le i))) (nI (i + 1)) nu nn rf vw vq yc yh yg) n m kk q)) (fun f => rfl) ?_
      refine me_ldn (xs := (le.map nI)) rfl rfl (k := kpos le i) (by omega) (kg_ok (by omega)) ?_
      refine me_call (y := 18) (y0 := 52) (L := [some (.int (nI (kg le (kpos le i))))]) (rest := [.int 1, .int (nI (kpos le i))]) (rr := some (.ref 1)) (M1 := (mk_M (cT im le ln (ys.set i (nI (kpos le i))) (nI (i + 1)) nu nn rf vw vq yc yh yg) n m kk q)) (fun f => rfl) (mr_eq (kd_shp (c := kg le (kpos le i)) (by have := b2 (kpos le i); omega) _) (by rw [hs])) ?_
      refine me_call (y := 20) (y0 := 55) (L := [some (.ref 1)]) (rest := [.int 1, .int (nI (kpos le i))]) (rr := some (.int 4)) (M1 := (mk_M (cT im le ln (ys.set i (nI (kpos le i))) (nI (i + 1)) nu nn rf vw vq yc yh yg) n m kk q)) (fun f => rfl) (mr_chk_ok (n := 300) (z := 20) (ls := [some (.ref 1)]) (v := 4) (by decide +kernel) _) ?_
      refine me_seg 2 (pc1 := 57) (ls1 := [some (.ref 101), some (.int (nI (kpos le i))), some (.int (-9))]) (st1 := [.int ((nI (kpos le i)) + (5 : Int32))]) (M1 := (mk_M (cT im le ln (ys.set i (nI (kpos le i))) (nI (i + 1)) nu nn rf vw vq yc yh yg) n m kk q)) (fun f => rfl) ?_
      refine me_v (nI_add (kpos le i) 5) ?_
      refine me_seg 4 (pc1 := 63) (ls1 := [some (.ref 101), some (.int (nI (kpos le i + 5))), some (.int (-9))]) (st1 := [.int (nI ln), .int (nI (kpos le i + 5))]) (M1 := (mk_M (cT im le ln (ys.set i (nI (kpos le i))) (nI (i + 1)) nu nn rf vw vq yc yh yg) n m kk q)) (fun f => rfl) ?_
      refine me_f (C := (nI (kpos le i + 5)) < (nI ln)) (nI_ltf (a := kpos le i + 5) (b := ln) (by omega)) (fun f => rfl) ?_
      refine me_ret 2 (r := some (.int (-9))) (M1 := (mk_M (cT im le ln (ys.set i (nI (kpos le i))) (nI (i + 1)) nu nn rf vw vq yc yh yg) n m kk q)) (fun f => rfl) ?_
      refine ⟨rfl, (ys.set i (nI (kpos le i))), by rw [List.length_set]; exact hy, fun i2 h2 => ?_, by rw [show k0 = i by omega]⟩
      rw [List.getElem?_set]
      by_cases e : i = i2
      · subst e
        rw [if_pos rfl, if_pos (by omega)]
      · rw [if_neg e]
        exact hys i2 (by omega)
    · have he : kpos le (i + 1) = kpos le i + 4 := by
        show knx le (kpos le i) = _
        unfold knx
        rw [hs]
        show kpos le i + 1 + 3 = _
        omega
      refine me_seg 2 (pc1 := 9) (ls1 := [some (.ref 101), some (.int (nI (kpos le i))), lo]) (st1 := [.int (nI (kpos le i)), .ref 101]) (M1 := (mk_M (cT im le ln ys (nI i) nu nn rf vw vq yc yh yg) n m kk q)) (fun f => rfl) ?_
      refine me_call (y := 17) (y0 := 12) (L := [some (.ref 101), some (.int (nI (kpos le i))), none, none, none]) (rest := []) (rr := some (.int (-9))) (M1 := (mk_M (cT im le ln ys (nI i) nu nn rf vw vq yc yh yg) n m kk q)) (fun f => rfl) (mr_eq (kd_mis im le ln ys (nI i) nu nn rf vw vq yc yh yg n m kk q (kpos le i) hB (by omega)) (by rw [hk] <;> rfl)) ?_
      refine me_seg 9 (pc1 := 30) (ls1 := [some (.ref 101), some (.int (nI (kpos le i))), some (.int (-9))]) (st1 := [.int (nI (kpos le i)), .int (nI i), .ref 103]) (M1 := (mk_M (cT im le ln ys (nI i) nu nn rf vw vq yc yh yg) n m kk q)) (fun f => rfl) ?_
      refine me_stn (xs := ys) (ys := (ys.set i (nI (kpos le i)))) (M2 := (mk_M (cT im le ln (ys.set i (nI (kpos le i))) (nI i) nu nn rf vw vq yc yh yg) n m kk q)) rfl rfl (k := i) (by omega) (by omega) rfl rfl ?_
      refine me_seg 5 (pc1 := 38) (ls1 := [some (.ref 101), some (.int (nI (kpos le i))), some (.int (-9))]) (st1 := [.int ((nI i) + (1 : Int32)), .ref 101]) (M1 := (mk_M (cT im le ln (ys.set i (nI (kpos le i))) (nI i) nu nn rf vw vq yc yh yg) n m kk q)) (fun f => rfl) ?_
      refine me_v (nI_add i 1) ?_
      refine me_seg 6 (pc1 := 48) (ls1 := [some (.ref 101), some (.int (nI (kpos le i))), some (.int (-9))]) (st1 := [.int (nI (kpos le i)), .ref 102, .int 1, .int (nI (kpos le i))]) (M1 := (mk_M (cT im le ln (ys.set i (nI (kpos le i))) (nI (i + 1)) nu nn rf vw vq yc yh yg) n m kk q)) (fun f => rfl) ?_
      refine me_ldn (xs := (le.map nI)) rfl rfl (k := kpos le i) (by omega) (kg_ok (by omega)) ?_
      refine me_call (y := 18) (y0 := 52) (L := [some (.int (nI (kg le (kpos le i))))]) (rest := [.int 1, .int (nI (kpos le i))]) (rr := some (.ref 2)) (M1 := (mk_M (cT im le ln (ys.set i (nI (kpos le i))) (nI (i + 1)) nu nn rf vw vq yc yh yg) n m kk q)) (fun f => rfl) (mr_eq (kd_shp (c := kg le (kpos le i)) (by have := b2 (kpos le i); omega) _) (by rw [hs])) ?_
      refine me_call (y := 20) (y0 := 55) (L := [some (.ref 2)]) (rest := [.int 1, .int (nI (kpos le i))]) (rr := some (.int 3)) (M1 := (mk_M (cT im le ln (ys.set i (nI (kpos le i))) (nI (i + 1)) nu nn rf vw vq yc yh yg) n m kk q)) (fun f => rfl) (mr_chk_ok (n := 300) (z := 20) (ls := [some (.ref 2)]) (v := 3) (by decide +kernel) _) ?_
      refine me_seg 2 (pc1 := 57) (ls1 := [some (.ref 101), some (.int (nI (kpos le i))), some (.int (-9))]) (st1 := [.int ((nI (kpos le i)) + (4 : Int32))]) (M1 := (mk_M (cT im le ln (ys.set i (nI (kpos le i))) (nI (i + 1)) nu nn rf vw vq yc yh yg) n m kk q)) (fun f => rfl) ?_
      refine me_v (nI_add (kpos le i) 4) ?_
      refine me_seg 4 (pc1 := 63) (ls1 := [some (.ref 101), some (.int (nI (kpos le i + 4))), some (.int (-9))]) (st1 := [.int (nI ln), .int (nI (kpos le i + 4))]) (M1 := (mk_M (cT im le ln (ys.set i (nI (kpos le i))) (nI (i + 1)) nu nn rf vw vq yc yh yg) n m kk q)) (fun f => rfl) ?_
      refine me_f (C := (nI (kpos le i + 4)) < (nI ln)) (nI_ltf (a := kpos le i + 4) (b := ln) (by omega)) (fun f => rfl) ?_
      refine me_ret 2 (r := some (.int (-9))) (M1 := (mk_M (cT im le ln (ys.set i (nI (kpos le i))) (nI (i + 1)) nu nn rf vw vq yc yh yg) n m kk q)) (fun f => rfl) ?_
      refine ⟨rfl, (ys.set i (nI (kpos le i))), by rw [List.length_set]; exact hy, fun i2 h2 => ?_, by rw [show k0 = i by omega]⟩
      rw [List.getElem?_set]
      by_cases e : i = i2
      · subst e
        rw [if_pos rfl, if_pos (by omega)]
      · rw [if_neg e]
        exact hys i2 (by omega)
    · have he : kpos le (i + 1) = kpos le i + 3 := by
        show knx le (kpos le i) = _
        unfold knx
        rw [hs]
        show kpos le i + 1 + 2 = _
        omega
      refine me_seg 2 (pc1 := 9) (ls1 := [some (.ref 101), some (.int (nI (kpos le i))), lo]) (st1 := [.int (nI (kpos le i)), .ref 101]) (M1 := (mk_M (cT im le ln ys (nI i) nu nn rf vw vq yc yh yg) n m kk q)) (fun f => rfl) ?_
      refine me_call (y := 17) (y0 := 12) (L := [some (.ref 101), some (.int (nI (kpos le i))), none, none, none]) (rest := []) (rr := some (.int (-9))) (M1 := (mk_M (cT im le ln ys (nI i) nu nn rf vw vq yc yh yg) n m kk q)) (fun f => rfl) (mr_eq (kd_mis im le ln ys (nI i) nu nn rf vw vq yc yh yg n m kk q (kpos le i) hB (by omega)) (by rw [hk] <;> rfl)) ?_
      refine me_seg 9 (pc1 := 30) (ls1 := [some (.ref 101), some (.int (nI (kpos le i))), some (.int (-9))]) (st1 := [.int (nI (kpos le i)), .int (nI i), .ref 103]) (M1 := (mk_M (cT im le ln ys (nI i) nu nn rf vw vq yc yh yg) n m kk q)) (fun f => rfl) ?_
      refine me_stn (xs := ys) (ys := (ys.set i (nI (kpos le i)))) (M2 := (mk_M (cT im le ln (ys.set i (nI (kpos le i))) (nI i) nu nn rf vw vq yc yh yg) n m kk q)) rfl rfl (k := i) (by omega) (by omega) rfl rfl ?_
      refine me_seg 5 (pc1 := 38) (ls1 := [some (.ref 101), some (.int (nI (kpos le i))), some (.int (-9))]) (st1 := [.int ((nI i) + (1 : Int32)), .ref 101]) (M1 := (mk_M (cT im le ln (ys.set i (nI (kpos le i))) (nI i) nu nn rf vw vq yc yh yg) n m kk q)) (fun f => rfl) ?_
      refine me_v (nI_add i 1) ?_
      refine me_seg 6 (pc1 := 48) (ls1 := [some (.ref 101), some (.int (nI (kpos le i))), some (.int (-9))]) (st1 := [.int (nI (kpos le i)), .ref 102, .int 1, .int (nI (kpos le i))]) (M1 := (mk_M (cT im le ln (ys.set i (nI (kpos le i))) (nI (i + 1)) nu nn rf vw vq yc yh yg) n m kk q)) (fun f => rfl) ?_
      refine me_ldn (xs := (le.map nI)) rfl rfl (k := kpos le i) (by omega) (kg_ok (by omega)) ?_
      refine me_call (y := 18) (y0 := 52) (L := [some (.int (nI (kg le (kpos le i))))]) (rest := [.int 1, .int (nI (kpos le i))]) (rr := some (.ref 3)) (M1 := (mk_M (cT im le ln (ys.set i (nI (kpos le i))) (nI (i + 1)) nu nn rf vw vq yc yh yg) n m kk q)) (fun f => rfl) (mr_eq (kd_shp (c := kg le (kpos le i)) (by have := b2 (kpos le i); omega) _) (by rw [hs])) ?_
      refine me_call (y := 20) (y0 := 55) (L := [some (.ref 3)]) (rest := [.int 1, .int (nI (kpos le i))]) (rr := some (.int 2)) (M1 := (mk_M (cT im le ln (ys.set i (nI (kpos le i))) (nI (i + 1)) nu nn rf vw vq yc yh yg) n m kk q)) (fun f => rfl) (mr_chk_ok (n := 300) (z := 20) (ls := [some (.ref 3)]) (v := 2) (by decide +kernel) _) ?_
      refine me_seg 2 (pc1 := 57) (ls1 := [some (.ref 101), some (.int (nI (kpos le i))), some (.int (-9))]) (st1 := [.int ((nI (kpos le i)) + (3 : Int32))]) (M1 := (mk_M (cT im le ln (ys.set i (nI (kpos le i))) (nI (i + 1)) nu nn rf vw vq yc yh yg) n m kk q)) (fun f => rfl) ?_
      refine me_v (nI_add (kpos le i) 3) ?_
      refine me_seg 4 (pc1 := 63) (ls1 := [some (.ref 101), some (.int (nI (kpos le i + 3))), some (.int (-9))]) (st1 := [.int (nI ln), .int (nI (kpos le i + 3))]) (M1 := (mk_M (cT im le ln (ys.set i (nI (kpos le i))) (nI (i + 1)) nu nn rf vw vq yc yh yg) n m kk q)) (fun f => rfl) ?_
      refine me_f (C := (nI (kpos le i + 3)) < (nI ln)) (nI_ltf (a := kpos le i + 3) (b := ln) (by omega)) (fun f => rfl) ?_
      refine me_ret 2 (r := some (.int (-9))) (M1 := (mk_M (cT im le ln (ys.set i (nI (kpos le i))) (nI (i + 1)) nu nn rf vw vq yc yh yg) n m kk q)) (fun f => rfl) ?_
      refine ⟨rfl, (ys.set i (nI (kpos le i))), by rw [List.length_set]; exact hy, fun i2 h2 => ?_, by rw [show k0 = i by omega]⟩
      rw [List.getElem?_set]
      by_cases e : i = i2
      · subst e
        rw [if_pos rfl, if_pos (by omega)]
      · rw [if_neg e]
        exact hys i2 (by omega)
    · have he : kpos le (i + 1) = kpos le i + 4 := by
        show knx le (kpos le i) = _
        unfold knx
        rw [hs]
        show kpos le i + 1 + 3 = _
        omega
      refine me_seg 2 (pc1 := 9) (ls1 := [some (.ref 101), some (.int (nI (kpos le i))), lo]) (st1 := [.int (nI (kpos le i)), .ref 101]) (M1 := (mk_M (cT im le ln ys (nI i) nu nn rf vw vq yc yh yg) n m kk q)) (fun f => rfl) ?_
      refine me_call (y := 17) (y0 := 12) (L := [some (.ref 101), some (.int (nI (kpos le i))), none, none, none]) (rest := []) (rr := some (.int (-9))) (M1 := (mk_M (cT im le ln ys (nI i) nu nn rf vw vq yc yh yg) n m kk q)) (fun f => rfl) (mr_eq (kd_mis im le ln ys (nI i) nu nn rf vw vq yc yh yg n m kk q (kpos le i) hB (by omega)) (by rw [hk] <;> rfl)) ?_
      refine me_seg 9 (pc1 := 30) (ls1 := [some (.ref 101), some (.int (nI (kpos le i))), some (.int (-9))]) (st1 := [.int (nI (kpos le i)), .int (nI i), .ref 103]) (M1 := (mk_M (cT im le ln ys (nI i) nu nn rf vw vq yc yh yg) n m kk q)) (fun f => rfl) ?_
      refine me_stn (xs := ys) (ys := (ys.set i (nI (kpos le i)))) (M2 := (mk_M (cT im le ln (ys.set i (nI (kpos le i))) (nI i) nu nn rf vw vq yc yh yg) n m kk q)) rfl rfl (k := i) (by omega) (by omega) rfl rfl ?_
      refine me_seg 5 (pc1 := 38) (ls1 := [some (.ref 101), some (.int (nI (kpos le i))), some (.int (-9))]) (st1 := [.int ((nI i) + (1 : Int32)), .ref 101]) (M1 := (mk_M (cT im le ln (ys.set i (nI (kpos le i))) (nI i) nu nn rf vw vq yc yh yg) n m kk q)) (fun f => rfl) ?_
      refine me_v (nI_add i 1) ?_
      refine me_seg 6 (pc1 := 48) (ls1 := [some (.ref 101), some (.int (nI (kpos le i))), some (.int (-9))]) (st1 := [.int (nI (kpos le i)), .ref 102, .int 1, .int (nI (kpos le i))]) (M1 := (mk_M (cT im le ln (ys.set i (nI (kpos le i))) (nI (i + 1)) nu nn rf vw vq yc yh yg) n m kk q)) (fun f => rfl) ?_
      refine me_ldn (xs := (le.map nI)) rfl rfl (k := kpos le i) (by omega) (kg_ok (by omega)) ?_
      refine me_call (y := 18) (y0 := 52) (L := [some (.int (nI (kg le (kpos le i))))]) (rest := [.int 1, .int (nI (kpos le i))]) (rr := some (.ref 4)) (M1 := (mk_M (cT im le ln (ys.set i (nI (kpos le i))) (nI (i + 1)) nu nn rf vw vq yc yh yg) n m kk q)) (fun f => rfl) (mr_eq (kd_shp (c := kg le (kpos le i)) (by have := b2 (kpos le i); omega) _) (by rw [hs])) ?_
      refine me_call (y := 20) (y0 := 55) (L := [some (.ref 4)]) (rest := [.int 1, .int (nI (kpos le i))]) (rr := some (.int 3)) (M1 := (mk_M (cT im le ln (ys.set i (nI (kpos le i))) (nI (i + 1)) nu nn rf vw vq yc yh yg) n m kk q)) (fun f => rfl) (mr_chk_ok (n := 300) (z := 20) (ls := [some (.ref 4)]) (v := 3) (by decide +kernel) _) ?_
      refine me_seg 2 (pc1 := 57) (ls1 := [some (.ref 101), some (.int (nI (kpos le i))), some (.int (-9))]) (st1 := [.int ((nI (kpos le i)) + (4 : Int32))]) (M1 := (mk_M (cT im le ln (ys.set i (nI (kpos le i))) (nI (i + 1)) nu nn rf vw vq yc yh yg) n m kk q)) (fun f => rfl) ?_
      refine me_v (nI_add (kpos le i) 4) ?_
      refine me_seg 4 (pc1 := 63) (ls1 := [some (.ref 101), some (.int (nI (kpos le i + 4))), some (.int (-9))]) (st1 := [.int (nI ln), .int (nI (kpos le i + 4))]) (M1 := (mk_M (cT im le ln (ys.set i (nI (kpos le i))) (nI (i + 1)) nu nn rf vw vq yc yh yg) n m kk q)) (fun f => rfl) ?_
      refine me_f (C := (nI (kpos le i + 4)) < (nI ln)) (nI_ltf (a := kpos le i + 4) (b := ln) (by omega)) (fun f => rfl) ?_
      refine me_ret 2 (r := some (.int (-9))) (M1 := (mk_M (cT im le ln (ys.set i (nI (kpos le i))) (nI (i + 1)) nu nn rf vw vq yc yh yg) n m kk q)) (fun f => rfl) ?_
      refine ⟨rfl, (ys.set i (nI (kpos le i))), by rw [List.length_set]; exact hy, fun i2 h2 => ?_, by rw [show k0 = i by omega]⟩
      rw [List.getElem?_set]
      by_cases e : i = i2
      · subst e
        rw [if_pos rfl, if_pos (by omega)]
      · rw [if_neg e]
        exact hys i2 (by omega)
    · rw [kmis_5 (kmis_lt hk) hs] at hk
      cases hk
  | succ k IH =>
    intro i ys lo hi hy hys
    have hb := kpos_le hL i (by omega)
    obtain ⟨hk, hlt⟩ := hL i (by omega)
    have hkl := kmis_lt hk
    rcases kshr_c (kg le (kpos le i)) with hs | hs | hs | hs | hs
    · have he : kpos le (i + 1) = kpos le i + 5 := by
        show knx le (kpos le i) = _
        unfold knx
        rw [hs]
        show kpos le i + 1 + 4 = _
        omega
      refine me_seg 2 (pc1 := 9) (ls1 := [some (.ref 101), some (.int (nI (kpos le i))), lo]) (st1 := [.int (nI (kpos le i)), .ref 101]) (M1 := (mk_M (cT im le ln ys (nI i) nu nn rf vw vq yc yh yg) n m kk q)) (fun f => rfl) ?_
      refine me_call (y := 17) (y0 := 12) (L := [some (.ref 101), some (.int (nI (kpos le i))), none, none, none]) (rest := []) (rr := some (.int (-9))) (M1 := (mk_M (cT im le ln ys (nI i) nu nn rf vw vq yc yh yg) n m kk q)) (fun f => rfl) (mr_eq (kd_mis im le ln ys (nI i) nu nn rf vw vq yc yh yg n m kk q (kpos le i) hB (by omega)) (by rw [hk] <;> rfl)) ?_
      refine me_seg 9 (pc1 := 30) (ls1 := [some (.ref 101), some (.int (nI (kpos le i))), some (.int (-9))]) (st1 := [.int (nI (kpos le i)), .int (nI i), .ref 103]) (M1 := (mk_M (cT im le ln ys (nI i) nu nn rf vw vq yc yh yg) n m kk q)) (fun f => rfl) ?_
      refine me_stn (xs := ys) (ys := (ys.set i (nI (kpos le i)))) (M2 := (mk_M (cT im le ln (ys.set i (nI (kpos le i))) (nI i) nu nn rf vw vq yc yh yg) n m kk q)) rfl rfl (k := i) (by omega) (by omega) rfl rfl ?_
      refine me_seg 5 (pc1 := 38) (ls1 := [some (.ref 101), some (.int (nI (kpos le i))), some (.int (-9))]) (st1 := [.int ((nI i) + (1 : Int32)), .ref 101]) (M1 := (mk_M (cT im le ln (ys.set i (nI (kpos le i))) (nI i) nu nn rf vw vq yc yh yg) n m kk q)) (fun f => rfl) ?_
      refine me_v (nI_add i 1) ?_
      refine me_seg 6 (pc1 := 48) (ls1 := [some (.ref 101), some (.int (nI (kpos le i))), some (.int (-9))]) (st1 := [.int (nI (kpos le i)), .ref 102, .int 1, .int (nI (kpos le i))]) (M1 := (mk_M (cT im le ln (ys.set i (nI (kpos le i))) (nI (i + 1)) nu nn rf vw vq yc yh yg) n m kk q)) (fun f => rfl) ?_
      refine me_ldn (xs := (le.map nI)) rfl rfl (k := kpos le i) (by omega) (kg_ok (by omega)) ?_
      refine me_call (y := 18) (y0 := 52) (L := [some (.int (nI (kg le (kpos le i))))]) (rest := [.int 1, .int (nI (kpos le i))]) (rr := some (.ref 1)) (M1 := (mk_M (cT im le ln (ys.set i (nI (kpos le i))) (nI (i + 1)) nu nn rf vw vq yc yh yg) n m kk q)) (fun f => rfl) (mr_eq (kd_shp (c := kg le (kpos le i)) (by have := b2 (kpos le i); omega) _) (by rw [hs])) ?_
      refine me_call (y := 20) (y0 := 55) (L := [some (.ref 1)]) (rest := [.int 1, .int (nI (kpos le i))]) (rr := some (.int 4)) (M1 := (mk_M (cT im le ln (ys.set i (nI (kpos le i))) (nI (i + 1)) nu nn rf vw vq yc yh yg) n m kk q)) (fun f => rfl) (mr_chk_ok (n := 300) (z := 20) (ls := [some (.ref 1)]) (v := 4) (by decide +kernel) _) ?_
      refine me_seg 2 (pc1 := 57) (ls1 := [some (.ref 101), some (.int (nI (kpos le i))), some (.int (-9))]) (st1 := [.int ((nI (kpos le i)) + (5 : Int32))]) (M1 := (mk_M (cT im le ln (ys.set i (nI (kpos le i))) (nI (i + 1)) nu nn rf vw vq yc yh yg) n m kk q)) (fun f => rfl) ?_
      refine me_v (nI_add (kpos le i) 5) ?_
      refine me_seg 4 (pc1 := 63) (ls1 := [some (.ref 101), some (.int (nI (kpos le i + 5))), some (.int (-9))]) (st1 := [.int (nI ln), .int (nI (kpos le i + 5))]) (M1 := (mk_M (cT im le ln (ys.set i (nI (kpos le i))) (nI (i + 1)) nu nn rf vw vq yc yh yg) n m kk q)) (fun f => rfl) ?_
      refine me_t (C := (nI (kpos le i + 5)) < (nI ln)) (nI_ltt (a := kpos le i + 5) (b := ln) (by omega)) (fun f => rfl) ?_
      have IH2 := IH (i + 1) (ys.set i (nI (kpos le i))) (some (.int (-9))) (by omega) (by rw [List.length_set]; exact hy) ?_
      · rw [he] at IH2
        exact IH2
      · intro i2 h2
        rw [List.getElem?_set]
        by_cases e : i = i2
        · subst e
          rw [if_pos rfl, if_pos (by omega)]
        · rw [if_neg e]
          exact hys i2 (by omega)
    · have he : kpos le (i + 1) = kpos le i + 4 := by
        show knx le (kpos le i) = _
        unfold knx
        rw [hs]
        show kpos le i + 1 + 3 = _
        omega
      refine me_seg 2 (pc1 := 9) (ls1 := [some (.ref 101), some (.int (nI (kpos le i))), lo]) (st1 := [.int (nI (kpos le i)), .ref 101]) (M1 := (mk_M (cT im le ln ys (nI i) nu nn rf vw vq yc yh yg) n m kk q)) (fun f => rfl) ?_
      refine me_call (y := 17) (y0 := 12) (L := [some (.ref 101), some (.int (nI (kpos le i))), none, none, none]) (rest := []) (rr := some (.int (-9))) (M1 := (mk_M (cT im le ln ys (nI i) nu nn rf vw vq yc yh yg) n m kk q)) (fun f => rfl) (mr_eq (kd_mis im le ln ys (nI i) nu nn rf vw vq yc yh yg n m kk q (kpos le i) hB (by omega)) (by rw [hk] <;> rfl)) ?_
      refine me_seg 9 (pc1 := 30) (ls1 := [some (.ref 101), some (.int (nI (kpos le i))), some (.int (-9))]) (st1 := [.int (nI (kpos le i)), .int (nI i), .ref 103]) (M1 := (mk_M (cT im le ln ys (nI i) nu nn rf vw vq yc yh yg) n m kk q)) (fun f => rfl) ?_
      refine me_stn (xs := ys) (ys := (ys.set i (nI (kpos le i)))) (M2 := (mk_M (cT im le ln (ys.set i (nI (kpos le i))) (nI i) nu nn rf vw vq yc yh yg) n m kk q)) rfl rfl (k := i) (by omega) (by omega) rfl rfl ?_
      refine me_seg 5 (pc1 := 38) (ls1 := [some (.ref 101), some (.int (nI (kpos le i))), some (.int (-9))]) (st1 := [.int ((nI i) + (1 : Int32)), .ref 101]) (M1 := (mk_M (cT im le ln (ys.set i (nI (kpos le i))) (nI i) nu nn rf vw vq yc yh yg) n m kk q)) (fun f => rfl) ?_
      refine me_v (nI_add i 1) ?_
      refine me_seg 6 (pc1 := 48) (ls1 := [some (.ref 101), some (.int (nI (kpos le i))), some (.int (-9))]) (st1 := [.int (nI (kpos le i)), .ref 102, .int 1, .int (nI (kpos le i))]) (M1 := (mk_M (cT im le ln (ys.set i (nI (kpos le i))) (nI (i + 1)) nu nn rf vw vq yc yh yg) n m kk q)) (fun f => rfl) ?_
      refine me_ldn (xs := (le.map nI)) rfl rfl (k := kpos le i) (by omega) (kg_ok (by omega)) ?_
      refine me_call (y := 18) (y0 := 52) (L := [some (.int (nI (kg le (kpos le i))))]) (rest := [.int 1, .int (nI (kpos le i))]) (rr := some (.ref 2)) (M1 := (mk_M (cT im le ln (ys.set i (nI (kpos le i))) (nI (i + 1)) nu nn rf vw vq yc yh yg) n m kk q)) (fun f => rfl) (mr_eq (kd_shp (c := kg le (kpos le i)) (by have := b2 (kpos le i); omega) _) (by rw [hs])) ?_
      refine me_call (y := 20) (y0 := 55) (L := [some (.ref 2)]) (rest := [.int 1, .int (nI (kpos le i))]) (rr := some (.int 3)) (M1 := (mk_M (cT im le ln (ys.set i (nI (kpos le i))) (nI (i + 1)) nu nn rf vw vq yc yh yg) n m kk q)) (fun f => rfl) (mr_chk_ok (n := 300) (z := 20) (ls := [some (.ref 2)]) (v := 3) (by decide +kernel) _) ?_
      refine me_seg 2 (pc1 := 57) (ls1 := [some (.ref 101), some (.int (nI (kpos le i))), some (.int (-9))]) (st1 := [.int ((nI (kpos le i)) + (4 : Int32))]) (M1 := (mk_M (cT im le ln (ys.set i (nI (kpos le i))) (nI (i + 1)) nu nn rf vw vq yc yh yg) n m kk q)) (fun f => rfl) ?_
      refine me_v (nI_add (kpos le i) 4) ?_
      refine me_seg 4 (pc1 := 63) (ls1 := [some (.ref 101), some (.int (nI (kpos le i + 4))), some (.int (-9))]) (st1 := [.int (nI ln), .int (nI (kpos le i + 4))]) (M1 := (mk_M (cT im le ln (ys.set i (nI (kpos le i))) (nI (i + 1)) nu nn rf vw vq yc yh yg) n m kk q)) (fun f => rfl) ?_
      refine me_t (C := (nI (kpos le i + 4)) < (nI ln)) (nI_ltt (a := kpos le i + 4) (b := ln) (by omega)) (fun f => rfl) ?_
      have IH2 := IH (i + 1) (ys.set i (nI (kpos le i))) (some (.int (-9))) (by omega) (by rw [List.length_set]; exact hy) ?_
      · rw [he] at IH2
        exact IH2
      · intro i2 h2
        rw [List.getElem?_set]
        by_cases e : i = i2
        · subst e
          rw [if_pos rfl, if_pos (by omega)]
        · rw [if_neg e]
          exact hys i2 (by omega)
    · have he : kpos le (i + 1) = kpos le i + 3 := by
        show knx le (kpos le i) = _
        unfold knx
        rw [hs]
        show kpos le i + 1 + 2 = _
        omega
      refine me_seg 2 (pc1 := 9) (ls1 := [some (.ref 101), some (.int (nI (kpos le i))), lo]) (st1 := [.int (nI (kpos le i)), .ref 101]) (M1 := (mk_M (cT im le ln ys (nI i) nu nn rf vw vq yc yh yg) n m kk q)) (fun f => rfl) ?_
      refine me_call (y := 17) (y0 := 12) (L := [some (.ref 101), some (.int (nI (kpos le i))), none, none, none]) (rest := []) (rr := some (.int (-9))) (M1 := (mk_M (cT im le ln ys (nI i) nu nn rf vw vq yc yh yg) n m kk q)) (fun f => rfl) (mr_eq (kd_mis im le ln ys (nI i) nu nn rf vw vq yc yh yg n m kk q (kpos le i) hB (by omega)) (by rw [hk] <;> rfl)) ?_
      refine me_seg 9 (pc1 := 30) (ls1 := [some (.ref 101), some (.int (nI (kpos le i))), some (.int (-9))]) (st1 := [.int (nI (kpos le i)), .int (nI i), .ref 103]) (M1 := (mk_M (cT im le ln ys (nI i) nu nn rf vw vq yc yh yg) n m kk q)) (fun f => rfl) ?_
      refine me_stn (xs := ys) (ys := (ys.set i (nI (kpos le i)))) (M2 := (mk_M (cT im le ln (ys.set i (nI (kpos le i))) (nI i) nu nn rf vw vq yc yh yg) n m kk q)) rfl rfl (k := i) (by omega) (by omega) rfl rfl ?_
      refine me_seg 5 (pc1 := 38) (ls1 := [some (.ref 101), some (.int (nI (kpos le i))), some (.int (-9))]) (st1 := [.int ((nI i) + (1 : Int32)), .ref 101]) (M1 := (mk_M (cT im le ln (ys.set i (nI (kpos le i))) (nI i) nu nn rf vw vq yc yh yg) n m kk q)) (fun f => rfl) ?_
      refine me_v (nI_add i 1) ?_
      refine me_seg 6 (pc1 := 48) (ls1 := [some (.ref 101), some (.int (nI (kpos le i))), some (.int (-9))]) (st1 := [.int (nI (kpos le i)), .ref 102, .int 1, .int (nI (kpos le i))]) (M1 := (mk_M (cT im le ln (ys.set i (nI (kpos le i))) (nI (i + 1)) nu nn rf vw vq yc yh yg) n m kk q)) (fun f => rfl) ?_
      refine me_ldn (xs := (le.map nI)) rfl rfl (k := kpos le i) (by omega) (kg_ok (by omega)) ?_
      refine me_call (y := 18) (y0 := 52) (L := [some (.int (nI (kg le (kpos le i))))]) (rest := [.int 1, .int (nI (kpos le i))]) (rr := some (.ref 3)) (M1 := (mk_M (cT im le ln (ys.set i (nI (kpos le i))) (nI (i + 1)) nu nn rf vw vq yc yh yg) n m kk q)) (fun f => rfl) (mr_eq (kd_shp (c := kg le (kpos le i)) (by have := b2 (kpos le i); omega) _) (by rw [hs])) ?_
      refine me_call (y := 20) (y0 := 55) (L := [some (.ref 3)]) (rest := [.int 1, .int (nI (kpos le i))]) (rr := some (.int 2)) (M1 := (mk_M (cT im le ln (ys.set i (nI (kpos le i))) (nI (i + 1)) nu nn rf vw vq yc yh yg) n m kk q)) (fun f => rfl) (mr_chk_ok (n := 300) (z := 20) (ls := [some (.ref 3)]) (v := 2) (by decide +kernel) _) ?_
      refine me_seg 2 (pc1 := 57) (ls1 := [some (.ref 101), some (.int (nI (kpos le i))), some (.int (-9))]) (st1 := [.int ((nI (kpos le i)) + (3 : Int32))]) (M1 := (mk_M (cT im le ln (ys.set i (nI (kpos le i))) (nI (i + 1)) nu nn rf vw vq yc yh yg) n m kk q)) (fun f => rfl) ?_
      refine me_v (nI_add (kpos le i) 3) ?_
      refine me_seg 4 (pc1 := 63) (ls1 := [some (.ref 101), some (.int (nI (kpos le i + 3))), some (.int (-9))]) (st1 := [.int (nI ln), .int (nI (kpos le i + 3))]) (M1 := (mk_M (cT im le ln (ys.set i (nI (kpos le i))) (nI (i + 1)) nu nn rf vw vq yc yh yg) n m kk q)) (fun f => rfl) ?_
      refine me_t (C := (nI (kpos le i + 3)) < (nI ln)) (nI_ltt (a := kpos le i + 3) (b := ln) (by omega)) (fun f => rfl) ?_
      have IH2 := IH (i + 1) (ys.set i (nI (kpos le i))) (some (.int (-9))) (by omega) (by rw [List.length_set]; exact hy) ?_
      · rw [he] at IH2
        exact IH2
      · intro i2 h2
        rw [List.getElem?_set]
        by_cases e : i = i2
        · subst e
          rw [if_pos rfl, if_pos (by omega)]
        · rw [if_neg e]
          exact hys i2 (by omega)
    · have he : kpos le (i + 1) = kpos le i + 4 := by
        show knx le (kpos le i) = _
        unfold knx
        rw [hs]
        show kpos le i + 1 + 3 = _
        omega
      refine me_seg 2 (pc1 := 9) (ls1 := [some (.ref 101), some (.int (nI (kpos le i))), lo]) (st1 := [.int (nI (kpos le i)), .ref 101]) (M1 := (mk_M (cT im le ln ys (nI i) nu nn rf vw vq yc yh yg) n m kk q)) (fun f => rfl) ?_
      refine me_call (y := 17) (y0 := 12) (L := [some (.ref 101), some (.int (nI (kpos le i))), none, none, none]) (rest := []) (rr := some (.int (-9))) (M1 := (mk_M (cT im le ln ys (nI i) nu nn rf vw vq yc yh yg) n m kk q)) (fun f => rfl) (mr_eq (kd_mis im le ln ys (nI i) nu nn rf vw vq yc yh yg n m kk q (kpos le i) hB (by omega)) (by rw [hk] <;> rfl)) ?_
      refine me_seg 9 (pc1 := 30) (ls1 := [some (.ref 101), some (.int (nI (kpos le i))), some (.int (-9))]) (st1 := [.int (nI (kpos le i)), .int (nI i), .ref 103]) (M1 := (mk_M (cT im le ln ys (nI i) nu nn rf vw vq yc yh yg) n m kk q)) (fun f => rfl) ?_
      refine me_stn (xs := ys) (ys := (ys.set i (nI (kpos le i)))) (M2 := (mk_M (cT im le ln (ys.set i (nI (kpos le i))) (nI i) nu nn rf vw vq yc yh yg) n m kk q)) rfl rfl (k := i) (by omega) (by omega) rfl rfl ?_
      refine me_seg 5 (pc1 := 38) (ls1 := [some (.ref 101), some (.int (nI (kpos le i))), some (.int (-9))]) (st1 := [.int ((nI i) + (1 : Int32)), .ref 101]) (M1 := (mk_M (cT im le ln (ys.set i (nI (kpos le i))) (nI i) nu nn rf vw vq yc yh yg) n m kk q)) (fun f => rfl) ?_
      refine me_v (nI_add i 1) ?_
      refine me_seg 6 (pc1 := 48) (ls1 := [some (.ref 101), some (.int (nI (kpos le i))), some (.int (-9))]) (st1 := [.int (nI (kpos le i)), .ref 102, .int 1, .int (nI (kpos le i))]) (M1 := (mk_M (cT im le ln (ys.set i (nI (kpos le i))) (nI (i + 1)) nu nn rf vw vq yc yh yg) n m kk q)) (fun f => rfl) ?_
      refine me_ldn (xs := (le.map nI)) rfl rfl (k := kpos le i) (by omega) (kg_ok (by omega)) ?_
      refine me_call (y := 18) (y0 := 52) (L := [some (.int (nI (kg le (kpos le i))))]) (rest := [.int 1, .int (nI (kpos le i))]) (rr := some (.ref 4)) (M1 := (mk_M (cT im le ln (ys.set i (nI (kpos le i))) (nI (i + 1)) nu nn rf vw vq yc yh yg) n m kk q)) (fun f => rfl) (mr_eq (kd_shp (c := kg le (kpos le i)) (by have := b2 (kpos le i); omega) _) (by rw [hs])) ?_
      refine me_call (y := 20) (y0 := 55) (L := [some (.ref 4)]) (rest := [.int 1, .int (nI (kpos le i))]) (rr := some (.int 3)) (M1 := (mk_M (cT im le ln (ys.set i (nI (kpos le i))) (nI (i + 1)) nu nn rf vw vq yc yh yg) n m kk q)) (fun f => rfl) (mr_chk_ok (n := 300) (z := 20) (ls := [some (.ref 4)]) (v := 3) (by decide +kernel) _) ?_
      refine me_seg 2 (pc1 := 57) (ls1 := [some (.ref 101), some (.int (nI (kpos le i))), some (.int (-9))]) (st1 := [.int ((nI (kpos le i)) + (4 : Int32))]) (M1 := (mk_M (cT im le ln (ys.set i (nI (kpos le i))) (nI (i + 1)) nu nn rf vw vq yc yh yg) n m kk q)) (fun f => rfl) ?_
      refine me_v (nI_add (kpos le i) 4) ?_
      refine me_seg 4 (pc1 := 63) (ls1 := [some (.ref 101), some (.int (nI (kpos le i + 4))), some (.int (-9))]) (st1 := [.int (nI ln), .int (nI (kpos le i + 4))]) (M1 := (mk_M (cT im le ln (ys.set i (nI (kpos le i))) (nI (i + 1)) nu nn rf vw vq yc yh yg) n m kk q)) (fun f => rfl) ?_
      refine me_t (C := (nI (kpos le i + 4)) < (nI ln)) (nI_ltt (a := kpos le i + 4) (b := ln) (by omega)) (fun f => rfl) ?_
      have IH2 := IH (i + 1) (ys.set i (nI (kpos le i))) (some (.int (-9))) (by omega) (by rw [List.length_set]; exact hy) ?_
      · rw [he] at IH2
        exact IH2
      · intro i2 h2
        rw [List.getElem?_set]
        by_cases e : i = i2
        · subst e
          rw [if_pos rfl, if_pos (by omega)]
        · rw [if_neg e]
          exact hys i2 (by omega)
    · rw [kmis_5 (kmis_lt hk) hs] at hk
      cases hk
theorem kd_fmA (im : Nat) (le : List Nat) (ln : Nat) (nu : List Nat) (nn : Nat) (rf : List Nat) (vw vq : Int32) (yc yh yg : List Int32) (n m kk : kG) (q : cR) (ys : List Int32) (vt : Int32) (hB : iB le ln) (hy : ys.length = 96) (k0 mf : Nat) (hL : kL le ln k0) (hmf0 : kmis le ln (kpos le k0) = some mf) (hmb : mf < 1000) : mm_E 16 0 [some (.ref 101), none, none] [] (mk_M (cT im le ln ys vt nu nn rf vw vq yc yh yg) n m kk q) (fun r M1 => r = some (.int (nI mf)) ∧ ∃ (ys2 : List Int32) (vt2 : Int32), ys2.length = 96 ∧ M1 = mk_M (cT im le ln ys2 vt2 nu nn rf vw vq yc yh yg) n m kk q) := by
  refine me_seg 5 (pc1 := 7) (ls1 := [some (.ref 101), some (.int 0), none]) (st1 := []) (M1 := mk_M (cT im le ln ys 0 nu nn rf vw vq yc yh yg) n m kk q) (fun f => rfl) ?_
  exact kd_fmA0 im le ln nu nn rf vw vq yc yh yg n m kk q hB k0 mf hL hmf0 hmb k0 0 ys none (by omega) hy (fun i h => absurd h (Nat.not_lt_zero i))
theorem kd_fmB (im : Nat) (le : List Nat) (ln : Nat) (nu : List Nat) (nn : Nat) (rf : List Nat) (vw vq : Int32) (yc yh yg : List Int32) (n m kk : kG) (q : cR) (ys : List Int32) (vt : Int32) (hB : iB le ln) (hy : ys.length = 96) (k0 : Nat) (hL : kL le ln k0) (hkk : kmis le ln (kpos le k0) = none) (hge : ¬ kpos le (k0 + 1) < ln) : mm_E 16 0 [some (.ref 101), none, none] [] (mk_M (cT im le ln ys vt nu nn rf vw vq yc yh yg) n m kk q) (fun r M1 => r = some (.int (-9)) ∧ ∃ ys2 : List Int32, ys2.length = 96 ∧ (∀ i, i ≤ k0 → ys2[i]? = some (nI (kpos le i))) ∧ M1 = mk_M (cT im le ln ys2 (nI (k0 + 1)) nu nn rf vw vq yc yh yg) n m kk q) := by
  refine me_seg 5 (pc1 := 7) (ls1 := [some (.ref 101), some (.int 0), none]) (st1 := []) (M1 := mk_M (cT im le ln ys 0 nu nn rf vw vq yc yh yg) n m kk q) (fun f => rfl) ?_
  exact kd_fmB0 im le ln nu nn rf vw vq yc yh yg n m kk q hB k0 hL hkk hge k0 0 ys none (by omega) hy (fun i h => absurd h (Nat.not_lt_zero i))
theorem kV_mi {K : kK} (hV : kV K) : k_mi K ≤ 5 := by
  obtain ⟨he, ke, ki, fi, fa, or, mi, a, g, l, w, s⟩ := K
  exact hV.2.2.2.2.2.2.1
set_option maxRecDepth 100000 in
theorem kd_fwW0 (im : Nat) (le : List Nat) (ln : Nat) (ys : List Int32) (nu : List Nat) (nn : Nat) (rf : List Nat) (vw vq : Int32) (yc yh yg : List Int32) (n m kk : kG) (q : cR) (hB : iB le ln) (k0 : Nat) (K : kK) (hA : iA K) (hL : ∀ i, i ≤ k0 → kmis le ln (kpos le i) = none) (hk0 : k0 < 96) (hy : ys.length = 96) (hys : ∀ i, i ≤ k0 → ys[i]? = some (nI (kpos le i))) (j0 : Nat) (hj0 : j0 ≤ k0) (hwf : ∀ i, i < j0 → kwi le K i = false) (hwt : kwi le K j0 = true) (k : Nat) : ∀ (i : Nat) (lo : Option Value), i + k = j0 → mm_R 33 13 [some (.ref 101), some (.ref 117), some (.int (nI (k_mi (kks le K i)))), some (.int (nI (k_st (kks le K i)))), some (.int (nI i)), lo] [] (mk_M (cT im le ln ys (nI (k0 + 1)) nu nn rf vw vq yc yh yg) n m kk q) (some (.int (nI (kpos le j0))), (mk_M (cT im le ln ys (nI (k0 + 1)) nu nn rf vw vq yc yh yg) n m kk q)) := by
  obtain ⟨b1, b2, b3⟩ := id hB
  induction k with
  | zero =>
    intro i lo hi
    have hk := hL i (by omega)
    have hkl := kmis_lt hk
    obtain ⟨f1, f2, f3⟩ := kst_f hk
    have e1 := b2 (kpos le i + 1)
    have e2 := b2 (kpos le i + 2)
    have ekn := knum_lt e1 e2
    have e0 := b2 (kpos le i)
    have hAi := kks_A (n := j0) b2 (fun i2 h2 => hL i2 (by omega)) hA hwf i (by omega)
    have hm5 := kV_mi hAi.1
    have hst := hAi.2
    have hw : kwi le K i = true := by rw [show i = j0 by omega]; exact hwt
    refine mr_seg 3 (pc1 := 19) (ls1 := [some (.ref 101), some (.ref 117), some (.int (nI (k_mi (kks le K i)))), some (.int (nI (k_st (kks le K i)))), some (.int (nI i)), lo]) (st1 := [.int (nI (k0 + 1)), .int (nI i)]) (M1 := (mk_M (cT im le ln ys (nI (k0 + 1)) nu nn rf vw vq yc yh yg) n m kk q)) (fun f => rfl) ?_
    refine mr_f (C := (nI (k0 + 1)) ≤ (nI i)) (nI_lef (a := k0 + 1) (b := i) (by omega)) (fun f => rfl) ?_
    refine mr_seg 3 (pc1 := 28) (ls1 := [some (.ref 101), some (.ref 117), some (.int (nI (k_mi (kks le K i)))), some (.int (nI (k_st (kks le K i)))), some (.int (nI i)), lo]) (st1 := [.int (nI i), .ref 103]) (M1 := (mk_M (cT im le ln ys (nI (k0 + 1)) nu nn rf vw vq yc yh yg) n m kk q)) (fun f => rfl) ?_
    refine mr_ldn (xs := ys) rfl rfl (v := nI (kpos le i)) (k := i) (by omega) (hys i (by omega)) ?_
    refine mr_seg 5 (pc1 := 36) (ls1 := [some (.ref 101), some (.ref 117), some (.int (nI (k_mi (kks le K i)))), some (.int (nI (k_st (kks le K i)))), some (.int (nI i)), some (.int (nI (kpos le i)))]) (st1 := [.int (nI (k_st (kks le K i))), .int (nI (k_mi (kks le K i))), .int (nI (kpos le i)), .ref 101]) (M1 := (mk_M (cT im le ln ys (nI (k0 + 1)) nu nn rf vw vq yc yh yg) n m kk q)) (fun f => rfl) ?_
    refine mr_call (y := 34) (y0 := 39) (L := [some (.ref 101), some (.int (nI (kpos le i))), some (.int (nI (k_mi (kks le K i)))), some (.int (nI (k_st (kks le K i)))), none]) (rest := []) (rr := some (.int 1)) (M1 := (mk_M (cT im le ln ys (nI (k0 + 1)) nu nn rf vw vq yc yh yg) n m kk q)) (fun f => rfl) (mr_eq (kd_wr im le ln ys (nI (k0 + 1)) nu nn rf vw vq yc yh yg n m kk q (kpos le i) (k_mi (kks le K i)) (k_st (kks le K i)) hB hk hm5 hAi.2) (by rw [show kwr le (kpos le i) (k_mi (kks le K i)) (k_st (kks le K i)) = true from hw] <;> rfl)) ?_
    refine mr_eq (mr_ret 3 (o := (some (.int (nI (kpos le i))), (mk_M (cT im le ln ys (nI (k0 + 1)) nu nn rf vw vq yc yh yg) n m kk q))) (fun f => rfl)) ?_
    rw [show j0 = i by omega]
  | succ k IH =>
    intro i lo hi
    have hk := hL i (by omega)
    have hkl := kmis_lt hk
    obtain ⟨f1, f2, f3⟩ := kst_f hk
    have e1 := b2 (kpos le i + 1)
    have e2 := b2 (kpos le i + 2)
    have ekn := knum_lt e1 e2
    have e0 := b2 (kpos le i)
    have hAi := kks_A (n := j0) b2 (fun i2 h2 => hL i2 (by omega)) hA hwf i (by omega)
    have hm5 := kV_mi hAi.1
    have hst := hAi.2
    have hw : kwi le K i = false := hwf i (by omega)
    refine mr_seg 3 (pc1 := 19) (ls1 := [some (.ref 101), some (.ref 117), some (.int (nI (k_mi (kks le K i)))), some (.int (nI (k_st (kks le K i)))), some (.int (nI i)), lo]) (st1 := [.int (nI (k0 + 1)), .int (nI i)]) (M1 := (mk_M (cT im le ln ys (nI (k0 + 1)) nu nn rf vw vq yc yh yg) n m kk q)) (fun f => rfl) ?_
    refine mr_f (C := (nI (k0 + 1)) ≤ (nI i)) (nI_lef (a := k0 + 1) (b := i) (by omega)) (fun f => rfl) ?_
    refine mr_seg 3 (pc1 := 28) (ls1 := [some (.ref 101), some (.ref 117), some (.int (nI (k_mi (kks le K i)))), some (.int (nI (k_st (kks le K i)))), some (.int (nI i)), lo]) (st1 := [.int (nI i), .ref 103]) (M1 := (mk_M (cT im le ln ys (nI (k0 + 1)) nu nn rf vw vq yc yh yg) n m kk q)) (fun f => rfl) ?_
    refine mr_ldn (xs := ys) rfl rfl (v := nI (kpos le i)) (k := i) (by omega) (hys i (by omega)) ?_
    refine mr_seg 5 (pc1 := 36) (ls1 := [some (.ref 101), some (.ref 117), some (.int (nI (k_mi (kks le K i)))), some (.int (nI (k_st (kks le K i)))), some (.int (nI i)), some (.int (nI (kpos le i)))]) (st1 := [.int (nI (k_st (kks le K i))), .int (nI (k_mi (kks le K i))), .int (nI (kpos le i)), .ref 101]) (M1 := (mk_M (cT im le ln ys (nI (k0 + 1)) nu nn rf vw vq yc yh yg) n m kk q)) (fun f => rfl) ?_
    refine mr_call (y := 34) (y0 := 39) (L := [some (.ref 101), some (.int (nI (kpos le i))), some (.int (nI (k_mi (kks le K i)))), some (.int (nI (k_st (kks le K i)))), none]) (rest := []) (rr := some (.int 0)) (M1 := (mk_M (cT im le ln ys (nI (k0 + 1)) nu nn rf vw vq yc yh yg) n m kk q)) (fun f => rfl) (mr_eq (kd_wr im le ln ys (nI (k0 + 1)) nu nn rf vw vq yc yh yg n m kk q (kpos le i) (k_mi (kks le K i)) (k_st (kks le K i)) hB hk hm5 hAi.2) (by rw [show kwr le (kpos le i) (k_mi (kks le K i)) (k_st (kks le K i)) = false from hw] <;> rfl)) ?_
    refine mr_seg 4 (pc1 := 51) (ls1 := [some (.ref 101), some (.ref 117), some (.int (nI (k_mi (kks le K i)))), some (.int (nI (k_st (kks le K i)))), some (.int (nI i)), some (.int (nI (kpos le i)))]) (st1 := [.int (nI (kpos le i)), .ref 102]) (M1 := (mk_M (cT im le ln ys (nI (k0 + 1)) nu nn rf vw vq yc yh yg) n m kk q)) (fun f => rfl) ?_
    refine mr_ldk (l0 := le) rfl rfl (k := kpos le i) (by omega) ?_
    refine mr_seg 1 (pc1 := 54) (ls1 := [some (.ref 101), some (.ref 117), some (.int (nI (k_mi (kks le K i)))), some (.int (nI (k_st (kks le K i)))), some (.int (nI i)), some (.int (nI (kpos le i)))]) (st1 := [.int 109, .int (nI (kg le (kpos le i)))]) (M1 := (mk_M (cT im le ln ys (nI (k0 + 1)) nu nn rf vw vq yc yh yg) n m kk q)) (fun f => rfl) ?_
    refine mr_ifN (C := (nI (kg le (kpos le i))) = 109) (nI_eqi (a := kg le (kpos le i)) (b := 109) (by omega)) (fun f => rfl) (fun h1 => ?_) (fun h1 => ?_)
    · refine mr_seg 1 (pc1 := 60) (ls1 := [some (.ref 101), some (.ref 117), some (.int ((nI (k_mi (kks le K i))) + 1)), some (.int (nI (k_st (kks le K i)))), some (.int (nI i)), some (.int (nI (kpos le i)))]) (st1 := []) (M1 := (mk_M (cT im le ln ys (nI (k0 + 1)) nu nn rf vw vq yc yh yg) n m kk q)) (fun f => rfl) ?_
      refine mr_l (fun q_ => [some (.ref 101), some (.ref 117), some (.int q_), some (.int (nI (k_st (kks le K i)))), some (.int (nI i)), some (.int (nI (kpos le i)))]) (nI_add (k_mi (kks le K i)) 1) ?_
      refine mr_seg 3 (pc1 := 66) (ls1 := [some (.ref 101), some (.ref 117), some (.int (nI (k_mi (kks le K i) + 1))), some (.int (nI (k_st (kks le K i)))), some (.int (nI i)), some (.int (nI (kpos le i)))]) (st1 := [.int (nI (kpos le i)), .ref 102]) (M1 := (mk_M (cT im le ln ys (nI (k0 + 1)) nu nn rf vw vq yc yh yg) n m kk q)) (fun f => rfl) ?_
      refine mr_ldk (l0 := le) rfl rfl (k := kpos le i) (by omega) ?_
      refine mr_seg 1 (pc1 := 69) (ls1 := [some (.ref 101), some (.ref 117), some (.int (nI (k_mi (kks le K i) + 1))), some (.int (nI (k_st (kks le K i)))), some (.int (nI i)), some (.int (nI (kpos le i)))]) (st1 := [.int 115, .int (nI (kg le (kpos le i)))]) (M1 := (mk_M (cT im le ln ys (nI (k0 + 1)) nu nn rf vw vq yc yh yg) n m kk q)) (fun f => rfl) ?_
      refine mr_ifN (C := (nI (kg le (kpos le i))) = 115) (nI_eqi (a := kg le (kpos le i)) (b := 115) (by omega)) (fun f => rfl) (fun h2 => ?_) (fun h2 => ?_)
      · refine mr_seg 5 (pc1 := 78) (ls1 := [some (.ref 101), some (.ref 117), some (.int (nI (k_mi (kks le K i) + 1))), some (.int (nI (k_st (kks le K i)))), some (.int (nI i)), some (.int (nI (kpos le i)))]) (st1 := [.int ((nI (kpos le i)) + (1 : Int32)), .ref 101, .int (nI (k_st (kks le K i)))]) (M1 := (mk_M (cT im le ln ys (nI (k0 + 1)) nu nn rf vw vq yc yh yg) n m kk q)) (fun f => rfl) ?_
        refine mr_v (nI_add (kpos le i) 1) ?_
        refine mr_call (y := 35) (y0 := 81) (L := [some (.ref 101), some (.int (nI (kpos le i + 1)))]) (rest := [.int (nI (k_st (kks le K i)))]) (rr := some (.int (nI (knum le (kpos le i))))) (M1 := (mk_M (cT im le ln ys (nI (k0 + 1)) nu nn rf vw vq yc yh yg) n m kk q)) (fun f => rfl) (kd_two im le ln ys (nI (k0 + 1)) nu nn rf vw vq yc yh yg n m kk q (kpos le i) hB f1 f2 f3) ?_
        refine mr_seg 1 (pc1 := 82) (ls1 := [some (.ref 101), some (.ref 117), some (.int (nI (k_mi (kks le K i) + 1))), some (.int (nI (k_st (kks le K i)))), some (.int (nI i)), some (.int (nI (kpos le i)))]) (st1 := [.int ((nI (k_st (kks le K i))) + (nI (knum le (kpos le i))))]) (M1 := (mk_M (cT im le ln ys (nI (k0 + 1)) nu nn rf vw vq yc yh yg) n m kk q)) (fun f => rfl) ?_
        refine mr_v (nI_add (k_st (kks le K i)) (knum le (kpos le i))) ?_
        refine mr_seg 2 (pc1 := 86) (ls1 := [some (.ref 101), some (.ref 117), some (.int (nI (k_mi (kks le K i) + 1))), some (.int (nI (k_st (kks le K i) + knum le (kpos le i)))), some (.int ((nI i) + 1)), some (.int (nI (kpos le i)))]) (st1 := []) (M1 := (mk_M (cT im le ln ys (nI (k0 + 1)) nu nn rf vw vq yc yh yg) n m kk q)) (fun f => rfl) ?_
        refine mr_l (fun q_ => [some (.ref 101), some (.ref 117), some (.int (nI (k_mi (kks le K i) + 1))), some (.int (nI (k_st (kks le K i) + knum le (kpos le i)))), some (.int q_), some (.int (nI (kpos le i)))]) (nI_add i 1) ?_
        refine mr_seg 1 (pc1 := 13) (ls1 := [some (.ref 101), some (.ref 117), some (.int (nI (k_mi (kks le K i) + 1))), some (.int (nI (k_st (kks le K i) + knum le (kpos le i)))), some (.int (nI (i + 1))), some (.int (nI (kpos le i)))]) (st1 := []) (M1 := (mk_M (cT im le ln ys (nI (k0 + 1)) nu nn rf vw vq yc yh yg) n m kk q)) (fun f => rfl) ?_
        have IH2 := IH (i + 1) (some (.int (nI (kpos le i)))) (by omega)
        rw [show k_mi (kks le K (i + 1)) = _ from kap_mi (kmis_l hk), show k_st (kks le K (i + 1)) = _ from kap_st (kmis_l hk), if_pos h1, if_pos h2] at IH2
        exact IH2
      · refine mr_seg 1 (pc1 := 86) (ls1 := [some (.ref 101), some (.ref 117), some (.int (nI (k_mi (kks le K i) + 1))), some (.int (nI (k_st (kks le K i)))), some (.int ((nI i) + 1)), some (.int (nI (kpos le i)))]) (st1 := []) (M1 := (mk_M (cT im le ln ys (nI (k0 + 1)) nu nn rf vw vq yc yh yg) n m kk q)) (fun f => rfl) ?_
        refine mr_l (fun q_ => [some (.ref 101), some (.ref 117), some (.int (nI (k_mi (kks le K i) + 1))), some (.int (nI (k_st (kks le K i)))), some (.int q_), some (.int (nI (kpos le i)))]) (nI_add i 1) ?_
        refine mr_seg 1 (pc1 := 13) (ls1 := [some (.ref 101), some (.ref 117), some (.int (nI (k_mi (kks le K i) + 1))), some (.int (nI (k_st (kks le K i)))), some (.int (nI (i + 1))), some (.int (nI (kpos le i)))]) (st1 := []) (M1 := (mk_M (cT im le ln ys (nI (k0 + 1)) nu nn rf vw vq yc yh yg) n m kk q)) (fun f => rfl) ?_
        have IH2 := IH (i + 1) (some (.int (nI (kpos le i)))) (by omega)
        rw [show k_mi (kks le K (i + 1)) = _ from kap_mi (kmis_l hk), show k_st (kks le K (i + 1)) = _ from kap_st (kmis_l hk), if_pos h1, if_neg h2] at IH2
        exact IH2
    · refine mr_seg 3 (pc1 := 66) (ls1 := [some (.ref 101), some (.ref 117), some (.int (nI (k_mi (kks le K i)))), some (.int (nI (k_st (kks le K i)))), some (.int (nI i)), some (.int (nI (kpos le i)))]) (st1 := [.int (nI (kpos le i)), .ref 102]) (M1 := (mk_M (cT im le ln ys (nI (k0 + 1)) nu nn rf vw vq yc yh yg) n m kk q)) (fun f => rfl) ?_
      refine mr_ldk (l0 := le) rfl rfl (k := kpos le i) (by omega) ?_
      refine mr_seg 1 (pc1 := 69) (ls1 := [some (.ref 101), some (.ref 117), some (.int (nI (k_mi (kks le K i)))), some (.int (nI (k_st (kks le K i)))), some (.int (nI i)), some (.int (nI (kpos le i)))]) (st1 := [.int 115, .int (nI (kg le (kpos le i)))]) (M1 := (mk_M (cT im le ln ys (nI (k0 + 1)) nu nn rf vw vq yc yh yg) n m kk q)) (fun f => rfl) ?_
      refine mr_ifN (C := (nI (kg le (kpos le i))) = 115) (nI_eqi (a := kg le (kpos le i)) (b := 115) (by omega)) (fun f => rfl) (fun h3 => ?_) (fun h3 => ?_)
      · refine mr_seg 5 (pc1 := 78) (ls1 := [some (.ref 101), some (.ref 117), some (.int (nI (k_mi (kks le K i)))), some (.int (nI (k_st (kks le K i)))), some (.int (nI i)), some (.int (nI (kpos le i)))]) (st1 := [.int ((nI (kpos le i)) + (1 : Int32)), .ref 101, .int (nI (k_st (kks le K i)))]) (M1 := (mk_M (cT im le ln ys (nI (k0 + 1)) nu nn rf vw vq yc yh yg) n m kk q)) (fun f => rfl) ?_
        refine mr_v (nI_add (kpos le i) 1) ?_
        refine mr_call (y := 35) (y0 := 81) (L := [some (.ref 101), some (.int (nI (kpos le i + 1)))]) (rest := [.int (nI (k_st (kks le K i)))]) (rr := some (.int (nI (knum le (kpos le i))))) (M1 := (mk_M (cT im le ln ys (nI (k0 + 1)) nu nn rf vw vq yc yh yg) n m kk q)) (fun f => rfl) (kd_two im le ln ys (nI (k0 + 1)) nu nn rf vw vq yc yh yg n m kk q (kpos le i) hB f1 f2 f3) ?_
        refine mr_seg 1 (pc1 := 82) (ls1 := [some (.ref 101), some (.ref 117), some (.int (nI (k_mi (kks le K i)))), some (.int (nI (k_st (kks le K i)))), some (.int (nI i)), some (.int (nI (kpos le i)))]) (st1 := [.int ((nI (k_st (kks le K i))) + (nI (knum le (kpos le i))))]) (M1 := (mk_M (cT im le ln ys (nI (k0 + 1)) nu nn rf vw vq yc yh yg) n m kk q)) (fun f => rfl) ?_
        refine mr_v (nI_add (k_st (kks le K i)) (knum le (kpos le i))) ?_
        refine mr_seg 2 (pc1 := 86) (ls1 := [some (.ref 101), some (.ref 117), some (.int (nI (k_mi (kks le K i)))), some (.int (nI (k_st (kks le K i) + knum le (kpos le i)))), some (.int ((nI i) + 1)), some (.int (nI (kpos le i)))]) (st1 := []) (M1 := (mk_M (cT im le ln ys (nI (k0 + 1)) nu nn rf vw vq yc yh yg) n m kk q)) (fun f => rfl) ?_
        refine mr_l (fun q_ => [some (.ref 101), some (.ref 117), some (.int (nI (k_mi (kks le K i)))), some (.int (nI (k_st (kks le K i) + knum le (kpos le i)))), some (.int q_), some (.int (nI (kpos le i)))]) (nI_add i 1) ?_
        refine mr_seg 1 (pc1 := 13) (ls1 := [some (.ref 101), some (.ref 117), some (.int (nI (k_mi (kks le K i)))), some (.int (nI (k_st (kks le K i) + knum le (kpos le i)))), some (.int (nI (i + 1))), some (.int (nI (kpos le i)))]) (st1 := []) (M1 := (mk_M (cT im le ln ys (nI (k0 + 1)) nu nn rf vw vq yc yh yg) n m kk q)) (fun f => rfl) ?_
        have IH2 := IH (i + 1) (some (.int (nI (kpos le i)))) (by omega)
        rw [show k_mi (kks le K (i + 1)) = _ from kap_mi (kmis_l hk), show k_st (kks le K (i + 1)) = _ from kap_st (kmis_l hk), if_neg h1, if_pos h3] at IH2
        exact IH2
      · refine mr_seg 1 (pc1 := 86) (ls1 := [some (.ref 101), some (.ref 117), some (.int (nI (k_mi (kks le K i)))), some (.int (nI (k_st (kks le K i)))), some (.int ((nI i) + 1)), some (.int (nI (kpos le i)))]) (st1 := []) (M1 := (mk_M (cT im le ln ys (nI (k0 + 1)) nu nn rf vw vq yc yh yg) n m kk q)) (fun f => rfl) ?_
        refine mr_l (fun q_ => [some (.ref 101), some (.ref 117), some (.int (nI (k_mi (kks le K i)))), some (.int (nI (k_st (kks le K i)))), some (.int q_), some (.int (nI (kpos le i)))]) (nI_add i 1) ?_
        refine mr_seg 1 (pc1 := 13) (ls1 := [some (.ref 101), some (.ref 117), some (.int (nI (k_mi (kks le K i)))), some (.int (nI (k_st (kks le K i)))), some (.int (nI (i + 1))), some (.int (nI (kpos le i)))]) (st1 := []) (M1 := (mk_M (cT im le ln ys (nI (k0 + 1)) nu nn rf vw vq yc yh yg) n m kk q)) (fun f => rfl) ?_
        have IH2 := IH (i + 1) (some (.int (nI (kpos le i)))) (by omega)
        rw [show k_mi (kks le K (i + 1)) = _ from kap_mi (kmis_l hk), show k_st (kks le K (i + 1)) = _ from kap_st (kmis_l hk), if_neg h1, if_neg h3] at IH2
        exact IH2
set_option maxRecDepth 100000 in
theorem kd_fwO0 (im : Nat) (le : List Nat) (ln : Nat) (ys : List Int32) (nu : List Nat) (nn : Nat) (rf : List Nat) (vw vq : Int32) (yc yh yg : List Int32) (n m kk : kG) (q : cR) (hB : iB le ln) (k0 : Nat) (K : kK) (hA : iA K) (hL : ∀ i, i ≤ k0 → kmis le ln (kpos le i) = none) (hk0 : k0 < 96) (hy : ys.length = 96) (hys : ∀ i, i ≤ k0 → ys[i]? = some (nI (kpos le i))) (hwf : ∀ i, i < k0 + 1 → kwi le K i = false) (k : Nat) : ∀ (i : Nat) (lo : Option Value), i + k = k0 + 1 → mm_R 33 13 [some (.ref 101), some (.ref 117), some (.int (nI (k_mi (kks le K i)))), some (.int (nI (k_st (kks le K i)))), some (.int (nI i)), lo] [] (mk_M (cT im le ln ys (nI (k0 + 1)) nu nn rf vw vq yc yh yg) n m kk q) (some (.int (-9)), (mk_M (cT im le ln ys (nI (k0 + 1)) nu nn rf vw vq yc yh yg) n m kk q)) := by
  obtain ⟨b1, b2, b3⟩ := id hB
  induction k with
  | zero =>
    intro i lo hi
    refine mr_seg 3 (pc1 := 19) (ls1 := [some (.ref 101), some (.ref 117), some (.int (nI (k_mi (kks le K i)))), some (.int (nI (k_st (kks le K i)))), some (.int (nI i)), lo]) (st1 := [.int (nI (k0 + 1)), .int (nI i)]) (M1 := (mk_M (cT im le ln ys (nI (k0 + 1)) nu nn rf vw vq yc yh yg) n m kk q)) (fun f => rfl) ?_
    refine mr_t (C := (nI (k0 + 1)) ≤ (nI i)) (nI_let (a := k0 + 1) (b := i) (by omega)) (fun f => rfl) ?_
    exact mr_ret 2 (fun f => rfl)
  | succ k IH =>
    intro i lo hi
    have hk := hL i (by omega)
    have hkl := kmis_lt hk
    obtain ⟨f1, f2, f3⟩ := kst_f hk
    have e1 := b2 (kpos le i + 1)
    have e2 := b2 (kpos le i + 2)
    have ekn := knum_lt e1 e2
    have e0 := b2 (kpos le i)
    have hAi := kks_A (n := k0 + 1) b2 (fun i2 h2 => hL i2 (by omega)) hA hwf i (by omega)
    have hm5 := kV_mi hAi.1
    have hst := hAi.2
    have hw : kwi le K i = false := hwf i (by omega)
    refine mr_seg 3 (pc1 := 19) (ls1 := [some (.ref 101), some (.ref 117), some (.int (nI (k_mi (kks le K i)))), some (.int (nI (k_st (kks le K i)))), some (.int (nI i)), lo]) (st1 := [.int (nI (k0 + 1)), .int (nI i)]) (M1 := (mk_M (cT im le ln ys (nI (k0 + 1)) nu nn rf vw vq yc yh yg) n m kk q)) (fun f => rfl) ?_
    refine mr_f (C := (nI (k0 + 1)) ≤ (nI i)) (nI_lef (a := k0 + 1) (b := i) (by omega)) (fun f => rfl) ?_
    refine mr_seg 3 (pc1 := 28) (ls1 := [some (.ref 101), some (.ref 117), some (.int (nI (k_mi (kks le K i)))), some (.int (nI (k_st (kks le K i)))), some (.int (nI i)), lo]) (st1 := [.int (nI i), .ref 103]) (M1 := (mk_M (cT im le ln ys (nI (k0 + 1)) nu nn rf vw vq yc yh yg) n m kk q)) (fun f => rfl) ?_
    refine mr_ldn (xs := ys) rfl rfl (v := nI (kpos le i)) (k := i) (by omega) (hys i (by omega)) ?_
    refine mr_seg 5 (pc1 := 36) (ls1 := [some (.ref 101), some (.ref 117), some (.int (nI (k_mi (kks le K i)))), some (.int (nI (k_st (kks le K i)))), some (.int (nI i)), some (.int (nI (kpos le i)))]) (st1 := [.int (nI (k_st (kks le K i))), .int (nI (k_mi (kks le K i))), .int (nI (kpos le i)), .ref 101]) (M1 := (mk_M (cT im le ln ys (nI (k0 + 1)) nu nn rf vw vq yc yh yg) n m kk q)) (fun f => rfl) ?_
    refine mr_call (y := 34) (y0 := 39) (L := [some (.ref 101), some (.int (nI (kpos le i))), some (.int (nI (k_mi (kks le K i)))), some (.int (nI (k_st (kks le K i)))), none]) (rest := []) (rr := some (.int 0)) (M1 := (mk_M (cT im le ln ys (nI (k0 + 1)) nu nn rf vw vq yc yh yg) n m kk q)) (fun f => rfl) (mr_eq (kd_wr im le ln ys (nI (k0 + 1)) nu nn rf vw vq yc yh yg n m kk q (kpos le i) (k_mi (kks le K i)) (k_st (kks le K i)) hB hk hm5 hAi.2) (by rw [show kwr le (kpos le i) (k_mi (kks le K i)) (k_st (kks le K i)) = false from hw] <;> rfl)) ?_
    refine mr_seg 4 (pc1 := 51) (ls1 := [some (.ref 101), some (.ref 117), some (.int (nI (k_mi (kks le K i)))), some (.int (nI (k_st (kks le K i)))), some (.int (nI i)), some (.int (nI (kpos le i)))]) (st1 := [.int (nI (kpos le i)), .ref 102]) (M1 := (mk_M (cT im le ln ys (nI (k0 + 1)) nu nn rf vw vq yc yh yg) n m kk q)) (fun f => rfl) ?_
    refine mr_ldk (l0 := le) rfl rfl (k := kpos le i) (by omega) ?_
    refine mr_seg 1 (pc1 := 54) (ls1 := [some (.ref 101), some (.ref 117), some (.int (nI (k_mi (kks le K i)))), some (.int (nI (k_st (kks le K i)))), some (.int (nI i)), some (.int (nI (kpos le i)))]) (st1 := [.int 109, .int (nI (kg le (kpos le i)))]) (M1 := (mk_M (cT im le ln ys (nI (k0 + 1)) nu nn rf vw vq yc yh yg) n m kk q)) (fun f => rfl) ?_
    refine mr_ifN (C := (nI (kg le (kpos le i))) = 109) (nI_eqi (a := kg le (kpos le i)) (b := 109) (by omega)) (fun f => rfl) (fun h1 => ?_) (fun h1 => ?_)
    · refine mr_seg 1 (pc1 := 60) (ls1 := [some (.ref 101), some (.ref 117), some (.int ((nI (k_mi (kks le K i))) + 1)), some (.int (nI (k_st (kks le K i)))), some (.int (nI i)), some (.int (nI (kpos le i)))]) (st1 := []) (M1 := (mk_M (cT im le ln ys (nI (k0 + 1)) nu nn rf vw vq yc yh yg) n m kk q)) (fun f => rfl) ?_
      refine mr_l (fun q_ => [some (.ref 101), some (.ref 117), some (.int q_), some (.int (nI (k_st (kks le K i)))), some (.int (nI i)), some (.int (nI (kpos le i)))]) (nI_add (k_mi (kks le K i)) 1) ?_
      refine mr_seg 3 (pc1 := 66) (ls1 := [some (.ref 101), some (.ref 117), some (.int (nI (k_mi (kks le K i) + 1))), some (.int (nI (k_st (kks le K i)))), some (.int (nI i)), some (.int (nI (kpos le i)))]) (st1 := [.int (nI (kpos le i)), .ref 102]) (M1 := (mk_M (cT im le ln ys (nI (k0 + 1)) nu nn rf vw vq yc yh yg) n m kk q)) (fun f => rfl) ?_
      refine mr_ldk (l0 := le) rfl rfl (k := kpos le i) (by omega) ?_
      refine mr_seg 1 (pc1 := 69) (ls1 := [some (.ref 101), some (.ref 117), some (.int (nI (k_mi (kks le K i) + 1))), some (.int (nI (k_st (kks le K i)))), some (.int (nI i)), some (.int (nI (kpos le i)))]) (st1 := [.int 115, .int (nI (kg le (kpos le i)))]) (M1 := (mk_M (cT im le ln ys (nI (k0 + 1)) nu nn rf vw vq yc yh yg) n m kk q)) (fun f => rfl) ?_
      refine mr_ifN (C := (nI (kg le (kpos le i))) = 115) (nI_eqi (a := kg le (kpos le i)) (b := 115) (by omega)) (fun f => rfl) (fun h2 => ?_) (fun h2 => ?_)
      · refine mr_seg 5 (pc1 := 78) (ls1 := [some (.ref 101), some (.ref 117), some (.int (nI (k_mi (kks le K i) + 1))), some (.int (nI (k_st (kks le K i)))), some (.int (nI i)), some (.int (nI (kpos le i)))]) (st1 := [.int ((nI (kpos le i)) + (1 : Int32)), .ref 101, .int (nI (k_st (kks le K i)))]) (M1 := (mk_M (cT im le ln ys (nI (k0 + 1)) nu nn rf vw vq yc yh yg) n m kk q)) (fun f => rfl) ?_
        refine mr_v (nI_add (kpos le i) 1) ?_
        refine mr_call (y := 35) (y0 := 81) (L := [some (.ref 101), some (.int (nI (kpos le i + 1)))]) (rest := [.int (nI (k_st (kks le K i)))]) (rr := some (.int (nI (knum le (kpos le i))))) (M1 := (mk_M (cT im le ln ys (nI (k0 + 1)) nu nn rf vw vq yc yh yg) n m kk q)) (fun f => rfl) (kd_two im le ln ys (nI (k0 + 1)) nu nn rf vw vq yc yh yg n m kk q (kpos le i) hB f1 f2 f3) ?_
        refine mr_seg 1 (pc1 := 82) (ls1 := [some (.ref 101), some (.ref 117), some (.int (nI (k_mi (kks le K i) + 1))), some (.int (nI (k_st (kks le K i)))), some (.int (nI i)), some (.int (nI (kpos le i)))]) (st1 := [.int ((nI (k_st (kks le K i))) + (nI (knum le (kpos le i))))]) (M1 := (mk_M (cT im le ln ys (nI (k0 + 1)) nu nn rf vw vq yc yh yg) n m kk q)) (fun f => rfl) ?_
        refine mr_v (nI_add (k_st (kks le K i)) (knum le (kpos le i))) ?_
        refine mr_seg 2 (pc1 := 86) (ls1 := [some (.ref 101), some (.ref 117), some (.int (nI (k_mi (kks le K i) + 1))), some (.int (nI (k_st (kks le K i) + knum le (kpos le i)))), some (.int ((nI i) + 1)), some (.int (nI (kpos le i)))]) (st1 := []) (M1 := (mk_M (cT im le ln ys (nI (k0 + 1)) nu nn rf vw vq yc yh yg) n m kk q)) (fun f => rfl) ?_
        refine mr_l (fun q_ => [some (.ref 101), some (.ref 117), some (.int (nI (k_mi (kks le K i) + 1))), some (.int (nI (k_st (kks le K i) + knum le (kpos le i)))), some (.int q_), some (.int (nI (kpos le i)))]) (nI_add i 1) ?_
        refine mr_seg 1 (pc1 := 13) (ls1 := [some (.ref 101), some (.ref 117), some (.int (nI (k_mi (kks le K i) + 1))), some (.int (nI (k_st (kks le K i) + knum le (kpos le i)))), some (.int (nI (i + 1))), some (.int (nI (kpos le i)))]) (st1 := []) (M1 := (mk_M (cT im le ln ys (nI (k0 + 1)) nu nn rf vw vq yc yh yg) n m kk q)) (fun f => rfl) ?_
        have IH2 := IH (i + 1) (some (.int (nI (kpos le i)))) (by omega)
        rw [show k_mi (kks le K (i + 1)) = _ from kap_mi (kmis_l hk), show k_st (kks le K (i + 1)) = _ from kap_st (kmis_l hk), if_pos h1, if_pos h2] at IH2
        exact IH2
      · refine mr_seg 1 (pc1 := 86) (ls1 := [some (.ref 101), some (.ref 117), some (.int (nI (k_mi (kks le K i) + 1))), some (.int (nI (k_st (kks le K i)))), some (.int ((nI i) + 1)), some (.int (nI (kpos le i)))]) (st1 := []) (M1 := (mk_M (cT im le ln ys (nI (k0 + 1)) nu nn rf vw vq yc yh yg) n m kk q)) (fun f => rfl) ?_
        refine mr_l (fun q_ => [some (.ref 101), some (.ref 117), some (.int (nI (k_mi (kks le K i) + 1))), some (.int (nI (k_st (kks le K i)))), some (.int q_), some (.int (nI (kpos le i)))]) (nI_add i 1) ?_
        refine mr_seg 1 (pc1 := 13) (ls1 := [some (.ref 101), some (.ref 117), some (.int (nI (k_mi (kks le K i) + 1))), some (.int (nI (k_st (kks le K i)))), some (.int (nI (i + 1))), some (.int (nI (kpos le i)))]) (st1 := []) (M1 := (mk_M (cT im le ln ys (nI (k0 + 1)) nu nn rf vw vq yc yh yg) n m kk q)) (fun f => rfl) ?_
        have IH2 := IH (i + 1) (some (.int (nI (kpos le i)))) (by omega)
        rw [show k_mi (kks le K (i + 1)) = _ from kap_mi (kmis_l hk), show k_st (kks le K (i + 1)) = _ from kap_st (kmis_l hk), if_pos h1, if_neg h2] at IH2
        exact IH2
    · refine mr_seg 3 (pc1 := 66) (ls1 := [some (.ref 101), some (.ref 117), some (.int (nI (k_mi (kks le K i)))), some (.int (nI (k_st (kks le K i)))), some (.int (nI i)), some (.int (nI (kpos le i)))]) (st1 := [.int (nI (kpos le i)), .ref 102]) (M1 := (mk_M (cT im le ln ys (nI (k0 + 1)) nu nn rf vw vq yc yh yg) n m kk q)) (fun f => rfl) ?_
      refine mr_ldk (l0 := le) rfl rfl (k := kpos le i) (by omega) ?_
      refine mr_seg 1 (pc1 := 69) (ls1 := [some (.ref 101), some (.ref 117), some (.int (nI (k_mi (kks le K i)))), some (.int (nI (k_st (kks le K i)))), some (.int (nI i)), some (.int (nI (kpos le i)))]) (st1 := [.int 115, .int (nI (kg le (kpos le i)))]) (M1 := (mk_M (cT im le ln ys (nI (k0 + 1)) nu nn rf vw vq yc yh yg) n m kk q)) (fun f => rfl) ?_
      refine mr_ifN (C := (nI (kg le (kpos le i))) = 115) (nI_eqi (a := kg le (kpos le i)) (b := 115) (by omega)) (fun f => rfl) (fun h3 => ?_) (fun h3 => ?_)
      · refine mr_seg 5 (pc1 := 78) (ls1 := [some (.ref 101), some (.ref 117), some (.int (nI (k_mi (kks le K i)))), some (.int (nI (k_st (kks le K i)))), some (.int (nI i)), some (.int (nI (kpos le i)))]) (st1 := [.int ((nI (kpos le i)) + (1 : Int32)), .ref 101, .int (nI (k_st (kks le K i)))]) (M1 := (mk_M (cT im le ln ys (nI (k0 + 1)) nu nn rf vw vq yc yh yg) n m kk q)) (fun f => rfl) ?_
        refine mr_v (nI_add (kpos le i) 1) ?_
        refine mr_call (y := 35) (y0 := 81) (L := [some (.ref 101), some (.int (nI (kpos le i + 1)))]) (rest := [.int (nI (k_st (kks le K i)))]) (rr := some (.int (nI (knum le (kpos le i))))) (M1 := (mk_M (cT im le ln ys (nI (k0 + 1)) nu nn rf vw vq yc yh yg) n m kk q)) (fun f => rfl) (kd_two im le ln ys (nI (k0 + 1)) nu nn rf vw vq yc yh yg n m kk q (kpos le i) hB f1 f2 f3) ?_
        refine mr_seg 1 (pc1 := 82) (ls1 := [some (.ref 101), some (.ref 117), some (.int (nI (k_mi (kks le K i)))), some (.int (nI (k_st (kks le K i)))), some (.int (nI i)), some (.int (nI (kpos le i)))]) (st1 := [.int ((nI (k_st (kks le K i))) + (nI (knum le (kpos le i))))]) (M1 := (mk_M (cT im le ln ys (nI (k0 + 1)) nu nn rf vw vq yc yh yg) n m kk q)) (fun f => rfl) ?_
        refine mr_v (nI_add (k_st (kks le K i)) (knum le (kpos le i))) ?_
        refine mr_seg 2 (pc1 := 86) (ls1 := [some (.ref 101), some (.ref 117), some (.int (nI (k_mi (kks le K i)))), some (.int (nI (k_st (kks le K i) + knum le (kpos le i)))), some (.int ((nI i) + 1)), some (.int (nI (kpos le i)))]) (st1 := []) (M1 := (mk_M (cT im le ln ys (nI (k0 + 1)) nu nn rf vw vq yc yh yg) n m kk q)) (fun f => rfl) ?_
        refine mr_l (fun q_ => [some (.ref 101), some (.ref 117), some (.int (nI (k_mi (kks le K i)))), some (.int (nI (k_st (kks le K i) + knum le (kpos le i)))), some (.int q_), some (.int (nI (kpos le i)))]) (nI_add i 1) ?_
        refine mr_seg 1 (pc1 := 13) (ls1 := [some (.ref 101), some (.ref 117), some (.int (nI (k_mi (kks le K i)))), some (.int (nI (k_st (kks le K i) + knum le (kpos le i)))), some (.int (nI (i + 1))), some (.int (nI (kpos le i)))]) (st1 := []) (M1 := (mk_M (cT im le ln ys (nI (k0 + 1)) nu nn rf vw vq yc yh yg) n m kk q)) (fun f => rfl) ?_
        have IH2 := IH (i + 1) (some (.int (nI (kpos le i)))) (by omega)
        rw [show k_mi (kks le K (i + 1)) = _ from kap_mi (kmis_l hk), show k_st (kks le K (i + 1)) = _ from kap_st (kmis_l hk), if_neg h1, if_pos h3] at IH2
        exact IH2
      · refine mr_seg 1 (pc1 := 86) (ls1 := [some (.ref 101), some (.ref 117), some (.int (nI (k_mi (kks le K i)))), some (.int (nI (k_st (kks le K i)))), some (.int ((nI i) + 1)), some (.int (nI (kpos le i)))]) (st1 := []) (M1 := (mk_M (cT im le ln ys (nI (k0 + 1)) nu nn rf vw vq yc yh yg) n m kk q)) (fun f => rfl) ?_
        refine mr_l (fun q_ => [some (.ref 101), some (.ref 117), some (.int (nI (k_mi (kks le K i)))), some (.int (nI (k_st (kks le K i)))), some (.int q_), some (.int (nI (kpos le i)))]) (nI_add i 1) ?_
        refine mr_seg 1 (pc1 := 13) (ls1 := [some (.ref 101), some (.ref 117), some (.int (nI (k_mi (kks le K i)))), some (.int (nI (k_st (kks le K i)))), some (.int (nI (i + 1))), some (.int (nI (kpos le i)))]) (st1 := []) (M1 := (mk_M (cT im le ln ys (nI (k0 + 1)) nu nn rf vw vq yc yh yg) n m kk q)) (fun f => rfl) ?_
        have IH2 := IH (i + 1) (some (.int (nI (kpos le i)))) (by omega)
        rw [show k_mi (kks le K (i + 1)) = _ from kap_mi (kmis_l hk), show k_st (kks le K (i + 1)) = _ from kap_st (kmis_l hk), if_neg h1, if_neg h3] at IH2
        exact IH2
theorem kd_fwW (im : Nat) (le : List Nat) (ln : Nat) (ys : List Int32) (nu : List Nat) (nn : Nat) (rf : List Nat) (vw vq : Int32) (yc yh yg : List Int32) (m kk : kG) (q : cR) (hB : iB le ln) (k0 : Nat) (K : kK) (hA : iA K) (hL : ∀ i, i ≤ k0 → kmis le ln (kpos le i) = none) (hk0 : k0 < 96) (hy : ys.length = 96) (hys : ∀ i, i ≤ k0 → ys[i]? = some (nI (kpos le i))) (j0 : Nat) (hj0 : j0 ≤ k0) (hwf : ∀ i, i < j0 → kwi le K i = false) (hwt : kwi le K j0 = true) : mm_R 33 0 [some (.ref 101), some (.ref 117), none, none, none, none] [] (mk_M (cT im le ln ys (nI (k0 + 1)) nu nn rf vw vq yc yh yg) (kr K) m kk q) (some (.int (nI (kpos le j0))), (mk_M (cT im le ln ys (nI (k0 + 1)) nu nn rf vw vq yc yh yg) (kr K) m kk q)) := by
  refine mr_seg 8 (pc1 := 13) (ls1 := [some (.ref 101), some (.ref 117), some (.int (nI (k_mi K))), some (.int (nI (k_st K))), some (.int 0), none]) (st1 := []) (M1 := (mk_M (cT im le ln ys (nI (k0 + 1)) nu nn rf vw vq yc yh yg) (kr K) m kk q)) (fun f => rfl) ?_
  exact kd_fwW0 im le ln ys nu nn rf vw vq yc yh yg (kr K) m kk q hB k0 K hA hL hk0 hy hys j0 hj0 hwf hwt j0 0 none (by omega)
theorem kd_fwO (im : Nat) (le : List Nat) (ln : Nat) (ys : List Int32) (nu : List Nat) (nn : Nat) (rf : List Nat) (vw vq : Int32) (yc yh yg : List Int32) (m kk : kG) (q : cR) (hB : iB le ln) (k0 : Nat) (K : kK) (hA : iA K) (hL : ∀ i, i ≤ k0 → kmis le ln (kpos le i) = none) (hk0 : k0 < 96) (hy : ys.length = 96) (hys : ∀ i, i ≤ k0 → ys[i]? = some (nI (kpos le i))) (hwf : ∀ i, i < k0 + 1 → kwi le K i = false) : mm_R 33 0 [some (.ref 101), some (.ref 117), none, none, none, none] [] (mk_M (cT im le ln ys (nI (k0 + 1)) nu nn rf vw vq yc yh yg) (kr K) m kk q) (some (.int (-9)), (mk_M (cT im le ln ys (nI (k0 + 1)) nu nn rf vw vq yc yh yg) (kr K) m kk q)) := by
  refine mr_seg 8 (pc1 := 13) (ls1 := [some (.ref 101), some (.ref 117), some (.int (nI (k_mi K))), some (.int (nI (k_st K))), some (.int 0), none]) (st1 := []) (M1 := (mk_M (cT im le ln ys (nI (k0 + 1)) nu nn rf vw vq yc yh yg) (kr K) m kk q)) (fun f => rfl) ?_
  exact kd_fwO0 im le ln ys nu nn rf vw vq yc yh yg (kr K) m kk q hB k0 K hA hL hk0 hy hys hwf (k0 + 1) 0 none (by omega)
set_option maxRecDepth 100000 in
theorem kd_tt0 (im : Nat) (le : List Nat) (ln : Nat) (ys : List Int32) (nu : List Nat) (nn : Nat) (rf : List Nat) (vw vq : Int32) (yc yh yg : List Int32) (m kk : kG) (q : cR) (hB : iB le ln) (k0 : Nat) (K : kK) (hA : iA K) (hL : ∀ i, i ≤ k0 → kmis le ln (kpos le i) = none) (hk0 : k0 < 96) (hy : ys.length = 96) (hys : ∀ i, i ≤ k0 → ys[i]? = some (nI (kpos le i))) (hwf : ∀ i, i < k0 + 1 → kwi le K i = false) (k : Nat) : ∀ (i : Nat), i + k = k0 + 1 → mm_R 38 2 [some (.ref 101), some (.ref 117), some (.int (nI i))] [] (mk_M (cT im le ln ys (nI (k0 + 1)) nu nn rf vw vq yc yh yg) (kr (kks le K i)) m kk q) (some (.int (nI (k0 + 1))), mk_M (cT im le ln ys (nI (k0 + 1)) nu nn rf vw vq yc yh yg) (kr (kks le K (k0 + 1))) m kk q) := by
  obtain ⟨b1, b2, b3⟩ := id hB
  induction k with
  | zero =>
    intro i hi
    refine mr_seg 3 (pc1 := 7) (ls1 := [some (.ref 101), some (.ref 117), some (.int (nI i))]) (st1 := [.int (nI (k0 + 1)), .int (nI i)]) (M1 := (mk_M (cT im le ln ys (nI (k0 + 1)) nu nn rf vw vq yc yh yg) (kr (kks le K i)) m kk q)) (fun f => rfl) ?_
    refine mr_t (C := (nI (k0 + 1)) ≤ (nI i)) (nI_let (a := k0 + 1) (b := i) (by omega)) (fun f => rfl) ?_
    refine mr_eq (mr_ret 3 (o := (some (.int (nI (k0 + 1))), (mk_M (cT im le ln ys (nI (k0 + 1)) nu nn rf vw vq yc yh yg) (kr (kks le K i)) m kk q))) (fun f => rfl)) ?_
    rw [show i = k0 + 1 by omega]
  | succ k IH =>
    intro i hi
    have hk := hL i (by omega)
    have hkl := kmis_lt hk
    have hAi := kks_A (n := k0 + 1) b2 (fun i2 h2 => hL i2 (by omega)) hA hwf i (by omega)
    have hw : kwr le (kpos le i) (k_mi (kks le K i)) (k_st (kks le K i)) = false := hwf i (by omega)
    refine mr_seg 3 (pc1 := 7) (ls1 := [some (.ref 101), some (.ref 117), some (.int (nI i))]) (st1 := [.int (nI (k0 + 1)), .int (nI i)]) (M1 := (mk_M (cT im le ln ys (nI (k0 + 1)) nu nn rf vw vq yc yh yg) (kr (kks le K i)) m kk q)) (fun f => rfl) ?_
    refine mr_f (C := (nI (k0 + 1)) ≤ (nI i)) (nI_lef (a := k0 + 1) (b := i) (by omega)) (fun f => rfl) ?_
    refine mr_seg 4 (pc1 := 16) (ls1 := [some (.ref 101), some (.ref 117), some (.int (nI i))]) (st1 := [.int (nI i), .ref 103, .ref 101]) (M1 := (mk_M (cT im le ln ys (nI (k0 + 1)) nu nn rf vw vq yc yh yg) (kr (kks le K i)) m kk q)) (fun f => rfl) ?_
    refine mr_ldn (xs := ys) rfl rfl (v := nI (kpos le i)) (k := i) (by omega) (hys i (by omega)) ?_
    refine mr_seg 1 (pc1 := 18) (ls1 := [some (.ref 101), some (.ref 117), some (.int (nI i))]) (st1 := [.ref 117, .int (nI (kpos le i)), .ref 101]) (M1 := (mk_M (cT im le ln ys (nI (k0 + 1)) nu nn rf vw vq yc yh yg) (kr (kks le K i)) m kk q)) (fun f => rfl) ?_
    refine mr_call (y := 39) (y0 := 21) (L := [some (.ref 101), some (.int (nI (kpos le i))), some (.ref 117), none]) (rest := []) (rr := none) (M1 := (mk_M (cT im le ln ys (nI (k0 + 1)) nu nn rf vw vq yc yh yg) (kr (kks le K (i + 1))) m kk q)) (fun f => rfl) (kd_ts (kks le K i) im le ln ys (nI (k0 + 1)) nu nn rf vw vq yc yh yg m kk q (kpos le i) hB hk hAi hw) ?_
    refine mr_seg 1 (pc1 := 24) (ls1 := [some (.ref 101), some (.ref 117), some (.int ((nI i) + 1))]) (st1 := []) (M1 := (mk_M (cT im le ln ys (nI (k0 + 1)) nu nn rf vw vq yc yh yg) (kr (kks le K (i + 1))) m kk q)) (fun f => rfl) ?_
    refine mr_l (fun q_ => [some (.ref 101), some (.ref 117), some (.int q_)]) (nI_add i 1) ?_
    refine mr_seg 1 (pc1 := 2) (ls1 := [some (.ref 101), some (.ref 117), some (.int (nI (i + 1)))]) (st1 := []) (M1 := (mk_M (cT im le ln ys (nI (k0 + 1)) nu nn rf vw vq yc yh yg) (kr (kks le K (i + 1))) m kk q)) (fun f => rfl) ?_
    exact IH (i + 1) (by omega)
theorem kd_tt (im : Nat) (le : List Nat) (ln : Nat) (ys : List Int32) (nu : List Nat) (nn : Nat) (rf : List Nat) (vw vq : Int32) (yc yh yg : List Int32) (m kk : kG) (q : cR) (hB : iB le ln) (k0 : Nat) (K : kK) (hA : iA K) (hL : ∀ i, i ≤ k0 → kmis le ln (kpos le i) = none) (hk0 : k0 < 96) (hy : ys.length = 96) (hys : ∀ i, i ≤ k0 → ys[i]? = some (nI (kpos le i))) (hwf : ∀ i, i < k0 + 1 → kwi le K i = false) : mm_R 38 0 [some (.ref 101), some (.ref 117), none] [] (mk_M (cT im le ln ys (nI (k0 + 1)) nu nn rf vw vq yc yh yg) (kr K) m kk q) (some (.int (nI (k0 + 1))), mk_M (cT im le ln ys (nI (k0 + 1)) nu nn rf vw vq yc yh yg) (kr (kks le K (k0 + 1))) m kk q) := by
  refine mr_seg 2 (pc1 := 2) (ls1 := [some (.ref 101), some (.ref 117), some (.int 0)]) (st1 := []) (M1 := (mk_M (cT im le ln ys (nI (k0 + 1)) nu nn rf vw vq yc yh yg) (kr K) m kk q)) (fun f => rfl) ?_
  exact kd_tt0 im le ln ys nu nn rf vw vq yc yh yg m kk q hB k0 K hA hL hk0 hy hys hwf (k0 + 1) 0 (by omega)
