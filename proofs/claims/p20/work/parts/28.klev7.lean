/-! ===== that a call returns and keeps the state ===== -/
def isI (r : Option Value) : Prop := ∃ w : Int32, r = some (.int w)
def isB (r : Option Value) : Prop := ∃ b : Nat, b ≤ 1 ∧ r = some (.int (nI b))
def isL (r : Option Value) : Prop := ∃ w : Int64, r = some (.long w)
def isN (r : Option Value) : Prop := r = none
def pC (P : Option Value → Prop) (K : kK) (im : Nat) (le : List Nat) (ln : Nat) (ys : List Int32) (vt : Int32) (nu : List Nat) (nn : Nat) (rf : List Nat) (kk : kG) (q : cR) (r : Option Value) (M1 : mm_H) : Prop := P r ∧ ∃ (vw vq : Int32) (yc yh yg : List Int32) (m : kG), M1 = mk_M (cT im le ln ys vt nu nn rf vw vq yc yh yg) (kr K) m kk q ∧ iJ m ys yc yh yg
def pM (P : Option Value → Prop) (K : kK) (xi : List Int32) (im : Nat) (le nu rf : List Nat) (ln nn : Nat) (c : cC) (n m kk : kG) (r : Option Value) (M1 : mm_H) : Prop := P r ∧ ∃ (xm xw : List Int32) (vp : Int32) (xn xc : List Int32) (vs : Int32), M1 = mk_M c n m kk (rT K xm xi xw im le nu rf ln nn vp xn xc vs) ∧ iR xm xw xn xc
def pP (P : Option Value → Prop) (M : mm_H) (r : Option Value) (M1 : mm_H) : Prop := P r ∧ M = M1
def kgr (l : List Int32) (i : Nat) : Int32 := l.getD i 0
theorem kgr_ok {l : List Int32} {i : Nat} (h : i < l.length) : l[i]? = some (kgr l i) := by
  unfold kgr
  rw [List.getD_eq_getElem?_getD, List.getElem?_eq_getElem h]
  rfl
section KE7
variable {z pc : Nat} {ls : mm_L} {r : List Value} {M : mm_H} {F : Option Value → mm_H → Prop}
theorem me_lrem {x y : Int64} {ex : List (Nat × Nat)} (hc : mm_code z pc = some (.lrem, ex)) (hy : ¬ y = 0) (h : mm_E z (pc + 1) ls (.long (x - x / y * y) :: r) M F) : mm_E z pc ls (.long y :: .long x :: r) M F := by
  obtain ⟨a, b, ⟨n, hn⟩, d⟩ := h
  refine ⟨a, b, ⟨n + 1, ?_⟩, d⟩
  rw [mm_xs]
  unfold mm_b
  rw [hc]
  show (if y = 0 then none else mm_x none n z (pc + 1) ls (.long (x - x / y * y) :: r) M 0 0) = some (a, b)
  rw [if_neg hy]
  exact hn
theorem me_ldiv {x y : Int64} {ex : List (Nat × Nat)} (hc : mm_code z pc = some (.ldiv, ex)) (hy : ¬ y = 0) (h : mm_E z (pc + 1) ls (.long (x / y) :: r) M F) : mm_E z pc ls (.long y :: .long x :: r) M F := by
  obtain ⟨a, b, ⟨n, hn⟩, d⟩ := h
  refine ⟨a, b, ⟨n + 1, ?_⟩, d⟩
  rw [mm_xs]
  unfold mm_b
  rw [hc]
  show (if y = 0 then none else mm_x none n z (pc + 1) ls (.long (x / y) :: r) M 0 0) = some (a, b)
  rw [if_neg hy]
  exact hn
end KE7
theorem k_cmp0 {x y : Int64} : lg_cmp x y = 0 ↔ x = y := by
  unfold lg_cmp
  constructor
  · intro h
    split at h
    · exact absurd h (by decide)
    · split at h
      · assumption
      · exact absurd h (by decide)
  · intro h
    subst h
    rw [if_neg (Int64.lt_irrefl), if_pos rfl]
theorem k_lrem (x y : Int64) (hy : ¬ y = 0) : (x - x / y * y).toInt.natAbs < y.toInt.natAbs := by
  have hy2 : ¬ y.toInt = 0 := fun q => hy (Int64.toInt_inj.mp (q.trans (by decide)))
  have e : (x - x / y * y).toInt = (x.toInt.tmod y.toInt).bmod (2 ^ 64) := by
    rw [Int64.toInt_sub, Int64.toInt_mul, Int64.toInt_div, Int.bmod_mul_bmod, Int.sub_bmod_bmod, Int.tmod_def, Int.mul_comm]
  have h1 : (x.toInt.tmod y.toInt).natAbs < y.toInt.natAbs := by
    rw [Int.natAbs_tmod]
    exact Nat.mod_lt _ (by omega)
  have h2 := Int64.le_toInt y
  have h3 := Int64.toInt_lt y
  rw [e, Int.bmod_eq_of_le (by omega) (by omega)]
  exact h1
theorem k_genS (n : Nat) (A : kK) (hV : kV A) (hs : k_st A + n < 2 ^ 20) : ∃ Q, ksteps n A = Q ∧ kV Q ∧ k_st Q < 2 ^ 20 := ⟨_, rfl, kV_steps n hV, by rw [kst_steps]; exact hs⟩
def mk_MR (c : cC) (n m k : kG) (R1 : List Int32) (R2 : List Int32) (R3 : List Int32) (R4 : List Int32) (R5 : Int32) (R6 : List Int32) (R7 : List Int32) (R8 : List Int32) (R9 : Int32) (R10 : Int32) (R11 : Int32) (R12 : List Int32) (R13 : List Int32) (R14 : Int32) : mm_H := [.inl (9, [.ref 117, .ref 124, .ref 131, .int c.1, .ref 101, .ref 104, .int c.2.2.2.2.2.2.1, .ref 105, .ref 106, .ref 107, .ref 108, .ref 109]), .inl (8, [.ref 102, .int c.2.2.1, .ref 103, .int c.2.2.2.2.1]), .inr (.inl c.2.1), .inr (.inl c.2.2.2.1), .inr (.inl c.2.2.2.2.2.1), .inr (.inl c.2.2.2.2.2.2.2.1), .inl (6, [.int c.2.2.2.2.2.2.2.2.1, .int c.2.2.2.2.2.2.2.2.2.1]), .inr (.inl c.2.2.2.2.2.2.2.2.2.2.1), .inr (.inl c.2.2.2.2.2.2.2.2.2.2.2.1), .inr (.inl c.2.2.2.2.2.2.2.2.2.2.2.2), .inr (.inr [.ref 111, .ref 112, .ref 113, .ref 114, .ref 115, .ref 116]), .inl (3, []), .inl (2, []), .inl (7, []), .inl (0, []), .inl (5, []), .inl (4, []), .inl (1, [.ref 110, .ref 118, .ref 119, .ref 120, .ref 121, .ref 122, .ref 123, .int n.2.2.2.2.2.2.1, .int n.2.2.2.2.2.2.2.1, .int n.2.2.2.2.2.2.2.2.1, .int n.2.2.2.2.2.2.2.2.2.1, .int n.2.2.2.2.2.2.2.2.2.2.1, .int n.2.2.2.2.2.2.2.2.2.2.2]), .inr (.inl n.1), .inr (.inl n.2.1), .inr (.inl n.2.2.1), .inr (.inl n.2.2.2.1), .inr (.inl n.2.2.2.2.1), .inr (.inl n.2.2.2.2.2.1), .inl (1, [.ref 110, .ref 125, .ref 126, .ref 127, .ref 128, .ref 129, .ref 130, .int m.2.2.2.2.2.2.1, .int m.2.2.2.2.2.2.2.1, .int m.2.2.2.2.2.2.2.2.1, .int m.2.2.2.2.2.2.2.2.2.1, .int m.2.2.2.2.2.2.2.2.2.2.1, .int m.2.2.2.2.2.2.2.2.2.2.2]), .inr (.inl m.1), .inr (.inl m.2.1), .inr (.inl m.2.2.1), .inr (.inl m.2.2.2.1), .inr (.inl m.2.2.2.2.1), .inr (.inl m.2.2.2.2.2.1), .inl (1, [.ref 110, .ref 132, .ref 133, .ref 134, .ref 135, .ref 136, .ref 137, .int k.2.2.2.2.2.2.1, .int k.2.2.2.2.2.2.2.1, .int k.2.2.2.2.2.2.2.2.1, .int k.2.2.2.2.2.2.2.2.2.1, .int k.2.2.2.2.2.2.2.2.2.2.1, .int k.2.2.2.2.2.2.2.2.2.2.2]), .inr (.inl k.1), .inr (.inl k.2.1), .inr (.inl k.2.2.1), .inr (.inl k.2.2.2.1), .inr (.inl k.2.2.2.2.1), .inr (.inl k.2.2.2.2.2.1), .inl (10, [.ref 139, .ref 140, .ref 141, .ref 142, .int R5, .ref 143, .ref 144, .ref 145, .int R9, .int R10, .int R11, .ref 146, .ref 147, .int R14]), .inr (.inl R1), .inr (.inl R2), .inr (.inl R3), .inr (.inl R4), .inr (.inl R6), .inr (.inl R7), .inr (.inl R8), .inr (.inl R12), .inr (.inl R13)]
theorem mk_MRk (c : cC) (n m k : kG) (K : kK) (xm xi xw : List Int32) (im : Nat) (le nu rf : List Nat) (ln nn : Nat) (vp : Int32) (xn xc : List Int32) (vs : Int32) : mk_MR c n m k (er K) xm xi xw (nI im) (le.map nI) (nu.map nI) (rf.map nI) (nI ln) (nI nn) vp xn xc vs = mk_M c n m k (rT K xm xi xw im le nu rf ln nn vp xn xc vs) := rfl
def mk_Mm (c : cC) (n : kG) (A1 A2 A3 A4 A5 A6 : List Int32) (b1 b2 b3 b4 b5 b6 : Int32) (k : kG) (r : cR) : mm_H := [.inl (9, [.ref 117, .ref 124, .ref 131, .int c.1, .ref 101, .ref 104, .int c.2.2.2.2.2.2.1, .ref 105, .ref 106, .ref 107, .ref 108, .ref 109]), .inl (8, [.ref 102, .int c.2.2.1, .ref 103, .int c.2.2.2.2.1]), .inr (.inl c.2.1), .inr (.inl c.2.2.2.1), .inr (.inl c.2.2.2.2.2.1), .inr (.inl c.2.2.2.2.2.2.2.1), .inl (6, [.int c.2.2.2.2.2.2.2.2.1, .int c.2.2.2.2.2.2.2.2.2.1]), .inr (.inl c.2.2.2.2.2.2.2.2.2.2.1), .inr (.inl c.2.2.2.2.2.2.2.2.2.2.2.1), .inr (.inl c.2.2.2.2.2.2.2.2.2.2.2.2), .inr (.inr [.ref 111, .ref 112, .ref 113, .ref 114, .ref 115, .ref 116]), .inl (3, []), .inl (2, []), .inl (7, []), .inl (0, []), .inl (5, []), .inl (4, []), .inl (1, [.ref 110, .ref 118, .ref 119, .ref 120, .ref 121, .ref 122, .ref 123, .int n.2.2.2.2.2.2.1, .int n.2.2.2.2.2.2.2.1, .int n.2.2.2.2.2.2.2.2.1, .int n.2.2.2.2.2.2.2.2.2.1, .int n.2.2.2.2.2.2.2.2.2.2.1, .int n.2.2.2.2.2.2.2.2.2.2.2]), .inr (.inl n.1), .inr (.inl n.2.1), .inr (.inl n.2.2.1), .inr (.inl n.2.2.2.1), .inr (.inl n.2.2.2.2.1), .inr (.inl n.2.2.2.2.2.1), .inl (1, [.ref 110, .ref 125, .ref 126, .ref 127, .ref 128, .ref 129, .ref 130, .int b1, .int b2, .int b3, .int b4, .int b5, .int b6]), .inr (.inl A1), .inr (.inl A2), .inr (.inl A3), .inr (.inl A4), .inr (.inl A5), .inr (.inl A6), .inl (1, [.ref 110, .ref 132, .ref 133, .ref 134, .ref 135, .ref 136, .ref 137, .int k.2.2.2.2.2.2.1, .int k.2.2.2.2.2.2.2.1, .int k.2.2.2.2.2.2.2.2.1, .int k.2.2.2.2.2.2.2.2.2.1, .int k.2.2.2.2.2.2.2.2.2.2.1, .int k.2.2.2.2.2.2.2.2.2.2.2]), .inr (.inl k.1), .inr (.inl k.2.1), .inr (.inl k.2.2.1), .inr (.inl k.2.2.2.1), .inr (.inl k.2.2.2.2.1), .inr (.inl k.2.2.2.2.2.1), .inl (10, [.ref 139, .ref 140, .ref 141, .ref 142, .int r.2.2.2.2.1, .ref 143, .ref 144, .ref 145, .int r.2.2.2.2.2.2.2.2.1, .int r.2.2.2.2.2.2.2.2.2.1, .int r.2.2.2.2.2.2.2.2.2.2.1, .ref 146, .ref 147, .int r.2.2.2.2.2.2.2.2.2.2.2.2.2]), .inr (.inl r.1), .inr (.inl r.2.1), .inr (.inl r.2.2.1), .inr (.inl r.2.2.2.1), .inr (.inl r.2.2.2.2.2.1), .inr (.inl r.2.2.2.2.2.2.1), .inr (.inl r.2.2.2.2.2.2.2.1), .inr (.inl r.2.2.2.2.2.2.2.2.2.2.2.1), .inr (.inl r.2.2.2.2.2.2.2.2.2.2.2.2.1)]
theorem mk_Mk (c : cC) (n : kG) (he ke ki fi fa or : List Nat) (mi a g l w s : Nat) (k : kG) (r : cR) : mk_Mm c n (he.map nI) (ke.map nI) (ki.map nI) (fi.map nI) (fa.map nI) (or.map nI) (nI mi) (nI a) (nI g) (nI l) (nI w) (nI s) k r = mk_M c n (kr (he, ke, ki, fi, fa, or, mi, a, g, l, w, s)) k r := rfl
def kpf (K : kK) (p : Nat) : kK := (k_he K, k_ke K, k_ki K, k_fi K, k_fa K, kfirst (k_or K) (k_mi K) p, k_mi K, k_at K, k_go K, k_la K, k_we K, k_st K)
def kpl (K : kK) (p : Nat) : kK := (k_he K, k_ke K, k_ki K, k_fi K, k_fa K, klast (k_or K) (k_mi K) p, k_mi K, k_at K, k_go K, k_la K, k_we K, k_st K)
theorem kV_pf {K : kK} {p : Nat} (hV : kV K) (hp : p < k_mi K) : kV (kpf K p) := by
  obtain ⟨he, ke, ki, fi, fa, or, mi, a, g, l, w, s⟩ := K
  obtain ⟨v1, v2, v3, v4, v5, v6, v7, v8, v9, v10, v11, v12, v13, v14, v15, v16⟩ := hV
  exact ⟨v1, v2, v3, v4, v5, kO_first mi v7 or v6 p hp, v7, v8, v9, v10, v11, v12, v13, v14, v15, v16⟩
theorem kV_pl {K : kK} {p : Nat} (hV : kV K) (hp : p < k_mi K) : kV (kpl K p) := by
  obtain ⟨he, ke, ki, fi, fa, or, mi, a, g, l, w, s⟩ := K
  obtain ⟨v1, v2, v3, v4, v5, v6, v7, v8, v9, v10, v11, v12, v13, v14, v15, v16⟩ := hV
  exact ⟨v1, v2, v3, v4, v5, kO_last mi v7 or v6 p hp, v7, v8, v9, v10, v11, v12, v13, v14, v15, v16⟩
theorem kV_ke {K : kK} (h : kV K) : (k_ke K).length = 25 := by
  obtain ⟨he, ke, ki, fi, fa, or, mi, a, g, l, w, s⟩ := K
  exact h.2.1
theorem kV_ki {K : kK} (h : kV K) : (k_ki K).length = 5 := by
  obtain ⟨he, ke, ki, fi, fa, or, mi, a, g, l, w, s⟩ := K
  exact h.2.2.1
theorem kV_fi {K : kK} (h : kV K) : (k_fi K).length = 5 := by
  obtain ⟨he, ke, ki, fi, fa, or, mi, a, g, l, w, s⟩ := K
  exact h.2.2.2.1
theorem me_b01 {z pc b : Nat} {ls : mm_L} {M : mm_H} {F : Option Value → mm_H → Prop} (hb : b ≤ 1) (h0 : ∀ f : mm_F, mm_b none f z pc ls [.int 0] M 0 0 = some (some (.int 0), M)) (h1 : ∀ f : mm_F, mm_b none f z pc ls [.int 1] M 0 0 = some (some (.int 1), M)) (h : F (some (.int (nI b))) M) : mm_E z pc ls [.int (nI b)] M F := by
  rcases (show b = 0 ∨ b = 1 by omega) with e | e
  · subst e
    exact ⟨_, _, mr_ret 1 (fun f => h0 f), h⟩
  · subst e
    exact ⟨_, _, mr_ret 1 (fun f => h1 f), h⟩
theorem k_rawlt {j : Nat} {x : Int32} (hj : j < 2 ^ 31) (h : ¬ x ≤ nI j) : (j : Int) < x.toInt := by
  have h1 := Int32.lt_iff_toInt_lt.mp (Int32.not_le.mp h)
  rw [nI_toInt hj] at h1
  exact h1
theorem k_rawle {j : Nat} {x : Int32} (hj : j < 2 ^ 31) (h : x.toInt ≤ (j : Int)) : x ≤ nI j := by
  rw [Int32.le_iff_toInt_le, nI_toInt hj]
  exact h
theorem k_m1 (x : Int32) : x + Int32.ofInt (-1) = x - 1 := by
  rw [Int32.sub_eq_add_neg, show (-1 : Int32) = Int32.ofInt (-1) by decide]
theorem k_msk (x : Int32) : ∃ u, u < 2 ^ 31 ∧ x &&& 2147483647 = nI u := by
  have h0 : (x &&& 2147483647).toBitVec.msb = false := by
    show (x.toBitVec &&& (2147483647 : Int32).toBitVec).msb = false
    rw [BitVec.msb_and, show (2147483647 : Int32).toBitVec.msb = false by decide, Bool.and_false]
  refine ⟨(x &&& 2147483647).toBitVec.toNat, ?_, ?_⟩
  · have := BitVec.toNat_lt_of_msb_false h0
    simpa using this
  · apply Int32.toBitVec_inj.1
    show (x &&& 2147483647).toBitVec = BitVec.ofNat 32 (x &&& 2147483647).toBitVec.toNat
    rw [BitVec.ofNat_toNat, BitVec.setWidth_eq]
theorem k_draw (x : Int32) (d : Nat) (hd : 0 < d) (hd2 : d < 1000) : ∃ v, v < d ∧ (x &&& 2147483647) / 256 - (x &&& 2147483647) / 256 / nI d * nI d = nI v := by
  obtain ⟨u, hu, e⟩ := k_msk x
  refine ⟨u / 256 % d, Nat.mod_lt _ hd, ?_⟩
  rw [e, show (nI u / 256 : Int32) = nI (u / 256) from pk_div (a := u) (d := 256) (by omega) (by decide) (by decide)]
  exact pk_rem (a := u / 256) (d := d) (by omega) hd (by omega)
theorem kV_at {K : kK} (hV : kV K) : k_at K < 25 := by
  obtain ⟨he, ke, ki, fi, fa, or, mi, a, g, l, w, s⟩ := K
  exact hV.2.2.2.2.2.2.2.1
theorem kV_go {K : kK} (hV : kV K) : k_go K < 25 := by
  obtain ⟨he, ke, ki, fi, fa, or, mi, a, g, l, w, s⟩ := K
  exact hV.2.2.2.2.2.2.2.2.1

theorem kc_advQ (K : kK) (x : Nat) (hx : x < 100) (hV : kV K) (hs : k_st K < 2 ^ 30) : mm_R 44 0 [some (.ref 124), some (.int (nI x)), none, none, none] [] (kSm (kr K)) (none, kSm (kr (kstep K x))) := by
  obtain ⟨he, ke, ki, fi, fa, or, mi, a, g, l, w, s⟩ := K
  exact kc_adv_m he ke ki fi fa or mi a g l w s x hx hV hs
theorem kc_pfQ (K : kK) (p : Nat) (hp : p < k_mi K) (hV : kV K) : mm_R 90 0 [some (.ref 124), some (.int (nI p)), none, none] [] (kSm (kr K)) (none, kSm (kr (kpf K p))) := by
  obtain ⟨he, ke, ki, fi, fa, or, mi, a, g, l, w, s⟩ := K
  exact kc_first_m he ke ki fi fa or mi a g l w s p hp hV.2.2.2.2.2.1 hV.2.2.2.2.2.2.1
theorem kc_plQ (K : kK) (p : Nat) (hp : p < k_mi K) (hV : kV K) : mm_R 42 0 [some (.ref 124), some (.int (nI p)), none, none] [] (kSm (kr K)) (none, kSm (kr (kpl K p))) := by
  obtain ⟨he, ke, ki, fi, fa, or, mi, a, g, l, w, s⟩ := K
  exact kc_last_m he ke ki fi fa or mi a g l w s p hp hV.2.2.2.2.2.1 hV.2.2.2.2.2.2.1
theorem rc_stepQ (K : kK) (x : Nat) (hx : x < 100) (hV : kV K) (hs : k_st K < 2 ^ 30) : mm_R 146 0 [some (.ref 140), some (.int (nI x)), none, none, none] [] (rSm (er K)) (none, rSm (er (kstep K x))) := by
  obtain ⟨he, ke, ki, fi, fa, or, mi, a, g, l, w, s⟩ := K
  exact rc_step_m he ke ki fi fa or mi a g l w s x hx hV hs
theorem rc_pfQ (K : kK) (p : Nat) (hp : p < k_mi K) (hV : kV K) : mm_R 183 0 [some (.ref 140), some (.int (nI p)), none] [] (rSm (er K)) (none, rSm (er (kpf K p))) := by
  obtain ⟨he, ke, ki, fi, fa, or, mi, a, g, l, w, s⟩ := K
  exact rc_first_m he ke ki fi fa or mi a g l w s p hV.1 hp hV.2.2.2.2.2.1 hV.2.2.2.2.2.2.1
theorem rc_plQ (K : kK) (p : Nat) (hp : p < k_mi K) (hV : kV K) : mm_R 143 0 [some (.ref 140), some (.int (nI p)), none] [] (rSm (er K)) (none, rSm (er (kpl K p))) := by
  obtain ⟨he, ke, ki, fi, fa, or, mi, a, g, l, w, s⟩ := K
  exact rc_last_m he ke ki fi fa or mi a g l w s p hV.1 hp hV.2.2.2.2.2.1 hV.2.2.2.2.2.2.1
set_option maxRecDepth 100000 in
theorem cc_offr (a b x v : Int32) : mm_R 84 0 [some (.ref 106), some (.int x), some (.int v)] [] (soS a b) (none, soS (if v < b then x else a) (if v < b then v else b)) := by
  refine mr_seg 3 (pc1 := 5) (ls1 := [some (.ref 106), some (.int x), some (.int v)]) (st1 := [.int b, .int v]) (M1 := (soS a b)) (fun f => rfl) ?_
  refine mr_if (C := b ≤ v) (fun f => rfl) (fun h1 => ?_) (fun h1 => ?_)
  · refine mr_eq (mr_ret 1 (o := (none, (soS a b))) (fun f => rfl)) ?_
    rw [if_neg (Int32.not_lt.mpr h1), if_neg (Int32.not_lt.mpr h1)]
  · refine mr_eq (mr_ret 7 (o := (none, (soS x v))) (fun f => rfl)) ?_
    rw [if_pos (Int32.not_le.mp h1), if_pos (Int32.not_le.mp h1)]
set_option maxRecDepth 100000 in
theorem cc_won (a b : Int32) : mm_R 95 0 [some (.ref 106)] [] (soS a b) (some (.int (if a = -9 then -9 else b)), soS a b) := by
  refine mr_seg 3 (pc1 := 6) (ls1 := [some (.ref 106)]) (st1 := [.int (-9), .int a]) (M1 := (soS a b)) (fun f => rfl) ?_
  refine mr_if (C := a = (-9)) (fun f => rfl) (fun h1 => ?_) (fun h1 => ?_)
  · refine mr_eq (mr_ret 3 (o := (some (.int (-9)), (soS a b))) (fun f => rfl)) ?_
    rw [if_pos h1]
  · refine mr_eq (mr_ret 3 (o := (some (.int b), (soS a b))) (fun f => rfl)) ?_
    rw [if_neg h1]
set_option maxRecDepth 100000 in
theorem wc_pow0 (b : Int64) (e : Int32) (M : mm_H) (k : Nat) : ∀ (j : Nat) (v : Int64), e.toInt ≤ (j : Int) + (k : Int) → j < 2 ^ 31 → mm_E 111 5 [some (.long b), none, some (.int e), some (.long v), none, some (.int (nI j))] [] M (pP isL M) := by
  induction k with
  | zero =>
    intro j v hj hj2
    refine me_seg 2 (pc1 := 8) (ls1 := [some (.long b), none, some (.int e), some (.long v), none, some (.int (nI j))]) (st1 := [.int e, .int (nI j)]) (M1 := M) (fun f => rfl) ?_
    refine me_t (C := e ≤ (nI j)) (k_rawle (by omega) (by omega)) (fun f => rfl) ?_
    refine me_ret 2 (r := some (.long v)) (M1 := M) (fun f => rfl) ?_
    exact ⟨⟨_, rfl⟩, rfl⟩
  | succ k IH =>
    intro j v hj hj2
    refine me_seg 2 (pc1 := 8) (ls1 := [some (.long b), none, some (.int e), some (.long v), none, some (.int (nI j))]) (st1 := [.int e, .int (nI j)]) (M1 := M) (fun f => rfl) ?_
    refine me_if (C := e ≤ (nI j)) (fun f => rfl) (fun h1 => ?_) (fun h1 => ?_)
    · refine me_ret 2 (r := some (.long v)) (M1 := M) (fun f => rfl) ?_
      exact ⟨⟨_, rfl⟩, rfl⟩
    · refine me_seg 5 (pc1 := 18) (ls1 := [some (.long b), none, some (.int e), some (.long (v * b)), none, some (.int ((nI j) + 1))]) (st1 := []) (M1 := M) (fun f => rfl) ?_
      refine me_l (fun q_ => [some (.long b), none, some (.int e), some (.long (v * b)), none, some (.int q_)]) (nI_add j 1) ?_
      refine me_seg 1 (pc1 := 5) (ls1 := [some (.long b), none, some (.int e), some (.long (v * b)), none, some (.int (nI (j + 1)))]) (st1 := []) (M1 := M) (fun f => rfl) ?_
      have hlt := k_rawlt (by omega) h1
      have hlx := Int32.toInt_lt e
      exact IH (j + 1) (v * b) (by omega) (by omega) 
set_option maxRecDepth 100000 in
theorem wc_pow (b : Int64) (e : Int32) (M : mm_H) : mm_E 111 0 [some (.long b), none, some (.int e), none, none, none] [] M (pP isL M) := by
  refine me_seg 4 (pc1 := 5) (ls1 := [some (.long b), none, some (.int e), some (.long 1), none, some (.int 0)]) (st1 := []) (M1 := M) (fun f => rfl) ?_
  exact wc_pow0 b e M e.toInt.toNat 0 1 (by omega) (by omega)
set_option maxRecDepth 100000 in
theorem wc_gd0 (a b : Int64) (M : mm_H) (k : Nat) : ∀ (j : Nat) (u : Int64) (v : Int64) (l1 : Option Value) (l2 : Option Value), j + k = 200 → mm_E 113 9 [some (.long a), none, some (.long b), none, some (.long u), none, some (.long v), none, some (.int (nI j)), l1, l2] [] M (pP isL M) := by
  induction k with
  | zero =>
    intro j u v l1 l2 hj
    refine me_seg 2 (pc1 := 14) (ls1 := [some (.long a), none, some (.long b), none, some (.long u), none, some (.long v), none, some (.int (nI j)), l1, l2]) (st1 := [.int 200, .int (nI j)]) (M1 := M) (fun f => rfl) ?_
    refine me_t (C := 200 ≤ (nI j)) (nI_let (a := 200) (b := j) (by omega)) (fun f => rfl) ?_
    refine me_ret 2 (r := some (.long u)) (M1 := M) (fun f => rfl) ?_
    exact ⟨⟨_, rfl⟩, rfl⟩
  | succ k IH =>
    intro j u v l1 l2 hj
    refine me_seg 2 (pc1 := 14) (ls1 := [some (.long a), none, some (.long b), none, some (.long u), none, some (.long v), none, some (.int (nI j)), l1, l2]) (st1 := [.int 200, .int (nI j)]) (M1 := M) (fun f => rfl) ?_
    refine me_f (C := 200 ≤ (nI j)) (nI_lef (a := 200) (b := j) (by omega)) (fun f => rfl) ?_
    refine me_seg 3 (pc1 := 21) (ls1 := [some (.long a), none, some (.long b), none, some (.long u), none, some (.long v), none, some (.int (nI j)), l1, l2]) (st1 := [.int (lg_cmp v 0)]) (M1 := M) (fun f => rfl) ?_
    refine me_ifN (C := (lg_cmp v 0) = 0) (k_cmp0) (fun f => rfl) (fun h1 => ?_) (fun h1 => ?_)
    · refine me_ret 2 (r := some (.long u)) (M1 := M) (fun f => rfl) ?_
      exact ⟨⟨_, rfl⟩, rfl⟩
    · refine me_seg 2 (pc1 := 28) (ls1 := [some (.long a), none, some (.long b), none, some (.long u), none, some (.long v), none, some (.int (nI j)), l1, l2]) (st1 := [.long v, .long u]) (M1 := M) (fun f => rfl) ?_
      refine me_lrem (x := u) (y := v) rfl h1 ?_
      refine me_seg 6 (pc1 := 42) (ls1 := [some (.long a), none, some (.long b), none, some (.long v), none, some (.long (u - u / v * v)), none, some (.int ((nI j) + 1)), some (.long (u - u / v * v)), none]) (st1 := []) (M1 := M) (fun f => rfl) ?_
      refine me_l (fun q_ => [some (.long a), none, some (.long b), none, some (.long v), none, some (.long (u - u / v * v)), none, some (.int q_), some (.long (u - u / v * v)), none]) (nI_add j 1) ?_
      refine me_seg 1 (pc1 := 9) (ls1 := [some (.long a), none, some (.long b), none, some (.long v), none, some (.long (u - u / v * v)), none, some (.int (nI (j + 1))), some (.long (u - u / v * v)), none]) (st1 := []) (M1 := M) (fun f => rfl) ?_
      exact IH (j + 1) v (u - u / v * v) (some (.long (u - u / v * v))) (none) (by omega) 
set_option maxRecDepth 100000 in
theorem wc_gd (a b : Int64) (M : mm_H) : mm_E 113 0 [some (.long a), none, some (.long b), none, none, none, none, none, none, none, none] [] M (pP isL M) := by
  refine me_seg 6 (pc1 := 9) (ls1 := [some (.long a), none, some (.long b), none, some (.long a), none, some (.long b), none, some (.int 0), none, none]) (st1 := []) (M1 := M) (fun f => rfl) ?_
  exact wc_gd0 a b M 200 0 a b none none (by omega)
set_option maxRecDepth 100000 in
theorem wc_pf (a b : Int64) (x : Int32) (M : mm_H) : mm_E 112 0 [some (.long a), none, some (.long b), none, some (.int x), none, none] [] M (pP isL M) := by
  refine me_seg 2 (pc1 := 2) (ls1 := [some (.long a), none, some (.long b), none, some (.int x), none, none]) (st1 := [.long b, .long a]) (M1 := M) (fun f => rfl) ?_
  refine me_callE (y := 113) (y0 := 5) (L := [some (.long a), none, some (.long b), none, none, none, none, none, none, none, none]) (rest := []) (fun f => rfl) (wc_gd a b _) ?_
  rintro _ _ ⟨⟨w_1, rfl⟩, rfl⟩
  refine me_seg 4 (pc1 := 11) (ls1 := [some (.long a), none, some (.long b), none, some (.int x), some (.long w_1), none]) (st1 := [.int (lg_cmp w_1 0)]) (M1 := M) (fun f => rfl) ?_
  refine me_ifN (C := (lg_cmp w_1 0) = 0) (k_cmp0) (fun f => rfl) (fun h2 => ?_) (fun h2 => ?_)
  · refine me_ret 2 (r := some (.long 0)) (M1 := M) (fun f => rfl) ?_
    exact ⟨⟨_, rfl⟩, rfl⟩
  · refine me_seg 1 (pc1 := 18) (ls1 := [some (.long a), none, some (.long b), none, some (.int x), some (.long w_1), none]) (st1 := [.int x]) (M1 := M) (fun f => rfl) ?_
    refine me_if (C := x = 0) (fun f => rfl) (fun h3 => ?_) (fun h3 => ?_)
    · refine me_seg 3 (pc1 := 28) (ls1 := [some (.long a), none, some (.long b), none, some (.int x), some (.long w_1), none]) (st1 := [.long w_1, .long a]) (M1 := M) (fun f => rfl) ?_
      refine me_ldiv (x := a) (y := w_1) rfl h2 ?_
      refine me_ret 1 (r := some (.long (a / w_1))) (M1 := M) (fun f => rfl) ?_
      exact ⟨⟨_, rfl⟩, rfl⟩
    · refine me_seg 2 (pc1 := 28) (ls1 := [some (.long a), none, some (.long b), none, some (.int x), some (.long w_1), none]) (st1 := [.long w_1, .long b]) (M1 := M) (fun f => rfl) ?_
      refine me_ldiv (x := b) (y := w_1) rfl h2 ?_
      refine me_ret 1 (r := some (.long (b / w_1))) (M1 := M) (fun f => rfl) ?_
      exact ⟨⟨_, rfl⟩, rfl⟩
set_option maxRecDepth 100000 in
theorem wc_bc (x : Int32) (M : mm_H) : mm_E 110 0 [some (.int x)] [] M (pP isI M) := by
  refine me_ret 42 (r := some (.int ((((((((x - ((((Int32.toUInt32 x) >>> ((Int32.toUInt32 (1 : Int32)) &&& Int32.toUInt32 31)).toInt32) &&& (1431655765 : Int32))) &&& (858993459 : Int32)) + ((((Int32.toUInt32 (x - ((((Int32.toUInt32 x) >>> ((Int32.toUInt32 (1 : Int32)) &&& Int32.toUInt32 31)).toInt32) &&& (1431655765 : Int32)))) >>> ((Int32.toUInt32 (2 : Int32)) &&& Int32.toUInt32 31)).toInt32) &&& (858993459 : Int32))) + (((Int32.toUInt32 (((x - ((((Int32.toUInt32 x) >>> ((Int32.toUInt32 (1 : Int32)) &&& Int32.toUInt32 31)).toInt32) &&& (1431655765 : Int32))) &&& (858993459 : Int32)) + ((((Int32.toUInt32 (x - ((((Int32.toUInt32 x) >>> ((Int32.toUInt32 (1 : Int32)) &&& Int32.toUInt32 31)).toInt32) &&& (1431655765 : Int32)))) >>> ((Int32.toUInt32 (2 : Int32)) &&& Int32.toUInt32 31)).toInt32) &&& (858993459 : Int32)))) >>> ((Int32.toUInt32 (4 : Int32)) &&& Int32.toUInt32 31)).toInt32)) &&& (252645135 : Int32)) + (((Int32.toUInt32 (((((x - ((((Int32.toUInt32 x) >>> ((Int32.toUInt32 (1 : Int32)) &&& Int32.toUInt32 31)).toInt32) &&& (1431655765 : Int32))) &&& (858993459 : Int32)) + ((((Int32.toUInt32 (x - ((((Int32.toUInt32 x) >>> ((Int32.toUInt32 (1 : Int32)) &&& Int32.toUInt32 31)).toInt32) &&& (1431655765 : Int32)))) >>> ((Int32.toUInt32 (2 : Int32)) &&& Int32.toUInt32 31)).toInt32) &&& (858993459 : Int32))) + (((Int32.toUInt32 (((x - ((((Int32.toUInt32 x) >>> ((Int32.toUInt32 (1 : Int32)) &&& Int32.toUInt32 31)).toInt32) &&& (1431655765 : Int32))) &&& (858993459 : Int32)) + ((((Int32.toUInt32 (x - ((((Int32.toUInt32 x) >>> ((Int32.toUInt32 (1 : Int32)) &&& Int32.toUInt32 31)).toInt32) &&& (1431655765 : Int32)))) >>> ((Int32.toUInt32 (2 : Int32)) &&& Int32.toUInt32 31)).toInt32) &&& (858993459 : Int32)))) >>> ((Int32.toUInt32 (4 : Int32)) &&& Int32.toUInt32 31)).toInt32)) &&& (252645135 : Int32))) >>> ((Int32.toUInt32 (8 : Int32)) &&& Int32.toUInt32 31)).toInt32)) + (((Int32.toUInt32 ((((((x - ((((Int32.toUInt32 x) >>> ((Int32.toUInt32 (1 : Int32)) &&& Int32.toUInt32 31)).toInt32) &&& (1431655765 : Int32))) &&& (858993459 : Int32)) + ((((Int32.toUInt32 (x - ((((Int32.toUInt32 x) >>> ((Int32.toUInt32 (1 : Int32)) &&& Int32.toUInt32 31)).toInt32) &&& (1431655765 : Int32)))) >>> ((Int32.toUInt32 (2 : Int32)) &&& Int32.toUInt32 31)).toInt32) &&& (858993459 : Int32))) + (((Int32.toUInt32 (((x - ((((Int32.toUInt32 x) >>> ((Int32.toUInt32 (1 : Int32)) &&& Int32.toUInt32 31)).toInt32) &&& (1431655765 : Int32))) &&& (858993459 : Int32)) + ((((Int32.toUInt32 (x - ((((Int32.toUInt32 x) >>> ((Int32.toUInt32 (1 : Int32)) &&& Int32.toUInt32 31)).toInt32) &&& (1431655765 : Int32)))) >>> ((Int32.toUInt32 (2 : Int32)) &&& Int32.toUInt32 31)).toInt32) &&& (858993459 : Int32)))) >>> ((Int32.toUInt32 (4 : Int32)) &&& Int32.toUInt32 31)).toInt32)) &&& (252645135 : Int32)) + (((Int32.toUInt32 (((((x - ((((Int32.toUInt32 x) >>> ((Int32.toUInt32 (1 : Int32)) &&& Int32.toUInt32 31)).toInt32) &&& (1431655765 : Int32))) &&& (858993459 : Int32)) + ((((Int32.toUInt32 (x - ((((Int32.toUInt32 x) >>> ((Int32.toUInt32 (1 : Int32)) &&& Int32.toUInt32 31)).toInt32) &&& (1431655765 : Int32)))) >>> ((Int32.toUInt32 (2 : Int32)) &&& Int32.toUInt32 31)).toInt32) &&& (858993459 : Int32))) + (((Int32.toUInt32 (((x - ((((Int32.toUInt32 x) >>> ((Int32.toUInt32 (1 : Int32)) &&& Int32.toUInt32 31)).toInt32) &&& (1431655765 : Int32))) &&& (858993459 : Int32)) + ((((Int32.toUInt32 (x - ((((Int32.toUInt32 x) >>> ((Int32.toUInt32 (1 : Int32)) &&& Int32.toUInt32 31)).toInt32) &&& (1431655765 : Int32)))) >>> ((Int32.toUInt32 (2 : Int32)) &&& Int32.toUInt32 31)).toInt32) &&& (858993459 : Int32)))) >>> ((Int32.toUInt32 (4 : Int32)) &&& Int32.toUInt32 31)).toInt32)) &&& (252645135 : Int32))) >>> ((Int32.toUInt32 (8 : Int32)) &&& Int32.toUInt32 31)).toInt32))) >>> ((Int32.toUInt32 (16 : Int32)) &&& Int32.toUInt32 31)).toInt32)) &&& (63 : Int32)))) (M1 := M) (fun f => rfl) ?_
  exact ⟨⟨_, rfl⟩, rfl⟩
set_option maxRecDepth 100000 in
theorem wc_next (x : Int32) (M : mm_H) : mm_E 123 0 [some (.int x)] [] M (pP isI M) := by
  refine me_ret 6 (r := some (.int ((x * (1664525 : Int32)) + (1013904223 : Int32)))) (M1 := M) (fun f => rfl) ?_
  exact ⟨⟨_, rfl⟩, rfl⟩
set_option maxRecDepth 100000 in
theorem wc_draw25 (x : Int32) (M : mm_H) : mm_E 124 0 [some (.int x), some (.int 25)] [] M (pP (fun r => ∃ v, v < 25 ∧ r = some (.int (nI v))) M) := by
  obtain ⟨v, hv, e⟩ := k_draw x 25 (by decide) (by decide)
  refine me_ret 8 (r := some (.int (((x &&& (2147483647 : Int32)) / (256 : Int32)) - ((x &&& (2147483647 : Int32)) / (256 : Int32)) / (25 : Int32) * (25 : Int32)))) (M1 := M) (fun f => rfl) ?_
  exact ⟨⟨v, hv, congrArg (fun q => some (Value.int q)) e⟩, rfl⟩
set_option maxRecDepth 100000 in
theorem wc_draw11 (x : Int32) (M : mm_H) : mm_E 124 0 [some (.int x), some (.int 11)] [] M (pP (fun r => ∃ v, v < 11 ∧ r = some (.int (nI v))) M) := by
  obtain ⟨v, hv, e⟩ := k_draw x 11 (by decide) (by decide)
  refine me_ret 8 (r := some (.int (((x &&& (2147483647 : Int32)) / (256 : Int32)) - ((x &&& (2147483647 : Int32)) / (256 : Int32)) / (11 : Int32) * (11 : Int32)))) (M1 := M) (fun f => rfl) ?_
  exact ⟨⟨v, hv, congrArg (fun q => some (Value.int q)) e⟩, rfl⟩
set_option maxRecDepth 100000 in
theorem wc_downL (he ke ki fi fa or : List Nat) (mi a g l w s : Nat) (im : Nat) (le : List Nat) (ln : Nat) (ys : List Int32) (vt : Int32) (nu : List Nat) (nn : Nat) (rf : List Nat) (kk : kG) (q : cR) (hA : iA (he, ke, ki, fi, fa, or, mi, a, g, l, w, s)) (hC : iC nu nn) (k : Nat) : ∀ (j : Nat)  (vw vq : Int32) (yc yh yg : List Int32) (m : kG), j + k = mi → iJ m ys yc yh yg → mm_E 81 16 [some (.ref 100), some (.int (-1)), some (.int (nI j))] [] (mk_M (cT im le ln ys vt nu nn rf vw vq yc yh yg) (kr (he, ke, ki, fi, fa, or, mi, a, g, l, w, s)) m kk q) (pC isI (he, ke, ki, fi, fa, or, mi, a, g, l, w, s) im le ln ys vt nu nn rf kk q) := by
  obtain ⟨hV, hst⟩ := id hA
  have hst2 : s ≤ 999 := hst
  obtain ⟨v1, v2, v3, v4, v5, v6, v7, v8, v9, v10, v11, v12, v13, v14, v15, v16⟩ := id hV
  have v6l := kO_len mi v7 or v6
  obtain ⟨c1, c2, c3⟩ := id hC
  induction k with
  | zero =>
    intro j vw vq yc yh yg m hj hJ
    obtain ⟨j0, j1, j2, j3, j4⟩ := id hJ
    refine me_seg 4 (pc1 := 24) (ls1 := [some (.ref 100), some (.int (-1)), some (.int (nI j))]) (st1 := [.int (nI mi), .int (nI j)]) (M1 := (mk_M (cT im le ln ys vt nu nn rf vw vq yc yh yg) (kr (he, ke, ki, fi, fa, or, mi, a, g, l, w, s)) m kk q)) (fun f => rfl) ?_
    refine me_t (C := (nI mi) ≤ (nI j)) (nI_let (a := mi) (b := j) (by omega)) (fun f => rfl) ?_
    refine me_ret 4 (r := some (.int vw)) (M1 := (mk_M (cT im le ln ys vt nu nn rf vw vq yc yh yg) (kr (he, ke, ki, fi, fa, or, mi, a, g, l, w, s)) m kk q)) (fun f => rfl) ?_
    exact ⟨⟨_, rfl⟩, _, _, _, _, _, _, rfl, ⟨(by assumption), j1, by assumption, by assumption, by assumption⟩⟩
  | succ k IH =>
    intro j vw vq yc yh yg m hj hJ
    obtain ⟨j0, j1, j2, j3, j4⟩ := id hJ
    refine me_seg 4 (pc1 := 24) (ls1 := [some (.ref 100), some (.int (-1)), some (.int (nI j))]) (st1 := [.int (nI mi), .int (nI j)]) (M1 := (mk_M (cT im le ln ys vt nu nn rf vw vq yc yh yg) (kr (he, ke, ki, fi, fa, or, mi, a, g, l, w, s)) m kk q)) (fun f => rfl) ?_
    refine me_f (C := (nI mi) ≤ (nI j)) (nI_lef (a := mi) (b := j) (by omega)) (fun f => rfl) ?_
    refine me_seg 4 (pc1 := 33) (ls1 := [some (.ref 100), some (.int (-1)), some (.int (nI j))]) (st1 := [.ref 100, .int (nI j), .ref 106]) (M1 := (mk_M (cT im le ln ys vt nu nn rf vw vq yc yh yg) (kr (he, ke, ki, fi, fa, or, mi, a, g, l, w, s)) m kk q)) (fun f => rfl) ?_
    refine me_call (y := 75) (y0 := 36) (L := [some (.ref 100)]) (rest := [.int (nI j), .ref 106]) (rr := some (.ref 124)) (M1 := (mk_M (cT im le ln ys vt nu nn rf vw vq yc yh yg) (kr (he, ke, ki, fi, fa, or, mi, a, g, l, w, s)) (kr (he, ke, ki, fi, fa, or, mi, a, g, l, w, s)) kk q)) (fun f => rfl) (cc_now (he, ke, ki, fi, fa, or, mi, a, g, l, w, s) (cT im le ln ys vt nu nn rf vw vq yc yh yg) m kk q hV (by assumption)) ?_
    refine me_seg 1 (pc1 := 37) (ls1 := [some (.ref 100), some (.int (-1)), some (.int (nI j))]) (st1 := [.int (nI j), .ref 124, .int (nI j), .ref 106]) (M1 := (mk_M (cT im le ln ys vt nu nn rf vw vq yc yh yg) (kr (he, ke, ki, fi, fa, or, mi, a, g, l, w, s)) (kr (he, ke, ki, fi, fa, or, mi, a, g, l, w, s)) kk q)) (fun f => rfl) ?_
    refine me_call (y := 83) (y0 := 40) (L := [some (.ref 124), some (.int (nI j)), none, none]) (rest := [.int (nI j), .ref 106]) (rr := some (.int (kN (kwf 60 1 (he, ke, ki, fi, fa, or, mi, a, g, l, w, s) j (kg fa j))))) (M1 := (mk_M (cT im le ln ys vt nu nn rf vw vq yc yh yg) (kr (he, ke, ki, fi, fa, or, mi, a, g, l, w, s)) (kr (kwfK 60 (he, ke, ki, fi, fa, or, mi, a, g, l, w, s) j (kg fa j))) kk q)) (fun f => rfl) (kl_m (cT im le ln ys vt nu nn rf vw vq yc yh yg) (kr (he, ke, ki, fi, fa, or, mi, a, g, l, w, s)) kk q (kc_wf j (by omega) (he, ke, ki, fi, fa, or, mi, a, g, l, w, s) hV (show s < 2 ^ 20 by omega))) ?_
    generalize kN (kwf 60 1 (he, ke, ki, fi, fa, or, mi, a, g, l, w, s) j (kg fa j)) = w_1
    refine me_call (y := 84) (y0 := 43) (L := [some (.ref 106), some (.int (nI j)), some (.int w_1)]) (rest := []) (rr := none) (M1 := (mk_M (cT im le ln ys vt nu nn rf (if w_1 < vq then (nI j) else vw) (if w_1 < vq then w_1 else vq) yc yh yg) (kr (he, ke, ki, fi, fa, or, mi, a, g, l, w, s)) (kr (kwfK 60 (he, ke, ki, fi, fa, or, mi, a, g, l, w, s) j (kg fa j))) kk q)) (fun f => rfl) (so_l im le ln ys vt nu nn rf yc yh yg (kr (he, ke, ki, fi, fa, or, mi, a, g, l, w, s)) (kr (kwfK 60 (he, ke, ki, fi, fa, or, mi, a, g, l, w, s) j (kg fa j))) kk q (cc_offr vw vq (nI j) w_1)) ?_
    refine me_seg 1 (pc1 := 46) (ls1 := [some (.ref 100), some (.int (-1)), some (.int ((nI j) + 1))]) (st1 := []) (M1 := (mk_M (cT im le ln ys vt nu nn rf (if w_1 < vq then (nI j) else vw) (if w_1 < vq then w_1 else vq) yc yh yg) (kr (he, ke, ki, fi, fa, or, mi, a, g, l, w, s)) (kr (kwfK 60 (he, ke, ki, fi, fa, or, mi, a, g, l, w, s) j (kg fa j))) kk q)) (fun f => rfl) ?_
    refine me_l (fun q_ => [some (.ref 100), some (.int (-1)), some (.int q_)]) (nI_add j 1) ?_
    refine me_seg 1 (pc1 := 16) (ls1 := [some (.ref 100), some (.int (-1)), some (.int (nI (j + 1)))]) (st1 := []) (M1 := (mk_M (cT im le ln ys vt nu nn rf (if w_1 < vq then (nI j) else vw) (if w_1 < vq then w_1 else vq) yc yh yg) (kr (he, ke, ki, fi, fa, or, mi, a, g, l, w, s)) (kr (kwfK 60 (he, ke, ki, fi, fa, or, mi, a, g, l, w, s) j (kg fa j))) kk q)) (fun f => rfl) ?_
    exact IH (j + 1)  (if w_1 < vq then (nI j) else vw) (if w_1 < vq then w_1 else vq) yc yh yg (kr (kwfK 60 (he, ke, ki, fi, fa, or, mi, a, g, l, w, s) j (kg fa j))) (by omega) ⟨(kSh_r (kV_wfK 60 j (kg fa j) hV)), j1, by assumption, by assumption, by assumption⟩
set_option maxRecDepth 100000 in
theorem wc_down_0 (he ke ki fi fa or : List Nat) (mi a g l w s : Nat) (im : Nat) (le : List Nat) (ln : Nat) (ys : List Int32) (vt : Int32) (nu : List Nat) (nn : Nat) (rf : List Nat) (kk : kG) (q : cR) (hA : iA (he, ke, ki, fi, fa, or, mi, a, g, l, w, s)) (hC : iC nu nn) (vw vq : Int32) (yc yh yg : List Int32) (m : kG) (hJ : iJ m ys yc yh yg) : mm_E 81 0 [some (.ref 100), some (.int (-1)), none] [] (mk_M (cT im le ln ys vt nu nn rf vw vq yc yh yg) (kr (he, ke, ki, fi, fa, or, mi, a, g, l, w, s)) m kk q) (pC isI (he, ke, ki, fi, fa, or, mi, a, g, l, w, s) im le ln ys vt nu nn rf kk q) := by
  obtain ⟨hV, hst⟩ := id hA
  have hst2 : s ≤ 999 := hst
  obtain ⟨v1, v2, v3, v4, v5, v6, v7, v8, v9, v10, v11, v12, v13, v14, v15, v16⟩ := id hV
  have v6l := kO_len mi v7 or v6
  obtain ⟨c1, c2, c3⟩ := id hC
  obtain ⟨j0, j1, j2, j3, j4⟩ := id hJ
  refine me_seg 6 (pc1 := 11) (ls1 := [some (.ref 100), some (.int (-1)), none]) (st1 := [.int 1000000, .ref 106]) (M1 := (mk_M (cT im le ln ys vt nu nn rf vw vq yc yh yg) (kr (he, ke, ki, fi, fa, or, mi, a, g, l, w, s)) m kk q)) (fun f => rfl) ?_
  refine me_call (y := 82) (y0 := 14) (L := [some (.ref 106), some (.int 1000000)]) (rest := []) (rr := none) (M1 := (mk_M (cT im le ln ys vt nu nn rf (-9) 1000000 yc yh yg) (kr (he, ke, ki, fi, fa, or, mi, a, g, l, w, s)) m kk q)) (fun f => rfl) (by
      exact mr_ret 7 (fun f => rfl)) ?_
  refine me_seg 2 (pc1 := 16) (ls1 := [some (.ref 100), some (.int (-1)), some (.int 0)]) (st1 := []) (M1 := (mk_M (cT im le ln ys vt nu nn rf (-9) 1000000 yc yh yg) (kr (he, ke, ki, fi, fa, or, mi, a, g, l, w, s)) m kk q)) (fun f => rfl) ?_
  exact wc_downL he ke ki fi fa or mi a g l w s im le ln ys vt nu nn rf kk q hA hC mi 0  (-9) 1000000 yc yh yg m (by omega) ⟨(by assumption), j1, by assumption, by assumption, by assumption⟩
set_option maxRecDepth 100000 in
theorem wc_down_1 (he ke ki fi fa or : List Nat) (mi a g l w s : Nat) (im : Nat) (le : List Nat) (ln : Nat) (ys : List Int32) (vt : Int32) (nu : List Nat) (nn : Nat) (rf : List Nat) (kk : kG) (q : cR) (hA : iA (he, ke, ki, fi, fa, or, mi, a, g, l, w, s)) (hC : iC nu nn) (vw vq : Int32) (yc yh yg : List Int32) (m : kG) (hJ : iJ m ys yc yh yg) (p : Nat) (hp : p < mi) : mm_E 81 0 [some (.ref 100), some (.int (nI p)), none] [] (mk_M (cT im le ln ys vt nu nn rf vw vq yc yh yg) (kr (he, ke, ki, fi, fa, or, mi, a, g, l, w, s)) m kk q) (pC isI (he, ke, ki, fi, fa, or, mi, a, g, l, w, s) im le ln ys vt nu nn rf kk q) := by
  obtain ⟨hV, hst⟩ := id hA
  have hst2 : s ≤ 999 := hst
  obtain ⟨v1, v2, v3, v4, v5, v6, v7, v8, v9, v10, v11, v12, v13, v14, v15, v16⟩ := id hV
  have v6l := kO_len mi v7 or v6
  obtain ⟨c1, c2, c3⟩ := id hC
  obtain ⟨j0, j1, j2, j3, j4⟩ := id hJ
  refine me_seg 2 (pc1 := 2) (ls1 := [some (.ref 100), some (.int (nI p)), none]) (st1 := [.int (-1), .int (nI p)]) (M1 := (mk_M (cT im le ln ys vt nu nn rf vw vq yc yh yg) (kr (he, ke, ki, fi, fa, or, mi, a, g, l, w, s)) m kk q)) (fun f => rfl) ?_
  refine me_f (C := (nI p) = (-1)) (k_nc (by omega) (by decide)) (fun f => rfl) ?_
  refine me_seg 2 (pc1 := 59) (ls1 := [some (.ref 100), some (.int (nI p)), none]) (st1 := [.int (nI p), .ref 100]) (M1 := (mk_M (cT im le ln ys vt nu nn rf vw vq yc yh yg) (kr (he, ke, ki, fi, fa, or, mi, a, g, l, w, s)) m kk q)) (fun f => rfl) ?_
  refine me_call (y := 61) (y0 := 62) (L := [some (.ref 100), some (.int (nI p))]) (rest := []) (rr := some (.int 1)) (M1 := (mk_M (cT im le ln ys vt nu nn rf vw vq yc yh yg) (kr (he, ke, ki, fi, fa, or, mi, a, g, l, w, s)) m kk q)) (fun f => rfl) (ms_m1_ok (x := (nI p)) (nI_ltf (a := p) (b := 0) (by omega)) (nI_lef (a := mi) (b := p) (by omega))) ?_
  refine me_seg 2 (pc1 := 72) (ls1 := [some (.ref 100), some (.int (nI p)), none]) (st1 := [.ref 100]) (M1 := (mk_M (cT im le ln ys vt nu nn rf vw vq yc yh yg) (kr (he, ke, ki, fi, fa, or, mi, a, g, l, w, s)) m kk q)) (fun f => rfl) ?_
  refine me_call (y := 75) (y0 := 75) (L := [some (.ref 100)]) (rest := []) (rr := some (.ref 124)) (M1 := (mk_M (cT im le ln ys vt nu nn rf vw vq yc yh yg) (kr (he, ke, ki, fi, fa, or, mi, a, g, l, w, s)) (kr (he, ke, ki, fi, fa, or, mi, a, g, l, w, s)) kk q)) (fun f => rfl) (cc_now (he, ke, ki, fi, fa, or, mi, a, g, l, w, s) (cT im le ln ys vt nu nn rf vw vq yc yh yg) m kk q hV (by assumption)) ?_
  refine me_seg 1 (pc1 := 76) (ls1 := [some (.ref 100), some (.int (nI p)), none]) (st1 := [.int (nI p), .ref 124]) (M1 := (mk_M (cT im le ln ys vt nu nn rf vw vq yc yh yg) (kr (he, ke, ki, fi, fa, or, mi, a, g, l, w, s)) (kr (he, ke, ki, fi, fa, or, mi, a, g, l, w, s)) kk q)) (fun f => rfl) ?_
  refine me_call (y := 83) (y0 := 79) (L := [some (.ref 124), some (.int (nI p)), none, none]) (rest := []) (rr := some (.int (kN (kwf 60 1 (he, ke, ki, fi, fa, or, mi, a, g, l, w, s) p (kg fa p))))) (M1 := (mk_M (cT im le ln ys vt nu nn rf vw vq yc yh yg) (kr (he, ke, ki, fi, fa, or, mi, a, g, l, w, s)) (kr (kwfK 60 (he, ke, ki, fi, fa, or, mi, a, g, l, w, s) p (kg fa p))) kk q)) (fun f => rfl) (kl_m (cT im le ln ys vt nu nn rf vw vq yc yh yg) (kr (he, ke, ki, fi, fa, or, mi, a, g, l, w, s)) kk q (kc_wf p (by omega) (he, ke, ki, fi, fa, or, mi, a, g, l, w, s) hV (show s < 2 ^ 20 by omega))) ?_
  generalize kN (kwf 60 1 (he, ke, ki, fi, fa, or, mi, a, g, l, w, s) p (kg fa p)) = w_1
  refine me_seg 3 (pc1 := 83) (ls1 := [some (.ref 100), some (.int (nI p)), some (.int w_1)]) (st1 := [.int 1000000, .int w_1]) (M1 := (mk_M (cT im le ln ys vt nu nn rf vw vq yc yh yg) (kr (he, ke, ki, fi, fa, or, mi, a, g, l, w, s)) (kr (kwfK 60 (he, ke, ki, fi, fa, or, mi, a, g, l, w, s) p (kg fa p))) kk q)) (fun f => rfl) ?_
  refine me_if (C := w_1 = 1000000) (fun f => rfl) (fun h2 => ?_) (fun h2 => ?_)
  · refine me_ret 3 (r := some (.int (-9))) (M1 := (mk_M (cT im le ln ys vt nu nn rf vw vq yc yh yg) (kr (he, ke, ki, fi, fa, or, mi, a, g, l, w, s)) (kr (kwfK 60 (he, ke, ki, fi, fa, or, mi, a, g, l, w, s) p (kg fa p))) kk q)) (fun f => rfl) ?_
    exact ⟨⟨_, rfl⟩, _, _, _, _, _, _, rfl, ⟨(kSh_r (kV_wfK 60 p (kg fa p) hV)), j1, by assumption, by assumption, by assumption⟩⟩
  · refine me_ret 2 (r := some (.int w_1)) (M1 := (mk_M (cT im le ln ys vt nu nn rf vw vq yc yh yg) (kr (he, ke, ki, fi, fa, or, mi, a, g, l, w, s)) (kr (kwfK 60 (he, ke, ki, fi, fa, or, mi, a, g, l, w, s) p (kg fa p))) kk q)) (fun f => rfl) ?_
    exact ⟨⟨_, rfl⟩, _, _, _, _, _, _, rfl, ⟨(kSh_r (kV_wfK 60 p (kg fa p) hV)), j1, by assumption, by assumption, by assumption⟩⟩
set_option maxRecDepth 100000 in
theorem wc_stuckL (he ke ki fi fa or : List Nat) (mi a g l w s : Nat) (im : Nat) (le : List Nat) (ln : Nat) (ys : List Int32) (vt : Int32) (nu : List Nat) (nn : Nat) (rf : List Nat) (kk : kG) (q : cR) (hA : iA (he, ke, ki, fi, fa, or, mi, a, g, l, w, s)) (hC : iC nu nn) (k : Nat) : ∀ (j : Nat) (v : Int32) (lo4 : Option Value) (vw vq : Int32) (yc yh yg : List Int32) (Q : kK), j + k = 73 → iJ (kr Q) ys yc yh yg → kV Q → k_st Q + k < 2 ^ 20 → mm_E 85 9 [some (.ref 100), some (.ref 124), some (.int v), some (.int (nI j)), lo4] [] (mk_M (cT im le ln ys vt nu nn rf vw vq yc yh yg) (kr (he, ke, ki, fi, fa, or, mi, a, g, l, w, s)) (kr Q) kk q) (pC isI (he, ke, ki, fi, fa, or, mi, a, g, l, w, s) im le ln ys vt nu nn rf kk q) := by
  obtain ⟨hV, hst⟩ := id hA
  have hst2 : s ≤ 999 := hst
  obtain ⟨v1, v2, v3, v4, v5, v6, v7, v8, v9, v10, v11, v12, v13, v14, v15, v16⟩ := id hV
  have v6l := kO_len mi v7 or v6
  obtain ⟨c1, c2, c3⟩ := id hC
  induction k with
  | zero =>
    intro j v lo4 vw vq yc yh yg Q hj hJ hQ hQs
    obtain ⟨j0, j1, j2, j3, j4⟩ := id hJ
    refine me_seg 2 (pc1 := 12) (ls1 := [some (.ref 100), some (.ref 124), some (.int v), some (.int (nI j)), lo4]) (st1 := [.int 72, .int (nI j)]) (M1 := (mk_M (cT im le ln ys vt nu nn rf vw vq yc yh yg) (kr (he, ke, ki, fi, fa, or, mi, a, g, l, w, s)) (kr Q) kk q)) (fun f => rfl) ?_
    refine me_t (C := 72 < (nI j)) (nI_ltt (a := 72) (b := j) (by omega)) (fun f => rfl) ?_
    refine me_ret 2 (r := some (.int (-9))) (M1 := (mk_M (cT im le ln ys vt nu nn rf vw vq yc yh yg) (kr (he, ke, ki, fi, fa, or, mi, a, g, l, w, s)) (kr Q) kk q)) (fun f => rfl) ?_
    exact ⟨⟨_, rfl⟩, _, _, _, _, _, _, rfl, ⟨(kSh_r hQ), j1, by assumption, by assumption, by assumption⟩⟩
  | succ k IH =>
    intro j v lo4 vw vq yc yh yg Q hj hJ hQ hQs
    obtain ⟨j0, j1, j2, j3, j4⟩ := id hJ
    refine me_seg 2 (pc1 := 12) (ls1 := [some (.ref 100), some (.ref 124), some (.int v), some (.int (nI j)), lo4]) (st1 := [.int 72, .int (nI j)]) (M1 := (mk_M (cT im le ln ys vt nu nn rf vw vq yc yh yg) (kr (he, ke, ki, fi, fa, or, mi, a, g, l, w, s)) (kr Q) kk q)) (fun f => rfl) ?_
    refine me_f (C := 72 < (nI j)) (nI_ltf (a := 72) (b := j) (by omega)) (fun f => rfl) ?_
    refine me_seg 5 (pc1 := 23) (ls1 := [some (.ref 100), some (.ref 124), some (.int v), some (.int (nI j)), some (.int (nI (k_at Q)))]) (st1 := [.int 0, .ref 124]) (M1 := (mk_M (cT im le ln ys vt nu nn rf vw vq yc yh yg) (kr (he, ke, ki, fi, fa, or, mi, a, g, l, w, s)) (kr Q) kk q)) (fun f => rfl) ?_
    refine me_call (y := 44) (y0 := 26) (L := [some (.ref 124), some (.int 0), none, none, none]) (rest := []) (rr := none) (M1 := (mk_M (cT im le ln ys vt nu nn rf vw vq yc yh yg) (kr (he, ke, ki, fi, fa, or, mi, a, g, l, w, s)) (kr (kstep Q 0)) kk q)) (fun f => rfl) (kl_m (cT im le ln ys vt nu nn rf vw vq yc yh yg) (kr (he, ke, ki, fi, fa, or, mi, a, g, l, w, s)) kk q (kc_advQ Q 0 (by decide) hQ (Nat.lt_trans (m := 2 ^ 20) (by omega) (by decide)))) ?_
    refine me_seg 3 (pc1 := 32) (ls1 := [some (.ref 100), some (.ref 124), some (.int v), some (.int (nI j)), some (.int (nI (k_at Q)))]) (st1 := [.int (nI (k_at Q)), .int (nI (k_at (kstep Q 0)))]) (M1 := (mk_M (cT im le ln ys vt nu nn rf vw vq yc yh yg) (kr (he, ke, ki, fi, fa, or, mi, a, g, l, w, s)) (kr (kstep Q 0)) kk q)) (fun f => rfl) ?_
    refine me_if (C := (nI (k_at (kstep Q 0))) = (nI (k_at Q))) (fun f => rfl) (fun h1 => ?_) (fun h1 => ?_)
    · refine me_seg 4 (pc1 := 42) (ls1 := [some (.ref 100), some (.ref 124), some (.int v), some (.int (nI j)), some (.int (nI (k_at Q)))]) (st1 := [.int 12, .int ((nI j) - v)]) (M1 := (mk_M (cT im le ln ys vt nu nn rf vw vq yc yh yg) (kr (he, ke, ki, fi, fa, or, mi, a, g, l, w, s)) (kr (kstep Q 0)) kk q)) (fun f => rfl) ?_
      refine me_if (C := ((nI j) - v) < 12) (fun f => rfl) (fun h2 => ?_) (fun h2 => ?_)
      · refine me_seg 1 (pc1 := 50) (ls1 := [some (.ref 100), some (.ref 124), some (.int v), some (.int ((nI j) + 1)), some (.int (nI (k_at Q)))]) (st1 := []) (M1 := (mk_M (cT im le ln ys vt nu nn rf vw vq yc yh yg) (kr (he, ke, ki, fi, fa, or, mi, a, g, l, w, s)) (kr (kstep Q 0)) kk q)) (fun f => rfl) ?_
        refine me_l (fun q_ => [some (.ref 100), some (.ref 124), some (.int v), some (.int q_), some (.int (nI (k_at Q)))]) (nI_add j 1) ?_
        refine me_seg 1 (pc1 := 9) (ls1 := [some (.ref 100), some (.ref 124), some (.int v), some (.int (nI (j + 1))), some (.int (nI (k_at Q)))]) (st1 := []) (M1 := (mk_M (cT im le ln ys vt nu nn rf vw vq yc yh yg) (kr (he, ke, ki, fi, fa, or, mi, a, g, l, w, s)) (kr (kstep Q 0)) kk q)) (fun f => rfl) ?_
        exact IH (j + 1) v (some (.int (nI (k_at Q)))) vw vq yc yh yg (kstep Q 0) (by omega) ⟨(kSh_r (kV_step hQ 0)), j1, by assumption, by assumption, by assumption⟩ (kV_step hQ 0) (by first | omega | (rw [kst_step]; omega))
      · refine me_ret 2 (r := some (.int v)) (M1 := (mk_M (cT im le ln ys vt nu nn rf vw vq yc yh yg) (kr (he, ke, ki, fi, fa, or, mi, a, g, l, w, s)) (kr (kstep Q 0)) kk q)) (fun f => rfl) ?_
        exact ⟨⟨_, rfl⟩, _, _, _, _, _, _, rfl, ⟨(kSh_r (kV_step hQ 0)), j1, by assumption, by assumption, by assumption⟩⟩
    · refine me_seg 6 (pc1 := 42) (ls1 := [some (.ref 100), some (.ref 124), some (.int (nI j)), some (.int (nI j)), some (.int (nI (k_at Q)))]) (st1 := [.int 12, .int ((nI j) - (nI j))]) (M1 := (mk_M (cT im le ln ys vt nu nn rf vw vq yc yh yg) (kr (he, ke, ki, fi, fa, or, mi, a, g, l, w, s)) (kr (kstep Q 0)) kk q)) (fun f => rfl) ?_
      refine me_if (C := ((nI j) - (nI j)) < 12) (fun f => rfl) (fun h3 => ?_) (fun h3 => ?_)
      · refine me_seg 1 (pc1 := 50) (ls1 := [some (.ref 100), some (.ref 124), some (.int (nI j)), some (.int ((nI j) + 1)), some (.int (nI (k_at Q)))]) (st1 := []) (M1 := (mk_M (cT im le ln ys vt nu nn rf vw vq yc yh yg) (kr (he, ke, ki, fi, fa, or, mi, a, g, l, w, s)) (kr (kstep Q 0)) kk q)) (fun f => rfl) ?_
        refine me_l (fun q_ => [some (.ref 100), some (.ref 124), some (.int (nI j)), some (.int q_), some (.int (nI (k_at Q)))]) (nI_add j 1) ?_
        refine me_seg 1 (pc1 := 9) (ls1 := [some (.ref 100), some (.ref 124), some (.int (nI j)), some (.int (nI (j + 1))), some (.int (nI (k_at Q)))]) (st1 := []) (M1 := (mk_M (cT im le ln ys vt nu nn rf vw vq yc yh yg) (kr (he, ke, ki, fi, fa, or, mi, a, g, l, w, s)) (kr (kstep Q 0)) kk q)) (fun f => rfl) ?_
        exact IH (j + 1) (nI j) (some (.int (nI (k_at Q)))) vw vq yc yh yg (kstep Q 0) (by omega) ⟨(kSh_r (kV_step hQ 0)), j1, by assumption, by assumption, by assumption⟩ (kV_step hQ 0) (by first | omega | (rw [kst_step]; omega))
      · refine me_ret 2 (r := some (.int (nI j))) (M1 := (mk_M (cT im le ln ys vt nu nn rf vw vq yc yh yg) (kr (he, ke, ki, fi, fa, or, mi, a, g, l, w, s)) (kr (kstep Q 0)) kk q)) (fun f => rfl) ?_
        exact ⟨⟨_, rfl⟩, _, _, _, _, _, _, rfl, ⟨(kSh_r (kV_step hQ 0)), j1, by assumption, by assumption, by assumption⟩⟩
set_option maxRecDepth 100000 in
theorem wc_stuck (he ke ki fi fa or : List Nat) (mi a g l w s : Nat) (im : Nat) (le : List Nat) (ln : Nat) (ys : List Int32) (vt : Int32) (nu : List Nat) (nn : Nat) (rf : List Nat) (kk : kG) (q : cR) (hA : iA (he, ke, ki, fi, fa, or, mi, a, g, l, w, s)) (hC : iC nu nn) (vw vq : Int32) (yc yh yg : List Int32) (m : kG) (hJ : iJ m ys yc yh yg) : mm_E 85 0 [some (.ref 100), none, none, none, none] [] (mk_M (cT im le ln ys vt nu nn rf vw vq yc yh yg) (kr (he, ke, ki, fi, fa, or, mi, a, g, l, w, s)) m kk q) (pC isI (he, ke, ki, fi, fa, or, mi, a, g, l, w, s) im le ln ys vt nu nn rf kk q) := by
  obtain ⟨hV, hst⟩ := id hA
  have hst2 : s ≤ 999 := hst
  obtain ⟨v1, v2, v3, v4, v5, v6, v7, v8, v9, v10, v11, v12, v13, v14, v15, v16⟩ := id hV
  have v6l := kO_len mi v7 or v6
  obtain ⟨c1, c2, c3⟩ := id hC
  obtain ⟨j0, j1, j2, j3, j4⟩ := id hJ
  refine me_seg 1 (pc1 := 1) (ls1 := [some (.ref 100), none, none, none, none]) (st1 := [.ref 100]) (M1 := (mk_M (cT im le ln ys vt nu nn rf vw vq yc yh yg) (kr (he, ke, ki, fi, fa, or, mi, a, g, l, w, s)) m kk q)) (fun f => rfl) ?_
  refine me_call (y := 75) (y0 := 4) (L := [some (.ref 100)]) (rest := []) (rr := some (.ref 124)) (M1 := (mk_M (cT im le ln ys vt nu nn rf vw vq yc yh yg) (kr (he, ke, ki, fi, fa, or, mi, a, g, l, w, s)) (kr (he, ke, ki, fi, fa, or, mi, a, g, l, w, s)) kk q)) (fun f => rfl) (cc_now (he, ke, ki, fi, fa, or, mi, a, g, l, w, s) (cT im le ln ys vt nu nn rf vw vq yc yh yg) m kk q hV (by assumption)) ?_
  refine me_seg 5 (pc1 := 9) (ls1 := [some (.ref 100), some (.ref 124), some (.int 0), some (.int 1), none]) (st1 := []) (M1 := (mk_M (cT im le ln ys vt nu nn rf vw vq yc yh yg) (kr (he, ke, ki, fi, fa, or, mi, a, g, l, w, s)) (kr (he, ke, ki, fi, fa, or, mi, a, g, l, w, s)) kk q)) (fun f => rfl) ?_
  exact wc_stuckL he ke ki fi fa or mi a g l w s im le ln ys vt nu nn rf kk q hA hC 72 1 0 none vw vq yc yh yg (he, ke, ki, fi, fa, or, mi, a, g, l, w, s) (by omega) ⟨(kSh_r hV), j1, by assumption, by assumption, by assumption⟩ hV (by show s + 72 < 2 ^ 20; omega)
set_option maxRecDepth 100000 in
theorem wc_shL1 (he ke ki fi fa or : List Nat) (mi a g l w s : Nat) (im : Nat) (le : List Nat) (ln : Nat) (ys : List Int32) (vt : Int32) (nu : List Nat) (nn : Nat) (rf : List Nat) (kk : kG) (q : cR) (hA : iA (he, ke, ki, fi, fa, or, mi, a, g, l, w, s)) (hC : iC nu nn) (kc : Int32) (f : Nat) (hf : f < 25) (HO : ∀ (b : Nat) (lo4 : Option Value) (lo5 : Option Value) (lo6 : Option Value) (lo7 : Option Value) (vw vq : Int32) (yc yh yg : List Int32) (m : kG), iJ m ys yc yh yg → b ≤ 1 → mm_E 87 4 [some (.ref 100), some (.int kc), some (.int (nI b)), some (.int (nI (f + 1))), lo4, lo5, lo6, lo7] [] (mk_M (cT im le ln ys vt nu nn rf vw vq yc yh yg) (kr (he, ke, ki, fi, fa, or, mi, a, g, l, w, s)) m kk q) (pC isB (he, ke, ki, fi, fa, or, mi, a, g, l, w, s) im le ln ys vt nu nn rf kk q)) (k : Nat) : ∀ (j : Nat) (b : Nat) (lo5 : Option Value) (lo6 : Option Value) (lo7 : Option Value) (vw vq : Int32) (yc yh yg : List Int32) (m : kG), j + k = 4 → iJ m ys yc yh yg → b ≤ 1 → mm_E 87 13 [some (.ref 100), some (.int kc), some (.int (nI b)), some (.int (nI f)), some (.int (nI j)), lo5, lo6, lo7] [] (mk_M (cT im le ln ys vt nu nn rf vw vq yc yh yg) (kr (he, ke, ki, fi, fa, or, mi, a, g, l, w, s)) m kk q) (pC isB (he, ke, ki, fi, fa, or, mi, a, g, l, w, s) im le ln ys vt nu nn rf kk q) := by
  obtain ⟨hV, hst⟩ := id hA
  have hst2 : s ≤ 999 := hst
  obtain ⟨v1, v2, v3, v4, v5, v6, v7, v8, v9, v10, v11, v12, v13, v14, v15, v16⟩ := id hV
  have v6l := kO_len mi v7 or v6
  obtain ⟨c1, c2, c3⟩ := id hC
  induction k with
  | zero =>
    intro j b lo5 lo6 lo7 vw vq yc yh yg m hj hJ g0
    obtain ⟨j0, j1, j2, j3, j4⟩ := id hJ
    refine me_seg 2 (pc1 := 16) (ls1 := [some (.ref 100), some (.int kc), some (.int (nI b)), some (.int (nI f)), some (.int (nI j)), lo5, lo6, lo7]) (st1 := [.int 4, .int (nI j)]) (M1 := (mk_M (cT im le ln ys vt nu nn rf vw vq yc yh yg) (kr (he, ke, ki, fi, fa, or, mi, a, g, l, w, s)) m kk q)) (fun f => rfl) ?_
    refine me_t (C := 4 ≤ (nI j)) (nI_let (a := 4) (b := j) (by omega)) (fun f => rfl) ?_
    refine me_seg 1 (pc1 := 116) (ls1 := [some (.ref 100), some (.int kc), some (.int (nI b)), some (.int ((nI f) + 1)), some (.int (nI j)), lo5, lo6, lo7]) (st1 := []) (M1 := (mk_M (cT im le ln ys vt nu nn rf vw vq yc yh yg) (kr (he, ke, ki, fi, fa, or, mi, a, g, l, w, s)) m kk q)) (fun f => rfl) ?_
    refine me_l (fun q_ => [some (.ref 100), some (.int kc), some (.int (nI b)), some (.int q_), some (.int (nI j)), lo5, lo6, lo7]) (nI_add f 1) ?_
    refine me_seg 1 (pc1 := 4) (ls1 := [some (.ref 100), some (.int kc), some (.int (nI b)), some (.int (nI (f + 1))), some (.int (nI j)), lo5, lo6, lo7]) (st1 := []) (M1 := (mk_M (cT im le ln ys vt nu nn rf vw vq yc yh yg) (kr (he, ke, ki, fi, fa, or, mi, a, g, l, w, s)) m kk q)) (fun f => rfl) ?_
    exact HO b (some (.int (nI j))) (lo5) (lo6) (lo7) vw vq yc yh yg m ⟨(by assumption), j1, by assumption, by assumption, by assumption⟩ (by omega)
  | succ k IH =>
    intro j b lo5 lo6 lo7 vw vq yc yh yg m hj hJ g0
    obtain ⟨j0, j1, j2, j3, j4⟩ := id hJ
    refine me_seg 2 (pc1 := 16) (ls1 := [some (.ref 100), some (.int kc), some (.int (nI b)), some (.int (nI f)), some (.int (nI j)), lo5, lo6, lo7]) (st1 := [.int 4, .int (nI j)]) (M1 := (mk_M (cT im le ln ys vt nu nn rf vw vq yc yh yg) (kr (he, ke, ki, fi, fa, or, mi, a, g, l, w, s)) m kk q)) (fun f => rfl) ?_
    refine me_f (C := 4 ≤ (nI j)) (nI_lef (a := 4) (b := j) (by omega)) (fun f => rfl) ?_
    refine me_seg 2 (pc1 := 22) (ls1 := [some (.ref 100), some (.int kc), some (.int (nI b)), some (.int (nI f)), some (.int (nI j)), lo5, lo6, lo7]) (st1 := [.int (nI j), .int (nI f)]) (M1 := (mk_M (cT im le ln ys vt nu nn rf vw vq yc yh yg) (kr (he, ke, ki, fi, fa, or, mi, a, g, l, w, s)) m kk q)) (fun f => rfl) ?_
    refine me_call (y := 48) (y0 := 25) (L := [some (.int (nI f)), some (.int (nI j))]) (rest := []) (rr := some (.int (kI (kbey f j)))) (M1 := (mk_M (cT im le ln ys vt nu nn rf vw vq yc yh yg) (kr (he, ke, ki, fi, fa, or, mi, a, g, l, w, s)) m kk q)) (fun f => rfl) (kc_bey (c := f) (w := j) (by omega) (by omega) _) ?_
    rcases hb_1 : kbey f j with _ | t_1
    · refine me_v (show kI none = (-9 : Int32) from rfl) ?_
      refine me_seg 5 (pc1 := 110) (ls1 := [some (.ref 100), some (.int kc), some (.int (nI b)), some (.int (nI f)), some (.int ((nI j) + 1)), some (.int (-9)), lo6, lo7]) (st1 := []) (M1 := (mk_M (cT im le ln ys vt nu nn rf vw vq yc yh yg) (kr (he, ke, ki, fi, fa, or, mi, a, g, l, w, s)) m kk q)) (fun f => rfl) ?_
      refine me_l (fun q_ => [some (.ref 100), some (.int kc), some (.int (nI b)), some (.int (nI f)), some (.int q_), some (.int (-9)), lo6, lo7]) (nI_add j 1) ?_
      refine me_seg 1 (pc1 := 13) (ls1 := [some (.ref 100), some (.int kc), some (.int (nI b)), some (.int (nI f)), some (.int (nI (j + 1))), some (.int (-9)), lo6, lo7]) (st1 := []) (M1 := (mk_M (cT im le ln ys vt nu nn rf vw vq yc yh yg) (kr (he, ke, ki, fi, fa, or, mi, a, g, l, w, s)) m kk q)) (fun f => rfl) ?_
      exact IH (j + 1) b (some (.int (-9))) (lo6) (lo7) vw vq yc yh yg m (by omega) ⟨(by assumption), j1, by assumption, by assumption, by assumption⟩ (by omega)
    · have ht_1 := kbey_lt (by omega) hb_1
      refine me_v (show kI (some t_1) = nI t_1 from rfl) ?_
      refine me_seg 3 (pc1 := 31) (ls1 := [some (.ref 100), some (.int kc), some (.int (nI b)), some (.int (nI f)), some (.int (nI j)), some (.int (nI t_1)), lo6, lo7]) (st1 := [.int (-9), .int (nI t_1)]) (M1 := (mk_M (cT im le ln ys vt nu nn rf vw vq yc yh yg) (kr (he, ke, ki, fi, fa, or, mi, a, g, l, w, s)) m kk q)) (fun f => rfl) ?_
      refine me_f (C := (nI t_1) = (-9)) (k_nc (by omega) (by decide)) (fun f => rfl) ?_
      refine me_seg 5 (pc1 := 44) (ls1 := [some (.ref 100), some (.int kc), some (.int (nI b)), some (.int (nI f)), some (.int (nI j)), some (.int (nI t_1)), lo6, lo7]) (st1 := [.int (nI t_1), .ref 118, .int 0]) (M1 := (mk_M (cT im le ln ys vt nu nn rf vw vq yc yh yg) (kr (he, ke, ki, fi, fa, or, mi, a, g, l, w, s)) m kk q)) (fun f => rfl) ?_
      refine me_ldn (xs := (he.map nI)) rfl rfl (k := t_1) (by omega) (kg_ok (by omega)) ?_
      refine me_seg 4 (pc1 := 53) (ls1 := [some (.ref 100), some (.int kc), some (.int (nI b)), some (.int (nI f)), some (.int (nI j)), some (.int (nI t_1)), lo6, lo7]) (st1 := [.int (nI f), .ref 118, .int (nI (kg he t_1)), .int 0]) (M1 := (mk_M (cT im le ln ys vt nu nn rf vw vq yc yh yg) (kr (he, ke, ki, fi, fa, or, mi, a, g, l, w, s)) m kk q)) (fun f => rfl) ?_
      refine me_ldn (xs := (he.map nI)) rfl rfl (k := f) (by omega) (kg_ok (by omega)) ?_
      refine me_seg 6 (pc1 := 65) (ls1 := [some (.ref 100), some (.int kc), some (.int (nI b)), some (.int (nI f)), some (.int (nI j)), some (.int (nI t_1)), some (.int (if 0 < ((nI (kg he t_1)) - (nI (kg he f))) then ((nI (kg he t_1)) - (nI (kg he f))) else 0)), lo7]) (st1 := [.int (nI f), .ref 107]) (M1 := (mk_M (cT im le ln ys vt nu nn rf vw vq yc yh yg) (kr (he, ke, ki, fi, fa, or, mi, a, g, l, w, s)) m kk q)) (fun f => rfl) ?_
      refine me_ldn (xs := yc) rfl rfl (k := f) (by omega) (kgr_ok (by first | omega | (simp only [List.length_set]; omega))) ?_
      refine me_seg 7 (pc1 := 79) (ls1 := [some (.ref 100), some (.int kc), some (.int (nI b)), some (.int (nI f)), some (.int (nI j)), some (.int (nI t_1)), some (.int (if 0 < ((nI (kg he t_1)) - (nI (kg he f))) then ((nI (kg he t_1)) - (nI (kg he f))) else 0)), lo7]) (st1 := [.int (nI t_1), .ref 119, .int kc, .int ((kgr yc f) + (if 0 < ((nI (kg he t_1)) - (nI (kg he f))) then ((nI (kg he t_1)) - (nI (kg he f))) else 0))]) (M1 := (mk_M (cT im le ln ys vt nu nn rf vw vq yc yh yg) (kr (he, ke, ki, fi, fa, or, mi, a, g, l, w, s)) m kk q)) (fun f => rfl) ?_
      refine me_ldn (xs := (ke.map nI)) rfl rfl (k := t_1) (by omega) (kg_ok (by omega)) ?_
      refine me_seg 7 (pc1 := 92) (ls1 := [some (.ref 100), some (.int kc), some (.int (nI b)), some (.int (nI f)), some (.int (nI j)), some (.int (nI t_1)), some (.int (if 0 < ((nI (kg he t_1)) - (nI (kg he f))) then ((nI (kg he t_1)) - (nI (kg he f))) else 0)), some (.int (((kgr yc f) + (if 0 < ((nI (kg he t_1)) - (nI (kg he f))) then ((nI (kg he t_1)) - (nI (kg he f))) else 0)) + (kc * (nI (kg ke t_1)))))]) (st1 := [.int (nI t_1), .ref 107, .int (((kgr yc f) + (if 0 < ((nI (kg he t_1)) - (nI (kg he f))) then ((nI (kg he t_1)) - (nI (kg he f))) else 0)) + (kc * (nI (kg ke t_1))))]) (M1 := (mk_M (cT im le ln ys vt nu nn rf vw vq yc yh yg) (kr (he, ke, ki, fi, fa, or, mi, a, g, l, w, s)) m kk q)) (fun f => rfl) ?_
      refine me_ldn (xs := yc) rfl rfl (k := t_1) (by omega) (kgr_ok (by first | omega | (simp only [List.length_set]; omega))) ?_
      refine me_if (C := (kgr yc t_1) ≤ (((kgr yc f) + (if 0 < ((nI (kg he t_1)) - (nI (kg he f))) then ((nI (kg he t_1)) - (nI (kg he f))) else 0)) + (kc * (nI (kg ke t_1))))) (fun f => rfl) (fun h2 => ?_) (fun h2 => ?_)
      · refine me_seg 1 (pc1 := 110) (ls1 := [some (.ref 100), some (.int kc), some (.int (nI b)), some (.int (nI f)), some (.int ((nI j) + 1)), some (.int (nI t_1)), some (.int (if 0 < ((nI (kg he t_1)) - (nI (kg he f))) then ((nI (kg he t_1)) - (nI (kg he f))) else 0)), some (.int (((kgr yc f) + (if 0 < ((nI (kg he t_1)) - (nI (kg he f))) then ((nI (kg he t_1)) - (nI (kg he f))) else 0)) + (kc * (nI (kg ke t_1)))))]) (st1 := []) (M1 := (mk_M (cT im le ln ys vt nu nn rf vw vq yc yh yg) (kr (he, ke, ki, fi, fa, or, mi, a, g, l, w, s)) m kk q)) (fun f => rfl) ?_
        refine me_l (fun q_ => [some (.ref 100), some (.int kc), some (.int (nI b)), some (.int (nI f)), some (.int q_), some (.int (nI t_1)), some (.int (if 0 < ((nI (kg he t_1)) - (nI (kg he f))) then ((nI (kg he t_1)) - (nI (kg he f))) else 0)), some (.int (((kgr yc f) + (if 0 < ((nI (kg he t_1)) - (nI (kg he f))) then ((nI (kg he t_1)) - (nI (kg he f))) else 0)) + (kc * (nI (kg ke t_1)))))]) (nI_add j 1) ?_
        refine me_seg 1 (pc1 := 13) (ls1 := [some (.ref 100), some (.int kc), some (.int (nI b)), some (.int (nI f)), some (.int (nI (j + 1))), some (.int (nI t_1)), some (.int (if 0 < ((nI (kg he t_1)) - (nI (kg he f))) then ((nI (kg he t_1)) - (nI (kg he f))) else 0)), some (.int (((kgr yc f) + (if 0 < ((nI (kg he t_1)) - (nI (kg he f))) then ((nI (kg he t_1)) - (nI (kg he f))) else 0)) + (kc * (nI (kg ke t_1)))))]) (st1 := []) (M1 := (mk_M (cT im le ln ys vt nu nn rf vw vq yc yh yg) (kr (he, ke, ki, fi, fa, or, mi, a, g, l, w, s)) m kk q)) (fun f => rfl) ?_
        exact IH (j + 1) b (some (.int (nI t_1))) (some (.int (if 0 < ((nI (kg he t_1)) - (nI (kg he f))) then ((nI (kg he t_1)) - (nI (kg he f))) else 0))) (some (.int (((kgr yc f) + (if 0 < ((nI (kg he t_1)) - (nI (kg he f))) then ((nI (kg he t_1)) - (nI (kg he f))) else 0)) + (kc * (nI (kg ke t_1)))))) vw vq yc yh yg m (by omega) ⟨(by assumption), j1, by assumption, by assumption, by assumption⟩ (by omega)
      · refine me_seg 4 (pc1 := 104) (ls1 := [some (.ref 100), some (.int kc), some (.int (nI b)), some (.int (nI f)), some (.int (nI j)), some (.int (nI t_1)), some (.int (if 0 < ((nI (kg he t_1)) - (nI (kg he f))) then ((nI (kg he t_1)) - (nI (kg he f))) else 0)), some (.int (((kgr yc f) + (if 0 < ((nI (kg he t_1)) - (nI (kg he f))) then ((nI (kg he t_1)) - (nI (kg he f))) else 0)) + (kc * (nI (kg ke t_1)))))]) (st1 := [.int (((kgr yc f) + (if 0 < ((nI (kg he t_1)) - (nI (kg he f))) then ((nI (kg he t_1)) - (nI (kg he f))) else 0)) + (kc * (nI (kg ke t_1)))), .int (nI t_1), .ref 107]) (M1 := (mk_M (cT im le ln ys vt nu nn rf vw vq yc yh yg) (kr (he, ke, ki, fi, fa, or, mi, a, g, l, w, s)) m kk q)) (fun f => rfl) ?_
        refine me_stn (xs := yc) (ys := (yc.set t_1 (((kgr yc f) + (if 0 < ((nI (kg he t_1)) - (nI (kg he f))) then ((nI (kg he t_1)) - (nI (kg he f))) else 0)) + (kc * (nI (kg ke t_1)))))) (M2 := (mk_M (cT im le ln ys vt nu nn rf vw vq (yc.set t_1 (((kgr yc f) + (if 0 < ((nI (kg he t_1)) - (nI (kg he f))) then ((nI (kg he t_1)) - (nI (kg he f))) else 0)) + (kc * (nI (kg ke t_1))))) yh yg) (kr (he, ke, ki, fi, fa, or, mi, a, g, l, w, s)) m kk q)) rfl rfl (k := t_1) (by omega) (by first | omega | (simp only [List.length_set]; omega)) rfl rfl ?_
        refine me_seg 3 (pc1 := 110) (ls1 := [some (.ref 100), some (.int kc), some (.int 1), some (.int (nI f)), some (.int ((nI j) + 1)), some (.int (nI t_1)), some (.int (if 0 < ((nI (kg he t_1)) - (nI (kg he f))) then ((nI (kg he t_1)) - (nI (kg he f))) else 0)), some (.int (((kgr yc f) + (if 0 < ((nI (kg he t_1)) - (nI (kg he f))) then ((nI (kg he t_1)) - (nI (kg he f))) else 0)) + (kc * (nI (kg ke t_1)))))]) (st1 := []) (M1 := (mk_M (cT im le ln ys vt nu nn rf vw vq (yc.set t_1 (((kgr yc f) + (if 0 < ((nI (kg he t_1)) - (nI (kg he f))) then ((nI (kg he t_1)) - (nI (kg he f))) else 0)) + (kc * (nI (kg ke t_1))))) yh yg) (kr (he, ke, ki, fi, fa, or, mi, a, g, l, w, s)) m kk q)) (fun f => rfl) ?_
        refine me_l (fun q_ => [some (.ref 100), some (.int kc), some (.int 1), some (.int (nI f)), some (.int q_), some (.int (nI t_1)), some (.int (if 0 < ((nI (kg he t_1)) - (nI (kg he f))) then ((nI (kg he t_1)) - (nI (kg he f))) else 0)), some (.int (((kgr yc f) + (if 0 < ((nI (kg he t_1)) - (nI (kg he f))) then ((nI (kg he t_1)) - (nI (kg he f))) else 0)) + (kc * (nI (kg ke t_1)))))]) (nI_add j 1) ?_
        refine me_seg 1 (pc1 := 13) (ls1 := [some (.ref 100), some (.int kc), some (.int 1), some (.int (nI f)), some (.int (nI (j + 1))), some (.int (nI t_1)), some (.int (if 0 < ((nI (kg he t_1)) - (nI (kg he f))) then ((nI (kg he t_1)) - (nI (kg he f))) else 0)), some (.int (((kgr yc f) + (if 0 < ((nI (kg he t_1)) - (nI (kg he f))) then ((nI (kg he t_1)) - (nI (kg he f))) else 0)) + (kc * (nI (kg ke t_1)))))]) (st1 := []) (M1 := (mk_M (cT im le ln ys vt nu nn rf vw vq (yc.set t_1 (((kgr yc f) + (if 0 < ((nI (kg he t_1)) - (nI (kg he f))) then ((nI (kg he t_1)) - (nI (kg he f))) else 0)) + (kc * (nI (kg ke t_1))))) yh yg) (kr (he, ke, ki, fi, fa, or, mi, a, g, l, w, s)) m kk q)) (fun f => rfl) ?_
        exact IH (j + 1) 1 (some (.int (nI t_1))) (some (.int (if 0 < ((nI (kg he t_1)) - (nI (kg he f))) then ((nI (kg he t_1)) - (nI (kg he f))) else 0))) (some (.int (((kgr yc f) + (if 0 < ((nI (kg he t_1)) - (nI (kg he f))) then ((nI (kg he t_1)) - (nI (kg he f))) else 0)) + (kc * (nI (kg ke t_1)))))) vw vq (yc.set t_1 (((kgr yc f) + (if 0 < ((nI (kg he t_1)) - (nI (kg he f))) then ((nI (kg he t_1)) - (nI (kg he f))) else 0)) + (kc * (nI (kg ke t_1))))) yh yg m (by omega) ⟨(by assumption), j1, by simp only [List.length_set]; assumption, by assumption, by assumption⟩ (by omega)
set_option maxRecDepth 100000 in
theorem wc_shL0 (he ke ki fi fa or : List Nat) (mi a g l w s : Nat) (im : Nat) (le : List Nat) (ln : Nat) (ys : List Int32) (vt : Int32) (nu : List Nat) (nn : Nat) (rf : List Nat) (kk : kG) (q : cR) (hA : iA (he, ke, ki, fi, fa, or, mi, a, g, l, w, s)) (hC : iC nu nn) (kc : Int32) (k : Nat) : ∀ (j : Nat) (b : Nat) (lo4 : Option Value) (lo5 : Option Value) (lo6 : Option Value) (lo7 : Option Value) (vw vq : Int32) (yc yh yg : List Int32) (m : kG), j + k = 25 → iJ m ys yc yh yg → b ≤ 1 → mm_E 87 4 [some (.ref 100), some (.int kc), some (.int (nI b)), some (.int (nI j)), lo4, lo5, lo6, lo7] [] (mk_M (cT im le ln ys vt nu nn rf vw vq yc yh yg) (kr (he, ke, ki, fi, fa, or, mi, a, g, l, w, s)) m kk q) (pC isB (he, ke, ki, fi, fa, or, mi, a, g, l, w, s) im le ln ys vt nu nn rf kk q) := by
  obtain ⟨hV, hst⟩ := id hA
  have hst2 : s ≤ 999 := hst
  obtain ⟨v1, v2, v3, v4, v5, v6, v7, v8, v9, v10, v11, v12, v13, v14, v15, v16⟩ := id hV
  have v6l := kO_len mi v7 or v6
  obtain ⟨c1, c2, c3⟩ := id hC
  induction k with
  | zero =>
    intro j b lo4 lo5 lo6 lo7 vw vq yc yh yg m hj hJ g0
    obtain ⟨j0, j1, j2, j3, j4⟩ := id hJ
    refine me_seg 2 (pc1 := 7) (ls1 := [some (.ref 100), some (.int kc), some (.int (nI b)), some (.int (nI j)), lo4, lo5, lo6, lo7]) (st1 := [.int 25, .int (nI j)]) (M1 := (mk_M (cT im le ln ys vt nu nn rf vw vq yc yh yg) (kr (he, ke, ki, fi, fa, or, mi, a, g, l, w, s)) m kk q)) (fun f => rfl) ?_
    refine me_t (C := 25 ≤ (nI j)) (nI_let (a := 25) (b := j) (by omega)) (fun f => rfl) ?_
    refine me_seg 1 (pc1 := 120) (ls1 := [some (.ref 100), some (.int kc), some (.int (nI b)), some (.int (nI j)), lo4, lo5, lo6, lo7]) (st1 := [.int (nI b)]) (M1 := (mk_M (cT im le ln ys vt nu nn rf vw vq yc yh yg) (kr (he, ke, ki, fi, fa, or, mi, a, g, l, w, s)) m kk q)) (fun f => rfl) ?_
    refine me_b01 (b := b) (by omega) (fun f => rfl) (fun f => rfl) ?_
    exact ⟨⟨b, by omega, rfl⟩, _, _, _, _, _, _, rfl, ⟨(by assumption), j1, by assumption, by assumption, by assumption⟩⟩
  | succ k IH =>
    intro j b lo4 lo5 lo6 lo7 vw vq yc yh yg m hj hJ g0
    obtain ⟨j0, j1, j2, j3, j4⟩ := id hJ
    refine me_seg 2 (pc1 := 7) (ls1 := [some (.ref 100), some (.int kc), some (.int (nI b)), some (.int (nI j)), lo4, lo5, lo6, lo7]) (st1 := [.int 25, .int (nI j)]) (M1 := (mk_M (cT im le ln ys vt nu nn rf vw vq yc yh yg) (kr (he, ke, ki, fi, fa, or, mi, a, g, l, w, s)) m kk q)) (fun f => rfl) ?_
    refine me_f (C := 25 ≤ (nI j)) (nI_lef (a := 25) (b := j) (by omega)) (fun f => rfl) ?_
    refine me_seg 2 (pc1 := 13) (ls1 := [some (.ref 100), some (.int kc), some (.int (nI b)), some (.int (nI j)), some (.int 0), lo5, lo6, lo7]) (st1 := []) (M1 := (mk_M (cT im le ln ys vt nu nn rf vw vq yc yh yg) (kr (he, ke, ki, fi, fa, or, mi, a, g, l, w, s)) m kk q)) (fun f => rfl) ?_
    exact wc_shL1 he ke ki fi fa or mi a g l w s im le ln ys vt nu nn rf kk q hA hC kc j (by omega) (fun b lo4 lo5 lo6 lo7 vw vq yc yh yg m hJ hb => IH (j + 1) b lo4 lo5 lo6 lo7 vw vq yc yh yg m (by omega) hJ hb) 4 0 b lo5 lo6 lo7 vw vq yc yh yg m (by omega) ⟨(by assumption), j1, by assumption, by assumption, by assumption⟩ g0
set_option maxRecDepth 100000 in
theorem wc_sh (he ke ki fi fa or : List Nat) (mi a g l w s : Nat) (im : Nat) (le : List Nat) (ln : Nat) (ys : List Int32) (vt : Int32) (nu : List Nat) (nn : Nat) (rf : List Nat) (kk : kG) (q : cR) (hA : iA (he, ke, ki, fi, fa, or, mi, a, g, l, w, s)) (hC : iC nu nn) (vw vq : Int32) (yc yh yg : List Int32) (m : kG) (hJ : iJ m ys yc yh yg) (kc : Int32) : mm_E 87 0 [some (.ref 100), some (.int kc), none, none, none, none, none, none] [] (mk_M (cT im le ln ys vt nu nn rf vw vq yc yh yg) (kr (he, ke, ki, fi, fa, or, mi, a, g, l, w, s)) m kk q) (pC isB (he, ke, ki, fi, fa, or, mi, a, g, l, w, s) im le ln ys vt nu nn rf kk q) := by
  obtain ⟨hV, hst⟩ := id hA
  have hst2 : s ≤ 999 := hst
  obtain ⟨v1, v2, v3, v4, v5, v6, v7, v8, v9, v10, v11, v12, v13, v14, v15, v16⟩ := id hV
  have v6l := kO_len mi v7 or v6
  obtain ⟨c1, c2, c3⟩ := id hC
  obtain ⟨j0, j1, j2, j3, j4⟩ := id hJ
  refine me_seg 4 (pc1 := 4) (ls1 := [some (.ref 100), some (.int kc), some (.int 0), some (.int 0), none, none, none, none]) (st1 := []) (M1 := (mk_M (cT im le ln ys vt nu nn rf vw vq yc yh yg) (kr (he, ke, ki, fi, fa, or, mi, a, g, l, w, s)) m kk q)) (fun f => rfl) ?_
  exact wc_shL0 he ke ki fi fa or mi a g l w s im le ln ys vt nu nn rf kk q hA hC kc 25 0 0 none none none none vw vq yc yh yg m (by omega) ⟨(by assumption), j1, by assumption, by assumption, by assumption⟩ (by omega)
set_option maxRecDepth 100000 in
theorem wc_climbL1 (he ke ki fi fa or : List Nat) (mi a g l w s : Nat) (im : Nat) (le : List Nat) (ln : Nat) (ys : List Int32) (vt : Int32) (nu : List Nat) (nn : Nat) (rf : List Nat) (kk : kG) (q : cR) (hA : iA (he, ke, ki, fi, fa, or, mi, a, g, l, w, s)) (hC : iC nu nn) (p x : Nat) (hp : p < 25) (hx : x < 2) (k : Nat) : ∀ (j : Nat) (b : Nat) (vw vq : Int32) (yc yh yg : List Int32) (m : kG), j + k = 25 → iJ m ys yc yh yg → b ≤ 1 → mm_E 86 69 [some (.ref 100), some (.int (nI p)), some (.int (nI x)), some (.int (nI b)), some (.int (nI j))] [] (mk_M (cT im le ln ys vt nu nn rf vw vq yc yh yg) (kr (he, ke, ki, fi, fa, or, mi, a, g, l, w, s)) m kk q) (pC isI (he, ke, ki, fi, fa, or, mi, a, g, l, w, s) im le ln ys vt nu nn rf kk q) := by
  obtain ⟨hV, hst⟩ := id hA
  have hst2 : s ≤ 999 := hst
  obtain ⟨v1, v2, v3, v4, v5, v6, v7, v8, v9, v10, v11, v12, v13, v14, v15, v16⟩ := id hV
  have v6l := kO_len mi v7 or v6
  obtain ⟨c1, c2, c3⟩ := id hC
  induction k with
  | zero =>
    intro j b vw vq yc yh yg m hj hJ g0
    obtain ⟨j0, j1, j2, j3, j4⟩ := id hJ
    refine me_seg 2 (pc1 := 73) (ls1 := [some (.ref 100), some (.int (nI p)), some (.int (nI x)), some (.int (nI b)), some (.int (nI j))]) (st1 := [.int 25, .int (nI j)]) (M1 := (mk_M (cT im le ln ys vt nu nn rf vw vq yc yh yg) (kr (he, ke, ki, fi, fa, or, mi, a, g, l, w, s)) m kk q)) (fun f => rfl) ?_
    refine me_t (C := 25 ≤ (nI j)) (nI_let (a := 25) (b := j) (by omega)) (fun f => rfl) ?_
    refine me_seg 3 (pc1 := 106) (ls1 := [some (.ref 100), some (.int (nI p)), some (.int (nI x)), some (.int (nI b)), some (.int (nI j))]) (st1 := [.int (nI p), .ref 107]) (M1 := (mk_M (cT im le ln ys vt nu nn rf vw vq yc yh yg) (kr (he, ke, ki, fi, fa, or, mi, a, g, l, w, s)) m kk q)) (fun f => rfl) ?_
    refine me_ldn (xs := yc) rfl rfl (k := p) (by omega) (kgr_ok (by first | omega | (simp only [List.length_set]; omega))) ?_
    refine me_ret 1 (r := some (.int (kgr yc p))) (M1 := (mk_M (cT im le ln ys vt nu nn rf vw vq yc yh yg) (kr (he, ke, ki, fi, fa, or, mi, a, g, l, w, s)) m kk q)) (fun f => rfl) ?_
    exact ⟨⟨_, rfl⟩, _, _, _, _, _, _, rfl, ⟨(by assumption), j1, by assumption, by assumption, by assumption⟩⟩
  | succ k IH =>
    intro j b vw vq yc yh yg m hj hJ g0
    obtain ⟨j0, j1, j2, j3, j4⟩ := id hJ
    refine me_seg 2 (pc1 := 73) (ls1 := [some (.ref 100), some (.int (nI p)), some (.int (nI x)), some (.int (nI b)), some (.int (nI j))]) (st1 := [.int 25, .int (nI j)]) (M1 := (mk_M (cT im le ln ys vt nu nn rf vw vq yc yh yg) (kr (he, ke, ki, fi, fa, or, mi, a, g, l, w, s)) m kk q)) (fun f => rfl) ?_
    refine me_f (C := 25 ≤ (nI j)) (nI_lef (a := 25) (b := j) (by omega)) (fun f => rfl) ?_
    refine me_seg 1 (pc1 := 77) (ls1 := [some (.ref 100), some (.int (nI p)), some (.int (nI x)), some (.int (nI b)), some (.int (nI j))]) (st1 := [.int (nI b)]) (M1 := (mk_M (cT im le ln ys vt nu nn rf vw vq yc yh yg) (kr (he, ke, ki, fi, fa, or, mi, a, g, l, w, s)) m kk q)) (fun f => rfl) ?_
    refine me_if (C := (nI b) = 0) (fun f => rfl) (fun h1 => ?_) (fun h1 => ?_)
    · refine me_seg 3 (pc1 := 106) (ls1 := [some (.ref 100), some (.int (nI p)), some (.int (nI x)), some (.int (nI b)), some (.int (nI j))]) (st1 := [.int (nI p), .ref 107]) (M1 := (mk_M (cT im le ln ys vt nu nn rf vw vq yc yh yg) (kr (he, ke, ki, fi, fa, or, mi, a, g, l, w, s)) m kk q)) (fun f => rfl) ?_
      refine me_ldn (xs := yc) rfl rfl (k := p) (by omega) (kgr_ok (by first | omega | (simp only [List.length_set]; omega))) ?_
      refine me_ret 1 (r := some (.int (kgr yc p))) (M1 := (mk_M (cT im le ln ys vt nu nn rf vw vq yc yh yg) (kr (he, ke, ki, fi, fa, or, mi, a, g, l, w, s)) m kk q)) (fun f => rfl) ?_
      exact ⟨⟨_, rfl⟩, _, _, _, _, _, _, rfl, ⟨(by assumption), j1, by assumption, by assumption, by assumption⟩⟩
    · refine me_seg 3 (pc1 := 83) (ls1 := [some (.ref 100), some (.int (nI p)), some (.int (nI x)), some (.int (nI b)), some (.int (nI j))]) (st1 := [.int 1, .int (nI x), .ref 100]) (M1 := (mk_M (cT im le ln ys vt nu nn rf vw vq yc yh yg) (kr (he, ke, ki, fi, fa, or, mi, a, g, l, w, s)) m kk q)) (fun f => rfl) ?_
      refine me_if (C := (nI x) = 1) (fun f => rfl) (fun h2 => ?_) (fun h2 => ?_)
      · refine me_seg 2 (pc1 := 91) (ls1 := [some (.ref 100), some (.int (nI p)), some (.int (nI x)), some (.int (nI b)), some (.int (nI j))]) (st1 := [.int 2, .ref 100]) (M1 := (mk_M (cT im le ln ys vt nu nn rf vw vq yc yh yg) (kr (he, ke, ki, fi, fa, or, mi, a, g, l, w, s)) m kk q)) (fun f => rfl) ?_
        refine me_callE (y := 87) (y0 := 94) (L := [some (.ref 100), some (.int 2), none, none, none, none, none, none]) (rest := []) (fun f => rfl) (wc_sh he ke ki fi fa or mi a g l w s im le ln ys vt nu nn rf kk q hA hC vw vq yc yh yg m ⟨(by assumption), j1, by assumption, by assumption, by assumption⟩ 2) ?_
        rintro _ _ ⟨⟨b_3, hb_3, rfl⟩, vw_3, vq_3, yc_3, yh_3, yg_3, m_3, rfl, hJ_3⟩
        obtain ⟨j0_3, j1_3, j2_3, j3_3, j4_3⟩ := id hJ_3
        refine me_seg 2 (pc1 := 98) (ls1 := [some (.ref 100), some (.int (nI p)), some (.int (nI x)), some (.int (nI b_3)), some (.int ((nI j) + 1))]) (st1 := []) (M1 := (mk_M (cT im le ln ys vt nu nn rf vw_3 vq_3 yc_3 yh_3 yg_3) (kr (he, ke, ki, fi, fa, or, mi, a, g, l, w, s)) m_3 kk q)) (fun f => rfl) ?_
        refine me_l (fun q_ => [some (.ref 100), some (.int (nI p)), some (.int (nI x)), some (.int (nI b_3)), some (.int q_)]) (nI_add j 1) ?_
        refine me_seg 1 (pc1 := 69) (ls1 := [some (.ref 100), some (.int (nI p)), some (.int (nI x)), some (.int (nI b_3)), some (.int (nI (j + 1)))]) (st1 := []) (M1 := (mk_M (cT im le ln ys vt nu nn rf vw_3 vq_3 yc_3 yh_3 yg_3) (kr (he, ke, ki, fi, fa, or, mi, a, g, l, w, s)) m_3 kk q)) (fun f => rfl) ?_
        exact IH (j + 1) b_3 vw_3 vq_3 yc_3 yh_3 yg_3 m_3 (by omega) ⟨(by assumption), j1, by assumption, by assumption, by assumption⟩ (by omega)
      · refine me_seg 1 (pc1 := 91) (ls1 := [some (.ref 100), some (.int (nI p)), some (.int (nI x)), some (.int (nI b)), some (.int (nI j))]) (st1 := [.int 0, .ref 100]) (M1 := (mk_M (cT im le ln ys vt nu nn rf vw vq yc yh yg) (kr (he, ke, ki, fi, fa, or, mi, a, g, l, w, s)) m kk q)) (fun f => rfl) ?_
        refine me_callE (y := 87) (y0 := 94) (L := [some (.ref 100), some (.int 0), none, none, none, none, none, none]) (rest := []) (fun f => rfl) (wc_sh he ke ki fi fa or mi a g l w s im le ln ys vt nu nn rf kk q hA hC vw vq yc yh yg m ⟨(by assumption), j1, by assumption, by assumption, by assumption⟩ 0) ?_
        rintro _ _ ⟨⟨b_4, hb_4, rfl⟩, vw_4, vq_4, yc_4, yh_4, yg_4, m_4, rfl, hJ_4⟩
        obtain ⟨j0_4, j1_4, j2_4, j3_4, j4_4⟩ := id hJ_4
        refine me_seg 2 (pc1 := 98) (ls1 := [some (.ref 100), some (.int (nI p)), some (.int (nI x)), some (.int (nI b_4)), some (.int ((nI j) + 1))]) (st1 := []) (M1 := (mk_M (cT im le ln ys vt nu nn rf vw_4 vq_4 yc_4 yh_4 yg_4) (kr (he, ke, ki, fi, fa, or, mi, a, g, l, w, s)) m_4 kk q)) (fun f => rfl) ?_
        refine me_l (fun q_ => [some (.ref 100), some (.int (nI p)), some (.int (nI x)), some (.int (nI b_4)), some (.int q_)]) (nI_add j 1) ?_
        refine me_seg 1 (pc1 := 69) (ls1 := [some (.ref 100), some (.int (nI p)), some (.int (nI x)), some (.int (nI b_4)), some (.int (nI (j + 1)))]) (st1 := []) (M1 := (mk_M (cT im le ln ys vt nu nn rf vw_4 vq_4 yc_4 yh_4 yg_4) (kr (he, ke, ki, fi, fa, or, mi, a, g, l, w, s)) m_4 kk q)) (fun f => rfl) ?_
        exact IH (j + 1) b_4 vw_4 vq_4 yc_4 yh_4 yg_4 m_4 (by omega) ⟨(by assumption), j1, by assumption, by assumption, by assumption⟩ (by omega)
set_option maxRecDepth 100000 in
theorem wc_climbL0 (he ke ki fi fa or : List Nat) (mi a g l w s : Nat) (im : Nat) (le : List Nat) (ln : Nat) (ys : List Int32) (vt : Int32) (nu : List Nat) (nn : Nat) (rf : List Nat) (kk : kG) (q : cR) (hA : iA (he, ke, ki, fi, fa, or, mi, a, g, l, w, s)) (hC : iC nu nn) (p x : Nat) (hp : p < 25) (hx : x < 2) (k : Nat) : ∀ (j : Nat) (lo4 : Option Value) (vw vq : Int32) (yc yh yg : List Int32) (m : kG), j + k = 25 → iJ m ys yc yh yg → mm_E 86 31 [some (.ref 100), some (.int (nI p)), some (.int (nI x)), some (.int (nI j)), lo4] [] (mk_M (cT im le ln ys vt nu nn rf vw vq yc yh yg) (kr (he, ke, ki, fi, fa, or, mi, a, g, l, w, s)) m kk q) (pC isI (he, ke, ki, fi, fa, or, mi, a, g, l, w, s) im le ln ys vt nu nn rf kk q) := by
  obtain ⟨hV, hst⟩ := id hA
  have hst2 : s ≤ 999 := hst
  obtain ⟨v1, v2, v3, v4, v5, v6, v7, v8, v9, v10, v11, v12, v13, v14, v15, v16⟩ := id hV
  have v6l := kO_len mi v7 or v6
  obtain ⟨c1, c2, c3⟩ := id hC
  induction k with
  | zero =>
    intro j lo4 vw vq yc yh yg m hj hJ
    obtain ⟨j0, j1, j2, j3, j4⟩ := id hJ
    refine me_seg 2 (pc1 := 34) (ls1 := [some (.ref 100), some (.int (nI p)), some (.int (nI x)), some (.int (nI j)), lo4]) (st1 := [.int 25, .int (nI j)]) (M1 := (mk_M (cT im le ln ys vt nu nn rf vw vq yc yh yg) (kr (he, ke, ki, fi, fa, or, mi, a, g, l, w, s)) m kk q)) (fun f => rfl) ?_
    refine me_t (C := 25 ≤ (nI j)) (nI_let (a := 25) (b := j) (by omega)) (fun f => rfl) ?_
    refine me_seg 6 (pc1 := 63) (ls1 := [some (.ref 100), some (.int (nI p)), some (.int (nI x)), some (.int (nI j)), lo4]) (st1 := [.int 0, .int (nI a), .ref 107]) (M1 := (mk_M (cT im le ln ys vt nu nn rf vw vq yc yh yg) (kr (he, ke, ki, fi, fa, or, mi, a, g, l, w, s)) m kk q)) (fun f => rfl) ?_
    refine me_stn (xs := yc) (ys := (yc.set a 0)) (M2 := (mk_M (cT im le ln ys vt nu nn rf vw vq (yc.set a 0) yh yg) (kr (he, ke, ki, fi, fa, or, mi, a, g, l, w, s)) m kk q)) rfl rfl (k := a) (by omega) (by first | omega | (simp only [List.length_set]; omega)) rfl rfl ?_
    refine me_seg 4 (pc1 := 69) (ls1 := [some (.ref 100), some (.int (nI p)), some (.int (nI x)), some (.int 1), some (.int 0)]) (st1 := []) (M1 := (mk_M (cT im le ln ys vt nu nn rf vw vq (yc.set a 0) yh yg) (kr (he, ke, ki, fi, fa, or, mi, a, g, l, w, s)) m kk q)) (fun f => rfl) ?_
    exact wc_climbL1 he ke ki fi fa or mi a g l w s im le ln ys vt nu nn rf kk q hA hC p x hp hx 25 0 1 vw vq (yc.set a 0) yh yg m (by omega) ⟨(by assumption), j1, by simp only [List.length_set]; assumption, by assumption, by assumption⟩ (by omega)
  | succ k IH =>
    intro j lo4 vw vq yc yh yg m hj hJ
    obtain ⟨j0, j1, j2, j3, j4⟩ := id hJ
    refine me_seg 2 (pc1 := 34) (ls1 := [some (.ref 100), some (.int (nI p)), some (.int (nI x)), some (.int (nI j)), lo4]) (st1 := [.int 25, .int (nI j)]) (M1 := (mk_M (cT im le ln ys vt nu nn rf vw vq yc yh yg) (kr (he, ke, ki, fi, fa, or, mi, a, g, l, w, s)) m kk q)) (fun f => rfl) ?_
    refine me_f (C := 25 ≤ (nI j)) (nI_lef (a := 25) (b := j) (by omega)) (fun f => rfl) ?_
    refine me_seg 4 (pc1 := 44) (ls1 := [some (.ref 100), some (.int (nI p)), some (.int (nI x)), some (.int (nI j)), lo4]) (st1 := [.int 1000000, .int (nI j), .ref 107]) (M1 := (mk_M (cT im le ln ys vt nu nn rf vw vq yc yh yg) (kr (he, ke, ki, fi, fa, or, mi, a, g, l, w, s)) m kk q)) (fun f => rfl) ?_
    refine me_stn (xs := yc) (ys := (yc.set j 1000000)) (M2 := (mk_M (cT im le ln ys vt nu nn rf vw vq (yc.set j 1000000) yh yg) (kr (he, ke, ki, fi, fa, or, mi, a, g, l, w, s)) m kk q)) rfl rfl (k := j) (by omega) (by first | omega | (simp only [List.length_set]; omega)) rfl rfl ?_
    refine me_seg 1 (pc1 := 48) (ls1 := [some (.ref 100), some (.int (nI p)), some (.int (nI x)), some (.int ((nI j) + 1)), lo4]) (st1 := []) (M1 := (mk_M (cT im le ln ys vt nu nn rf vw vq (yc.set j 1000000) yh yg) (kr (he, ke, ki, fi, fa, or, mi, a, g, l, w, s)) m kk q)) (fun f => rfl) ?_
    refine me_l (fun q_ => [some (.ref 100), some (.int (nI p)), some (.int (nI x)), some (.int q_), lo4]) (nI_add j 1) ?_
    refine me_seg 1 (pc1 := 31) (ls1 := [some (.ref 100), some (.int (nI p)), some (.int (nI x)), some (.int (nI (j + 1))), lo4]) (st1 := []) (M1 := (mk_M (cT im le ln ys vt nu nn rf vw vq (yc.set j 1000000) yh yg) (kr (he, ke, ki, fi, fa, or, mi, a, g, l, w, s)) m kk q)) (fun f => rfl) ?_
    exact IH (j + 1) (lo4) vw vq (yc.set j 1000000) yh yg m (by omega) ⟨(by assumption), j1, by simp only [List.length_set]; assumption, by assumption, by assumption⟩
set_option maxRecDepth 100000 in
theorem wc_climb (he ke ki fi fa or : List Nat) (mi a g l w s : Nat) (im : Nat) (le : List Nat) (ln : Nat) (ys : List Int32) (vt : Int32) (nu : List Nat) (nn : Nat) (rf : List Nat) (kk : kG) (q : cR) (hA : iA (he, ke, ki, fi, fa, or, mi, a, g, l, w, s)) (hC : iC nu nn) (vw vq : Int32) (yc yh yg : List Int32) (m : kG) (hJ : iJ m ys yc yh yg) (p x : Nat) (hp : p < 25) (hx : x < 2) : mm_E 86 0 [some (.ref 100), some (.int (nI p)), some (.int (nI x)), none, none] [] (mk_M (cT im le ln ys vt nu nn rf vw vq yc yh yg) (kr (he, ke, ki, fi, fa, or, mi, a, g, l, w, s)) m kk q) (pC isI (he, ke, ki, fi, fa, or, mi, a, g, l, w, s) im le ln ys vt nu nn rf kk q) := by
  obtain ⟨hV, hst⟩ := id hA
  have hst2 : s ≤ 999 := hst
  obtain ⟨v1, v2, v3, v4, v5, v6, v7, v8, v9, v10, v11, v12, v13, v14, v15, v16⟩ := id hV
  have v6l := kO_len mi v7 or v6
  obtain ⟨c1, c2, c3⟩ := id hC
  obtain ⟨j0, j1, j2, j3, j4⟩ := id hJ
  refine me_seg 1 (pc1 := 1) (ls1 := [some (.ref 100), some (.int (nI p)), some (.int (nI x)), none, none]) (st1 := [.int (nI p)]) (M1 := (mk_M (cT im le ln ys vt nu nn rf vw vq yc yh yg) (kr (he, ke, ki, fi, fa, or, mi, a, g, l, w, s)) m kk q)) (fun f => rfl) ?_
  refine me_call (y := 37) (y0 := 4) (L := [some (.int (nI p))]) (rest := []) (rr := some (.int 1)) (M1 := (mk_M (cT im le ln ys vt nu nn rf vw vq yc yh yg) (kr (he, ke, ki, fi, fa, or, mi, a, g, l, w, s)) m kk q)) (fun f => rfl) (ms_c1_ok (x := (nI p)) (nI_ltf (a := p) (b := 0) (by omega)) (nI_lef (a := 25) (b := p) (by omega))) ?_
  refine me_seg 2 (pc1 := 14) (ls1 := [some (.ref 100), some (.int (nI p)), some (.int (nI x)), none, none]) (st1 := [.int (nI x)]) (M1 := (mk_M (cT im le ln ys vt nu nn rf vw vq yc yh yg) (kr (he, ke, ki, fi, fa, or, mi, a, g, l, w, s)) m kk q)) (fun f => rfl) ?_
  refine me_f (C := (nI x) < 0) (nI_ltf (a := x) (b := 0) (by omega)) (fun f => rfl) ?_
  refine me_seg 2 (pc1 := 19) (ls1 := [some (.ref 100), some (.int (nI p)), some (.int (nI x)), none, none]) (st1 := [.int 1, .int (nI x)]) (M1 := (mk_M (cT im le ln ys vt nu nn rf vw vq yc yh yg) (kr (he, ke, ki, fi, fa, or, mi, a, g, l, w, s)) m kk q)) (fun f => rfl) ?_
  refine me_t (C := (nI x) ≤ 1) (nI_let (a := x) (b := 1) (by omega)) (fun f => rfl) ?_
  refine me_seg 2 (pc1 := 31) (ls1 := [some (.ref 100), some (.int (nI p)), some (.int (nI x)), some (.int 0), none]) (st1 := []) (M1 := (mk_M (cT im le ln ys vt nu nn rf vw vq yc yh yg) (kr (he, ke, ki, fi, fa, or, mi, a, g, l, w, s)) m kk q)) (fun f => rfl) ?_
  exact wc_climbL0 he ke ki fi fa or mi a g l w s im le ln ys vt nu nn rf kk q hA hC p x hp hx 25 0 none vw vq yc yh yg m (by omega) ⟨(by assumption), j1, by assumption, by assumption, by assumption⟩
set_option maxRecDepth 100000 in
theorem wc_pushL (he ke ki fi fa or : List Nat) (mi a g l w s : Nat) (im : Nat) (le : List Nat) (ln : Nat) (ys : List Int32) (vt : Int32) (nu : List Nat) (nn : Nat) (rf : List Nat) (kk : kG) (q : cR) (hA : iA (he, ke, ki, fi, fa, or, mi, a, g, l, w, s)) (hC : iC nu nn) (k : Nat) : ∀ (j : Nat) (lo2 : Option Value) (vw vq : Int32) (yc yh yg : List Int32) (m : kG), j + k = mi → iJ m ys yc yh yg → mm_E 88 16 [some (.ref 100), some (.int (nI j)), lo2] [] (mk_M (cT im le ln ys vt nu nn rf vw vq yc yh yg) (kr (he, ke, ki, fi, fa, or, mi, a, g, l, w, s)) m kk q) (pC isI (he, ke, ki, fi, fa, or, mi, a, g, l, w, s) im le ln ys vt nu nn rf kk q) := by
  obtain ⟨hV, hst⟩ := id hA
  have hst2 : s ≤ 999 := hst
  obtain ⟨v1, v2, v3, v4, v5, v6, v7, v8, v9, v10, v11, v12, v13, v14, v15, v16⟩ := id hV
  have v6l := kO_len mi v7 or v6
  obtain ⟨c1, c2, c3⟩ := id hC
  induction k with
  | zero =>
    intro j lo2 vw vq yc yh yg m hj hJ
    obtain ⟨j0, j1, j2, j3, j4⟩ := id hJ
    refine me_seg 4 (pc1 := 24) (ls1 := [some (.ref 100), some (.int (nI j)), lo2]) (st1 := [.int (nI mi), .int (nI j)]) (M1 := (mk_M (cT im le ln ys vt nu nn rf vw vq yc yh yg) (kr (he, ke, ki, fi, fa, or, mi, a, g, l, w, s)) m kk q)) (fun f => rfl) ?_
    refine me_t (C := (nI mi) ≤ (nI j)) (nI_let (a := mi) (b := j) (by omega)) (fun f => rfl) ?_
    refine me_ret 4 (r := some (.int vw)) (M1 := (mk_M (cT im le ln ys vt nu nn rf vw vq yc yh yg) (kr (he, ke, ki, fi, fa, or, mi, a, g, l, w, s)) m kk q)) (fun f => rfl) ?_
    exact ⟨⟨_, rfl⟩, _, _, _, _, _, _, rfl, ⟨(by assumption), j1, by assumption, by assumption, by assumption⟩⟩
  | succ k IH =>
    intro j lo2 vw vq yc yh yg m hj hJ
    obtain ⟨j0, j1, j2, j3, j4⟩ := id hJ
    refine me_seg 4 (pc1 := 24) (ls1 := [some (.ref 100), some (.int (nI j)), lo2]) (st1 := [.int (nI mi), .int (nI j)]) (M1 := (mk_M (cT im le ln ys vt nu nn rf vw vq yc yh yg) (kr (he, ke, ki, fi, fa, or, mi, a, g, l, w, s)) m kk q)) (fun f => rfl) ?_
    refine me_f (C := (nI mi) ≤ (nI j)) (nI_lef (a := mi) (b := j) (by omega)) (fun f => rfl) ?_
    refine me_seg 1 (pc1 := 28) (ls1 := [some (.ref 100), some (.int (nI j)), lo2]) (st1 := [.ref 100]) (M1 := (mk_M (cT im le ln ys vt nu nn rf vw vq yc yh yg) (kr (he, ke, ki, fi, fa, or, mi, a, g, l, w, s)) m kk q)) (fun f => rfl) ?_
    refine me_call (y := 75) (y0 := 31) (L := [some (.ref 100)]) (rest := []) (rr := some (.ref 124)) (M1 := (mk_M (cT im le ln ys vt nu nn rf vw vq yc yh yg) (kr (he, ke, ki, fi, fa, or, mi, a, g, l, w, s)) (kr (he, ke, ki, fi, fa, or, mi, a, g, l, w, s)) kk q)) (fun f => rfl) (cc_now (he, ke, ki, fi, fa, or, mi, a, g, l, w, s) (cT im le ln ys vt nu nn rf vw vq yc yh yg) m kk q hV (by assumption)) ?_
    refine me_seg 3 (pc1 := 34) (ls1 := [some (.ref 100), some (.int (nI j)), some (.ref 124)]) (st1 := [.int (nI j), .ref 124]) (M1 := (mk_M (cT im le ln ys vt nu nn rf vw vq yc yh yg) (kr (he, ke, ki, fi, fa, or, mi, a, g, l, w, s)) (kr (he, ke, ki, fi, fa, or, mi, a, g, l, w, s)) kk q)) (fun f => rfl) ?_
    refine me_call (y := 90) (y0 := 37) (L := [some (.ref 124), some (.int (nI j)), none, none]) (rest := []) (rr := none) (M1 := (mk_M (cT im le ln ys vt nu nn rf vw vq yc yh yg) (kr (he, ke, ki, fi, fa, or, mi, a, g, l, w, s)) (kr (kpf (he, ke, ki, fi, fa, or, mi, a, g, l, w, s) j)) kk q)) (fun f => rfl) (kl_m (cT im le ln ys vt nu nn rf vw vq yc yh yg) (kr (he, ke, ki, fi, fa, or, mi, a, g, l, w, s)) kk q (kc_pfQ (he, ke, ki, fi, fa, or, mi, a, g, l, w, s) j (show j < mi by omega) hV)) ?_
    refine me_seg 4 (pc1 := 43) (ls1 := [some (.ref 100), some (.int (nI j)), some (.ref 124)]) (st1 := [.ref 124, .int (nI j), .ref 106]) (M1 := (mk_M (cT im le ln ys vt nu nn rf vw vq yc yh yg) (kr (he, ke, ki, fi, fa, or, mi, a, g, l, w, s)) (kr (kpf (he, ke, ki, fi, fa, or, mi, a, g, l, w, s) j)) kk q)) (fun f => rfl) ?_
    refine me_call (y := 89) (y0 := 46) (L := [some (.ref 124)]) (rest := [.int (nI j), .ref 106]) (rr := some (.int (kN (kwa 60 0 (kpf (he, ke, ki, fi, fa, or, mi, a, g, l, w, s) j) g)))) (M1 := (mk_M (cT im le ln ys vt nu nn rf vw vq yc yh yg) (kr (he, ke, ki, fi, fa, or, mi, a, g, l, w, s)) (kr (kwaK 60 (kpf (he, ke, ki, fi, fa, or, mi, a, g, l, w, s) j) g)) kk q)) (fun f => rfl) (kl_m (cT im le ln ys vt nu nn rf vw vq yc yh yg) (kr (he, ke, ki, fi, fa, or, mi, a, g, l, w, s)) kk q (kc_wt (kpf (he, ke, ki, fi, fa, or, mi, a, g, l, w, s) j) (kV_pf hV (show j < mi by omega)) (show s < 2 ^ 20 by omega))) ?_
    generalize kN (kwa 60 0 (kpf (he, ke, ki, fi, fa, or, mi, a, g, l, w, s) j) g) = w_1
    refine me_call (y := 84) (y0 := 49) (L := [some (.ref 106), some (.int (nI j)), some (.int w_1)]) (rest := []) (rr := none) (M1 := (mk_M (cT im le ln ys vt nu nn rf (if w_1 < vq then (nI j) else vw) (if w_1 < vq then w_1 else vq) yc yh yg) (kr (he, ke, ki, fi, fa, or, mi, a, g, l, w, s)) (kr (kwaK 60 (kpf (he, ke, ki, fi, fa, or, mi, a, g, l, w, s) j) g)) kk q)) (fun f => rfl) (so_l im le ln ys vt nu nn rf yc yh yg (kr (he, ke, ki, fi, fa, or, mi, a, g, l, w, s)) (kr (kwaK 60 (kpf (he, ke, ki, fi, fa, or, mi, a, g, l, w, s) j) g)) kk q (cc_offr vw vq (nI j) w_1)) ?_
    refine me_seg 1 (pc1 := 52) (ls1 := [some (.ref 100), some (.int ((nI j) + 1)), some (.ref 124)]) (st1 := []) (M1 := (mk_M (cT im le ln ys vt nu nn rf (if w_1 < vq then (nI j) else vw) (if w_1 < vq then w_1 else vq) yc yh yg) (kr (he, ke, ki, fi, fa, or, mi, a, g, l, w, s)) (kr (kwaK 60 (kpf (he, ke, ki, fi, fa, or, mi, a, g, l, w, s) j) g)) kk q)) (fun f => rfl) ?_
    refine me_l (fun q_ => [some (.ref 100), some (.int q_), some (.ref 124)]) (nI_add j 1) ?_
    refine me_seg 1 (pc1 := 16) (ls1 := [some (.ref 100), some (.int (nI (j + 1))), some (.ref 124)]) (st1 := []) (M1 := (mk_M (cT im le ln ys vt nu nn rf (if w_1 < vq then (nI j) else vw) (if w_1 < vq then w_1 else vq) yc yh yg) (kr (he, ke, ki, fi, fa, or, mi, a, g, l, w, s)) (kr (kwaK 60 (kpf (he, ke, ki, fi, fa, or, mi, a, g, l, w, s) j) g)) kk q)) (fun f => rfl) ?_
    exact IH (j + 1) (some (.ref 124)) (if w_1 < vq then (nI j) else vw) (if w_1 < vq then w_1 else vq) yc yh yg (kr (kwaK 60 (kpf (he, ke, ki, fi, fa, or, mi, a, g, l, w, s) j) g)) (by omega) ⟨(kSh_r (kV_waK 60 g (kV_pf hV (show j < mi by omega)))), j1, by assumption, by assumption, by assumption⟩
set_option maxRecDepth 100000 in
theorem wc_push (he ke ki fi fa or : List Nat) (mi a g l w s : Nat) (im : Nat) (le : List Nat) (ln : Nat) (ys : List Int32) (vt : Int32) (nu : List Nat) (nn : Nat) (rf : List Nat) (kk : kG) (q : cR) (hA : iA (he, ke, ki, fi, fa, or, mi, a, g, l, w, s)) (hC : iC nu nn) (vw vq : Int32) (yc yh yg : List Int32) (m : kG) (hJ : iJ m ys yc yh yg) : mm_E 88 0 [some (.ref 100), none, none] [] (mk_M (cT im le ln ys vt nu nn rf vw vq yc yh yg) (kr (he, ke, ki, fi, fa, or, mi, a, g, l, w, s)) m kk q) (pC isI (he, ke, ki, fi, fa, or, mi, a, g, l, w, s) im le ln ys vt nu nn rf kk q) := by
  obtain ⟨hV, hst⟩ := id hA
  have hst2 : s ≤ 999 := hst
  obtain ⟨v1, v2, v3, v4, v5, v6, v7, v8, v9, v10, v11, v12, v13, v14, v15, v16⟩ := id hV
  have v6l := kO_len mi v7 or v6
  obtain ⟨c1, c2, c3⟩ := id hC
  obtain ⟨j0, j1, j2, j3, j4⟩ := id hJ
  refine me_seg 3 (pc1 := 5) (ls1 := [some (.ref 100), none, none]) (st1 := [.ref 100, .ref 106]) (M1 := (mk_M (cT im le ln ys vt nu nn rf vw vq yc yh yg) (kr (he, ke, ki, fi, fa, or, mi, a, g, l, w, s)) m kk q)) (fun f => rfl) ?_
  refine me_call (y := 75) (y0 := 8) (L := [some (.ref 100)]) (rest := [.ref 106]) (rr := some (.ref 124)) (M1 := (mk_M (cT im le ln ys vt nu nn rf vw vq yc yh yg) (kr (he, ke, ki, fi, fa, or, mi, a, g, l, w, s)) (kr (he, ke, ki, fi, fa, or, mi, a, g, l, w, s)) kk q)) (fun f => rfl) (cc_now (he, ke, ki, fi, fa, or, mi, a, g, l, w, s) (cT im le ln ys vt nu nn rf vw vq yc yh yg) m kk q hV (by assumption)) ?_
  refine me_call (y := 89) (y0 := 11) (L := [some (.ref 124)]) (rest := [.ref 106]) (rr := some (.int (kN (kwa 60 0 (he, ke, ki, fi, fa, or, mi, a, g, l, w, s) g)))) (M1 := (mk_M (cT im le ln ys vt nu nn rf vw vq yc yh yg) (kr (he, ke, ki, fi, fa, or, mi, a, g, l, w, s)) (kr (kwaK 60 (he, ke, ki, fi, fa, or, mi, a, g, l, w, s) g)) kk q)) (fun f => rfl) (kl_m (cT im le ln ys vt nu nn rf vw vq yc yh yg) (kr (he, ke, ki, fi, fa, or, mi, a, g, l, w, s)) kk q (kc_wt (he, ke, ki, fi, fa, or, mi, a, g, l, w, s) hV (show s < 2 ^ 20 by omega))) ?_
  generalize kN (kwa 60 0 (he, ke, ki, fi, fa, or, mi, a, g, l, w, s) g) = w_1
  refine me_call (y := 82) (y0 := 14) (L := [some (.ref 106), some (.int w_1)]) (rest := []) (rr := none) (M1 := (mk_M (cT im le ln ys vt nu nn rf (-9) w_1 yc yh yg) (kr (he, ke, ki, fi, fa, or, mi, a, g, l, w, s)) (kr (kwaK 60 (he, ke, ki, fi, fa, or, mi, a, g, l, w, s) g)) kk q)) (fun f => rfl) (by
      exact mr_ret 7 (fun f => rfl)) ?_
  refine me_seg 2 (pc1 := 16) (ls1 := [some (.ref 100), some (.int 0), none]) (st1 := []) (M1 := (mk_M (cT im le ln ys vt nu nn rf (-9) w_1 yc yh yg) (kr (he, ke, ki, fi, fa, or, mi, a, g, l, w, s)) (kr (kwaK 60 (he, ke, ki, fi, fa, or, mi, a, g, l, w, s) g)) kk q)) (fun f => rfl) ?_
  exact wc_pushL he ke ki fi fa or mi a g l w s im le ln ys vt nu nn rf kk q hA hC mi 0 none (-9) w_1 yc yh yg (kr (kwaK 60 (he, ke, ki, fi, fa, or, mi, a, g, l, w, s) g)) (by omega) ⟨(kSh_r (kV_waK 60 g hV)), j1, by assumption, by assumption, by assumption⟩
set_option maxRecDepth 100000 in
theorem wc_takeL (he ke ki fi fa or : List Nat) (mi a g l w s : Nat) (im : Nat) (le : List Nat) (ln : Nat) (ys : List Int32) (vt : Int32) (nu : List Nat) (nn : Nat) (rf : List Nat) (kk : kG) (q : cR) (hA : iA (he, ke, ki, fi, fa, or, mi, a, g, l, w, s)) (hC : iC nu nn) (k : Nat) : ∀ (j : Nat) (lo2 : Option Value) (vw vq : Int32) (yc yh yg : List Int32) (m : kG), j + k = 25 → iJ m ys yc yh yg → mm_E 91 16 [some (.ref 100), some (.int (nI j)), lo2] [] (mk_M (cT im le ln ys vt nu nn rf vw vq yc yh yg) (kr (he, ke, ki, fi, fa, or, mi, a, g, l, w, s)) m kk q) (pC isI (he, ke, ki, fi, fa, or, mi, a, g, l, w, s) im le ln ys vt nu nn rf kk q) := by
  obtain ⟨hV, hst⟩ := id hA
  have hst2 : s ≤ 999 := hst
  obtain ⟨v1, v2, v3, v4, v5, v6, v7, v8, v9, v10, v11, v12, v13, v14, v15, v16⟩ := id hV
  have v6l := kO_len mi v7 or v6
  obtain ⟨c1, c2, c3⟩ := id hC
  induction k with
  | zero =>
    intro j lo2 vw vq yc yh yg m hj hJ
    obtain ⟨j0, j1, j2, j3, j4⟩ := id hJ
    refine me_seg 2 (pc1 := 19) (ls1 := [some (.ref 100), some (.int (nI j)), lo2]) (st1 := [.int 25, .int (nI j)]) (M1 := (mk_M (cT im le ln ys vt nu nn rf vw vq yc yh yg) (kr (he, ke, ki, fi, fa, or, mi, a, g, l, w, s)) m kk q)) (fun f => rfl) ?_
    refine me_t (C := 25 ≤ (nI j)) (nI_let (a := 25) (b := j) (by omega)) (fun f => rfl) ?_
    refine me_ret 4 (r := some (.int vw)) (M1 := (mk_M (cT im le ln ys vt nu nn rf vw vq yc yh yg) (kr (he, ke, ki, fi, fa, or, mi, a, g, l, w, s)) m kk q)) (fun f => rfl) ?_
    exact ⟨⟨_, rfl⟩, _, _, _, _, _, _, rfl, ⟨(by assumption), j1, by assumption, by assumption, by assumption⟩⟩
  | succ k IH =>
    intro j lo2 vw vq yc yh yg m hj hJ
    obtain ⟨j0, j1, j2, j3, j4⟩ := id hJ
    refine me_seg 2 (pc1 := 19) (ls1 := [some (.ref 100), some (.int (nI j)), lo2]) (st1 := [.int 25, .int (nI j)]) (M1 := (mk_M (cT im le ln ys vt nu nn rf vw vq yc yh yg) (kr (he, ke, ki, fi, fa, or, mi, a, g, l, w, s)) m kk q)) (fun f => rfl) ?_
    refine me_f (C := 25 ≤ (nI j)) (nI_lef (a := 25) (b := j) (by omega)) (fun f => rfl) ?_
    refine me_seg 4 (pc1 := 30) (ls1 := [some (.ref 100), some (.int (nI j)), lo2]) (st1 := [.int (nI j), .ref 119]) (M1 := (mk_M (cT im le ln ys vt nu nn rf vw vq yc yh yg) (kr (he, ke, ki, fi, fa, or, mi, a, g, l, w, s)) m kk q)) (fun f => rfl) ?_
    refine me_ldn (xs := (ke.map nI)) rfl rfl (k := j) (by omega) (kg_ok (by omega)) ?_
    refine me_seg 1 (pc1 := 32) (ls1 := [some (.ref 100), some (.int (nI j)), lo2]) (st1 := [.int 1, .int (nI (kg ke j))]) (M1 := (mk_M (cT im le ln ys vt nu nn rf vw vq yc yh yg) (kr (he, ke, ki, fi, fa, or, mi, a, g, l, w, s)) m kk q)) (fun f => rfl) ?_
    refine me_if (C := (nI (kg ke j)) = 1) (fun f => rfl) (fun h1 => ?_) (fun h1 => ?_)
    · refine me_seg 1 (pc1 := 36) (ls1 := [some (.ref 100), some (.int (nI j)), lo2]) (st1 := [.ref 100]) (M1 := (mk_M (cT im le ln ys vt nu nn rf vw vq yc yh yg) (kr (he, ke, ki, fi, fa, or, mi, a, g, l, w, s)) m kk q)) (fun f => rfl) ?_
      refine me_call (y := 75) (y0 := 39) (L := [some (.ref 100)]) (rest := []) (rr := some (.ref 124)) (M1 := (mk_M (cT im le ln ys vt nu nn rf vw vq yc yh yg) (kr (he, ke, ki, fi, fa, or, mi, a, g, l, w, s)) (kr (he, ke, ki, fi, fa, or, mi, a, g, l, w, s)) kk q)) (fun f => rfl) (cc_now (he, ke, ki, fi, fa, or, mi, a, g, l, w, s) (cT im le ln ys vt nu nn rf vw vq yc yh yg) m kk q hV (by assumption)) ?_
      refine me_seg 5 (pc1 := 46) (ls1 := [some (.ref 100), some (.int (nI j)), some (.ref 124)]) (st1 := [.int 0, .int (nI j), .ref 126]) (M1 := (mk_M (cT im le ln ys vt nu nn rf vw vq yc yh yg) (kr (he, ke, ki, fi, fa, or, mi, a, g, l, w, s)) (kr (he, ke, ki, fi, fa, or, mi, a, g, l, w, s)) kk q)) (fun f => rfl) ?_
      refine me_stn (xs := (ke.map nI)) (ys := ((ke.set j 0).map nI)) (M2 := (mk_M (cT im le ln ys vt nu nn rf vw vq yc yh yg) (kr (he, ke, ki, fi, fa, or, mi, a, g, l, w, s)) (kr (he, ke.set j 0, ki, fi, fa, or, mi, a, g, l, w, s)) kk q)) rfl rfl (k := j) (by omega) (by simp only [List.length_map, List.length_set]; omega) ks_ok rfl ?_
      refine me_seg 4 (pc1 := 53) (ls1 := [some (.ref 100), some (.int (nI j)), some (.ref 124)]) (st1 := [.ref 124, .int (nI j), .ref 106]) (M1 := (mk_M (cT im le ln ys vt nu nn rf vw vq yc yh yg) (kr (he, ke, ki, fi, fa, or, mi, a, g, l, w, s)) (kr (he, ke.set j 0, ki, fi, fa, or, mi, a, g, l, w, s)) kk q)) (fun f => rfl) ?_
      refine me_call (y := 89) (y0 := 56) (L := [some (.ref 124)]) (rest := [.int (nI j), .ref 106]) (rr := some (.int (kN (kwa 60 0 (he, ke.set j 0, ki, fi, fa, or, mi, a, g, l, w, s) g)))) (M1 := (mk_M (cT im le ln ys vt nu nn rf vw vq yc yh yg) (kr (he, ke, ki, fi, fa, or, mi, a, g, l, w, s)) (kr (kwaK 60 (he, ke.set j 0, ki, fi, fa, or, mi, a, g, l, w, s) g)) kk q)) (fun f => rfl) (kl_m (cT im le ln ys vt nu nn rf vw vq yc yh yg) (kr (he, ke, ki, fi, fa, or, mi, a, g, l, w, s)) kk q (kc_wt (he, ke.set j 0, ki, fi, fa, or, mi, a, g, l, w, s) ⟨v1, by rw [List.length_set]; exact v2, v3, v4, v5, v6, v7, v8, v9, v10, v11, v12, fun i => by rw [kg_setc]; split; omega; exact v13 i, v14, v15, v16⟩ (show s < 2 ^ 20 by omega))) ?_
      generalize kN (kwa 60 0 (he, ke.set j 0, ki, fi, fa, or, mi, a, g, l, w, s) g) = w_2
      refine me_call (y := 84) (y0 := 59) (L := [some (.ref 106), some (.int (nI j)), some (.int w_2)]) (rest := []) (rr := none) (M1 := (mk_M (cT im le ln ys vt nu nn rf (if w_2 < vq then (nI j) else vw) (if w_2 < vq then w_2 else vq) yc yh yg) (kr (he, ke, ki, fi, fa, or, mi, a, g, l, w, s)) (kr (kwaK 60 (he, ke.set j 0, ki, fi, fa, or, mi, a, g, l, w, s) g)) kk q)) (fun f => rfl) (so_l im le ln ys vt nu nn rf yc yh yg (kr (he, ke, ki, fi, fa, or, mi, a, g, l, w, s)) (kr (kwaK 60 (he, ke.set j 0, ki, fi, fa, or, mi, a, g, l, w, s) g)) kk q (cc_offr vw vq (nI j) w_2)) ?_
      refine me_seg 1 (pc1 := 62) (ls1 := [some (.ref 100), some (.int ((nI j) + 1)), some (.ref 124)]) (st1 := []) (M1 := (mk_M (cT im le ln ys vt nu nn rf (if w_2 < vq then (nI j) else vw) (if w_2 < vq then w_2 else vq) yc yh yg) (kr (he, ke, ki, fi, fa, or, mi, a, g, l, w, s)) (kr (kwaK 60 (he, ke.set j 0, ki, fi, fa, or, mi, a, g, l, w, s) g)) kk q)) (fun f => rfl) ?_
      refine me_l (fun q_ => [some (.ref 100), some (.int q_), some (.ref 124)]) (nI_add j 1) ?_
      refine me_seg 1 (pc1 := 16) (ls1 := [some (.ref 100), some (.int (nI (j + 1))), some (.ref 124)]) (st1 := []) (M1 := (mk_M (cT im le ln ys vt nu nn rf (if w_2 < vq then (nI j) else vw) (if w_2 < vq then w_2 else vq) yc yh yg) (kr (he, ke, ki, fi, fa, or, mi, a, g, l, w, s)) (kr (kwaK 60 (he, ke.set j 0, ki, fi, fa, or, mi, a, g, l, w, s) g)) kk q)) (fun f => rfl) ?_
      exact IH (j + 1) (some (.ref 124)) (if w_2 < vq then (nI j) else vw) (if w_2 < vq then w_2 else vq) yc yh yg (kr (kwaK 60 (he, ke.set j 0, ki, fi, fa, or, mi, a, g, l, w, s) g)) (by omega) ⟨(kSh_r (kV_waK 60 g ⟨v1, by rw [List.length_set]; exact v2, v3, v4, v5, v6, v7, v8, v9, v10, v11, v12, fun i => by rw [kg_setc]; split; omega; exact v13 i, v14, v15, v16⟩)), j1, by assumption, by assumption, by assumption⟩
    · refine me_seg 1 (pc1 := 62) (ls1 := [some (.ref 100), some (.int ((nI j) + 1)), lo2]) (st1 := []) (M1 := (mk_M (cT im le ln ys vt nu nn rf vw vq yc yh yg) (kr (he, ke, ki, fi, fa, or, mi, a, g, l, w, s)) m kk q)) (fun f => rfl) ?_
      refine me_l (fun q_ => [some (.ref 100), some (.int q_), lo2]) (nI_add j 1) ?_
      refine me_seg 1 (pc1 := 16) (ls1 := [some (.ref 100), some (.int (nI (j + 1))), lo2]) (st1 := []) (M1 := (mk_M (cT im le ln ys vt nu nn rf vw vq yc yh yg) (kr (he, ke, ki, fi, fa, or, mi, a, g, l, w, s)) m kk q)) (fun f => rfl) ?_
      exact IH (j + 1) (lo2) vw vq yc yh yg m (by omega) ⟨(by assumption), j1, by assumption, by assumption, by assumption⟩
set_option maxRecDepth 100000 in
theorem wc_take (he ke ki fi fa or : List Nat) (mi a g l w s : Nat) (im : Nat) (le : List Nat) (ln : Nat) (ys : List Int32) (vt : Int32) (nu : List Nat) (nn : Nat) (rf : List Nat) (kk : kG) (q : cR) (hA : iA (he, ke, ki, fi, fa, or, mi, a, g, l, w, s)) (hC : iC nu nn) (vw vq : Int32) (yc yh yg : List Int32) (m : kG) (hJ : iJ m ys yc yh yg) : mm_E 91 0 [some (.ref 100), none, none] [] (mk_M (cT im le ln ys vt nu nn rf vw vq yc yh yg) (kr (he, ke, ki, fi, fa, or, mi, a, g, l, w, s)) m kk q) (pC isI (he, ke, ki, fi, fa, or, mi, a, g, l, w, s) im le ln ys vt nu nn rf kk q) := by
  obtain ⟨hV, hst⟩ := id hA
  have hst2 : s ≤ 999 := hst
  obtain ⟨v1, v2, v3, v4, v5, v6, v7, v8, v9, v10, v11, v12, v13, v14, v15, v16⟩ := id hV
  have v6l := kO_len mi v7 or v6
  obtain ⟨c1, c2, c3⟩ := id hC
  obtain ⟨j0, j1, j2, j3, j4⟩ := id hJ
  refine me_seg 3 (pc1 := 5) (ls1 := [some (.ref 100), none, none]) (st1 := [.ref 100, .ref 106]) (M1 := (mk_M (cT im le ln ys vt nu nn rf vw vq yc yh yg) (kr (he, ke, ki, fi, fa, or, mi, a, g, l, w, s)) m kk q)) (fun f => rfl) ?_
  refine me_call (y := 75) (y0 := 8) (L := [some (.ref 100)]) (rest := [.ref 106]) (rr := some (.ref 124)) (M1 := (mk_M (cT im le ln ys vt nu nn rf vw vq yc yh yg) (kr (he, ke, ki, fi, fa, or, mi, a, g, l, w, s)) (kr (he, ke, ki, fi, fa, or, mi, a, g, l, w, s)) kk q)) (fun f => rfl) (cc_now (he, ke, ki, fi, fa, or, mi, a, g, l, w, s) (cT im le ln ys vt nu nn rf vw vq yc yh yg) m kk q hV (by assumption)) ?_
  refine me_call (y := 89) (y0 := 11) (L := [some (.ref 124)]) (rest := [.ref 106]) (rr := some (.int (kN (kwa 60 0 (he, ke, ki, fi, fa, or, mi, a, g, l, w, s) g)))) (M1 := (mk_M (cT im le ln ys vt nu nn rf vw vq yc yh yg) (kr (he, ke, ki, fi, fa, or, mi, a, g, l, w, s)) (kr (kwaK 60 (he, ke, ki, fi, fa, or, mi, a, g, l, w, s) g)) kk q)) (fun f => rfl) (kl_m (cT im le ln ys vt nu nn rf vw vq yc yh yg) (kr (he, ke, ki, fi, fa, or, mi, a, g, l, w, s)) kk q (kc_wt (he, ke, ki, fi, fa, or, mi, a, g, l, w, s) hV (show s < 2 ^ 20 by omega))) ?_
  generalize kN (kwa 60 0 (he, ke, ki, fi, fa, or, mi, a, g, l, w, s) g) = w_1
  refine me_call (y := 82) (y0 := 14) (L := [some (.ref 106), some (.int w_1)]) (rest := []) (rr := none) (M1 := (mk_M (cT im le ln ys vt nu nn rf (-9) w_1 yc yh yg) (kr (he, ke, ki, fi, fa, or, mi, a, g, l, w, s)) (kr (kwaK 60 (he, ke, ki, fi, fa, or, mi, a, g, l, w, s) g)) kk q)) (fun f => rfl) (by
      exact mr_ret 7 (fun f => rfl)) ?_
  refine me_seg 2 (pc1 := 16) (ls1 := [some (.ref 100), some (.int 0), none]) (st1 := []) (M1 := (mk_M (cT im le ln ys vt nu nn rf (-9) w_1 yc yh yg) (kr (he, ke, ki, fi, fa, or, mi, a, g, l, w, s)) (kr (kwaK 60 (he, ke, ki, fi, fa, or, mi, a, g, l, w, s) g)) kk q)) (fun f => rfl) ?_
  exact wc_takeL he ke ki fi fa or mi a g l w s im le ln ys vt nu nn rf kk q hA hC 25 0 none (-9) w_1 yc yh yg (kr (kwaK 60 (he, ke, ki, fi, fa, or, mi, a, g, l, w, s) g)) (by omega) ⟨(kSh_r (kV_waK 60 g hV)), j1, by assumption, by assumption, by assumption⟩
set_option maxRecDepth 100000 in
theorem wc_flatL (he ke ki fi fa or : List Nat) (mi a g l w s : Nat) (im : Nat) (le : List Nat) (ln : Nat) (ys : List Int32) (vt : Int32) (nu : List Nat) (nn : Nat) (rf : List Nat) (kk : kG) (q : cR) (hA : iA (he, ke, ki, fi, fa, or, mi, a, g, l, w, s)) (hC : iC nu nn) (k : Nat) : ∀ (j : Nat) (lo2 : Option Value) (vw vq : Int32) (yc yh yg : List Int32) (m : kG), j + k = 25 → iJ m ys yc yh yg → mm_E 92 16 [some (.ref 100), some (.int (nI j)), lo2] [] (mk_M (cT im le ln ys vt nu nn rf vw vq yc yh yg) (kr (he, ke, ki, fi, fa, or, mi, a, g, l, w, s)) m kk q) (pC isI (he, ke, ki, fi, fa, or, mi, a, g, l, w, s) im le ln ys vt nu nn rf kk q) := by
  obtain ⟨hV, hst⟩ := id hA
  have hst2 : s ≤ 999 := hst
  obtain ⟨v1, v2, v3, v4, v5, v6, v7, v8, v9, v10, v11, v12, v13, v14, v15, v16⟩ := id hV
  have v6l := kO_len mi v7 or v6
  obtain ⟨c1, c2, c3⟩ := id hC
  induction k with
  | zero =>
    intro j lo2 vw vq yc yh yg m hj hJ
    obtain ⟨j0, j1, j2, j3, j4⟩ := id hJ
    refine me_seg 2 (pc1 := 19) (ls1 := [some (.ref 100), some (.int (nI j)), lo2]) (st1 := [.int 25, .int (nI j)]) (M1 := (mk_M (cT im le ln ys vt nu nn rf vw vq yc yh yg) (kr (he, ke, ki, fi, fa, or, mi, a, g, l, w, s)) m kk q)) (fun f => rfl) ?_
    refine me_t (C := 25 ≤ (nI j)) (nI_let (a := 25) (b := j) (by omega)) (fun f => rfl) ?_
    refine me_ret 4 (r := some (.int vw)) (M1 := (mk_M (cT im le ln ys vt nu nn rf vw vq yc yh yg) (kr (he, ke, ki, fi, fa, or, mi, a, g, l, w, s)) m kk q)) (fun f => rfl) ?_
    exact ⟨⟨_, rfl⟩, _, _, _, _, _, _, rfl, ⟨(by assumption), j1, by assumption, by assumption, by assumption⟩⟩
  | succ k IH =>
    intro j lo2 vw vq yc yh yg m hj hJ
    obtain ⟨j0, j1, j2, j3, j4⟩ := id hJ
    refine me_seg 2 (pc1 := 19) (ls1 := [some (.ref 100), some (.int (nI j)), lo2]) (st1 := [.int 25, .int (nI j)]) (M1 := (mk_M (cT im le ln ys vt nu nn rf vw vq yc yh yg) (kr (he, ke, ki, fi, fa, or, mi, a, g, l, w, s)) m kk q)) (fun f => rfl) ?_
    refine me_f (C := 25 ≤ (nI j)) (nI_lef (a := 25) (b := j) (by omega)) (fun f => rfl) ?_
    refine me_seg 1 (pc1 := 23) (ls1 := [some (.ref 100), some (.int (nI j)), lo2]) (st1 := [.ref 100]) (M1 := (mk_M (cT im le ln ys vt nu nn rf vw vq yc yh yg) (kr (he, ke, ki, fi, fa, or, mi, a, g, l, w, s)) m kk q)) (fun f => rfl) ?_
    refine me_call (y := 75) (y0 := 26) (L := [some (.ref 100)]) (rest := []) (rr := some (.ref 124)) (M1 := (mk_M (cT im le ln ys vt nu nn rf vw vq yc yh yg) (kr (he, ke, ki, fi, fa, or, mi, a, g, l, w, s)) (kr (he, ke, ki, fi, fa, or, mi, a, g, l, w, s)) kk q)) (fun f => rfl) (cc_now (he, ke, ki, fi, fa, or, mi, a, g, l, w, s) (cT im le ln ys vt nu nn rf vw vq yc yh yg) m kk q hV (by assumption)) ?_
    refine me_seg 5 (pc1 := 33) (ls1 := [some (.ref 100), some (.int (nI j)), some (.ref 124)]) (st1 := [.int 0, .int (nI j), .ref 125]) (M1 := (mk_M (cT im le ln ys vt nu nn rf vw vq yc yh yg) (kr (he, ke, ki, fi, fa, or, mi, a, g, l, w, s)) (kr (he, ke, ki, fi, fa, or, mi, a, g, l, w, s)) kk q)) (fun f => rfl) ?_
    refine me_stn (xs := (he.map nI)) (ys := ((he.set j 0).map nI)) (M2 := (mk_M (cT im le ln ys vt nu nn rf vw vq yc yh yg) (kr (he, ke, ki, fi, fa, or, mi, a, g, l, w, s)) (kr (he.set j 0, ke, ki, fi, fa, or, mi, a, g, l, w, s)) kk q)) rfl rfl (k := j) (by omega) (by simp only [List.length_map, List.length_set]; omega) ks_ok rfl ?_
    refine me_seg 4 (pc1 := 40) (ls1 := [some (.ref 100), some (.int (nI j)), some (.ref 124)]) (st1 := [.ref 124, .int (nI j), .ref 106]) (M1 := (mk_M (cT im le ln ys vt nu nn rf vw vq yc yh yg) (kr (he, ke, ki, fi, fa, or, mi, a, g, l, w, s)) (kr (he.set j 0, ke, ki, fi, fa, or, mi, a, g, l, w, s)) kk q)) (fun f => rfl) ?_
    refine me_call (y := 89) (y0 := 43) (L := [some (.ref 124)]) (rest := [.int (nI j), .ref 106]) (rr := some (.int (kN (kwa 60 0 (he.set j 0, ke, ki, fi, fa, or, mi, a, g, l, w, s) g)))) (M1 := (mk_M (cT im le ln ys vt nu nn rf vw vq yc yh yg) (kr (he, ke, ki, fi, fa, or, mi, a, g, l, w, s)) (kr (kwaK 60 (he.set j 0, ke, ki, fi, fa, or, mi, a, g, l, w, s) g)) kk q)) (fun f => rfl) (kl_m (cT im le ln ys vt nu nn rf vw vq yc yh yg) (kr (he, ke, ki, fi, fa, or, mi, a, g, l, w, s)) kk q (kc_wt (he.set j 0, ke, ki, fi, fa, or, mi, a, g, l, w, s) ⟨by rw [List.length_set]; exact v1, v2, v3, v4, v5, v6, v7, v8, v9, v10, v11, fun i => by rw [kg_setc]; split; omega; exact v12 i, v13, v14, v15, v16⟩ (show s < 2 ^ 20 by omega))) ?_
    generalize kN (kwa 60 0 (he.set j 0, ke, ki, fi, fa, or, mi, a, g, l, w, s) g) = w_1
    refine me_call (y := 84) (y0 := 46) (L := [some (.ref 106), some (.int (nI j)), some (.int w_1)]) (rest := []) (rr := none) (M1 := (mk_M (cT im le ln ys vt nu nn rf (if w_1 < vq then (nI j) else vw) (if w_1 < vq then w_1 else vq) yc yh yg) (kr (he, ke, ki, fi, fa, or, mi, a, g, l, w, s)) (kr (kwaK 60 (he.set j 0, ke, ki, fi, fa, or, mi, a, g, l, w, s) g)) kk q)) (fun f => rfl) (so_l im le ln ys vt nu nn rf yc yh yg (kr (he, ke, ki, fi, fa, or, mi, a, g, l, w, s)) (kr (kwaK 60 (he.set j 0, ke, ki, fi, fa, or, mi, a, g, l, w, s) g)) kk q (cc_offr vw vq (nI j) w_1)) ?_
    refine me_seg 1 (pc1 := 49) (ls1 := [some (.ref 100), some (.int ((nI j) + 1)), some (.ref 124)]) (st1 := []) (M1 := (mk_M (cT im le ln ys vt nu nn rf (if w_1 < vq then (nI j) else vw) (if w_1 < vq then w_1 else vq) yc yh yg) (kr (he, ke, ki, fi, fa, or, mi, a, g, l, w, s)) (kr (kwaK 60 (he.set j 0, ke, ki, fi, fa, or, mi, a, g, l, w, s) g)) kk q)) (fun f => rfl) ?_
    refine me_l (fun q_ => [some (.ref 100), some (.int q_), some (.ref 124)]) (nI_add j 1) ?_
    refine me_seg 1 (pc1 := 16) (ls1 := [some (.ref 100), some (.int (nI (j + 1))), some (.ref 124)]) (st1 := []) (M1 := (mk_M (cT im le ln ys vt nu nn rf (if w_1 < vq then (nI j) else vw) (if w_1 < vq then w_1 else vq) yc yh yg) (kr (he, ke, ki, fi, fa, or, mi, a, g, l, w, s)) (kr (kwaK 60 (he.set j 0, ke, ki, fi, fa, or, mi, a, g, l, w, s) g)) kk q)) (fun f => rfl) ?_
    exact IH (j + 1) (some (.ref 124)) (if w_1 < vq then (nI j) else vw) (if w_1 < vq then w_1 else vq) yc yh yg (kr (kwaK 60 (he.set j 0, ke, ki, fi, fa, or, mi, a, g, l, w, s) g)) (by omega) ⟨(kSh_r (kV_waK 60 g ⟨by rw [List.length_set]; exact v1, v2, v3, v4, v5, v6, v7, v8, v9, v10, v11, fun i => by rw [kg_setc]; split; omega; exact v12 i, v13, v14, v15, v16⟩)), j1, by assumption, by assumption, by assumption⟩
set_option maxRecDepth 100000 in
theorem wc_flat (he ke ki fi fa or : List Nat) (mi a g l w s : Nat) (im : Nat) (le : List Nat) (ln : Nat) (ys : List Int32) (vt : Int32) (nu : List Nat) (nn : Nat) (rf : List Nat) (kk : kG) (q : cR) (hA : iA (he, ke, ki, fi, fa, or, mi, a, g, l, w, s)) (hC : iC nu nn) (vw vq : Int32) (yc yh yg : List Int32) (m : kG) (hJ : iJ m ys yc yh yg) : mm_E 92 0 [some (.ref 100), none, none] [] (mk_M (cT im le ln ys vt nu nn rf vw vq yc yh yg) (kr (he, ke, ki, fi, fa, or, mi, a, g, l, w, s)) m kk q) (pC isI (he, ke, ki, fi, fa, or, mi, a, g, l, w, s) im le ln ys vt nu nn rf kk q) := by
  obtain ⟨hV, hst⟩ := id hA
  have hst2 : s ≤ 999 := hst
  obtain ⟨v1, v2, v3, v4, v5, v6, v7, v8, v9, v10, v11, v12, v13, v14, v15, v16⟩ := id hV
  have v6l := kO_len mi v7 or v6
  obtain ⟨c1, c2, c3⟩ := id hC
  obtain ⟨j0, j1, j2, j3, j4⟩ := id hJ
  refine me_seg 3 (pc1 := 5) (ls1 := [some (.ref 100), none, none]) (st1 := [.ref 100, .ref 106]) (M1 := (mk_M (cT im le ln ys vt nu nn rf vw vq yc yh yg) (kr (he, ke, ki, fi, fa, or, mi, a, g, l, w, s)) m kk q)) (fun f => rfl) ?_
  refine me_call (y := 75) (y0 := 8) (L := [some (.ref 100)]) (rest := [.ref 106]) (rr := some (.ref 124)) (M1 := (mk_M (cT im le ln ys vt nu nn rf vw vq yc yh yg) (kr (he, ke, ki, fi, fa, or, mi, a, g, l, w, s)) (kr (he, ke, ki, fi, fa, or, mi, a, g, l, w, s)) kk q)) (fun f => rfl) (cc_now (he, ke, ki, fi, fa, or, mi, a, g, l, w, s) (cT im le ln ys vt nu nn rf vw vq yc yh yg) m kk q hV (by assumption)) ?_
  refine me_call (y := 89) (y0 := 11) (L := [some (.ref 124)]) (rest := [.ref 106]) (rr := some (.int (kN (kwa 60 0 (he, ke, ki, fi, fa, or, mi, a, g, l, w, s) g)))) (M1 := (mk_M (cT im le ln ys vt nu nn rf vw vq yc yh yg) (kr (he, ke, ki, fi, fa, or, mi, a, g, l, w, s)) (kr (kwaK 60 (he, ke, ki, fi, fa, or, mi, a, g, l, w, s) g)) kk q)) (fun f => rfl) (kl_m (cT im le ln ys vt nu nn rf vw vq yc yh yg) (kr (he, ke, ki, fi, fa, or, mi, a, g, l, w, s)) kk q (kc_wt (he, ke, ki, fi, fa, or, mi, a, g, l, w, s) hV (show s < 2 ^ 20 by omega))) ?_
  generalize kN (kwa 60 0 (he, ke, ki, fi, fa, or, mi, a, g, l, w, s) g) = w_1
  refine me_call (y := 82) (y0 := 14) (L := [some (.ref 106), some (.int w_1)]) (rest := []) (rr := none) (M1 := (mk_M (cT im le ln ys vt nu nn rf (-9) w_1 yc yh yg) (kr (he, ke, ki, fi, fa, or, mi, a, g, l, w, s)) (kr (kwaK 60 (he, ke, ki, fi, fa, or, mi, a, g, l, w, s) g)) kk q)) (fun f => rfl) (by
      exact mr_ret 7 (fun f => rfl)) ?_
  refine me_seg 2 (pc1 := 16) (ls1 := [some (.ref 100), some (.int 0), none]) (st1 := []) (M1 := (mk_M (cT im le ln ys vt nu nn rf (-9) w_1 yc yh yg) (kr (he, ke, ki, fi, fa, or, mi, a, g, l, w, s)) (kr (kwaK 60 (he, ke, ki, fi, fa, or, mi, a, g, l, w, s) g)) kk q)) (fun f => rfl) ?_
  exact wc_flatL he ke ki fi fa or mi a g l w s im le ln ys vt nu nn rf kk q hA hC 25 0 none (-9) w_1 yc yh yg (kr (kwaK 60 (he, ke, ki, fi, fa, or, mi, a, g, l, w, s) g)) (by omega) ⟨(kSh_r (kV_waK 60 g hV)), j1, by assumption, by assumption, by assumption⟩
set_option maxRecDepth 100000 in
theorem wc_startL (he ke ki fi fa or : List Nat) (mi a g l w s : Nat) (im : Nat) (le : List Nat) (ln : Nat) (ys : List Int32) (vt : Int32) (nu : List Nat) (nn : Nat) (rf : List Nat) (kk : kG) (q : cR) (hA : iA (he, ke, ki, fi, fa, or, mi, a, g, l, w, s)) (hC : iC nu nn) (x : Nat) (hx : x < 2) (k : Nat) : ∀ (j : Nat) (lo3 : Option Value) (vw vq : Int32) (yc yh yg : List Int32) (m : kG), j + k = 25 → iJ m ys yc yh yg → mm_E 94 27 [some (.ref 100), some (.int (nI x)), some (.int (nI j)), lo3] [] (mk_M (cT im le ln ys vt nu nn rf vw vq yc yh yg) (kr (he, ke, ki, fi, fa, or, mi, a, g, l, w, s)) m kk q) (pC isI (he, ke, ki, fi, fa, or, mi, a, g, l, w, s) im le ln ys vt nu nn rf kk q) := by
  obtain ⟨hV, hst⟩ := id hA
  have hst2 : s ≤ 999 := hst
  obtain ⟨v1, v2, v3, v4, v5, v6, v7, v8, v9, v10, v11, v12, v13, v14, v15, v16⟩ := id hV
  have v6l := kO_len mi v7 or v6
  obtain ⟨c1, c2, c3⟩ := id hC
  induction k with
  | zero =>
    intro j lo3 vw vq yc yh yg m hj hJ
    obtain ⟨j0, j1, j2, j3, j4⟩ := id hJ
    refine me_seg 2 (pc1 := 30) (ls1 := [some (.ref 100), some (.int (nI x)), some (.int (nI j)), lo3]) (st1 := [.int 25, .int (nI j)]) (M1 := (mk_M (cT im le ln ys vt nu nn rf vw vq yc yh yg) (kr (he, ke, ki, fi, fa, or, mi, a, g, l, w, s)) m kk q)) (fun f => rfl) ?_
    refine me_t (C := 25 ≤ (nI j)) (nI_let (a := 25) (b := j) (by omega)) (fun f => rfl) ?_
    refine me_seg 1 (pc1 := 73) (ls1 := [some (.ref 100), some (.int (nI x)), some (.int (nI j)), lo3]) (st1 := [.int (nI x)]) (M1 := (mk_M (cT im le ln ys vt nu nn rf vw vq yc yh yg) (kr (he, ke, ki, fi, fa, or, mi, a, g, l, w, s)) m kk q)) (fun f => rfl) ?_
    refine me_if (C := (nI x) = 0) (fun f => rfl) (fun h1 => ?_) (fun h1 => ?_)
    · refine me_ret 5 (r := some (.int vw)) (M1 := (mk_M (cT im le ln ys vt nu nn rf vw vq yc yh yg) (kr (he, ke, ki, fi, fa, or, mi, a, g, l, w, s)) m kk q)) (fun f => rfl) ?_
      exact ⟨⟨_, rfl⟩, _, _, _, _, _, _, rfl, ⟨(by assumption), j1, by assumption, by assumption, by assumption⟩⟩
    · refine me_seg 2 (pc1 := 90) (ls1 := [some (.ref 100), some (.int (nI x)), some (.int (nI j)), lo3]) (st1 := [.ref 106]) (M1 := (mk_M (cT im le ln ys vt nu nn rf vw vq yc yh yg) (kr (he, ke, ki, fi, fa, or, mi, a, g, l, w, s)) m kk q)) (fun f => rfl) ?_
      refine me_call (y := 95) (y0 := 93) (L := [some (.ref 106)]) (rest := []) (rr := some (.int (if vw = -9 then -9 else vq))) (M1 := (mk_M (cT im le ln ys vt nu nn rf vw vq yc yh yg) (kr (he, ke, ki, fi, fa, or, mi, a, g, l, w, s)) m kk q)) (fun f => rfl) (so_l im le ln ys vt nu nn rf yc yh yg (kr (he, ke, ki, fi, fa, or, mi, a, g, l, w, s)) m kk q (cc_won vw vq)) ?_
      refine me_ret 1 (r := some (.int (if vw = -9 then -9 else vq))) (M1 := (mk_M (cT im le ln ys vt nu nn rf vw vq yc yh yg) (kr (he, ke, ki, fi, fa, or, mi, a, g, l, w, s)) m kk q)) (fun f => rfl) ?_
      exact ⟨⟨_, rfl⟩, _, _, _, _, _, _, rfl, ⟨(by assumption), j1, by assumption, by assumption, by assumption⟩⟩
  | succ k IH =>
    intro j lo3 vw vq yc yh yg m hj hJ
    obtain ⟨j0, j1, j2, j3, j4⟩ := id hJ
    refine me_seg 2 (pc1 := 30) (ls1 := [some (.ref 100), some (.int (nI x)), some (.int (nI j)), lo3]) (st1 := [.int 25, .int (nI j)]) (M1 := (mk_M (cT im le ln ys vt nu nn rf vw vq yc yh yg) (kr (he, ke, ki, fi, fa, or, mi, a, g, l, w, s)) m kk q)) (fun f => rfl) ?_
    refine me_f (C := 25 ≤ (nI j)) (nI_lef (a := 25) (b := j) (by omega)) (fun f => rfl) ?_
    refine me_seg 4 (pc1 := 41) (ls1 := [some (.ref 100), some (.int (nI x)), some (.int (nI j)), lo3]) (st1 := [.int (nI g), .int (nI j)]) (M1 := (mk_M (cT im le ln ys vt nu nn rf vw vq yc yh yg) (kr (he, ke, ki, fi, fa, or, mi, a, g, l, w, s)) m kk q)) (fun f => rfl) ?_
    refine me_if (C := (nI j) = (nI g)) (fun f => rfl) (fun h1 => ?_) (fun h1 => ?_)
    · refine me_seg 1 (pc1 := 69) (ls1 := [some (.ref 100), some (.int (nI x)), some (.int ((nI j) + 1)), lo3]) (st1 := []) (M1 := (mk_M (cT im le ln ys vt nu nn rf vw vq yc yh yg) (kr (he, ke, ki, fi, fa, or, mi, a, g, l, w, s)) m kk q)) (fun f => rfl) ?_
      refine me_l (fun q_ => [some (.ref 100), some (.int (nI x)), some (.int q_), lo3]) (nI_add j 1) ?_
      refine me_seg 1 (pc1 := 27) (ls1 := [some (.ref 100), some (.int (nI x)), some (.int (nI (j + 1))), lo3]) (st1 := []) (M1 := (mk_M (cT im le ln ys vt nu nn rf vw vq yc yh yg) (kr (he, ke, ki, fi, fa, or, mi, a, g, l, w, s)) m kk q)) (fun f => rfl) ?_
      exact IH (j + 1) (lo3) vw vq yc yh yg m (by omega) ⟨(by assumption), j1, by assumption, by assumption, by assumption⟩
    · refine me_seg 1 (pc1 := 45) (ls1 := [some (.ref 100), some (.int (nI x)), some (.int (nI j)), lo3]) (st1 := [.ref 100]) (M1 := (mk_M (cT im le ln ys vt nu nn rf vw vq yc yh yg) (kr (he, ke, ki, fi, fa, or, mi, a, g, l, w, s)) m kk q)) (fun f => rfl) ?_
      refine me_call (y := 75) (y0 := 48) (L := [some (.ref 100)]) (rest := []) (rr := some (.ref 124)) (M1 := (mk_M (cT im le ln ys vt nu nn rf vw vq yc yh yg) (kr (he, ke, ki, fi, fa, or, mi, a, g, l, w, s)) (kr (he, ke, ki, fi, fa, or, mi, a, g, l, w, s)) kk q)) (fun f => rfl) (cc_now (he, ke, ki, fi, fa, or, mi, a, g, l, w, s) (cT im le ln ys vt nu nn rf vw vq yc yh yg) m kk q hV (by assumption)) ?_
      refine me_seg 4 (pc1 := 54) (ls1 := [some (.ref 100), some (.int (nI x)), some (.int (nI j)), some (.ref 124)]) (st1 := []) (M1 := (mk_Mm (cT im le ln ys vt nu nn rf vw vq yc yh yg) (kr (he, ke, ki, fi, fa, or, mi, a, g, l, w, s)) (he.map nI) (ke.map nI) (ki.map nI) (fi.map nI) (fa.map nI) (or.map nI) (nI mi) (nI j) (nI g) (nI l) (nI w) (nI s) kk q)) (fun f => rfl) ?_
      refine me_M (mk_Mk (cT im le ln ys vt nu nn rf vw vq yc yh yg) (kr (he, ke, ki, fi, fa, or, mi, a, g, l, w, s)) he ke ki fi fa or mi j g l w s kk q) ?_
      refine me_seg 4 (pc1 := 60) (ls1 := [some (.ref 100), some (.int (nI x)), some (.int (nI j)), some (.ref 124)]) (st1 := [.ref 124, .int (nI j), .ref 106]) (M1 := (mk_M (cT im le ln ys vt nu nn rf vw vq yc yh yg) (kr (he, ke, ki, fi, fa, or, mi, a, g, l, w, s)) (kr (he, ke, ki, fi, fa, or, mi, j, g, l, w, s)) kk q)) (fun f => rfl) ?_
      refine me_call (y := 89) (y0 := 63) (L := [some (.ref 124)]) (rest := [.int (nI j), .ref 106]) (rr := some (.int (kN (kwa 60 0 (he, ke, ki, fi, fa, or, mi, j, g, l, w, s) g)))) (M1 := (mk_M (cT im le ln ys vt nu nn rf vw vq yc yh yg) (kr (he, ke, ki, fi, fa, or, mi, a, g, l, w, s)) (kr (kwaK 60 (he, ke, ki, fi, fa, or, mi, j, g, l, w, s) g)) kk q)) (fun f => rfl) (kl_m (cT im le ln ys vt nu nn rf vw vq yc yh yg) (kr (he, ke, ki, fi, fa, or, mi, a, g, l, w, s)) kk q (kc_wt (he, ke, ki, fi, fa, or, mi, j, g, l, w, s) ⟨v1, v2, v3, v4, v5, v6, v7, by omega, v9, v10, v11, v12, v13, v14, v15, v16⟩ (show s < 2 ^ 20 by omega))) ?_
      generalize kN (kwa 60 0 (he, ke, ki, fi, fa, or, mi, j, g, l, w, s) g) = w_2
      refine me_call (y := 84) (y0 := 66) (L := [some (.ref 106), some (.int (nI j)), some (.int w_2)]) (rest := []) (rr := none) (M1 := (mk_M (cT im le ln ys vt nu nn rf (if w_2 < vq then (nI j) else vw) (if w_2 < vq then w_2 else vq) yc yh yg) (kr (he, ke, ki, fi, fa, or, mi, a, g, l, w, s)) (kr (kwaK 60 (he, ke, ki, fi, fa, or, mi, j, g, l, w, s) g)) kk q)) (fun f => rfl) (so_l im le ln ys vt nu nn rf yc yh yg (kr (he, ke, ki, fi, fa, or, mi, a, g, l, w, s)) (kr (kwaK 60 (he, ke, ki, fi, fa, or, mi, j, g, l, w, s) g)) kk q (cc_offr vw vq (nI j) w_2)) ?_
      refine me_seg 1 (pc1 := 69) (ls1 := [some (.ref 100), some (.int (nI x)), some (.int ((nI j) + 1)), some (.ref 124)]) (st1 := []) (M1 := (mk_M (cT im le ln ys vt nu nn rf (if w_2 < vq then (nI j) else vw) (if w_2 < vq then w_2 else vq) yc yh yg) (kr (he, ke, ki, fi, fa, or, mi, a, g, l, w, s)) (kr (kwaK 60 (he, ke, ki, fi, fa, or, mi, j, g, l, w, s) g)) kk q)) (fun f => rfl) ?_
      refine me_l (fun q_ => [some (.ref 100), some (.int (nI x)), some (.int q_), some (.ref 124)]) (nI_add j 1) ?_
      refine me_seg 1 (pc1 := 27) (ls1 := [some (.ref 100), some (.int (nI x)), some (.int (nI (j + 1))), some (.ref 124)]) (st1 := []) (M1 := (mk_M (cT im le ln ys vt nu nn rf (if w_2 < vq then (nI j) else vw) (if w_2 < vq then w_2 else vq) yc yh yg) (kr (he, ke, ki, fi, fa, or, mi, a, g, l, w, s)) (kr (kwaK 60 (he, ke, ki, fi, fa, or, mi, j, g, l, w, s) g)) kk q)) (fun f => rfl) ?_
      exact IH (j + 1) (some (.ref 124)) (if w_2 < vq then (nI j) else vw) (if w_2 < vq then w_2 else vq) yc yh yg (kr (kwaK 60 (he, ke, ki, fi, fa, or, mi, j, g, l, w, s) g)) (by omega) ⟨(kSh_r (kV_waK 60 g ⟨v1, v2, v3, v4, v5, v6, v7, by omega, v9, v10, v11, v12, v13, v14, v15, v16⟩)), j1, by assumption, by assumption, by assumption⟩
set_option maxRecDepth 100000 in
theorem wc_start (he ke ki fi fa or : List Nat) (mi a g l w s : Nat) (im : Nat) (le : List Nat) (ln : Nat) (ys : List Int32) (vt : Int32) (nu : List Nat) (nn : Nat) (rf : List Nat) (kk : kG) (q : cR) (hA : iA (he, ke, ki, fi, fa, or, mi, a, g, l, w, s)) (hC : iC nu nn) (vw vq : Int32) (yc yh yg : List Int32) (m : kG) (hJ : iJ m ys yc yh yg) (x : Nat) (hx : x < 2) : mm_E 94 0 [some (.ref 100), some (.int (nI x)), none, none] [] (mk_M (cT im le ln ys vt nu nn rf vw vq yc yh yg) (kr (he, ke, ki, fi, fa, or, mi, a, g, l, w, s)) m kk q) (pC isI (he, ke, ki, fi, fa, or, mi, a, g, l, w, s) im le ln ys vt nu nn rf kk q) := by
  obtain ⟨hV, hst⟩ := id hA
  have hst2 : s ≤ 999 := hst
  obtain ⟨v1, v2, v3, v4, v5, v6, v7, v8, v9, v10, v11, v12, v13, v14, v15, v16⟩ := id hV
  have v6l := kO_len mi v7 or v6
  obtain ⟨c1, c2, c3⟩ := id hC
  obtain ⟨j0, j1, j2, j3, j4⟩ := id hJ
  refine me_seg 1 (pc1 := 1) (ls1 := [some (.ref 100), some (.int (nI x)), none, none]) (st1 := [.int (nI x)]) (M1 := (mk_M (cT im le ln ys vt nu nn rf vw vq yc yh yg) (kr (he, ke, ki, fi, fa, or, mi, a, g, l, w, s)) m kk q)) (fun f => rfl) ?_
  refine me_f (C := (nI x) < 0) (nI_ltf (a := x) (b := 0) (by omega)) (fun f => rfl) ?_
  refine me_seg 2 (pc1 := 6) (ls1 := [some (.ref 100), some (.int (nI x)), none, none]) (st1 := [.int 1, .int (nI x)]) (M1 := (mk_M (cT im le ln ys vt nu nn rf vw vq yc yh yg) (kr (he, ke, ki, fi, fa, or, mi, a, g, l, w, s)) m kk q)) (fun f => rfl) ?_
  refine me_t (C := (nI x) ≤ 1) (nI_let (a := x) (b := 1) (by omega)) (fun f => rfl) ?_
  refine me_seg 3 (pc1 := 22) (ls1 := [some (.ref 100), some (.int (nI x)), none, none]) (st1 := [.int 1000000, .ref 106]) (M1 := (mk_M (cT im le ln ys vt nu nn rf vw vq yc yh yg) (kr (he, ke, ki, fi, fa, or, mi, a, g, l, w, s)) m kk q)) (fun f => rfl) ?_
  refine me_call (y := 82) (y0 := 25) (L := [some (.ref 106), some (.int 1000000)]) (rest := []) (rr := none) (M1 := (mk_M (cT im le ln ys vt nu nn rf (-9) 1000000 yc yh yg) (kr (he, ke, ki, fi, fa, or, mi, a, g, l, w, s)) m kk q)) (fun f => rfl) (by
      exact mr_ret 7 (fun f => rfl)) ?_
  refine me_seg 2 (pc1 := 27) (ls1 := [some (.ref 100), some (.int (nI x)), some (.int 0), none]) (st1 := []) (M1 := (mk_M (cT im le ln ys vt nu nn rf (-9) 1000000 yc yh yg) (kr (he, ke, ki, fi, fa, or, mi, a, g, l, w, s)) m kk q)) (fun f => rfl) ?_
  exact wc_startL he ke ki fi fa or mi a g l w s im le ln ys vt nu nn rf kk q hA hC x hx 25 0 none (-9) 1000000 yc yh yg m (by omega) ⟨(by assumption), j1, by assumption, by assumption, by assumption⟩
set_option maxRecDepth 100000 in
theorem wc_bestKindL (he ke ki fi fa or : List Nat) (mi a g l w s : Nat) (im : Nat) (le : List Nat) (ln : Nat) (ys : List Int32) (vt : Int32) (nu : List Nat) (nn : Nat) (rf : List Nat) (kk : kG) (q : cR) (hA : iA (he, ke, ki, fi, fa, or, mi, a, g, l, w, s)) (hC : iC nu nn) (p x : Nat) (hp : p < mi) (hx : x < 2) (k : Nat) : ∀ (j : Nat) (lo4 : Option Value) (vw vq : Int32) (yc yh yg : List Int32) (m : kG), j + k = 6 → iJ m ys yc yh yg → mm_E 96 41 [some (.ref 100), some (.int (nI p)), some (.int (nI x)), some (.int (nI j)), lo4] [] (mk_M (cT im le ln ys vt nu nn rf vw vq yc yh yg) (kr (he, ke, ki, fi, fa, or, mi, a, g, l, w, s)) m kk q) (pC isI (he, ke, ki, fi, fa, or, mi, a, g, l, w, s) im le ln ys vt nu nn rf kk q) := by
  obtain ⟨hV, hst⟩ := id hA
  have hst2 : s ≤ 999 := hst
  obtain ⟨v1, v2, v3, v4, v5, v6, v7, v8, v9, v10, v11, v12, v13, v14, v15, v16⟩ := id hV
  have v6l := kO_len mi v7 or v6
  obtain ⟨c1, c2, c3⟩ := id hC
  induction k with
  | zero =>
    intro j lo4 vw vq yc yh yg m hj hJ
    obtain ⟨j0, j1, j2, j3, j4⟩ := id hJ
    refine me_seg 2 (pc1 := 44) (ls1 := [some (.ref 100), some (.int (nI p)), some (.int (nI x)), some (.int (nI j)), lo4]) (st1 := [.int 6, .int (nI j)]) (M1 := (mk_M (cT im le ln ys vt nu nn rf vw vq yc yh yg) (kr (he, ke, ki, fi, fa, or, mi, a, g, l, w, s)) m kk q)) (fun f => rfl) ?_
    refine me_t (C := 6 ≤ (nI j)) (nI_let (a := 6) (b := j) (by omega)) (fun f => rfl) ?_
    refine me_seg 1 (pc1 := 81) (ls1 := [some (.ref 100), some (.int (nI p)), some (.int (nI x)), some (.int (nI j)), lo4]) (st1 := [.int (nI x)]) (M1 := (mk_M (cT im le ln ys vt nu nn rf vw vq yc yh yg) (kr (he, ke, ki, fi, fa, or, mi, a, g, l, w, s)) m kk q)) (fun f => rfl) ?_
    refine me_if (C := (nI x) = 0) (fun f => rfl) (fun h1 => ?_) (fun h1 => ?_)
    · refine me_ret 5 (r := some (.int vw)) (M1 := (mk_M (cT im le ln ys vt nu nn rf vw vq yc yh yg) (kr (he, ke, ki, fi, fa, or, mi, a, g, l, w, s)) m kk q)) (fun f => rfl) ?_
      exact ⟨⟨_, rfl⟩, _, _, _, _, _, _, rfl, ⟨(by assumption), j1, by assumption, by assumption, by assumption⟩⟩
    · refine me_seg 2 (pc1 := 98) (ls1 := [some (.ref 100), some (.int (nI p)), some (.int (nI x)), some (.int (nI j)), lo4]) (st1 := [.ref 106]) (M1 := (mk_M (cT im le ln ys vt nu nn rf vw vq yc yh yg) (kr (he, ke, ki, fi, fa, or, mi, a, g, l, w, s)) m kk q)) (fun f => rfl) ?_
      refine me_call (y := 95) (y0 := 101) (L := [some (.ref 106)]) (rest := []) (rr := some (.int (if vw = -9 then -9 else vq))) (M1 := (mk_M (cT im le ln ys vt nu nn rf vw vq yc yh yg) (kr (he, ke, ki, fi, fa, or, mi, a, g, l, w, s)) m kk q)) (fun f => rfl) (so_l im le ln ys vt nu nn rf yc yh yg (kr (he, ke, ki, fi, fa, or, mi, a, g, l, w, s)) m kk q (cc_won vw vq)) ?_
      refine me_ret 1 (r := some (.int (if vw = -9 then -9 else vq))) (M1 := (mk_M (cT im le ln ys vt nu nn rf vw vq yc yh yg) (kr (he, ke, ki, fi, fa, or, mi, a, g, l, w, s)) m kk q)) (fun f => rfl) ?_
      exact ⟨⟨_, rfl⟩, _, _, _, _, _, _, rfl, ⟨(by assumption), j1, by assumption, by assumption, by assumption⟩⟩
  | succ k IH =>
    intro j lo4 vw vq yc yh yg m hj hJ
    obtain ⟨j0, j1, j2, j3, j4⟩ := id hJ
    refine me_seg 2 (pc1 := 44) (ls1 := [some (.ref 100), some (.int (nI p)), some (.int (nI x)), some (.int (nI j)), lo4]) (st1 := [.int 6, .int (nI j)]) (M1 := (mk_M (cT im le ln ys vt nu nn rf vw vq yc yh yg) (kr (he, ke, ki, fi, fa, or, mi, a, g, l, w, s)) m kk q)) (fun f => rfl) ?_
    refine me_f (C := 6 ≤ (nI j)) (nI_lef (a := 6) (b := j) (by omega)) (fun f => rfl) ?_
    refine me_seg 1 (pc1 := 48) (ls1 := [some (.ref 100), some (.int (nI p)), some (.int (nI x)), some (.int (nI j)), lo4]) (st1 := [.ref 100]) (M1 := (mk_M (cT im le ln ys vt nu nn rf vw vq yc yh yg) (kr (he, ke, ki, fi, fa, or, mi, a, g, l, w, s)) m kk q)) (fun f => rfl) ?_
    refine me_call (y := 75) (y0 := 51) (L := [some (.ref 100)]) (rest := []) (rr := some (.ref 124)) (M1 := (mk_M (cT im le ln ys vt nu nn rf vw vq yc yh yg) (kr (he, ke, ki, fi, fa, or, mi, a, g, l, w, s)) (kr (he, ke, ki, fi, fa, or, mi, a, g, l, w, s)) kk q)) (fun f => rfl) (cc_now (he, ke, ki, fi, fa, or, mi, a, g, l, w, s) (cT im le ln ys vt nu nn rf vw vq yc yh yg) m kk q hV (by assumption)) ?_
    refine me_seg 5 (pc1 := 60) (ls1 := [some (.ref 100), some (.int (nI p)), some (.int (nI x)), some (.int (nI j)), some (.ref 124)]) (st1 := [.int (nI j), .int (nI p), .ref 127]) (M1 := (mk_M (cT im le ln ys vt nu nn rf vw vq yc yh yg) (kr (he, ke, ki, fi, fa, or, mi, a, g, l, w, s)) (kr (he, ke, ki, fi, fa, or, mi, a, g, l, w, s)) kk q)) (fun f => rfl) ?_
    refine me_stn (xs := (ki.map nI)) (ys := ((ki.set p j).map nI)) (M2 := (mk_M (cT im le ln ys vt nu nn rf vw vq yc yh yg) (kr (he, ke, ki, fi, fa, or, mi, a, g, l, w, s)) (kr (he, ke, ki.set p j, fi, fa, or, mi, a, g, l, w, s)) kk q)) rfl rfl (k := p) (by omega) (by simp only [List.length_map, List.length_set]; omega) ks_ok rfl ?_
    refine me_seg 4 (pc1 := 68) (ls1 := [some (.ref 100), some (.int (nI p)), some (.int (nI x)), some (.int (nI j)), some (.ref 124)]) (st1 := [.ref 124, .int (nI j), .ref 106]) (M1 := (mk_M (cT im le ln ys vt nu nn rf vw vq yc yh yg) (kr (he, ke, ki, fi, fa, or, mi, a, g, l, w, s)) (kr (he, ke, ki.set p j, fi, fa, or, mi, a, g, l, w, s)) kk q)) (fun f => rfl) ?_
    refine me_call (y := 89) (y0 := 71) (L := [some (.ref 124)]) (rest := [.int (nI j), .ref 106]) (rr := some (.int (kN (kwa 60 0 (he, ke, ki.set p j, fi, fa, or, mi, a, g, l, w, s) g)))) (M1 := (mk_M (cT im le ln ys vt nu nn rf vw vq yc yh yg) (kr (he, ke, ki, fi, fa, or, mi, a, g, l, w, s)) (kr (kwaK 60 (he, ke, ki.set p j, fi, fa, or, mi, a, g, l, w, s) g)) kk q)) (fun f => rfl) (kl_m (cT im le ln ys vt nu nn rf vw vq yc yh yg) (kr (he, ke, ki, fi, fa, or, mi, a, g, l, w, s)) kk q (kc_wt (he, ke, ki.set p j, fi, fa, or, mi, a, g, l, w, s) ⟨v1, v2, by rw [List.length_set]; exact v3, v4, v5, v6, v7, v8, v9, v10, v11, v12, v13, fun i => by rw [kg_setc]; split; omega; exact v14 i, v15, v16⟩ (show s < 2 ^ 20 by omega))) ?_
    generalize kN (kwa 60 0 (he, ke, ki.set p j, fi, fa, or, mi, a, g, l, w, s) g) = w_1
    refine me_call (y := 84) (y0 := 74) (L := [some (.ref 106), some (.int (nI j)), some (.int w_1)]) (rest := []) (rr := none) (M1 := (mk_M (cT im le ln ys vt nu nn rf (if w_1 < vq then (nI j) else vw) (if w_1 < vq then w_1 else vq) yc yh yg) (kr (he, ke, ki, fi, fa, or, mi, a, g, l, w, s)) (kr (kwaK 60 (he, ke, ki.set p j, fi, fa, or, mi, a, g, l, w, s) g)) kk q)) (fun f => rfl) (so_l im le ln ys vt nu nn rf yc yh yg (kr (he, ke, ki, fi, fa, or, mi, a, g, l, w, s)) (kr (kwaK 60 (he, ke, ki.set p j, fi, fa, or, mi, a, g, l, w, s) g)) kk q (cc_offr vw vq (nI j) w_1)) ?_
    refine me_seg 1 (pc1 := 77) (ls1 := [some (.ref 100), some (.int (nI p)), some (.int (nI x)), some (.int ((nI j) + 1)), some (.ref 124)]) (st1 := []) (M1 := (mk_M (cT im le ln ys vt nu nn rf (if w_1 < vq then (nI j) else vw) (if w_1 < vq then w_1 else vq) yc yh yg) (kr (he, ke, ki, fi, fa, or, mi, a, g, l, w, s)) (kr (kwaK 60 (he, ke, ki.set p j, fi, fa, or, mi, a, g, l, w, s) g)) kk q)) (fun f => rfl) ?_
    refine me_l (fun q_ => [some (.ref 100), some (.int (nI p)), some (.int (nI x)), some (.int q_), some (.ref 124)]) (nI_add j 1) ?_
    refine me_seg 1 (pc1 := 41) (ls1 := [some (.ref 100), some (.int (nI p)), some (.int (nI x)), some (.int (nI (j + 1))), some (.ref 124)]) (st1 := []) (M1 := (mk_M (cT im le ln ys vt nu nn rf (if w_1 < vq then (nI j) else vw) (if w_1 < vq then w_1 else vq) yc yh yg) (kr (he, ke, ki, fi, fa, or, mi, a, g, l, w, s)) (kr (kwaK 60 (he, ke, ki.set p j, fi, fa, or, mi, a, g, l, w, s) g)) kk q)) (fun f => rfl) ?_
    exact IH (j + 1) (some (.ref 124)) (if w_1 < vq then (nI j) else vw) (if w_1 < vq then w_1 else vq) yc yh yg (kr (kwaK 60 (he, ke, ki.set p j, fi, fa, or, mi, a, g, l, w, s) g)) (by omega) ⟨(kSh_r (kV_waK 60 g ⟨v1, v2, by rw [List.length_set]; exact v3, v4, v5, v6, v7, v8, v9, v10, v11, v12, v13, fun i => by rw [kg_setc]; split; omega; exact v14 i, v15, v16⟩)), j1, by assumption, by assumption, by assumption⟩
set_option maxRecDepth 100000 in
theorem wc_bestKind (he ke ki fi fa or : List Nat) (mi a g l w s : Nat) (im : Nat) (le : List Nat) (ln : Nat) (ys : List Int32) (vt : Int32) (nu : List Nat) (nn : Nat) (rf : List Nat) (kk : kG) (q : cR) (hA : iA (he, ke, ki, fi, fa, or, mi, a, g, l, w, s)) (hC : iC nu nn) (vw vq : Int32) (yc yh yg : List Int32) (m : kG) (hJ : iJ m ys yc yh yg) (p x : Nat) (hp : p < mi) (hx : x < 2) : mm_E 96 0 [some (.ref 100), some (.int (nI p)), some (.int (nI x)), none, none] [] (mk_M (cT im le ln ys vt nu nn rf vw vq yc yh yg) (kr (he, ke, ki, fi, fa, or, mi, a, g, l, w, s)) m kk q) (pC isI (he, ke, ki, fi, fa, or, mi, a, g, l, w, s) im le ln ys vt nu nn rf kk q) := by
  obtain ⟨hV, hst⟩ := id hA
  have hst2 : s ≤ 999 := hst
  obtain ⟨v1, v2, v3, v4, v5, v6, v7, v8, v9, v10, v11, v12, v13, v14, v15, v16⟩ := id hV
  have v6l := kO_len mi v7 or v6
  obtain ⟨c1, c2, c3⟩ := id hC
  obtain ⟨j0, j1, j2, j3, j4⟩ := id hJ
  refine me_seg 2 (pc1 := 2) (ls1 := [some (.ref 100), some (.int (nI p)), some (.int (nI x)), none, none]) (st1 := [.int (nI p), .ref 100]) (M1 := (mk_M (cT im le ln ys vt nu nn rf vw vq yc yh yg) (kr (he, ke, ki, fi, fa, or, mi, a, g, l, w, s)) m kk q)) (fun f => rfl) ?_
  refine me_call (y := 61) (y0 := 5) (L := [some (.ref 100), some (.int (nI p))]) (rest := []) (rr := some (.int 1)) (M1 := (mk_M (cT im le ln ys vt nu nn rf vw vq yc yh yg) (kr (he, ke, ki, fi, fa, or, mi, a, g, l, w, s)) m kk q)) (fun f => rfl) (ms_m1_ok (x := (nI p)) (nI_ltf (a := p) (b := 0) (by omega)) (nI_lef (a := mi) (b := p) (by omega))) ?_
  refine me_seg 2 (pc1 := 15) (ls1 := [some (.ref 100), some (.int (nI p)), some (.int (nI x)), none, none]) (st1 := [.int (nI x)]) (M1 := (mk_M (cT im le ln ys vt nu nn rf vw vq yc yh yg) (kr (he, ke, ki, fi, fa, or, mi, a, g, l, w, s)) m kk q)) (fun f => rfl) ?_
  refine me_f (C := (nI x) < 0) (nI_ltf (a := x) (b := 0) (by omega)) (fun f => rfl) ?_
  refine me_seg 2 (pc1 := 20) (ls1 := [some (.ref 100), some (.int (nI p)), some (.int (nI x)), none, none]) (st1 := [.int 1, .int (nI x)]) (M1 := (mk_M (cT im le ln ys vt nu nn rf vw vq yc yh yg) (kr (he, ke, ki, fi, fa, or, mi, a, g, l, w, s)) m kk q)) (fun f => rfl) ?_
  refine me_t (C := (nI x) ≤ 1) (nI_let (a := x) (b := 1) (by omega)) (fun f => rfl) ?_
  refine me_seg 3 (pc1 := 36) (ls1 := [some (.ref 100), some (.int (nI p)), some (.int (nI x)), none, none]) (st1 := [.int 1000000, .ref 106]) (M1 := (mk_M (cT im le ln ys vt nu nn rf vw vq yc yh yg) (kr (he, ke, ki, fi, fa, or, mi, a, g, l, w, s)) m kk q)) (fun f => rfl) ?_
  refine me_call (y := 82) (y0 := 39) (L := [some (.ref 106), some (.int 1000000)]) (rest := []) (rr := none) (M1 := (mk_M (cT im le ln ys vt nu nn rf (-9) 1000000 yc yh yg) (kr (he, ke, ki, fi, fa, or, mi, a, g, l, w, s)) m kk q)) (fun f => rfl) (by
      exact mr_ret 7 (fun f => rfl)) ?_
  refine me_seg 2 (pc1 := 41) (ls1 := [some (.ref 100), some (.int (nI p)), some (.int (nI x)), some (.int 0), none]) (st1 := []) (M1 := (mk_M (cT im le ln ys vt nu nn rf (-9) 1000000 yc yh yg) (kr (he, ke, ki, fi, fa, or, mi, a, g, l, w, s)) m kk q)) (fun f => rfl) ?_
  exact wc_bestKindL he ke ki fi fa or mi a g l w s im le ln ys vt nu nn rf kk q hA hC p x hp hx 6 0 none (-9) 1000000 yc yh yg m (by omega) ⟨(by assumption), j1, by assumption, by assumption, by assumption⟩
set_option maxRecDepth 100000 in
theorem wc_mostWeightL (he ke ki fi fa or : List Nat) (mi a g l w s : Nat) (im : Nat) (le : List Nat) (ln : Nat) (ys : List Int32) (vt : Int32) (nu : List Nat) (nn : Nat) (rf : List Nat) (kk : kG) (q : cR) (hA : iA (he, ke, ki, fi, fa, or, mi, a, g, l, w, s)) (hC : iC nu nn) (k : Nat) : ∀ (lo2 : Option Value) (vw vq : Int32) (yc yh yg : List Int32) (m : kG), iJ m ys yc yh yg → k ≤ 21 → mm_E 93 3 [some (.ref 100), some (.int (nI k - 1)), lo2] [] (mk_M (cT im le ln ys vt nu nn rf vw vq yc yh yg) (kr (he, ke, ki, fi, fa, or, mi, a, g, l, w, s)) m kk q) (pC isI (he, ke, ki, fi, fa, or, mi, a, g, l, w, s) im le ln ys vt nu nn rf kk q) := by
  obtain ⟨hV, hst⟩ := id hA
  have hst2 : s ≤ 999 := hst
  obtain ⟨v1, v2, v3, v4, v5, v6, v7, v8, v9, v10, v11, v12, v13, v14, v15, v16⟩ := id hV
  have v6l := kO_len mi v7 or v6
  obtain ⟨c1, c2, c3⟩ := id hC
  induction k with
  | zero =>
    intro lo2 vw vq yc yh yg m hJ hk
    obtain ⟨j0, j1, j2, j3, j4⟩ := id hJ
    refine me_l (fun q_ => [some (.ref 100), some (.int q_), lo2]) (show nI 0 - 1 = (-1 : Int32) by decide) ?_
    refine me_ret 4 (r := some (.int (-9))) (M1 := (mk_M (cT im le ln ys vt nu nn rf vw vq yc yh yg) (kr (he, ke, ki, fi, fa, or, mi, a, g, l, w, s)) m kk q)) (fun f => rfl) ?_
    exact ⟨⟨_, rfl⟩, _, _, _, _, _, _, rfl, ⟨(by assumption), j1, by assumption, by assumption, by assumption⟩⟩
  | succ k IH =>
    intro lo2 vw vq yc yh yg m hJ hk
    obtain ⟨j0, j1, j2, j3, j4⟩ := id hJ
    refine me_l (fun q_ => [some (.ref 100), some (.int q_), lo2]) (show nI (k + 1) - 1 = nI k from pk_sub (a := k + 1) (b := 1) (by omega)) ?_
    refine me_seg 1 (pc1 := 4) (ls1 := [some (.ref 100), some (.int (nI k)), lo2]) (st1 := [.int (nI k)]) (M1 := (mk_M (cT im le ln ys vt nu nn rf vw vq yc yh yg) (kr (he, ke, ki, fi, fa, or, mi, a, g, l, w, s)) m kk q)) (fun f => rfl) ?_
    refine me_f (C := (nI k) < 0) (nI_pos (by omega)) (fun f => rfl) ?_
    refine me_seg 1 (pc1 := 8) (ls1 := [some (.ref 100), some (.int (nI k)), lo2]) (st1 := [.ref 100]) (M1 := (mk_M (cT im le ln ys vt nu nn rf vw vq yc yh yg) (kr (he, ke, ki, fi, fa, or, mi, a, g, l, w, s)) m kk q)) (fun f => rfl) ?_
    refine me_call (y := 75) (y0 := 11) (L := [some (.ref 100)]) (rest := []) (rr := some (.ref 124)) (M1 := (mk_M (cT im le ln ys vt nu nn rf vw vq yc yh yg) (kr (he, ke, ki, fi, fa, or, mi, a, g, l, w, s)) (kr (he, ke, ki, fi, fa, or, mi, a, g, l, w, s)) kk q)) (fun f => rfl) (cc_now (he, ke, ki, fi, fa, or, mi, a, g, l, w, s) (cT im le ln ys vt nu nn rf vw vq yc yh yg) m kk q hV (by assumption)) ?_
    refine me_seg 4 (pc1 := 17) (ls1 := [some (.ref 100), some (.int (nI k)), some (.ref 124)]) (st1 := []) (M1 := (mk_Mm (cT im le ln ys vt nu nn rf vw vq yc yh yg) (kr (he, ke, ki, fi, fa, or, mi, a, g, l, w, s)) (he.map nI) (ke.map nI) (ki.map nI) (fi.map nI) (fa.map nI) (or.map nI) (nI mi) (nI a) (nI g) (nI l) (nI k) (nI s) kk q)) (fun f => rfl) ?_
    refine me_M (mk_Mk (cT im le ln ys vt nu nn rf vw vq yc yh yg) (kr (he, ke, ki, fi, fa, or, mi, a, g, l, w, s)) he ke ki fi fa or mi a g l k s kk q) ?_
    refine me_seg 1 (pc1 := 18) (ls1 := [some (.ref 100), some (.int (nI k)), some (.ref 124)]) (st1 := [.ref 124]) (M1 := (mk_M (cT im le ln ys vt nu nn rf vw vq yc yh yg) (kr (he, ke, ki, fi, fa, or, mi, a, g, l, w, s)) (kr (he, ke, ki, fi, fa, or, mi, a, g, l, k, s)) kk q)) (fun f => rfl) ?_
    refine me_call (y := 89) (y0 := 21) (L := [some (.ref 124)]) (rest := []) (rr := some (.int (kN (kwa 60 0 (he, ke, ki, fi, fa, or, mi, a, g, l, k, s) g)))) (M1 := (mk_M (cT im le ln ys vt nu nn rf vw vq yc yh yg) (kr (he, ke, ki, fi, fa, or, mi, a, g, l, w, s)) (kr (kwaK 60 (he, ke, ki, fi, fa, or, mi, a, g, l, k, s) g)) kk q)) (fun f => rfl) (kl_m (cT im le ln ys vt nu nn rf vw vq yc yh yg) (kr (he, ke, ki, fi, fa, or, mi, a, g, l, w, s)) kk q (kc_wt (he, ke, ki, fi, fa, or, mi, a, g, l, k, s) ⟨v1, v2, v3, v4, v5, v6, v7, v8, v9, v10, by omega, v12, v13, v14, v15, v16⟩ (show s < 2 ^ 20 by omega))) ?_
    generalize kN (kwa 60 0 (he, ke, ki, fi, fa, or, mi, a, g, l, k, s) g) = w_1
    refine me_seg 1 (pc1 := 23) (ls1 := [some (.ref 100), some (.int (nI k)), some (.ref 124)]) (st1 := [.int 1000000, .int w_1]) (M1 := (mk_M (cT im le ln ys vt nu nn rf vw vq yc yh yg) (kr (he, ke, ki, fi, fa, or, mi, a, g, l, w, s)) (kr (kwaK 60 (he, ke, ki, fi, fa, or, mi, a, g, l, k, s) g)) kk q)) (fun f => rfl) ?_
    refine me_if (C := w_1 = 1000000) (fun f => rfl) (fun h2 => ?_) (fun h2 => ?_)
    · refine me_seg 2 (pc1 := 3) (ls1 := [some (.ref 100), some (.int ((nI k) + Int32.ofInt (-1))), some (.ref 124)]) (st1 := []) (M1 := (mk_M (cT im le ln ys vt nu nn rf vw vq yc yh yg) (kr (he, ke, ki, fi, fa, or, mi, a, g, l, w, s)) (kr (kwaK 60 (he, ke, ki, fi, fa, or, mi, a, g, l, k, s) g)) kk q)) (fun f => rfl) ?_
      refine me_l (fun q_ => [some (.ref 100), some (.int q_), some (.ref 124)]) (show ((nI k) + Int32.ofInt (-1)) = nI k - 1 from k_m1 _) ?_
      exact IH (some (.ref 124)) vw vq yc yh yg (kr (kwaK 60 (he, ke, ki, fi, fa, or, mi, a, g, l, k, s) g)) ⟨(kSh_r (kV_waK 60 g ⟨v1, v2, v3, v4, v5, v6, v7, v8, v9, v10, by omega, v12, v13, v14, v15, v16⟩)), j1, by assumption, by assumption, by assumption⟩ (by omega)
    · refine me_ret 2 (r := some (.int (nI k))) (M1 := (mk_M (cT im le ln ys vt nu nn rf vw vq yc yh yg) (kr (he, ke, ki, fi, fa, or, mi, a, g, l, w, s)) (kr (kwaK 60 (he, ke, ki, fi, fa, or, mi, a, g, l, k, s) g)) kk q)) (fun f => rfl) ?_
      exact ⟨⟨_, rfl⟩, _, _, _, _, _, _, rfl, ⟨(kSh_r (kV_waK 60 g ⟨v1, v2, v3, v4, v5, v6, v7, v8, v9, v10, by omega, v12, v13, v14, v15, v16⟩)), j1, by assumption, by assumption, by assumption⟩⟩
set_option maxRecDepth 100000 in
theorem wc_mostWeight (he ke ki fi fa or : List Nat) (mi a g l w s : Nat) (im : Nat) (le : List Nat) (ln : Nat) (ys : List Int32) (vt : Int32) (nu : List Nat) (nn : Nat) (rf : List Nat) (kk : kG) (q : cR) (hA : iA (he, ke, ki, fi, fa, or, mi, a, g, l, w, s)) (hC : iC nu nn) (vw vq : Int32) (yc yh yg : List Int32) (m : kG) (hJ : iJ m ys yc yh yg) : mm_E 93 0 [some (.ref 100), none, none] [] (mk_M (cT im le ln ys vt nu nn rf vw vq yc yh yg) (kr (he, ke, ki, fi, fa, or, mi, a, g, l, w, s)) m kk q) (pC isI (he, ke, ki, fi, fa, or, mi, a, g, l, w, s) im le ln ys vt nu nn rf kk q) := by
  obtain ⟨hV, hst⟩ := id hA
  have hst2 : s ≤ 999 := hst
  obtain ⟨v1, v2, v3, v4, v5, v6, v7, v8, v9, v10, v11, v12, v13, v14, v15, v16⟩ := id hV
  have v6l := kO_len mi v7 or v6
  obtain ⟨c1, c2, c3⟩ := id hC
  obtain ⟨j0, j1, j2, j3, j4⟩ := id hJ
  refine me_seg 2 (pc1 := 3) (ls1 := [some (.ref 100), some (.int 20), none]) (st1 := []) (M1 := (mk_M (cT im le ln ys vt nu nn rf vw vq yc yh yg) (kr (he, ke, ki, fi, fa, or, mi, a, g, l, w, s)) m kk q)) (fun f => rfl) ?_
  exact wc_mostWeightL he ke ki fi fa or mi a g l w s im le ln ys vt nu nn rf kk q hA hC 21 none vw vq yc yh yg m ⟨(by assumption), j1, by assumption, by assumption, by assumption⟩ (by omega)
set_option maxRecDepth 100000 in
theorem wc_tallL (he ke ki fi fa or : List Nat) (mi a g l w s : Nat) (im : Nat) (le : List Nat) (ln : Nat) (ys : List Int32) (vt : Int32) (nu : List Nat) (nn : Nat) (rf : List Nat) (kk : kG) (q : cR) (hA : iA (he, ke, ki, fi, fa, or, mi, a, g, l, w, s)) (hC : iC nu nn) (k : Nat) : ∀ (j : Nat) (b : Nat) (vw vq : Int32) (yc yh yg : List Int32) (m : kG), j + k = 25 → iJ m ys yc yh yg → b < 25 → mm_E 99 4 [some (.ref 117), some (.int (nI b)), some (.int (nI j))] [] (mk_M (cT im le ln ys vt nu nn rf vw vq yc yh yg) (kr (he, ke, ki, fi, fa, or, mi, a, g, l, w, s)) m kk q) (pC isI (he, ke, ki, fi, fa, or, mi, a, g, l, w, s) im le ln ys vt nu nn rf kk q) := by
  obtain ⟨hV, hst⟩ := id hA
  have hst2 : s ≤ 999 := hst
  obtain ⟨v1, v2, v3, v4, v5, v6, v7, v8, v9, v10, v11, v12, v13, v14, v15, v16⟩ := id hV
  have v6l := kO_len mi v7 or v6
  obtain ⟨c1, c2, c3⟩ := id hC
  induction k with
  | zero =>
    intro j b vw vq yc yh yg m hj hJ g0
    obtain ⟨j0, j1, j2, j3, j4⟩ := id hJ
    refine me_seg 2 (pc1 := 7) (ls1 := [some (.ref 117), some (.int (nI b)), some (.int (nI j))]) (st1 := [.int 25, .int (nI j)]) (M1 := (mk_M (cT im le ln ys vt nu nn rf vw vq yc yh yg) (kr (he, ke, ki, fi, fa, or, mi, a, g, l, w, s)) m kk q)) (fun f => rfl) ?_
    refine me_t (C := 25 ≤ (nI j)) (nI_let (a := 25) (b := j) (by omega)) (fun f => rfl) ?_
    refine me_ret 2 (r := some (.int (nI b))) (M1 := (mk_M (cT im le ln ys vt nu nn rf vw vq yc yh yg) (kr (he, ke, ki, fi, fa, or, mi, a, g, l, w, s)) m kk q)) (fun f => rfl) ?_
    exact ⟨⟨_, rfl⟩, _, _, _, _, _, _, rfl, ⟨(by assumption), j1, by assumption, by assumption, by assumption⟩⟩
  | succ k IH =>
    intro j b vw vq yc yh yg m hj hJ g0
    obtain ⟨j0, j1, j2, j3, j4⟩ := id hJ
    refine me_seg 2 (pc1 := 7) (ls1 := [some (.ref 117), some (.int (nI b)), some (.int (nI j))]) (st1 := [.int 25, .int (nI j)]) (M1 := (mk_M (cT im le ln ys vt nu nn rf vw vq yc yh yg) (kr (he, ke, ki, fi, fa, or, mi, a, g, l, w, s)) m kk q)) (fun f => rfl) ?_
    refine me_f (C := 25 ≤ (nI j)) (nI_lef (a := 25) (b := j) (by omega)) (fun f => rfl) ?_
    refine me_seg 3 (pc1 := 15) (ls1 := [some (.ref 117), some (.int (nI b)), some (.int (nI j))]) (st1 := [.int (nI j), .ref 118]) (M1 := (mk_M (cT im le ln ys vt nu nn rf vw vq yc yh yg) (kr (he, ke, ki, fi, fa, or, mi, a, g, l, w, s)) m kk q)) (fun f => rfl) ?_
    refine me_ldn (xs := (he.map nI)) rfl rfl (k := j) (by omega) (kg_ok (by omega)) ?_
    refine me_seg 3 (pc1 := 21) (ls1 := [some (.ref 117), some (.int (nI b)), some (.int (nI j))]) (st1 := [.int (nI b), .ref 118, .int (nI (kg he j))]) (M1 := (mk_M (cT im le ln ys vt nu nn rf vw vq yc yh yg) (kr (he, ke, ki, fi, fa, or, mi, a, g, l, w, s)) m kk q)) (fun f => rfl) ?_
    refine me_ldn (xs := (he.map nI)) rfl rfl (k := b) (by omega) (kg_ok (by omega)) ?_
    refine me_if (C := (nI (kg he j)) ≤ (nI (kg he b))) (fun f => rfl) (fun h1 => ?_) (fun h1 => ?_)
    · refine me_seg 1 (pc1 := 30) (ls1 := [some (.ref 117), some (.int (nI b)), some (.int ((nI j) + 1))]) (st1 := []) (M1 := (mk_M (cT im le ln ys vt nu nn rf vw vq yc yh yg) (kr (he, ke, ki, fi, fa, or, mi, a, g, l, w, s)) m kk q)) (fun f => rfl) ?_
      refine me_l (fun q_ => [some (.ref 117), some (.int (nI b)), some (.int q_)]) (nI_add j 1) ?_
      refine me_seg 1 (pc1 := 4) (ls1 := [some (.ref 117), some (.int (nI b)), some (.int (nI (j + 1)))]) (st1 := []) (M1 := (mk_M (cT im le ln ys vt nu nn rf vw vq yc yh yg) (kr (he, ke, ki, fi, fa, or, mi, a, g, l, w, s)) m kk q)) (fun f => rfl) ?_
      exact IH (j + 1) b vw vq yc yh yg m (by omega) ⟨(by assumption), j1, by assumption, by assumption, by assumption⟩ (by omega)
    · refine me_seg 3 (pc1 := 30) (ls1 := [some (.ref 117), some (.int (nI j)), some (.int ((nI j) + 1))]) (st1 := []) (M1 := (mk_M (cT im le ln ys vt nu nn rf vw vq yc yh yg) (kr (he, ke, ki, fi, fa, or, mi, a, g, l, w, s)) m kk q)) (fun f => rfl) ?_
      refine me_l (fun q_ => [some (.ref 117), some (.int (nI j)), some (.int q_)]) (nI_add j 1) ?_
      refine me_seg 1 (pc1 := 4) (ls1 := [some (.ref 117), some (.int (nI j)), some (.int (nI (j + 1)))]) (st1 := []) (M1 := (mk_M (cT im le ln ys vt nu nn rf vw vq yc yh yg) (kr (he, ke, ki, fi, fa, or, mi, a, g, l, w, s)) m kk q)) (fun f => rfl) ?_
      exact IH (j + 1) j vw vq yc yh yg m (by omega) ⟨(by assumption), j1, by assumption, by assumption, by assumption⟩ (by omega)
set_option maxRecDepth 100000 in
theorem wc_tall (he ke ki fi fa or : List Nat) (mi a g l w s : Nat) (im : Nat) (le : List Nat) (ln : Nat) (ys : List Int32) (vt : Int32) (nu : List Nat) (nn : Nat) (rf : List Nat) (kk : kG) (q : cR) (hA : iA (he, ke, ki, fi, fa, or, mi, a, g, l, w, s)) (hC : iC nu nn) (vw vq : Int32) (yc yh yg : List Int32) (m : kG) (hJ : iJ m ys yc yh yg) : mm_E 99 0 [some (.ref 117), none, none] [] (mk_M (cT im le ln ys vt nu nn rf vw vq yc yh yg) (kr (he, ke, ki, fi, fa, or, mi, a, g, l, w, s)) m kk q) (pC isI (he, ke, ki, fi, fa, or, mi, a, g, l, w, s) im le ln ys vt nu nn rf kk q) := by
  obtain ⟨hV, hst⟩ := id hA
  have hst2 : s ≤ 999 := hst
  obtain ⟨v1, v2, v3, v4, v5, v6, v7, v8, v9, v10, v11, v12, v13, v14, v15, v16⟩ := id hV
  have v6l := kO_len mi v7 or v6
  obtain ⟨c1, c2, c3⟩ := id hC
  obtain ⟨j0, j1, j2, j3, j4⟩ := id hJ
  refine me_seg 4 (pc1 := 4) (ls1 := [some (.ref 117), some (.int 0), some (.int 1)]) (st1 := []) (M1 := (mk_M (cT im le ln ys vt nu nn rf vw vq yc yh yg) (kr (he, ke, ki, fi, fa, or, mi, a, g, l, w, s)) m kk q)) (fun f => rfl) ?_
  exact wc_tallL he ke ki fi fa or mi a g l w s im le ln ys vt nu nn rf kk q hA hC 24 1 0 vw vq yc yh yg m (by omega) ⟨(by assumption), j1, by assumption, by assumption, by assumption⟩ (by omega)
set_option maxRecDepth 100000 in
theorem wc_kinL1 (he ke ki fi fa or : List Nat) (mi a g l w s : Nat) (im : Nat) (le : List Nat) (ln : Nat) (ys : List Int32) (vt : Int32) (nu : List Nat) (nn : Nat) (rf : List Nat) (kk : kG) (q : cR) (hA : iA (he, ke, ki, fi, fa, or, mi, a, g, l, w, s)) (hC : iC nu nn) (ca cb t bo lf ri : Nat) (hbo : bo < 5) (hri : ri < 5) (hlf : lf ≤ ri) (y : Nat) (hy : y ≤ bo) (HO : ∀ (f : Int32) (lo9 : Option Value) (vw vq : Int32) (yc yh yg : List Int32) (m : kG), iJ m ys yc yh yg → mm_E 100 49 [some (.ref 117), some (.int (nI ca)), some (.int (nI cb)), some (.int (nI t)), some (.int (nI bo)), some (.int (nI lf)), some (.int (nI ri)), some (.int f), some (.int (nI (y + 1))), lo9] [] (mk_M (cT im le ln ys vt nu nn rf vw vq yc yh yg) (kr (he, ke, ki, fi, fa, or, mi, a, g, l, w, s)) m kk q) (pC isI (he, ke, ki, fi, fa, or, mi, a, g, l, w, s) im le ln ys vt nu nn rf kk q)) (k : Nat) : ∀ (j : Nat) (f : Int32) (vw vq : Int32) (yc yh yg : List Int32) (m : kG), j + k = ri + 1 → iJ m ys yc yh yg → mm_E 100 60 [some (.ref 117), some (.int (nI ca)), some (.int (nI cb)), some (.int (nI t)), some (.int (nI bo)), some (.int (nI lf)), some (.int (nI ri)), some (.int f), some (.int (nI y)), some (.int (nI j))] [] (mk_M (cT im le ln ys vt nu nn rf vw vq yc yh yg) (kr (he, ke, ki, fi, fa, or, mi, a, g, l, w, s)) m kk q) (pC isI (he, ke, ki, fi, fa, or, mi, a, g, l, w, s) im le ln ys vt nu nn rf kk q) := by
  obtain ⟨hV, hst⟩ := id hA
  have hst2 : s ≤ 999 := hst
  obtain ⟨v1, v2, v3, v4, v5, v6, v7, v8, v9, v10, v11, v12, v13, v14, v15, v16⟩ := id hV
  have v6l := kO_len mi v7 or v6
  obtain ⟨c1, c2, c3⟩ := id hC
  induction k with
  | zero =>
    intro j f vw vq yc yh yg m hj hJ
    obtain ⟨j0, j1, j2, j3, j4⟩ := id hJ
    refine me_seg 2 (pc1 := 64) (ls1 := [some (.ref 117), some (.int (nI ca)), some (.int (nI cb)), some (.int (nI t)), some (.int (nI bo)), some (.int (nI lf)), some (.int (nI ri)), some (.int f), some (.int (nI y)), some (.int (nI j))]) (st1 := [.int (nI ri), .int (nI j)]) (M1 := (mk_M (cT im le ln ys vt nu nn rf vw vq yc yh yg) (kr (he, ke, ki, fi, fa, or, mi, a, g, l, w, s)) m kk q)) (fun f => rfl) ?_
    refine me_t (C := (nI ri) < (nI j)) (nI_ltt (a := ri) (b := j) (by omega)) (fun f => rfl) ?_
    refine me_seg 1 (pc1 := 93) (ls1 := [some (.ref 117), some (.int (nI ca)), some (.int (nI cb)), some (.int (nI t)), some (.int (nI bo)), some (.int (nI lf)), some (.int (nI ri)), some (.int f), some (.int ((nI y) + 1)), some (.int (nI j))]) (st1 := []) (M1 := (mk_M (cT im le ln ys vt nu nn rf vw vq yc yh yg) (kr (he, ke, ki, fi, fa, or, mi, a, g, l, w, s)) m kk q)) (fun f => rfl) ?_
    refine me_l (fun q_ => [some (.ref 117), some (.int (nI ca)), some (.int (nI cb)), some (.int (nI t)), some (.int (nI bo)), some (.int (nI lf)), some (.int (nI ri)), some (.int f), some (.int q_), some (.int (nI j))]) (nI_add y 1) ?_
    refine me_seg 1 (pc1 := 49) (ls1 := [some (.ref 117), some (.int (nI ca)), some (.int (nI cb)), some (.int (nI t)), some (.int (nI bo)), some (.int (nI lf)), some (.int (nI ri)), some (.int f), some (.int (nI (y + 1))), some (.int (nI j))]) (st1 := []) (M1 := (mk_M (cT im le ln ys vt nu nn rf vw vq yc yh yg) (kr (he, ke, ki, fi, fa, or, mi, a, g, l, w, s)) m kk q)) (fun f => rfl) ?_
    exact HO f (some (.int (nI j))) vw vq yc yh yg m ⟨(by assumption), j1, by assumption, by assumption, by assumption⟩
  | succ k IH =>
    intro j f vw vq yc yh yg m hj hJ
    obtain ⟨j0, j1, j2, j3, j4⟩ := id hJ
    refine me_seg 2 (pc1 := 64) (ls1 := [some (.ref 117), some (.int (nI ca)), some (.int (nI cb)), some (.int (nI t)), some (.int (nI bo)), some (.int (nI lf)), some (.int (nI ri)), some (.int f), some (.int (nI y)), some (.int (nI j))]) (st1 := [.int (nI ri), .int (nI j)]) (M1 := (mk_M (cT im le ln ys vt nu nn rf vw vq yc yh yg) (kr (he, ke, ki, fi, fa, or, mi, a, g, l, w, s)) m kk q)) (fun f => rfl) ?_
    refine me_f (C := (nI ri) < (nI j)) (nI_ltf (a := ri) (b := j) (by omega)) (fun f => rfl) ?_
    refine me_seg 6 (pc1 := 77) (ls1 := [some (.ref 117), some (.int (nI ca)), some (.int (nI cb)), some (.int (nI t)), some (.int (nI bo)), some (.int (nI lf)), some (.int (nI ri)), some (.int f), some (.int (nI y)), some (.int (nI j))]) (st1 := [.int ((nI y) * (5 : Int32)), .ref 119, .int f]) (M1 := (mk_M (cT im le ln ys vt nu nn rf vw vq yc yh yg) (kr (he, ke, ki, fi, fa, or, mi, a, g, l, w, s)) m kk q)) (fun f => rfl) ?_
    refine me_v (pk_mul y 5) ?_
    refine me_seg 2 (pc1 := 80) (ls1 := [some (.ref 117), some (.int (nI ca)), some (.int (nI cb)), some (.int (nI t)), some (.int (nI bo)), some (.int (nI lf)), some (.int (nI ri)), some (.int f), some (.int (nI y)), some (.int (nI j))]) (st1 := [.int ((nI (y * 5)) + (nI j)), .ref 119, .int f]) (M1 := (mk_M (cT im le ln ys vt nu nn rf vw vq yc yh yg) (kr (he, ke, ki, fi, fa, or, mi, a, g, l, w, s)) m kk q)) (fun f => rfl) ?_
    refine me_v (nI_add (y * 5) j) ?_
    refine me_ldn (xs := (ke.map nI)) rfl rfl (k := y * 5 + j) (by omega) (kg_ok (by omega)) ?_
    refine me_seg 3 (pc1 := 87) (ls1 := [some (.ref 117), some (.int (nI ca)), some (.int (nI cb)), some (.int (nI t)), some (.int (nI bo)), some (.int (nI lf)), some (.int (nI ri)), some (.int (f + (nI (kg ke (y * 5 + j))))), some (.int (nI y)), some (.int ((nI j) + 1))]) (st1 := []) (M1 := (mk_M (cT im le ln ys vt nu nn rf vw vq yc yh yg) (kr (he, ke, ki, fi, fa, or, mi, a, g, l, w, s)) m kk q)) (fun f => rfl) ?_
    refine me_l (fun q_ => [some (.ref 117), some (.int (nI ca)), some (.int (nI cb)), some (.int (nI t)), some (.int (nI bo)), some (.int (nI lf)), some (.int (nI ri)), some (.int (f + (nI (kg ke (y * 5 + j))))), some (.int (nI y)), some (.int q_)]) (nI_add j 1) ?_
    refine me_seg 1 (pc1 := 60) (ls1 := [some (.ref 117), some (.int (nI ca)), some (.int (nI cb)), some (.int (nI t)), some (.int (nI bo)), some (.int (nI lf)), some (.int (nI ri)), some (.int (f + (nI (kg ke (y * 5 + j))))), some (.int (nI y)), some (.int (nI (j + 1)))]) (st1 := []) (M1 := (mk_M (cT im le ln ys vt nu nn rf vw vq yc yh yg) (kr (he, ke, ki, fi, fa, or, mi, a, g, l, w, s)) m kk q)) (fun f => rfl) ?_
    exact IH (j + 1) (f + (nI (kg ke (y * 5 + j)))) vw vq yc yh yg m (by omega) ⟨(by assumption), j1, by assumption, by assumption, by assumption⟩
set_option maxRecDepth 100000 in
theorem wc_kinL0 (he ke ki fi fa or : List Nat) (mi a g l w s : Nat) (im : Nat) (le : List Nat) (ln : Nat) (ys : List Int32) (vt : Int32) (nu : List Nat) (nn : Nat) (rf : List Nat) (kk : kG) (q : cR) (hA : iA (he, ke, ki, fi, fa, or, mi, a, g, l, w, s)) (hC : iC nu nn) (ca cb t bo lf ri : Nat) (hbo : bo < 5) (hri : ri < 5) (hlf : lf ≤ ri) (k : Nat) : ∀ (j : Nat) (f : Int32) (lo9 : Option Value) (vw vq : Int32) (yc yh yg : List Int32) (m : kG), j + k = bo + 1 → iJ m ys yc yh yg → mm_E 100 49 [some (.ref 117), some (.int (nI ca)), some (.int (nI cb)), some (.int (nI t)), some (.int (nI bo)), some (.int (nI lf)), some (.int (nI ri)), some (.int f), some (.int (nI j)), lo9] [] (mk_M (cT im le ln ys vt nu nn rf vw vq yc yh yg) (kr (he, ke, ki, fi, fa, or, mi, a, g, l, w, s)) m kk q) (pC isI (he, ke, ki, fi, fa, or, mi, a, g, l, w, s) im le ln ys vt nu nn rf kk q) := by
  obtain ⟨hV, hst⟩ := id hA
  have hst2 : s ≤ 999 := hst
  obtain ⟨v1, v2, v3, v4, v5, v6, v7, v8, v9, v10, v11, v12, v13, v14, v15, v16⟩ := id hV
  have v6l := kO_len mi v7 or v6
  obtain ⟨c1, c2, c3⟩ := id hC
  induction k with
  | zero =>
    intro j f lo9 vw vq yc yh yg m hj hJ
    obtain ⟨j0, j1, j2, j3, j4⟩ := id hJ
    refine me_seg 2 (pc1 := 53) (ls1 := [some (.ref 117), some (.int (nI ca)), some (.int (nI cb)), some (.int (nI t)), some (.int (nI bo)), some (.int (nI lf)), some (.int (nI ri)), some (.int f), some (.int (nI j)), lo9]) (st1 := [.int (nI bo), .int (nI j)]) (M1 := (mk_M (cT im le ln ys vt nu nn rf vw vq yc yh yg) (kr (he, ke, ki, fi, fa, or, mi, a, g, l, w, s)) m kk q)) (fun f => rfl) ?_
    refine me_t (C := (nI bo) < (nI j)) (nI_ltt (a := bo) (b := j) (by omega)) (fun f => rfl) ?_
    refine me_ret 2 (r := some (.int f)) (M1 := (mk_M (cT im le ln ys vt nu nn rf vw vq yc yh yg) (kr (he, ke, ki, fi, fa, or, mi, a, g, l, w, s)) m kk q)) (fun f => rfl) ?_
    exact ⟨⟨_, rfl⟩, _, _, _, _, _, _, rfl, ⟨(by assumption), j1, by assumption, by assumption, by assumption⟩⟩
  | succ k IH =>
    intro j f lo9 vw vq yc yh yg m hj hJ
    obtain ⟨j0, j1, j2, j3, j4⟩ := id hJ
    refine me_seg 2 (pc1 := 53) (ls1 := [some (.ref 117), some (.int (nI ca)), some (.int (nI cb)), some (.int (nI t)), some (.int (nI bo)), some (.int (nI lf)), some (.int (nI ri)), some (.int f), some (.int (nI j)), lo9]) (st1 := [.int (nI bo), .int (nI j)]) (M1 := (mk_M (cT im le ln ys vt nu nn rf vw vq yc yh yg) (kr (he, ke, ki, fi, fa, or, mi, a, g, l, w, s)) m kk q)) (fun f => rfl) ?_
    refine me_f (C := (nI bo) < (nI j)) (nI_ltf (a := bo) (b := j) (by omega)) (fun f => rfl) ?_
    refine me_seg 2 (pc1 := 60) (ls1 := [some (.ref 117), some (.int (nI ca)), some (.int (nI cb)), some (.int (nI t)), some (.int (nI bo)), some (.int (nI lf)), some (.int (nI ri)), some (.int f), some (.int (nI j)), some (.int (nI lf))]) (st1 := []) (M1 := (mk_M (cT im le ln ys vt nu nn rf vw vq yc yh yg) (kr (he, ke, ki, fi, fa, or, mi, a, g, l, w, s)) m kk q)) (fun f => rfl) ?_
    exact wc_kinL1 he ke ki fi fa or mi a g l w s im le ln ys vt nu nn rf kk q hA hC ca cb t bo lf ri hbo hri hlf j (by omega) (fun f lo9 vw vq yc yh yg m hJ => IH (j + 1) f lo9 vw vq yc yh yg m (by omega) hJ) (ri + 1 - lf) lf f vw vq yc yh yg m (by omega) ⟨(by assumption), j1, by assumption, by assumption, by assumption⟩
set_option maxRecDepth 100000 in
theorem wc_kin (he ke ki fi fa or : List Nat) (mi a g l w s : Nat) (im : Nat) (le : List Nat) (ln : Nat) (ys : List Int32) (vt : Int32) (nu : List Nat) (nn : Nat) (rf : List Nat) (kk : kG) (q : cR) (hA : iA (he, ke, ki, fi, fa, or, mi, a, g, l, w, s)) (hC : iC nu nn) (vw vq : Int32) (yc yh yg : List Int32) (m : kG) (hJ : iJ m ys yc yh yg) (ca cb : Nat) (h1 : ca < 25) (h2 : cb < 25) : mm_E 100 0 [some (.ref 117), some (.int (nI ca)), some (.int (nI cb)), none, none, none, none, none, none, none] [] (mk_M (cT im le ln ys vt nu nn rf vw vq yc yh yg) (kr (he, ke, ki, fi, fa, or, mi, a, g, l, w, s)) m kk q) (pC isI (he, ke, ki, fi, fa, or, mi, a, g, l, w, s) im le ln ys vt nu nn rf kk q) := by
  obtain ⟨hV, hst⟩ := id hA
  have hst2 : s ≤ 999 := hst
  obtain ⟨v1, v2, v3, v4, v5, v6, v7, v8, v9, v10, v11, v12, v13, v14, v15, v16⟩ := id hV
  have v6l := kO_len mi v7 or v6
  obtain ⟨c1, c2, c3⟩ := id hC
  obtain ⟨j0, j1, j2, j3, j4⟩ := id hJ
  refine me_seg 3 (pc1 := 3) (ls1 := [some (.ref 117), some (.int (nI ca)), some (.int (nI cb)), none, none, none, none, none, none, none]) (st1 := [.int ((nI ca) / (5 : Int32))]) (M1 := (mk_M (cT im le ln ys vt nu nn rf vw vq yc yh yg) (kr (he, ke, ki, fi, fa, or, mi, a, g, l, w, s)) m kk q)) (fun f => rfl) ?_
  refine me_v (pk_div (a := ca) (d := 5) (by omega) (by decide) (by decide)) ?_
  refine me_seg 3 (pc1 := 6) (ls1 := [some (.ref 117), some (.int (nI ca)), some (.int (nI cb)), none, none, none, none, none, none, none]) (st1 := [.int ((nI cb) / (5 : Int32)), .int (nI (ca / 5))]) (M1 := (mk_M (cT im le ln ys vt nu nn rf vw vq yc yh yg) (kr (he, ke, ki, fi, fa, or, mi, a, g, l, w, s)) m kk q)) (fun f => rfl) ?_
  refine me_v (pk_div (a := cb) (d := 5) (by omega) (by decide) (by decide)) ?_
  refine me_seg 1 (pc1 := 9) (ls1 := [some (.ref 117), some (.int (nI ca)), some (.int (nI cb)), none, none, none, none, none, none, none]) (st1 := [.int (if (nI (cb / 5)) < (nI (ca / 5)) then (nI (cb / 5)) else (nI (ca / 5)))]) (M1 := (mk_M (cT im le ln ys vt nu nn rf vw vq yc yh yg) (kr (he, ke, ki, fi, fa, or, mi, a, g, l, w, s)) m kk q)) (fun f => rfl) ?_
  refine me_v (k_min (a := ca / 5) (b := cb / 5) (by omega) (by omega)) ?_
  refine me_seg 4 (pc1 := 13) (ls1 := [some (.ref 117), some (.int (nI ca)), some (.int (nI cb)), some (.int (nI (min (ca / 5) (cb / 5)))), none, none, none, none, none, none]) (st1 := [.int ((nI ca) / (5 : Int32))]) (M1 := (mk_M (cT im le ln ys vt nu nn rf vw vq yc yh yg) (kr (he, ke, ki, fi, fa, or, mi, a, g, l, w, s)) m kk q)) (fun f => rfl) ?_
  refine me_v (pk_div (a := ca) (d := 5) (by omega) (by decide) (by decide)) ?_
  refine me_seg 3 (pc1 := 16) (ls1 := [some (.ref 117), some (.int (nI ca)), some (.int (nI cb)), some (.int (nI (min (ca / 5) (cb / 5)))), none, none, none, none, none, none]) (st1 := [.int ((nI cb) / (5 : Int32)), .int (nI (ca / 5))]) (M1 := (mk_M (cT im le ln ys vt nu nn rf vw vq yc yh yg) (kr (he, ke, ki, fi, fa, or, mi, a, g, l, w, s)) m kk q)) (fun f => rfl) ?_
  refine me_v (pk_div (a := cb) (d := 5) (by omega) (by decide) (by decide)) ?_
  refine me_seg 1 (pc1 := 19) (ls1 := [some (.ref 117), some (.int (nI ca)), some (.int (nI cb)), some (.int (nI (min (ca / 5) (cb / 5)))), none, none, none, none, none, none]) (st1 := [.int (if (nI (ca / 5)) < (nI (cb / 5)) then (nI (cb / 5)) else (nI (ca / 5)))]) (M1 := (mk_M (cT im le ln ys vt nu nn rf vw vq yc yh yg) (kr (he, ke, ki, fi, fa, or, mi, a, g, l, w, s)) m kk q)) (fun f => rfl) ?_
  refine me_v (k_max (a := ca / 5) (b := cb / 5) (by omega) (by omega)) ?_
  refine me_seg 4 (pc1 := 24) (ls1 := [some (.ref 117), some (.int (nI ca)), some (.int (nI cb)), some (.int (nI (min (ca / 5) (cb / 5)))), some (.int (nI (max (ca / 5) (cb / 5)))), none, none, none, none, none]) (st1 := [.int ((nI ca) - (nI ca) / (5 : Int32) * (5 : Int32))]) (M1 := (mk_M (cT im le ln ys vt nu nn rf vw vq yc yh yg) (kr (he, ke, ki, fi, fa, or, mi, a, g, l, w, s)) m kk q)) (fun f => rfl) ?_
  refine me_v (pk_rem (a := ca) (d := 5) (by omega) (by decide) (by decide)) ?_
  refine me_seg 3 (pc1 := 27) (ls1 := [some (.ref 117), some (.int (nI ca)), some (.int (nI cb)), some (.int (nI (min (ca / 5) (cb / 5)))), some (.int (nI (max (ca / 5) (cb / 5)))), none, none, none, none, none]) (st1 := [.int ((nI cb) - (nI cb) / (5 : Int32) * (5 : Int32)), .int (nI (ca % 5))]) (M1 := (mk_M (cT im le ln ys vt nu nn rf vw vq yc yh yg) (kr (he, ke, ki, fi, fa, or, mi, a, g, l, w, s)) m kk q)) (fun f => rfl) ?_
  refine me_v (pk_rem (a := cb) (d := 5) (by omega) (by decide) (by decide)) ?_
  refine me_seg 1 (pc1 := 30) (ls1 := [some (.ref 117), some (.int (nI ca)), some (.int (nI cb)), some (.int (nI (min (ca / 5) (cb / 5)))), some (.int (nI (max (ca / 5) (cb / 5)))), none, none, none, none, none]) (st1 := [.int (if (nI (cb % 5)) < (nI (ca % 5)) then (nI (cb % 5)) else (nI (ca % 5)))]) (M1 := (mk_M (cT im le ln ys vt nu nn rf vw vq yc yh yg) (kr (he, ke, ki, fi, fa, or, mi, a, g, l, w, s)) m kk q)) (fun f => rfl) ?_
  refine me_v (k_min (a := ca % 5) (b := cb % 5) (by omega) (by omega)) ?_
  refine me_seg 4 (pc1 := 35) (ls1 := [some (.ref 117), some (.int (nI ca)), some (.int (nI cb)), some (.int (nI (min (ca / 5) (cb / 5)))), some (.int (nI (max (ca / 5) (cb / 5)))), some (.int (nI (min (ca % 5) (cb % 5)))), none, none, none, none]) (st1 := [.int ((nI ca) - (nI ca) / (5 : Int32) * (5 : Int32))]) (M1 := (mk_M (cT im le ln ys vt nu nn rf vw vq yc yh yg) (kr (he, ke, ki, fi, fa, or, mi, a, g, l, w, s)) m kk q)) (fun f => rfl) ?_
  refine me_v (pk_rem (a := ca) (d := 5) (by omega) (by decide) (by decide)) ?_
  refine me_seg 3 (pc1 := 38) (ls1 := [some (.ref 117), some (.int (nI ca)), some (.int (nI cb)), some (.int (nI (min (ca / 5) (cb / 5)))), some (.int (nI (max (ca / 5) (cb / 5)))), some (.int (nI (min (ca % 5) (cb % 5)))), none, none, none, none]) (st1 := [.int ((nI cb) - (nI cb) / (5 : Int32) * (5 : Int32)), .int (nI (ca % 5))]) (M1 := (mk_M (cT im le ln ys vt nu nn rf vw vq yc yh yg) (kr (he, ke, ki, fi, fa, or, mi, a, g, l, w, s)) m kk q)) (fun f => rfl) ?_
  refine me_v (pk_rem (a := cb) (d := 5) (by omega) (by decide) (by decide)) ?_
  refine me_seg 1 (pc1 := 41) (ls1 := [some (.ref 117), some (.int (nI ca)), some (.int (nI cb)), some (.int (nI (min (ca / 5) (cb / 5)))), some (.int (nI (max (ca / 5) (cb / 5)))), some (.int (nI (min (ca % 5) (cb % 5)))), none, none, none, none]) (st1 := [.int (if (nI (ca % 5)) < (nI (cb % 5)) then (nI (cb % 5)) else (nI (ca % 5)))]) (M1 := (mk_M (cT im le ln ys vt nu nn rf vw vq yc yh yg) (kr (he, ke, ki, fi, fa, or, mi, a, g, l, w, s)) m kk q)) (fun f => rfl) ?_
  refine me_v (k_max (a := ca % 5) (b := cb % 5) (by omega) (by omega)) ?_
  refine me_seg 5 (pc1 := 49) (ls1 := [some (.ref 117), some (.int (nI ca)), some (.int (nI cb)), some (.int (nI (min (ca / 5) (cb / 5)))), some (.int (nI (max (ca / 5) (cb / 5)))), some (.int (nI (min (ca % 5) (cb % 5)))), some (.int (nI (max (ca % 5) (cb % 5)))), some (.int 0), some (.int (nI (min (ca / 5) (cb / 5)))), none]) (st1 := []) (M1 := (mk_M (cT im le ln ys vt nu nn rf vw vq yc yh yg) (kr (he, ke, ki, fi, fa, or, mi, a, g, l, w, s)) m kk q)) (fun f => rfl) ?_
  exact wc_kinL0 he ke ki fi fa or mi a g l w s im le ln ys vt nu nn rf kk q hA hC ca cb (min (ca / 5) (cb / 5)) (max (ca / 5) (cb / 5)) (min (ca % 5) (cb % 5)) (max (ca % 5) (cb % 5)) (by omega) (by omega) (by omega) (max (ca / 5) (cb / 5) + 1 - min (ca / 5) (cb / 5)) (min (ca / 5) (cb / 5)) 0 none vw vq yc yh yg m (by omega) ⟨(by assumption), j1, by assumption, by assumption, by assumption⟩
set_option maxRecDepth 100000 in
theorem wc_far_0 (he ke ki fi fa or : List Nat) (mi a g l w s : Nat) (im : Nat) (le : List Nat) (ln : Nat) (ys : List Int32) (vt : Int32) (nu : List Nat) (nn : Nat) (rf : List Nat) (kk : kG) (q : cR) (hA : iA (he, ke, ki, fi, fa, or, mi, a, g, l, w, s)) (hC : iC nu nn) (vw vq : Int32) (yc yh yg : List Int32) (m : kG) (hJ : iJ m ys yc yh yg) : mm_E 97 0 [some (.ref 100), some (.int 0)] [] (mk_M (cT im le ln ys vt nu nn rf vw vq yc yh yg) (kr (he, ke, ki, fi, fa, or, mi, a, g, l, w, s)) m kk q) (pC isI (he, ke, ki, fi, fa, or, mi, a, g, l, w, s) im le ln ys vt nu nn rf kk q) := by
  obtain ⟨hV, hst⟩ := id hA
  have hst2 : s ≤ 999 := hst
  obtain ⟨v1, v2, v3, v4, v5, v6, v7, v8, v9, v10, v11, v12, v13, v14, v15, v16⟩ := id hV
  have v6l := kO_len mi v7 or v6
  obtain ⟨c1, c2, c3⟩ := id hC
  obtain ⟨j0, j1, j2, j3, j4⟩ := id hJ
  refine me_seg 4 (pc1 := 36) (ls1 := [some (.ref 100), some (.int 0)]) (st1 := [.ref 117]) (M1 := (mk_M (cT im le ln ys vt nu nn rf vw vq yc yh yg) (kr (he, ke, ki, fi, fa, or, mi, a, g, l, w, s)) m kk q)) (fun f => rfl) ?_
  refine me_call (y := 98) (y0 := 39) (L := [some (.ref 117), none, none]) (rest := []) (rr := some (.int ((if 0 ≤ ((nI (g / 5)) - (nI (a / 5))) then ((nI (g / 5)) - (nI (a / 5))) else 0 - ((nI (g / 5)) - (nI (a / 5)))) + (if 0 ≤ ((nI (g % 5)) - (nI (a % 5))) then ((nI (g % 5)) - (nI (a % 5))) else 0 - ((nI (g % 5)) - (nI (a % 5))))))) (M1 := (mk_M (cT im le ln ys vt nu nn rf vw vq yc yh yg) (kr (he, ke, ki, fi, fa, or, mi, a, g, l, w, s)) m kk q)) (fun f => rfl) (by
      refine mr_seg 4 (pc1 := 6) (ls1 := [some (.ref 117), none, none]) (st1 := [.int ((nI g) / (5 : Int32))]) (M1 := (mk_M (cT im le ln ys vt nu nn rf vw vq yc yh yg) (kr (he, ke, ki, fi, fa, or, mi, a, g, l, w, s)) m kk q)) (fun f => rfl) ?_
      refine mr_v (pk_div (a := g) (d := 5) (by omega) (by decide) (by decide)) ?_
      refine mr_seg 4 (pc1 := 12) (ls1 := [some (.ref 117), none, none]) (st1 := [.int ((nI a) / (5 : Int32)), .int (nI (g / 5))]) (M1 := (mk_M (cT im le ln ys vt nu nn rf vw vq yc yh yg) (kr (he, ke, ki, fi, fa, or, mi, a, g, l, w, s)) m kk q)) (fun f => rfl) ?_
      refine mr_v (pk_div (a := a) (d := 5) (by omega) (by decide) (by decide)) ?_
      refine mr_seg 7 (pc1 := 23) (ls1 := [some (.ref 117), some (.int (if 0 ≤ ((nI (g / 5)) - (nI (a / 5))) then ((nI (g / 5)) - (nI (a / 5))) else 0 - ((nI (g / 5)) - (nI (a / 5))))), none]) (st1 := [.int ((nI g) - (nI g) / (5 : Int32) * (5 : Int32))]) (M1 := (mk_M (cT im le ln ys vt nu nn rf vw vq yc yh yg) (kr (he, ke, ki, fi, fa, or, mi, a, g, l, w, s)) m kk q)) (fun f => rfl) ?_
      refine mr_v (pk_rem (a := g) (d := 5) (by omega) (by decide) (by decide)) ?_
      refine mr_seg 4 (pc1 := 29) (ls1 := [some (.ref 117), some (.int (if 0 ≤ ((nI (g / 5)) - (nI (a / 5))) then ((nI (g / 5)) - (nI (a / 5))) else 0 - ((nI (g / 5)) - (nI (a / 5))))), none]) (st1 := [.int ((nI a) - (nI a) / (5 : Int32) * (5 : Int32)), .int (nI (g % 5))]) (M1 := (mk_M (cT im le ln ys vt nu nn rf vw vq yc yh yg) (kr (he, ke, ki, fi, fa, or, mi, a, g, l, w, s)) m kk q)) (fun f => rfl) ?_
      refine mr_v (pk_rem (a := a) (d := 5) (by omega) (by decide) (by decide)) ?_
      exact mr_ret 7 (fun f => rfl)) ?_
  refine me_ret 1 (r := some (.int ((if 0 ≤ ((nI (g / 5)) - (nI (a / 5))) then ((nI (g / 5)) - (nI (a / 5))) else 0 - ((nI (g / 5)) - (nI (a / 5)))) + (if 0 ≤ ((nI (g % 5)) - (nI (a % 5))) then ((nI (g % 5)) - (nI (a % 5))) else 0 - ((nI (g % 5)) - (nI (a % 5))))))) (M1 := (mk_M (cT im le ln ys vt nu nn rf vw vq yc yh yg) (kr (he, ke, ki, fi, fa, or, mi, a, g, l, w, s)) m kk q)) (fun f => rfl) ?_
  exact ⟨⟨_, rfl⟩, _, _, _, _, _, _, rfl, ⟨(by assumption), j1, by assumption, by assumption, by assumption⟩⟩
set_option maxRecDepth 100000 in
theorem wc_far_1 (he ke ki fi fa or : List Nat) (mi a g l w s : Nat) (im : Nat) (le : List Nat) (ln : Nat) (ys : List Int32) (vt : Int32) (nu : List Nat) (nn : Nat) (rf : List Nat) (kk : kG) (q : cR) (hA : iA (he, ke, ki, fi, fa, or, mi, a, g, l, w, s)) (hC : iC nu nn) (vw vq : Int32) (yc yh yg : List Int32) (m : kG) (hJ : iJ m ys yc yh yg) : mm_E 97 0 [some (.ref 100), some (.int 1)] [] (mk_M (cT im le ln ys vt nu nn rf vw vq yc yh yg) (kr (he, ke, ki, fi, fa, or, mi, a, g, l, w, s)) m kk q) (pC isI (he, ke, ki, fi, fa, or, mi, a, g, l, w, s) im le ln ys vt nu nn rf kk q) := by
  obtain ⟨hV, hst⟩ := id hA
  have hst2 : s ≤ 999 := hst
  obtain ⟨v1, v2, v3, v4, v5, v6, v7, v8, v9, v10, v11, v12, v13, v14, v15, v16⟩ := id hV
  have v6l := kO_len mi v7 or v6
  obtain ⟨c1, c2, c3⟩ := id hC
  obtain ⟨j0, j1, j2, j3, j4⟩ := id hJ
  refine me_seg 4 (pc1 := 44) (ls1 := [some (.ref 100), some (.int 1)]) (st1 := [.ref 117]) (M1 := (mk_M (cT im le ln ys vt nu nn rf vw vq yc yh yg) (kr (he, ke, ki, fi, fa, or, mi, a, g, l, w, s)) m kk q)) (fun f => rfl) ?_
  refine me_callE (y := 99) (y0 := 47) (L := [some (.ref 117), none, none]) (rest := []) (fun f => rfl) (wc_tall he ke ki fi fa or mi a g l w s im le ln ys vt nu nn rf kk q hA hC vw vq yc yh yg m ⟨(by assumption), j1, by assumption, by assumption, by assumption⟩) ?_
  rintro _ _ ⟨⟨w_1, rfl⟩, vw_1, vq_1, yc_1, yh_1, yg_1, m_1, rfl, hJ_1⟩
  obtain ⟨j0_1, j1_1, j2_1, j3_1, j4_1⟩ := id hJ_1
  refine me_ret 1 (r := some (.int w_1)) (M1 := (mk_M (cT im le ln ys vt nu nn rf vw_1 vq_1 yc_1 yh_1 yg_1) (kr (he, ke, ki, fi, fa, or, mi, a, g, l, w, s)) m_1 kk q)) (fun f => rfl) ?_
  exact ⟨⟨_, rfl⟩, _, _, _, _, _, _, rfl, ⟨(by assumption), j1, by assumption, by assumption, by assumption⟩⟩
set_option maxRecDepth 100000 in
theorem wc_far_2 (he ke ki fi fa or : List Nat) (mi a g l w s : Nat) (im : Nat) (le : List Nat) (ln : Nat) (ys : List Int32) (vt : Int32) (nu : List Nat) (nn : Nat) (rf : List Nat) (kk : kG) (q : cR) (hA : iA (he, ke, ki, fi, fa, or, mi, a, g, l, w, s)) (hC : iC nu nn) (vw vq : Int32) (yc yh yg : List Int32) (m : kG) (hJ : iJ m ys yc yh yg) : mm_E 97 0 [some (.ref 100), some (.int 2)] [] (mk_M (cT im le ln ys vt nu nn rf vw vq yc yh yg) (kr (he, ke, ki, fi, fa, or, mi, a, g, l, w, s)) m kk q) (pC isI (he, ke, ki, fi, fa, or, mi, a, g, l, w, s) im le ln ys vt nu nn rf kk q) := by
  obtain ⟨hV, hst⟩ := id hA
  have hst2 : s ≤ 999 := hst
  obtain ⟨v1, v2, v3, v4, v5, v6, v7, v8, v9, v10, v11, v12, v13, v14, v15, v16⟩ := id hV
  have v6l := kO_len mi v7 or v6
  obtain ⟨c1, c2, c3⟩ := id hC
  obtain ⟨j0, j1, j2, j3, j4⟩ := id hJ
  refine me_seg 6 (pc1 := 55) (ls1 := [some (.ref 100), some (.int 2)]) (st1 := [.int 24, .int 0, .ref 117]) (M1 := (mk_M (cT im le ln ys vt nu nn rf vw vq yc yh yg) (kr (he, ke, ki, fi, fa, or, mi, a, g, l, w, s)) m kk q)) (fun f => rfl) ?_
  refine me_callE (y := 100) (y0 := 58) (L := [some (.ref 117), some (.int 0), some (.int 24), none, none, none, none, none, none, none]) (rest := []) (fun f => rfl) (wc_kin he ke ki fi fa or mi a g l w s im le ln ys vt nu nn rf kk q hA hC vw vq yc yh yg m ⟨(by assumption), j1, by assumption, by assumption, by assumption⟩ 0 24 (by omega) (by omega)) ?_
  rintro _ _ ⟨⟨w_1, rfl⟩, vw_1, vq_1, yc_1, yh_1, yg_1, m_1, rfl, hJ_1⟩
  obtain ⟨j0_1, j1_1, j2_1, j3_1, j4_1⟩ := id hJ_1
  refine me_ret 1 (r := some (.int w_1)) (M1 := (mk_M (cT im le ln ys vt nu nn rf vw_1 vq_1 yc_1 yh_1 yg_1) (kr (he, ke, ki, fi, fa, or, mi, a, g, l, w, s)) m_1 kk q)) (fun f => rfl) ?_
  exact ⟨⟨_, rfl⟩, _, _, _, _, _, _, rfl, ⟨(by assumption), j1, by assumption, by assumption, by assumption⟩⟩
set_option maxRecDepth 100000 in
theorem wc_far_3 (he ke ki fi fa or : List Nat) (mi a g l w s : Nat) (im : Nat) (le : List Nat) (ln : Nat) (ys : List Int32) (vt : Int32) (nu : List Nat) (nn : Nat) (rf : List Nat) (kk : kG) (q : cR) (hA : iA (he, ke, ki, fi, fa, or, mi, a, g, l, w, s)) (hC : iC nu nn) (vw vq : Int32) (yc yh yg : List Int32) (m : kG) (hJ : iJ m ys yc yh yg) : mm_E 97 0 [some (.ref 100), some (.int 3)] [] (mk_M (cT im le ln ys vt nu nn rf vw vq yc yh yg) (kr (he, ke, ki, fi, fa, or, mi, a, g, l, w, s)) m kk q) (pC isI (he, ke, ki, fi, fa, or, mi, a, g, l, w, s) im le ln ys vt nu nn rf kk q) := by
  obtain ⟨hV, hst⟩ := id hA
  have hst2 : s ≤ 999 := hst
  obtain ⟨v1, v2, v3, v4, v5, v6, v7, v8, v9, v10, v11, v12, v13, v14, v15, v16⟩ := id hV
  have v6l := kO_len mi v7 or v6
  obtain ⟨c1, c2, c3⟩ := id hC
  obtain ⟨j0, j1, j2, j3, j4⟩ := id hJ
  refine me_seg 10 (pc1 := 77) (ls1 := [some (.ref 100), some (.int 3)]) (st1 := [.int (nI g), .int (nI a), .ref 117]) (M1 := (mk_M (cT im le ln ys vt nu nn rf vw vq yc yh yg) (kr (he, ke, ki, fi, fa, or, mi, a, g, l, w, s)) m kk q)) (fun f => rfl) ?_
  refine me_callE (y := 100) (y0 := 80) (L := [some (.ref 117), some (.int (nI a)), some (.int (nI g)), none, none, none, none, none, none, none]) (rest := []) (fun f => rfl) (wc_kin he ke ki fi fa or mi a g l w s im le ln ys vt nu nn rf kk q hA hC vw vq yc yh yg m ⟨(by assumption), j1, by assumption, by assumption, by assumption⟩ a g (by omega) (by omega)) ?_
  rintro _ _ ⟨⟨w_1, rfl⟩, vw_1, vq_1, yc_1, yh_1, yg_1, m_1, rfl, hJ_1⟩
  obtain ⟨j0_1, j1_1, j2_1, j3_1, j4_1⟩ := id hJ_1
  refine me_ret 1 (r := some (.int w_1)) (M1 := (mk_M (cT im le ln ys vt nu nn rf vw_1 vq_1 yc_1 yh_1 yg_1) (kr (he, ke, ki, fi, fa, or, mi, a, g, l, w, s)) m_1 kk q)) (fun f => rfl) ?_
  exact ⟨⟨_, rfl⟩, _, _, _, _, _, _, rfl, ⟨(by assumption), j1, by assumption, by assumption, by assumption⟩⟩
set_option maxRecDepth 100000 in
theorem wc_ecL (he ke ki fi fa or : List Nat) (mi a g l w s : Nat) (im : Nat) (le : List Nat) (ln : Nat) (ys : List Int32) (vt : Int32) (nu : List Nat) (nn : Nat) (rf : List Nat) (kk : kG) (q : cR) (hA : iA (he, ke, ki, fi, fa, or, mi, a, g, l, w, s)) (hC : iC nu nn) (k : Nat) : ∀ (j : Nat) (v : Int32) (lo3 : Option Value) (vw vq : Int32) (yc yh yg : List Int32) (m : kG), j + k = 4 → iJ m ys yc yh yg → mm_E 102 13 [some (.ref 117), some (.int v), some (.int (nI j)), lo3] [] (mk_M (cT im le ln ys vt nu nn rf vw vq yc yh yg) (kr (he, ke, ki, fi, fa, or, mi, a, g, l, w, s)) m kk q) (pC isI (he, ke, ki, fi, fa, or, mi, a, g, l, w, s) im le ln ys vt nu nn rf kk q) := by
  obtain ⟨hV, hst⟩ := id hA
  have hst2 : s ≤ 999 := hst
  obtain ⟨v1, v2, v3, v4, v5, v6, v7, v8, v9, v10, v11, v12, v13, v14, v15, v16⟩ := id hV
  have v6l := kO_len mi v7 or v6
  obtain ⟨c1, c2, c3⟩ := id hC
  induction k with
  | zero =>
    intro j v lo3 vw vq yc yh yg m hj hJ
    obtain ⟨j0, j1, j2, j3, j4⟩ := id hJ
    have v60 := kO_lt5 mi v7 or v6 0 (by omega)
    refine me_seg 2 (pc1 := 15) (ls1 := [some (.ref 117), some (.int v), some (.int (nI j)), lo3]) (st1 := [.int 4, .int (nI j)]) (M1 := (mk_M (cT im le ln ys vt nu nn rf vw vq yc yh yg) (kr (he, ke, ki, fi, fa, or, mi, a, g, l, w, s)) m kk q)) (fun f => rfl) ?_
    refine me_t (C := 4 ≤ (nI j)) (nI_let (a := 4) (b := j) (by omega)) (fun f => rfl) ?_
    refine me_ret 2 (r := some (.int v)) (M1 := (mk_M (cT im le ln ys vt nu nn rf vw vq yc yh yg) (kr (he, ke, ki, fi, fa, or, mi, a, g, l, w, s)) m kk q)) (fun f => rfl) ?_
    exact ⟨⟨_, rfl⟩, _, _, _, _, _, _, rfl, ⟨(by assumption), j1, by assumption, by assumption, by assumption⟩⟩
  | succ k IH =>
    intro j v lo3 vw vq yc yh yg m hj hJ
    obtain ⟨j0, j1, j2, j3, j4⟩ := id hJ
    have v60 := kO_lt5 mi v7 or v6 0 (by omega)
    refine me_seg 2 (pc1 := 15) (ls1 := [some (.ref 117), some (.int v), some (.int (nI j)), lo3]) (st1 := [.int 4, .int (nI j)]) (M1 := (mk_M (cT im le ln ys vt nu nn rf vw vq yc yh yg) (kr (he, ke, ki, fi, fa, or, mi, a, g, l, w, s)) m kk q)) (fun f => rfl) ?_
    refine me_f (C := 4 ≤ (nI j)) (nI_lef (a := 4) (b := j) (by omega)) (fun f => rfl) ?_
    refine me_seg 3 (pc1 := 23) (ls1 := [some (.ref 117), some (.int v), some (.int (nI j)), lo3]) (st1 := [.int (nI j), .int (nI a)]) (M1 := (mk_M (cT im le ln ys vt nu nn rf vw vq yc yh yg) (kr (he, ke, ki, fi, fa, or, mi, a, g, l, w, s)) m kk q)) (fun f => rfl) ?_
    refine me_call (y := 48) (y0 := 26) (L := [some (.int (nI a)), some (.int (nI j))]) (rest := []) (rr := some (.int (kI (kbey a j)))) (M1 := (mk_M (cT im le ln ys vt nu nn rf vw vq yc yh yg) (kr (he, ke, ki, fi, fa, or, mi, a, g, l, w, s)) m kk q)) (fun f => rfl) (kc_bey (c := a) (w := j) (by omega) (by omega) _) ?_
    rcases hb_1 : kbey a j with _ | t_1
    · refine me_v (show kI none = (-9 : Int32) from rfl) ?_
      refine me_seg 5 (pc1 := 60) (ls1 := [some (.ref 117), some (.int v), some (.int ((nI j) + 1)), some (.int (-9))]) (st1 := []) (M1 := (mk_M (cT im le ln ys vt nu nn rf vw vq yc yh yg) (kr (he, ke, ki, fi, fa, or, mi, a, g, l, w, s)) m kk q)) (fun f => rfl) ?_
      refine me_l (fun q_ => [some (.ref 117), some (.int v), some (.int q_), some (.int (-9))]) (nI_add j 1) ?_
      refine me_seg 1 (pc1 := 13) (ls1 := [some (.ref 117), some (.int v), some (.int (nI (j + 1))), some (.int (-9))]) (st1 := []) (M1 := (mk_M (cT im le ln ys vt nu nn rf vw vq yc yh yg) (kr (he, ke, ki, fi, fa, or, mi, a, g, l, w, s)) m kk q)) (fun f => rfl) ?_
      exact IH (j + 1) v (some (.int (-9))) vw vq yc yh yg m (by omega) ⟨(by assumption), j1, by assumption, by assumption, by assumption⟩
    · have ht_1 := kbey_lt (by omega) hb_1
      refine me_v (show kI (some t_1) = nI t_1 from rfl) ?_
      refine me_seg 3 (pc1 := 30) (ls1 := [some (.ref 117), some (.int v), some (.int (nI j)), some (.int (nI t_1))]) (st1 := [.int (-9), .int (nI t_1)]) (M1 := (mk_M (cT im le ln ys vt nu nn rf vw vq yc yh yg) (kr (he, ke, ki, fi, fa, or, mi, a, g, l, w, s)) m kk q)) (fun f => rfl) ?_
      refine me_f (C := (nI t_1) = (-9)) (k_nc (by omega) (by decide)) (fun f => rfl) ?_
      refine me_seg 2 (pc1 := 35) (ls1 := [some (.ref 117), some (.int v), some (.int (nI j)), some (.int (nI t_1))]) (st1 := [.int (nI t_1), .ref 117]) (M1 := (mk_M (cT im le ln ys vt nu nn rf vw vq yc yh yg) (kr (he, ke, ki, fi, fa, or, mi, a, g, l, w, s)) m kk q)) (fun f => rfl) ?_
      refine me_call (y := 54) (y0 := 38) (L := [some (.ref 117), some (.int (nI t_1)), none]) (rest := []) (rr := some (.int (nI (kload he ke a w t_1)))) (M1 := (mk_M (cT im le ln ys vt nu nn rf vw vq yc yh yg) (kr (he, ke, ki, fi, fa, or, mi, a, g, l, w, s)) m kk q)) (fun f => rfl) (kl_n (cT im le ln ys vt nu nn rf vw vq yc yh yg) m kk q (kc_load_n he ke ki fi fa or mi a g l w s t_1 (by omega) hV)) ?_
      refine me_seg 4 (pc1 := 44) (ls1 := [some (.ref 117), some (.int v), some (.int (nI j)), some (.int (nI t_1))]) (st1 := [.int 0, .ref 123, .ref 117, .int (nI (kload he ke a w t_1))]) (M1 := (mk_M (cT im le ln ys vt nu nn rf vw vq yc yh yg) (kr (he, ke, ki, fi, fa, or, mi, a, g, l, w, s)) m kk q)) (fun f => rfl) ?_
      refine me_ldn (xs := (or.map nI)) rfl rfl (k := 0) (by omega) (kg_ok (by omega)) ?_
      refine me_call (y := 55) (y0 := 48) (L := [some (.ref 117), some (.int (nI (kg or 0)))]) (rest := [.int (nI (kload he ke a w t_1))]) (rr := some (.int (nI (khold (kg ki (kg or 0)) (kg fi (kg or 0)))))) (M1 := (mk_M (cT im le ln ys vt nu nn rf vw vq yc yh yg) (kr (he, ke, ki, fi, fa, or, mi, a, g, l, w, s)) m kk q)) (fun f => rfl) (kl_n (cT im le ln ys vt nu nn rf vw vq yc yh yg) m kk q (kc_str_n he ke ki fi fa or mi a g l w s (kg or 0) (by omega) hV)) ?_
      refine me_if (C := (nI (khold (kg ki (kg or 0)) (kg fi (kg or 0)))) < (nI (kload he ke a w t_1))) (fun f => rfl) (fun h2 => ?_) (fun h2 => ?_)
      · refine me_seg 1 (pc1 := 60) (ls1 := [some (.ref 117), some (.int v), some (.int ((nI j) + 1)), some (.int (nI t_1))]) (st1 := []) (M1 := (mk_M (cT im le ln ys vt nu nn rf vw vq yc yh yg) (kr (he, ke, ki, fi, fa, or, mi, a, g, l, w, s)) m kk q)) (fun f => rfl) ?_
        refine me_l (fun q_ => [some (.ref 117), some (.int v), some (.int q_), some (.int (nI t_1))]) (nI_add j 1) ?_
        refine me_seg 1 (pc1 := 13) (ls1 := [some (.ref 117), some (.int v), some (.int (nI (j + 1))), some (.int (nI t_1))]) (st1 := []) (M1 := (mk_M (cT im le ln ys vt nu nn rf vw vq yc yh yg) (kr (he, ke, ki, fi, fa, or, mi, a, g, l, w, s)) m kk q)) (fun f => rfl) ?_
        exact IH (j + 1) v (some (.int (nI t_1))) vw vq yc yh yg m (by omega) ⟨(by assumption), j1, by assumption, by assumption, by assumption⟩
      · refine me_seg 7 (pc1 := 60) (ls1 := [some (.ref 117), some (.int (v ||| ((1 : Int32) <<< ((nI t_1) &&& 31)))), some (.int ((nI j) + 1)), some (.int (nI t_1))]) (st1 := []) (M1 := (mk_M (cT im le ln ys vt nu nn rf vw vq yc yh yg) (kr (he, ke, ki, fi, fa, or, mi, a, g, l, w, s)) m kk q)) (fun f => rfl) ?_
        refine me_l (fun q_ => [some (.ref 117), some (.int (v ||| ((1 : Int32) <<< ((nI t_1) &&& 31)))), some (.int q_), some (.int (nI t_1))]) (nI_add j 1) ?_
        refine me_seg 1 (pc1 := 13) (ls1 := [some (.ref 117), some (.int (v ||| ((1 : Int32) <<< ((nI t_1) &&& 31)))), some (.int (nI (j + 1))), some (.int (nI t_1))]) (st1 := []) (M1 := (mk_M (cT im le ln ys vt nu nn rf vw vq yc yh yg) (kr (he, ke, ki, fi, fa, or, mi, a, g, l, w, s)) m kk q)) (fun f => rfl) ?_
        exact IH (j + 1) (v ||| ((1 : Int32) <<< ((nI t_1) &&& 31))) (some (.int (nI t_1))) vw vq yc yh yg m (by omega) ⟨(by assumption), j1, by assumption, by assumption, by assumption⟩
set_option maxRecDepth 100000 in
theorem wc_ec (he ke ki fi fa or : List Nat) (mi a g l w s : Nat) (im : Nat) (le : List Nat) (ln : Nat) (ys : List Int32) (vt : Int32) (nu : List Nat) (nn : Nat) (rf : List Nat) (kk : kG) (q : cR) (hA : iA (he, ke, ki, fi, fa, or, mi, a, g, l, w, s)) (hC : iC nu nn) (vw vq : Int32) (yc yh yg : List Int32) (m : kG) (hJ : iJ m ys yc yh yg) : mm_E 102 0 [some (.ref 117), none, none, none] [] (mk_M (cT im le ln ys vt nu nn rf vw vq yc yh yg) (kr (he, ke, ki, fi, fa, or, mi, a, g, l, w, s)) m kk q) (pC isI (he, ke, ki, fi, fa, or, mi, a, g, l, w, s) im le ln ys vt nu nn rf kk q) := by
  obtain ⟨hV, hst⟩ := id hA
  have hst2 : s ≤ 999 := hst
  obtain ⟨v1, v2, v3, v4, v5, v6, v7, v8, v9, v10, v11, v12, v13, v14, v15, v16⟩ := id hV
  have v6l := kO_len mi v7 or v6
  obtain ⟨c1, c2, c3⟩ := id hC
  obtain ⟨j0, j1, j2, j3, j4⟩ := id hJ
  refine me_seg 2 (pc1 := 4) (ls1 := [some (.ref 117), none, none, none]) (st1 := [.int (nI mi)]) (M1 := (mk_M (cT im le ln ys vt nu nn rf vw vq yc yh yg) (kr (he, ke, ki, fi, fa, or, mi, a, g, l, w, s)) m kk q)) (fun f => rfl) ?_
  refine me_if (C := (nI mi) = 0) (fun f => rfl) (fun h1 => ?_) (fun h1 => ?_)
  · refine me_ret 2 (r := some (.int 0)) (M1 := (mk_M (cT im le ln ys vt nu nn rf vw vq yc yh yg) (kr (he, ke, ki, fi, fa, or, mi, a, g, l, w, s)) m kk q)) (fun f => rfl) ?_
    exact ⟨⟨_, rfl⟩, _, _, _, _, _, _, rfl, ⟨(by assumption), j1, by assumption, by assumption, by assumption⟩⟩
  · refine me_seg 4 (pc1 := 13) (ls1 := [some (.ref 117), some (.int 0), some (.int 0), none]) (st1 := []) (M1 := (mk_M (cT im le ln ys vt nu nn rf vw vq yc yh yg) (kr (he, ke, ki, fi, fa, or, mi, a, g, l, w, s)) m kk q)) (fun f => rfl) ?_
    exact wc_ecL he ke ki fi fa or mi a g l w s im le ln ys vt nu nn rf kk q hA hC 4 0 0 none vw vq yc yh yg m (by omega) ⟨(by assumption), j1, by assumption, by assumption, by assumption⟩
set_option maxRecDepth 100000 in
theorem wc_smL (he ke ki fi fa or : List Nat) (mi a g l w s : Nat) (im : Nat) (le : List Nat) (ln : Nat) (ys : List Int32) (vt : Int32) (nu : List Nat) (nn : Nat) (rf : List Nat) (kk : kG) (q : cR) (hA : iA (he, ke, ki, fi, fa, or, mi, a, g, l, w, s)) (hC : iC nu nn) (k : Nat) : ∀ (j : Nat) (v : Int32) (vw vq : Int32) (yc yh yg : List Int32) (m : kG), j + k = mi → iJ m ys yc yh yg → mm_E 103 4 [some (.ref 117), some (.int v), some (.int (nI j))] [] (mk_M (cT im le ln ys vt nu nn rf vw vq yc yh yg) (kr (he, ke, ki, fi, fa, or, mi, a, g, l, w, s)) m kk q) (pC isI (he, ke, ki, fi, fa, or, mi, a, g, l, w, s) im le ln ys vt nu nn rf kk q) := by
  obtain ⟨hV, hst⟩ := id hA
  have hst2 : s ≤ 999 := hst
  obtain ⟨v1, v2, v3, v4, v5, v6, v7, v8, v9, v10, v11, v12, v13, v14, v15, v16⟩ := id hV
  have v6l := kO_len mi v7 or v6
  obtain ⟨c1, c2, c3⟩ := id hC
  induction k with
  | zero =>
    intro j v vw vq yc yh yg m hj hJ
    obtain ⟨j0, j1, j2, j3, j4⟩ := id hJ
    refine me_seg 3 (pc1 := 9) (ls1 := [some (.ref 117), some (.int v), some (.int (nI j))]) (st1 := [.int (nI mi), .int (nI j)]) (M1 := (mk_M (cT im le ln ys vt nu nn rf vw vq yc yh yg) (kr (he, ke, ki, fi, fa, or, mi, a, g, l, w, s)) m kk q)) (fun f => rfl) ?_
    refine me_t (C := (nI mi) ≤ (nI j)) (nI_let (a := mi) (b := j) (by omega)) (fun f => rfl) ?_
    refine me_ret 2 (r := some (.int v)) (M1 := (mk_M (cT im le ln ys vt nu nn rf vw vq yc yh yg) (kr (he, ke, ki, fi, fa, or, mi, a, g, l, w, s)) m kk q)) (fun f => rfl) ?_
    exact ⟨⟨_, rfl⟩, _, _, _, _, _, _, rfl, ⟨(by assumption), j1, by assumption, by assumption, by assumption⟩⟩
  | succ k IH =>
    intro j v vw vq yc yh yg m hj hJ
    obtain ⟨j0, j1, j2, j3, j4⟩ := id hJ
    refine me_seg 3 (pc1 := 9) (ls1 := [some (.ref 117), some (.int v), some (.int (nI j))]) (st1 := [.int (nI mi), .int (nI j)]) (M1 := (mk_M (cT im le ln ys vt nu nn rf vw vq yc yh yg) (kr (he, ke, ki, fi, fa, or, mi, a, g, l, w, s)) m kk q)) (fun f => rfl) ?_
    refine me_f (C := (nI mi) ≤ (nI j)) (nI_lef (a := mi) (b := j) (by omega)) (fun f => rfl) ?_
    refine me_seg 2 (pc1 := 14) (ls1 := [some (.ref 117), some (.int v), some (.int (nI j))]) (st1 := [.int (nI j), .ref 117]) (M1 := (mk_M (cT im le ln ys vt nu nn rf vw vq yc yh yg) (kr (he, ke, ki, fi, fa, or, mi, a, g, l, w, s)) m kk q)) (fun f => rfl) ?_
    refine me_call (y := 55) (y0 := 17) (L := [some (.ref 117), some (.int (nI j))]) (rest := []) (rr := some (.int (nI (khold (kg ki j) (kg fi j))))) (M1 := (mk_M (cT im le ln ys vt nu nn rf vw vq yc yh yg) (kr (he, ke, ki, fi, fa, or, mi, a, g, l, w, s)) m kk q)) (fun f => rfl) (kl_n (cT im le ln ys vt nu nn rf vw vq yc yh yg) m kk q (kc_str_n he ke ki fi fa or mi a g l w s j (by omega) hV)) ?_
    refine me_seg 4 (pc1 := 24) (ls1 := [some (.ref 117), some (.int v), some (.int (nI j))]) (st1 := [.int ((nI w) + (13 : Int32)), .int (nI (khold (kg ki j) (kg fi j)))]) (M1 := (mk_M (cT im le ln ys vt nu nn rf vw vq yc yh yg) (kr (he, ke, ki, fi, fa, or, mi, a, g, l, w, s)) m kk q)) (fun f => rfl) ?_
    refine me_v (nI_add w 13) ?_
    refine me_if (C := (nI (khold (kg ki j) (kg fi j))) < (nI (w + 13))) (fun f => rfl) (fun h1 => ?_) (fun h1 => ?_)
    · refine me_seg 1 (pc1 := 36) (ls1 := [some (.ref 117), some (.int v), some (.int ((nI j) + 1))]) (st1 := []) (M1 := (mk_M (cT im le ln ys vt nu nn rf vw vq yc yh yg) (kr (he, ke, ki, fi, fa, or, mi, a, g, l, w, s)) m kk q)) (fun f => rfl) ?_
      refine me_l (fun q_ => [some (.ref 117), some (.int v), some (.int q_)]) (nI_add j 1) ?_
      refine me_seg 1 (pc1 := 4) (ls1 := [some (.ref 117), some (.int v), some (.int (nI (j + 1)))]) (st1 := []) (M1 := (mk_M (cT im le ln ys vt nu nn rf vw vq yc yh yg) (kr (he, ke, ki, fi, fa, or, mi, a, g, l, w, s)) m kk q)) (fun f => rfl) ?_
      exact IH (j + 1) v vw vq yc yh yg m (by omega) ⟨(by assumption), j1, by assumption, by assumption, by assumption⟩
    · refine me_seg 7 (pc1 := 36) (ls1 := [some (.ref 117), some (.int (v ||| ((1 : Int32) <<< ((nI j) &&& 31)))), some (.int ((nI j) + 1))]) (st1 := []) (M1 := (mk_M (cT im le ln ys vt nu nn rf vw vq yc yh yg) (kr (he, ke, ki, fi, fa, or, mi, a, g, l, w, s)) m kk q)) (fun f => rfl) ?_
      refine me_l (fun q_ => [some (.ref 117), some (.int (v ||| ((1 : Int32) <<< ((nI j) &&& 31)))), some (.int q_)]) (nI_add j 1) ?_
      refine me_seg 1 (pc1 := 4) (ls1 := [some (.ref 117), some (.int (v ||| ((1 : Int32) <<< ((nI j) &&& 31)))), some (.int (nI (j + 1)))]) (st1 := []) (M1 := (mk_M (cT im le ln ys vt nu nn rf vw vq yc yh yg) (kr (he, ke, ki, fi, fa, or, mi, a, g, l, w, s)) m kk q)) (fun f => rfl) ?_
      exact IH (j + 1) (v ||| ((1 : Int32) <<< ((nI j) &&& 31))) vw vq yc yh yg m (by omega) ⟨(by assumption), j1, by assumption, by assumption, by assumption⟩
set_option maxRecDepth 100000 in
theorem wc_sm (he ke ki fi fa or : List Nat) (mi a g l w s : Nat) (im : Nat) (le : List Nat) (ln : Nat) (ys : List Int32) (vt : Int32) (nu : List Nat) (nn : Nat) (rf : List Nat) (kk : kG) (q : cR) (hA : iA (he, ke, ki, fi, fa, or, mi, a, g, l, w, s)) (hC : iC nu nn) (vw vq : Int32) (yc yh yg : List Int32) (m : kG) (hJ : iJ m ys yc yh yg) : mm_E 103 0 [some (.ref 117), none, none] [] (mk_M (cT im le ln ys vt nu nn rf vw vq yc yh yg) (kr (he, ke, ki, fi, fa, or, mi, a, g, l, w, s)) m kk q) (pC isI (he, ke, ki, fi, fa, or, mi, a, g, l, w, s) im le ln ys vt nu nn rf kk q) := by
  obtain ⟨hV, hst⟩ := id hA
  have hst2 : s ≤ 999 := hst
  obtain ⟨v1, v2, v3, v4, v5, v6, v7, v8, v9, v10, v11, v12, v13, v14, v15, v16⟩ := id hV
  have v6l := kO_len mi v7 or v6
  obtain ⟨c1, c2, c3⟩ := id hC
  obtain ⟨j0, j1, j2, j3, j4⟩ := id hJ
  refine me_seg 4 (pc1 := 4) (ls1 := [some (.ref 117), some (.int 0), some (.int 0)]) (st1 := []) (M1 := (mk_M (cT im le ln ys vt nu nn rf vw vq yc yh yg) (kr (he, ke, ki, fi, fa, or, mi, a, g, l, w, s)) m kk q)) (fun f => rfl) ?_
  exact wc_smL he ke ki fi fa or mi a g l w s im le ln ys vt nu nn rf kk q hA hC mi 0 0 vw vq yc yh yg m (by omega) ⟨(by assumption), j1, by assumption, by assumption, by assumption⟩
set_option maxRecDepth 100000 in
theorem wc_clL (he ke ki fi fa or : List Nat) (mi a g l w s : Nat) (im : Nat) (le : List Nat) (ln : Nat) (ys : List Int32) (vt : Int32) (nu : List Nat) (nn : Nat) (rf : List Nat) (kk : kG) (q : cR) (hA : iA (he, ke, ki, fi, fa, or, mi, a, g, l, w, s)) (hC : iC nu nn) (k : Nat) : ∀ (j : Nat) (b : Nat) (vw vq : Int32) (yc yh yg : List Int32) (m : kG), j + k = mi → iJ m ys yc yh yg → b < mi → mm_E 104 16 [some (.ref 117), some (.int (nI b)), some (.int (nI j))] [] (mk_M (cT im le ln ys vt nu nn rf vw vq yc yh yg) (kr (he, ke, ki, fi, fa, or, mi, a, g, l, w, s)) m kk q) (pC isI (he, ke, ki, fi, fa, or, mi, a, g, l, w, s) im le ln ys vt nu nn rf kk q) := by
  obtain ⟨hV, hst⟩ := id hA
  have hst2 : s ≤ 999 := hst
  obtain ⟨v1, v2, v3, v4, v5, v6, v7, v8, v9, v10, v11, v12, v13, v14, v15, v16⟩ := id hV
  have v6l := kO_len mi v7 or v6
  obtain ⟨c1, c2, c3⟩ := id hC
  induction k with
  | zero =>
    intro j b vw vq yc yh yg m hj hJ g0
    obtain ⟨j0, j1, j2, j3, j4⟩ := id hJ
    refine me_seg 3 (pc1 := 21) (ls1 := [some (.ref 117), some (.int (nI b)), some (.int (nI j))]) (st1 := [.int (nI mi), .int (nI j)]) (M1 := (mk_M (cT im le ln ys vt nu nn rf vw vq yc yh yg) (kr (he, ke, ki, fi, fa, or, mi, a, g, l, w, s)) m kk q)) (fun f => rfl) ?_
    refine me_t (C := (nI mi) ≤ (nI j)) (nI_let (a := mi) (b := j) (by omega)) (fun f => rfl) ?_
    refine me_ret 2 (r := some (.int (nI b))) (M1 := (mk_M (cT im le ln ys vt nu nn rf vw vq yc yh yg) (kr (he, ke, ki, fi, fa, or, mi, a, g, l, w, s)) m kk q)) (fun f => rfl) ?_
    exact ⟨⟨_, rfl⟩, _, _, _, _, _, _, rfl, ⟨(by assumption), j1, by assumption, by assumption, by assumption⟩⟩
  | succ k IH =>
    intro j b vw vq yc yh yg m hj hJ g0
    obtain ⟨j0, j1, j2, j3, j4⟩ := id hJ
    refine me_seg 3 (pc1 := 21) (ls1 := [some (.ref 117), some (.int (nI b)), some (.int (nI j))]) (st1 := [.int (nI mi), .int (nI j)]) (M1 := (mk_M (cT im le ln ys vt nu nn rf vw vq yc yh yg) (kr (he, ke, ki, fi, fa, or, mi, a, g, l, w, s)) m kk q)) (fun f => rfl) ?_
    refine me_f (C := (nI mi) ≤ (nI j)) (nI_lef (a := mi) (b := j) (by omega)) (fun f => rfl) ?_
    refine me_seg 3 (pc1 := 29) (ls1 := [some (.ref 117), some (.int (nI b)), some (.int (nI j))]) (st1 := [.int (nI j), .ref 122]) (M1 := (mk_M (cT im le ln ys vt nu nn rf vw vq yc yh yg) (kr (he, ke, ki, fi, fa, or, mi, a, g, l, w, s)) m kk q)) (fun f => rfl) ?_
    refine me_ldn (xs := (fa.map nI)) rfl rfl (k := j) (by omega) (kg_ok (by omega)) ?_
    refine me_seg 3 (pc1 := 35) (ls1 := [some (.ref 117), some (.int (nI b)), some (.int (nI j))]) (st1 := [.int (nI b), .ref 122, .int (nI (kg fa j))]) (M1 := (mk_M (cT im le ln ys vt nu nn rf vw vq yc yh yg) (kr (he, ke, ki, fi, fa, or, mi, a, g, l, w, s)) m kk q)) (fun f => rfl) ?_
    refine me_ldn (xs := (fa.map nI)) rfl rfl (k := b) (by omega) (kg_ok (by omega)) ?_
    refine me_if (C := (nI (kg fa j)) ≤ (nI (kg fa b))) (fun f => rfl) (fun h1 => ?_) (fun h1 => ?_)
    · refine me_seg 1 (pc1 := 44) (ls1 := [some (.ref 117), some (.int (nI b)), some (.int ((nI j) + 1))]) (st1 := []) (M1 := (mk_M (cT im le ln ys vt nu nn rf vw vq yc yh yg) (kr (he, ke, ki, fi, fa, or, mi, a, g, l, w, s)) m kk q)) (fun f => rfl) ?_
      refine me_l (fun q_ => [some (.ref 117), some (.int (nI b)), some (.int q_)]) (nI_add j 1) ?_
      refine me_seg 1 (pc1 := 16) (ls1 := [some (.ref 117), some (.int (nI b)), some (.int (nI (j + 1)))]) (st1 := []) (M1 := (mk_M (cT im le ln ys vt nu nn rf vw vq yc yh yg) (kr (he, ke, ki, fi, fa, or, mi, a, g, l, w, s)) m kk q)) (fun f => rfl) ?_
      exact IH (j + 1) b vw vq yc yh yg m (by omega) ⟨(by assumption), j1, by assumption, by assumption, by assumption⟩ (by omega)
    · refine me_seg 3 (pc1 := 44) (ls1 := [some (.ref 117), some (.int (nI j)), some (.int ((nI j) + 1))]) (st1 := []) (M1 := (mk_M (cT im le ln ys vt nu nn rf vw vq yc yh yg) (kr (he, ke, ki, fi, fa, or, mi, a, g, l, w, s)) m kk q)) (fun f => rfl) ?_
      refine me_l (fun q_ => [some (.ref 117), some (.int (nI j)), some (.int q_)]) (nI_add j 1) ?_
      refine me_seg 1 (pc1 := 16) (ls1 := [some (.ref 117), some (.int (nI j)), some (.int (nI (j + 1)))]) (st1 := []) (M1 := (mk_M (cT im le ln ys vt nu nn rf vw vq yc yh yg) (kr (he, ke, ki, fi, fa, or, mi, a, g, l, w, s)) m kk q)) (fun f => rfl) ?_
      exact IH (j + 1) j vw vq yc yh yg m (by omega) ⟨(by assumption), j1, by assumption, by assumption, by assumption⟩ (by omega)
set_option maxRecDepth 100000 in
theorem wc_cl (he ke ki fi fa or : List Nat) (mi a g l w s : Nat) (im : Nat) (le : List Nat) (ln : Nat) (ys : List Int32) (vt : Int32) (nu : List Nat) (nn : Nat) (rf : List Nat) (kk : kG) (q : cR) (hA : iA (he, ke, ki, fi, fa, or, mi, a, g, l, w, s)) (hC : iC nu nn) (vw vq : Int32) (yc yh yg : List Int32) (m : kG) (hJ : iJ m ys yc yh yg) : mm_E 104 0 [some (.ref 117), none, none] [] (mk_M (cT im le ln ys vt nu nn rf vw vq yc yh yg) (kr (he, ke, ki, fi, fa, or, mi, a, g, l, w, s)) m kk q) (pC isI (he, ke, ki, fi, fa, or, mi, a, g, l, w, s) im le ln ys vt nu nn rf kk q) := by
  obtain ⟨hV, hst⟩ := id hA
  have hst2 : s ≤ 999 := hst
  obtain ⟨v1, v2, v3, v4, v5, v6, v7, v8, v9, v10, v11, v12, v13, v14, v15, v16⟩ := id hV
  have v6l := kO_len mi v7 or v6
  obtain ⟨c1, c2, c3⟩ := id hC
  obtain ⟨j0, j1, j2, j3, j4⟩ := id hJ
  refine me_seg 2 (pc1 := 4) (ls1 := [some (.ref 117), none, none]) (st1 := [.int (nI mi)]) (M1 := (mk_M (cT im le ln ys vt nu nn rf vw vq yc yh yg) (kr (he, ke, ki, fi, fa, or, mi, a, g, l, w, s)) m kk q)) (fun f => rfl) ?_
  refine me_ifN (C := (nI mi) = 0) (nI_eqi (a := mi) (b := 0) (by omega)) (fun f => rfl) (fun h1 => ?_) (fun h1 => ?_)
  · refine me_seg 5 (pc1 := 16) (ls1 := [some (.ref 117), some (.int (-9)), some (.int 1)]) (st1 := []) (M1 := (mk_M (cT im le ln ys vt nu nn rf vw vq yc yh yg) (kr (he, ke, ki, fi, fa, or, mi, a, g, l, w, s)) m kk q)) (fun f => rfl) ?_
    refine me_seg 3 (pc1 := 21) (ls1 := [some (.ref 117), some (.int (-9)), some (.int 1)]) (st1 := [.int (nI mi), .int 1]) (M1 := (mk_M (cT im le ln ys vt nu nn rf vw vq yc yh yg) (kr (he, ke, ki, fi, fa, or, mi, a, g, l, w, s)) m kk q)) (fun f => rfl) ?_
    refine me_t (C := (nI mi) ≤ 1) (nI_let (a := mi) (b := 1) (by omega)) (fun f => rfl) ?_
    refine me_ret 2 (r := some (.int (-9))) (M1 := (mk_M (cT im le ln ys vt nu nn rf vw vq yc yh yg) (kr (he, ke, ki, fi, fa, or, mi, a, g, l, w, s)) m kk q)) (fun f => rfl) ?_
    exact ⟨⟨_, rfl⟩, _, _, _, _, _, _, rfl, ⟨(by assumption), j1, by assumption, by assumption, by assumption⟩⟩
  · refine me_seg 4 (pc1 := 16) (ls1 := [some (.ref 117), some (.int 0), some (.int 1)]) (st1 := []) (M1 := (mk_M (cT im le ln ys vt nu nn rf vw vq yc yh yg) (kr (he, ke, ki, fi, fa, or, mi, a, g, l, w, s)) m kk q)) (fun f => rfl) ?_
    exact wc_clL he ke ki fi fa or mi a g l w s im le ln ys vt nu nn rf kk q hA hC (mi - 1) 1 0 vw vq yc yh yg m (by omega) ⟨(by assumption), j1, by assumption, by assumption, by assumption⟩ (by omega)
set_option maxRecDepth 100000 in
theorem wc_easy_0 (he ke ki fi fa or : List Nat) (mi a g l w s : Nat) (im : Nat) (le : List Nat) (ln : Nat) (ys : List Int32) (vt : Int32) (nu : List Nat) (nn : Nat) (rf : List Nat) (kk : kG) (q : cR) (hA : iA (he, ke, ki, fi, fa, or, mi, a, g, l, w, s)) (hC : iC nu nn) (vw vq : Int32) (yc yh yg : List Int32) (m : kG) (hJ : iJ m ys yc yh yg) : mm_E 101 0 [some (.ref 100), some (.int 0)] [] (mk_M (cT im le ln ys vt nu nn rf vw vq yc yh yg) (kr (he, ke, ki, fi, fa, or, mi, a, g, l, w, s)) m kk q) (pC isI (he, ke, ki, fi, fa, or, mi, a, g, l, w, s) im le ln ys vt nu nn rf kk q) := by
  obtain ⟨hV, hst⟩ := id hA
  have hst2 : s ≤ 999 := hst
  obtain ⟨v1, v2, v3, v4, v5, v6, v7, v8, v9, v10, v11, v12, v13, v14, v15, v16⟩ := id hV
  have v6l := kO_len mi v7 or v6
  obtain ⟨c1, c2, c3⟩ := id hC
  obtain ⟨j0, j1, j2, j3, j4⟩ := id hJ
  refine me_seg 4 (pc1 := 32) (ls1 := [some (.ref 100), some (.int 0)]) (st1 := [.ref 117]) (M1 := (mk_M (cT im le ln ys vt nu nn rf vw vq yc yh yg) (kr (he, ke, ki, fi, fa, or, mi, a, g, l, w, s)) m kk q)) (fun f => rfl) ?_
  refine me_callE (y := 102) (y0 := 35) (L := [some (.ref 117), none, none, none]) (rest := []) (fun f => rfl) (wc_ec he ke ki fi fa or mi a g l w s im le ln ys vt nu nn rf kk q hA hC vw vq yc yh yg m ⟨(by assumption), j1, by assumption, by assumption, by assumption⟩) ?_
  rintro _ _ ⟨⟨w_1, rfl⟩, vw_1, vq_1, yc_1, yh_1, yg_1, m_1, rfl, hJ_1⟩
  obtain ⟨j0_1, j1_1, j2_1, j3_1, j4_1⟩ := id hJ_1
  refine me_ret 1 (r := some (.int w_1)) (M1 := (mk_M (cT im le ln ys vt nu nn rf vw_1 vq_1 yc_1 yh_1 yg_1) (kr (he, ke, ki, fi, fa, or, mi, a, g, l, w, s)) m_1 kk q)) (fun f => rfl) ?_
  exact ⟨⟨_, rfl⟩, _, _, _, _, _, _, rfl, ⟨(by assumption), j1, by assumption, by assumption, by assumption⟩⟩
set_option maxRecDepth 100000 in
theorem wc_easy_1 (he ke ki fi fa or : List Nat) (mi a g l w s : Nat) (im : Nat) (le : List Nat) (ln : Nat) (ys : List Int32) (vt : Int32) (nu : List Nat) (nn : Nat) (rf : List Nat) (kk : kG) (q : cR) (hA : iA (he, ke, ki, fi, fa, or, mi, a, g, l, w, s)) (hC : iC nu nn) (vw vq : Int32) (yc yh yg : List Int32) (m : kG) (hJ : iJ m ys yc yh yg) : mm_E 101 0 [some (.ref 100), some (.int 1)] [] (mk_M (cT im le ln ys vt nu nn rf vw vq yc yh yg) (kr (he, ke, ki, fi, fa, or, mi, a, g, l, w, s)) m kk q) (pC isI (he, ke, ki, fi, fa, or, mi, a, g, l, w, s) im le ln ys vt nu nn rf kk q) := by
  obtain ⟨hV, hst⟩ := id hA
  have hst2 : s ≤ 999 := hst
  obtain ⟨v1, v2, v3, v4, v5, v6, v7, v8, v9, v10, v11, v12, v13, v14, v15, v16⟩ := id hV
  have v6l := kO_len mi v7 or v6
  obtain ⟨c1, c2, c3⟩ := id hC
  obtain ⟨j0, j1, j2, j3, j4⟩ := id hJ
  refine me_seg 4 (pc1 := 40) (ls1 := [some (.ref 100), some (.int 1)]) (st1 := [.ref 117]) (M1 := (mk_M (cT im le ln ys vt nu nn rf vw vq yc yh yg) (kr (he, ke, ki, fi, fa, or, mi, a, g, l, w, s)) m kk q)) (fun f => rfl) ?_
  refine me_callE (y := 103) (y0 := 43) (L := [some (.ref 117), none, none]) (rest := []) (fun f => rfl) (wc_sm he ke ki fi fa or mi a g l w s im le ln ys vt nu nn rf kk q hA hC vw vq yc yh yg m ⟨(by assumption), j1, by assumption, by assumption, by assumption⟩) ?_
  rintro _ _ ⟨⟨w_1, rfl⟩, vw_1, vq_1, yc_1, yh_1, yg_1, m_1, rfl, hJ_1⟩
  obtain ⟨j0_1, j1_1, j2_1, j3_1, j4_1⟩ := id hJ_1
  refine me_ret 1 (r := some (.int w_1)) (M1 := (mk_M (cT im le ln ys vt nu nn rf vw_1 vq_1 yc_1 yh_1 yg_1) (kr (he, ke, ki, fi, fa, or, mi, a, g, l, w, s)) m_1 kk q)) (fun f => rfl) ?_
  exact ⟨⟨_, rfl⟩, _, _, _, _, _, _, rfl, ⟨(by assumption), j1, by assumption, by assumption, by assumption⟩⟩
set_option maxRecDepth 100000 in
theorem wc_easy_2 (he ke ki fi fa or : List Nat) (mi a g l w s : Nat) (im : Nat) (le : List Nat) (ln : Nat) (ys : List Int32) (vt : Int32) (nu : List Nat) (nn : Nat) (rf : List Nat) (kk : kG) (q : cR) (hA : iA (he, ke, ki, fi, fa, or, mi, a, g, l, w, s)) (hC : iC nu nn) (vw vq : Int32) (yc yh yg : List Int32) (m : kG) (hJ : iJ m ys yc yh yg) : mm_E 101 0 [some (.ref 100), some (.int 2)] [] (mk_M (cT im le ln ys vt nu nn rf vw vq yc yh yg) (kr (he, ke, ki, fi, fa, or, mi, a, g, l, w, s)) m kk q) (pC isI (he, ke, ki, fi, fa, or, mi, a, g, l, w, s) im le ln ys vt nu nn rf kk q) := by
  obtain ⟨hV, hst⟩ := id hA
  have hst2 : s ≤ 999 := hst
  obtain ⟨v1, v2, v3, v4, v5, v6, v7, v8, v9, v10, v11, v12, v13, v14, v15, v16⟩ := id hV
  have v6l := kO_len mi v7 or v6
  obtain ⟨c1, c2, c3⟩ := id hC
  obtain ⟨j0, j1, j2, j3, j4⟩ := id hJ
  refine me_seg 4 (pc1 := 48) (ls1 := [some (.ref 100), some (.int 2)]) (st1 := [.ref 117]) (M1 := (mk_M (cT im le ln ys vt nu nn rf vw vq yc yh yg) (kr (he, ke, ki, fi, fa, or, mi, a, g, l, w, s)) m kk q)) (fun f => rfl) ?_
  refine me_callE (y := 104) (y0 := 51) (L := [some (.ref 117), none, none]) (rest := []) (fun f => rfl) (wc_cl he ke ki fi fa or mi a g l w s im le ln ys vt nu nn rf kk q hA hC vw vq yc yh yg m ⟨(by assumption), j1, by assumption, by assumption, by assumption⟩) ?_
  rintro _ _ ⟨⟨w_1, rfl⟩, vw_1, vq_1, yc_1, yh_1, yg_1, m_1, rfl, hJ_1⟩
  obtain ⟨j0_1, j1_1, j2_1, j3_1, j4_1⟩ := id hJ_1
  refine me_ret 1 (r := some (.int w_1)) (M1 := (mk_M (cT im le ln ys vt nu nn rf vw_1 vq_1 yc_1 yh_1 yg_1) (kr (he, ke, ki, fi, fa, or, mi, a, g, l, w, s)) m_1 kk q)) (fun f => rfl) ?_
  exact ⟨⟨_, rfl⟩, _, _, _, _, _, _, rfl, ⟨(by assumption), j1, by assumption, by assumption, by assumption⟩⟩
set_option maxRecDepth 100000 in
theorem wc_meanL (he ke ki fi fa or : List Nat) (mi a g l w s : Nat) (im : Nat) (le : List Nat) (ln : Nat) (ys : List Int32) (vt : Int32) (nu : List Nat) (nn : Nat) (rf : List Nat) (kk : kG) (q : cR) (hA : iA (he, ke, ki, fi, fa, or, mi, a, g, l, w, s)) (hC : iC nu nn) (x : Nat) (hx : x < 2) (k : Nat) : ∀ (j : Nat) (v : Int32) (vw vq : Int32) (yc yh yg : List Int32) (m : kG), j + k = 25 → iJ m ys yc yh yg → mm_E 114 20 [some (.ref 100), some (.int (nI x)), some (.int v), some (.int (nI j))] [] (mk_M (cT im le ln ys vt nu nn rf vw vq yc yh yg) (kr (he, ke, ki, fi, fa, or, mi, a, g, l, w, s)) m kk q) (pC isL (he, ke, ki, fi, fa, or, mi, a, g, l, w, s) im le ln ys vt nu nn rf kk q) := by
  obtain ⟨hV, hst⟩ := id hA
  have hst2 : s ≤ 999 := hst
  obtain ⟨v1, v2, v3, v4, v5, v6, v7, v8, v9, v10, v11, v12, v13, v14, v15, v16⟩ := id hV
  have v6l := kO_len mi v7 or v6
  obtain ⟨c1, c2, c3⟩ := id hC
  induction k with
  | zero =>
    intro j v vw vq yc yh yg m hj hJ
    obtain ⟨j0, j1, j2, j3, j4⟩ := id hJ
    refine me_seg 2 (pc1 := 23) (ls1 := [some (.ref 100), some (.int (nI x)), some (.int v), some (.int (nI j))]) (st1 := [.int 25, .int (nI j)]) (M1 := (mk_M (cT im le ln ys vt nu nn rf vw vq yc yh yg) (kr (he, ke, ki, fi, fa, or, mi, a, g, l, w, s)) m kk q)) (fun f => rfl) ?_
    refine me_t (C := 25 ≤ (nI j)) (nI_let (a := 25) (b := j) (by omega)) (fun f => rfl) ?_
    refine me_seg 4 (pc1 := 50) (ls1 := [some (.ref 100), some (.int (nI x)), some (.int v), some (.int (nI j))]) (st1 := [.int (nI x), .long 25, .long v.toInt64]) (M1 := (mk_M (cT im le ln ys vt nu nn rf vw vq yc yh yg) (kr (he, ke, ki, fi, fa, or, mi, a, g, l, w, s)) m kk q)) (fun f => rfl) ?_
    refine me_callE (y := 112) (y0 := 53) (L := [some (.long v.toInt64), none, some (.long 25), none, some (.int (nI x)), none, none]) (rest := []) (fun f => rfl) (wc_pf v.toInt64 25 (nI x) _) ?_
    rintro _ _ ⟨⟨w_1, rfl⟩, rfl⟩
    refine me_ret 1 (r := some (.long w_1)) (M1 := (mk_M (cT im le ln ys vt nu nn rf vw vq yc yh yg) (kr (he, ke, ki, fi, fa, or, mi, a, g, l, w, s)) m kk q)) (fun f => rfl) ?_
    exact ⟨⟨_, rfl⟩, _, _, _, _, _, _, rfl, ⟨(by assumption), j1, by assumption, by assumption, by assumption⟩⟩
  | succ k IH =>
    intro j v vw vq yc yh yg m hj hJ
    obtain ⟨j0, j1, j2, j3, j4⟩ := id hJ
    refine me_seg 2 (pc1 := 23) (ls1 := [some (.ref 100), some (.int (nI x)), some (.int v), some (.int (nI j))]) (st1 := [.int 25, .int (nI j)]) (M1 := (mk_M (cT im le ln ys vt nu nn rf vw vq yc yh yg) (kr (he, ke, ki, fi, fa, or, mi, a, g, l, w, s)) m kk q)) (fun f => rfl) ?_
    refine me_f (C := 25 ≤ (nI j)) (nI_lef (a := 25) (b := j) (by omega)) (fun f => rfl) ?_
    refine me_seg 5 (pc1 := 35) (ls1 := [some (.ref 100), some (.int (nI x)), some (.int v), some (.int (nI j))]) (st1 := [.int (nI j), .ref 118, .int v]) (M1 := (mk_M (cT im le ln ys vt nu nn rf vw vq yc yh yg) (kr (he, ke, ki, fi, fa, or, mi, a, g, l, w, s)) m kk q)) (fun f => rfl) ?_
    refine me_ldn (xs := (he.map nI)) rfl rfl (k := j) (by omega) (kg_ok (by omega)) ?_
    refine me_seg 3 (pc1 := 41) (ls1 := [some (.ref 100), some (.int (nI x)), some (.int (v + (nI (kg he j)))), some (.int ((nI j) + 1))]) (st1 := []) (M1 := (mk_M (cT im le ln ys vt nu nn rf vw vq yc yh yg) (kr (he, ke, ki, fi, fa, or, mi, a, g, l, w, s)) m kk q)) (fun f => rfl) ?_
    refine me_l (fun q_ => [some (.ref 100), some (.int (nI x)), some (.int (v + (nI (kg he j)))), some (.int q_)]) (nI_add j 1) ?_
    refine me_seg 1 (pc1 := 20) (ls1 := [some (.ref 100), some (.int (nI x)), some (.int (v + (nI (kg he j)))), some (.int (nI (j + 1)))]) (st1 := []) (M1 := (mk_M (cT im le ln ys vt nu nn rf vw vq yc yh yg) (kr (he, ke, ki, fi, fa, or, mi, a, g, l, w, s)) m kk q)) (fun f => rfl) ?_
    exact IH (j + 1) (v + (nI (kg he j))) vw vq yc yh yg m (by omega) ⟨(by assumption), j1, by assumption, by assumption, by assumption⟩
set_option maxRecDepth 100000 in
theorem wc_mean (he ke ki fi fa or : List Nat) (mi a g l w s : Nat) (im : Nat) (le : List Nat) (ln : Nat) (ys : List Int32) (vt : Int32) (nu : List Nat) (nn : Nat) (rf : List Nat) (kk : kG) (q : cR) (hA : iA (he, ke, ki, fi, fa, or, mi, a, g, l, w, s)) (hC : iC nu nn) (vw vq : Int32) (yc yh yg : List Int32) (m : kG) (hJ : iJ m ys yc yh yg) (x : Nat) (hx : x < 2) : mm_E 114 0 [some (.ref 100), some (.int (nI x)), none, none] [] (mk_M (cT im le ln ys vt nu nn rf vw vq yc yh yg) (kr (he, ke, ki, fi, fa, or, mi, a, g, l, w, s)) m kk q) (pC isL (he, ke, ki, fi, fa, or, mi, a, g, l, w, s) im le ln ys vt nu nn rf kk q) := by
  obtain ⟨hV, hst⟩ := id hA
  have hst2 : s ≤ 999 := hst
  obtain ⟨v1, v2, v3, v4, v5, v6, v7, v8, v9, v10, v11, v12, v13, v14, v15, v16⟩ := id hV
  have v6l := kO_len mi v7 or v6
  obtain ⟨c1, c2, c3⟩ := id hC
  obtain ⟨j0, j1, j2, j3, j4⟩ := id hJ
  refine me_seg 1 (pc1 := 1) (ls1 := [some (.ref 100), some (.int (nI x)), none, none]) (st1 := [.int (nI x)]) (M1 := (mk_M (cT im le ln ys vt nu nn rf vw vq yc yh yg) (kr (he, ke, ki, fi, fa, or, mi, a, g, l, w, s)) m kk q)) (fun f => rfl) ?_
  refine me_f (C := (nI x) < 0) (nI_ltf (a := x) (b := 0) (by omega)) (fun f => rfl) ?_
  refine me_seg 2 (pc1 := 6) (ls1 := [some (.ref 100), some (.int (nI x)), none, none]) (st1 := [.int 1, .int (nI x)]) (M1 := (mk_M (cT im le ln ys vt nu nn rf vw vq yc yh yg) (kr (he, ke, ki, fi, fa, or, mi, a, g, l, w, s)) m kk q)) (fun f => rfl) ?_
  refine me_t (C := (nI x) ≤ 1) (nI_let (a := x) (b := 1) (by omega)) (fun f => rfl) ?_
  refine me_seg 4 (pc1 := 20) (ls1 := [some (.ref 100), some (.int (nI x)), some (.int 0), some (.int 0)]) (st1 := []) (M1 := (mk_M (cT im le ln ys vt nu nn rf vw vq yc yh yg) (kr (he, ke, ki, fi, fa, or, mi, a, g, l, w, s)) m kk q)) (fun f => rfl) ?_
  exact wc_meanL he ke ki fi fa or mi a g l w s im le ln ys vt nu nn rf kk q hA hC x hx 25 0 0 vw vq yc yh yg m (by omega) ⟨(by assumption), j1, by assumption, by assumption, by assumption⟩
set_option maxRecDepth 100000 in
theorem wc_gnL (he ke ki fi fa or : List Nat) (mi a g l w s : Nat) (im : Nat) (le : List Nat) (ln : Nat) (ys : List Int32) (vt : Int32) (nu : List Nat) (nn : Nat) (rf : List Nat) (kk : kG) (q : cR) (hA : iA (he, ke, ki, fi, fa, or, mi, a, g, l, w, s)) (hC : iC nu nn) (k : Nat) : ∀ (j : Nat)  (vw vq : Int32) (yc yh yg : List Int32) (Q : kK), j + k = nn → iJ (kr Q) ys yc yh yg → kV Q → k_st Q + k < 2 ^ 20 → mm_E 117 2 [some (.ref 100), some (.ref 124), some (.int (nI j))] [] (mk_M (cT im le ln ys vt nu nn rf vw vq yc yh yg) (kr (he, ke, ki, fi, fa, or, mi, a, g, l, w, s)) (kr Q) kk q) (pC isB (he, ke, ki, fi, fa, or, mi, a, g, l, w, s) im le ln ys vt nu nn rf kk q) := by
  obtain ⟨hV, hst⟩ := id hA
  have hst2 : s ≤ 999 := hst
  obtain ⟨v1, v2, v3, v4, v5, v6, v7, v8, v9, v10, v11, v12, v13, v14, v15, v16⟩ := id hV
  have v6l := kO_len mi v7 or v6
  obtain ⟨c1, c2, c3⟩ := id hC
  induction k with
  | zero =>
    intro j vw vq yc yh yg Q hj hJ hQ hQs
    obtain ⟨j0, j1, j2, j3, j4⟩ := id hJ
    refine me_seg 3 (pc1 := 7) (ls1 := [some (.ref 100), some (.ref 124), some (.int (nI j))]) (st1 := [.int (nI nn), .int (nI j)]) (M1 := (mk_M (cT im le ln ys vt nu nn rf vw vq yc yh yg) (kr (he, ke, ki, fi, fa, or, mi, a, g, l, w, s)) (kr Q) kk q)) (fun f => rfl) ?_
    refine me_t (C := (nI nn) ≤ (nI j)) (nI_let (a := nn) (b := j) (by omega)) (fun f => rfl) ?_
    refine me_ret 2 (r := some (.int 1)) (M1 := (mk_M (cT im le ln ys vt nu nn rf vw vq yc yh yg) (kr (he, ke, ki, fi, fa, or, mi, a, g, l, w, s)) (kr Q) kk q)) (fun f => rfl) ?_
    exact ⟨⟨1, by omega, rfl⟩, _, _, _, _, _, _, rfl, ⟨(kSh_r hQ), j1, by assumption, by assumption, by assumption⟩⟩
  | succ k IH =>
    intro j vw vq yc yh yg Q hj hJ hQ hQs
    obtain ⟨j0, j1, j2, j3, j4⟩ := id hJ
    refine me_seg 3 (pc1 := 7) (ls1 := [some (.ref 100), some (.ref 124), some (.int (nI j))]) (st1 := [.int (nI nn), .int (nI j)]) (M1 := (mk_M (cT im le ln ys vt nu nn rf vw vq yc yh yg) (kr (he, ke, ki, fi, fa, or, mi, a, g, l, w, s)) (kr Q) kk q)) (fun f => rfl) ?_
    refine me_f (C := (nI nn) ≤ (nI j)) (nI_lef (a := nn) (b := j) (by omega)) (fun f => rfl) ?_
    refine me_seg 5 (pc1 := 19) (ls1 := [some (.ref 100), some (.ref 124), some (.int (nI j))]) (st1 := [.int (nI j), .ref 104, .int (nI (k_at Q))]) (M1 := (mk_M (cT im le ln ys vt nu nn rf vw vq yc yh yg) (kr (he, ke, ki, fi, fa, or, mi, a, g, l, w, s)) (kr Q) kk q)) (fun f => rfl) ?_
    refine me_ldn (xs := (nu.map nI)) rfl rfl (k := j) (by omega) (kg_ok (by omega)) ?_
    refine me_if (C := (nI (k_at Q)) = (nI (kg nu j))) (fun f => rfl) (fun h1 => ?_) (fun h1 => ?_)
    · refine me_seg 2 (pc1 := 27) (ls1 := [some (.ref 100), some (.ref 124), some (.int (nI j))]) (st1 := [.int 0, .ref 124]) (M1 := (mk_M (cT im le ln ys vt nu nn rf vw vq yc yh yg) (kr (he, ke, ki, fi, fa, or, mi, a, g, l, w, s)) (kr Q) kk q)) (fun f => rfl) ?_
      refine me_call (y := 44) (y0 := 30) (L := [some (.ref 124), some (.int 0), none, none, none]) (rest := []) (rr := none) (M1 := (mk_M (cT im le ln ys vt nu nn rf vw vq yc yh yg) (kr (he, ke, ki, fi, fa, or, mi, a, g, l, w, s)) (kr (kstep Q 0)) kk q)) (fun f => rfl) (kl_m (cT im le ln ys vt nu nn rf vw vq yc yh yg) (kr (he, ke, ki, fi, fa, or, mi, a, g, l, w, s)) kk q (kc_advQ Q 0 (by decide) hQ (Nat.lt_trans (m := 2 ^ 20) (by omega) (by decide)))) ?_
      refine me_seg 1 (pc1 := 33) (ls1 := [some (.ref 100), some (.ref 124), some (.int ((nI j) + 1))]) (st1 := []) (M1 := (mk_M (cT im le ln ys vt nu nn rf vw vq yc yh yg) (kr (he, ke, ki, fi, fa, or, mi, a, g, l, w, s)) (kr (kstep Q 0)) kk q)) (fun f => rfl) ?_
      refine me_l (fun q_ => [some (.ref 100), some (.ref 124), some (.int q_)]) (nI_add j 1) ?_
      refine me_seg 1 (pc1 := 2) (ls1 := [some (.ref 100), some (.ref 124), some (.int (nI (j + 1)))]) (st1 := []) (M1 := (mk_M (cT im le ln ys vt nu nn rf vw vq yc yh yg) (kr (he, ke, ki, fi, fa, or, mi, a, g, l, w, s)) (kr (kstep Q 0)) kk q)) (fun f => rfl) ?_
      exact IH (j + 1)  vw vq yc yh yg (kstep Q 0) (by omega) ⟨(kSh_r (kV_step hQ 0)), j1, by assumption, by assumption, by assumption⟩ (kV_step hQ 0) (by first | omega | (rw [kst_step]; omega))
    · refine me_ret 2 (r := some (.int 0)) (M1 := (mk_M (cT im le ln ys vt nu nn rf vw vq yc yh yg) (kr (he, ke, ki, fi, fa, or, mi, a, g, l, w, s)) (kr Q) kk q)) (fun f => rfl) ?_
      exact ⟨⟨0, by omega, rfl⟩, _, _, _, _, _, _, rfl, ⟨(kSh_r hQ), j1, by assumption, by assumption, by assumption⟩⟩
set_option maxRecDepth 100000 in
theorem wc_gn (he ke ki fi fa or : List Nat) (mi a g l w s : Nat) (im : Nat) (le : List Nat) (ln : Nat) (ys : List Int32) (vt : Int32) (nu : List Nat) (nn : Nat) (rf : List Nat) (kk : kG) (q : cR) (hA : iA (he, ke, ki, fi, fa, or, mi, a, g, l, w, s)) (hC : iC nu nn) (vw vq : Int32) (yc yh yg : List Int32) (Q : kK) (hJ : iJ (kr Q) ys yc yh yg) (hQ : kV Q) (hQs : k_st Q + 100 < 2 ^ 20) : mm_E 117 0 [some (.ref 100), some (.ref 124), none] [] (mk_M (cT im le ln ys vt nu nn rf vw vq yc yh yg) (kr (he, ke, ki, fi, fa, or, mi, a, g, l, w, s)) (kr Q) kk q) (pC isB (he, ke, ki, fi, fa, or, mi, a, g, l, w, s) im le ln ys vt nu nn rf kk q) := by
  obtain ⟨hV, hst⟩ := id hA
  have hst2 : s ≤ 999 := hst
  obtain ⟨v1, v2, v3, v4, v5, v6, v7, v8, v9, v10, v11, v12, v13, v14, v15, v16⟩ := id hV
  have v6l := kO_len mi v7 or v6
  obtain ⟨c1, c2, c3⟩ := id hC
  obtain ⟨j0, j1, j2, j3, j4⟩ := id hJ
  refine me_seg 2 (pc1 := 2) (ls1 := [some (.ref 100), some (.ref 124), some (.int 0)]) (st1 := []) (M1 := (mk_M (cT im le ln ys vt nu nn rf vw vq yc yh yg) (kr (he, ke, ki, fi, fa, or, mi, a, g, l, w, s)) (kr Q) kk q)) (fun f => rfl) ?_
  exact wc_gnL he ke ki fi fa or mi a g l w s im le ln ys vt nu nn rf kk q hA hC nn 0 vw vq yc yh yg Q (by omega) ⟨(kSh_r hQ), j1, by assumption, by assumption, by assumption⟩ hQ (by omega)
set_option maxRecDepth 100000 in
theorem wc_mfL (he ke ki fi fa or : List Nat) (mi a g l w s : Nat) (im : Nat) (le : List Nat) (ln : Nat) (ys : List Int32) (vt : Int32) (nu : List Nat) (nn : Nat) (rf : List Nat) (kk : kG) (q : cR) (hA : iA (he, ke, ki, fi, fa, or, mi, a, g, l, w, s)) (hC : iC nu nn) (k : Nat) : ∀ (j : Nat) (v : Int32) (lo3 : Option Value) (vw vq : Int32) (yc yh yg : List Int32) (m : kG), j + k = mi → iJ m ys yc yh yg → mm_E 116 4 [some (.ref 100), some (.int v), some (.int (nI j)), lo3] [] (mk_M (cT im le ln ys vt nu nn rf vw vq yc yh yg) (kr (he, ke, ki, fi, fa, or, mi, a, g, l, w, s)) m kk q) (pC isI (he, ke, ki, fi, fa, or, mi, a, g, l, w, s) im le ln ys vt nu nn rf kk q) := by
  obtain ⟨hV, hst⟩ := id hA
  have hst2 : s ≤ 999 := hst
  obtain ⟨v1, v2, v3, v4, v5, v6, v7, v8, v9, v10, v11, v12, v13, v14, v15, v16⟩ := id hV
  have v6l := kO_len mi v7 or v6
  obtain ⟨c1, c2, c3⟩ := id hC
  induction k with
  | zero =>
    intro j v lo3 vw vq yc yh yg m hj hJ
    obtain ⟨j0, j1, j2, j3, j4⟩ := id hJ
    refine me_seg 4 (pc1 := 12) (ls1 := [some (.ref 100), some (.int v), some (.int (nI j)), lo3]) (st1 := [.int (nI mi), .int (nI j)]) (M1 := (mk_M (cT im le ln ys vt nu nn rf vw vq yc yh yg) (kr (he, ke, ki, fi, fa, or, mi, a, g, l, w, s)) m kk q)) (fun f => rfl) ?_
    refine me_t (C := (nI mi) ≤ (nI j)) (nI_let (a := mi) (b := j) (by omega)) (fun f => rfl) ?_
    refine me_ret 2 (r := some (.int v)) (M1 := (mk_M (cT im le ln ys vt nu nn rf vw vq yc yh yg) (kr (he, ke, ki, fi, fa, or, mi, a, g, l, w, s)) m kk q)) (fun f => rfl) ?_
    exact ⟨⟨_, rfl⟩, _, _, _, _, _, _, rfl, ⟨(by assumption), j1, by assumption, by assumption, by assumption⟩⟩
  | succ k IH =>
    intro j v lo3 vw vq yc yh yg m hj hJ
    obtain ⟨j0, j1, j2, j3, j4⟩ := id hJ
    refine me_seg 4 (pc1 := 12) (ls1 := [some (.ref 100), some (.int v), some (.int (nI j)), lo3]) (st1 := [.int (nI mi), .int (nI j)]) (M1 := (mk_M (cT im le ln ys vt nu nn rf vw vq yc yh yg) (kr (he, ke, ki, fi, fa, or, mi, a, g, l, w, s)) m kk q)) (fun f => rfl) ?_
    refine me_f (C := (nI mi) ≤ (nI j)) (nI_lef (a := mi) (b := j) (by omega)) (fun f => rfl) ?_
    refine me_seg 1 (pc1 := 16) (ls1 := [some (.ref 100), some (.int v), some (.int (nI j)), lo3]) (st1 := [.ref 100]) (M1 := (mk_M (cT im le ln ys vt nu nn rf vw vq yc yh yg) (kr (he, ke, ki, fi, fa, or, mi, a, g, l, w, s)) m kk q)) (fun f => rfl) ?_
    refine me_call (y := 75) (y0 := 19) (L := [some (.ref 100)]) (rest := []) (rr := some (.ref 124)) (M1 := (mk_M (cT im le ln ys vt nu nn rf vw vq yc yh yg) (kr (he, ke, ki, fi, fa, or, mi, a, g, l, w, s)) (kr (he, ke, ki, fi, fa, or, mi, a, g, l, w, s)) kk q)) (fun f => rfl) (cc_now (he, ke, ki, fi, fa, or, mi, a, g, l, w, s) (cT im le ln ys vt nu nn rf vw vq yc yh yg) m kk q hV (by assumption)) ?_
    refine me_seg 3 (pc1 := 22) (ls1 := [some (.ref 100), some (.int v), some (.int (nI j)), some (.ref 124)]) (st1 := [.int (nI j), .ref 124]) (M1 := (mk_M (cT im le ln ys vt nu nn rf vw vq yc yh yg) (kr (he, ke, ki, fi, fa, or, mi, a, g, l, w, s)) (kr (he, ke, ki, fi, fa, or, mi, a, g, l, w, s)) kk q)) (fun f => rfl) ?_
    refine me_call (y := 90) (y0 := 25) (L := [some (.ref 124), some (.int (nI j)), none, none]) (rest := []) (rr := none) (M1 := (mk_M (cT im le ln ys vt nu nn rf vw vq yc yh yg) (kr (he, ke, ki, fi, fa, or, mi, a, g, l, w, s)) (kr (kpf (he, ke, ki, fi, fa, or, mi, a, g, l, w, s) j)) kk q)) (fun f => rfl) (kl_m (cT im le ln ys vt nu nn rf vw vq yc yh yg) (kr (he, ke, ki, fi, fa, or, mi, a, g, l, w, s)) kk q (kc_pfQ (he, ke, ki, fi, fa, or, mi, a, g, l, w, s) j (show j < mi by omega) hV)) ?_
    refine me_seg 2 (pc1 := 27) (ls1 := [some (.ref 100), some (.int v), some (.int (nI j)), some (.ref 124)]) (st1 := [.ref 124, .ref 100]) (M1 := (mk_M (cT im le ln ys vt nu nn rf vw vq yc yh yg) (kr (he, ke, ki, fi, fa, or, mi, a, g, l, w, s)) (kr (kpf (he, ke, ki, fi, fa, or, mi, a, g, l, w, s) j)) kk q)) (fun f => rfl) ?_
    refine me_callE (y := 117) (y0 := 30) (L := [some (.ref 100), some (.ref 124), none]) (rest := []) (fun f => rfl) (wc_gn he ke ki fi fa or mi a g l w s im le ln ys vt nu nn rf kk q hA hC vw vq yc yh yg (kpf (he, ke, ki, fi, fa, or, mi, a, g, l, w, s) j) ⟨(kSh_r (kV_pf hV (show j < mi by omega))), j1, by assumption, by assumption, by assumption⟩ (kV_pf hV (show j < mi by omega)) (show s + 100 < 2 ^ 20 by omega)) ?_
    rintro _ _ ⟨⟨b_1, hb_1, rfl⟩, vw_1, vq_1, yc_1, yh_1, yg_1, m_1, rfl, hJ_1⟩
    obtain ⟨j0_1, j1_1, j2_1, j3_1, j4_1⟩ := id hJ_1
    refine me_if (C := (nI b_1) = 0) (fun f => rfl) (fun h2 => ?_) (fun h2 => ?_)
    · refine me_seg 1 (pc1 := 42) (ls1 := [some (.ref 100), some (.int v), some (.int ((nI j) + 1)), some (.ref 124)]) (st1 := []) (M1 := (mk_M (cT im le ln ys vt nu nn rf vw_1 vq_1 yc_1 yh_1 yg_1) (kr (he, ke, ki, fi, fa, or, mi, a, g, l, w, s)) m_1 kk q)) (fun f => rfl) ?_
      refine me_l (fun q_ => [some (.ref 100), some (.int v), some (.int q_), some (.ref 124)]) (nI_add j 1) ?_
      refine me_seg 1 (pc1 := 4) (ls1 := [some (.ref 100), some (.int v), some (.int (nI (j + 1))), some (.ref 124)]) (st1 := []) (M1 := (mk_M (cT im le ln ys vt nu nn rf vw_1 vq_1 yc_1 yh_1 yg_1) (kr (he, ke, ki, fi, fa, or, mi, a, g, l, w, s)) m_1 kk q)) (fun f => rfl) ?_
      exact IH (j + 1) v (some (.ref 124)) vw_1 vq_1 yc_1 yh_1 yg_1 m_1 (by omega) ⟨(by assumption), j1, by assumption, by assumption, by assumption⟩
    · refine me_seg 7 (pc1 := 42) (ls1 := [some (.ref 100), some (.int (v ||| ((1 : Int32) <<< ((nI j) &&& 31)))), some (.int ((nI j) + 1)), some (.ref 124)]) (st1 := []) (M1 := (mk_M (cT im le ln ys vt nu nn rf vw_1 vq_1 yc_1 yh_1 yg_1) (kr (he, ke, ki, fi, fa, or, mi, a, g, l, w, s)) m_1 kk q)) (fun f => rfl) ?_
      refine me_l (fun q_ => [some (.ref 100), some (.int (v ||| ((1 : Int32) <<< ((nI j) &&& 31)))), some (.int q_), some (.ref 124)]) (nI_add j 1) ?_
      refine me_seg 1 (pc1 := 4) (ls1 := [some (.ref 100), some (.int (v ||| ((1 : Int32) <<< ((nI j) &&& 31)))), some (.int (nI (j + 1))), some (.ref 124)]) (st1 := []) (M1 := (mk_M (cT im le ln ys vt nu nn rf vw_1 vq_1 yc_1 yh_1 yg_1) (kr (he, ke, ki, fi, fa, or, mi, a, g, l, w, s)) m_1 kk q)) (fun f => rfl) ?_
      exact IH (j + 1) (v ||| ((1 : Int32) <<< ((nI j) &&& 31))) (some (.ref 124)) vw_1 vq_1 yc_1 yh_1 yg_1 m_1 (by omega) ⟨(by assumption), j1, by assumption, by assumption, by assumption⟩
set_option maxRecDepth 100000 in
theorem wc_mf (he ke ki fi fa or : List Nat) (mi a g l w s : Nat) (im : Nat) (le : List Nat) (ln : Nat) (ys : List Int32) (vt : Int32) (nu : List Nat) (nn : Nat) (rf : List Nat) (kk : kG) (q : cR) (hA : iA (he, ke, ki, fi, fa, or, mi, a, g, l, w, s)) (hC : iC nu nn) (vw vq : Int32) (yc yh yg : List Int32) (m : kG) (hJ : iJ m ys yc yh yg) : mm_E 116 0 [some (.ref 100), none, none, none] [] (mk_M (cT im le ln ys vt nu nn rf vw vq yc yh yg) (kr (he, ke, ki, fi, fa, or, mi, a, g, l, w, s)) m kk q) (pC isI (he, ke, ki, fi, fa, or, mi, a, g, l, w, s) im le ln ys vt nu nn rf kk q) := by
  obtain ⟨hV, hst⟩ := id hA
  have hst2 : s ≤ 999 := hst
  obtain ⟨v1, v2, v3, v4, v5, v6, v7, v8, v9, v10, v11, v12, v13, v14, v15, v16⟩ := id hV
  have v6l := kO_len mi v7 or v6
  obtain ⟨c1, c2, c3⟩ := id hC
  obtain ⟨j0, j1, j2, j3, j4⟩ := id hJ
  refine me_seg 4 (pc1 := 4) (ls1 := [some (.ref 100), some (.int 0), some (.int 0), none]) (st1 := []) (M1 := (mk_M (cT im le ln ys vt nu nn rf vw vq yc yh yg) (kr (he, ke, ki, fi, fa, or, mi, a, g, l, w, s)) m kk q)) (fun f => rfl) ?_
  exact wc_mfL he ke ki fi fa or mi a g l w s im le ln ys vt nu nn rf kk q hA hC mi 0 0 none vw vq yc yh yg m (by omega) ⟨(by assumption), j1, by assumption, by assumption, by assumption⟩
set_option maxRecDepth 100000 in
theorem wc_kfL (he ke ki fi fa or : List Nat) (mi a g l w s : Nat) (im : Nat) (le : List Nat) (ln : Nat) (ys : List Int32) (vt : Int32) (nu : List Nat) (nn : Nat) (rf : List Nat) (kk : kG) (q : cR) (hA : iA (he, ke, ki, fi, fa, or, mi, a, g, l, w, s)) (hC : iC nu nn) (k : Nat) : ∀ (j : Nat) (v : Int32) (lo3 : Option Value) (vw vq : Int32) (yc yh yg : List Int32) (m : kG), j + k = 6 → iJ m ys yc yh yg → mm_E 118 16 [some (.ref 100), some (.int v), some (.int (nI j)), lo3] [] (mk_M (cT im le ln ys vt nu nn rf vw vq yc yh yg) (kr (he, ke, ki, fi, fa, or, mi, a, g, l, w, s)) m kk q) (pC isI (he, ke, ki, fi, fa, or, mi, a, g, l, w, s) im le ln ys vt nu nn rf kk q) := by
  obtain ⟨hV, hst⟩ := id hA
  have hst2 : s ≤ 999 := hst
  obtain ⟨v1, v2, v3, v4, v5, v6, v7, v8, v9, v10, v11, v12, v13, v14, v15, v16⟩ := id hV
  have v6l := kO_len mi v7 or v6
  obtain ⟨c1, c2, c3⟩ := id hC
  induction k with
  | zero =>
    intro j v lo3 vw vq yc yh yg m hj hJ
    obtain ⟨j0, j1, j2, j3, j4⟩ := id hJ
    have v60 := kO_lt5 mi v7 or v6 0 (by omega)
    refine me_seg 2 (pc1 := 19) (ls1 := [some (.ref 100), some (.int v), some (.int (nI j)), lo3]) (st1 := [.int 6, .int (nI j)]) (M1 := (mk_M (cT im le ln ys vt nu nn rf vw vq yc yh yg) (kr (he, ke, ki, fi, fa, or, mi, a, g, l, w, s)) m kk q)) (fun f => rfl) ?_
    refine me_t (C := 6 ≤ (nI j)) (nI_let (a := 6) (b := j) (by omega)) (fun f => rfl) ?_
    refine me_ret 2 (r := some (.int v)) (M1 := (mk_M (cT im le ln ys vt nu nn rf vw vq yc yh yg) (kr (he, ke, ki, fi, fa, or, mi, a, g, l, w, s)) m kk q)) (fun f => rfl) ?_
    exact ⟨⟨_, rfl⟩, _, _, _, _, _, _, rfl, ⟨(by assumption), j1, by assumption, by assumption, by assumption⟩⟩
  | succ k IH =>
    intro j v lo3 vw vq yc yh yg m hj hJ
    obtain ⟨j0, j1, j2, j3, j4⟩ := id hJ
    have v60 := kO_lt5 mi v7 or v6 0 (by omega)
    refine me_seg 2 (pc1 := 19) (ls1 := [some (.ref 100), some (.int v), some (.int (nI j)), lo3]) (st1 := [.int 6, .int (nI j)]) (M1 := (mk_M (cT im le ln ys vt nu nn rf vw vq yc yh yg) (kr (he, ke, ki, fi, fa, or, mi, a, g, l, w, s)) m kk q)) (fun f => rfl) ?_
    refine me_f (C := 6 ≤ (nI j)) (nI_lef (a := 6) (b := j) (by omega)) (fun f => rfl) ?_
    refine me_seg 1 (pc1 := 23) (ls1 := [some (.ref 100), some (.int v), some (.int (nI j)), lo3]) (st1 := [.ref 100]) (M1 := (mk_M (cT im le ln ys vt nu nn rf vw vq yc yh yg) (kr (he, ke, ki, fi, fa, or, mi, a, g, l, w, s)) m kk q)) (fun f => rfl) ?_
    refine me_call (y := 75) (y0 := 26) (L := [some (.ref 100)]) (rest := []) (rr := some (.ref 124)) (M1 := (mk_M (cT im le ln ys vt nu nn rf vw vq yc yh yg) (kr (he, ke, ki, fi, fa, or, mi, a, g, l, w, s)) (kr (he, ke, ki, fi, fa, or, mi, a, g, l, w, s)) kk q)) (fun f => rfl) (cc_now (he, ke, ki, fi, fa, or, mi, a, g, l, w, s) (cT im le ln ys vt nu nn rf vw vq yc yh yg) m kk q hV (by assumption)) ?_
    refine me_seg 6 (pc1 := 36) (ls1 := [some (.ref 100), some (.int v), some (.int (nI j)), some (.ref 124)]) (st1 := [.int 0, .ref 130, .ref 127]) (M1 := (mk_M (cT im le ln ys vt nu nn rf vw vq yc yh yg) (kr (he, ke, ki, fi, fa, or, mi, a, g, l, w, s)) (kr (he, ke, ki, fi, fa, or, mi, a, g, l, w, s)) kk q)) (fun f => rfl) ?_
    refine me_ldn (xs := (or.map nI)) rfl rfl (k := 0) (by omega) (kg_ok (by omega)) ?_
    refine me_seg 1 (pc1 := 38) (ls1 := [some (.ref 100), some (.int v), some (.int (nI j)), some (.ref 124)]) (st1 := [.int (nI j), .int (nI (kg or 0)), .ref 127]) (M1 := (mk_M (cT im le ln ys vt nu nn rf vw vq yc yh yg) (kr (he, ke, ki, fi, fa, or, mi, a, g, l, w, s)) (kr (he, ke, ki, fi, fa, or, mi, a, g, l, w, s)) kk q)) (fun f => rfl) ?_
    refine me_stn (xs := (ki.map nI)) (ys := ((ki.set (kg or 0) j).map nI)) (M2 := (mk_M (cT im le ln ys vt nu nn rf vw vq yc yh yg) (kr (he, ke, ki, fi, fa, or, mi, a, g, l, w, s)) (kr (he, ke, ki.set (kg or 0) j, fi, fa, or, mi, a, g, l, w, s)) kk q)) rfl rfl (k := kg or 0) (by omega) (by simp only [List.length_map, List.length_set]; omega) ks_ok rfl ?_
    refine me_seg 2 (pc1 := 41) (ls1 := [some (.ref 100), some (.int v), some (.int (nI j)), some (.ref 124)]) (st1 := [.ref 124, .ref 100]) (M1 := (mk_M (cT im le ln ys vt nu nn rf vw vq yc yh yg) (kr (he, ke, ki, fi, fa, or, mi, a, g, l, w, s)) (kr (he, ke, ki.set (kg or 0) j, fi, fa, or, mi, a, g, l, w, s)) kk q)) (fun f => rfl) ?_
    refine me_callE (y := 117) (y0 := 44) (L := [some (.ref 100), some (.ref 124), none]) (rest := []) (fun f => rfl) (wc_gn he ke ki fi fa or mi a g l w s im le ln ys vt nu nn rf kk q hA hC vw vq yc yh yg (he, ke, ki.set (kg or 0) j, fi, fa, or, mi, a, g, l, w, s) ⟨(kSh_r ⟨v1, v2, by rw [List.length_set]; exact v3, v4, v5, v6, v7, v8, v9, v10, v11, v12, v13, fun i => by rw [kg_setc]; split; omega; exact v14 i, v15, v16⟩), j1, by assumption, by assumption, by assumption⟩ ⟨v1, v2, by rw [List.length_set]; exact v3, v4, v5, v6, v7, v8, v9, v10, v11, v12, v13, fun i => by rw [kg_setc]; split; omega; exact v14 i, v15, v16⟩ (show s + 100 < 2 ^ 20 by omega)) ?_
    rintro _ _ ⟨⟨b_1, hb_1, rfl⟩, vw_1, vq_1, yc_1, yh_1, yg_1, m_1, rfl, hJ_1⟩
    obtain ⟨j0_1, j1_1, j2_1, j3_1, j4_1⟩ := id hJ_1
    refine me_if (C := (nI b_1) = 0) (fun f => rfl) (fun h2 => ?_) (fun h2 => ?_)
    · refine me_seg 1 (pc1 := 56) (ls1 := [some (.ref 100), some (.int v), some (.int ((nI j) + 1)), some (.ref 124)]) (st1 := []) (M1 := (mk_M (cT im le ln ys vt nu nn rf vw_1 vq_1 yc_1 yh_1 yg_1) (kr (he, ke, ki, fi, fa, or, mi, a, g, l, w, s)) m_1 kk q)) (fun f => rfl) ?_
      refine me_l (fun q_ => [some (.ref 100), some (.int v), some (.int q_), some (.ref 124)]) (nI_add j 1) ?_
      refine me_seg 1 (pc1 := 16) (ls1 := [some (.ref 100), some (.int v), some (.int (nI (j + 1))), some (.ref 124)]) (st1 := []) (M1 := (mk_M (cT im le ln ys vt nu nn rf vw_1 vq_1 yc_1 yh_1 yg_1) (kr (he, ke, ki, fi, fa, or, mi, a, g, l, w, s)) m_1 kk q)) (fun f => rfl) ?_
      exact IH (j + 1) v (some (.ref 124)) vw_1 vq_1 yc_1 yh_1 yg_1 m_1 (by omega) ⟨(by assumption), j1, by assumption, by assumption, by assumption⟩
    · refine me_seg 7 (pc1 := 56) (ls1 := [some (.ref 100), some (.int (v ||| ((1 : Int32) <<< ((nI j) &&& 31)))), some (.int ((nI j) + 1)), some (.ref 124)]) (st1 := []) (M1 := (mk_M (cT im le ln ys vt nu nn rf vw_1 vq_1 yc_1 yh_1 yg_1) (kr (he, ke, ki, fi, fa, or, mi, a, g, l, w, s)) m_1 kk q)) (fun f => rfl) ?_
      refine me_l (fun q_ => [some (.ref 100), some (.int (v ||| ((1 : Int32) <<< ((nI j) &&& 31)))), some (.int q_), some (.ref 124)]) (nI_add j 1) ?_
      refine me_seg 1 (pc1 := 16) (ls1 := [some (.ref 100), some (.int (v ||| ((1 : Int32) <<< ((nI j) &&& 31)))), some (.int (nI (j + 1))), some (.ref 124)]) (st1 := []) (M1 := (mk_M (cT im le ln ys vt nu nn rf vw_1 vq_1 yc_1 yh_1 yg_1) (kr (he, ke, ki, fi, fa, or, mi, a, g, l, w, s)) m_1 kk q)) (fun f => rfl) ?_
      exact IH (j + 1) (v ||| ((1 : Int32) <<< ((nI j) &&& 31))) (some (.ref 124)) vw_1 vq_1 yc_1 yh_1 yg_1 m_1 (by omega) ⟨(by assumption), j1, by assumption, by assumption, by assumption⟩
set_option maxRecDepth 100000 in
theorem wc_kf (he ke ki fi fa or : List Nat) (mi a g l w s : Nat) (im : Nat) (le : List Nat) (ln : Nat) (ys : List Int32) (vt : Int32) (nu : List Nat) (nn : Nat) (rf : List Nat) (kk : kG) (q : cR) (hA : iA (he, ke, ki, fi, fa, or, mi, a, g, l, w, s)) (hC : iC nu nn) (vw vq : Int32) (yc yh yg : List Int32) (m : kG) (hJ : iJ m ys yc yh yg) : mm_E 118 0 [some (.ref 100), none, none, none] [] (mk_M (cT im le ln ys vt nu nn rf vw vq yc yh yg) (kr (he, ke, ki, fi, fa, or, mi, a, g, l, w, s)) m kk q) (pC isI (he, ke, ki, fi, fa, or, mi, a, g, l, w, s) im le ln ys vt nu nn rf kk q) := by
  obtain ⟨hV, hst⟩ := id hA
  have hst2 : s ≤ 999 := hst
  obtain ⟨v1, v2, v3, v4, v5, v6, v7, v8, v9, v10, v11, v12, v13, v14, v15, v16⟩ := id hV
  have v6l := kO_len mi v7 or v6
  obtain ⟨c1, c2, c3⟩ := id hC
  obtain ⟨j0, j1, j2, j3, j4⟩ := id hJ
  refine me_seg 3 (pc1 := 7) (ls1 := [some (.ref 100), none, none, none]) (st1 := [.int (nI mi)]) (M1 := (mk_M (cT im le ln ys vt nu nn rf vw vq yc yh yg) (kr (he, ke, ki, fi, fa, or, mi, a, g, l, w, s)) m kk q)) (fun f => rfl) ?_
  refine me_if (C := (nI mi) = 0) (fun f => rfl) (fun h1 => ?_) (fun h1 => ?_)
  · refine me_ret 2 (r := some (.int 0)) (M1 := (mk_M (cT im le ln ys vt nu nn rf vw vq yc yh yg) (kr (he, ke, ki, fi, fa, or, mi, a, g, l, w, s)) m kk q)) (fun f => rfl) ?_
    exact ⟨⟨_, rfl⟩, _, _, _, _, _, _, rfl, ⟨(by assumption), j1, by assumption, by assumption, by assumption⟩⟩
  · refine me_seg 4 (pc1 := 16) (ls1 := [some (.ref 100), some (.int 0), some (.int 0), none]) (st1 := []) (M1 := (mk_M (cT im le ln ys vt nu nn rf vw vq yc yh yg) (kr (he, ke, ki, fi, fa, or, mi, a, g, l, w, s)) m kk q)) (fun f => rfl) ?_
    exact wc_kfL he ke ki fi fa or mi a g l w s im le ln ys vt nu nn rf kk q hA hC 6 0 0 none vw vq yc yh yg m (by omega) ⟨(by assumption), j1, by assumption, by assumption, by assumption⟩
set_option maxRecDepth 100000 in
theorem wc_whoPushed_0 (he ke ki fi fa or : List Nat) (mi a g l w s : Nat) (im : Nat) (le : List Nat) (ln : Nat) (ys : List Int32) (vt : Int32) (nu : List Nat) (nn : Nat) (rf : List Nat) (kk : kG) (q : cR) (hA : iA (he, ke, ki, fi, fa, or, mi, a, g, l, w, s)) (hC : iC nu nn) (vw vq : Int32) (yc yh yg : List Int32) (m : kG) (hJ : iJ m ys yc yh yg) : mm_E 115 0 [some (.ref 100), some (.int 0)] [] (mk_M (cT im le ln ys vt nu nn rf vw vq yc yh yg) (kr (he, ke, ki, fi, fa, or, mi, a, g, l, w, s)) m kk q) (pC isI (he, ke, ki, fi, fa, or, mi, a, g, l, w, s) im le ln ys vt nu nn rf kk q) := by
  obtain ⟨hV, hst⟩ := id hA
  have hst2 : s ≤ 999 := hst
  obtain ⟨v1, v2, v3, v4, v5, v6, v7, v8, v9, v10, v11, v12, v13, v14, v15, v16⟩ := id hV
  have v6l := kO_len mi v7 or v6
  obtain ⟨c1, c2, c3⟩ := id hC
  obtain ⟨j0, j1, j2, j3, j4⟩ := id hJ
  refine me_seg 8 (pc1 := 21) (ls1 := [some (.ref 100), some (.int 0)]) (st1 := [.ref 100]) (M1 := (mk_M (cT im le ln ys vt nu nn rf vw vq yc yh yg) (kr (he, ke, ki, fi, fa, or, mi, a, g, l, w, s)) m kk q)) (fun f => rfl) ?_
  refine me_callE (y := 116) (y0 := 24) (L := [some (.ref 100), none, none, none]) (rest := []) (fun f => rfl) (wc_mf he ke ki fi fa or mi a g l w s im le ln ys vt nu nn rf kk q hA hC vw vq yc yh yg m ⟨(by assumption), j1, by assumption, by assumption, by assumption⟩) ?_
  rintro _ _ ⟨⟨w_1, rfl⟩, vw_1, vq_1, yc_1, yh_1, yg_1, m_1, rfl, hJ_1⟩
  obtain ⟨j0_1, j1_1, j2_1, j3_1, j4_1⟩ := id hJ_1
  refine me_ret 2 (r := some (.int w_1)) (M1 := (mk_M (cT im le ln ys vt nu nn rf vw_1 vq_1 yc_1 yh_1 yg_1) (kr (he, ke, ki, fi, fa, or, mi, a, g, l, w, s)) m_1 kk q)) (fun f => rfl) ?_
  exact ⟨⟨_, rfl⟩, _, _, _, _, _, _, rfl, ⟨(by assumption), j1, by assumption, by assumption, by assumption⟩⟩
set_option maxRecDepth 100000 in
theorem wc_whoPushed_1 (he ke ki fi fa or : List Nat) (mi a g l w s : Nat) (im : Nat) (le : List Nat) (ln : Nat) (ys : List Int32) (vt : Int32) (nu : List Nat) (nn : Nat) (rf : List Nat) (kk : kG) (q : cR) (hA : iA (he, ke, ki, fi, fa, or, mi, a, g, l, w, s)) (hC : iC nu nn) (vw vq : Int32) (yc yh yg : List Int32) (m : kG) (hJ : iJ m ys yc yh yg) : mm_E 115 0 [some (.ref 100), some (.int 1)] [] (mk_M (cT im le ln ys vt nu nn rf vw vq yc yh yg) (kr (he, ke, ki, fi, fa, or, mi, a, g, l, w, s)) m kk q) (pC isI (he, ke, ki, fi, fa, or, mi, a, g, l, w, s) im le ln ys vt nu nn rf kk q) := by
  obtain ⟨hV, hst⟩ := id hA
  have hst2 : s ≤ 999 := hst
  obtain ⟨v1, v2, v3, v4, v5, v6, v7, v8, v9, v10, v11, v12, v13, v14, v15, v16⟩ := id hV
  have v6l := kO_len mi v7 or v6
  obtain ⟨c1, c2, c3⟩ := id hC
  obtain ⟨j0, j1, j2, j3, j4⟩ := id hJ
  refine me_seg 8 (pc1 := 28) (ls1 := [some (.ref 100), some (.int 1)]) (st1 := [.ref 100]) (M1 := (mk_M (cT im le ln ys vt nu nn rf vw vq yc yh yg) (kr (he, ke, ki, fi, fa, or, mi, a, g, l, w, s)) m kk q)) (fun f => rfl) ?_
  refine me_callE (y := 118) (y0 := 31) (L := [some (.ref 100), none, none, none]) (rest := []) (fun f => rfl) (wc_kf he ke ki fi fa or mi a g l w s im le ln ys vt nu nn rf kk q hA hC vw vq yc yh yg m ⟨(by assumption), j1, by assumption, by assumption, by assumption⟩) ?_
  rintro _ _ ⟨⟨w_1, rfl⟩, vw_1, vq_1, yc_1, yh_1, yg_1, m_1, rfl, hJ_1⟩
  obtain ⟨j0_1, j1_1, j2_1, j3_1, j4_1⟩ := id hJ_1
  refine me_ret 1 (r := some (.int w_1)) (M1 := (mk_M (cT im le ln ys vt nu nn rf vw_1 vq_1 yc_1 yh_1 yg_1) (kr (he, ke, ki, fi, fa, or, mi, a, g, l, w, s)) m_1 kk q)) (fun f => rfl) ?_
  exact ⟨⟨_, rfl⟩, _, _, _, _, _, _, rfl, ⟨(by assumption), j1, by assumption, by assumption, by assumption⟩⟩
set_option maxRecDepth 100000 in
theorem wc_lotsL (he ke ki fi fa or : List Nat) (mi a g l w s : Nat) (im : Nat) (le : List Nat) (ln : Nat) (ys : List Int32) (vt : Int32) (nu : List Nat) (nn : Nat) (rf : List Nat) (kk : kG) (q : cR) (hA : iA (he, ke, ki, fi, fa, or, mi, a, g, l, w, s)) (hC : iC nu nn) (x : Nat) (hx1 : 1 ≤ x) (hx : x ≤ 20) (z : Int32) (y : Nat) (hy : y < 2) (k : Nat) : ∀ (j : Nat) (u : Int32) (v : Int32) (sd : Int32) (lo8 : Option Value) (vw vq : Int32) (yc yh yg : List Int32) (m : kG), j + k = x → iJ m ys yc yh yg → mm_E 122 53 [some (.ref 100), some (.int (nI x)), some (.int z), some (.int (nI y)), some (.int u), some (.int v), some (.int sd), some (.int (nI j)), lo8] [] (mk_M (cT im le ln ys vt nu nn rf vw vq yc yh yg) (kr (he, ke, ki, fi, fa, or, mi, a, g, l, w, s)) m kk q) (pC isI (he, ke, ki, fi, fa, or, mi, a, g, l, w, s) im le ln ys vt nu nn rf kk q) := by
  obtain ⟨hV, hst⟩ := id hA
  have hst2 : s ≤ 999 := hst
  obtain ⟨v1, v2, v3, v4, v5, v6, v7, v8, v9, v10, v11, v12, v13, v14, v15, v16⟩ := id hV
  have v6l := kO_len mi v7 or v6
  obtain ⟨c1, c2, c3⟩ := id hC
  induction k with
  | zero =>
    intro j u v sd lo8 vw vq yc yh yg m hj hJ
    obtain ⟨j0, j1, j2, j3, j4⟩ := id hJ
    refine me_seg 2 (pc1 := 56) (ls1 := [some (.ref 100), some (.int (nI x)), some (.int z), some (.int (nI y)), some (.int u), some (.int v), some (.int sd), some (.int (nI j)), lo8]) (st1 := [.int (nI x), .int (nI j)]) (M1 := (mk_M (cT im le ln ys vt nu nn rf vw vq yc yh yg) (kr (he, ke, ki, fi, fa, or, mi, a, g, l, w, s)) m kk q)) (fun f => rfl) ?_
    refine me_t (C := (nI x) ≤ (nI j)) (nI_let (a := x) (b := j) (by omega)) (fun f => rfl) ?_
    refine me_seg 1 (pc1 := 177) (ls1 := [some (.ref 100), some (.int (nI x)), some (.int z), some (.int (nI y)), some (.int u), some (.int v), some (.int sd), some (.int (nI j)), lo8]) (st1 := [.int (nI y)]) (M1 := (mk_M (cT im le ln ys vt nu nn rf vw vq yc yh yg) (kr (he, ke, ki, fi, fa, or, mi, a, g, l, w, s)) m kk q)) (fun f => rfl) ?_
    refine me_if (C := (nI y) = 0) (fun f => rfl) (fun h1 => ?_) (fun h1 => ?_)
    · refine me_ret 3 (r := some (.int u)) (M1 := (mk_M (cT im le ln ys vt nu nn rf vw vq yc yh yg) (kr (he, ke, ki, fi, fa, or, mi, a, g, l, w, s)) m kk q)) (fun f => rfl) ?_
      exact ⟨⟨_, rfl⟩, _, _, _, _, _, _, rfl, ⟨(by assumption), j1, by assumption, by assumption, by assumption⟩⟩
    · refine me_ret 2 (r := some (.int v)) (M1 := (mk_M (cT im le ln ys vt nu nn rf vw vq yc yh yg) (kr (he, ke, ki, fi, fa, or, mi, a, g, l, w, s)) m kk q)) (fun f => rfl) ?_
      exact ⟨⟨_, rfl⟩, _, _, _, _, _, _, rfl, ⟨(by assumption), j1, by assumption, by assumption, by assumption⟩⟩
  | succ k IH =>
    intro j u v sd lo8 vw vq yc yh yg m hj hJ
    obtain ⟨j0, j1, j2, j3, j4⟩ := id hJ
    refine me_seg 2 (pc1 := 56) (ls1 := [some (.ref 100), some (.int (nI x)), some (.int z), some (.int (nI y)), some (.int u), some (.int v), some (.int sd), some (.int (nI j)), lo8]) (st1 := [.int (nI x), .int (nI j)]) (M1 := (mk_M (cT im le ln ys vt nu nn rf vw vq yc yh yg) (kr (he, ke, ki, fi, fa, or, mi, a, g, l, w, s)) m kk q)) (fun f => rfl) ?_
    refine me_f (C := (nI x) ≤ (nI j)) (nI_lef (a := x) (b := j) (by omega)) (fun f => rfl) ?_
    refine me_seg 1 (pc1 := 60) (ls1 := [some (.ref 100), some (.int (nI x)), some (.int z), some (.int (nI y)), some (.int u), some (.int v), some (.int sd), some (.int (nI j)), lo8]) (st1 := [.ref 100]) (M1 := (mk_M (cT im le ln ys vt nu nn rf vw vq yc yh yg) (kr (he, ke, ki, fi, fa, or, mi, a, g, l, w, s)) m kk q)) (fun f => rfl) ?_
    refine me_call (y := 75) (y0 := 63) (L := [some (.ref 100)]) (rest := []) (rr := some (.ref 124)) (M1 := (mk_M (cT im le ln ys vt nu nn rf vw vq yc yh yg) (kr (he, ke, ki, fi, fa, or, mi, a, g, l, w, s)) (kr (he, ke, ki, fi, fa, or, mi, a, g, l, w, s)) kk q)) (fun f => rfl) (cc_now (he, ke, ki, fi, fa, or, mi, a, g, l, w, s) (cT im le ln ys vt nu nn rf vw vq yc yh yg) m kk q hV (by assumption)) ?_
    refine me_seg 2 (pc1 := 67) (ls1 := [some (.ref 100), some (.int (nI x)), some (.int z), some (.int (nI y)), some (.int u), some (.int v), some (.int sd), some (.int (nI j)), some (.ref 124)]) (st1 := [.int sd]) (M1 := (mk_M (cT im le ln ys vt nu nn rf vw vq yc yh yg) (kr (he, ke, ki, fi, fa, or, mi, a, g, l, w, s)) (kr (he, ke, ki, fi, fa, or, mi, a, g, l, w, s)) kk q)) (fun f => rfl) ?_
    refine me_callE (y := 123) (y0 := 70) (L := [some (.int sd)]) (rest := []) (fun f => rfl) (wc_next sd _) ?_
    rintro _ _ ⟨⟨w_1, rfl⟩, rfl⟩
    refine me_seg 4 (pc1 := 78) (ls1 := [some (.ref 100), some (.int (nI x)), some (.int z), some (.int (nI y)), some (.int u), some (.int v), some (.int w_1), some (.int (nI j)), some (.ref 124)]) (st1 := [.int 25, .int w_1, .ref 124]) (M1 := (mk_M (cT im le ln ys vt nu nn rf vw vq yc yh yg) (kr (he, ke, ki, fi, fa, or, mi, a, g, l, w, s)) (kr (he, ke, ki, fi, fa, or, mi, a, g, l, w, s)) kk q)) (fun f => rfl) ?_
    refine me_callE (y := 124) (y0 := 81) (L := [some (.int w_1), some (.int 25)]) (rest := [.ref 124]) (fun f => rfl) (wc_draw25 w_1 _) ?_
    rintro _ _ ⟨⟨d_2, hd_2, rfl⟩, rfl⟩
    refine me_seg 1 (pc1 := 84) (ls1 := [some (.ref 100), some (.int (nI x)), some (.int z), some (.int (nI y)), some (.int u), some (.int v), some (.int w_1), some (.int (nI j)), some (.ref 124)]) (st1 := []) (M1 := (mk_Mm (cT im le ln ys vt nu nn rf vw vq yc yh yg) (kr (he, ke, ki, fi, fa, or, mi, a, g, l, w, s)) (he.map nI) (ke.map nI) (ki.map nI) (fi.map nI) (fa.map nI) (or.map nI) (nI mi) (nI d_2) (nI g) (nI l) (nI w) (nI s) kk q)) (fun f => rfl) ?_
    refine me_M (mk_Mk (cT im le ln ys vt nu nn rf vw vq yc yh yg) (kr (he, ke, ki, fi, fa, or, mi, a, g, l, w, s)) he ke ki fi fa or mi d_2 g l w s kk q) ?_
    refine me_seg 1 (pc1 := 86) (ls1 := [some (.ref 100), some (.int (nI x)), some (.int z), some (.int (nI y)), some (.int u), some (.int v), some (.int w_1), some (.int (nI j)), some (.ref 124)]) (st1 := [.int w_1]) (M1 := (mk_M (cT im le ln ys vt nu nn rf vw vq yc yh yg) (kr (he, ke, ki, fi, fa, or, mi, a, g, l, w, s)) (kr (he, ke, ki, fi, fa, or, mi, d_2, g, l, w, s)) kk q)) (fun f => rfl) ?_
    refine me_callE (y := 123) (y0 := 89) (L := [some (.int w_1)]) (rest := []) (fun f => rfl) (wc_next w_1 _) ?_
    rintro _ _ ⟨⟨w_3, rfl⟩, rfl⟩
    refine me_seg 4 (pc1 := 97) (ls1 := [some (.ref 100), some (.int (nI x)), some (.int z), some (.int (nI y)), some (.int u), some (.int v), some (.int w_3), some (.int (nI j)), some (.ref 124)]) (st1 := [.int 25, .int w_3, .ref 124]) (M1 := (mk_M (cT im le ln ys vt nu nn rf vw vq yc yh yg) (kr (he, ke, ki, fi, fa, or, mi, a, g, l, w, s)) (kr (he, ke, ki, fi, fa, or, mi, d_2, g, l, w, s)) kk q)) (fun f => rfl) ?_
    refine me_callE (y := 124) (y0 := 100) (L := [some (.int w_3), some (.int 25)]) (rest := [.ref 124]) (fun f => rfl) (wc_draw25 w_3 _) ?_
    rintro _ _ ⟨⟨d_4, hd_4, rfl⟩, rfl⟩
    refine me_seg 1 (pc1 := 103) (ls1 := [some (.ref 100), some (.int (nI x)), some (.int z), some (.int (nI y)), some (.int u), some (.int v), some (.int w_3), some (.int (nI j)), some (.ref 124)]) (st1 := []) (M1 := (mk_Mm (cT im le ln ys vt nu nn rf vw vq yc yh yg) (kr (he, ke, ki, fi, fa, or, mi, a, g, l, w, s)) (he.map nI) (ke.map nI) (ki.map nI) (fi.map nI) (fa.map nI) (or.map nI) (nI mi) (nI d_2) (nI d_4) (nI l) (nI w) (nI s) kk q)) (fun f => rfl) ?_
    refine me_M (mk_Mk (cT im le ln ys vt nu nn rf vw vq yc yh yg) (kr (he, ke, ki, fi, fa, or, mi, a, g, l, w, s)) he ke ki fi fa or mi d_2 d_4 l w s kk q) ?_
    refine me_seg 1 (pc1 := 105) (ls1 := [some (.ref 100), some (.int (nI x)), some (.int z), some (.int (nI y)), some (.int u), some (.int v), some (.int w_3), some (.int (nI j)), some (.ref 124)]) (st1 := [.int w_3]) (M1 := (mk_M (cT im le ln ys vt nu nn rf vw vq yc yh yg) (kr (he, ke, ki, fi, fa, or, mi, a, g, l, w, s)) (kr (he, ke, ki, fi, fa, or, mi, d_2, d_4, l, w, s)) kk q)) (fun f => rfl) ?_
    refine me_callE (y := 123) (y0 := 108) (L := [some (.int w_3)]) (rest := []) (fun f => rfl) (wc_next w_3 _) ?_
    rintro _ _ ⟨⟨w_5, rfl⟩, rfl⟩
    refine me_seg 4 (pc1 := 116) (ls1 := [some (.ref 100), some (.int (nI x)), some (.int z), some (.int (nI y)), some (.int u), some (.int v), some (.int w_5), some (.int (nI j)), some (.ref 124)]) (st1 := [.int 11, .int w_5, .ref 124]) (M1 := (mk_M (cT im le ln ys vt nu nn rf vw vq yc yh yg) (kr (he, ke, ki, fi, fa, or, mi, a, g, l, w, s)) (kr (he, ke, ki, fi, fa, or, mi, d_2, d_4, l, w, s)) kk q)) (fun f => rfl) ?_
    refine me_callE (y := 124) (y0 := 119) (L := [some (.int w_5), some (.int 11)]) (rest := [.ref 124]) (fun f => rfl) (wc_draw11 w_5 _) ?_
    rintro _ _ ⟨⟨d_6, hd_6, rfl⟩, rfl⟩
    refine me_seg 1 (pc1 := 122) (ls1 := [some (.ref 100), some (.int (nI x)), some (.int z), some (.int (nI y)), some (.int u), some (.int v), some (.int w_5), some (.int (nI j)), some (.ref 124)]) (st1 := []) (M1 := (mk_Mm (cT im le ln ys vt nu nn rf vw vq yc yh yg) (kr (he, ke, ki, fi, fa, or, mi, a, g, l, w, s)) (he.map nI) (ke.map nI) (ki.map nI) (fi.map nI) (fa.map nI) (or.map nI) (nI mi) (nI d_2) (nI d_4) (nI l) (nI d_6) (nI s) kk q)) (fun f => rfl) ?_
    refine me_M (mk_Mk (cT im le ln ys vt nu nn rf vw vq yc yh yg) (kr (he, ke, ki, fi, fa, or, mi, a, g, l, w, s)) he ke ki fi fa or mi d_2 d_4 l d_6 s kk q) ?_
    refine me_seg 2 (pc1 := 126) (ls1 := [some (.ref 100), some (.int (nI x)), some (.int z), some (.int (nI y)), some (.int u), some (.int v), some (.int w_5), some (.int (nI j)), some (.ref 124)]) (st1 := [.int 12, .ref 124]) (M1 := (mk_M (cT im le ln ys vt nu nn rf vw vq yc yh yg) (kr (he, ke, ki, fi, fa, or, mi, a, g, l, w, s)) (kr (he, ke, ki, fi, fa, or, mi, d_2, d_4, l, d_6, s)) kk q)) (fun f => rfl) ?_
    refine me_call (y := 43) (y0 := 129) (L := [some (.ref 124), some (.int 12), none]) (rest := []) (rr := none) (M1 := (mk_M (cT im le ln ys vt nu nn rf vw vq yc yh yg) (kr (he, ke, ki, fi, fa, or, mi, a, g, l, w, s)) (kr (ksteps 12 (he, ke, ki, fi, fa, or, mi, d_2, d_4, l, d_6, s))) kk q)) (fun f => rfl) (kl_m (cT im le ln ys vt nu nn rf vw vq yc yh yg) (kr (he, ke, ki, fi, fa, or, mi, a, g, l, w, s)) kk q (kc_by_m 12 (by omega) (he, ke, ki, fi, fa, or, mi, d_2, d_4, l, d_6, s) ⟨v1, v2, v3, v4, v5, v6, v7, by omega, by omega, v10, by omega, v12, v13, v14, v15, v16⟩ (show s < 2 ^ 20 by omega))) ?_
    obtain ⟨Q_7, hEQ_7, hQ_7, hsQ_7⟩ := k_genS 12 (he, ke, ki, fi, fa, or, mi, d_2, d_4, l, d_6, s) ⟨v1, v2, v3, v4, v5, v6, v7, by omega, by omega, v10, by omega, v12, v13, v14, v15, v16⟩ (by have hq_ : k_st (he, ke, ki, fi, fa, or, mi, d_2, d_4, l, d_6, s) < 2 ^ 19 := (show s < 2 ^ 19 by omega); omega)
    rw [hEQ_7]
    clear hEQ_7
    refine me_seg 5 (pc1 := 141) (ls1 := [some (.ref 100), some (.int (nI x)), some (.int z), some (.int (nI y)), some (.int u), some (.int v), some (.int w_5), some (.int (nI j)), some (.ref 124)]) (st1 := [.int (nI (k_go Q_7)), .int (nI (k_at Q_7)), .int u]) (M1 := (mk_M (cT im le ln ys vt nu nn rf vw vq yc yh yg) (kr (he, ke, ki, fi, fa, or, mi, a, g, l, w, s)) (kr Q_7) kk q)) (fun f => rfl) ?_
    refine me_if (C := (nI (k_at Q_7)) = (nI (k_go Q_7))) (fun f => rfl) (fun h8 => ?_) (fun h8 => ?_)
    · refine me_seg 6 (pc1 := 156) (ls1 := [some (.ref 100), some (.int (nI x)), some (.int z), some (.int (nI y)), some (.int (u + (1 : Int32))), some (.int v), some (.int w_5), some (.int (nI j)), some (.ref 124)]) (st1 := [.ref 124, .int v]) (M1 := (mk_M (cT im le ln ys vt nu nn rf vw vq yc yh yg) (kr (he, ke, ki, fi, fa, or, mi, a, g, l, w, s)) (kr Q_7) kk q)) (fun f => rfl) ?_
      refine me_call (y := 77) (y0 := 159) (L := [some (.ref 124), none, none]) (rest := [.int v]) (rr := some (.int (nI (ksum (k_fa Q_7) (k_mi Q_7))))) (M1 := (mk_M (cT im le ln ys vt nu nn rf vw vq yc yh yg) (kr (he, ke, ki, fi, fa, or, mi, a, g, l, w, s)) (kr Q_7) kk q)) (fun f => rfl) (kl_m (cT im le ln ys vt nu nn rf vw vq yc yh yg) (kr (he, ke, ki, fi, fa, or, mi, a, g, l, w, s)) kk q (kc_af_m Q_7 hQ_7)) ?_
      refine me_seg 2 (pc1 := 163) (ls1 := [some (.ref 100), some (.int (nI x)), some (.int z), some (.int (nI y)), some (.int (u + (1 : Int32))), some (.int v), some (.int w_5), some (.int (nI j)), some (.ref 124)]) (st1 := [.ref 117, .int (nI (ksum (k_fa Q_7) (k_mi Q_7))), .int v]) (M1 := (mk_M (cT im le ln ys vt nu nn rf vw vq yc yh yg) (kr (he, ke, ki, fi, fa, or, mi, a, g, l, w, s)) (kr Q_7) kk q)) (fun f => rfl) ?_
      refine me_call (y := 77) (y0 := 166) (L := [some (.ref 117), none, none]) (rest := [.int (nI (ksum (k_fa Q_7) (k_mi Q_7))), .int v]) (rr := some (.int (nI (ksum fa mi)))) (M1 := (mk_M (cT im le ln ys vt nu nn rf vw vq yc yh yg) (kr (he, ke, ki, fi, fa, or, mi, a, g, l, w, s)) (kr Q_7) kk q)) (fun f => rfl) (kl_n (cT im le ln ys vt nu nn rf vw vq yc yh yg) (kr Q_7) kk q (kc_af_n (he, ke, ki, fi, fa, or, mi, a, g, l, w, s) hV)) ?_
      refine me_seg 4 (pc1 := 173) (ls1 := [some (.ref 100), some (.int (nI x)), some (.int z), some (.int (nI y)), some (.int (u + (1 : Int32))), some (.int (v + ((nI (ksum (k_fa Q_7) (k_mi Q_7))) - (nI (ksum fa mi))))), some (.int w_5), some (.int ((nI j) + 1)), some (.ref 124)]) (st1 := []) (M1 := (mk_M (cT im le ln ys vt nu nn rf vw vq yc yh yg) (kr (he, ke, ki, fi, fa, or, mi, a, g, l, w, s)) (kr Q_7) kk q)) (fun f => rfl) ?_
      refine me_l (fun q_ => [some (.ref 100), some (.int (nI x)), some (.int z), some (.int (nI y)), some (.int (u + (1 : Int32))), some (.int (v + ((nI (ksum (k_fa Q_7) (k_mi Q_7))) - (nI (ksum fa mi))))), some (.int w_5), some (.int q_), some (.ref 124)]) (nI_add j 1) ?_
      refine me_seg 1 (pc1 := 53) (ls1 := [some (.ref 100), some (.int (nI x)), some (.int z), some (.int (nI y)), some (.int (u + (1 : Int32))), some (.int (v + ((nI (ksum (k_fa Q_7) (k_mi Q_7))) - (nI (ksum fa mi))))), some (.int w_5), some (.int (nI (j + 1))), some (.ref 124)]) (st1 := []) (M1 := (mk_M (cT im le ln ys vt nu nn rf vw vq yc yh yg) (kr (he, ke, ki, fi, fa, or, mi, a, g, l, w, s)) (kr Q_7) kk q)) (fun f => rfl) ?_
      exact IH (j + 1) (u + (1 : Int32)) (v + ((nI (ksum (k_fa Q_7) (k_mi Q_7))) - (nI (ksum fa mi)))) w_5 (some (.ref 124)) vw vq yc yh yg (kr Q_7) (by omega) ⟨(kSh_r hQ_7), j1, by assumption, by assumption, by assumption⟩
    · refine me_seg 5 (pc1 := 156) (ls1 := [some (.ref 100), some (.int (nI x)), some (.int z), some (.int (nI y)), some (.int (u + (0 : Int32))), some (.int v), some (.int w_5), some (.int (nI j)), some (.ref 124)]) (st1 := [.ref 124, .int v]) (M1 := (mk_M (cT im le ln ys vt nu nn rf vw vq yc yh yg) (kr (he, ke, ki, fi, fa, or, mi, a, g, l, w, s)) (kr Q_7) kk q)) (fun f => rfl) ?_
      refine me_call (y := 77) (y0 := 159) (L := [some (.ref 124), none, none]) (rest := [.int v]) (rr := some (.int (nI (ksum (k_fa Q_7) (k_mi Q_7))))) (M1 := (mk_M (cT im le ln ys vt nu nn rf vw vq yc yh yg) (kr (he, ke, ki, fi, fa, or, mi, a, g, l, w, s)) (kr Q_7) kk q)) (fun f => rfl) (kl_m (cT im le ln ys vt nu nn rf vw vq yc yh yg) (kr (he, ke, ki, fi, fa, or, mi, a, g, l, w, s)) kk q (kc_af_m Q_7 hQ_7)) ?_
      refine me_seg 2 (pc1 := 163) (ls1 := [some (.ref 100), some (.int (nI x)), some (.int z), some (.int (nI y)), some (.int (u + (0 : Int32))), some (.int v), some (.int w_5), some (.int (nI j)), some (.ref 124)]) (st1 := [.ref 117, .int (nI (ksum (k_fa Q_7) (k_mi Q_7))), .int v]) (M1 := (mk_M (cT im le ln ys vt nu nn rf vw vq yc yh yg) (kr (he, ke, ki, fi, fa, or, mi, a, g, l, w, s)) (kr Q_7) kk q)) (fun f => rfl) ?_
      refine me_call (y := 77) (y0 := 166) (L := [some (.ref 117), none, none]) (rest := [.int (nI (ksum (k_fa Q_7) (k_mi Q_7))), .int v]) (rr := some (.int (nI (ksum fa mi)))) (M1 := (mk_M (cT im le ln ys vt nu nn rf vw vq yc yh yg) (kr (he, ke, ki, fi, fa, or, mi, a, g, l, w, s)) (kr Q_7) kk q)) (fun f => rfl) (kl_n (cT im le ln ys vt nu nn rf vw vq yc yh yg) (kr Q_7) kk q (kc_af_n (he, ke, ki, fi, fa, or, mi, a, g, l, w, s) hV)) ?_
      refine me_seg 4 (pc1 := 173) (ls1 := [some (.ref 100), some (.int (nI x)), some (.int z), some (.int (nI y)), some (.int (u + (0 : Int32))), some (.int (v + ((nI (ksum (k_fa Q_7) (k_mi Q_7))) - (nI (ksum fa mi))))), some (.int w_5), some (.int ((nI j) + 1)), some (.ref 124)]) (st1 := []) (M1 := (mk_M (cT im le ln ys vt nu nn rf vw vq yc yh yg) (kr (he, ke, ki, fi, fa, or, mi, a, g, l, w, s)) (kr Q_7) kk q)) (fun f => rfl) ?_
      refine me_l (fun q_ => [some (.ref 100), some (.int (nI x)), some (.int z), some (.int (nI y)), some (.int (u + (0 : Int32))), some (.int (v + ((nI (ksum (k_fa Q_7) (k_mi Q_7))) - (nI (ksum fa mi))))), some (.int w_5), some (.int q_), some (.ref 124)]) (nI_add j 1) ?_
      refine me_seg 1 (pc1 := 53) (ls1 := [some (.ref 100), some (.int (nI x)), some (.int z), some (.int (nI y)), some (.int (u + (0 : Int32))), some (.int (v + ((nI (ksum (k_fa Q_7) (k_mi Q_7))) - (nI (ksum fa mi))))), some (.int w_5), some (.int (nI (j + 1))), some (.ref 124)]) (st1 := []) (M1 := (mk_M (cT im le ln ys vt nu nn rf vw vq yc yh yg) (kr (he, ke, ki, fi, fa, or, mi, a, g, l, w, s)) (kr Q_7) kk q)) (fun f => rfl) ?_
      exact IH (j + 1) (u + (0 : Int32)) (v + ((nI (ksum (k_fa Q_7) (k_mi Q_7))) - (nI (ksum fa mi)))) w_5 (some (.ref 124)) vw vq yc yh yg (kr Q_7) (by omega) ⟨(kSh_r hQ_7), j1, by assumption, by assumption, by assumption⟩
set_option maxRecDepth 100000 in
theorem wc_lots (he ke ki fi fa or : List Nat) (mi a g l w s : Nat) (im : Nat) (le : List Nat) (ln : Nat) (ys : List Int32) (vt : Int32) (nu : List Nat) (nn : Nat) (rf : List Nat) (kk : kG) (q : cR) (hA : iA (he, ke, ki, fi, fa, or, mi, a, g, l, w, s)) (hC : iC nu nn) (vw vq : Int32) (yc yh yg : List Int32) (m : kG) (hJ : iJ m ys yc yh yg) (x : Nat) (hx1 : 1 ≤ x) (hx : x ≤ 20) (z : Int32) (y : Nat) (hy : y < 2) : mm_E 122 0 [some (.ref 100), some (.int (nI x)), some (.int z), some (.int (nI y)), none, none, none, none, none] [] (mk_M (cT im le ln ys vt nu nn rf vw vq yc yh yg) (kr (he, ke, ki, fi, fa, or, mi, a, g, l, w, s)) m kk q) (pC isI (he, ke, ki, fi, fa, or, mi, a, g, l, w, s) im le ln ys vt nu nn rf kk q) := by
  obtain ⟨hV, hst⟩ := id hA
  have hst2 : s ≤ 999 := hst
  obtain ⟨v1, v2, v3, v4, v5, v6, v7, v8, v9, v10, v11, v12, v13, v14, v15, v16⟩ := id hV
  have v6l := kO_len mi v7 or v6
  obtain ⟨c1, c2, c3⟩ := id hC
  obtain ⟨j0, j1, j2, j3, j4⟩ := id hJ
  refine me_seg 2 (pc1 := 2) (ls1 := [some (.ref 100), some (.int (nI x)), some (.int z), some (.int (nI y)), none, none, none, none, none]) (st1 := [.int 1, .int (nI x)]) (M1 := (mk_M (cT im le ln ys vt nu nn rf vw vq yc yh yg) (kr (he, ke, ki, fi, fa, or, mi, a, g, l, w, s)) m kk q)) (fun f => rfl) ?_
  refine me_t (C := 1 ≤ (nI x)) (nI_let (a := 1) (b := x) (by omega)) (fun f => rfl) ?_
  refine me_seg 2 (pc1 := 15) (ls1 := [some (.ref 100), some (.int (nI x)), some (.int z), some (.int (nI y)), none, none, none, none, none]) (st1 := [.int 20, .int (nI x)]) (M1 := (mk_M (cT im le ln ys vt nu nn rf vw vq yc yh yg) (kr (he, ke, ki, fi, fa, or, mi, a, g, l, w, s)) m kk q)) (fun f => rfl) ?_
  refine me_t (C := (nI x) ≤ 20) (nI_let (a := x) (b := 20) (by omega)) (fun f => rfl) ?_
  refine me_seg 1 (pc1 := 26) (ls1 := [some (.ref 100), some (.int (nI x)), some (.int z), some (.int (nI y)), none, none, none, none, none]) (st1 := [.int (nI y)]) (M1 := (mk_M (cT im le ln ys vt nu nn rf vw vq yc yh yg) (kr (he, ke, ki, fi, fa, or, mi, a, g, l, w, s)) m kk q)) (fun f => rfl) ?_
  refine me_f (C := (nI y) < 0) (nI_ltf (a := y) (b := 0) (by omega)) (fun f => rfl) ?_
  refine me_seg 2 (pc1 := 31) (ls1 := [some (.ref 100), some (.int (nI x)), some (.int z), some (.int (nI y)), none, none, none, none, none]) (st1 := [.int 1, .int (nI y)]) (M1 := (mk_M (cT im le ln ys vt nu nn rf vw vq yc yh yg) (kr (he, ke, ki, fi, fa, or, mi, a, g, l, w, s)) m kk q)) (fun f => rfl) ?_
  refine me_t (C := (nI y) ≤ 1) (nI_let (a := y) (b := 1) (by omega)) (fun f => rfl) ?_
  refine me_seg 8 (pc1 := 53) (ls1 := [some (.ref 100), some (.int (nI x)), some (.int z), some (.int (nI y)), some (.int 0), some (.int 0), some (.int z), some (.int 0), none]) (st1 := []) (M1 := (mk_M (cT im le ln ys vt nu nn rf vw vq yc yh yg) (kr (he, ke, ki, fi, fa, or, mi, a, g, l, w, s)) m kk q)) (fun f => rfl) ?_
  exact wc_lotsL he ke ki fi fa or mi a g l w s im le ln ys vt nu nn rf kk q hA hC x hx1 hx z y hy x 0 0 0 z none vw vq yc yh yg m (by omega) ⟨(by assumption), j1, by assumption, by assumption, by assumption⟩
set_option maxRecDepth 100000 in
theorem wc_wp_0 (he ke ki fi fa or : List Nat) (mi a g l w s : Nat) (im : Nat) (le : List Nat) (ln : Nat) (ys : List Int32) (vt : Int32) (nu : List Nat) (nn : Nat) (rf : List Nat) (kk : kG) (q : cR) (hA : iA (he, ke, ki, fi, fa, or, mi, a, g, l, w, s)) (hC : iC nu nn) (vw vq : Int32) (yc yh yg : List Int32) (m : kG) (hJ : iJ m ys yc yh yg) (p r n0 : Nat) (hp : p < mi) (hr : r < mi) (hn : n0 ≤ 30) : mm_E 106 0 [some (.ref 100), some (.int (nI p)), some (.int (nI r)), some (.int 0), some (.int (nI n0)), none, none, none] [] (mk_M (cT im le ln ys vt nu nn rf vw vq yc yh yg) (kr (he, ke, ki, fi, fa, or, mi, a, g, l, w, s)) m kk q) (pC isN (he, ke, ki, fi, fa, or, mi, a, g, l, w, s) im le ln ys vt nu nn rf kk q) := by
  obtain ⟨hV, hst⟩ := id hA
  have hst2 : s ≤ 999 := hst
  obtain ⟨v1, v2, v3, v4, v5, v6, v7, v8, v9, v10, v11, v12, v13, v14, v15, v16⟩ := id hV
  have v6l := kO_len mi v7 or v6
  obtain ⟨c1, c2, c3⟩ := id hC
  obtain ⟨j0, j1, j2, j3, j4⟩ := id hJ
  refine me_seg 9 (pc1 := 11) (ls1 := [some (.ref 100), some (.int (nI p)), some (.int (nI r)), some (.int 0), some (.int (nI n0)), some (.int 0), some (.int 0), none]) (st1 := [.ref 100]) (M1 := (mk_M (cT im le ln ys vt nu nn rf vw vq yc yh yg) (kr (he, ke, ki, fi, fa, or, mi, a, g, l, w, s)) m kk q)) (fun f => rfl) ?_
  refine me_call (y := 75) (y0 := 14) (L := [some (.ref 100)]) (rest := []) (rr := some (.ref 124)) (M1 := (mk_M (cT im le ln ys vt nu nn rf vw vq yc yh yg) (kr (he, ke, ki, fi, fa, or, mi, a, g, l, w, s)) (kr (he, ke, ki, fi, fa, or, mi, a, g, l, w, s)) kk q)) (fun f => rfl) (cc_now (he, ke, ki, fi, fa, or, mi, a, g, l, w, s) (cT im le ln ys vt nu nn rf vw vq yc yh yg) m kk q hV (by assumption)) ?_
  refine me_seg 9 (pc1 := 44) (ls1 := [some (.ref 100), some (.int (nI p)), some (.int (nI r)), some (.int 0), some (.int (nI n0)), some (.int 0), some (.int 0), some (.ref 124)]) (st1 := [.int (nI n0), .ref 124]) (M1 := (mk_M (cT im le ln ys vt nu nn rf vw vq yc yh yg) (kr (he, ke, ki, fi, fa, or, mi, a, g, l, w, s)) (kr (he, ke, ki, fi, fa, or, mi, a, g, l, w, s)) kk q)) (fun f => rfl) ?_
  refine me_call (y := 43) (y0 := 47) (L := [some (.ref 124), some (.int (nI n0)), none]) (rest := []) (rr := none) (M1 := (mk_M (cT im le ln ys vt nu nn rf vw vq yc yh yg) (kr (he, ke, ki, fi, fa, or, mi, a, g, l, w, s)) (kr (ksteps n0 (he, ke, ki, fi, fa, or, mi, a, g, l, w, s))) kk q)) (fun f => rfl) (kl_m (cT im le ln ys vt nu nn rf vw vq yc yh yg) (kr (he, ke, ki, fi, fa, or, mi, a, g, l, w, s)) kk q (kc_by_m n0 (by omega) (he, ke, ki, fi, fa, or, mi, a, g, l, w, s) hV (show s < 2 ^ 20 by omega))) ?_
  obtain ⟨Q_1, hEQ_1, hQ_1, hsQ_1⟩ := k_genS n0 (he, ke, ki, fi, fa, or, mi, a, g, l, w, s) hV (by have hq_ : k_st (he, ke, ki, fi, fa, or, mi, a, g, l, w, s) < 2 ^ 19 := (show s < 2 ^ 19 by omega); omega)
  rw [hEQ_1]
  clear hEQ_1
  refine me_seg 6 (pc1 := 58) (ls1 := [some (.ref 100), some (.int (nI p)), some (.int (nI r)), some (.int 0), some (.int (nI n0)), some (.int 0), some (.int 0), some (.ref 124)]) (st1 := [.int (nI p), .ref 129, .int 0, .ref 108]) (M1 := (mk_M (cT im le ln ys vt nu nn rf vw vq yc yh yg) (kr (he, ke, ki, fi, fa, or, mi, a, g, l, w, s)) (kr Q_1) kk q)) (fun f => rfl) ?_
  refine me_ldn (xs := ((k_fa Q_1).map nI)) rfl rfl (k := p) (by omega) (kg_ok (show p < (k_fa Q_1).length by rw [kV_fa hQ_1]; omega)) ?_
  refine me_seg 4 (pc1 := 67) (ls1 := [some (.ref 100), some (.int (nI p)), some (.int (nI r)), some (.int 0), some (.int (nI n0)), some (.int 0), some (.int 0), some (.ref 124)]) (st1 := [.int (nI p), .ref 122, .int (nI (kg (k_fa Q_1) p)), .int 0, .ref 108]) (M1 := (mk_M (cT im le ln ys vt nu nn rf vw vq yc yh yg) (kr (he, ke, ki, fi, fa, or, mi, a, g, l, w, s)) (kr Q_1) kk q)) (fun f => rfl) ?_
  refine me_ldn (xs := (fa.map nI)) rfl rfl (k := p) (by omega) (kg_ok (by omega)) ?_
  refine me_seg 3 (pc1 := 72) (ls1 := [some (.ref 100), some (.int (nI p)), some (.int (nI r)), some (.int 0), some (.int (nI n0)), some (.int 0), some (.int 0), some (.ref 124)]) (st1 := [.int (((nI (kg (k_fa Q_1) p)) - (nI (kg fa p))) + (0 : Int32)), .int 0, .ref 108]) (M1 := (mk_M (cT im le ln ys vt nu nn rf vw vq yc yh yg) (kr (he, ke, ki, fi, fa, or, mi, a, g, l, w, s)) (kr Q_1) kk q)) (fun f => rfl) ?_
  refine me_stn (xs := yh) (ys := (yh.set 0 (((nI (kg (k_fa Q_1) p)) - (nI (kg fa p))) + (0 : Int32)))) (M2 := (mk_M (cT im le ln ys vt nu nn rf vw vq yc (yh.set 0 (((nI (kg (k_fa Q_1) p)) - (nI (kg fa p))) + (0 : Int32))) yg) (kr (he, ke, ki, fi, fa, or, mi, a, g, l, w, s)) (kr Q_1) kk q)) rfl rfl (k := 0) (by omega) (by first | omega | (simp only [List.length_set]; omega)) rfl rfl ?_
  refine me_seg 6 (pc1 := 84) (ls1 := [some (.ref 100), some (.int (nI p)), some (.int (nI r)), some (.int 0), some (.int (nI n0)), some (.int 0), some (.int 0), some (.ref 124)]) (st1 := [.int (nI r), .ref 129, .int 0, .ref 109]) (M1 := (mk_M (cT im le ln ys vt nu nn rf vw vq yc (yh.set 0 (((nI (kg (k_fa Q_1) p)) - (nI (kg fa p))) + (0 : Int32))) yg) (kr (he, ke, ki, fi, fa, or, mi, a, g, l, w, s)) (kr Q_1) kk q)) (fun f => rfl) ?_
  refine me_ldn (xs := ((k_fa Q_1).map nI)) rfl rfl (k := r) (by omega) (kg_ok (show r < (k_fa Q_1).length by rw [kV_fa hQ_1]; omega)) ?_
  refine me_seg 4 (pc1 := 93) (ls1 := [some (.ref 100), some (.int (nI p)), some (.int (nI r)), some (.int 0), some (.int (nI n0)), some (.int 0), some (.int 0), some (.ref 124)]) (st1 := [.int (nI r), .ref 122, .int (nI (kg (k_fa Q_1) r)), .int 0, .ref 109]) (M1 := (mk_M (cT im le ln ys vt nu nn rf vw vq yc (yh.set 0 (((nI (kg (k_fa Q_1) p)) - (nI (kg fa p))) + (0 : Int32))) yg) (kr (he, ke, ki, fi, fa, or, mi, a, g, l, w, s)) (kr Q_1) kk q)) (fun f => rfl) ?_
  refine me_ldn (xs := (fa.map nI)) rfl rfl (k := r) (by omega) (kg_ok (by omega)) ?_
  refine me_seg 3 (pc1 := 98) (ls1 := [some (.ref 100), some (.int (nI p)), some (.int (nI r)), some (.int 0), some (.int (nI n0)), some (.int 0), some (.int 0), some (.ref 124)]) (st1 := [.int (((nI (kg (k_fa Q_1) r)) - (nI (kg fa r))) + (0 : Int32)), .int 0, .ref 109]) (M1 := (mk_M (cT im le ln ys vt nu nn rf vw vq yc (yh.set 0 (((nI (kg (k_fa Q_1) p)) - (nI (kg fa p))) + (0 : Int32))) yg) (kr (he, ke, ki, fi, fa, or, mi, a, g, l, w, s)) (kr Q_1) kk q)) (fun f => rfl) ?_
  refine me_stn (xs := yg) (ys := (yg.set 0 (((nI (kg (k_fa Q_1) r)) - (nI (kg fa r))) + (0 : Int32)))) (M2 := (mk_M (cT im le ln ys vt nu nn rf vw vq yc (yh.set 0 (((nI (kg (k_fa Q_1) p)) - (nI (kg fa p))) + (0 : Int32))) (yg.set 0 (((nI (kg (k_fa Q_1) r)) - (nI (kg fa r))) + (0 : Int32)))) (kr (he, ke, ki, fi, fa, or, mi, a, g, l, w, s)) (kr Q_1) kk q)) rfl rfl (k := 0) (by omega) (by first | omega | (simp only [List.length_set]; omega)) rfl rfl ?_
  refine me_ret 1 (r := none) (M1 := (mk_M (cT im le ln ys vt nu nn rf vw vq yc (yh.set 0 (((nI (kg (k_fa Q_1) p)) - (nI (kg fa p))) + (0 : Int32))) (yg.set 0 (((nI (kg (k_fa Q_1) r)) - (nI (kg fa r))) + (0 : Int32)))) (kr (he, ke, ki, fi, fa, or, mi, a, g, l, w, s)) (kr Q_1) kk q)) (fun f => rfl) ?_
  exact ⟨rfl, _, _, _, _, _, _, rfl, ⟨(kSh_r hQ_1), j1, by assumption, by simp only [List.length_set]; assumption, by simp only [List.length_set]; assumption⟩⟩
set_option maxRecDepth 100000 in
theorem wc_wp_1 (he ke ki fi fa or : List Nat) (mi a g l w s : Nat) (im : Nat) (le : List Nat) (ln : Nat) (ys : List Int32) (vt : Int32) (nu : List Nat) (nn : Nat) (rf : List Nat) (kk : kG) (q : cR) (hA : iA (he, ke, ki, fi, fa, or, mi, a, g, l, w, s)) (hC : iC nu nn) (vw vq : Int32) (yc yh yg : List Int32) (m : kG) (hJ : iJ m ys yc yh yg) (p r n0 : Nat) (hp : p < mi) (hr : r < mi) (hn : n0 ≤ 30) : mm_E 106 0 [some (.ref 100), some (.int (nI p)), some (.int (nI r)), some (.int 1), some (.int (nI n0)), none, none, none] [] (mk_M (cT im le ln ys vt nu nn rf vw vq yc yh yg) (kr (he, ke, ki, fi, fa, or, mi, a, g, l, w, s)) m kk q) (pC isN (he, ke, ki, fi, fa, or, mi, a, g, l, w, s) im le ln ys vt nu nn rf kk q) := by
  obtain ⟨hV, hst⟩ := id hA
  have hst2 : s ≤ 999 := hst
  obtain ⟨v1, v2, v3, v4, v5, v6, v7, v8, v9, v10, v11, v12, v13, v14, v15, v16⟩ := id hV
  have v6l := kO_len mi v7 or v6
  obtain ⟨c1, c2, c3⟩ := id hC
  obtain ⟨j0, j1, j2, j3, j4⟩ := id hJ
  refine me_seg 9 (pc1 := 11) (ls1 := [some (.ref 100), some (.int (nI p)), some (.int (nI r)), some (.int 1), some (.int (nI n0)), some (.int 0), some (.int 1), none]) (st1 := [.ref 100]) (M1 := (mk_M (cT im le ln ys vt nu nn rf vw vq yc yh yg) (kr (he, ke, ki, fi, fa, or, mi, a, g, l, w, s)) m kk q)) (fun f => rfl) ?_
  refine me_call (y := 75) (y0 := 14) (L := [some (.ref 100)]) (rest := []) (rr := some (.ref 124)) (M1 := (mk_M (cT im le ln ys vt nu nn rf vw vq yc yh yg) (kr (he, ke, ki, fi, fa, or, mi, a, g, l, w, s)) (kr (he, ke, ki, fi, fa, or, mi, a, g, l, w, s)) kk q)) (fun f => rfl) (cc_now (he, ke, ki, fi, fa, or, mi, a, g, l, w, s) (cT im le ln ys vt nu nn rf vw vq yc yh yg) m kk q hV (by assumption)) ?_
  refine me_seg 9 (pc1 := 37) (ls1 := [some (.ref 100), some (.int (nI p)), some (.int (nI r)), some (.int 1), some (.int (nI n0)), some (.int 0), some (.int 1), some (.ref 124)]) (st1 := [.int (nI r), .ref 124]) (M1 := (mk_M (cT im le ln ys vt nu nn rf vw vq yc yh yg) (kr (he, ke, ki, fi, fa, or, mi, a, g, l, w, s)) (kr (he, ke, ki, fi, fa, or, mi, a, g, l, w, s)) kk q)) (fun f => rfl) ?_
  refine me_call (y := 42) (y0 := 40) (L := [some (.ref 124), some (.int (nI r)), none, none]) (rest := []) (rr := none) (M1 := (mk_M (cT im le ln ys vt nu nn rf vw vq yc yh yg) (kr (he, ke, ki, fi, fa, or, mi, a, g, l, w, s)) (kr (kpl (he, ke, ki, fi, fa, or, mi, a, g, l, w, s) r)) kk q)) (fun f => rfl) (kl_m (cT im le ln ys vt nu nn rf vw vq yc yh yg) (kr (he, ke, ki, fi, fa, or, mi, a, g, l, w, s)) kk q (kc_plQ (he, ke, ki, fi, fa, or, mi, a, g, l, w, s) r (show r < mi by omega) hV)) ?_
  refine me_seg 2 (pc1 := 44) (ls1 := [some (.ref 100), some (.int (nI p)), some (.int (nI r)), some (.int 1), some (.int (nI n0)), some (.int 0), some (.int 1), some (.ref 124)]) (st1 := [.int (nI n0), .ref 124]) (M1 := (mk_M (cT im le ln ys vt nu nn rf vw vq yc yh yg) (kr (he, ke, ki, fi, fa, or, mi, a, g, l, w, s)) (kr (kpl (he, ke, ki, fi, fa, or, mi, a, g, l, w, s) r)) kk q)) (fun f => rfl) ?_
  refine me_call (y := 43) (y0 := 47) (L := [some (.ref 124), some (.int (nI n0)), none]) (rest := []) (rr := none) (M1 := (mk_M (cT im le ln ys vt nu nn rf vw vq yc yh yg) (kr (he, ke, ki, fi, fa, or, mi, a, g, l, w, s)) (kr (ksteps n0 (kpl (he, ke, ki, fi, fa, or, mi, a, g, l, w, s) r))) kk q)) (fun f => rfl) (kl_m (cT im le ln ys vt nu nn rf vw vq yc yh yg) (kr (he, ke, ki, fi, fa, or, mi, a, g, l, w, s)) kk q (kc_by_m n0 (by omega) (kpl (he, ke, ki, fi, fa, or, mi, a, g, l, w, s) r) (kV_pl hV (show r < mi by omega)) (show s < 2 ^ 20 by omega))) ?_
  obtain ⟨Q_1, hEQ_1, hQ_1, hsQ_1⟩ := k_genS n0 (kpl (he, ke, ki, fi, fa, or, mi, a, g, l, w, s) r) (kV_pl hV (show r < mi by omega)) (by have hq_ : k_st (kpl (he, ke, ki, fi, fa, or, mi, a, g, l, w, s) r) < 2 ^ 19 := (show s < 2 ^ 19 by omega); omega)
  rw [hEQ_1]
  clear hEQ_1
  refine me_seg 6 (pc1 := 58) (ls1 := [some (.ref 100), some (.int (nI p)), some (.int (nI r)), some (.int 1), some (.int (nI n0)), some (.int 0), some (.int 1), some (.ref 124)]) (st1 := [.int (nI p), .ref 129, .int 1, .ref 108]) (M1 := (mk_M (cT im le ln ys vt nu nn rf vw vq yc yh yg) (kr (he, ke, ki, fi, fa, or, mi, a, g, l, w, s)) (kr Q_1) kk q)) (fun f => rfl) ?_
  refine me_ldn (xs := ((k_fa Q_1).map nI)) rfl rfl (k := p) (by omega) (kg_ok (show p < (k_fa Q_1).length by rw [kV_fa hQ_1]; omega)) ?_
  refine me_seg 4 (pc1 := 67) (ls1 := [some (.ref 100), some (.int (nI p)), some (.int (nI r)), some (.int 1), some (.int (nI n0)), some (.int 0), some (.int 1), some (.ref 124)]) (st1 := [.int (nI p), .ref 122, .int (nI (kg (k_fa Q_1) p)), .int 1, .ref 108]) (M1 := (mk_M (cT im le ln ys vt nu nn rf vw vq yc yh yg) (kr (he, ke, ki, fi, fa, or, mi, a, g, l, w, s)) (kr Q_1) kk q)) (fun f => rfl) ?_
  refine me_ldn (xs := (fa.map nI)) rfl rfl (k := p) (by omega) (kg_ok (by omega)) ?_
  refine me_seg 3 (pc1 := 72) (ls1 := [some (.ref 100), some (.int (nI p)), some (.int (nI r)), some (.int 1), some (.int (nI n0)), some (.int 0), some (.int 1), some (.ref 124)]) (st1 := [.int (((nI (kg (k_fa Q_1) p)) - (nI (kg fa p))) + (0 : Int32)), .int 1, .ref 108]) (M1 := (mk_M (cT im le ln ys vt nu nn rf vw vq yc yh yg) (kr (he, ke, ki, fi, fa, or, mi, a, g, l, w, s)) (kr Q_1) kk q)) (fun f => rfl) ?_
  refine me_stn (xs := yh) (ys := (yh.set 1 (((nI (kg (k_fa Q_1) p)) - (nI (kg fa p))) + (0 : Int32)))) (M2 := (mk_M (cT im le ln ys vt nu nn rf vw vq yc (yh.set 1 (((nI (kg (k_fa Q_1) p)) - (nI (kg fa p))) + (0 : Int32))) yg) (kr (he, ke, ki, fi, fa, or, mi, a, g, l, w, s)) (kr Q_1) kk q)) rfl rfl (k := 1) (by omega) (by first | omega | (simp only [List.length_set]; omega)) rfl rfl ?_
  refine me_seg 6 (pc1 := 84) (ls1 := [some (.ref 100), some (.int (nI p)), some (.int (nI r)), some (.int 1), some (.int (nI n0)), some (.int 0), some (.int 1), some (.ref 124)]) (st1 := [.int (nI r), .ref 129, .int 1, .ref 109]) (M1 := (mk_M (cT im le ln ys vt nu nn rf vw vq yc (yh.set 1 (((nI (kg (k_fa Q_1) p)) - (nI (kg fa p))) + (0 : Int32))) yg) (kr (he, ke, ki, fi, fa, or, mi, a, g, l, w, s)) (kr Q_1) kk q)) (fun f => rfl) ?_
  refine me_ldn (xs := ((k_fa Q_1).map nI)) rfl rfl (k := r) (by omega) (kg_ok (show r < (k_fa Q_1).length by rw [kV_fa hQ_1]; omega)) ?_
  refine me_seg 4 (pc1 := 93) (ls1 := [some (.ref 100), some (.int (nI p)), some (.int (nI r)), some (.int 1), some (.int (nI n0)), some (.int 0), some (.int 1), some (.ref 124)]) (st1 := [.int (nI r), .ref 122, .int (nI (kg (k_fa Q_1) r)), .int 1, .ref 109]) (M1 := (mk_M (cT im le ln ys vt nu nn rf vw vq yc (yh.set 1 (((nI (kg (k_fa Q_1) p)) - (nI (kg fa p))) + (0 : Int32))) yg) (kr (he, ke, ki, fi, fa, or, mi, a, g, l, w, s)) (kr Q_1) kk q)) (fun f => rfl) ?_
  refine me_ldn (xs := (fa.map nI)) rfl rfl (k := r) (by omega) (kg_ok (by omega)) ?_
  refine me_seg 3 (pc1 := 98) (ls1 := [some (.ref 100), some (.int (nI p)), some (.int (nI r)), some (.int 1), some (.int (nI n0)), some (.int 0), some (.int 1), some (.ref 124)]) (st1 := [.int (((nI (kg (k_fa Q_1) r)) - (nI (kg fa r))) + (1 : Int32)), .int 1, .ref 109]) (M1 := (mk_M (cT im le ln ys vt nu nn rf vw vq yc (yh.set 1 (((nI (kg (k_fa Q_1) p)) - (nI (kg fa p))) + (0 : Int32))) yg) (kr (he, ke, ki, fi, fa, or, mi, a, g, l, w, s)) (kr Q_1) kk q)) (fun f => rfl) ?_
  refine me_stn (xs := yg) (ys := (yg.set 1 (((nI (kg (k_fa Q_1) r)) - (nI (kg fa r))) + (1 : Int32)))) (M2 := (mk_M (cT im le ln ys vt nu nn rf vw vq yc (yh.set 1 (((nI (kg (k_fa Q_1) p)) - (nI (kg fa p))) + (0 : Int32))) (yg.set 1 (((nI (kg (k_fa Q_1) r)) - (nI (kg fa r))) + (1 : Int32)))) (kr (he, ke, ki, fi, fa, or, mi, a, g, l, w, s)) (kr Q_1) kk q)) rfl rfl (k := 1) (by omega) (by first | omega | (simp only [List.length_set]; omega)) rfl rfl ?_
  refine me_ret 1 (r := none) (M1 := (mk_M (cT im le ln ys vt nu nn rf vw vq yc (yh.set 1 (((nI (kg (k_fa Q_1) p)) - (nI (kg fa p))) + (0 : Int32))) (yg.set 1 (((nI (kg (k_fa Q_1) r)) - (nI (kg fa r))) + (1 : Int32)))) (kr (he, ke, ki, fi, fa, or, mi, a, g, l, w, s)) (kr Q_1) kk q)) (fun f => rfl) ?_
  exact ⟨rfl, _, _, _, _, _, _, rfl, ⟨(kSh_r hQ_1), j1, by assumption, by simp only [List.length_set]; assumption, by simp only [List.length_set]; assumption⟩⟩
set_option maxRecDepth 100000 in
theorem wc_wp_2 (he ke ki fi fa or : List Nat) (mi a g l w s : Nat) (im : Nat) (le : List Nat) (ln : Nat) (ys : List Int32) (vt : Int32) (nu : List Nat) (nn : Nat) (rf : List Nat) (kk : kG) (q : cR) (hA : iA (he, ke, ki, fi, fa, or, mi, a, g, l, w, s)) (hC : iC nu nn) (vw vq : Int32) (yc yh yg : List Int32) (m : kG) (hJ : iJ m ys yc yh yg) (p r n0 : Nat) (hp : p < mi) (hr : r < mi) (hn : n0 ≤ 30) : mm_E 106 0 [some (.ref 100), some (.int (nI p)), some (.int (nI r)), some (.int 2), some (.int (nI n0)), none, none, none] [] (mk_M (cT im le ln ys vt nu nn rf vw vq yc yh yg) (kr (he, ke, ki, fi, fa, or, mi, a, g, l, w, s)) m kk q) (pC isN (he, ke, ki, fi, fa, or, mi, a, g, l, w, s) im le ln ys vt nu nn rf kk q) := by
  obtain ⟨hV, hst⟩ := id hA
  have hst2 : s ≤ 999 := hst
  obtain ⟨v1, v2, v3, v4, v5, v6, v7, v8, v9, v10, v11, v12, v13, v14, v15, v16⟩ := id hV
  have v6l := kO_len mi v7 or v6
  obtain ⟨c1, c2, c3⟩ := id hC
  obtain ⟨j0, j1, j2, j3, j4⟩ := id hJ
  refine me_seg 9 (pc1 := 11) (ls1 := [some (.ref 100), some (.int (nI p)), some (.int (nI r)), some (.int 2), some (.int (nI n0)), some (.int 1), some (.int 0), none]) (st1 := [.ref 100]) (M1 := (mk_M (cT im le ln ys vt nu nn rf vw vq yc yh yg) (kr (he, ke, ki, fi, fa, or, mi, a, g, l, w, s)) m kk q)) (fun f => rfl) ?_
  refine me_call (y := 75) (y0 := 14) (L := [some (.ref 100)]) (rest := []) (rr := some (.ref 124)) (M1 := (mk_M (cT im le ln ys vt nu nn rf vw vq yc yh yg) (kr (he, ke, ki, fi, fa, or, mi, a, g, l, w, s)) (kr (he, ke, ki, fi, fa, or, mi, a, g, l, w, s)) kk q)) (fun f => rfl) (cc_now (he, ke, ki, fi, fa, or, mi, a, g, l, w, s) (cT im le ln ys vt nu nn rf vw vq yc yh yg) m kk q hV (by assumption)) ?_
  refine me_seg 6 (pc1 := 25) (ls1 := [some (.ref 100), some (.int (nI p)), some (.int (nI r)), some (.int 2), some (.int (nI n0)), some (.int 1), some (.int 0), some (.ref 124)]) (st1 := [.int (nI p), .ref 124]) (M1 := (mk_M (cT im le ln ys vt nu nn rf vw vq yc yh yg) (kr (he, ke, ki, fi, fa, or, mi, a, g, l, w, s)) (kr (he, ke, ki, fi, fa, or, mi, a, g, l, w, s)) kk q)) (fun f => rfl) ?_
  refine me_call (y := 42) (y0 := 28) (L := [some (.ref 124), some (.int (nI p)), none, none]) (rest := []) (rr := none) (M1 := (mk_M (cT im le ln ys vt nu nn rf vw vq yc yh yg) (kr (he, ke, ki, fi, fa, or, mi, a, g, l, w, s)) (kr (kpl (he, ke, ki, fi, fa, or, mi, a, g, l, w, s) p)) kk q)) (fun f => rfl) (kl_m (cT im le ln ys vt nu nn rf vw vq yc yh yg) (kr (he, ke, ki, fi, fa, or, mi, a, g, l, w, s)) kk q (kc_plQ (he, ke, ki, fi, fa, or, mi, a, g, l, w, s) p (show p < mi by omega) hV)) ?_
  refine me_seg 5 (pc1 := 44) (ls1 := [some (.ref 100), some (.int (nI p)), some (.int (nI r)), some (.int 2), some (.int (nI n0)), some (.int 1), some (.int 0), some (.ref 124)]) (st1 := [.int (nI n0), .ref 124]) (M1 := (mk_M (cT im le ln ys vt nu nn rf vw vq yc yh yg) (kr (he, ke, ki, fi, fa, or, mi, a, g, l, w, s)) (kr (kpl (he, ke, ki, fi, fa, or, mi, a, g, l, w, s) p)) kk q)) (fun f => rfl) ?_
  refine me_call (y := 43) (y0 := 47) (L := [some (.ref 124), some (.int (nI n0)), none]) (rest := []) (rr := none) (M1 := (mk_M (cT im le ln ys vt nu nn rf vw vq yc yh yg) (kr (he, ke, ki, fi, fa, or, mi, a, g, l, w, s)) (kr (ksteps n0 (kpl (he, ke, ki, fi, fa, or, mi, a, g, l, w, s) p))) kk q)) (fun f => rfl) (kl_m (cT im le ln ys vt nu nn rf vw vq yc yh yg) (kr (he, ke, ki, fi, fa, or, mi, a, g, l, w, s)) kk q (kc_by_m n0 (by omega) (kpl (he, ke, ki, fi, fa, or, mi, a, g, l, w, s) p) (kV_pl hV (show p < mi by omega)) (show s < 2 ^ 20 by omega))) ?_
  obtain ⟨Q_1, hEQ_1, hQ_1, hsQ_1⟩ := k_genS n0 (kpl (he, ke, ki, fi, fa, or, mi, a, g, l, w, s) p) (kV_pl hV (show p < mi by omega)) (by have hq_ : k_st (kpl (he, ke, ki, fi, fa, or, mi, a, g, l, w, s) p) < 2 ^ 19 := (show s < 2 ^ 19 by omega); omega)
  rw [hEQ_1]
  clear hEQ_1
  refine me_seg 6 (pc1 := 58) (ls1 := [some (.ref 100), some (.int (nI p)), some (.int (nI r)), some (.int 2), some (.int (nI n0)), some (.int 1), some (.int 0), some (.ref 124)]) (st1 := [.int (nI p), .ref 129, .int 2, .ref 108]) (M1 := (mk_M (cT im le ln ys vt nu nn rf vw vq yc yh yg) (kr (he, ke, ki, fi, fa, or, mi, a, g, l, w, s)) (kr Q_1) kk q)) (fun f => rfl) ?_
  refine me_ldn (xs := ((k_fa Q_1).map nI)) rfl rfl (k := p) (by omega) (kg_ok (show p < (k_fa Q_1).length by rw [kV_fa hQ_1]; omega)) ?_
  refine me_seg 4 (pc1 := 67) (ls1 := [some (.ref 100), some (.int (nI p)), some (.int (nI r)), some (.int 2), some (.int (nI n0)), some (.int 1), some (.int 0), some (.ref 124)]) (st1 := [.int (nI p), .ref 122, .int (nI (kg (k_fa Q_1) p)), .int 2, .ref 108]) (M1 := (mk_M (cT im le ln ys vt nu nn rf vw vq yc yh yg) (kr (he, ke, ki, fi, fa, or, mi, a, g, l, w, s)) (kr Q_1) kk q)) (fun f => rfl) ?_
  refine me_ldn (xs := (fa.map nI)) rfl rfl (k := p) (by omega) (kg_ok (by omega)) ?_
  refine me_seg 3 (pc1 := 72) (ls1 := [some (.ref 100), some (.int (nI p)), some (.int (nI r)), some (.int 2), some (.int (nI n0)), some (.int 1), some (.int 0), some (.ref 124)]) (st1 := [.int (((nI (kg (k_fa Q_1) p)) - (nI (kg fa p))) + (1 : Int32)), .int 2, .ref 108]) (M1 := (mk_M (cT im le ln ys vt nu nn rf vw vq yc yh yg) (kr (he, ke, ki, fi, fa, or, mi, a, g, l, w, s)) (kr Q_1) kk q)) (fun f => rfl) ?_
  refine me_stn (xs := yh) (ys := (yh.set 2 (((nI (kg (k_fa Q_1) p)) - (nI (kg fa p))) + (1 : Int32)))) (M2 := (mk_M (cT im le ln ys vt nu nn rf vw vq yc (yh.set 2 (((nI (kg (k_fa Q_1) p)) - (nI (kg fa p))) + (1 : Int32))) yg) (kr (he, ke, ki, fi, fa, or, mi, a, g, l, w, s)) (kr Q_1) kk q)) rfl rfl (k := 2) (by omega) (by first | omega | (simp only [List.length_set]; omega)) rfl rfl ?_
  refine me_seg 6 (pc1 := 84) (ls1 := [some (.ref 100), some (.int (nI p)), some (.int (nI r)), some (.int 2), some (.int (nI n0)), some (.int 1), some (.int 0), some (.ref 124)]) (st1 := [.int (nI r), .ref 129, .int 2, .ref 109]) (M1 := (mk_M (cT im le ln ys vt nu nn rf vw vq yc (yh.set 2 (((nI (kg (k_fa Q_1) p)) - (nI (kg fa p))) + (1 : Int32))) yg) (kr (he, ke, ki, fi, fa, or, mi, a, g, l, w, s)) (kr Q_1) kk q)) (fun f => rfl) ?_
  refine me_ldn (xs := ((k_fa Q_1).map nI)) rfl rfl (k := r) (by omega) (kg_ok (show r < (k_fa Q_1).length by rw [kV_fa hQ_1]; omega)) ?_
  refine me_seg 4 (pc1 := 93) (ls1 := [some (.ref 100), some (.int (nI p)), some (.int (nI r)), some (.int 2), some (.int (nI n0)), some (.int 1), some (.int 0), some (.ref 124)]) (st1 := [.int (nI r), .ref 122, .int (nI (kg (k_fa Q_1) r)), .int 2, .ref 109]) (M1 := (mk_M (cT im le ln ys vt nu nn rf vw vq yc (yh.set 2 (((nI (kg (k_fa Q_1) p)) - (nI (kg fa p))) + (1 : Int32))) yg) (kr (he, ke, ki, fi, fa, or, mi, a, g, l, w, s)) (kr Q_1) kk q)) (fun f => rfl) ?_
  refine me_ldn (xs := (fa.map nI)) rfl rfl (k := r) (by omega) (kg_ok (by omega)) ?_
  refine me_seg 3 (pc1 := 98) (ls1 := [some (.ref 100), some (.int (nI p)), some (.int (nI r)), some (.int 2), some (.int (nI n0)), some (.int 1), some (.int 0), some (.ref 124)]) (st1 := [.int (((nI (kg (k_fa Q_1) r)) - (nI (kg fa r))) + (0 : Int32)), .int 2, .ref 109]) (M1 := (mk_M (cT im le ln ys vt nu nn rf vw vq yc (yh.set 2 (((nI (kg (k_fa Q_1) p)) - (nI (kg fa p))) + (1 : Int32))) yg) (kr (he, ke, ki, fi, fa, or, mi, a, g, l, w, s)) (kr Q_1) kk q)) (fun f => rfl) ?_
  refine me_stn (xs := yg) (ys := (yg.set 2 (((nI (kg (k_fa Q_1) r)) - (nI (kg fa r))) + (0 : Int32)))) (M2 := (mk_M (cT im le ln ys vt nu nn rf vw vq yc (yh.set 2 (((nI (kg (k_fa Q_1) p)) - (nI (kg fa p))) + (1 : Int32))) (yg.set 2 (((nI (kg (k_fa Q_1) r)) - (nI (kg fa r))) + (0 : Int32)))) (kr (he, ke, ki, fi, fa, or, mi, a, g, l, w, s)) (kr Q_1) kk q)) rfl rfl (k := 2) (by omega) (by first | omega | (simp only [List.length_set]; omega)) rfl rfl ?_
  refine me_ret 1 (r := none) (M1 := (mk_M (cT im le ln ys vt nu nn rf vw vq yc (yh.set 2 (((nI (kg (k_fa Q_1) p)) - (nI (kg fa p))) + (1 : Int32))) (yg.set 2 (((nI (kg (k_fa Q_1) r)) - (nI (kg fa r))) + (0 : Int32)))) (kr (he, ke, ki, fi, fa, or, mi, a, g, l, w, s)) (kr Q_1) kk q)) (fun f => rfl) ?_
  exact ⟨rfl, _, _, _, _, _, _, rfl, ⟨(kSh_r hQ_1), j1, by assumption, by simp only [List.length_set]; assumption, by simp only [List.length_set]; assumption⟩⟩
set_option maxRecDepth 100000 in
theorem wc_wp_3 (he ke ki fi fa or : List Nat) (mi a g l w s : Nat) (im : Nat) (le : List Nat) (ln : Nat) (ys : List Int32) (vt : Int32) (nu : List Nat) (nn : Nat) (rf : List Nat) (kk : kG) (q : cR) (hA : iA (he, ke, ki, fi, fa, or, mi, a, g, l, w, s)) (hC : iC nu nn) (vw vq : Int32) (yc yh yg : List Int32) (m : kG) (hJ : iJ m ys yc yh yg) (p r n0 : Nat) (hp : p < mi) (hr : r < mi) (hn : n0 ≤ 30) : mm_E 106 0 [some (.ref 100), some (.int (nI p)), some (.int (nI r)), some (.int 3), some (.int (nI n0)), none, none, none] [] (mk_M (cT im le ln ys vt nu nn rf vw vq yc yh yg) (kr (he, ke, ki, fi, fa, or, mi, a, g, l, w, s)) m kk q) (pC isN (he, ke, ki, fi, fa, or, mi, a, g, l, w, s) im le ln ys vt nu nn rf kk q) := by
  obtain ⟨hV, hst⟩ := id hA
  have hst2 : s ≤ 999 := hst
  obtain ⟨v1, v2, v3, v4, v5, v6, v7, v8, v9, v10, v11, v12, v13, v14, v15, v16⟩ := id hV
  have v6l := kO_len mi v7 or v6
  obtain ⟨c1, c2, c3⟩ := id hC
  obtain ⟨j0, j1, j2, j3, j4⟩ := id hJ
  refine me_seg 9 (pc1 := 11) (ls1 := [some (.ref 100), some (.int (nI p)), some (.int (nI r)), some (.int 3), some (.int (nI n0)), some (.int 1), some (.int 1), none]) (st1 := [.ref 100]) (M1 := (mk_M (cT im le ln ys vt nu nn rf vw vq yc yh yg) (kr (he, ke, ki, fi, fa, or, mi, a, g, l, w, s)) m kk q)) (fun f => rfl) ?_
  refine me_call (y := 75) (y0 := 14) (L := [some (.ref 100)]) (rest := []) (rr := some (.ref 124)) (M1 := (mk_M (cT im le ln ys vt nu nn rf vw vq yc yh yg) (kr (he, ke, ki, fi, fa, or, mi, a, g, l, w, s)) (kr (he, ke, ki, fi, fa, or, mi, a, g, l, w, s)) kk q)) (fun f => rfl) (cc_now (he, ke, ki, fi, fa, or, mi, a, g, l, w, s) (cT im le ln ys vt nu nn rf vw vq yc yh yg) m kk q hV (by assumption)) ?_
  refine me_seg 6 (pc1 := 25) (ls1 := [some (.ref 100), some (.int (nI p)), some (.int (nI r)), some (.int 3), some (.int (nI n0)), some (.int 1), some (.int 1), some (.ref 124)]) (st1 := [.int (nI p), .ref 124]) (M1 := (mk_M (cT im le ln ys vt nu nn rf vw vq yc yh yg) (kr (he, ke, ki, fi, fa, or, mi, a, g, l, w, s)) (kr (he, ke, ki, fi, fa, or, mi, a, g, l, w, s)) kk q)) (fun f => rfl) ?_
  refine me_call (y := 42) (y0 := 28) (L := [some (.ref 124), some (.int (nI p)), none, none]) (rest := []) (rr := none) (M1 := (mk_M (cT im le ln ys vt nu nn rf vw vq yc yh yg) (kr (he, ke, ki, fi, fa, or, mi, a, g, l, w, s)) (kr (kpl (he, ke, ki, fi, fa, or, mi, a, g, l, w, s) p)) kk q)) (fun f => rfl) (kl_m (cT im le ln ys vt nu nn rf vw vq yc yh yg) (kr (he, ke, ki, fi, fa, or, mi, a, g, l, w, s)) kk q (kc_plQ (he, ke, ki, fi, fa, or, mi, a, g, l, w, s) p (show p < mi by omega) hV)) ?_
  refine me_seg 5 (pc1 := 37) (ls1 := [some (.ref 100), some (.int (nI p)), some (.int (nI r)), some (.int 3), some (.int (nI n0)), some (.int 1), some (.int 1), some (.ref 124)]) (st1 := [.int (nI r), .ref 124]) (M1 := (mk_M (cT im le ln ys vt nu nn rf vw vq yc yh yg) (kr (he, ke, ki, fi, fa, or, mi, a, g, l, w, s)) (kr (kpl (he, ke, ki, fi, fa, or, mi, a, g, l, w, s) p)) kk q)) (fun f => rfl) ?_
  refine me_call (y := 42) (y0 := 40) (L := [some (.ref 124), some (.int (nI r)), none, none]) (rest := []) (rr := none) (M1 := (mk_M (cT im le ln ys vt nu nn rf vw vq yc yh yg) (kr (he, ke, ki, fi, fa, or, mi, a, g, l, w, s)) (kr (kpl (kpl (he, ke, ki, fi, fa, or, mi, a, g, l, w, s) p) r)) kk q)) (fun f => rfl) (kl_m (cT im le ln ys vt nu nn rf vw vq yc yh yg) (kr (he, ke, ki, fi, fa, or, mi, a, g, l, w, s)) kk q (kc_plQ (kpl (he, ke, ki, fi, fa, or, mi, a, g, l, w, s) p) r (show r < mi by omega) (kV_pl hV (show p < mi by omega)))) ?_
  refine me_seg 2 (pc1 := 44) (ls1 := [some (.ref 100), some (.int (nI p)), some (.int (nI r)), some (.int 3), some (.int (nI n0)), some (.int 1), some (.int 1), some (.ref 124)]) (st1 := [.int (nI n0), .ref 124]) (M1 := (mk_M (cT im le ln ys vt nu nn rf vw vq yc yh yg) (kr (he, ke, ki, fi, fa, or, mi, a, g, l, w, s)) (kr (kpl (kpl (he, ke, ki, fi, fa, or, mi, a, g, l, w, s) p) r)) kk q)) (fun f => rfl) ?_
  refine me_call (y := 43) (y0 := 47) (L := [some (.ref 124), some (.int (nI n0)), none]) (rest := []) (rr := none) (M1 := (mk_M (cT im le ln ys vt nu nn rf vw vq yc yh yg) (kr (he, ke, ki, fi, fa, or, mi, a, g, l, w, s)) (kr (ksteps n0 (kpl (kpl (he, ke, ki, fi, fa, or, mi, a, g, l, w, s) p) r))) kk q)) (fun f => rfl) (kl_m (cT im le ln ys vt nu nn rf vw vq yc yh yg) (kr (he, ke, ki, fi, fa, or, mi, a, g, l, w, s)) kk q (kc_by_m n0 (by omega) (kpl (kpl (he, ke, ki, fi, fa, or, mi, a, g, l, w, s) p) r) (kV_pl (kV_pl hV (show p < mi by omega)) (show r < mi by omega)) (show s < 2 ^ 20 by omega))) ?_
  obtain ⟨Q_1, hEQ_1, hQ_1, hsQ_1⟩ := k_genS n0 (kpl (kpl (he, ke, ki, fi, fa, or, mi, a, g, l, w, s) p) r) (kV_pl (kV_pl hV (show p < mi by omega)) (show r < mi by omega)) (by have hq_ : k_st (kpl (kpl (he, ke, ki, fi, fa, or, mi, a, g, l, w, s) p) r) < 2 ^ 19 := (show s < 2 ^ 19 by omega); omega)
  rw [hEQ_1]
  clear hEQ_1
  refine me_seg 6 (pc1 := 58) (ls1 := [some (.ref 100), some (.int (nI p)), some (.int (nI r)), some (.int 3), some (.int (nI n0)), some (.int 1), some (.int 1), some (.ref 124)]) (st1 := [.int (nI p), .ref 129, .int 3, .ref 108]) (M1 := (mk_M (cT im le ln ys vt nu nn rf vw vq yc yh yg) (kr (he, ke, ki, fi, fa, or, mi, a, g, l, w, s)) (kr Q_1) kk q)) (fun f => rfl) ?_
  refine me_ldn (xs := ((k_fa Q_1).map nI)) rfl rfl (k := p) (by omega) (kg_ok (show p < (k_fa Q_1).length by rw [kV_fa hQ_1]; omega)) ?_
  refine me_seg 4 (pc1 := 67) (ls1 := [some (.ref 100), some (.int (nI p)), some (.int (nI r)), some (.int 3), some (.int (nI n0)), some (.int 1), some (.int 1), some (.ref 124)]) (st1 := [.int (nI p), .ref 122, .int (nI (kg (k_fa Q_1) p)), .int 3, .ref 108]) (M1 := (mk_M (cT im le ln ys vt nu nn rf vw vq yc yh yg) (kr (he, ke, ki, fi, fa, or, mi, a, g, l, w, s)) (kr Q_1) kk q)) (fun f => rfl) ?_
  refine me_ldn (xs := (fa.map nI)) rfl rfl (k := p) (by omega) (kg_ok (by omega)) ?_
  refine me_seg 3 (pc1 := 72) (ls1 := [some (.ref 100), some (.int (nI p)), some (.int (nI r)), some (.int 3), some (.int (nI n0)), some (.int 1), some (.int 1), some (.ref 124)]) (st1 := [.int (((nI (kg (k_fa Q_1) p)) - (nI (kg fa p))) + (1 : Int32)), .int 3, .ref 108]) (M1 := (mk_M (cT im le ln ys vt nu nn rf vw vq yc yh yg) (kr (he, ke, ki, fi, fa, or, mi, a, g, l, w, s)) (kr Q_1) kk q)) (fun f => rfl) ?_
  refine me_stn (xs := yh) (ys := (yh.set 3 (((nI (kg (k_fa Q_1) p)) - (nI (kg fa p))) + (1 : Int32)))) (M2 := (mk_M (cT im le ln ys vt nu nn rf vw vq yc (yh.set 3 (((nI (kg (k_fa Q_1) p)) - (nI (kg fa p))) + (1 : Int32))) yg) (kr (he, ke, ki, fi, fa, or, mi, a, g, l, w, s)) (kr Q_1) kk q)) rfl rfl (k := 3) (by omega) (by first | omega | (simp only [List.length_set]; omega)) rfl rfl ?_
  refine me_seg 6 (pc1 := 84) (ls1 := [some (.ref 100), some (.int (nI p)), some (.int (nI r)), some (.int 3), some (.int (nI n0)), some (.int 1), some (.int 1), some (.ref 124)]) (st1 := [.int (nI r), .ref 129, .int 3, .ref 109]) (M1 := (mk_M (cT im le ln ys vt nu nn rf vw vq yc (yh.set 3 (((nI (kg (k_fa Q_1) p)) - (nI (kg fa p))) + (1 : Int32))) yg) (kr (he, ke, ki, fi, fa, or, mi, a, g, l, w, s)) (kr Q_1) kk q)) (fun f => rfl) ?_
  refine me_ldn (xs := ((k_fa Q_1).map nI)) rfl rfl (k := r) (by omega) (kg_ok (show r < (k_fa Q_1).length by rw [kV_fa hQ_1]; omega)) ?_
  refine me_seg 4 (pc1 := 93) (ls1 := [some (.ref 100), some (.int (nI p)), some (.int (nI r)), some (.int 3), some (.int (nI n0)), some (.int 1), some (.int 1), some (.ref 124)]) (st1 := [.int (nI r), .ref 122, .int (nI (kg (k_fa Q_1) r)), .int 3, .ref 109]) (M1 := (mk_M (cT im le ln ys vt nu nn rf vw vq yc (yh.set 3 (((nI (kg (k_fa Q_1) p)) - (nI (kg fa p))) + (1 : Int32))) yg) (kr (he, ke, ki, fi, fa, or, mi, a, g, l, w, s)) (kr Q_1) kk q)) (fun f => rfl) ?_
  refine me_ldn (xs := (fa.map nI)) rfl rfl (k := r) (by omega) (kg_ok (by omega)) ?_
  refine me_seg 3 (pc1 := 98) (ls1 := [some (.ref 100), some (.int (nI p)), some (.int (nI r)), some (.int 3), some (.int (nI n0)), some (.int 1), some (.int 1), some (.ref 124)]) (st1 := [.int (((nI (kg (k_fa Q_1) r)) - (nI (kg fa r))) + (1 : Int32)), .int 3, .ref 109]) (M1 := (mk_M (cT im le ln ys vt nu nn rf vw vq yc (yh.set 3 (((nI (kg (k_fa Q_1) p)) - (nI (kg fa p))) + (1 : Int32))) yg) (kr (he, ke, ki, fi, fa, or, mi, a, g, l, w, s)) (kr Q_1) kk q)) (fun f => rfl) ?_
  refine me_stn (xs := yg) (ys := (yg.set 3 (((nI (kg (k_fa Q_1) r)) - (nI (kg fa r))) + (1 : Int32)))) (M2 := (mk_M (cT im le ln ys vt nu nn rf vw vq yc (yh.set 3 (((nI (kg (k_fa Q_1) p)) - (nI (kg fa p))) + (1 : Int32))) (yg.set 3 (((nI (kg (k_fa Q_1) r)) - (nI (kg fa r))) + (1 : Int32)))) (kr (he, ke, ki, fi, fa, or, mi, a, g, l, w, s)) (kr Q_1) kk q)) rfl rfl (k := 3) (by omega) (by first | omega | (simp only [List.length_set]; omega)) rfl rfl ?_
  refine me_ret 1 (r := none) (M1 := (mk_M (cT im le ln ys vt nu nn rf vw vq yc (yh.set 3 (((nI (kg (k_fa Q_1) p)) - (nI (kg fa p))) + (1 : Int32))) (yg.set 3 (((nI (kg (k_fa Q_1) r)) - (nI (kg fa r))) + (1 : Int32)))) (kr (he, ke, ki, fi, fa, or, mi, a, g, l, w, s)) (kr Q_1) kk q)) (fun f => rfl) ?_
  exact ⟨rfl, _, _, _, _, _, _, rfl, ⟨(kSh_r hQ_1), j1, by assumption, by simp only [List.length_set]; assumption, by simp only [List.length_set]; assumption⟩⟩
set_option maxRecDepth 100000 in
theorem wc_twoL (he ke ki fi fa or : List Nat) (mi a g l w s : Nat) (im : Nat) (le : List Nat) (ln : Nat) (ys : List Int32) (vt : Int32) (nu : List Nat) (nn : Nat) (rf : List Nat) (kk : kG) (q : cR) (hA : iA (he, ke, ki, fi, fa, or, mi, a, g, l, w, s)) (hC : iC nu nn) (p r n0 : Nat) (hp : p < mi) (hr : r < mi) (hne : ¬ p = r) (hn : n0 ≤ 30) (k : Nat) : ∀ (j : Nat) (lo5 : Option Value) (lo6 : Option Value) (vw vq : Int32) (yc yh yg : List Int32) (m : kG), j + k = 4 → iJ m ys yc yh yg → mm_E 105 86 [some (.ref 100), some (.int (nI p)), some (.int (nI r)), some (.int (nI n0)), some (.int (nI j)), lo5, lo6] [] (mk_M (cT im le ln ys vt nu nn rf vw vq yc yh yg) (kr (he, ke, ki, fi, fa, or, mi, a, g, l, w, s)) m kk q) (pC isI (he, ke, ki, fi, fa, or, mi, a, g, l, w, s) im le ln ys vt nu nn rf kk q) := by
  obtain ⟨hV, hst⟩ := id hA
  have hst2 : s ≤ 999 := hst
  obtain ⟨v1, v2, v3, v4, v5, v6, v7, v8, v9, v10, v11, v12, v13, v14, v15, v16⟩ := id hV
  have v6l := kO_len mi v7 or v6
  obtain ⟨c1, c2, c3⟩ := id hC
  induction k with
  | zero =>
    intro j lo5 lo6 vw vq yc yh yg m hj hJ
    obtain ⟨j0, j1, j2, j3, j4⟩ := id hJ
    have hx1 : j < 4 → j ^^^ 1 < 4 := fun h => Nat.xor_lt_two_pow (n := 2) h (by decide)
    have hx2 : j < 4 → j ^^^ 2 < 4 := fun h => Nat.xor_lt_two_pow (n := 2) h (by decide)
    refine me_seg 2 (pc1 := 89) (ls1 := [some (.ref 100), some (.int (nI p)), some (.int (nI r)), some (.int (nI n0)), some (.int (nI j)), lo5, lo6]) (st1 := [.int 4, .int (nI j)]) (M1 := (mk_M (cT im le ln ys vt nu nn rf vw vq yc yh yg) (kr (he, ke, ki, fi, fa, or, mi, a, g, l, w, s)) m kk q)) (fun f => rfl) ?_
    refine me_t (C := 4 ≤ (nI j)) (nI_let (a := 4) (b := j) (by omega)) (fun f => rfl) ?_
    refine me_ret 2 (r := some (.int (-9))) (M1 := (mk_M (cT im le ln ys vt nu nn rf vw vq yc yh yg) (kr (he, ke, ki, fi, fa, or, mi, a, g, l, w, s)) m kk q)) (fun f => rfl) ?_
    exact ⟨⟨_, rfl⟩, _, _, _, _, _, _, rfl, ⟨(by assumption), j1, by assumption, by assumption, by assumption⟩⟩
  | succ k IH =>
    intro j lo5 lo6 vw vq yc yh yg m hj hJ
    obtain ⟨j0, j1, j2, j3, j4⟩ := id hJ
    have hx1 : j < 4 → j ^^^ 1 < 4 := fun h => Nat.xor_lt_two_pow (n := 2) h (by decide)
    have hx2 : j < 4 → j ^^^ 2 < 4 := fun h => Nat.xor_lt_two_pow (n := 2) h (by decide)
    refine me_seg 2 (pc1 := 89) (ls1 := [some (.ref 100), some (.int (nI p)), some (.int (nI r)), some (.int (nI n0)), some (.int (nI j)), lo5, lo6]) (st1 := [.int 4, .int (nI j)]) (M1 := (mk_M (cT im le ln ys vt nu nn rf vw vq yc yh yg) (kr (he, ke, ki, fi, fa, or, mi, a, g, l, w, s)) m kk q)) (fun f => rfl) ?_
    refine me_f (C := 4 ≤ (nI j)) (nI_lef (a := 4) (b := j) (by omega)) (fun f => rfl) ?_
    refine me_seg 3 (pc1 := 98) (ls1 := [some (.ref 100), some (.int (nI p)), some (.int (nI r)), some (.int (nI n0)), some (.int (nI j)), lo5, lo6]) (st1 := [.int (nI j), .ref 108]) (M1 := (mk_M (cT im le ln ys vt nu nn rf vw vq yc yh yg) (kr (he, ke, ki, fi, fa, or, mi, a, g, l, w, s)) m kk q)) (fun f => rfl) ?_
    refine me_ldn (xs := yh) rfl rfl (k := j) (by omega) (kgr_ok (by first | omega | (simp only [List.length_set]; omega))) ?_
    refine me_seg 5 (pc1 := 107) (ls1 := [some (.ref 100), some (.int (nI p)), some (.int (nI r)), some (.int (nI n0)), some (.int (nI j)), lo5, lo6]) (st1 := [.int ((nI j) ^^^ (2 : Int32)), .ref 108, .int (kgr yh j)]) (M1 := (mk_M (cT im le ln ys vt nu nn rf vw vq yc yh yg) (kr (he, ke, ki, fi, fa, or, mi, a, g, l, w, s)) m kk q)) (fun f => rfl) ?_
    refine me_v (nx_xor j 2) ?_
    refine me_ldn (xs := yh) rfl rfl (k := j ^^^ 2) (by omega) (kgr_ok (by first | omega | (simp only [List.length_set]; omega))) ?_
    refine me_if (C := (kgr yh (j ^^^ 2)) < (kgr yh j)) (fun f => rfl) (fun h1 => ?_) (fun h1 => ?_)
    · refine me_seg 5 (pc1 := 124) (ls1 := [some (.ref 100), some (.int (nI p)), some (.int (nI r)), some (.int (nI n0)), some (.int (nI j)), some (.int 0), lo6]) (st1 := [.int (nI j), .ref 109]) (M1 := (mk_M (cT im le ln ys vt nu nn rf vw vq yc yh yg) (kr (he, ke, ki, fi, fa, or, mi, a, g, l, w, s)) m kk q)) (fun f => rfl) ?_
      refine me_ldn (xs := yg) rfl rfl (k := j) (by omega) (kgr_ok (by first | omega | (simp only [List.length_set]; omega))) ?_
      refine me_seg 5 (pc1 := 133) (ls1 := [some (.ref 100), some (.int (nI p)), some (.int (nI r)), some (.int (nI n0)), some (.int (nI j)), some (.int 0), lo6]) (st1 := [.int ((nI j) ^^^ (1 : Int32)), .ref 109, .int (kgr yg j)]) (M1 := (mk_M (cT im le ln ys vt nu nn rf vw vq yc yh yg) (kr (he, ke, ki, fi, fa, or, mi, a, g, l, w, s)) m kk q)) (fun f => rfl) ?_
      refine me_v (nx_xor j 1) ?_
      refine me_ldn (xs := yg) rfl rfl (k := j ^^^ 1) (by omega) (kgr_ok (by first | omega | (simp only [List.length_set]; omega))) ?_
      refine me_if (C := (kgr yg (j ^^^ 1)) < (kgr yg j)) (fun f => rfl) (fun h2 => ?_) (fun h2 => ?_)
      · refine me_seg 5 (pc1 := 170) (ls1 := [some (.ref 100), some (.int (nI p)), some (.int (nI r)), some (.int (nI n0)), some (.int ((nI j) + 1)), some (.int 0), some (.int 0)]) (st1 := []) (M1 := (mk_M (cT im le ln ys vt nu nn rf vw vq yc yh yg) (kr (he, ke, ki, fi, fa, or, mi, a, g, l, w, s)) m kk q)) (fun f => rfl) ?_
        refine me_l (fun q_ => [some (.ref 100), some (.int (nI p)), some (.int (nI r)), some (.int (nI n0)), some (.int q_), some (.int 0), some (.int 0)]) (nI_add j 1) ?_
        refine me_seg 1 (pc1 := 86) (ls1 := [some (.ref 100), some (.int (nI p)), some (.int (nI r)), some (.int (nI n0)), some (.int (nI (j + 1))), some (.int 0), some (.int 0)]) (st1 := []) (M1 := (mk_M (cT im le ln ys vt nu nn rf vw vq yc yh yg) (kr (he, ke, ki, fi, fa, or, mi, a, g, l, w, s)) m kk q)) (fun f => rfl) ?_
        exact IH (j + 1) (some (.int 0)) (some (.int 0)) vw vq yc yh yg m (by omega) ⟨(by assumption), j1, by assumption, by assumption, by assumption⟩
      · refine me_seg 6 (pc1 := 170) (ls1 := [some (.ref 100), some (.int (nI p)), some (.int (nI r)), some (.int (nI n0)), some (.int ((nI j) + 1)), some (.int 0), some (.int 1)]) (st1 := []) (M1 := (mk_M (cT im le ln ys vt nu nn rf vw vq yc yh yg) (kr (he, ke, ki, fi, fa, or, mi, a, g, l, w, s)) m kk q)) (fun f => rfl) ?_
        refine me_l (fun q_ => [some (.ref 100), some (.int (nI p)), some (.int (nI r)), some (.int (nI n0)), some (.int q_), some (.int 0), some (.int 1)]) (nI_add j 1) ?_
        refine me_seg 1 (pc1 := 86) (ls1 := [some (.ref 100), some (.int (nI p)), some (.int (nI r)), some (.int (nI n0)), some (.int (nI (j + 1))), some (.int 0), some (.int 1)]) (st1 := []) (M1 := (mk_M (cT im le ln ys vt nu nn rf vw vq yc yh yg) (kr (he, ke, ki, fi, fa, or, mi, a, g, l, w, s)) m kk q)) (fun f => rfl) ?_
        exact IH (j + 1) (some (.int 0)) (some (.int 1)) vw vq yc yh yg m (by omega) ⟨(by assumption), j1, by assumption, by assumption, by assumption⟩
    · refine me_seg 6 (pc1 := 124) (ls1 := [some (.ref 100), some (.int (nI p)), some (.int (nI r)), some (.int (nI n0)), some (.int (nI j)), some (.int 1), lo6]) (st1 := [.int (nI j), .ref 109]) (M1 := (mk_M (cT im le ln ys vt nu nn rf vw vq yc yh yg) (kr (he, ke, ki, fi, fa, or, mi, a, g, l, w, s)) m kk q)) (fun f => rfl) ?_
      refine me_ldn (xs := yg) rfl rfl (k := j) (by omega) (kgr_ok (by first | omega | (simp only [List.length_set]; omega))) ?_
      refine me_seg 5 (pc1 := 133) (ls1 := [some (.ref 100), some (.int (nI p)), some (.int (nI r)), some (.int (nI n0)), some (.int (nI j)), some (.int 1), lo6]) (st1 := [.int ((nI j) ^^^ (1 : Int32)), .ref 109, .int (kgr yg j)]) (M1 := (mk_M (cT im le ln ys vt nu nn rf vw vq yc yh yg) (kr (he, ke, ki, fi, fa, or, mi, a, g, l, w, s)) m kk q)) (fun f => rfl) ?_
      refine me_v (nx_xor j 1) ?_
      refine me_ldn (xs := yg) rfl rfl (k := j ^^^ 1) (by omega) (kgr_ok (by first | omega | (simp only [List.length_set]; omega))) ?_
      refine me_if (C := (kgr yg (j ^^^ 1)) < (kgr yg j)) (fun f => rfl) (fun h3 => ?_) (fun h3 => ?_)
      · refine me_seg 7 (pc1 := 170) (ls1 := [some (.ref 100), some (.int (nI p)), some (.int (nI r)), some (.int (nI n0)), some (.int ((nI j) + 1)), some (.int 1), some (.int 0)]) (st1 := []) (M1 := (mk_M (cT im le ln ys vt nu nn rf vw vq yc yh yg) (kr (he, ke, ki, fi, fa, or, mi, a, g, l, w, s)) m kk q)) (fun f => rfl) ?_
        refine me_l (fun q_ => [some (.ref 100), some (.int (nI p)), some (.int (nI r)), some (.int (nI n0)), some (.int q_), some (.int 1), some (.int 0)]) (nI_add j 1) ?_
        refine me_seg 1 (pc1 := 86) (ls1 := [some (.ref 100), some (.int (nI p)), some (.int (nI r)), some (.int (nI n0)), some (.int (nI (j + 1))), some (.int 1), some (.int 0)]) (st1 := []) (M1 := (mk_M (cT im le ln ys vt nu nn rf vw vq yc yh yg) (kr (he, ke, ki, fi, fa, or, mi, a, g, l, w, s)) m kk q)) (fun f => rfl) ?_
        exact IH (j + 1) (some (.int 1)) (some (.int 0)) vw vq yc yh yg m (by omega) ⟨(by assumption), j1, by assumption, by assumption, by assumption⟩
      · refine me_ret 17 (r := some (.int (((10 : Int32) * ((nI j) >>> ((1 : Int32) &&& 31))) + ((nI j) &&& (1 : Int32))))) (M1 := (mk_M (cT im le ln ys vt nu nn rf vw vq yc yh yg) (kr (he, ke, ki, fi, fa, or, mi, a, g, l, w, s)) m kk q)) (fun f => rfl) ?_
        exact ⟨⟨_, rfl⟩, _, _, _, _, _, _, rfl, ⟨(by assumption), j1, by assumption, by assumption, by assumption⟩⟩
set_option maxRecDepth 100000 in
theorem wc_two (he ke ki fi fa or : List Nat) (mi a g l w s : Nat) (im : Nat) (le : List Nat) (ln : Nat) (ys : List Int32) (vt : Int32) (nu : List Nat) (nn : Nat) (rf : List Nat) (kk : kG) (q : cR) (hA : iA (he, ke, ki, fi, fa, or, mi, a, g, l, w, s)) (hC : iC nu nn) (vw vq : Int32) (yc yh yg : List Int32) (m : kG) (hJ : iJ m ys yc yh yg) (p r n0 : Nat) (hp : p < mi) (hr : r < mi) (hne : ¬ p = r) (hn : n0 ≤ 30) : mm_E 105 0 [some (.ref 100), some (.int (nI p)), some (.int (nI r)), some (.int (nI n0)), none, none, none] [] (mk_M (cT im le ln ys vt nu nn rf vw vq yc yh yg) (kr (he, ke, ki, fi, fa, or, mi, a, g, l, w, s)) m kk q) (pC isI (he, ke, ki, fi, fa, or, mi, a, g, l, w, s) im le ln ys vt nu nn rf kk q) := by
  obtain ⟨hV, hst⟩ := id hA
  have hst2 : s ≤ 999 := hst
  obtain ⟨v1, v2, v3, v4, v5, v6, v7, v8, v9, v10, v11, v12, v13, v14, v15, v16⟩ := id hV
  have v6l := kO_len mi v7 or v6
  obtain ⟨c1, c2, c3⟩ := id hC
  obtain ⟨j0, j1, j2, j3, j4⟩ := id hJ
  refine me_seg 2 (pc1 := 2) (ls1 := [some (.ref 100), some (.int (nI p)), some (.int (nI r)), some (.int (nI n0)), none, none, none]) (st1 := [.int (nI p), .ref 100]) (M1 := (mk_M (cT im le ln ys vt nu nn rf vw vq yc yh yg) (kr (he, ke, ki, fi, fa, or, mi, a, g, l, w, s)) m kk q)) (fun f => rfl) ?_
  refine me_call (y := 61) (y0 := 5) (L := [some (.ref 100), some (.int (nI p))]) (rest := []) (rr := some (.int 1)) (M1 := (mk_M (cT im le ln ys vt nu nn rf vw vq yc yh yg) (kr (he, ke, ki, fi, fa, or, mi, a, g, l, w, s)) m kk q)) (fun f => rfl) (ms_m1_ok (x := (nI p)) (nI_ltf (a := p) (b := 0) (by omega)) (nI_lef (a := mi) (b := p) (by omega))) ?_
  refine me_seg 3 (pc1 := 10) (ls1 := [some (.ref 100), some (.int (nI p)), some (.int (nI r)), some (.int (nI n0)), none, none, none]) (st1 := [.int (nI r), .ref 100]) (M1 := (mk_M (cT im le ln ys vt nu nn rf vw vq yc yh yg) (kr (he, ke, ki, fi, fa, or, mi, a, g, l, w, s)) m kk q)) (fun f => rfl) ?_
  refine me_call (y := 61) (y0 := 13) (L := [some (.ref 100), some (.int (nI r))]) (rest := []) (rr := some (.int 1)) (M1 := (mk_M (cT im le ln ys vt nu nn rf vw vq yc yh yg) (kr (he, ke, ki, fi, fa, or, mi, a, g, l, w, s)) m kk q)) (fun f => rfl) (ms_m1_ok (x := (nI r)) (nI_ltf (a := r) (b := 0) (by omega)) (nI_lef (a := mi) (b := r) (by omega))) ?_
  refine me_seg 3 (pc1 := 18) (ls1 := [some (.ref 100), some (.int (nI p)), some (.int (nI r)), some (.int (nI n0)), none, none, none]) (st1 := [.int (nI r), .int (nI p)]) (M1 := (mk_M (cT im le ln ys vt nu nn rf vw vq yc yh yg) (kr (he, ke, ki, fi, fa, or, mi, a, g, l, w, s)) m kk q)) (fun f => rfl) ?_
  refine me_f (C := (nI p) = (nI r)) (nI_eqf (a := p) (b := r) (by omega)) (fun f => rfl) ?_
  refine me_seg 1 (pc1 := 28) (ls1 := [some (.ref 100), some (.int (nI p)), some (.int (nI r)), some (.int (nI n0)), none, none, none]) (st1 := [.int (nI n0)]) (M1 := (mk_M (cT im le ln ys vt nu nn rf vw vq yc yh yg) (kr (he, ke, ki, fi, fa, or, mi, a, g, l, w, s)) m kk q)) (fun f => rfl) ?_
  refine me_t (C := 0 ≤ (nI n0)) (nI_let (a := 0) (b := n0) (by omega)) (fun f => rfl) ?_
  refine me_seg 2 (pc1 := 41) (ls1 := [some (.ref 100), some (.int (nI p)), some (.int (nI r)), some (.int (nI n0)), none, none, none]) (st1 := [.int 30, .int (nI n0)]) (M1 := (mk_M (cT im le ln ys vt nu nn rf vw vq yc yh yg) (kr (he, ke, ki, fi, fa, or, mi, a, g, l, w, s)) m kk q)) (fun f => rfl) ?_
  refine me_t (C := (nI n0) ≤ 30) (nI_let (a := n0) (b := 30) (by omega)) (fun f => rfl) ?_
  refine me_seg 9 (pc1 := 66) (ls1 := [some (.ref 100), some (.int (nI p)), some (.int (nI r)), some (.int (nI n0)), some (.int 0), none, none]) (st1 := [.int (if (nI r) < (nI p) then (nI r) else (nI p)), .ref 100]) (M1 := (mk_M (cT im le ln ys vt nu nn rf vw vq yc yh yg) (kr (he, ke, ki, fi, fa, or, mi, a, g, l, w, s)) m kk q)) (fun f => rfl) ?_
  refine me_v (k_min (a := p) (b := r) (by omega) (by omega)) ?_
  refine me_seg 3 (pc1 := 71) (ls1 := [some (.ref 100), some (.int (nI p)), some (.int (nI r)), some (.int (nI n0)), some (.int 0), none, none]) (st1 := [.int (if (nI p) < (nI r) then (nI r) else (nI p)), .int (nI (min p r)), .ref 100]) (M1 := (mk_M (cT im le ln ys vt nu nn rf vw vq yc yh yg) (kr (he, ke, ki, fi, fa, or, mi, a, g, l, w, s)) m kk q)) (fun f => rfl) ?_
  refine me_v (k_max (a := p) (b := r) (by omega) (by omega)) ?_
  refine me_seg 2 (pc1 := 74) (ls1 := [some (.ref 100), some (.int (nI p)), some (.int (nI r)), some (.int (nI n0)), some (.int 0), none, none]) (st1 := [.int (nI n0), .int 0, .int (nI (max p r)), .int (nI (min p r)), .ref 100]) (M1 := (mk_M (cT im le ln ys vt nu nn rf vw vq yc yh yg) (kr (he, ke, ki, fi, fa, or, mi, a, g, l, w, s)) m kk q)) (fun f => rfl) ?_
  refine me_callE (y := 106) (y0 := 77) (L := [some (.ref 100), some (.int (nI (min p r))), some (.int (nI (max p r))), some (.int 0), some (.int (nI n0)), none, none, none]) (rest := []) (fun f => rfl) (wc_wp_0 he ke ki fi fa or mi a g l w s im le ln ys vt nu nn rf kk q hA hC vw vq yc yh yg m ⟨(by assumption), j1, by assumption, by assumption, by assumption⟩ (min p r) (max p r) n0 (by omega) (by omega) (by omega)) ?_
  rintro _ _ ⟨rfl, vw_1, vq_1, yc_1, yh_1, yg_1, m_1, rfl, hJ_1⟩
  obtain ⟨j0_1, j1_1, j2_1, j3_1, j4_1⟩ := id hJ_1
  refine me_seg 9 (pc1 := 66) (ls1 := [some (.ref 100), some (.int (nI p)), some (.int (nI r)), some (.int (nI n0)), some (.int 1), none, none]) (st1 := [.int (if (nI r) < (nI p) then (nI r) else (nI p)), .ref 100]) (M1 := (mk_M (cT im le ln ys vt nu nn rf vw_1 vq_1 yc_1 yh_1 yg_1) (kr (he, ke, ki, fi, fa, or, mi, a, g, l, w, s)) m_1 kk q)) (fun f => rfl) ?_
  refine me_v (k_min (a := p) (b := r) (by omega) (by omega)) ?_
  refine me_seg 3 (pc1 := 71) (ls1 := [some (.ref 100), some (.int (nI p)), some (.int (nI r)), some (.int (nI n0)), some (.int 1), none, none]) (st1 := [.int (if (nI p) < (nI r) then (nI r) else (nI p)), .int (nI (min p r)), .ref 100]) (M1 := (mk_M (cT im le ln ys vt nu nn rf vw_1 vq_1 yc_1 yh_1 yg_1) (kr (he, ke, ki, fi, fa, or, mi, a, g, l, w, s)) m_1 kk q)) (fun f => rfl) ?_
  refine me_v (k_max (a := p) (b := r) (by omega) (by omega)) ?_
  refine me_seg 2 (pc1 := 74) (ls1 := [some (.ref 100), some (.int (nI p)), some (.int (nI r)), some (.int (nI n0)), some (.int 1), none, none]) (st1 := [.int (nI n0), .int 1, .int (nI (max p r)), .int (nI (min p r)), .ref 100]) (M1 := (mk_M (cT im le ln ys vt nu nn rf vw_1 vq_1 yc_1 yh_1 yg_1) (kr (he, ke, ki, fi, fa, or, mi, a, g, l, w, s)) m_1 kk q)) (fun f => rfl) ?_
  refine me_callE (y := 106) (y0 := 77) (L := [some (.ref 100), some (.int (nI (min p r))), some (.int (nI (max p r))), some (.int 1), some (.int (nI n0)), none, none, none]) (rest := []) (fun f => rfl) (wc_wp_1 he ke ki fi fa or mi a g l w s im le ln ys vt nu nn rf kk q hA hC vw_1 vq_1 yc_1 yh_1 yg_1 m_1 ⟨(by assumption), j1, by assumption, by assumption, by assumption⟩ (min p r) (max p r) n0 (by omega) (by omega) (by omega)) ?_
  rintro _ _ ⟨rfl, vw_2, vq_2, yc_2, yh_2, yg_2, m_2, rfl, hJ_2⟩
  obtain ⟨j0_2, j1_2, j2_2, j3_2, j4_2⟩ := id hJ_2
  refine me_seg 9 (pc1 := 66) (ls1 := [some (.ref 100), some (.int (nI p)), some (.int (nI r)), some (.int (nI n0)), some (.int 2), none, none]) (st1 := [.int (if (nI r) < (nI p) then (nI r) else (nI p)), .ref 100]) (M1 := (mk_M (cT im le ln ys vt nu nn rf vw_2 vq_2 yc_2 yh_2 yg_2) (kr (he, ke, ki, fi, fa, or, mi, a, g, l, w, s)) m_2 kk q)) (fun f => rfl) ?_
  refine me_v (k_min (a := p) (b := r) (by omega) (by omega)) ?_
  refine me_seg 3 (pc1 := 71) (ls1 := [some (.ref 100), some (.int (nI p)), some (.int (nI r)), some (.int (nI n0)), some (.int 2), none, none]) (st1 := [.int (if (nI p) < (nI r) then (nI r) else (nI p)), .int (nI (min p r)), .ref 100]) (M1 := (mk_M (cT im le ln ys vt nu nn rf vw_2 vq_2 yc_2 yh_2 yg_2) (kr (he, ke, ki, fi, fa, or, mi, a, g, l, w, s)) m_2 kk q)) (fun f => rfl) ?_
  refine me_v (k_max (a := p) (b := r) (by omega) (by omega)) ?_
  refine me_seg 2 (pc1 := 74) (ls1 := [some (.ref 100), some (.int (nI p)), some (.int (nI r)), some (.int (nI n0)), some (.int 2), none, none]) (st1 := [.int (nI n0), .int 2, .int (nI (max p r)), .int (nI (min p r)), .ref 100]) (M1 := (mk_M (cT im le ln ys vt nu nn rf vw_2 vq_2 yc_2 yh_2 yg_2) (kr (he, ke, ki, fi, fa, or, mi, a, g, l, w, s)) m_2 kk q)) (fun f => rfl) ?_
  refine me_callE (y := 106) (y0 := 77) (L := [some (.ref 100), some (.int (nI (min p r))), some (.int (nI (max p r))), some (.int 2), some (.int (nI n0)), none, none, none]) (rest := []) (fun f => rfl) (wc_wp_2 he ke ki fi fa or mi a g l w s im le ln ys vt nu nn rf kk q hA hC vw_2 vq_2 yc_2 yh_2 yg_2 m_2 ⟨(by assumption), j1, by assumption, by assumption, by assumption⟩ (min p r) (max p r) n0 (by omega) (by omega) (by omega)) ?_
  rintro _ _ ⟨rfl, vw_3, vq_3, yc_3, yh_3, yg_3, m_3, rfl, hJ_3⟩
  obtain ⟨j0_3, j1_3, j2_3, j3_3, j4_3⟩ := id hJ_3
  refine me_seg 9 (pc1 := 66) (ls1 := [some (.ref 100), some (.int (nI p)), some (.int (nI r)), some (.int (nI n0)), some (.int 3), none, none]) (st1 := [.int (if (nI r) < (nI p) then (nI r) else (nI p)), .ref 100]) (M1 := (mk_M (cT im le ln ys vt nu nn rf vw_3 vq_3 yc_3 yh_3 yg_3) (kr (he, ke, ki, fi, fa, or, mi, a, g, l, w, s)) m_3 kk q)) (fun f => rfl) ?_
  refine me_v (k_min (a := p) (b := r) (by omega) (by omega)) ?_
  refine me_seg 3 (pc1 := 71) (ls1 := [some (.ref 100), some (.int (nI p)), some (.int (nI r)), some (.int (nI n0)), some (.int 3), none, none]) (st1 := [.int (if (nI p) < (nI r) then (nI r) else (nI p)), .int (nI (min p r)), .ref 100]) (M1 := (mk_M (cT im le ln ys vt nu nn rf vw_3 vq_3 yc_3 yh_3 yg_3) (kr (he, ke, ki, fi, fa, or, mi, a, g, l, w, s)) m_3 kk q)) (fun f => rfl) ?_
  refine me_v (k_max (a := p) (b := r) (by omega) (by omega)) ?_
  refine me_seg 2 (pc1 := 74) (ls1 := [some (.ref 100), some (.int (nI p)), some (.int (nI r)), some (.int (nI n0)), some (.int 3), none, none]) (st1 := [.int (nI n0), .int 3, .int (nI (max p r)), .int (nI (min p r)), .ref 100]) (M1 := (mk_M (cT im le ln ys vt nu nn rf vw_3 vq_3 yc_3 yh_3 yg_3) (kr (he, ke, ki, fi, fa, or, mi, a, g, l, w, s)) m_3 kk q)) (fun f => rfl) ?_
  refine me_callE (y := 106) (y0 := 77) (L := [some (.ref 100), some (.int (nI (min p r))), some (.int (nI (max p r))), some (.int 3), some (.int (nI n0)), none, none, none]) (rest := []) (fun f => rfl) (wc_wp_3 he ke ki fi fa or mi a g l w s im le ln ys vt nu nn rf kk q hA hC vw_3 vq_3 yc_3 yh_3 yg_3 m_3 ⟨(by assumption), j1, by assumption, by assumption, by assumption⟩ (min p r) (max p r) n0 (by omega) (by omega) (by omega)) ?_
  rintro _ _ ⟨rfl, vw_4, vq_4, yc_4, yh_4, yg_4, m_4, rfl, hJ_4⟩
  obtain ⟨j0_4, j1_4, j2_4, j3_4, j4_4⟩ := id hJ_4
  refine me_seg 7 (pc1 := 86) (ls1 := [some (.ref 100), some (.int (nI p)), some (.int (nI r)), some (.int (nI n0)), some (.int 0), none, none]) (st1 := []) (M1 := (mk_M (cT im le ln ys vt nu nn rf vw_4 vq_4 yc_4 yh_4 yg_4) (kr (he, ke, ki, fi, fa, or, mi, a, g, l, w, s)) m_4 kk q)) (fun f => rfl) ?_
  exact wc_twoL he ke ki fi fa or mi a g l w s im le ln ys vt nu nn rf kk q hA hC p r n0 hp hr hne hn 4 0 none none vw_4 vq_4 yc_4 yh_4 yg_4 m_4 (by omega) ⟨(by assumption), j1, by assumption, by assumption, by assumption⟩
set_option maxRecDepth 100000 in
theorem wc_wwL (he ke ki fi fa or : List Nat) (mi a g l w s : Nat) (im : Nat) (le : List Nat) (ln : Nat) (ys : List Int32) (vt : Int32) (nu : List Nat) (nn : Nat) (rf : List Nat) (kk : kG) (q : cR) (hA : iA (he, ke, ki, fi, fa, or, mi, a, g, l, w, s)) (hC : iC nu nn) (pl : Int32) (n0 : Nat) (hn : n0 ≤ 7) (k : Nat) : ∀ (j : Nat)  (vw vq : Int32) (yc yh yg : List Int32) (Q : kK), j + k = n0 → iJ (kr Q) ys yc yh yg → kV Q → k_st Q + k < 2 ^ 20 → mm_E 109 8 [some (.ref 100), some (.int pl), some (.int (nI n0)), some (.ref 124), some (.int (nI j))] [] (mk_M (cT im le ln ys vt nu nn rf vw vq yc yh yg) (kr (he, ke, ki, fi, fa, or, mi, a, g, l, w, s)) (kr Q) kk q) (pC isI (he, ke, ki, fi, fa, or, mi, a, g, l, w, s) im le ln ys vt nu nn rf kk q) := by
  obtain ⟨hV, hst⟩ := id hA
  have hst2 : s ≤ 999 := hst
  obtain ⟨v1, v2, v3, v4, v5, v6, v7, v8, v9, v10, v11, v12, v13, v14, v15, v16⟩ := id hV
  have v6l := kO_len mi v7 or v6
  obtain ⟨c1, c2, c3⟩ := id hC
  induction k with
  | zero =>
    intro j vw vq yc yh yg Q hj hJ hQ hQs
    obtain ⟨j0, j1, j2, j3, j4⟩ := id hJ
    refine me_seg 2 (pc1 := 11) (ls1 := [some (.ref 100), some (.int pl), some (.int (nI n0)), some (.ref 124), some (.int (nI j))]) (st1 := [.int (nI n0), .int (nI j)]) (M1 := (mk_M (cT im le ln ys vt nu nn rf vw vq yc yh yg) (kr (he, ke, ki, fi, fa, or, mi, a, g, l, w, s)) (kr Q) kk q)) (fun f => rfl) ?_
    refine me_t (C := (nI n0) ≤ (nI j)) (nI_let (a := n0) (b := j) (by omega)) (fun f => rfl) ?_
    refine me_ret 3 (r := some (.int (nI (k_at Q)))) (M1 := (mk_M (cT im le ln ys vt nu nn rf vw vq yc yh yg) (kr (he, ke, ki, fi, fa, or, mi, a, g, l, w, s)) (kr Q) kk q)) (fun f => rfl) ?_
    exact ⟨⟨_, rfl⟩, _, _, _, _, _, _, rfl, ⟨(kSh_r hQ), j1, by assumption, by assumption, by assumption⟩⟩
  | succ k IH =>
    intro j vw vq yc yh yg Q hj hJ hQ hQs
    obtain ⟨j0, j1, j2, j3, j4⟩ := id hJ
    refine me_seg 2 (pc1 := 11) (ls1 := [some (.ref 100), some (.int pl), some (.int (nI n0)), some (.ref 124), some (.int (nI j))]) (st1 := [.int (nI n0), .int (nI j)]) (M1 := (mk_M (cT im le ln ys vt nu nn rf vw vq yc yh yg) (kr (he, ke, ki, fi, fa, or, mi, a, g, l, w, s)) (kr Q) kk q)) (fun f => rfl) ?_
    refine me_f (C := (nI n0) ≤ (nI j)) (nI_lef (a := n0) (b := j) (by omega)) (fun f => rfl) ?_
    refine me_seg 7 (pc1 := 22) (ls1 := [some (.ref 100), some (.int pl), some (.int (nI n0)), some (.ref 124), some (.int (nI j))]) (st1 := [.int 1, .int ((pl >>> ((nI j) &&& 31)) &&& (1 : Int32)), .ref 124]) (M1 := (mk_M (cT im le ln ys vt nu nn rf vw vq yc yh yg) (kr (he, ke, ki, fi, fa, or, mi, a, g, l, w, s)) (kr Q) kk q)) (fun f => rfl) ?_
    refine me_if (C := ((pl >>> ((nI j) &&& 31)) &&& (1 : Int32)) = 1) (fun f => rfl) (fun h1 => ?_) (fun h1 => ?_)
    · refine me_seg 2 (pc1 := 30) (ls1 := [some (.ref 100), some (.int pl), some (.int (nI n0)), some (.ref 124), some (.int (nI j))]) (st1 := [.int 5, .ref 124]) (M1 := (mk_M (cT im le ln ys vt nu nn rf vw vq yc yh yg) (kr (he, ke, ki, fi, fa, or, mi, a, g, l, w, s)) (kr Q) kk q)) (fun f => rfl) ?_
      refine me_call (y := 44) (y0 := 33) (L := [some (.ref 124), some (.int 5), none, none, none]) (rest := []) (rr := none) (M1 := (mk_M (cT im le ln ys vt nu nn rf vw vq yc yh yg) (kr (he, ke, ki, fi, fa, or, mi, a, g, l, w, s)) (kr (kstep Q 5)) kk q)) (fun f => rfl) (kl_m (cT im le ln ys vt nu nn rf vw vq yc yh yg) (kr (he, ke, ki, fi, fa, or, mi, a, g, l, w, s)) kk q (kc_advQ Q 5 (by decide) hQ (Nat.lt_trans (m := 2 ^ 20) (by omega) (by decide)))) ?_
      refine me_seg 1 (pc1 := 36) (ls1 := [some (.ref 100), some (.int pl), some (.int (nI n0)), some (.ref 124), some (.int ((nI j) + 1))]) (st1 := []) (M1 := (mk_M (cT im le ln ys vt nu nn rf vw vq yc yh yg) (kr (he, ke, ki, fi, fa, or, mi, a, g, l, w, s)) (kr (kstep Q 5)) kk q)) (fun f => rfl) ?_
      refine me_l (fun q_ => [some (.ref 100), some (.int pl), some (.int (nI n0)), some (.ref 124), some (.int q_)]) (nI_add j 1) ?_
      refine me_seg 1 (pc1 := 8) (ls1 := [some (.ref 100), some (.int pl), some (.int (nI n0)), some (.ref 124), some (.int (nI (j + 1)))]) (st1 := []) (M1 := (mk_M (cT im le ln ys vt nu nn rf vw vq yc yh yg) (kr (he, ke, ki, fi, fa, or, mi, a, g, l, w, s)) (kr (kstep Q 5)) kk q)) (fun f => rfl) ?_
      exact IH (j + 1)  vw vq yc yh yg (kstep Q 5) (by omega) ⟨(kSh_r (kV_step hQ 5)), j1, by assumption, by assumption, by assumption⟩ (kV_step hQ 5) (by first | omega | (rw [kst_step]; omega))
    · refine me_seg 1 (pc1 := 30) (ls1 := [some (.ref 100), some (.int pl), some (.int (nI n0)), some (.ref 124), some (.int (nI j))]) (st1 := [.int 0, .ref 124]) (M1 := (mk_M (cT im le ln ys vt nu nn rf vw vq yc yh yg) (kr (he, ke, ki, fi, fa, or, mi, a, g, l, w, s)) (kr Q) kk q)) (fun f => rfl) ?_
      refine me_call (y := 44) (y0 := 33) (L := [some (.ref 124), some (.int 0), none, none, none]) (rest := []) (rr := none) (M1 := (mk_M (cT im le ln ys vt nu nn rf vw vq yc yh yg) (kr (he, ke, ki, fi, fa, or, mi, a, g, l, w, s)) (kr (kstep Q 0)) kk q)) (fun f => rfl) (kl_m (cT im le ln ys vt nu nn rf vw vq yc yh yg) (kr (he, ke, ki, fi, fa, or, mi, a, g, l, w, s)) kk q (kc_advQ Q 0 (by decide) hQ (Nat.lt_trans (m := 2 ^ 20) (by omega) (by decide)))) ?_
      refine me_seg 1 (pc1 := 36) (ls1 := [some (.ref 100), some (.int pl), some (.int (nI n0)), some (.ref 124), some (.int ((nI j) + 1))]) (st1 := []) (M1 := (mk_M (cT im le ln ys vt nu nn rf vw vq yc yh yg) (kr (he, ke, ki, fi, fa, or, mi, a, g, l, w, s)) (kr (kstep Q 0)) kk q)) (fun f => rfl) ?_
      refine me_l (fun q_ => [some (.ref 100), some (.int pl), some (.int (nI n0)), some (.ref 124), some (.int q_)]) (nI_add j 1) ?_
      refine me_seg 1 (pc1 := 8) (ls1 := [some (.ref 100), some (.int pl), some (.int (nI n0)), some (.ref 124), some (.int (nI (j + 1)))]) (st1 := []) (M1 := (mk_M (cT im le ln ys vt nu nn rf vw vq yc yh yg) (kr (he, ke, ki, fi, fa, or, mi, a, g, l, w, s)) (kr (kstep Q 0)) kk q)) (fun f => rfl) ?_
      exact IH (j + 1)  vw vq yc yh yg (kstep Q 0) (by omega) ⟨(kSh_r (kV_step hQ 0)), j1, by assumption, by assumption, by assumption⟩ (kV_step hQ 0) (by first | omega | (rw [kst_step]; omega))
set_option maxRecDepth 100000 in
theorem wc_ww (he ke ki fi fa or : List Nat) (mi a g l w s : Nat) (im : Nat) (le : List Nat) (ln : Nat) (ys : List Int32) (vt : Int32) (nu : List Nat) (nn : Nat) (rf : List Nat) (kk : kG) (q : cR) (hA : iA (he, ke, ki, fi, fa, or, mi, a, g, l, w, s)) (hC : iC nu nn) (vw vq : Int32) (yc yh yg : List Int32) (m : kG) (hJ : iJ m ys yc yh yg) (pl : Int32) (n0 : Nat) (hn : n0 ≤ 7) : mm_E 109 0 [some (.ref 100), some (.int pl), some (.int (nI n0)), none, none] [] (mk_M (cT im le ln ys vt nu nn rf vw vq yc yh yg) (kr (he, ke, ki, fi, fa, or, mi, a, g, l, w, s)) m kk q) (pC isI (he, ke, ki, fi, fa, or, mi, a, g, l, w, s) im le ln ys vt nu nn rf kk q) := by
  obtain ⟨hV, hst⟩ := id hA
  have hst2 : s ≤ 999 := hst
  obtain ⟨v1, v2, v3, v4, v5, v6, v7, v8, v9, v10, v11, v12, v13, v14, v15, v16⟩ := id hV
  have v6l := kO_len mi v7 or v6
  obtain ⟨c1, c2, c3⟩ := id hC
  obtain ⟨j0, j1, j2, j3, j4⟩ := id hJ
  refine me_seg 1 (pc1 := 1) (ls1 := [some (.ref 100), some (.int pl), some (.int (nI n0)), none, none]) (st1 := [.ref 100]) (M1 := (mk_M (cT im le ln ys vt nu nn rf vw vq yc yh yg) (kr (he, ke, ki, fi, fa, or, mi, a, g, l, w, s)) m kk q)) (fun f => rfl) ?_
  refine me_call (y := 75) (y0 := 4) (L := [some (.ref 100)]) (rest := []) (rr := some (.ref 124)) (M1 := (mk_M (cT im le ln ys vt nu nn rf vw vq yc yh yg) (kr (he, ke, ki, fi, fa, or, mi, a, g, l, w, s)) (kr (he, ke, ki, fi, fa, or, mi, a, g, l, w, s)) kk q)) (fun f => rfl) (cc_now (he, ke, ki, fi, fa, or, mi, a, g, l, w, s) (cT im le ln ys vt nu nn rf vw vq yc yh yg) m kk q hV (by assumption)) ?_
  refine me_seg 3 (pc1 := 8) (ls1 := [some (.ref 100), some (.int pl), some (.int (nI n0)), some (.ref 124), some (.int 0)]) (st1 := []) (M1 := (mk_M (cT im le ln ys vt nu nn rf vw vq yc yh yg) (kr (he, ke, ki, fi, fa, or, mi, a, g, l, w, s)) (kr (he, ke, ki, fi, fa, or, mi, a, g, l, w, s)) kk q)) (fun f => rfl) ?_
  exact wc_wwL he ke ki fi fa or mi a g l w s im le ln ys vt nu nn rf kk q hA hC pl n0 hn n0 0  vw vq yc yh yg (he, ke, ki, fi, fa, or, mi, a, g, l, w, s) (by omega) ⟨(kSh_r hV), j1, by assumption, by assumption, by assumption⟩ hV (by show s + n0 < 2 ^ 20; omega)
set_option maxRecDepth 100000 in
theorem wc_plankL (he ke ki fi fa or : List Nat) (mi a g l w s : Nat) (im : Nat) (le : List Nat) (ln : Nat) (ys : List Int32) (vt : Int32) (nu : List Nat) (nn : Nat) (rf : List Nat) (kk : kG) (q : cR) (hA : iA (he, ke, ki, fi, fa, or, mi, a, g, l, w, s)) (hC : iC nu nn) (p n0 t x : Nat) (hp : p < 25) (hn : n0 ≤ 7) (ht1 : 2 ≤ t) (ht : t ≤ 20) (hx : x < 2) (k : Nat) : ∀ (j : Nat) (v : Int64) (vw vq : Int32) (yc yh yg : List Int32) (m : kG), ((1 : Int32) <<< ((nI n0) &&& 31)).toInt ≤ (j : Int) + (k : Int) → j < 2 ^ 31 → iJ m ys yc yh yg → mm_E 107 72 [some (.ref 100), some (.int (nI p)), some (.int (nI n0)), some (.int (nI t)), some (.int (nI x)), some (.long v), none, some (.int (nI j))] [] (mk_M (cT im le ln ys vt nu nn rf vw vq yc yh yg) (kr (he, ke, ki, fi, fa, or, mi, a, g, l, w, s)) m kk q) (pC isL (he, ke, ki, fi, fa, or, mi, a, g, l, w, s) im le ln ys vt nu nn rf kk q) := by
  obtain ⟨hV, hst⟩ := id hA
  have hst2 : s ≤ 999 := hst
  obtain ⟨v1, v2, v3, v4, v5, v6, v7, v8, v9, v10, v11, v12, v13, v14, v15, v16⟩ := id hV
  have v6l := kO_len mi v7 or v6
  obtain ⟨c1, c2, c3⟩ := id hC
  induction k with
  | zero =>
    intro j v vw vq yc yh yg m hj hj2 hJ
    obtain ⟨j0, j1, j2, j3, j4⟩ := id hJ
    refine me_seg 4 (pc1 := 77) (ls1 := [some (.ref 100), some (.int (nI p)), some (.int (nI n0)), some (.int (nI t)), some (.int (nI x)), some (.long v), none, some (.int (nI j))]) (st1 := [.int ((1 : Int32) <<< ((nI n0) &&& 31)), .int (nI j)]) (M1 := (mk_M (cT im le ln ys vt nu nn rf vw vq yc yh yg) (kr (he, ke, ki, fi, fa, or, mi, a, g, l, w, s)) m kk q)) (fun f => rfl) ?_
    refine me_t (C := ((1 : Int32) <<< ((nI n0) &&& 31)) ≤ (nI j)) (k_rawle (by omega) (by omega)) (fun f => rfl) ?_
    refine me_seg 4 (pc1 := 121) (ls1 := [some (.ref 100), some (.int (nI p)), some (.int (nI n0)), some (.int (nI t)), some (.int (nI x)), some (.long v), none, some (.int (nI j))]) (st1 := [.int (nI n0), .long ((nI t).toInt64), .long v]) (M1 := (mk_M (cT im le ln ys vt nu nn rf vw vq yc yh yg) (kr (he, ke, ki, fi, fa, or, mi, a, g, l, w, s)) m kk q)) (fun f => rfl) ?_
    refine me_callE (y := 111) (y0 := 124) (L := [some (.long ((nI t).toInt64)), none, some (.int (nI n0)), none, none, none]) (rest := [.long v]) (fun f => rfl) (wc_pow ((nI t).toInt64) (nI n0) _) ?_
    rintro _ _ ⟨⟨w_1, rfl⟩, rfl⟩
    refine me_seg 1 (pc1 := 126) (ls1 := [some (.ref 100), some (.int (nI p)), some (.int (nI n0)), some (.int (nI t)), some (.int (nI x)), some (.long v), none, some (.int (nI j))]) (st1 := [.int (nI x), .long w_1, .long v]) (M1 := (mk_M (cT im le ln ys vt nu nn rf vw vq yc yh yg) (kr (he, ke, ki, fi, fa, or, mi, a, g, l, w, s)) m kk q)) (fun f => rfl) ?_
    refine me_callE (y := 112) (y0 := 129) (L := [some (.long v), none, some (.long w_1), none, some (.int (nI x)), none, none]) (rest := []) (fun f => rfl) (wc_pf v w_1 (nI x) _) ?_
    rintro _ _ ⟨⟨w_2, rfl⟩, rfl⟩
    refine me_ret 1 (r := some (.long w_2)) (M1 := (mk_M (cT im le ln ys vt nu nn rf vw vq yc yh yg) (kr (he, ke, ki, fi, fa, or, mi, a, g, l, w, s)) m kk q)) (fun f => rfl) ?_
    exact ⟨⟨_, rfl⟩, _, _, _, _, _, _, rfl, ⟨(by assumption), j1, by assumption, by assumption, by assumption⟩⟩
  | succ k IH =>
    intro j v vw vq yc yh yg m hj hj2 hJ
    obtain ⟨j0, j1, j2, j3, j4⟩ := id hJ
    refine me_seg 4 (pc1 := 77) (ls1 := [some (.ref 100), some (.int (nI p)), some (.int (nI n0)), some (.int (nI t)), some (.int (nI x)), some (.long v), none, some (.int (nI j))]) (st1 := [.int ((1 : Int32) <<< ((nI n0) &&& 31)), .int (nI j)]) (M1 := (mk_M (cT im le ln ys vt nu nn rf vw vq yc yh yg) (kr (he, ke, ki, fi, fa, or, mi, a, g, l, w, s)) m kk q)) (fun f => rfl) ?_
    refine me_if (C := ((1 : Int32) <<< ((nI n0) &&& 31)) ≤ (nI j)) (fun f => rfl) (fun h1 => ?_) (fun h1 => ?_)
    · refine me_seg 4 (pc1 := 121) (ls1 := [some (.ref 100), some (.int (nI p)), some (.int (nI n0)), some (.int (nI t)), some (.int (nI x)), some (.long v), none, some (.int (nI j))]) (st1 := [.int (nI n0), .long ((nI t).toInt64), .long v]) (M1 := (mk_M (cT im le ln ys vt nu nn rf vw vq yc yh yg) (kr (he, ke, ki, fi, fa, or, mi, a, g, l, w, s)) m kk q)) (fun f => rfl) ?_
      refine me_callE (y := 111) (y0 := 124) (L := [some (.long ((nI t).toInt64)), none, some (.int (nI n0)), none, none, none]) (rest := [.long v]) (fun f => rfl) (wc_pow ((nI t).toInt64) (nI n0) _) ?_
      rintro _ _ ⟨⟨w_2, rfl⟩, rfl⟩
      refine me_seg 1 (pc1 := 126) (ls1 := [some (.ref 100), some (.int (nI p)), some (.int (nI n0)), some (.int (nI t)), some (.int (nI x)), some (.long v), none, some (.int (nI j))]) (st1 := [.int (nI x), .long w_2, .long v]) (M1 := (mk_M (cT im le ln ys vt nu nn rf vw vq yc yh yg) (kr (he, ke, ki, fi, fa, or, mi, a, g, l, w, s)) m kk q)) (fun f => rfl) ?_
      refine me_callE (y := 112) (y0 := 129) (L := [some (.long v), none, some (.long w_2), none, some (.int (nI x)), none, none]) (rest := []) (fun f => rfl) (wc_pf v w_2 (nI x) _) ?_
      rintro _ _ ⟨⟨w_3, rfl⟩, rfl⟩
      refine me_ret 1 (r := some (.long w_3)) (M1 := (mk_M (cT im le ln ys vt nu nn rf vw vq yc yh yg) (kr (he, ke, ki, fi, fa, or, mi, a, g, l, w, s)) m kk q)) (fun f => rfl) ?_
      exact ⟨⟨_, rfl⟩, _, _, _, _, _, _, rfl, ⟨(by assumption), j1, by assumption, by assumption, by assumption⟩⟩
    · refine me_seg 3 (pc1 := 84) (ls1 := [some (.ref 100), some (.int (nI p)), some (.int (nI n0)), some (.int (nI t)), some (.int (nI x)), some (.long v), none, some (.int (nI j))]) (st1 := [.int (nI n0), .int (nI j), .ref 100]) (M1 := (mk_M (cT im le ln ys vt nu nn rf vw vq yc yh yg) (kr (he, ke, ki, fi, fa, or, mi, a, g, l, w, s)) m kk q)) (fun f => rfl) ?_
      refine me_callE (y := 109) (y0 := 87) (L := [some (.ref 100), some (.int (nI j)), some (.int (nI n0)), none, none]) (rest := []) (fun f => rfl) (wc_ww he ke ki fi fa or mi a g l w s im le ln ys vt nu nn rf kk q hA hC vw vq yc yh yg m ⟨(by assumption), j1, by assumption, by assumption, by assumption⟩ (nI j) n0 (by omega)) ?_
      rintro _ _ ⟨⟨w_4, rfl⟩, vw_4, vq_4, yc_4, yh_4, yg_4, m_4, rfl, hJ_4⟩
      obtain ⟨j0_4, j1_4, j2_4, j3_4, j4_4⟩ := id hJ_4
      refine me_seg 1 (pc1 := 88) (ls1 := [some (.ref 100), some (.int (nI p)), some (.int (nI n0)), some (.int (nI t)), some (.int (nI x)), some (.long v), none, some (.int (nI j))]) (st1 := [.int (nI p), .int w_4]) (M1 := (mk_M (cT im le ln ys vt nu nn rf vw_4 vq_4 yc_4 yh_4 yg_4) (kr (he, ke, ki, fi, fa, or, mi, a, g, l, w, s)) m_4 kk q)) (fun f => rfl) ?_
      refine me_if (C := w_4 = (nI p)) (fun f => rfl) (fun h5 => ?_) (fun h5 => ?_)
      · refine me_seg 7 (pc1 := 100) (ls1 := [some (.ref 100), some (.int (nI p)), some (.int (nI n0)), some (.int (nI t)), some (.int (nI x)), some (.long v), none, some (.int (nI j))]) (st1 := [.int (nI j), .int (nI n0), .long (((nI t) - (1 : Int32)).toInt64), .long v]) (M1 := (mk_M (cT im le ln ys vt nu nn rf vw_4 vq_4 yc_4 yh_4 yg_4) (kr (he, ke, ki, fi, fa, or, mi, a, g, l, w, s)) m_4 kk q)) (fun f => rfl) ?_
        refine me_callE (y := 110) (y0 := 103) (L := [some (.int (nI j))]) (rest := [.int (nI n0), .long (((nI t) - (1 : Int32)).toInt64), .long v]) (fun f => rfl) (wc_bc (nI j) _) ?_
        rintro _ _ ⟨⟨w_6, rfl⟩, rfl⟩
        refine me_seg 1 (pc1 := 104) (ls1 := [some (.ref 100), some (.int (nI p)), some (.int (nI n0)), some (.int (nI t)), some (.int (nI x)), some (.long v), none, some (.int (nI j))]) (st1 := [.int ((nI n0) - w_6), .long (((nI t) - (1 : Int32)).toInt64), .long v]) (M1 := (mk_M (cT im le ln ys vt nu nn rf vw_4 vq_4 yc_4 yh_4 yg_4) (kr (he, ke, ki, fi, fa, or, mi, a, g, l, w, s)) m_4 kk q)) (fun f => rfl) ?_
        refine me_callE (y := 111) (y0 := 107) (L := [some (.long (((nI t) - (1 : Int32)).toInt64)), none, some (.int ((nI n0) - w_6)), none, none, none]) (rest := [.long v]) (fun f => rfl) (wc_pow (((nI t) - (1 : Int32)).toInt64) ((nI n0) - w_6) _) ?_
        rintro _ _ ⟨⟨w_7, rfl⟩, rfl⟩
        refine me_seg 3 (pc1 := 113) (ls1 := [some (.ref 100), some (.int (nI p)), some (.int (nI n0)), some (.int (nI t)), some (.int (nI x)), some (.long (v + w_7)), none, some (.int ((nI j) + 1))]) (st1 := []) (M1 := (mk_M (cT im le ln ys vt nu nn rf vw_4 vq_4 yc_4 yh_4 yg_4) (kr (he, ke, ki, fi, fa, or, mi, a, g, l, w, s)) m_4 kk q)) (fun f => rfl) ?_
        refine me_l (fun q_ => [some (.ref 100), some (.int (nI p)), some (.int (nI n0)), some (.int (nI t)), some (.int (nI x)), some (.long (v + w_7)), none, some (.int q_)]) (nI_add j 1) ?_
        refine me_seg 1 (pc1 := 72) (ls1 := [some (.ref 100), some (.int (nI p)), some (.int (nI n0)), some (.int (nI t)), some (.int (nI x)), some (.long (v + w_7)), none, some (.int (nI (j + 1)))]) (st1 := []) (M1 := (mk_M (cT im le ln ys vt nu nn rf vw_4 vq_4 yc_4 yh_4 yg_4) (kr (he, ke, ki, fi, fa, or, mi, a, g, l, w, s)) m_4 kk q)) (fun f => rfl) ?_
        have hlt := k_rawlt (by omega) h1
        have hlx := Int32.toInt_lt ((1 : Int32) <<< ((nI n0) &&& 31))
        exact IH (j + 1) (v + w_7) vw_4 vq_4 yc_4 yh_4 yg_4 m_4 (by omega) (by omega) ⟨(by assumption), j1, by assumption, by assumption, by assumption⟩
      · refine me_seg 1 (pc1 := 113) (ls1 := [some (.ref 100), some (.int (nI p)), some (.int (nI n0)), some (.int (nI t)), some (.int (nI x)), some (.long v), none, some (.int ((nI j) + 1))]) (st1 := []) (M1 := (mk_M (cT im le ln ys vt nu nn rf vw_4 vq_4 yc_4 yh_4 yg_4) (kr (he, ke, ki, fi, fa, or, mi, a, g, l, w, s)) m_4 kk q)) (fun f => rfl) ?_
        refine me_l (fun q_ => [some (.ref 100), some (.int (nI p)), some (.int (nI n0)), some (.int (nI t)), some (.int (nI x)), some (.long v), none, some (.int q_)]) (nI_add j 1) ?_
        refine me_seg 1 (pc1 := 72) (ls1 := [some (.ref 100), some (.int (nI p)), some (.int (nI n0)), some (.int (nI t)), some (.int (nI x)), some (.long v), none, some (.int (nI (j + 1)))]) (st1 := []) (M1 := (mk_M (cT im le ln ys vt nu nn rf vw_4 vq_4 yc_4 yh_4 yg_4) (kr (he, ke, ki, fi, fa, or, mi, a, g, l, w, s)) m_4 kk q)) (fun f => rfl) ?_
        have hlt := k_rawlt (by omega) h1
        have hlx := Int32.toInt_lt ((1 : Int32) <<< ((nI n0) &&& 31))
        exact IH (j + 1) v vw_4 vq_4 yc_4 yh_4 yg_4 m_4 (by omega) (by omega) ⟨(by assumption), j1, by assumption, by assumption, by assumption⟩
set_option maxRecDepth 100000 in
theorem wc_plank (he ke ki fi fa or : List Nat) (mi a g l w s : Nat) (im : Nat) (le : List Nat) (ln : Nat) (ys : List Int32) (vt : Int32) (nu : List Nat) (nn : Nat) (rf : List Nat) (kk : kG) (q : cR) (hA : iA (he, ke, ki, fi, fa, or, mi, a, g, l, w, s)) (hC : iC nu nn) (vw vq : Int32) (yc yh yg : List Int32) (m : kG) (hJ : iJ m ys yc yh yg) (p n0 t x : Nat) (hp : p < 25) (hn : n0 ≤ 7) (ht1 : 2 ≤ t) (ht : t ≤ 20) (hx : x < 2) : mm_E 107 0 [some (.ref 100), some (.int (nI p)), some (.int (nI n0)), some (.int (nI t)), some (.int (nI x)), none, none, none] [] (mk_M (cT im le ln ys vt nu nn rf vw vq yc yh yg) (kr (he, ke, ki, fi, fa, or, mi, a, g, l, w, s)) m kk q) (pC isL (he, ke, ki, fi, fa, or, mi, a, g, l, w, s) im le ln ys vt nu nn rf kk q) := by
  obtain ⟨hV, hst⟩ := id hA
  have hst2 : s ≤ 999 := hst
  obtain ⟨v1, v2, v3, v4, v5, v6, v7, v8, v9, v10, v11, v12, v13, v14, v15, v16⟩ := id hV
  have v6l := kO_len mi v7 or v6
  obtain ⟨c1, c2, c3⟩ := id hC
  obtain ⟨j0, j1, j2, j3, j4⟩ := id hJ
  refine me_seg 1 (pc1 := 1) (ls1 := [some (.ref 100), some (.int (nI p)), some (.int (nI n0)), some (.int (nI t)), some (.int (nI x)), none, none, none]) (st1 := [.int (nI p)]) (M1 := (mk_M (cT im le ln ys vt nu nn rf vw vq yc yh yg) (kr (he, ke, ki, fi, fa, or, mi, a, g, l, w, s)) m kk q)) (fun f => rfl) ?_
  refine me_call (y := 37) (y0 := 4) (L := [some (.int (nI p))]) (rest := []) (rr := some (.int 1)) (M1 := (mk_M (cT im le ln ys vt nu nn rf vw vq yc yh yg) (kr (he, ke, ki, fi, fa, or, mi, a, g, l, w, s)) m kk q)) (fun f => rfl) (ms_c1_ok (x := (nI p)) (nI_ltf (a := p) (b := 0) (by omega)) (nI_lef (a := 25) (b := p) (by omega))) ?_
  refine me_seg 2 (pc1 := 14) (ls1 := [some (.ref 100), some (.int (nI p)), some (.int (nI n0)), some (.int (nI t)), some (.int (nI x)), none, none, none]) (st1 := [.int (nI n0)]) (M1 := (mk_M (cT im le ln ys vt nu nn rf vw vq yc yh yg) (kr (he, ke, ki, fi, fa, or, mi, a, g, l, w, s)) m kk q)) (fun f => rfl) ?_
  refine me_f (C := (nI n0) < 0) (nI_ltf (a := n0) (b := 0) (by omega)) (fun f => rfl) ?_
  refine me_seg 2 (pc1 := 19) (ls1 := [some (.ref 100), some (.int (nI p)), some (.int (nI n0)), some (.int (nI t)), some (.int (nI x)), none, none, none]) (st1 := [.int 2, .int (nI t)]) (M1 := (mk_M (cT im le ln ys vt nu nn rf vw vq yc yh yg) (kr (he, ke, ki, fi, fa, or, mi, a, g, l, w, s)) m kk q)) (fun f => rfl) ?_
  refine me_t (C := 2 ≤ (nI t)) (nI_let (a := 2) (b := t) (by omega)) (fun f => rfl) ?_
  refine me_seg 2 (pc1 := 32) (ls1 := [some (.ref 100), some (.int (nI p)), some (.int (nI n0)), some (.int (nI t)), some (.int (nI x)), none, none, none]) (st1 := [.int 7, .int (nI n0)]) (M1 := (mk_M (cT im le ln ys vt nu nn rf vw vq yc yh yg) (kr (he, ke, ki, fi, fa, or, mi, a, g, l, w, s)) m kk q)) (fun f => rfl) ?_
  refine me_f (C := 7 < (nI n0)) (nI_ltf (a := 7) (b := n0) (by omega)) (fun f => rfl) ?_
  refine me_seg 2 (pc1 := 38) (ls1 := [some (.ref 100), some (.int (nI p)), some (.int (nI n0)), some (.int (nI t)), some (.int (nI x)), none, none, none]) (st1 := [.int 20, .int (nI t)]) (M1 := (mk_M (cT im le ln ys vt nu nn rf vw vq yc yh yg) (kr (he, ke, ki, fi, fa, or, mi, a, g, l, w, s)) m kk q)) (fun f => rfl) ?_
  refine me_t (C := (nI t) ≤ 20) (nI_let (a := t) (b := 20) (by omega)) (fun f => rfl) ?_
  refine me_seg 1 (pc1 := 50) (ls1 := [some (.ref 100), some (.int (nI p)), some (.int (nI n0)), some (.int (nI t)), some (.int (nI x)), none, none, none]) (st1 := [.int (nI x)]) (M1 := (mk_M (cT im le ln ys vt nu nn rf vw vq yc yh yg) (kr (he, ke, ki, fi, fa, or, mi, a, g, l, w, s)) m kk q)) (fun f => rfl) ?_
  refine me_f (C := (nI x) < 0) (nI_ltf (a := x) (b := 0) (by omega)) (fun f => rfl) ?_
  refine me_seg 2 (pc1 := 56) (ls1 := [some (.ref 100), some (.int (nI p)), some (.int (nI n0)), some (.int (nI t)), some (.int (nI x)), none, none, none]) (st1 := [.int 1, .int (nI x)]) (M1 := (mk_M (cT im le ln ys vt nu nn rf vw vq yc yh yg) (kr (he, ke, ki, fi, fa, or, mi, a, g, l, w, s)) m kk q)) (fun f => rfl) ?_
  refine me_t (C := (nI x) ≤ 1) (nI_let (a := x) (b := 1) (by omega)) (fun f => rfl) ?_
  refine me_seg 4 (pc1 := 72) (ls1 := [some (.ref 100), some (.int (nI p)), some (.int (nI n0)), some (.int (nI t)), some (.int (nI x)), some (.long 0), none, some (.int 0)]) (st1 := []) (M1 := (mk_M (cT im le ln ys vt nu nn rf vw vq yc yh yg) (kr (he, ke, ki, fi, fa, or, mi, a, g, l, w, s)) m kk q)) (fun f => rfl) ?_
  exact wc_plankL he ke ki fi fa or mi a g l w s im le ln ys vt nu nn rf kk q hA hC p n0 t x hp hn ht1 ht hx ((1 : Int32) <<< ((nI n0) &&& 31)).toInt.toNat 0 0 vw vq yc yh yg m (by omega) (by omega) ⟨(by assumption), j1, by assumption, by assumption, by assumption⟩
set_option maxRecDepth 100000 in
theorem wc_judgeL (he ke ki fi fa or : List Nat) (mi a g l w s : Nat) (im : Nat) (le : List Nat) (ln : Nat) (ys : List Int32) (vt : Int32) (nu : List Nat) (nn : Nat) (rf : List Nat) (kk : kG) (q : cR) (hA : iA (he, ke, ki, fi, fa, or, mi, a, g, l, w, s)) (hC : iC nu nn) (k : Nat) : ∀ (v : Int32) (vw vq : Int32) (yc yh yg : List Int32) (m : kG), iJ m ys yc yh yg → k ≤ nn → mm_E 120 10 [some (.ref 100), some (.int v), some (.int (nI k - 1))] [] (mk_M (cT im le ln ys vt nu nn rf vw vq yc yh yg) (kr (he, ke, ki, fi, fa, or, mi, a, g, l, w, s)) m kk q) (pC isI (he, ke, ki, fi, fa, or, mi, a, g, l, w, s) im le ln ys vt nu 0 rf kk q) := by
  obtain ⟨hV, hst⟩ := id hA
  have hst2 : s ≤ 999 := hst
  obtain ⟨v1, v2, v3, v4, v5, v6, v7, v8, v9, v10, v11, v12, v13, v14, v15, v16⟩ := id hV
  have v6l := kO_len mi v7 or v6
  obtain ⟨c1, c2, c3⟩ := id hC
  induction k with
  | zero =>
    intro v vw vq yc yh yg m hJ hk
    obtain ⟨j0, j1, j2, j3, j4⟩ := id hJ
    refine me_l (fun q_ => [some (.ref 100), some (.int v), some (.int q_)]) (show nI 0 - 1 = (-1 : Int32) by decide) ?_
    refine me_ret 7 (r := some (.int v)) (M1 := (mk_M (cT im le ln ys vt nu 0 rf vw vq yc yh yg) (kr (he, ke, ki, fi, fa, or, mi, a, g, l, w, s)) m kk q)) (fun f => rfl) ?_
    exact ⟨⟨_, rfl⟩, _, _, _, _, _, _, rfl, ⟨(by assumption), j1, by assumption, by assumption, by assumption⟩⟩
  | succ k IH =>
    intro v vw vq yc yh yg m hJ hk
    obtain ⟨j0, j1, j2, j3, j4⟩ := id hJ
    refine me_l (fun q_ => [some (.ref 100), some (.int v), some (.int q_)]) (show nI (k + 1) - 1 = nI k from pk_sub (a := k + 1) (b := 1) (by omega)) ?_
    refine me_seg 1 (pc1 := 11) (ls1 := [some (.ref 100), some (.int v), some (.int (nI k))]) (st1 := [.int (nI k)]) (M1 := (mk_M (cT im le ln ys vt nu nn rf vw vq yc yh yg) (kr (he, ke, ki, fi, fa, or, mi, a, g, l, w, s)) m kk q)) (fun f => rfl) ?_
    refine me_f (C := (nI k) < 0) (nI_pos (by omega)) (fun f => rfl) ?_
    refine me_seg 3 (pc1 := 19) (ls1 := [some (.ref 100), some (.int v), some (.int (nI k))]) (st1 := [.int (nI k), .ref 104]) (M1 := (mk_M (cT im le ln ys vt nu nn rf vw vq yc yh yg) (kr (he, ke, ki, fi, fa, or, mi, a, g, l, w, s)) m kk q)) (fun f => rfl) ?_
    refine me_ldn (xs := (nu.map nI)) rfl rfl (k := k) (by omega) (kg_ok (by omega)) ?_
    refine me_seg 4 (pc1 := 28) (ls1 := [some (.ref 100), some (.int v), some (.int (nI k))]) (st1 := [.int (nI k), .ref 118, .int (nI (kg nu k))]) (M1 := (mk_M (cT im le ln ys vt nu nn rf vw vq yc yh yg) (kr (he, ke, ki, fi, fa, or, mi, a, g, l, w, s)) m kk q)) (fun f => rfl) ?_
    refine me_ldn (xs := (he.map nI)) rfl rfl (k := k) (by omega) (kg_ok (by omega)) ?_
    refine me_if (C := (nI (kg nu k)) = (nI (kg he k))) (fun f => rfl) (fun h1 => ?_) (fun h1 => ?_)
    · refine me_seg 2 (pc1 := 10) (ls1 := [some (.ref 100), some (.int v), some (.int ((nI k) + Int32.ofInt (-1)))]) (st1 := []) (M1 := (mk_M (cT im le ln ys vt nu nn rf vw vq yc yh yg) (kr (he, ke, ki, fi, fa, or, mi, a, g, l, w, s)) m kk q)) (fun f => rfl) ?_
      refine me_l (fun q_ => [some (.ref 100), some (.int v), some (.int q_)]) (show ((nI k) + Int32.ofInt (-1)) = nI k - 1 from k_m1 _) ?_
      exact IH v vw vq yc yh yg m ⟨(by assumption), j1, by assumption, by assumption, by assumption⟩ (by omega)
    · refine me_seg 4 (pc1 := 10) (ls1 := [some (.ref 100), some (.int (nI k)), some (.int ((nI k) + Int32.ofInt (-1)))]) (st1 := []) (M1 := (mk_M (cT im le ln ys vt nu nn rf vw vq yc yh yg) (kr (he, ke, ki, fi, fa, or, mi, a, g, l, w, s)) m kk q)) (fun f => rfl) ?_
      refine me_l (fun q_ => [some (.ref 100), some (.int (nI k)), some (.int q_)]) (show ((nI k) + Int32.ofInt (-1)) = nI k - 1 from k_m1 _) ?_
      exact IH (nI k) vw vq yc yh yg m ⟨(by assumption), j1, by assumption, by assumption, by assumption⟩ (by omega)
set_option maxRecDepth 100000 in
theorem wc_judge (he ke ki fi fa or : List Nat) (mi a g l w s : Nat) (im : Nat) (le : List Nat) (ln : Nat) (ys : List Int32) (vt : Int32) (nu : List Nat) (nn : Nat) (rf : List Nat) (kk : kG) (q : cR) (hA : iA (he, ke, ki, fi, fa, or, mi, a, g, l, w, s)) (hC : iC nu nn) (vw vq : Int32) (yc yh yg : List Int32) (m : kG) (hJ : iJ m ys yc yh yg) : mm_E 120 0 [some (.ref 100), none, none] [] (mk_M (cT im le ln ys vt nu nn rf vw vq yc yh yg) (kr (he, ke, ki, fi, fa, or, mi, a, g, l, w, s)) m kk q) (pC isI (he, ke, ki, fi, fa, or, mi, a, g, l, w, s) im le ln ys vt nu 0 rf kk q) := by
  obtain ⟨hV, hst⟩ := id hA
  have hst2 : s ≤ 999 := hst
  obtain ⟨v1, v2, v3, v4, v5, v6, v7, v8, v9, v10, v11, v12, v13, v14, v15, v16⟩ := id hV
  have v6l := kO_len mi v7 or v6
  obtain ⟨c1, c2, c3⟩ := id hC
  obtain ⟨j0, j1, j2, j3, j4⟩ := id hJ
  refine me_seg 7 (pc1 := 10) (ls1 := [some (.ref 100), some (.int (-9)), some (.int ((nI nn) - (1 : Int32)))]) (st1 := []) (M1 := (mk_M (cT im le ln ys vt nu nn rf vw vq yc yh yg) (kr (he, ke, ki, fi, fa, or, mi, a, g, l, w, s)) m kk q)) (fun f => rfl) ?_
  exact wc_judgeL he ke ki fi fa or mi a g l w s im le ln ys vt nu nn rf kk q hA hC nn (-9) vw vq yc yh yg m ⟨(by assumption), j1, by assumption, by assumption, by assumption⟩ (by omega)
