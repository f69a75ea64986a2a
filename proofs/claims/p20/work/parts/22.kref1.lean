def kmn (ki fi fa : List Nat) : List Nat := [kg ki 0, kg fi 0, kg fa 0, kg ki 1, kg fi 1, kg fa 1, kg ki 2, kg fi 2, kg fa 2, kg ki 3, kg fi 3, kg fa 3, kg ki 4, kg fi 4, kg fa 4]
def kbits : List Nat → Nat
  | [] => 0
  | b :: l => b + 2 * kbits l
def ern (k : kK) : List Nat := k_mi k :: k_st k :: k_at k :: k_go k :: k_la k :: k_we k :: kbits (k_ke k) :: (k_he k ++ (kmn (k_ki k) (k_fi k) (k_fa k) ++ k_or k))
def er (k : kK) : List Int32 := (ern k).map nI
def erx (he ke ki fi fa or : List Nat) (mi a g l w s : Nat) : List Int32 := (mi :: s :: a :: g :: l :: w :: kbits ke :: (he ++ (kmn ki fi fa ++ or))).map nI
theorem er_e {he ke ki fi fa or : List Nat} {mi a g l w s : Nat} : er (he, ke, ki, fi, fa, or, mi, a, g, l, w, s) = erx he ke ki fi fa or mi a g l w s := rfl
theorem er_s0 {he ke ki fi fa or : List Nat} {mi a g l w s v : Nat} : (er (he, ke, ki, fi, fa, or, mi, a, g, l, w, s)).set 0 (nI v) = er (he, ke, ki, fi, fa, or, v, a, g, l, w, s) := by
  rw [er_e, er_e]
  exact rfl
theorem er_s1 {he ke ki fi fa or : List Nat} {mi a g l w s v : Nat} : (er (he, ke, ki, fi, fa, or, mi, a, g, l, w, s)).set 1 (nI v) = er (he, ke, ki, fi, fa, or, mi, a, g, l, w, v) := by
  rw [er_e, er_e]
  exact rfl
theorem er_s2 {he ke ki fi fa or : List Nat} {mi a g l w s v : Nat} : (er (he, ke, ki, fi, fa, or, mi, a, g, l, w, s)).set 2 (nI v) = er (he, ke, ki, fi, fa, or, mi, v, g, l, w, s) := by
  rw [er_e, er_e]
  exact rfl
theorem er_s3 {he ke ki fi fa or : List Nat} {mi a g l w s v : Nat} : (er (he, ke, ki, fi, fa, or, mi, a, g, l, w, s)).set 3 (nI v) = er (he, ke, ki, fi, fa, or, mi, a, v, l, w, s) := by
  rw [er_e, er_e]
  exact rfl
theorem er_s4 {he ke ki fi fa or : List Nat} {mi a g l w s v : Nat} : (er (he, ke, ki, fi, fa, or, mi, a, g, l, w, s)).set 4 (nI v) = er (he, ke, ki, fi, fa, or, mi, a, g, v, w, s) := by
  rw [er_e, er_e]
  exact rfl
theorem er_s5 {he ke ki fi fa or : List Nat} {mi a g l w s v : Nat} : (er (he, ke, ki, fi, fa, or, mi, a, g, l, w, s)).set 5 (nI v) = er (he, ke, ki, fi, fa, or, mi, a, g, l, v, s) := by
  rw [er_e, er_e]
  exact rfl
theorem er_x {k : kK} {i v : Nat} (h : (ern k)[i]? = some v) : (er k)[i]? = some (nI v) := by
  unfold er
  rw [List.getElem?_map, h]
  rfl
theorem er_hn {K : kK} (c : Nat) : (ern K)[7 + c]? = (k_he K ++ (kmn (k_ki K) (k_fi K) (k_fa K) ++ k_or K))[c]? := by
  unfold ern
  rw [show 7 + c = c + 7 by omega]
  simp only [List.getElem?_cons_succ]
theorem er_h {K : kK} (hh : (k_he K).length = 25) {c : Nat} (hc : c < 25) : (er K)[7 + c]? = some (nI (kg (k_he K) c)) := by
  apply er_x
  rw [er_hn, List.getElem?_append_left (by omega), List.getElem?_eq_getElem (by omega)]
  unfold kg
  rw [List.getD_eq_getElem?_getD, List.getElem?_eq_getElem (by omega)]
  rfl
theorem er_mn {K : kK} (hh : (k_he K).length = 25) {j : Nat} (hj : j < 15) : (ern K)[32 + j]? = (kmn (k_ki K) (k_fi K) (k_fa K))[j]? := by
  rw [show 32 + j = 7 + (25 + j) by omega, er_hn, List.getElem?_append_right (by omega), hh, Nat.add_sub_cancel_left, List.getElem?_append_left (show j < 15 from hj)]
theorem er_ki {K : kK} (hh : (k_he K).length = 25) {p : Nat} (hp : p < 5) : (er K)[32 + 3 * p + 0]? = some (nI (kg (k_ki K) p)) := by
  apply er_x
  rw [show 32 + 3 * p + 0 = 32 + (3 * p + 0) by omega, er_mn hh (by omega)]
  match p, hp with
  | 0, _ => rfl
  | 1, _ => rfl
  | 2, _ => rfl
  | 3, _ => rfl
  | 4, _ => rfl
  | p + 5, h => omega
theorem er_fi {K : kK} (hh : (k_he K).length = 25) {p : Nat} (hp : p < 5) : (er K)[32 + 3 * p + 1]? = some (nI (kg (k_fi K) p)) := by
  apply er_x
  rw [show 32 + 3 * p + 1 = 32 + (3 * p + 1) by omega, er_mn hh (by omega)]
  match p, hp with
  | 0, _ => rfl
  | 1, _ => rfl
  | 2, _ => rfl
  | 3, _ => rfl
  | 4, _ => rfl
  | p + 5, h => omega
theorem er_fa {K : kK} (hh : (k_he K).length = 25) {p : Nat} (hp : p < 5) : (er K)[32 + 3 * p + 2]? = some (nI (kg (k_fa K) p)) := by
  apply er_x
  rw [show 32 + 3 * p + 2 = 32 + (3 * p + 2) by omega, er_mn hh (by omega)]
  match p, hp with
  | 0, _ => rfl
  | 1, _ => rfl
  | 2, _ => rfl
  | 3, _ => rfl
  | 4, _ => rfl
  | p + 5, h => omega
theorem er_on {K : kK} (hh : (k_he K).length = 25) (j : Nat) : (ern K)[47 + j]? = (k_or K)[j]? := by
  rw [show 47 + j = 7 + (25 + (15 + j)) by omega, er_hn, List.getElem?_append_right (by omega), hh, Nat.add_sub_cancel_left, List.getElem?_append_right (show 15 ≤ 15 + j by omega), show (15 + j) - (kmn (k_ki K) (k_fi K) (k_fa K)).length = j from Nat.add_sub_cancel_left (n := 15) (m := j)]
theorem er_or {K : kK} (hh : (k_he K).length = 25) (ho : (k_or K).length = 5) {j : Nat} (hj : j < 5) : (er K)[47 + j]? = some (nI (kg (k_or K) j)) := by
  apply er_x
  rw [er_on hh, List.getElem?_eq_getElem (by omega)]
  unfold kg
  rw [List.getD_eq_getElem?_getD, List.getElem?_eq_getElem (by omega)]
  rfl
theorem er_leq {K : kK} (h1 : (k_he K).length = 25) (h6 : (k_or K).length = 5) : (er K).length = 52 := by
  unfold er ern
  rw [List.length_map]
  show (k_he K ++ (kmn (k_ki K) (k_fi K) (k_fa K) ++ k_or K)).length + 1 + 1 + 1 + 1 + 1 + 1 + 1 = 52
  rw [List.length_append, List.length_append, h1, h6]
  rfl
theorem er_len {k : kK} (hV : kV k) : (er k).length = 52 := by
  obtain ⟨he, ke, ki, fi, fa, or, mi, a, g, l, w, s⟩ := k
  obtain ⟨v1, v2, v3, v4, v5, v6, v7, -⟩ := hV
  exact er_leq v1 (kO_len mi v7 or v6)
theorem er_sx {k k' : kK} {i v : Nat} (h : (ern k).set i v = ern k') : (er k).set i (nI v) = er k' := by
  unfold er
  rw [← List.map_set, h]
theorem er_st7 {A B : List Nat} {x0 x1 x2 x3 x4 x5 x6 i v : Nat} (h : A.set i v = B) : (x0 :: x1 :: x2 :: x3 :: x4 :: x5 :: x6 :: A).set (7 + i) v = x0 :: x1 :: x2 :: x3 :: x4 :: x5 :: x6 :: B := by
  rw [← h, show 7 + i = i + 7 by omega]
  rfl
theorem er_hs {K : kK} (hh : (k_he K).length = 25) {c v : Nat} (hc : c < 25) : (er K).set (7 + c) (nI v) = er ((k_he K).set c v, k_ke K, k_ki K, k_fi K, k_fa K, k_or K, k_mi K, k_at K, k_go K, k_la K, k_we K, k_st K) :=
  er_sx (k' := ((k_he K).set c v, k_ke K, k_ki K, k_fi K, k_fa K, k_or K, k_mi K, k_at K, k_go K, k_la K, k_we K, k_st K)) (er_st7 (by rw [List.set_append_left _ _ (by omega)]; rfl))
theorem er_ms {K : kK} {ki' fi' fa' : List Nat} (hh : (k_he K).length = 25) {j v : Nat} (hj : j < 15) (h : (kmn (k_ki K) (k_fi K) (k_fa K)).set j v = kmn ki' fi' fa') : (er K).set (32 + j) (nI v) = er (k_he K, k_ke K, ki', fi', fa', k_or K, k_mi K, k_at K, k_go K, k_la K, k_we K, k_st K) :=
  er_sx (k' := (k_he K, k_ke K, ki', fi', fa', k_or K, k_mi K, k_at K, k_go K, k_la K, k_we K, k_st K)) (show (k_mi K :: k_st K :: k_at K :: k_go K :: k_la K :: k_we K :: kbits (k_ke K) :: (k_he K ++ (kmn (k_ki K) (k_fi K) (k_fa K) ++ k_or K))).set (32 + j) v = k_mi K :: k_st K :: k_at K :: k_go K :: k_la K :: k_we K :: kbits (k_ke K) :: (k_he K ++ (kmn ki' fi' fa' ++ k_or K)) by
    rw [show 32 + j = 7 + (25 + j) by omega]
    refine er_st7 ?_
    rw [List.set_append_right _ _ (by omega), hh, Nat.add_sub_cancel_left, List.set_append_left _ _ (show j < 15 from hj), h])
theorem er_kis {K : kK} (hh : (k_he K).length = 25) (h5 : (k_ki K).length = 5) {p v : Nat} (hp : p < 5) : (er K).set (32 + 3 * p + 0) (nI v) = er (k_he K, k_ke K, (k_ki K).set p v, k_fi K, k_fa K, k_or K, k_mi K, k_at K, k_go K, k_la K, k_we K, k_st K) := by
  rw [show 32 + 3 * p + 0 = 32 + (3 * p + 0) by omega]
  refine er_ms hh (by omega) ?_
  generalize k_ki K = zz at h5 ⊢
  match zz, h5, p, hp with
  | [_, _, _, _, _], _, 0, _ => rfl
  | [_, _, _, _, _], _, 1, _ => rfl
  | [_, _, _, _, _], _, 2, _ => rfl
  | [_, _, _, _, _], _, 3, _ => rfl
  | [_, _, _, _, _], _, 4, _ => rfl
theorem er_fis {K : kK} (hh : (k_he K).length = 25) (h5 : (k_fi K).length = 5) {p v : Nat} (hp : p < 5) : (er K).set (32 + 3 * p + 1) (nI v) = er (k_he K, k_ke K, k_ki K, (k_fi K).set p v, k_fa K, k_or K, k_mi K, k_at K, k_go K, k_la K, k_we K, k_st K) := by
  rw [show 32 + 3 * p + 1 = 32 + (3 * p + 1) by omega]
  refine er_ms hh (by omega) ?_
  generalize k_fi K = zz at h5 ⊢
  match zz, h5, p, hp with
  | [_, _, _, _, _], _, 0, _ => rfl
  | [_, _, _, _, _], _, 1, _ => rfl
  | [_, _, _, _, _], _, 2, _ => rfl
  | [_, _, _, _, _], _, 3, _ => rfl
  | [_, _, _, _, _], _, 4, _ => rfl
theorem er_fas {K : kK} (hh : (k_he K).length = 25) (h5 : (k_fa K).length = 5) {p v : Nat} (hp : p < 5) : (er K).set (32 + 3 * p + 2) (nI v) = er (k_he K, k_ke K, k_ki K, k_fi K, (k_fa K).set p v, k_or K, k_mi K, k_at K, k_go K, k_la K, k_we K, k_st K) := by
  rw [show 32 + 3 * p + 2 = 32 + (3 * p + 2) by omega]
  refine er_ms hh (by omega) ?_
  generalize k_fa K = zz at h5 ⊢
  match zz, h5, p, hp with
  | [_, _, _, _, _], _, 0, _ => rfl
  | [_, _, _, _, _], _, 1, _ => rfl
  | [_, _, _, _, _], _, 2, _ => rfl
  | [_, _, _, _, _], _, 3, _ => rfl
  | [_, _, _, _, _], _, 4, _ => rfl
theorem er_ors {K : kK} (hh : (k_he K).length = 25) {j v : Nat} : (er K).set (47 + j) (nI v) = er (k_he K, k_ke K, k_ki K, k_fi K, k_fa K, (k_or K).set j v, k_mi K, k_at K, k_go K, k_la K, k_we K, k_st K) :=
  er_sx (k' := (k_he K, k_ke K, k_ki K, k_fi K, k_fa K, (k_or K).set j v, k_mi K, k_at K, k_go K, k_la K, k_we K, k_st K)) (show (k_mi K :: k_st K :: k_at K :: k_go K :: k_la K :: k_we K :: kbits (k_ke K) :: (k_he K ++ (kmn (k_ki K) (k_fi K) (k_fa K) ++ k_or K))).set (47 + j) v = k_mi K :: k_st K :: k_at K :: k_go K :: k_la K :: k_we K :: kbits (k_ke K) :: (k_he K ++ (kmn (k_ki K) (k_fi K) (k_fa K) ++ (k_or K).set j v)) by
    rw [show 47 + j = 7 + (25 + (15 + j)) by omega]
    refine er_st7 ?_
    rw [List.set_append_right _ _ (by omega), hh, Nat.add_sub_cancel_left, List.set_append_right _ _ (show 15 ≤ 15 + j by omega), show (15 + j) - (kmn (k_ki K) (k_fi K) (k_fa K)).length = j from Nat.add_sub_cancel_left (n := 15) (m := j)])
theorem kb_div : ∀ (l : List Nat), (∀ i, kg l i ≤ 1) → ∀ k, kbits l / 2 ^ k % 2 = kg l k
  | [], _, k => by
    show 0 / 2 ^ k % 2 = 0
    rw [Nat.zero_div]
  | b :: l, h, 0 => by
    have h0 : b ≤ 1 := h 0
    show (b + 2 * kbits l) / 1 % 2 = b
    omega
  | b :: l, h, k + 1 => by
    have h0 : b ≤ 1 := h 0
    have ih := kb_div l (fun i => h (i + 1)) k
    show (b + 2 * kbits l) / 2 ^ (k + 1) % 2 = kg l k
    rw [Nat.pow_succ, Nat.mul_comm (2 ^ k) 2, ← Nat.div_div_eq_div_mul, show (b + 2 * kbits l) / 2 = kbits l by omega]
    exact ih
theorem kb_lt : ∀ (l : List Nat), (∀ i, kg l i ≤ 1) → kbits l < 2 ^ l.length
  | [], _ => by decide
  | b :: l, h => by
    have h0 : b ≤ 1 := h 0
    have ih := kb_lt l (fun i => h (i + 1))
    show b + 2 * kbits l < 2 ^ (l.length + 1)
    rw [Nat.pow_succ]
    omega
theorem kb_has {ke : List Nat} (hl : ke.length = 25) (h : ∀ i, kg ke i ≤ 1) {c : Nat} (hc : c < 32) : (nI (kbits ke) >>> (nI c &&& 31)) &&& 1 = nI (kg ke c) := by
  have hb := kb_lt ke h
  rw [hl] at hb
  rw [pk_shrN (by omega) _ c (s_l c hc), pk_andN (by have := Nat.div_le_self (kbits ke) (2 ^ c); omega) 1 (by decide), kb_div ke h]
theorem kb_bit (b x : Nat) (hb : b ≤ 1) (i : Nat) : (b + 2 * x).testBit i = match i with
    | 0 => decide (b = 1)
    | i + 1 => x.testBit i := by
  cases i with
  | zero =>
    rw [Nat.testBit_zero]
    rcases (show b = 0 ∨ b = 1 by omega) with e | e
    · subst e
      rw [show (0 + 2 * x) % 2 = 0 by omega]
      first | done | rfl
    · subst e
      rw [show (1 + 2 * x) % 2 = 1 by omega]
      first | done | rfl
  | succ i =>
    rw [Nat.testBit_succ, show (b + 2 * x) / 2 = x by omega]
theorem kb_xs (b x c : Nat) (hb : b ≤ 1) : (b + 2 * x) ^^^ 2 ^ (c + 1) = b + 2 * (x ^^^ 2 ^ c) := by
  apply Nat.eq_of_testBit_eq
  intro i
  rw [Nat.testBit_xor, kb_bit b x hb, kb_bit b _ hb]
  cases i with
  | zero =>
    rw [Nat.testBit_two_pow, show decide (c + 1 = 0) = false from decide_eq_false (by omega)]
    exact Bool.xor_false _
  | succ i =>
    show (x.testBit i ^^ (2 ^ (c + 1)).testBit (i + 1)) = (x ^^^ 2 ^ c).testBit i
    rw [Nat.testBit_xor, Nat.testBit_two_pow, Nat.testBit_two_pow]
    congr 1
    exact decide_eq_decide.mpr (by omega)
theorem kb_x0 (b x : Nat) (hb : b ≤ 1) : (b + 2 * x) ^^^ 2 ^ 0 = (1 - b) + 2 * x := by
  apply Nat.eq_of_testBit_eq
  intro i
  rw [Nat.testBit_xor, kb_bit b x hb, kb_bit (1 - b) x (by omega)]
  cases i with
  | zero =>
    rw [Nat.testBit_two_pow]
    rcases (show b = 0 ∨ b = 1 by omega) with e | e <;> subst e <;> rfl
  | succ i =>
    rw [Nat.testBit_two_pow, show decide (0 = i + 1) = false from decide_eq_false (by omega)]
    exact Bool.xor_false _
theorem kb_tog : ∀ (l : List Nat) (c : Nat), (∀ i, kg l i ≤ 1) → c < l.length → kbits l ^^^ 2 ^ c = kbits (l.set c (1 - kg l c))
  | [], _, _, h => absurd h (Nat.not_lt_zero _)
  | b :: l, 0, h, _ => kb_x0 b (kbits l) (h 0)
  | b :: l, c + 1, h, hc => by
    have ih := kb_tog l c (fun i => h (i + 1)) (Nat.lt_of_succ_lt_succ hc)
    show (b + 2 * kbits l) ^^^ 2 ^ (c + 1) = b + 2 * kbits (l.set c (1 - kg l c))
    rw [← ih]
    exact kb_xs b (kbits l) c (h 0)
theorem kb_togI {ke : List Nat} (hl : ke.length = 25) (h : ∀ i, kg ke i ≤ 1) {c : Nat} (hc : c < 25) : nI (kbits ke) ^^^ ((1 : Int32) <<< (nI c &&& 31)) = nI (kbits (ke.set c (1 - kg ke c))) := by
  have e : (1 : Int32) <<< (nI c &&& 31) = nI (2 ^ c) := by
    have := pk_shlN (n := 1) (nI c &&& 31) c (s_l c (by omega)) (by
      have : 2 ^ c ≤ 2 ^ 24 := Nat.pow_le_pow_right (by decide) (by omega)
      omega)
    rw [Nat.one_mul] at this
    exact this
  rw [e, nx_xor, kb_tog ke c h (by omega)]
theorem kbt_len {ke : List Nat} {c v : Nat} (h : ke.length = 25) : (ke.set c v).length = 25 := by rw [List.length_set]; exact h
theorem kbt_le {ke : List Nat} {c v : Nat} (h : ∀ i, kg ke i ≤ 1) (hv : v ≤ 1) : ∀ i, kg (ke.set c v) i ≤ 1 := by
  intro i
  rw [kg_setc]
  split
  · exact hv
  · exact h i
theorem kI_l0 {c w : Nat} (hc : c < 25) : kI (kbey c w) < 0 ↔ kbey c w = none := by
  cases h : kbey c w with
  | none => exact ⟨fun _ => rfl, fun _ => by decide⟩
  | some t =>
    have ht := kbey_lt hc h
    exact ⟨fun q => absurd q (nI_pos (by omega)), fun q => by cases q⟩
theorem kI_g0 {c w : Nat} (hc : c < 25) : 0 ≤ kI (kbey c w) ↔ ¬ kbey c w = none := by
  rw [← kI_l0 hc, Int32.not_lt]
theorem k_subg {a b : Nat} (ha : a < 2 ^ 30) (hb : b < 2 ^ 30) : nI a - nI b ≤ 0 ↔ a ≤ b := by
  rw [Int32.le_iff_toInt_le, pk_sub_toInt ha hb]
  have h3 : (0 : Int32).toInt = 0 := by decide
  omega
theorem knext_ne {he ke ki fi fa or : List Nat} {mi a g l w s y : Nat} (h : knext (he, ke, ki, fi, fa, or, mi, a, g, l, w, s) = some y) : ¬ a = g := by
  have h' : (if mi = 0 then none else if a = g then none else some (kway (kg ki (kg or 0)) a (ksgn a g) l (s + 1))) = some y := h
  intro q
  rw [if_pos q] at h'
  split at h' <;> cases h'
theorem knext_y {he ke ki fi fa or : List Nat} {mi a g l w s y : Nat} (h : knext (he, ke, ki, fi, fa, or, mi, a, g, l, w, s) = some y) : kway (kg ki (kg or 0)) a (ksgn a g) l (s + 1) = y := by
  have h' : (if mi = 0 then none else if a = g then none else some (kway (kg ki (kg or 0)) a (ksgn a g) l (s + 1))) = some y := h
  have h0 := knext_mi h
  have h1 := knext_ne h
  rw [if_neg (by omega), if_neg h1] at h'
  exact Option.some.inj h'
set_option maxRecDepth 100000 in
theorem rc_of (p k : Nat) (hp : p < 1000) (hk : k < 1000) (M : mm_H) : mm_R 141 0 [some (.int (nI p)), some (.int (nI k))] [] M (some (.int (nI (32 + 3 * p + k))), M) := by
  refine mr_seg 4 (pc1 := 5) (ls1 := [some (.int (nI p)), some (.int (nI k))]) (st1 := [.int (3 * (nI p)), .int 32]) (M1 := M) (fun f => rfl) ?_
  refine mr_v (pk_mul 3 p) ?_
  refine mr_seg 1 (pc1 := 6) (ls1 := [some (.int (nI p)), some (.int (nI k))]) (st1 := [.int (32 + (nI (3 * p)))]) (M1 := M) (fun f => rfl) ?_
  refine mr_v (nI_add 32 (3 * p)) ?_
  refine mr_seg 2 (pc1 := 8) (ls1 := [some (.int (nI p)), some (.int (nI k))]) (st1 := [.int ((nI (32 + 3 * p)) + (nI k))]) (M1 := M) (fun f => rfl) ?_
  refine mr_v (nI_add (32 + 3 * p) k) ?_
  exact mr_ret 1 (fun f => rfl)
set_option maxRecDepth 100000 in
theorem rc_least (a b : Nat) (ha : a < 2 ^ 31) (hb : b < 2 ^ 31) (M : mm_H) : mm_R 154 0 [some (.int (nI a)), some (.int (nI b))] [] M (some (.int (nI (min a b))), M) := by
  refine mr_seg 2 (pc1 := 2) (ls1 := [some (.int (nI a)), some (.int (nI b))]) (st1 := [.int (nI b), .int (nI a)]) (M1 := M) (fun f => rfl) ?_
  refine mr_ifN (C := (nI b) ≤ (nI a)) (nI_lei (a := b) (b := a) (by omega)) (fun f => rfl) (fun h1 => ?_) (fun h1 => ?_)
  · refine mr_eq (mr_ret 2 (o := (some (.int (nI b)), M)) (fun f => rfl)) ?_
    rw [show min a b = b by omega]
  · refine mr_eq (mr_ret 3 (o := (some (.int (nI a)), M)) (fun f => rfl)) ?_
    rw [show min a b = a by omega]
set_option maxRecDepth 100000 in
theorem rc_has (ke : List Nat) (c : Nat) (hc : c < 25) (v2 : ke.length = 25) (v13 : ∀ i, kg ke i ≤ 1) (M : mm_H) : mm_R 151 0 [some (.int (nI (kbits ke))), some (.int (nI c))] [] M (some (.int (nI (kg ke c))), M) := by
  have qh := v13 c
  refine mr_seg 5 (pc1 := 5) (ls1 := [some (.int (nI (kbits ke))), some (.int (nI c))]) (st1 := [.int (((nI (kbits ke)) >>> ((nI c) &&& 31)) &&& 1)]) (M1 := M) (fun f => rfl) ?_
  refine mr_v (kb_has v2 v13 (by omega)) ?_
  refine mr_seg 1 (pc1 := 6) (ls1 := [some (.int (nI (kbits ke))), some (.int (nI c))]) (st1 := [.int 1, .int (nI (kg ke c))]) (M1 := M) (fun f => rfl) ?_
  refine mr_ifN (C := (nI (kg ke c)) = 1) (nI_eqi (a := kg ke c) (b := 1) (by omega)) (fun f => rfl) (fun h1 => ?_) (fun h1 => ?_)
  · refine mr_eq (mr_ret 3 (o := (some (.int 1), M)) (fun f => rfl)) ?_
    have q := v13 c
    rw [show kg ke c = 1 by omega]
    rfl
  · refine mr_eq (mr_ret 2 (o := (some (.int 0), M)) (fun f => rfl)) ?_
    have q := v13 c
    rw [show kg ke c = 0 by omega]
    rfl
set_option maxRecDepth 100000 in
theorem rc_hb0 (f : Nat) (hf : f < 1000) (M : mm_H) : mm_R 153 0 [some (.int 0), some (.int (nI f))] [] M (some (.int (nI (khold 0 f))), M) := by
  refine mr_seg 5 (pc1 := 56) (ls1 := [some (.int 0), some (.int (nI f))]) (st1 := [.int ((nI f) + 6)]) (M1 := M) (fun f => rfl) ?_
  refine mr_v (nI_add f 6) ?_
  refine mr_eq (mr_ret 1 (o := (some (.int (nI (f + 6))), M)) (fun f => rfl)) ?_
  rfl
set_option maxRecDepth 100000 in
theorem rc_hb1 (f : Nat) (hf : f < 1000) (M : mm_H) : mm_R 153 0 [some (.int 1), some (.int (nI f))] [] M (some (.int (nI (khold 1 f))), M) := by
  refine mr_seg 5 (pc1 := 40) (ls1 := [some (.int 1), some (.int (nI f))]) (st1 := [.int ((nI f) + 8)]) (M1 := M) (fun f => rfl) ?_
  refine mr_v (nI_add f 8) ?_
  refine mr_eq (mr_ret 1 (o := (some (.int (nI (f + 8))), M)) (fun f => rfl)) ?_
  rfl
set_option maxRecDepth 100000 in
theorem rc_hb2 (f : Nat) (hf : f < 1000) (M : mm_H) : mm_R 153 0 [some (.int 2), some (.int (nI f))] [] M (some (.int (nI (khold 2 f))), M) := by
  refine mr_seg 5 (pc1 := 56) (ls1 := [some (.int 2), some (.int (nI f))]) (st1 := [.int ((nI f) + 6)]) (M1 := M) (fun f => rfl) ?_
  refine mr_v (nI_add f 6) ?_
  refine mr_eq (mr_ret 1 (o := (some (.int (nI (f + 6))), M)) (fun f => rfl)) ?_
  rfl
set_option maxRecDepth 100000 in
theorem rc_hb3 (f : Nat) (hf : f < 1000) (M : mm_H) : mm_R 153 0 [some (.int 3), some (.int (nI f))] [] M (some (.int (nI (khold 3 f))), M) := by
  refine mr_seg 5 (pc1 := 44) (ls1 := [some (.int 3), some (.int (nI f))]) (st1 := [.int ((nI f) + 5)]) (M1 := M) (fun f => rfl) ?_
  refine mr_v (nI_add f 5) ?_
  refine mr_eq (mr_ret 1 (o := (some (.int (nI (f + 5))), M)) (fun f => rfl)) ?_
  rfl
set_option maxRecDepth 100000 in
theorem rc_hb4 (f : Nat) (hf : f < 1000) (M : mm_H) : mm_R 153 0 [some (.int 4), some (.int (nI f))] [] M (some (.int (nI (khold 4 f))), M) := by
  refine mr_seg 6 (pc1 := 50) (ls1 := [some (.int 4), some (.int (nI f))]) (st1 := [.int ((nI f) + 8), .int 2]) (M1 := M) (fun f => rfl) ?_
  refine mr_v (nI_add f 8) ?_
  refine mr_seg 1 (pc1 := 51) (ls1 := [some (.int 4), some (.int (nI f))]) (st1 := [.int (2 * (nI (f + 8)))]) (M1 := M) (fun f => rfl) ?_
  refine mr_v (pk_mul 2 (f + 8)) ?_
  refine mr_eq (mr_ret 1 (o := (some (.int (nI (2 * (f + 8)))), M)) (fun f => rfl)) ?_
  rfl
set_option maxRecDepth 100000 in
theorem rc_hb5 (f : Nat) (hf : f < 1000) (M : mm_H) : mm_R 153 0 [some (.int 5), some (.int (nI f))] [] M (some (.int (nI (khold 5 f))), M) := by
  refine mr_seg 5 (pc1 := 40) (ls1 := [some (.int 5), some (.int (nI f))]) (st1 := [.int ((nI f) + 8)]) (M1 := M) (fun f => rfl) ?_
  refine mr_v (nI_add f 8) ?_
  refine mr_eq (mr_ret 1 (o := (some (.int (nI (f + 8))), M)) (fun f => rfl)) ?_
  rfl
set_option maxRecDepth 100000 in
theorem rc_sgn_m (he ke ki fi fa or : List Nat) (mi a g l w s : Nat) (ha : a < 25) (hg : g < 25) : mm_R 148 0 [some (.ref 140), none, none] [] (rSm (er (he, ke, ki, fi, fa, or, mi, a, g, l, w, s))) (some (.int (kS9 a g)), rSm (er (he, ke, ki, fi, fa, or, mi, a, g, l, w, s))) := by
  refine mr_seg 2 (pc1 := 2) (ls1 := [some (.ref 140), none, none]) (st1 := [.int 2, .ref 140]) (M1 := (rSm (er (he, ke, ki, fi, fa, or, mi, a, g, l, w, s)))) (fun f => rfl) ?_
  refine mr_ldn (xs := (er (he, ke, ki, fi, fa, or, mi, a, g, l, w, s))) rfl rfl (k := 2) (by decide) rfl ?_
  refine mr_seg 3 (pc1 := 6) (ls1 := [some (.ref 140), some (.int (nI a)), none]) (st1 := [.int 3, .ref 140]) (M1 := (rSm (er (he, ke, ki, fi, fa, or, mi, a, g, l, w, s)))) (fun f => rfl) ?_
  refine mr_ldn (xs := (er (he, ke, ki, fi, fa, or, mi, a, g, l, w, s))) rfl rfl (k := 3) (by decide) rfl ?_
  refine mr_seg 4 (pc1 := 11) (ls1 := [some (.ref 140), some (.int (nI a)), some (.int (nI g))]) (st1 := [.int ((nI a) / 5)]) (M1 := (rSm (er (he, ke, ki, fi, fa, or, mi, a, g, l, w, s)))) (fun f => rfl) ?_
  refine mr_v (pk_div (a := a) (d := 5) (by omega) (by decide) (by decide)) ?_
  refine mr_seg 3 (pc1 := 14) (ls1 := [some (.ref 140), some (.int (nI a)), some (.int (nI g))]) (st1 := [.int ((nI g) / 5), .int (nI (a / 5))]) (M1 := (rSm (er (he, ke, ki, fi, fa, or, mi, a, g, l, w, s)))) (fun f => rfl) ?_
  refine mr_v (pk_div (a := g) (d := 5) (by omega) (by decide) (by decide)) ?_
  refine mr_ifN (C := (nI (a / 5)) = (nI (g / 5))) (nI_eqi (a := a / 5) (b := g / 5) (by omega)) (fun f => rfl) (fun h1 => ?_) (fun h1 => ?_)
  · refine mr_seg 2 (pc1 := 30) (ls1 := [some (.ref 140), some (.int (nI a)), some (.int (nI g))]) (st1 := [.int (nI g), .int (nI a)]) (M1 := (rSm (er (he, ke, ki, fi, fa, or, mi, a, g, l, w, s)))) (fun f => rfl) ?_
    refine mr_ifN (C := (nI a) = (nI g)) (nI_eqi (a := a) (b := g) (by omega)) (fun f => rfl) (fun h2 => ?_) (fun h2 => ?_)
    · refine mr_eq (mr_ret 3 (o := (some (.int (-9)), (rSm (er (he, ke, ki, fi, fa, or, mi, a, g, l, w, s))))) (fun f => rfl)) ?_
      first
        | rw [kS9_9 (a := a) (g := g) (by omega)]
        | rw [kS9_0 (a := a) (g := g) (by omega)]
        | rw [kS9_2 (a := a) (g := g) (by omega) (by omega)]
        | rw [kS9_3 (a := a) (g := g) (by omega) (by omega) (by omega)]
        | rw [kS9_1 (a := a) (g := g) (by omega) (by omega) (by omega)]
    · refine mr_seg 2 (pc1 := 40) (ls1 := [some (.ref 140), some (.int (nI a)), some (.int (nI g))]) (st1 := [.int (nI a), .int (nI g)]) (M1 := (rSm (er (he, ke, ki, fi, fa, or, mi, a, g, l, w, s)))) (fun f => rfl) ?_
      refine mr_ifN (C := (nI g) ≤ (nI a)) (nI_lei (a := g) (b := a) (by omega)) (fun f => rfl) (fun h3 => ?_) (fun h3 => ?_)
      · refine mr_eq (mr_ret 2 (o := (some (.int 3), (rSm (er (he, ke, ki, fi, fa, or, mi, a, g, l, w, s))))) (fun f => rfl)) ?_
        first
          | rw [kS9_9 (a := a) (g := g) (by omega)]
          | rw [kS9_0 (a := a) (g := g) (by omega)]
          | rw [kS9_2 (a := a) (g := g) (by omega) (by omega)]
          | rw [kS9_3 (a := a) (g := g) (by omega) (by omega) (by omega)]
          | rw [kS9_1 (a := a) (g := g) (by omega) (by omega) (by omega)]
      · refine mr_eq (mr_ret 3 (o := (some (.int 1), (rSm (er (he, ke, ki, fi, fa, or, mi, a, g, l, w, s))))) (fun f => rfl)) ?_
        first
          | rw [kS9_9 (a := a) (g := g) (by omega)]
          | rw [kS9_0 (a := a) (g := g) (by omega)]
          | rw [kS9_2 (a := a) (g := g) (by omega) (by omega)]
          | rw [kS9_3 (a := a) (g := g) (by omega) (by omega) (by omega)]
          | rw [kS9_1 (a := a) (g := g) (by omega) (by omega) (by omega)]
  · refine mr_seg 2 (pc1 := 19) (ls1 := [some (.ref 140), some (.int (nI a)), some (.int (nI g))]) (st1 := [.int (nI a), .int (nI g)]) (M1 := (rSm (er (he, ke, ki, fi, fa, or, mi, a, g, l, w, s)))) (fun f => rfl) ?_
    refine mr_ifN (C := (nI a) ≤ (nI g)) (nI_lei (a := a) (b := g) (by omega)) (fun f => rfl) (fun h4 => ?_) (fun h4 => ?_)
    · refine mr_eq (mr_ret 2 (o := (some (.int 2), (rSm (er (he, ke, ki, fi, fa, or, mi, a, g, l, w, s))))) (fun f => rfl)) ?_
      first
        | rw [kS9_9 (a := a) (g := g) (by omega)]
        | rw [kS9_0 (a := a) (g := g) (by omega)]
        | rw [kS9_2 (a := a) (g := g) (by omega) (by omega)]
        | rw [kS9_3 (a := a) (g := g) (by omega) (by omega) (by omega)]
        | rw [kS9_1 (a := a) (g := g) (by omega) (by omega) (by omega)]
    · refine mr_eq (mr_ret 3 (o := (some (.int 0), (rSm (er (he, ke, ki, fi, fa, or, mi, a, g, l, w, s))))) (fun f => rfl)) ?_
      first
        | rw [kS9_9 (a := a) (g := g) (by omega)]
        | rw [kS9_0 (a := a) (g := g) (by omega)]
        | rw [kS9_2 (a := a) (g := g) (by omega) (by omega)]
        | rw [kS9_3 (a := a) (g := g) (by omega) (by omega) (by omega)]
        | rw [kS9_1 (a := a) (g := g) (by omega) (by omega) (by omega)]
theorem rc_sgn2_m (he ke ki fi fa or : List Nat) (mi a g l w s : Nat) (ha : a < 25) (hg : g < 25) (hne : ¬ a = g) : mm_R 148 0 [some (.ref 140), none, none] [] (rSm (er (he, ke, ki, fi, fa, or, mi, a, g, l, w, s))) (some (.int (nI (ksgn a g))), rSm (er (he, ke, ki, fi, fa, or, mi, a, g, l, w, s))) := mr_eq (rc_sgn_m he ke ki fi fa or mi a g l w s ha hg) (by unfold kS9; rw [if_neg hne])
theorem rc_hbx (k f : Nat) (hk : k ≤ 5) (hf : f < 1000) (M : mm_H) : mm_R 153 0 [some (.int (nI k)), some (.int (nI f))] [] M (some (.int (nI (khold k f))), M) := by
  rcases k6 hk with h | h | h | h | h | h
  · subst h; exact rc_hb0 f hf M
  · subst h; exact rc_hb1 f hf M
  · subst h; exact rc_hb2 f hf M
  · subst h; exact rc_hb3 f hf M
  · subst h; exact rc_hb4 f hf M
  · subst h; exact rc_hb5 f hf M
set_option maxRecDepth 100000 in
theorem rc_hold_m (he ke ki fi fa or : List Nat) (mi a g l w s : Nat) (p : Nat) (hp : p < 5) (hV : kV (he, ke, ki, fi, fa, or, mi, a, g, l, w, s)) : mm_R 152 0 [some (.ref 140), some (.int (nI p))] [] (rSm (er (he, ke, ki, fi, fa, or, mi, a, g, l, w, s))) (some (.int (nI (khold (kg ki p) (kg fi p)))), rSm (er (he, ke, ki, fi, fa, or, mi, a, g, l, w, s))) := by
  obtain ⟨v1, v2, v3, v4, v5, v6, v7, v8, v9, v10, v11, v12, v13, v14, v15, v16⟩ := hV
  have v6l := kO_len mi v7 or v6
  have w14 := v14 p
  have w15 := v15 p
  refine mr_seg 3 (pc1 := 3) (ls1 := [some (.ref 140), some (.int (nI p))]) (st1 := [.int 0, .int (nI p), .ref 140]) (M1 := (rSm (er (he, ke, ki, fi, fa, or, mi, a, g, l, w, s)))) (fun f => rfl) ?_
  refine mr_call (y := 141) (y0 := 6) (L := [some (.int (nI p)), some (.int 0)]) (rest := [.ref 140]) (rr := some (.int (nI (32 + 3 * p + 0)))) (M1 := (rSm (er (he, ke, ki, fi, fa, or, mi, a, g, l, w, s)))) (fun f => rfl) (rc_of p 0 (by omega) (by decide) _) ?_
  refine mr_ldn (xs := (er (he, ke, ki, fi, fa, or, mi, a, g, l, w, s))) rfl rfl (k := 32 + 3 * p + 0) (by omega) (er_ki (K := (he, ke, ki, fi, fa, or, mi, a, g, l, w, s)) v1 (by omega)) ?_
  refine mr_seg 3 (pc1 := 10) (ls1 := [some (.ref 140), some (.int (nI p))]) (st1 := [.int 1, .int (nI p), .ref 140, .int (nI (kg ki p))]) (M1 := (rSm (er (he, ke, ki, fi, fa, or, mi, a, g, l, w, s)))) (fun f => rfl) ?_
  refine mr_call (y := 141) (y0 := 13) (L := [some (.int (nI p)), some (.int 1)]) (rest := [.ref 140, .int (nI (kg ki p))]) (rr := some (.int (nI (32 + 3 * p + 1)))) (M1 := (rSm (er (he, ke, ki, fi, fa, or, mi, a, g, l, w, s)))) (fun f => rfl) (rc_of p 1 (by omega) (by decide) _) ?_
  refine mr_ldn (xs := (er (he, ke, ki, fi, fa, or, mi, a, g, l, w, s))) rfl rfl (k := 32 + 3 * p + 1) (by omega) (er_fi (K := (he, ke, ki, fi, fa, or, mi, a, g, l, w, s)) v1 (by omega)) ?_
  refine mr_call (y := 153) (y0 := 17) (L := [some (.int (nI (kg ki p))), some (.int (nI (kg fi p)))]) (rest := []) (rr := some (.int (nI (khold (kg ki p) (kg fi p))))) (M1 := (rSm (er (he, ke, ki, fi, fa, or, mi, a, g, l, w, s)))) (fun f => rfl) (rc_hbx (kg ki p) (kg fi p) w14 (by omega) _) ?_
  exact mr_ret 1 (fun f => rfl)
set_option maxRecDepth 100000 in
theorem rc_load_m (he ke ki fi fa or : List Nat) (mi a g l w s : Nat) (c : Nat) (hc : c < 25) (hV : kV (he, ke, ki, fi, fa, or, mi, a, g, l, w, s)) : mm_R 150 0 [some (.ref 140), some (.int (nI c)), none] [] (rSm (er (he, ke, ki, fi, fa, or, mi, a, g, l, w, s))) (some (.int (nI (kload he ke a w c))), rSm (er (he, ke, ki, fi, fa, or, mi, a, g, l, w, s))) := by
  obtain ⟨v1, v2, v3, v4, v5, v6, v7, v8, v9, v10, v11, v12, v13, v14, v15, v16⟩ := hV
  have v6l := kO_len mi v7 or v6
  have q1 := v12 c
  have q2 := v12 a
  have q3 := v13 c
  refine mr_seg 4 (pc1 := 5) (ls1 := [some (.ref 140), some (.int (nI c)), none]) (st1 := [.int (7 + (nI c)), .ref 140]) (M1 := (rSm (er (he, ke, ki, fi, fa, or, mi, a, g, l, w, s)))) (fun f => rfl) ?_
  refine mr_v (nI_add 7 c) ?_
  refine mr_ldn (xs := (er (he, ke, ki, fi, fa, or, mi, a, g, l, w, s))) rfl rfl (k := 7 + c) (by omega) (er_h (K := (he, ke, ki, fi, fa, or, mi, a, g, l, w, s)) v1 (by omega)) ?_
  refine mr_seg 4 (pc1 := 11) (ls1 := [some (.ref 140), some (.int (nI c)), none]) (st1 := [.int 2, .ref 140, .int 7, .ref 140, .int (nI (kg he c))]) (M1 := (rSm (er (he, ke, ki, fi, fa, or, mi, a, g, l, w, s)))) (fun f => rfl) ?_
  refine mr_ldn (xs := (er (he, ke, ki, fi, fa, or, mi, a, g, l, w, s))) rfl rfl (k := 2) (by decide) rfl ?_
  refine mr_seg 1 (pc1 := 13) (ls1 := [some (.ref 140), some (.int (nI c)), none]) (st1 := [.int (7 + (nI a)), .ref 140, .int (nI (kg he c))]) (M1 := (rSm (er (he, ke, ki, fi, fa, or, mi, a, g, l, w, s)))) (fun f => rfl) ?_
  refine mr_v (nI_add 7 a) ?_
  refine mr_ldn (xs := (er (he, ke, ki, fi, fa, or, mi, a, g, l, w, s))) rfl rfl (k := 7 + a) (by omega) (er_h (K := (he, ke, ki, fi, fa, or, mi, a, g, l, w, s)) v1 (by omega)) ?_
  refine mr_seg 4 (pc1 := 18) (ls1 := [some (.ref 140), some (.int (nI c)), some (.int ((nI (kg he c)) - (nI (kg he a))))]) (st1 := [.int 5, .ref 140]) (M1 := (rSm (er (he, ke, ki, fi, fa, or, mi, a, g, l, w, s)))) (fun f => rfl) ?_
  refine mr_ldn (xs := (er (he, ke, ki, fi, fa, or, mi, a, g, l, w, s))) rfl rfl (k := 5) (by decide) rfl ?_
  refine mr_seg 1 (pc1 := 20) (ls1 := [some (.ref 140), some (.int (nI c)), some (.int ((nI (kg he c)) - (nI (kg he a))))]) (st1 := [.int ((nI (kg he c)) - (nI (kg he a))), .int (nI w)]) (M1 := (rSm (er (he, ke, ki, fi, fa, or, mi, a, g, l, w, s)))) (fun f => rfl) ?_
  refine mr_ifN (C := ((nI (kg he c)) - (nI (kg he a))) ≤ 0) (k_subg (a := kg he c) (b := kg he a) (by omega) (by omega)) (fun f => rfl) (fun h1 => ?_) (fun h1 => ?_)
  · refine mr_seg 2 (pc1 := 31) (ls1 := [some (.ref 140), some (.int (nI c)), some (.int ((nI (kg he c)) - (nI (kg he a))))]) (st1 := [.int ((nI w) + 0)]) (M1 := (rSm (er (he, ke, ki, fi, fa, or, mi, a, g, l, w, s)))) (fun f => rfl) ?_
    refine mr_v (nI_add w 0) ?_
    refine mr_seg 2 (pc1 := 34) (ls1 := [some (.ref 140), some (.int (nI c)), some (.int ((nI (kg he c)) - (nI (kg he a))))]) (st1 := [.int 6, .ref 140, .int (nI (w + 0))]) (M1 := (rSm (er (he, ke, ki, fi, fa, or, mi, a, g, l, w, s)))) (fun f => rfl) ?_
    refine mr_ldn (xs := (er (he, ke, ki, fi, fa, or, mi, a, g, l, w, s))) rfl rfl (k := 6) (by decide) rfl ?_
    refine mr_seg 1 (pc1 := 36) (ls1 := [some (.ref 140), some (.int (nI c)), some (.int ((nI (kg he c)) - (nI (kg he a))))]) (st1 := [.int (nI c), .int (nI (kbits ke)), .int (nI (w + 0))]) (M1 := (rSm (er (he, ke, ki, fi, fa, or, mi, a, g, l, w, s)))) (fun f => rfl) ?_
    refine mr_call (y := 151) (y0 := 39) (L := [some (.int (nI (kbits ke))), some (.int (nI c))]) (rest := [.int (nI (w + 0))]) (rr := some (.int (nI (kg ke c)))) (M1 := (rSm (er (he, ke, ki, fi, fa, or, mi, a, g, l, w, s)))) (fun f => rfl) (rc_has ke c hc v2 v13 _) ?_
    refine mr_ifN (C := (nI (kg ke c)) = 0) (nI_eqi (a := kg ke c) (b := 0) (by omega)) (fun f => rfl) (fun h2 => ?_) (fun h2 => ?_)
    · refine mr_seg 2 (pc1 := 48) (ls1 := [some (.ref 140), some (.int (nI c)), some (.int ((nI (kg he c)) - (nI (kg he a))))]) (st1 := [.int ((nI (w + 0)) + 0)]) (M1 := (rSm (er (he, ke, ki, fi, fa, or, mi, a, g, l, w, s)))) (fun f => rfl) ?_
      refine mr_v (nI_add (w + 0) 0) ?_
      refine mr_eq (mr_ret 1 (o := (some (.int (nI (w + 0 + 0))), (rSm (er (he, ke, ki, fi, fa, or, mi, a, g, l, w, s))))) (fun f => rfl)) ?_
      rw [show kload he ke a w c = w + 0 + 0 by unfold kload; omega]
    · refine mr_seg 3 (pc1 := 48) (ls1 := [some (.ref 140), some (.int (nI c)), some (.int ((nI (kg he c)) - (nI (kg he a))))]) (st1 := [.int ((nI (w + 0)) + 4)]) (M1 := (rSm (er (he, ke, ki, fi, fa, or, mi, a, g, l, w, s)))) (fun f => rfl) ?_
      refine mr_v (nI_add (w + 0) 4) ?_
      refine mr_eq (mr_ret 1 (o := (some (.int (nI (w + 0 + 4))), (rSm (er (he, ke, ki, fi, fa, or, mi, a, g, l, w, s))))) (fun f => rfl)) ?_
      rw [show kload he ke a w c = w + 0 + 4 by unfold kload; omega]
  · refine mr_seg 3 (pc1 := 26) (ls1 := [some (.ref 140), some (.int (nI c)), some (.int ((nI (kg he c)) - (nI (kg he a))))]) (st1 := [.int (3 * ((nI (kg he c)) - (nI (kg he a)))), .int (nI w)]) (M1 := (rSm (er (he, ke, ki, fi, fa, or, mi, a, g, l, w, s)))) (fun f => rfl) ?_
    refine mr_v (show (3 : Int32) * (nI (kg he c) - nI (kg he a)) = nI (3 * ((kg he c) - (kg he a))) by rw [pk_sub (a := kg he c) (b := kg he a) (by omega)]; exact pk_mul 3 ((kg he c) - (kg he a))) ?_
    refine mr_seg 2 (pc1 := 31) (ls1 := [some (.ref 140), some (.int (nI c)), some (.int ((nI (kg he c)) - (nI (kg he a))))]) (st1 := [.int ((nI w) + (nI (3 * ((kg he c) - (kg he a)))))]) (M1 := (rSm (er (he, ke, ki, fi, fa, or, mi, a, g, l, w, s)))) (fun f => rfl) ?_
    refine mr_v (nI_add w (3 * ((kg he c) - (kg he a)))) ?_
    refine mr_seg 2 (pc1 := 34) (ls1 := [some (.ref 140), some (.int (nI c)), some (.int ((nI (kg he c)) - (nI (kg he a))))]) (st1 := [.int 6, .ref 140, .int (nI (w + 3 * ((kg he c) - (kg he a))))]) (M1 := (rSm (er (he, ke, ki, fi, fa, or, mi, a, g, l, w, s)))) (fun f => rfl) ?_
    refine mr_ldn (xs := (er (he, ke, ki, fi, fa, or, mi, a, g, l, w, s))) rfl rfl (k := 6) (by decide) rfl ?_
    refine mr_seg 1 (pc1 := 36) (ls1 := [some (.ref 140), some (.int (nI c)), some (.int ((nI (kg he c)) - (nI (kg he a))))]) (st1 := [.int (nI c), .int (nI (kbits ke)), .int (nI (w + 3 * ((kg he c) - (kg he a))))]) (M1 := (rSm (er (he, ke, ki, fi, fa, or, mi, a, g, l, w, s)))) (fun f => rfl) ?_
    refine mr_call (y := 151) (y0 := 39) (L := [some (.int (nI (kbits ke))), some (.int (nI c))]) (rest := [.int (nI (w + 3 * ((kg he c) - (kg he a))))]) (rr := some (.int (nI (kg ke c)))) (M1 := (rSm (er (he, ke, ki, fi, fa, or, mi, a, g, l, w, s)))) (fun f => rfl) (rc_has ke c hc v2 v13 _) ?_
    refine mr_ifN (C := (nI (kg ke c)) = 0) (nI_eqi (a := kg ke c) (b := 0) (by omega)) (fun f => rfl) (fun h3 => ?_) (fun h3 => ?_)
    · refine mr_seg 2 (pc1 := 48) (ls1 := [some (.ref 140), some (.int (nI c)), some (.int ((nI (kg he c)) - (nI (kg he a))))]) (st1 := [.int ((nI (w + 3 * ((kg he c) - (kg he a)))) + 0)]) (M1 := (rSm (er (he, ke, ki, fi, fa, or, mi, a, g, l, w, s)))) (fun f => rfl) ?_
      refine mr_v (nI_add (w + 3 * ((kg he c) - (kg he a))) 0) ?_
      refine mr_eq (mr_ret 1 (o := (some (.int (nI (w + 3 * ((kg he c) - (kg he a)) + 0))), (rSm (er (he, ke, ki, fi, fa, or, mi, a, g, l, w, s))))) (fun f => rfl)) ?_
      rw [show kload he ke a w c = w + 3 * ((kg he c) - (kg he a)) + 0 by unfold kload; omega]
    · refine mr_seg 3 (pc1 := 48) (ls1 := [some (.ref 140), some (.int (nI c)), some (.int ((nI (kg he c)) - (nI (kg he a))))]) (st1 := [.int ((nI (w + 3 * ((kg he c) - (kg he a)))) + 4)]) (M1 := (rSm (er (he, ke, ki, fi, fa, or, mi, a, g, l, w, s)))) (fun f => rfl) ?_
      refine mr_v (nI_add (w + 3 * ((kg he c) - (kg he a))) 4) ?_
      refine mr_eq (mr_ret 1 (o := (some (.int (nI (w + 3 * ((kg he c) - (kg he a)) + 4))), (rSm (er (he, ke, ki, fi, fa, or, mi, a, g, l, w, s))))) (fun f => rfl)) ?_
      rw [show kload he ke a w c = w + 3 * ((kg he c) - (kg he a)) + 4 by unfold kload; omega]
set_option maxRecDepth 100000 in
theorem rc_wo0_0_m (he ke ki fi fa or : List Nat) (mi a g l w s : Nat) (p st : Nat) (hp : p < 5) (hst : st < 2 ^ 31) (hV : kV (he, ke, ki, fi, fa, or, mi, a, g, l, w, s)) (hb : kbey a l = none) (hk : kg ki p = 0) : mm_R 147 48 [some (.ref 140), some (.int (nI p)), some (.int (nI st)), some (.int (nI (ksgn a g))), some (.int (nI (kleft (ksgn a g) st))), some (.int 0)] [.int 0] (rSm (er (he, ke, ki, fi, fa, or, mi, a, g, l, w, s))) (some (.int (nI (kway (kg ki p) a (ksgn a g) l st))), rSm (er (he, ke, ki, fi, fa, or, mi, a, g, l, w, s))) := by
  obtain ⟨v1, v2, v3, v4, v5, v6, v7, v8, v9, v10, v11, v12, v13, v14, v15, v16⟩ := hV
  have v6l := kO_len mi v7 or v6
  have hsg := ksgn_lt a g
  have hkl := kleft_lt (st := st) hsg
  have w14 := v14 p
  refine mr_eq (mr_ret 3 (o := (some (.int (nI (ksgn a g))), (rSm (er (he, ke, ki, fi, fa, or, mi, a, g, l, w, s))))) (fun f => rfl)) ?_
  rw [hk, kway_0]
set_option maxRecDepth 100000 in
theorem rc_wo0_1_m (he ke ki fi fa or : List Nat) (mi a g l w s : Nat) (p st : Nat) (hp : p < 5) (hst : st < 2 ^ 31) (hV : kV (he, ke, ki, fi, fa, or, mi, a, g, l, w, s)) (hb : kbey a l = none) (hk : kg ki p = 1) : mm_R 147 48 [some (.ref 140), some (.int (nI p)), some (.int (nI st)), some (.int (nI (ksgn a g))), some (.int (nI (kleft (ksgn a g) st))), some (.int 0)] [.int 1] (rSm (er (he, ke, ki, fi, fa, or, mi, a, g, l, w, s))) (some (.int (nI (kway (kg ki p) a (ksgn a g) l st))), rSm (er (he, ke, ki, fi, fa, or, mi, a, g, l, w, s))) := by
  obtain ⟨v1, v2, v3, v4, v5, v6, v7, v8, v9, v10, v11, v12, v13, v14, v15, v16⟩ := hV
  have v6l := kO_len mi v7 or v6
  have hsg := ksgn_lt a g
  have hkl := kleft_lt (st := st) hsg
  have w14 := v14 p
  refine mr_eq (mr_ret 3 (o := (some (.int (nI (kleft (ksgn a g) st))), (rSm (er (he, ke, ki, fi, fa, or, mi, a, g, l, w, s))))) (fun f => rfl)) ?_
  rw [hk, show kway 1 a (ksgn a g) l st = kleft (ksgn a g) st from rfl]
set_option maxRecDepth 100000 in
theorem rc_wo0_2_m (he ke ki fi fa or : List Nat) (mi a g l w s : Nat) (p st : Nat) (hp : p < 5) (hst : st < 2 ^ 31) (hV : kV (he, ke, ki, fi, fa, or, mi, a, g, l, w, s)) (hb : kbey a l = none) (hk : kg ki p = 2) : mm_R 147 48 [some (.ref 140), some (.int (nI p)), some (.int (nI st)), some (.int (nI (ksgn a g))), some (.int (nI (kleft (ksgn a g) st))), some (.int 0)] [.int 2] (rSm (er (he, ke, ki, fi, fa, or, mi, a, g, l, w, s))) (some (.int (nI (kway (kg ki p) a (ksgn a g) l st))), rSm (er (he, ke, ki, fi, fa, or, mi, a, g, l, w, s))) := by
  obtain ⟨v1, v2, v3, v4, v5, v6, v7, v8, v9, v10, v11, v12, v13, v14, v15, v16⟩ := hV
  have v6l := kO_len mi v7 or v6
  have hsg := ksgn_lt a g
  have hkl := kleft_lt (st := st) hsg
  have w14 := v14 p
  refine mr_eq (mr_ret 5 (o := (some (.int (nI (ksgn a g))), (rSm (er (he, ke, ki, fi, fa, or, mi, a, g, l, w, s))))) (fun f => rfl)) ?_
  rw [hk, kway_2]
  by_cases q : st % 4 = 0
  · rw [if_pos q]
  · rw [if_neg q, if_pos hb]
set_option maxRecDepth 100000 in
theorem rc_wo0_3_m (he ke ki fi fa or : List Nat) (mi a g l w s : Nat) (p st : Nat) (hp : p < 5) (hst : st < 2 ^ 31) (hV : kV (he, ke, ki, fi, fa, or, mi, a, g, l, w, s)) (hb : kbey a l = none) (hk : kg ki p = 3) : mm_R 147 48 [some (.ref 140), some (.int (nI p)), some (.int (nI st)), some (.int (nI (ksgn a g))), some (.int (nI (kleft (ksgn a g) st))), some (.int 0)] [.int 3] (rSm (er (he, ke, ki, fi, fa, or, mi, a, g, l, w, s))) (some (.int (nI (kway (kg ki p) a (ksgn a g) l st))), rSm (er (he, ke, ki, fi, fa, or, mi, a, g, l, w, s))) := by
  obtain ⟨v1, v2, v3, v4, v5, v6, v7, v8, v9, v10, v11, v12, v13, v14, v15, v16⟩ := hV
  have v6l := kO_len mi v7 or v6
  have hsg := ksgn_lt a g
  have hkl := kleft_lt (st := st) hsg
  have w14 := v14 p
  refine mr_eq (mr_ret 5 (o := (some (.int (nI (ksgn a g))), (rSm (er (he, ke, ki, fi, fa, or, mi, a, g, l, w, s))))) (fun f => rfl)) ?_
  rw [hk, kway_3, if_pos hb]
set_option maxRecDepth 100000 in
theorem rc_wo0_4_m (he ke ki fi fa or : List Nat) (mi a g l w s : Nat) (p st : Nat) (hp : p < 5) (hst : st < 2 ^ 31) (hV : kV (he, ke, ki, fi, fa, or, mi, a, g, l, w, s)) (hb : kbey a l = none) (hk : kg ki p = 4) : mm_R 147 48 [some (.ref 140), some (.int (nI p)), some (.int (nI st)), some (.int (nI (ksgn a g))), some (.int (nI (kleft (ksgn a g) st))), some (.int 0)] [.int 4] (rSm (er (he, ke, ki, fi, fa, or, mi, a, g, l, w, s))) (some (.int (nI (kway (kg ki p) a (ksgn a g) l st))), rSm (er (he, ke, ki, fi, fa, or, mi, a, g, l, w, s))) := by
  obtain ⟨v1, v2, v3, v4, v5, v6, v7, v8, v9, v10, v11, v12, v13, v14, v15, v16⟩ := hV
  have v6l := kO_len mi v7 or v6
  have hsg := ksgn_lt a g
  have hkl := kleft_lt (st := st) hsg
  have w14 := v14 p
  refine mr_eq (mr_ret 3 (o := (some (.int (nI (ksgn a g))), (rSm (er (he, ke, ki, fi, fa, or, mi, a, g, l, w, s))))) (fun f => rfl)) ?_
  rw [hk, kway_4]
set_option maxRecDepth 100000 in
theorem rc_wo0_5_m (he ke ki fi fa or : List Nat) (mi a g l w s : Nat) (p st : Nat) (hp : p < 5) (hst : st < 2 ^ 31) (hV : kV (he, ke, ki, fi, fa, or, mi, a, g, l, w, s)) (hb : kbey a l = none) (hk : kg ki p = 5) : mm_R 147 48 [some (.ref 140), some (.int (nI p)), some (.int (nI st)), some (.int (nI (ksgn a g))), some (.int (nI (kleft (ksgn a g) st))), some (.int 0)] [.int 5] (rSm (er (he, ke, ki, fi, fa, or, mi, a, g, l, w, s))) (some (.int (nI (kway (kg ki p) a (ksgn a g) l st))), rSm (er (he, ke, ki, fi, fa, or, mi, a, g, l, w, s))) := by
  obtain ⟨v1, v2, v3, v4, v5, v6, v7, v8, v9, v10, v11, v12, v13, v14, v15, v16⟩ := hV
  have v6l := kO_len mi v7 or v6
  have hsg := ksgn_lt a g
  have hkl := kleft_lt (st := st) hsg
  have w14 := v14 p
  refine mr_seg 3 (pc1 := 121) (ls1 := [some (.ref 140), some (.int (nI p)), some (.int (nI st)), some (.int (nI (ksgn a g))), some (.int (nI (kleft (ksgn a g) st))), some (.int 0)]) (st1 := [.int 2, .ref 140]) (M1 := (rSm (er (he, ke, ki, fi, fa, or, mi, a, g, l, w, s)))) (fun f => rfl) ?_
  refine mr_ldn (xs := (er (he, ke, ki, fi, fa, or, mi, a, g, l, w, s))) rfl rfl (k := 2) (by decide) rfl ?_
  refine mr_seg 3 (pc1 := 126) (ls1 := [some (.ref 140), some (.int (nI p)), some (.int (nI st)), some (.int (nI (ksgn a g))), some (.int (nI (kleft (ksgn a g) st))), some (.int 0)]) (st1 := [.int ((nI (kleft (ksgn a g) st)) + 2), .int (nI a)]) (M1 := (rSm (er (he, ke, ki, fi, fa, or, mi, a, g, l, w, s)))) (fun f => rfl) ?_
  refine mr_v (nI_add (kleft (ksgn a g) st) 2) ?_
  refine mr_seg 2 (pc1 := 128) (ls1 := [some (.ref 140), some (.int (nI p)), some (.int (nI st)), some (.int (nI (ksgn a g))), some (.int (nI (kleft (ksgn a g) st))), some (.int 0)]) (st1 := [.int ((nI (kleft (ksgn a g) st + 2)) - (nI (kleft (ksgn a g) st + 2)) / 4 * 4), .int (nI a)]) (M1 := (rSm (er (he, ke, ki, fi, fa, or, mi, a, g, l, w, s)))) (fun f => rfl) ?_
  refine mr_v (pk_rem (a := kleft (ksgn a g) st + 2) (d := 4) (by omega) (by decide) (by decide)) ?_
  refine mr_call (y := 149) (y0 := 131) (L := [some (.int (nI a)), some (.int (nI ((kleft (ksgn a g) st + 2) % 4)))]) (rest := []) (rr := some (.int (kI (kbey a ((kleft (ksgn a g) st + 2) % 4))))) (M1 := (rSm (er (he, ke, ki, fi, fa, or, mi, a, g, l, w, s)))) (fun f => rfl) (rc_bey (c := a) (w := (kleft (ksgn a g) st + 2) % 4) (by omega) (by omega) _) ?_
  refine mr_ifN (C := (kI (kbey a ((kleft (ksgn a g) st + 2) % 4))) < 0) (kI_l0 (by omega)) (fun f => rfl) (fun h1 => ?_) (fun h1 => ?_)
  · refine mr_eq (mr_ret 2 (o := (some (.int (nI (kleft (ksgn a g) st))), (rSm (er (he, ke, ki, fi, fa, or, mi, a, g, l, w, s))))) (fun f => rfl)) ?_
    rw [hk, kway_5]
    rw [show kway 1 a (ksgn a g) l st = kleft (ksgn a g) st from rfl, if_pos h1]
  · refine mr_seg 3 (pc1 := 138) (ls1 := [some (.ref 140), some (.int (nI p)), some (.int (nI st)), some (.int (nI (ksgn a g))), some (.int (nI (kleft (ksgn a g) st))), some (.int 0)]) (st1 := [.int ((nI (kleft (ksgn a g) st)) + 2)]) (M1 := (rSm (er (he, ke, ki, fi, fa, or, mi, a, g, l, w, s)))) (fun f => rfl) ?_
    refine mr_v (nI_add (kleft (ksgn a g) st) 2) ?_
    refine mr_seg 2 (pc1 := 140) (ls1 := [some (.ref 140), some (.int (nI p)), some (.int (nI st)), some (.int (nI (ksgn a g))), some (.int (nI (kleft (ksgn a g) st))), some (.int 0)]) (st1 := [.int ((nI (kleft (ksgn a g) st + 2)) - (nI (kleft (ksgn a g) st + 2)) / 4 * 4)]) (M1 := (rSm (er (he, ke, ki, fi, fa, or, mi, a, g, l, w, s)))) (fun f => rfl) ?_
    refine mr_v (pk_rem (a := kleft (ksgn a g) st + 2) (d := 4) (by omega) (by decide) (by decide)) ?_
    refine mr_eq (mr_ret 2 (o := (some (.int (nI ((kleft (ksgn a g) st + 2) % 4))), (rSm (er (he, ke, ki, fi, fa, or, mi, a, g, l, w, s))))) (fun f => rfl)) ?_
    rw [hk, kway_5]
    rw [show kway 1 a (ksgn a g) l st = kleft (ksgn a g) st from rfl, if_neg h1]
theorem rc_wo0_x_m (he ke ki fi fa or : List Nat) (mi a g l w s : Nat) (p st : Nat) (hp : p < 5) (hst : st < 2 ^ 31) (hV : kV (he, ke, ki, fi, fa, or, mi, a, g, l, w, s)) (hb : kbey a l = none) : mm_R 147 48 [some (.ref 140), some (.int (nI p)), some (.int (nI st)), some (.int (nI (ksgn a g))), some (.int (nI (kleft (ksgn a g) st))), some (.int 0)] [.int (nI (kg ki p))] (rSm (er (he, ke, ki, fi, fa, or, mi, a, g, l, w, s))) (some (.int (nI (kway (kg ki p) a (ksgn a g) l st))), rSm (er (he, ke, ki, fi, fa, or, mi, a, g, l, w, s))) := by
  have hV0 := hV
  obtain ⟨-, -, -, -, -, -, -, -, -, -, -, -, -, v14, -, -⟩ := hV
  rcases k6 (v14 p) with hk | hk | hk | hk | hk | hk
  · exact mr_v (show nI (kg ki p) = 0 by rw [hk]; rfl) (rc_wo0_0_m he ke ki fi fa or mi a g l w s p st hp hst hV0 hb hk)
  · exact mr_v (show nI (kg ki p) = 1 by rw [hk]; rfl) (rc_wo0_1_m he ke ki fi fa or mi a g l w s p st hp hst hV0 hb hk)
  · exact mr_v (show nI (kg ki p) = 2 by rw [hk]; rfl) (rc_wo0_2_m he ke ki fi fa or mi a g l w s p st hp hst hV0 hb hk)
  · exact mr_v (show nI (kg ki p) = 3 by rw [hk]; rfl) (rc_wo0_3_m he ke ki fi fa or mi a g l w s p st hp hst hV0 hb hk)
  · exact mr_v (show nI (kg ki p) = 4 by rw [hk]; rfl) (rc_wo0_4_m he ke ki fi fa or mi a g l w s p st hp hst hV0 hb hk)
  · exact mr_v (show nI (kg ki p) = 5 by rw [hk]; rfl) (rc_wo0_5_m he ke ki fi fa or mi a g l w s p st hp hst hV0 hb hk)
set_option maxRecDepth 100000 in
theorem rc_wo0_m (he ke ki fi fa or : List Nat) (mi a g l w s : Nat) (p st : Nat) (hp : p < 5) (hst : st < 2 ^ 31) (hV : kV (he, ke, ki, fi, fa, or, mi, a, g, l, w, s)) (hb : kbey a l = none) : mm_R 147 41 [some (.ref 140), some (.int (nI p)), some (.int (nI st)), some (.int (nI (ksgn a g))), some (.int (nI (kleft (ksgn a g) st))), some (.int 0)] [] (rSm (er (he, ke, ki, fi, fa, or, mi, a, g, l, w, s))) (some (.int (nI (kway (kg ki p) a (ksgn a g) l st))), rSm (er (he, ke, ki, fi, fa, or, mi, a, g, l, w, s))) := by
  have hV0 := hV
  obtain ⟨v1, v2, v3, v4, v5, v6, v7, v8, v9, v10, v11, v12, v13, v14, v15, v16⟩ := hV
  have v6l := kO_len mi v7 or v6
  have hsg := ksgn_lt a g
  have hkl := kleft_lt (st := st) hsg
  have w14 := v14 p
  refine mr_seg 3 (pc1 := 44) (ls1 := [some (.ref 140), some (.int (nI p)), some (.int (nI st)), some (.int (nI (ksgn a g))), some (.int (nI (kleft (ksgn a g) st))), some (.int 0)]) (st1 := [.int 0, .int (nI p), .ref 140]) (M1 := (rSm (er (he, ke, ki, fi, fa, or, mi, a, g, l, w, s)))) (fun f => rfl) ?_
  refine mr_call (y := 141) (y0 := 47) (L := [some (.int (nI p)), some (.int 0)]) (rest := [.ref 140]) (rr := some (.int (nI (32 + 3 * p + 0)))) (M1 := (rSm (er (he, ke, ki, fi, fa, or, mi, a, g, l, w, s)))) (fun f => rfl) (rc_of p 0 (by omega) (by decide) _) ?_
  refine mr_ldn (xs := (er (he, ke, ki, fi, fa, or, mi, a, g, l, w, s))) rfl rfl (k := 32 + 3 * p + 0) (by omega) (er_ki (K := (he, ke, ki, fi, fa, or, mi, a, g, l, w, s)) v1 (by omega)) ?_
  exact rc_wo0_x_m he ke ki fi fa or mi a g l w s p st hp hst hV0 hb
set_option maxRecDepth 100000 in
theorem rc_wo1_0_m (he ke ki fi fa or : List Nat) (mi a g l w s : Nat) (p st : Nat) (hp : p < 5) (hst : st < 2 ^ 31) (hV : kV (he, ke, ki, fi, fa, or, mi, a, g, l, w, s)) (hb : ¬ kbey a l = none) (hk : kg ki p = 0) : mm_R 147 48 [some (.ref 140), some (.int (nI p)), some (.int (nI st)), some (.int (nI (ksgn a g))), some (.int (nI (kleft (ksgn a g) st))), some (.int 1)] [.int 0] (rSm (er (he, ke, ki, fi, fa, or, mi, a, g, l, w, s))) (some (.int (nI (kway (kg ki p) a (ksgn a g) l st))), rSm (er (he, ke, ki, fi, fa, or, mi, a, g, l, w, s))) := by
  obtain ⟨v1, v2, v3, v4, v5, v6, v7, v8, v9, v10, v11, v12, v13, v14, v15, v16⟩ := hV
  have v6l := kO_len mi v7 or v6
  have hsg := ksgn_lt a g
  have hkl := kleft_lt (st := st) hsg
  have w14 := v14 p
  refine mr_eq (mr_ret 3 (o := (some (.int (nI (ksgn a g))), (rSm (er (he, ke, ki, fi, fa, or, mi, a, g, l, w, s))))) (fun f => rfl)) ?_
  rw [hk, kway_0]
set_option maxRecDepth 100000 in
theorem rc_wo1_1_m (he ke ki fi fa or : List Nat) (mi a g l w s : Nat) (p st : Nat) (hp : p < 5) (hst : st < 2 ^ 31) (hV : kV (he, ke, ki, fi, fa, or, mi, a, g, l, w, s)) (hb : ¬ kbey a l = none) (hk : kg ki p = 1) : mm_R 147 48 [some (.ref 140), some (.int (nI p)), some (.int (nI st)), some (.int (nI (ksgn a g))), some (.int (nI (kleft (ksgn a g) st))), some (.int 1)] [.int 1] (rSm (er (he, ke, ki, fi, fa, or, mi, a, g, l, w, s))) (some (.int (nI (kway (kg ki p) a (ksgn a g) l st))), rSm (er (he, ke, ki, fi, fa, or, mi, a, g, l, w, s))) := by
  obtain ⟨v1, v2, v3, v4, v5, v6, v7, v8, v9, v10, v11, v12, v13, v14, v15, v16⟩ := hV
  have v6l := kO_len mi v7 or v6
  have hsg := ksgn_lt a g
  have hkl := kleft_lt (st := st) hsg
  have w14 := v14 p
  refine mr_eq (mr_ret 3 (o := (some (.int (nI (kleft (ksgn a g) st))), (rSm (er (he, ke, ki, fi, fa, or, mi, a, g, l, w, s))))) (fun f => rfl)) ?_
  rw [hk, show kway 1 a (ksgn a g) l st = kleft (ksgn a g) st from rfl]
set_option maxRecDepth 100000 in
theorem rc_wo1_2_m (he ke ki fi fa or : List Nat) (mi a g l w s : Nat) (p st : Nat) (hp : p < 5) (hst : st < 2 ^ 31) (hV : kV (he, ke, ki, fi, fa, or, mi, a, g, l, w, s)) (hb : ¬ kbey a l = none) (hk : kg ki p = 2) : mm_R 147 48 [some (.ref 140), some (.int (nI p)), some (.int (nI st)), some (.int (nI (ksgn a g))), some (.int (nI (kleft (ksgn a g) st))), some (.int 1)] [.int 2] (rSm (er (he, ke, ki, fi, fa, or, mi, a, g, l, w, s))) (some (.int (nI (kway (kg ki p) a (ksgn a g) l st))), rSm (er (he, ke, ki, fi, fa, or, mi, a, g, l, w, s))) := by
  obtain ⟨v1, v2, v3, v4, v5, v6, v7, v8, v9, v10, v11, v12, v13, v14, v15, v16⟩ := hV
  have v6l := kO_len mi v7 or v6
  have hsg := ksgn_lt a g
  have hkl := kleft_lt (st := st) hsg
  have w14 := v14 p
  refine mr_seg 6 (pc1 := 95) (ls1 := [some (.ref 140), some (.int (nI p)), some (.int (nI st)), some (.int (nI (ksgn a g))), some (.int (nI (kleft (ksgn a g) st))), some (.int 1)]) (st1 := [.int ((nI st) - (nI st) / 4 * 4)]) (M1 := (rSm (er (he, ke, ki, fi, fa, or, mi, a, g, l, w, s)))) (fun f => rfl) ?_
  refine mr_v (pk_rem (a := st) (d := 4) (by omega) (by decide) (by decide)) ?_
  refine mr_ifN (C := (nI (st % 4)) = 0) (nI_eqi (a := st % 4) (b := 0) (by omega)) (fun f => rfl) (fun h1 => ?_) (fun h1 => ?_)
  · refine mr_eq (mr_ret 2 (o := (some (.int (nI (ksgn a g))), (rSm (er (he, ke, ki, fi, fa, or, mi, a, g, l, w, s))))) (fun f => rfl)) ?_
    rw [hk, kway_2, if_pos h1]
  · refine mr_seg 2 (pc1 := 100) (ls1 := [some (.ref 140), some (.int (nI p)), some (.int (nI st)), some (.int (nI (ksgn a g))), some (.int (nI (kleft (ksgn a g) st))), some (.int 1)]) (st1 := [.int 4, .ref 140]) (M1 := (rSm (er (he, ke, ki, fi, fa, or, mi, a, g, l, w, s)))) (fun f => rfl) ?_
    refine mr_ldn (xs := (er (he, ke, ki, fi, fa, or, mi, a, g, l, w, s))) rfl rfl (k := 4) (by decide) rfl ?_
    refine mr_eq (mr_ret 2 (o := (some (.int (nI l)), (rSm (er (he, ke, ki, fi, fa, or, mi, a, g, l, w, s))))) (fun f => rfl)) ?_
    rw [hk, kway_2, if_neg h1, if_neg hb]
set_option maxRecDepth 100000 in
theorem rc_wo1_3_m (he ke ki fi fa or : List Nat) (mi a g l w s : Nat) (p st : Nat) (hp : p < 5) (hst : st < 2 ^ 31) (hV : kV (he, ke, ki, fi, fa, or, mi, a, g, l, w, s)) (hb : ¬ kbey a l = none) (hk : kg ki p = 3) : mm_R 147 48 [some (.ref 140), some (.int (nI p)), some (.int (nI st)), some (.int (nI (ksgn a g))), some (.int (nI (kleft (ksgn a g) st))), some (.int 1)] [.int 3] (rSm (er (he, ke, ki, fi, fa, or, mi, a, g, l, w, s))) (some (.int (nI (kway (kg ki p) a (ksgn a g) l st))), rSm (er (he, ke, ki, fi, fa, or, mi, a, g, l, w, s))) := by
  obtain ⟨v1, v2, v3, v4, v5, v6, v7, v8, v9, v10, v11, v12, v13, v14, v15, v16⟩ := hV
  have v6l := kO_len mi v7 or v6
  have hsg := ksgn_lt a g
  have hkl := kleft_lt (st := st) hsg
  have w14 := v14 p
  refine mr_seg 5 (pc1 := 113) (ls1 := [some (.ref 140), some (.int (nI p)), some (.int (nI st)), some (.int (nI (ksgn a g))), some (.int (nI (kleft (ksgn a g) st))), some (.int 1)]) (st1 := [.int 4, .ref 140]) (M1 := (rSm (er (he, ke, ki, fi, fa, or, mi, a, g, l, w, s)))) (fun f => rfl) ?_
  refine mr_ldn (xs := (er (he, ke, ki, fi, fa, or, mi, a, g, l, w, s))) rfl rfl (k := 4) (by decide) rfl ?_
  refine mr_eq (mr_ret 2 (o := (some (.int (nI l)), (rSm (er (he, ke, ki, fi, fa, or, mi, a, g, l, w, s))))) (fun f => rfl)) ?_
  rw [hk, kway_3, if_neg hb]
set_option maxRecDepth 100000 in
theorem rc_wo1_4_m (he ke ki fi fa or : List Nat) (mi a g l w s : Nat) (p st : Nat) (hp : p < 5) (hst : st < 2 ^ 31) (hV : kV (he, ke, ki, fi, fa, or, mi, a, g, l, w, s)) (hb : ¬ kbey a l = none) (hk : kg ki p = 4) : mm_R 147 48 [some (.ref 140), some (.int (nI p)), some (.int (nI st)), some (.int (nI (ksgn a g))), some (.int (nI (kleft (ksgn a g) st))), some (.int 1)] [.int 4] (rSm (er (he, ke, ki, fi, fa, or, mi, a, g, l, w, s))) (some (.int (nI (kway (kg ki p) a (ksgn a g) l st))), rSm (er (he, ke, ki, fi, fa, or, mi, a, g, l, w, s))) := by
  obtain ⟨v1, v2, v3, v4, v5, v6, v7, v8, v9, v10, v11, v12, v13, v14, v15, v16⟩ := hV
  have v6l := kO_len mi v7 or v6
  have hsg := ksgn_lt a g
  have hkl := kleft_lt (st := st) hsg
  have w14 := v14 p
  refine mr_eq (mr_ret 3 (o := (some (.int (nI (ksgn a g))), (rSm (er (he, ke, ki, fi, fa, or, mi, a, g, l, w, s))))) (fun f => rfl)) ?_
  rw [hk, kway_4]
set_option maxRecDepth 100000 in
theorem rc_wo1_5_m (he ke ki fi fa or : List Nat) (mi a g l w s : Nat) (p st : Nat) (hp : p < 5) (hst : st < 2 ^ 31) (hV : kV (he, ke, ki, fi, fa, or, mi, a, g, l, w, s)) (hb : ¬ kbey a l = none) (hk : kg ki p = 5) : mm_R 147 48 [some (.ref 140), some (.int (nI p)), some (.int (nI st)), some (.int (nI (ksgn a g))), some (.int (nI (kleft (ksgn a g) st))), some (.int 1)] [.int 5] (rSm (er (he, ke, ki, fi, fa, or, mi, a, g, l, w, s))) (some (.int (nI (kway (kg ki p) a (ksgn a g) l st))), rSm (er (he, ke, ki, fi, fa, or, mi, a, g, l, w, s))) := by
  obtain ⟨v1, v2, v3, v4, v5, v6, v7, v8, v9, v10, v11, v12, v13, v14, v15, v16⟩ := hV
  have v6l := kO_len mi v7 or v6
  have hsg := ksgn_lt a g
  have hkl := kleft_lt (st := st) hsg
  have w14 := v14 p
  refine mr_seg 3 (pc1 := 121) (ls1 := [some (.ref 140), some (.int (nI p)), some (.int (nI st)), some (.int (nI (ksgn a g))), some (.int (nI (kleft (ksgn a g) st))), some (.int 1)]) (st1 := [.int 2, .ref 140]) (M1 := (rSm (er (he, ke, ki, fi, fa, or, mi, a, g, l, w, s)))) (fun f => rfl) ?_
  refine mr_ldn (xs := (er (he, ke, ki, fi, fa, or, mi, a, g, l, w, s))) rfl rfl (k := 2) (by decide) rfl ?_
  refine mr_seg 3 (pc1 := 126) (ls1 := [some (.ref 140), some (.int (nI p)), some (.int (nI st)), some (.int (nI (ksgn a g))), some (.int (nI (kleft (ksgn a g) st))), some (.int 1)]) (st1 := [.int ((nI (kleft (ksgn a g) st)) + 2), .int (nI a)]) (M1 := (rSm (er (he, ke, ki, fi, fa, or, mi, a, g, l, w, s)))) (fun f => rfl) ?_
  refine mr_v (nI_add (kleft (ksgn a g) st) 2) ?_
  refine mr_seg 2 (pc1 := 128) (ls1 := [some (.ref 140), some (.int (nI p)), some (.int (nI st)), some (.int (nI (ksgn a g))), some (.int (nI (kleft (ksgn a g) st))), some (.int 1)]) (st1 := [.int ((nI (kleft (ksgn a g) st + 2)) - (nI (kleft (ksgn a g) st + 2)) / 4 * 4), .int (nI a)]) (M1 := (rSm (er (he, ke, ki, fi, fa, or, mi, a, g, l, w, s)))) (fun f => rfl) ?_
  refine mr_v (pk_rem (a := kleft (ksgn a g) st + 2) (d := 4) (by omega) (by decide) (by decide)) ?_
  refine mr_call (y := 149) (y0 := 131) (L := [some (.int (nI a)), some (.int (nI ((kleft (ksgn a g) st + 2) % 4)))]) (rest := []) (rr := some (.int (kI (kbey a ((kleft (ksgn a g) st + 2) % 4))))) (M1 := (rSm (er (he, ke, ki, fi, fa, or, mi, a, g, l, w, s)))) (fun f => rfl) (rc_bey (c := a) (w := (kleft (ksgn a g) st + 2) % 4) (by omega) (by omega) _) ?_
  refine mr_ifN (C := (kI (kbey a ((kleft (ksgn a g) st + 2) % 4))) < 0) (kI_l0 (by omega)) (fun f => rfl) (fun h1 => ?_) (fun h1 => ?_)
  · refine mr_eq (mr_ret 2 (o := (some (.int (nI (kleft (ksgn a g) st))), (rSm (er (he, ke, ki, fi, fa, or, mi, a, g, l, w, s))))) (fun f => rfl)) ?_
    rw [hk, kway_5]
    rw [show kway 1 a (ksgn a g) l st = kleft (ksgn a g) st from rfl, if_pos h1]
  · refine mr_seg 3 (pc1 := 138) (ls1 := [some (.ref 140), some (.int (nI p)), some (.int (nI st)), some (.int (nI (ksgn a g))), some (.int (nI (kleft (ksgn a g) st))), some (.int 1)]) (st1 := [.int ((nI (kleft (ksgn a g) st)) + 2)]) (M1 := (rSm (er (he, ke, ki, fi, fa, or, mi, a, g, l, w, s)))) (fun f => rfl) ?_
    refine mr_v (nI_add (kleft (ksgn a g) st) 2) ?_
    refine mr_seg 2 (pc1 := 140) (ls1 := [some (.ref 140), some (.int (nI p)), some (.int (nI st)), some (.int (nI (ksgn a g))), some (.int (nI (kleft (ksgn a g) st))), some (.int 1)]) (st1 := [.int ((nI (kleft (ksgn a g) st + 2)) - (nI (kleft (ksgn a g) st + 2)) / 4 * 4)]) (M1 := (rSm (er (he, ke, ki, fi, fa, or, mi, a, g, l, w, s)))) (fun f => rfl) ?_
    refine mr_v (pk_rem (a := kleft (ksgn a g) st + 2) (d := 4) (by omega) (by decide) (by decide)) ?_
    refine mr_eq (mr_ret 2 (o := (some (.int (nI ((kleft (ksgn a g) st + 2) % 4))), (rSm (er (he, ke, ki, fi, fa, or, mi, a, g, l, w, s))))) (fun f => rfl)) ?_
    rw [hk, kway_5]
    rw [show kway 1 a (ksgn a g) l st = kleft (ksgn a g) st from rfl, if_neg h1]
theorem rc_wo1_x_m (he ke ki fi fa or : List Nat) (mi a g l w s : Nat) (p st : Nat) (hp : p < 5) (hst : st < 2 ^ 31) (hV : kV (he, ke, ki, fi, fa, or, mi, a, g, l, w, s)) (hb : ¬ kbey a l = none) : mm_R 147 48 [some (.ref 140), some (.int (nI p)), some (.int (nI st)), some (.int (nI (ksgn a g))), some (.int (nI (kleft (ksgn a g) st))), some (.int 1)] [.int (nI (kg ki p))] (rSm (er (he, ke, ki, fi, fa, or, mi, a, g, l, w, s))) (some (.int (nI (kway (kg ki p) a (ksgn a g) l st))), rSm (er (he, ke, ki, fi, fa, or, mi, a, g, l, w, s))) := by
  have hV0 := hV
  obtain ⟨-, -, -, -, -, -, -, -, -, -, -, -, -, v14, -, -⟩ := hV
  rcases k6 (v14 p) with hk | hk | hk | hk | hk | hk
  · exact mr_v (show nI (kg ki p) = 0 by rw [hk]; rfl) (rc_wo1_0_m he ke ki fi fa or mi a g l w s p st hp hst hV0 hb hk)
  · exact mr_v (show nI (kg ki p) = 1 by rw [hk]; rfl) (rc_wo1_1_m he ke ki fi fa or mi a g l w s p st hp hst hV0 hb hk)
  · exact mr_v (show nI (kg ki p) = 2 by rw [hk]; rfl) (rc_wo1_2_m he ke ki fi fa or mi a g l w s p st hp hst hV0 hb hk)
  · exact mr_v (show nI (kg ki p) = 3 by rw [hk]; rfl) (rc_wo1_3_m he ke ki fi fa or mi a g l w s p st hp hst hV0 hb hk)
  · exact mr_v (show nI (kg ki p) = 4 by rw [hk]; rfl) (rc_wo1_4_m he ke ki fi fa or mi a g l w s p st hp hst hV0 hb hk)
  · exact mr_v (show nI (kg ki p) = 5 by rw [hk]; rfl) (rc_wo1_5_m he ke ki fi fa or mi a g l w s p st hp hst hV0 hb hk)
set_option maxRecDepth 100000 in
theorem rc_wo1_m (he ke ki fi fa or : List Nat) (mi a g l w s : Nat) (p st : Nat) (hp : p < 5) (hst : st < 2 ^ 31) (hV : kV (he, ke, ki, fi, fa, or, mi, a, g, l, w, s)) (hb : ¬ kbey a l = none) : mm_R 147 41 [some (.ref 140), some (.int (nI p)), some (.int (nI st)), some (.int (nI (ksgn a g))), some (.int (nI (kleft (ksgn a g) st))), some (.int 1)] [] (rSm (er (he, ke, ki, fi, fa, or, mi, a, g, l, w, s))) (some (.int (nI (kway (kg ki p) a (ksgn a g) l st))), rSm (er (he, ke, ki, fi, fa, or, mi, a, g, l, w, s))) := by
  have hV0 := hV
  obtain ⟨v1, v2, v3, v4, v5, v6, v7, v8, v9, v10, v11, v12, v13, v14, v15, v16⟩ := hV
  have v6l := kO_len mi v7 or v6
  have hsg := ksgn_lt a g
  have hkl := kleft_lt (st := st) hsg
  have w14 := v14 p
  refine mr_seg 3 (pc1 := 44) (ls1 := [some (.ref 140), some (.int (nI p)), some (.int (nI st)), some (.int (nI (ksgn a g))), some (.int (nI (kleft (ksgn a g) st))), some (.int 1)]) (st1 := [.int 0, .int (nI p), .ref 140]) (M1 := (rSm (er (he, ke, ki, fi, fa, or, mi, a, g, l, w, s)))) (fun f => rfl) ?_
  refine mr_call (y := 141) (y0 := 47) (L := [some (.int (nI p)), some (.int 0)]) (rest := [.ref 140]) (rr := some (.int (nI (32 + 3 * p + 0)))) (M1 := (rSm (er (he, ke, ki, fi, fa, or, mi, a, g, l, w, s)))) (fun f => rfl) (rc_of p 0 (by omega) (by decide) _) ?_
  refine mr_ldn (xs := (er (he, ke, ki, fi, fa, or, mi, a, g, l, w, s))) rfl rfl (k := 32 + 3 * p + 0) (by omega) (er_ki (K := (he, ke, ki, fi, fa, or, mi, a, g, l, w, s)) v1 (by omega)) ?_
  exact rc_wo1_x_m he ke ki fi fa or mi a g l w s p st hp hst hV0 hb
set_option maxRecDepth 100000 in
theorem rc_wo22_m (he ke ki fi fa or : List Nat) (mi a g l w s : Nat) (p st : Nat) (hp : p < 5) (hst : st < 2 ^ 31) (hV : kV (he, ke, ki, fi, fa, or, mi, a, g, l, w, s)) : mm_R 147 22 [some (.ref 140), some (.int (nI p)), some (.int (nI st)), some (.int (nI (ksgn a g))), some (.int (nI (kleft (ksgn a g) st))), none] [] (rSm (er (he, ke, ki, fi, fa, or, mi, a, g, l, w, s))) (some (.int (nI (kway (kg ki p) a (ksgn a g) l st))), rSm (er (he, ke, ki, fi, fa, or, mi, a, g, l, w, s))) := by
  have hV0 := hV
  obtain ⟨v1, v2, v3, v4, v5, v6, v7, v8, v9, v10, v11, v12, v13, v14, v15, v16⟩ := hV
  have v6l := kO_len mi v7 or v6
  have hsg := ksgn_lt a g
  have hkl := kleft_lt (st := st) hsg
  have w14 := v14 p
  refine mr_seg 2 (pc1 := 24) (ls1 := [some (.ref 140), some (.int (nI p)), some (.int (nI st)), some (.int (nI (ksgn a g))), some (.int (nI (kleft (ksgn a g) st))), none]) (st1 := [.int 2, .ref 140]) (M1 := (rSm (er (he, ke, ki, fi, fa, or, mi, a, g, l, w, s)))) (fun f => rfl) ?_
  refine mr_ldn (xs := (er (he, ke, ki, fi, fa, or, mi, a, g, l, w, s))) rfl rfl (k := 2) (by decide) rfl ?_
  refine mr_seg 2 (pc1 := 27) (ls1 := [some (.ref 140), some (.int (nI p)), some (.int (nI st)), some (.int (nI (ksgn a g))), some (.int (nI (kleft (ksgn a g) st))), none]) (st1 := [.int 4, .ref 140, .int (nI a)]) (M1 := (rSm (er (he, ke, ki, fi, fa, or, mi, a, g, l, w, s)))) (fun f => rfl) ?_
  refine mr_ldn (xs := (er (he, ke, ki, fi, fa, or, mi, a, g, l, w, s))) rfl rfl (k := 4) (by decide) rfl ?_
  refine mr_call (y := 149) (y0 := 31) (L := [some (.int (nI a)), some (.int (nI l))]) (rest := []) (rr := some (.int (kI (kbey a l)))) (M1 := (rSm (er (he, ke, ki, fi, fa, or, mi, a, g, l, w, s)))) (fun f => rfl) (rc_bey (c := a) (w := l) (by omega) (by omega) _) ?_
  refine mr_ifN (C := (kI (kbey a l)) < 0) (kI_l0 (by omega)) (fun f => rfl) (fun h1 => ?_) (fun h1 => ?_)
  · refine mr_seg 2 (pc1 := 41) (ls1 := [some (.ref 140), some (.int (nI p)), some (.int (nI st)), some (.int (nI (ksgn a g))), some (.int (nI (kleft (ksgn a g) st))), some (.int 0)]) (st1 := []) (M1 := (rSm (er (he, ke, ki, fi, fa, or, mi, a, g, l, w, s)))) (fun f => rfl) ?_
    exact rc_wo0_m he ke ki fi fa or mi a g l w s p st hp hst hV0 h1
  · refine mr_seg 3 (pc1 := 41) (ls1 := [some (.ref 140), some (.int (nI p)), some (.int (nI st)), some (.int (nI (ksgn a g))), some (.int (nI (kleft (ksgn a g) st))), some (.int 1)]) (st1 := []) (M1 := (rSm (er (he, ke, ki, fi, fa, or, mi, a, g, l, w, s)))) (fun f => rfl) ?_
    exact rc_wo1_m he ke ki fi fa or mi a g l w s p st hp hst hV0 h1
set_option maxRecDepth 100000 in
theorem rc_way_m (he ke ki fi fa or : List Nat) (mi a g l w s : Nat) (p st : Nat) (hp : p < 5) (hst : st < 2 ^ 31) (hV : kV (he, ke, ki, fi, fa, or, mi, a, g, l, w, s)) (hne : ¬ a = g) : mm_R 147 0 [some (.ref 140), some (.int (nI p)), some (.int (nI st)), none, none, none] [] (rSm (er (he, ke, ki, fi, fa, or, mi, a, g, l, w, s))) (some (.int (nI (kway (kg ki p) a (ksgn a g) l st))), rSm (er (he, ke, ki, fi, fa, or, mi, a, g, l, w, s))) := by
  have hV0 := hV
  obtain ⟨v1, v2, v3, v4, v5, v6, v7, v8, v9, v10, v11, v12, v13, v14, v15, v16⟩ := hV
  have v6l := kO_len mi v7 or v6
  have hsg := ksgn_lt a g
  have hkl := kleft_lt (st := st) hsg
  have w14 := v14 p
  refine mr_seg 1 (pc1 := 1) (ls1 := [some (.ref 140), some (.int (nI p)), some (.int (nI st)), none, none, none]) (st1 := [.ref 140]) (M1 := (rSm (er (he, ke, ki, fi, fa, or, mi, a, g, l, w, s)))) (fun f => rfl) ?_
  refine mr_call (y := 148) (y0 := 4) (L := [some (.ref 140), none, none]) (rest := []) (rr := some (.int (nI (ksgn a g)))) (M1 := (rSm (er (he, ke, ki, fi, fa, or, mi, a, g, l, w, s)))) (fun f => rfl) (rc_sgn2_m he ke ki fi fa or mi a g l w s v8 v9 hne) ?_
  refine mr_seg 4 (pc1 := 8) (ls1 := [some (.ref 140), some (.int (nI p)), some (.int (nI st)), some (.int (nI (ksgn a g))), none, none]) (st1 := [.int ((nI st) - (nI st) / 3 * 3)]) (M1 := (rSm (er (he, ke, ki, fi, fa, or, mi, a, g, l, w, s)))) (fun f => rfl) ?_
  refine mr_v (pk_rem (a := st) (d := 3) (by omega) (by decide) (by decide)) ?_
  refine mr_ifN (C := (nI (st % 3)) = 0) (nI_eqi (a := st % 3) (b := 0) (by omega)) (fun f => rfl) (fun h1 => ?_) (fun h1 => ?_)
  · refine mr_seg 3 (pc1 := 14) (ls1 := [some (.ref 140), some (.int (nI p)), some (.int (nI st)), some (.int (nI (ksgn a g))), none, none]) (st1 := [.int ((nI (ksgn a g)) + 3)]) (M1 := (rSm (er (he, ke, ki, fi, fa, or, mi, a, g, l, w, s)))) (fun f => rfl) ?_
    refine mr_v (nI_add (ksgn a g) 3) ?_
    refine mr_seg 2 (pc1 := 16) (ls1 := [some (.ref 140), some (.int (nI p)), some (.int (nI st)), some (.int (nI (ksgn a g))), none, none]) (st1 := [.int ((nI (ksgn a g + 3)) - (nI (ksgn a g + 3)) / 4 * 4)]) (M1 := (rSm (er (he, ke, ki, fi, fa, or, mi, a, g, l, w, s)))) (fun f => rfl) ?_
    refine mr_v (pk_rem (a := ksgn a g + 3) (d := 4) (by omega) (by decide) (by decide)) ?_
    refine mr_seg 1 (pc1 := 20) (ls1 := [some (.ref 140), some (.int (nI p)), some (.int (nI st)), some (.int (nI (ksgn a g))), none, none]) (st1 := [.int (nI ((ksgn a g + 3) % 4))]) (M1 := (rSm (er (he, ke, ki, fi, fa, or, mi, a, g, l, w, s)))) (fun f => rfl) ?_
    refine mr_v (show (nI ((ksgn a g + 3) % 4)) = nI (kleft (ksgn a g) st) by unfold kleft; rw [if_pos h1]) ?_
    refine mr_seg 1 (pc1 := 22) (ls1 := [some (.ref 140), some (.int (nI p)), some (.int (nI st)), some (.int (nI (ksgn a g))), some (.int (nI (kleft (ksgn a g) st))), none]) (st1 := []) (M1 := rSm (er (he, ke, ki, fi, fa, or, mi, a, g, l, w, s))) (fun f => rfl) ?_
    exact rc_wo22_m he ke ki fi fa or mi a g l w s p st hp hst hV0
  · refine mr_seg 1 (pc1 := 20) (ls1 := [some (.ref 140), some (.int (nI p)), some (.int (nI st)), some (.int (nI (ksgn a g))), none, none]) (st1 := [.int (nI (ksgn a g))]) (M1 := (rSm (er (he, ke, ki, fi, fa, or, mi, a, g, l, w, s)))) (fun f => rfl) ?_
    refine mr_v (show (nI (ksgn a g)) = nI (kleft (ksgn a g) st) by unfold kleft; rw [if_neg h1]) ?_
    refine mr_seg 1 (pc1 := 22) (ls1 := [some (.ref 140), some (.int (nI p)), some (.int (nI st)), some (.int (nI (ksgn a g))), some (.int (nI (kleft (ksgn a g) st))), none]) (st1 := []) (M1 := rSm (er (he, ke, ki, fi, fa, or, mi, a, g, l, w, s))) (fun f => rfl) ?_
    exact rc_wo22_m he ke ki fi fa or mi a g l w s p st hp hst hV0
set_option maxRecDepth 100000 in
theorem rc_place_m_1_0 (he ke ki fi fa : List Nat) (a g l w s p o1 o2 o3 o4 : Nat) (v1 : he.length = 25) (hp : p < 5) (b1 : o1 < 5) (b2 : o2 < 5) (b3 : o3 < 5) (b4 : o4 < 5) : mm_R 144 0 [some (.ref 140), some (.int (nI p)), none] [] (rSm (er (he, ke, ki, fi, fa, [p, o1, o2, o3, o4], 1, a, g, l, w, s))) (some (.int 0), rSm (er (he, ke, ki, fi, fa, [p, o1, o2, o3, o4], 1, a, g, l, w, s))) := by
  refine mr_seg 6 (pc1 := 7) (ls1 := [some (.ref 140), some (.int (nI p)), some (.int 0)]) (st1 := [.int 47, .ref 140]) (M1 := (rSm (er (he, ke, ki, fi, fa, [p, o1, o2, o3, o4], 1, a, g, l, w, s)))) (fun f => rfl) ?_
  refine mr_ldn (xs := (er (he, ke, ki, fi, fa, [p, o1, o2, o3, o4], 1, a, g, l, w, s))) rfl rfl (k := 47) (by decide) (er_or (K := (he, ke, ki, fi, fa, [p, o1, o2, o3, o4], 1, a, g, l, w, s)) v1 rfl (j := 0) (by decide)) ?_
  refine mr_seg 1 (pc1 := 9) (ls1 := [some (.ref 140), some (.int (nI p)), some (.int 0)]) (st1 := [.int (nI p), .int (nI p)]) (M1 := (rSm (er (he, ke, ki, fi, fa, [p, o1, o2, o3, o4], 1, a, g, l, w, s)))) (fun f => rfl) ?_
  refine mr_t (C := (nI p) = (nI p)) (rfl) (fun f => rfl) ?_
  exact mr_ret 2 (fun f => rfl)
set_option maxRecDepth 100000 in
theorem rc_place_m_2_0 (he ke ki fi fa : List Nat) (a g l w s p o1 o2 o3 o4 : Nat) (v1 : he.length = 25) (q1 : ¬ o1 = p) (hp : p < 5) (b1 : o1 < 5) (b2 : o2 < 5) (b3 : o3 < 5) (b4 : o4 < 5) : mm_R 144 0 [some (.ref 140), some (.int (nI p)), none] [] (rSm (er (he, ke, ki, fi, fa, [p, o1, o2, o3, o4], 2, a, g, l, w, s))) (some (.int 0), rSm (er (he, ke, ki, fi, fa, [p, o1, o2, o3, o4], 2, a, g, l, w, s))) := by
  refine mr_seg 6 (pc1 := 7) (ls1 := [some (.ref 140), some (.int (nI p)), some (.int 0)]) (st1 := [.int 47, .ref 140]) (M1 := (rSm (er (he, ke, ki, fi, fa, [p, o1, o2, o3, o4], 2, a, g, l, w, s)))) (fun f => rfl) ?_
  refine mr_ldn (xs := (er (he, ke, ki, fi, fa, [p, o1, o2, o3, o4], 2, a, g, l, w, s))) rfl rfl (k := 47) (by decide) (er_or (K := (he, ke, ki, fi, fa, [p, o1, o2, o3, o4], 2, a, g, l, w, s)) v1 rfl (j := 0) (by decide)) ?_
  refine mr_seg 1 (pc1 := 9) (ls1 := [some (.ref 140), some (.int (nI p)), some (.int 0)]) (st1 := [.int (nI p), .int (nI p)]) (M1 := (rSm (er (he, ke, ki, fi, fa, [p, o1, o2, o3, o4], 2, a, g, l, w, s)))) (fun f => rfl) ?_
  refine mr_t (C := (nI p) = (nI p)) (rfl) (fun f => rfl) ?_
  exact mr_ret 2 (fun f => rfl)
set_option maxRecDepth 100000 in
theorem rc_place_m_2_1 (he ke ki fi fa : List Nat) (a g l w s p o0 o2 o3 o4 : Nat) (v1 : he.length = 25) (q0 : ¬ o0 = p) (hp : p < 5) (b0 : o0 < 5) (b2 : o2 < 5) (b3 : o3 < 5) (b4 : o4 < 5) : mm_R 144 0 [some (.ref 140), some (.int (nI p)), none] [] (rSm (er (he, ke, ki, fi, fa, [o0, p, o2, o3, o4], 2, a, g, l, w, s))) (some (.int 1), rSm (er (he, ke, ki, fi, fa, [o0, p, o2, o3, o4], 2, a, g, l, w, s))) := by
  refine mr_seg 6 (pc1 := 7) (ls1 := [some (.ref 140), some (.int (nI p)), some (.int 0)]) (st1 := [.int 47, .ref 140]) (M1 := (rSm (er (he, ke, ki, fi, fa, [o0, p, o2, o3, o4], 2, a, g, l, w, s)))) (fun f => rfl) ?_
  refine mr_ldn (xs := (er (he, ke, ki, fi, fa, [o0, p, o2, o3, o4], 2, a, g, l, w, s))) rfl rfl (k := 47) (by decide) (er_or (K := (he, ke, ki, fi, fa, [o0, p, o2, o3, o4], 2, a, g, l, w, s)) v1 rfl (j := 0) (by decide)) ?_
  refine mr_seg 1 (pc1 := 9) (ls1 := [some (.ref 140), some (.int (nI p)), some (.int 0)]) (st1 := [.int (nI p), .int (nI o0)]) (M1 := (rSm (er (he, ke, ki, fi, fa, [o0, p, o2, o3, o4], 2, a, g, l, w, s)))) (fun f => rfl) ?_
  refine mr_f (C := (nI o0) = (nI p)) (fun e => q0 ((nI_eq (by omega) (by omega)).mp e)) (fun f => rfl) ?_
  refine mr_seg 6 (pc1 := 7) (ls1 := [some (.ref 140), some (.int (nI p)), some (.int 1)]) (st1 := [.int 48, .ref 140]) (M1 := (rSm (er (he, ke, ki, fi, fa, [o0, p, o2, o3, o4], 2, a, g, l, w, s)))) (fun f => rfl) ?_
  refine mr_ldn (xs := (er (he, ke, ki, fi, fa, [o0, p, o2, o3, o4], 2, a, g, l, w, s))) rfl rfl (k := 48) (by decide) (er_or (K := (he, ke, ki, fi, fa, [o0, p, o2, o3, o4], 2, a, g, l, w, s)) v1 rfl (j := 1) (by decide)) ?_
  refine mr_seg 1 (pc1 := 9) (ls1 := [some (.ref 140), some (.int (nI p)), some (.int 1)]) (st1 := [.int (nI p), .int (nI p)]) (M1 := (rSm (er (he, ke, ki, fi, fa, [o0, p, o2, o3, o4], 2, a, g, l, w, s)))) (fun f => rfl) ?_
  refine mr_t (C := (nI p) = (nI p)) (rfl) (fun f => rfl) ?_
  exact mr_ret 2 (fun f => rfl)
set_option maxRecDepth 100000 in
theorem rc_place_m_3_0 (he ke ki fi fa : List Nat) (a g l w s p o1 o2 o3 o4 : Nat) (v1 : he.length = 25) (q1 : ¬ o1 = p) (q2 : ¬ o2 = p) (hp : p < 5) (b1 : o1 < 5) (b2 : o2 < 5) (b3 : o3 < 5) (b4 : o4 < 5) : mm_R 144 0 [some (.ref 140), some (.int (nI p)), none] [] (rSm (er (he, ke, ki, fi, fa, [p, o1, o2, o3, o4], 3, a, g, l, w, s))) (some (.int 0), rSm (er (he, ke, ki, fi, fa, [p, o1, o2, o3, o4], 3, a, g, l, w, s))) := by
  refine mr_seg 6 (pc1 := 7) (ls1 := [some (.ref 140), some (.int (nI p)), some (.int 0)]) (st1 := [.int 47, .ref 140]) (M1 := (rSm (er (he, ke, ki, fi, fa, [p, o1, o2, o3, o4], 3, a, g, l, w, s)))) (fun f => rfl) ?_
  refine mr_ldn (xs := (er (he, ke, ki, fi, fa, [p, o1, o2, o3, o4], 3, a, g, l, w, s))) rfl rfl (k := 47) (by decide) (er_or (K := (he, ke, ki, fi, fa, [p, o1, o2, o3, o4], 3, a, g, l, w, s)) v1 rfl (j := 0) (by decide)) ?_
  refine mr_seg 1 (pc1 := 9) (ls1 := [some (.ref 140), some (.int (nI p)), some (.int 0)]) (st1 := [.int (nI p), .int (nI p)]) (M1 := (rSm (er (he, ke, ki, fi, fa, [p, o1, o2, o3, o4], 3, a, g, l, w, s)))) (fun f => rfl) ?_
  refine mr_t (C := (nI p) = (nI p)) (rfl) (fun f => rfl) ?_
  exact mr_ret 2 (fun f => rfl)
set_option maxRecDepth 100000 in
theorem rc_place_m_3_1 (he ke ki fi fa : List Nat) (a g l w s p o0 o2 o3 o4 : Nat) (v1 : he.length = 25) (q0 : ¬ o0 = p) (q2 : ¬ o2 = p) (hp : p < 5) (b0 : o0 < 5) (b2 : o2 < 5) (b3 : o3 < 5) (b4 : o4 < 5) : mm_R 144 0 [some (.ref 140), some (.int (nI p)), none] [] (rSm (er (he, ke, ki, fi, fa, [o0, p, o2, o3, o4], 3, a, g, l, w, s))) (some (.int 1), rSm (er (he, ke, ki, fi, fa, [o0, p, o2, o3, o4], 3, a, g, l, w, s))) := by
  refine mr_seg 6 (pc1 := 7) (ls1 := [some (.ref 140), some (.int (nI p)), some (.int 0)]) (st1 := [.int 47, .ref 140]) (M1 := (rSm (er (he, ke, ki, fi, fa, [o0, p, o2, o3, o4], 3, a, g, l, w, s)))) (fun f => rfl) ?_
  refine mr_ldn (xs := (er (he, ke, ki, fi, fa, [o0, p, o2, o3, o4], 3, a, g, l, w, s))) rfl rfl (k := 47) (by decide) (er_or (K := (he, ke, ki, fi, fa, [o0, p, o2, o3, o4], 3, a, g, l, w, s)) v1 rfl (j := 0) (by decide)) ?_
  refine mr_seg 1 (pc1 := 9) (ls1 := [some (.ref 140), some (.int (nI p)), some (.int 0)]) (st1 := [.int (nI p), .int (nI o0)]) (M1 := (rSm (er (he, ke, ki, fi, fa, [o0, p, o2, o3, o4], 3, a, g, l, w, s)))) (fun f => rfl) ?_
  refine mr_f (C := (nI o0) = (nI p)) (fun e => q0 ((nI_eq (by omega) (by omega)).mp e)) (fun f => rfl) ?_
  refine mr_seg 6 (pc1 := 7) (ls1 := [some (.ref 140), some (.int (nI p)), some (.int 1)]) (st1 := [.int 48, .ref 140]) (M1 := (rSm (er (he, ke, ki, fi, fa, [o0, p, o2, o3, o4], 3, a, g, l, w, s)))) (fun f => rfl) ?_
  refine mr_ldn (xs := (er (he, ke, ki, fi, fa, [o0, p, o2, o3, o4], 3, a, g, l, w, s))) rfl rfl (k := 48) (by decide) (er_or (K := (he, ke, ki, fi, fa, [o0, p, o2, o3, o4], 3, a, g, l, w, s)) v1 rfl (j := 1) (by decide)) ?_
  refine mr_seg 1 (pc1 := 9) (ls1 := [some (.ref 140), some (.int (nI p)), some (.int 1)]) (st1 := [.int (nI p), .int (nI p)]) (M1 := (rSm (er (he, ke, ki, fi, fa, [o0, p, o2, o3, o4], 3, a, g, l, w, s)))) (fun f => rfl) ?_
  refine mr_t (C := (nI p) = (nI p)) (rfl) (fun f => rfl) ?_
  exact mr_ret 2 (fun f => rfl)
set_option maxRecDepth 100000 in
theorem rc_place_m_3_2 (he ke ki fi fa : List Nat) (a g l w s p o0 o1 o3 o4 : Nat) (v1 : he.length = 25) (q0 : ¬ o0 = p) (q1 : ¬ o1 = p) (hp : p < 5) (b0 : o0 < 5) (b1 : o1 < 5) (b3 : o3 < 5) (b4 : o4 < 5) : mm_R 144 0 [some (.ref 140), some (.int (nI p)), none] [] (rSm (er (he, ke, ki, fi, fa, [o0, o1, p, o3, o4], 3, a, g, l, w, s))) (some (.int 2), rSm (er (he, ke, ki, fi, fa, [o0, o1, p, o3, o4], 3, a, g, l, w, s))) := by
  refine mr_seg 6 (pc1 := 7) (ls1 := [some (.ref 140), some (.int (nI p)), some (.int 0)]) (st1 := [.int 47, .ref 140]) (M1 := (rSm (er (he, ke, ki, fi, fa, [o0, o1, p, o3, o4], 3, a, g, l, w, s)))) (fun f => rfl) ?_
  refine mr_ldn (xs := (er (he, ke, ki, fi, fa, [o0, o1, p, o3, o4], 3, a, g, l, w, s))) rfl rfl (k := 47) (by decide) (er_or (K := (he, ke, ki, fi, fa, [o0, o1, p, o3, o4], 3, a, g, l, w, s)) v1 rfl (j := 0) (by decide)) ?_
  refine mr_seg 1 (pc1 := 9) (ls1 := [some (.ref 140), some (.int (nI p)), some (.int 0)]) (st1 := [.int (nI p), .int (nI o0)]) (M1 := (rSm (er (he, ke, ki, fi, fa, [o0, o1, p, o3, o4], 3, a, g, l, w, s)))) (fun f => rfl) ?_
  refine mr_f (C := (nI o0) = (nI p)) (fun e => q0 ((nI_eq (by omega) (by omega)).mp e)) (fun f => rfl) ?_
  refine mr_seg 6 (pc1 := 7) (ls1 := [some (.ref 140), some (.int (nI p)), some (.int 1)]) (st1 := [.int 48, .ref 140]) (M1 := (rSm (er (he, ke, ki, fi, fa, [o0, o1, p, o3, o4], 3, a, g, l, w, s)))) (fun f => rfl) ?_
  refine mr_ldn (xs := (er (he, ke, ki, fi, fa, [o0, o1, p, o3, o4], 3, a, g, l, w, s))) rfl rfl (k := 48) (by decide) (er_or (K := (he, ke, ki, fi, fa, [o0, o1, p, o3, o4], 3, a, g, l, w, s)) v1 rfl (j := 1) (by decide)) ?_
  refine mr_seg 1 (pc1 := 9) (ls1 := [some (.ref 140), some (.int (nI p)), some (.int 1)]) (st1 := [.int (nI p), .int (nI o1)]) (M1 := (rSm (er (he, ke, ki, fi, fa, [o0, o1, p, o3, o4], 3, a, g, l, w, s)))) (fun f => rfl) ?_
  refine mr_f (C := (nI o1) = (nI p)) (fun e => q1 ((nI_eq (by omega) (by omega)).mp e)) (fun f => rfl) ?_
  refine mr_seg 6 (pc1 := 7) (ls1 := [some (.ref 140), some (.int (nI p)), some (.int 2)]) (st1 := [.int 49, .ref 140]) (M1 := (rSm (er (he, ke, ki, fi, fa, [o0, o1, p, o3, o4], 3, a, g, l, w, s)))) (fun f => rfl) ?_
  refine mr_ldn (xs := (er (he, ke, ki, fi, fa, [o0, o1, p, o3, o4], 3, a, g, l, w, s))) rfl rfl (k := 49) (by decide) (er_or (K := (he, ke, ki, fi, fa, [o0, o1, p, o3, o4], 3, a, g, l, w, s)) v1 rfl (j := 2) (by decide)) ?_
  refine mr_seg 1 (pc1 := 9) (ls1 := [some (.ref 140), some (.int (nI p)), some (.int 2)]) (st1 := [.int (nI p), .int (nI p)]) (M1 := (rSm (er (he, ke, ki, fi, fa, [o0, o1, p, o3, o4], 3, a, g, l, w, s)))) (fun f => rfl) ?_
  refine mr_t (C := (nI p) = (nI p)) (rfl) (fun f => rfl) ?_
  exact mr_ret 2 (fun f => rfl)
set_option maxRecDepth 100000 in
theorem rc_place_m_4_0 (he ke ki fi fa : List Nat) (a g l w s p o1 o2 o3 o4 : Nat) (v1 : he.length = 25) (q1 : ¬ o1 = p) (q2 : ¬ o2 = p) (q3 : ¬ o3 = p) (hp : p < 5) (b1 : o1 < 5) (b2 : o2 < 5) (b3 : o3 < 5) (b4 : o4 < 5) : mm_R 144 0 [some (.ref 140), some (.int (nI p)), none] [] (rSm (er (he, ke, ki, fi, fa, [p, o1, o2, o3, o4], 4, a, g, l, w, s))) (some (.int 0), rSm (er (he, ke, ki, fi, fa, [p, o1, o2, o3, o4], 4, a, g, l, w, s))) := by
  refine mr_seg 6 (pc1 := 7) (ls1 := [some (.ref 140), some (.int (nI p)), some (.int 0)]) (st1 := [.int 47, .ref 140]) (M1 := (rSm (er (he, ke, ki, fi, fa, [p, o1, o2, o3, o4], 4, a, g, l, w, s)))) (fun f => rfl) ?_
  refine mr_ldn (xs := (er (he, ke, ki, fi, fa, [p, o1, o2, o3, o4], 4, a, g, l, w, s))) rfl rfl (k := 47) (by decide) (er_or (K := (he, ke, ki, fi, fa, [p, o1, o2, o3, o4], 4, a, g, l, w, s)) v1 rfl (j := 0) (by decide)) ?_
  refine mr_seg 1 (pc1 := 9) (ls1 := [some (.ref 140), some (.int (nI p)), some (.int 0)]) (st1 := [.int (nI p), .int (nI p)]) (M1 := (rSm (er (he, ke, ki, fi, fa, [p, o1, o2, o3, o4], 4, a, g, l, w, s)))) (fun f => rfl) ?_
  refine mr_t (C := (nI p) = (nI p)) (rfl) (fun f => rfl) ?_
  exact mr_ret 2 (fun f => rfl)
set_option maxRecDepth 100000 in
theorem rc_place_m_4_1 (he ke ki fi fa : List Nat) (a g l w s p o0 o2 o3 o4 : Nat) (v1 : he.length = 25) (q0 : ¬ o0 = p) (q2 : ¬ o2 = p) (q3 : ¬ o3 = p) (hp : p < 5) (b0 : o0 < 5) (b2 : o2 < 5) (b3 : o3 < 5) (b4 : o4 < 5) : mm_R 144 0 [some (.ref 140), some (.int (nI p)), none] [] (rSm (er (he, ke, ki, fi, fa, [o0, p, o2, o3, o4], 4, a, g, l, w, s))) (some (.int 1), rSm (er (he, ke, ki, fi, fa, [o0, p, o2, o3, o4], 4, a, g, l, w, s))) := by
  refine mr_seg 6 (pc1 := 7) (ls1 := [some (.ref 140), some (.int (nI p)), some (.int 0)]) (st1 := [.int 47, .ref 140]) (M1 := (rSm (er (he, ke, ki, fi, fa, [o0, p, o2, o3, o4], 4, a, g, l, w, s)))) (fun f => rfl) ?_
  refine mr_ldn (xs := (er (he, ke, ki, fi, fa, [o0, p, o2, o3, o4], 4, a, g, l, w, s))) rfl rfl (k := 47) (by decide) (er_or (K := (he, ke, ki, fi, fa, [o0, p, o2, o3, o4], 4, a, g, l, w, s)) v1 rfl (j := 0) (by decide)) ?_
  refine mr_seg 1 (pc1 := 9) (ls1 := [some (.ref 140), some (.int (nI p)), some (.int 0)]) (st1 := [.int (nI p), .int (nI o0)]) (M1 := (rSm (er (he, ke, ki, fi, fa, [o0, p, o2, o3, o4], 4, a, g, l, w, s)))) (fun f => rfl) ?_
  refine mr_f (C := (nI o0) = (nI p)) (fun e => q0 ((nI_eq (by omega) (by omega)).mp e)) (fun f => rfl) ?_
  refine mr_seg 6 (pc1 := 7) (ls1 := [some (.ref 140), some (.int (nI p)), some (.int 1)]) (st1 := [.int 48, .ref 140]) (M1 := (rSm (er (he, ke, ki, fi, fa, [o0, p, o2, o3, o4], 4, a, g, l, w, s)))) (fun f => rfl) ?_
  refine mr_ldn (xs := (er (he, ke, ki, fi, fa, [o0, p, o2, o3, o4], 4, a, g, l, w, s))) rfl rfl (k := 48) (by decide) (er_or (K := (he, ke, ki, fi, fa, [o0, p, o2, o3, o4], 4, a, g, l, w, s)) v1 rfl (j := 1) (by decide)) ?_
  refine mr_seg 1 (pc1 := 9) (ls1 := [some (.ref 140), some (.int (nI p)), some (.int 1)]) (st1 := [.int (nI p), .int (nI p)]) (M1 := (rSm (er (he, ke, ki, fi, fa, [o0, p, o2, o3, o4], 4, a, g, l, w, s)))) (fun f => rfl) ?_
  refine mr_t (C := (nI p) = (nI p)) (rfl) (fun f => rfl) ?_
  exact mr_ret 2 (fun f => rfl)
set_option maxRecDepth 100000 in
theorem rc_place_m_4_2 (he ke ki fi fa : List Nat) (a g l w s p o0 o1 o3 o4 : Nat) (v1 : he.length = 25) (q0 : ¬ o0 = p) (q1 : ¬ o1 = p) (q3 : ¬ o3 = p) (hp : p < 5) (b0 : o0 < 5) (b1 : o1 < 5) (b3 : o3 < 5) (b4 : o4 < 5) : mm_R 144 0 [some (.ref 140), some (.int (nI p)), none] [] (rSm (er (he, ke, ki, fi, fa, [o0, o1, p, o3, o4], 4, a, g, l, w, s))) (some (.int 2), rSm (er (he, ke, ki, fi, fa, [o0, o1, p, o3, o4], 4, a, g, l, w, s))) := by
  refine mr_seg 6 (pc1 := 7) (ls1 := [some (.ref 140), some (.int (nI p)), some (.int 0)]) (st1 := [.int 47, .ref 140]) (M1 := (rSm (er (he, ke, ki, fi, fa, [o0, o1, p, o3, o4], 4, a, g, l, w, s)))) (fun f => rfl) ?_
  refine mr_ldn (xs := (er (he, ke, ki, fi, fa, [o0, o1, p, o3, o4], 4, a, g, l, w, s))) rfl rfl (k := 47) (by decide) (er_or (K := (he, ke, ki, fi, fa, [o0, o1, p, o3, o4], 4, a, g, l, w, s)) v1 rfl (j := 0) (by decide)) ?_
  refine mr_seg 1 (pc1 := 9) (ls1 := [some (.ref 140), some (.int (nI p)), some (.int 0)]) (st1 := [.int (nI p), .int (nI o0)]) (M1 := (rSm (er (he, ke, ki, fi, fa, [o0, o1, p, o3, o4], 4, a, g, l, w, s)))) (fun f => rfl) ?_
  refine mr_f (C := (nI o0) = (nI p)) (fun e => q0 ((nI_eq (by omega) (by omega)).mp e)) (fun f => rfl) ?_
  refine mr_seg 6 (pc1 := 7) (ls1 := [some (.ref 140), some (.int (nI p)), some (.int 1)]) (st1 := [.int 48, .ref 140]) (M1 := (rSm (er (he, ke, ki, fi, fa, [o0, o1, p, o3, o4], 4, a, g, l, w, s)))) (fun f => rfl) ?_
  refine mr_ldn (xs := (er (he, ke, ki, fi, fa, [o0, o1, p, o3, o4], 4, a, g, l, w, s))) rfl rfl (k := 48) (by decide) (er_or (K := (he, ke, ki, fi, fa, [o0, o1, p, o3, o4], 4, a, g, l, w, s)) v1 rfl (j := 1) (by decide)) ?_
  refine mr_seg 1 (pc1 := 9) (ls1 := [some (.ref 140), some (.int (nI p)), some (.int 1)]) (st1 := [.int (nI p), .int (nI o1)]) (M1 := (rSm (er (he, ke, ki, fi, fa, [o0, o1, p, o3, o4], 4, a, g, l, w, s)))) (fun f => rfl) ?_
  refine mr_f (C := (nI o1) = (nI p)) (fun e => q1 ((nI_eq (by omega) (by omega)).mp e)) (fun f => rfl) ?_
  refine mr_seg 6 (pc1 := 7) (ls1 := [some (.ref 140), some (.int (nI p)), some (.int 2)]) (st1 := [.int 49, .ref 140]) (M1 := (rSm (er (he, ke, ki, fi, fa, [o0, o1, p, o3, o4], 4, a, g, l, w, s)))) (fun f => rfl) ?_
  refine mr_ldn (xs := (er (he, ke, ki, fi, fa, [o0, o1, p, o3, o4], 4, a, g, l, w, s))) rfl rfl (k := 49) (by decide) (er_or (K := (he, ke, ki, fi, fa, [o0, o1, p, o3, o4], 4, a, g, l, w, s)) v1 rfl (j := 2) (by decide)) ?_
  refine mr_seg 1 (pc1 := 9) (ls1 := [some (.ref 140), some (.int (nI p)), some (.int 2)]) (st1 := [.int (nI p), .int (nI p)]) (M1 := (rSm (er (he, ke, ki, fi, fa, [o0, o1, p, o3, o4], 4, a, g, l, w, s)))) (fun f => rfl) ?_
  refine mr_t (C := (nI p) = (nI p)) (rfl) (fun f => rfl) ?_
  exact mr_ret 2 (fun f => rfl)
set_option maxRecDepth 100000 in
theorem rc_place_m_4_3 (he ke ki fi fa : List Nat) (a g l w s p o0 o1 o2 o4 : Nat) (v1 : he.length = 25) (q0 : ¬ o0 = p) (q1 : ¬ o1 = p) (q2 : ¬ o2 = p) (hp : p < 5) (b0 : o0 < 5) (b1 : o1 < 5) (b2 : o2 < 5) (b4 : o4 < 5) : mm_R 144 0 [some (.ref 140), some (.int (nI p)), none] [] (rSm (er (he, ke, ki, fi, fa, [o0, o1, o2, p, o4], 4, a, g, l, w, s))) (some (.int 3), rSm (er (he, ke, ki, fi, fa, [o0, o1, o2, p, o4], 4, a, g, l, w, s))) := by
  refine mr_seg 6 (pc1 := 7) (ls1 := [some (.ref 140), some (.int (nI p)), some (.int 0)]) (st1 := [.int 47, .ref 140]) (M1 := (rSm (er (he, ke, ki, fi, fa, [o0, o1, o2, p, o4], 4, a, g, l, w, s)))) (fun f => rfl) ?_
  refine mr_ldn (xs := (er (he, ke, ki, fi, fa, [o0, o1, o2, p, o4], 4, a, g, l, w, s))) rfl rfl (k := 47) (by decide) (er_or (K := (he, ke, ki, fi, fa, [o0, o1, o2, p, o4], 4, a, g, l, w, s)) v1 rfl (j := 0) (by decide)) ?_
  refine mr_seg 1 (pc1 := 9) (ls1 := [some (.ref 140), some (.int (nI p)), some (.int 0)]) (st1 := [.int (nI p), .int (nI o0)]) (M1 := (rSm (er (he, ke, ki, fi, fa, [o0, o1, o2, p, o4], 4, a, g, l, w, s)))) (fun f => rfl) ?_
  refine mr_f (C := (nI o0) = (nI p)) (fun e => q0 ((nI_eq (by omega) (by omega)).mp e)) (fun f => rfl) ?_
  refine mr_seg 6 (pc1 := 7) (ls1 := [some (.ref 140), some (.int (nI p)), some (.int 1)]) (st1 := [.int 48, .ref 140]) (M1 := (rSm (er (he, ke, ki, fi, fa, [o0, o1, o2, p, o4], 4, a, g, l, w, s)))) (fun f => rfl) ?_
  refine mr_ldn (xs := (er (he, ke, ki, fi, fa, [o0, o1, o2, p, o4], 4, a, g, l, w, s))) rfl rfl (k := 48) (by decide) (er_or (K := (he, ke, ki, fi, fa, [o0, o1, o2, p, o4], 4, a, g, l, w, s)) v1 rfl (j := 1) (by decide)) ?_
  refine mr_seg 1 (pc1 := 9) (ls1 := [some (.ref 140), some (.int (nI p)), some (.int 1)]) (st1 := [.int (nI p), .int (nI o1)]) (M1 := (rSm (er (he, ke, ki, fi, fa, [o0, o1, o2, p, o4], 4, a, g, l, w, s)))) (fun f => rfl) ?_
  refine mr_f (C := (nI o1) = (nI p)) (fun e => q1 ((nI_eq (by omega) (by omega)).mp e)) (fun f => rfl) ?_
  refine mr_seg 6 (pc1 := 7) (ls1 := [some (.ref 140), some (.int (nI p)), some (.int 2)]) (st1 := [.int 49, .ref 140]) (M1 := (rSm (er (he, ke, ki, fi, fa, [o0, o1, o2, p, o4], 4, a, g, l, w, s)))) (fun f => rfl) ?_
  refine mr_ldn (xs := (er (he, ke, ki, fi, fa, [o0, o1, o2, p, o4], 4, a, g, l, w, s))) rfl rfl (k := 49) (by decide) (er_or (K := (he, ke, ki, fi, fa, [o0, o1, o2, p, o4], 4, a, g, l, w, s)) v1 rfl (j := 2) (by decide)) ?_
  refine mr_seg 1 (pc1 := 9) (ls1 := [some (.ref 140), some (.int (nI p)), some (.int 2)]) (st1 := [.int (nI p), .int (nI o2)]) (M1 := (rSm (er (he, ke, ki, fi, fa, [o0, o1, o2, p, o4], 4, a, g, l, w, s)))) (fun f => rfl) ?_
  refine mr_f (C := (nI o2) = (nI p)) (fun e => q2 ((nI_eq (by omega) (by omega)).mp e)) (fun f => rfl) ?_
  refine mr_seg 6 (pc1 := 7) (ls1 := [some (.ref 140), some (.int (nI p)), some (.int 3)]) (st1 := [.int 50, .ref 140]) (M1 := (rSm (er (he, ke, ki, fi, fa, [o0, o1, o2, p, o4], 4, a, g, l, w, s)))) (fun f => rfl) ?_
  refine mr_ldn (xs := (er (he, ke, ki, fi, fa, [o0, o1, o2, p, o4], 4, a, g, l, w, s))) rfl rfl (k := 50) (by decide) (er_or (K := (he, ke, ki, fi, fa, [o0, o1, o2, p, o4], 4, a, g, l, w, s)) v1 rfl (j := 3) (by decide)) ?_
  refine mr_seg 1 (pc1 := 9) (ls1 := [some (.ref 140), some (.int (nI p)), some (.int 3)]) (st1 := [.int (nI p), .int (nI p)]) (M1 := (rSm (er (he, ke, ki, fi, fa, [o0, o1, o2, p, o4], 4, a, g, l, w, s)))) (fun f => rfl) ?_
  refine mr_t (C := (nI p) = (nI p)) (rfl) (fun f => rfl) ?_
  exact mr_ret 2 (fun f => rfl)
set_option maxRecDepth 100000 in
theorem rc_place_m_5_0 (he ke ki fi fa : List Nat) (a g l w s p o1 o2 o3 o4 : Nat) (v1 : he.length = 25) (q1 : ¬ o1 = p) (q2 : ¬ o2 = p) (q3 : ¬ o3 = p) (q4 : ¬ o4 = p) (hp : p < 5) (b1 : o1 < 5) (b2 : o2 < 5) (b3 : o3 < 5) (b4 : o4 < 5) : mm_R 144 0 [some (.ref 140), some (.int (nI p)), none] [] (rSm (er (he, ke, ki, fi, fa, [p, o1, o2, o3, o4], 5, a, g, l, w, s))) (some (.int 0), rSm (er (he, ke, ki, fi, fa, [p, o1, o2, o3, o4], 5, a, g, l, w, s))) := by
  refine mr_seg 6 (pc1 := 7) (ls1 := [some (.ref 140), some (.int (nI p)), some (.int 0)]) (st1 := [.int 47, .ref 140]) (M1 := (rSm (er (he, ke, ki, fi, fa, [p, o1, o2, o3, o4], 5, a, g, l, w, s)))) (fun f => rfl) ?_
  refine mr_ldn (xs := (er (he, ke, ki, fi, fa, [p, o1, o2, o3, o4], 5, a, g, l, w, s))) rfl rfl (k := 47) (by decide) (er_or (K := (he, ke, ki, fi, fa, [p, o1, o2, o3, o4], 5, a, g, l, w, s)) v1 rfl (j := 0) (by decide)) ?_
  refine mr_seg 1 (pc1 := 9) (ls1 := [some (.ref 140), some (.int (nI p)), some (.int 0)]) (st1 := [.int (nI p), .int (nI p)]) (M1 := (rSm (er (he, ke, ki, fi, fa, [p, o1, o2, o3, o4], 5, a, g, l, w, s)))) (fun f => rfl) ?_
  refine mr_t (C := (nI p) = (nI p)) (rfl) (fun f => rfl) ?_
  exact mr_ret 2 (fun f => rfl)
set_option maxRecDepth 100000 in
theorem rc_place_m_5_1 (he ke ki fi fa : List Nat) (a g l w s p o0 o2 o3 o4 : Nat) (v1 : he.length = 25) (q0 : ¬ o0 = p) (q2 : ¬ o2 = p) (q3 : ¬ o3 = p) (q4 : ¬ o4 = p) (hp : p < 5) (b0 : o0 < 5) (b2 : o2 < 5) (b3 : o3 < 5) (b4 : o4 < 5) : mm_R 144 0 [some (.ref 140), some (.int (nI p)), none] [] (rSm (er (he, ke, ki, fi, fa, [o0, p, o2, o3, o4], 5, a, g, l, w, s))) (some (.int 1), rSm (er (he, ke, ki, fi, fa, [o0, p, o2, o3, o4], 5, a, g, l, w, s))) := by
  refine mr_seg 6 (pc1 := 7) (ls1 := [some (.ref 140), some (.int (nI p)), some (.int 0)]) (st1 := [.int 47, .ref 140]) (M1 := (rSm (er (he, ke, ki, fi, fa, [o0, p, o2, o3, o4], 5, a, g, l, w, s)))) (fun f => rfl) ?_
  refine mr_ldn (xs := (er (he, ke, ki, fi, fa, [o0, p, o2, o3, o4], 5, a, g, l, w, s))) rfl rfl (k := 47) (by decide) (er_or (K := (he, ke, ki, fi, fa, [o0, p, o2, o3, o4], 5, a, g, l, w, s)) v1 rfl (j := 0) (by decide)) ?_
  refine mr_seg 1 (pc1 := 9) (ls1 := [some (.ref 140), some (.int (nI p)), some (.int 0)]) (st1 := [.int (nI p), .int (nI o0)]) (M1 := (rSm (er (he, ke, ki, fi, fa, [o0, p, o2, o3, o4], 5, a, g, l, w, s)))) (fun f => rfl) ?_
  refine mr_f (C := (nI o0) = (nI p)) (fun e => q0 ((nI_eq (by omega) (by omega)).mp e)) (fun f => rfl) ?_
  refine mr_seg 6 (pc1 := 7) (ls1 := [some (.ref 140), some (.int (nI p)), some (.int 1)]) (st1 := [.int 48, .ref 140]) (M1 := (rSm (er (he, ke, ki, fi, fa, [o0, p, o2, o3, o4], 5, a, g, l, w, s)))) (fun f => rfl) ?_
  refine mr_ldn (xs := (er (he, ke, ki, fi, fa, [o0, p, o2, o3, o4], 5, a, g, l, w, s))) rfl rfl (k := 48) (by decide) (er_or (K := (he, ke, ki, fi, fa, [o0, p, o2, o3, o4], 5, a, g, l, w, s)) v1 rfl (j := 1) (by decide)) ?_
  refine mr_seg 1 (pc1 := 9) (ls1 := [some (.ref 140), some (.int (nI p)), some (.int 1)]) (st1 := [.int (nI p), .int (nI p)]) (M1 := (rSm (er (he, ke, ki, fi, fa, [o0, p, o2, o3, o4], 5, a, g, l, w, s)))) (fun f => rfl) ?_
  refine mr_t (C := (nI p) = (nI p)) (rfl) (fun f => rfl) ?_
  exact mr_ret 2 (fun f => rfl)
set_option maxRecDepth 100000 in
theorem rc_place_m_5_2 (he ke ki fi fa : List Nat) (a g l w s p o0 o1 o3 o4 : Nat) (v1 : he.length = 25) (q0 : ¬ o0 = p) (q1 : ¬ o1 = p) (q3 : ¬ o3 = p) (q4 : ¬ o4 = p) (hp : p < 5) (b0 : o0 < 5) (b1 : o1 < 5) (b3 : o3 < 5) (b4 : o4 < 5) : mm_R 144 0 [some (.ref 140), some (.int (nI p)), none] [] (rSm (er (he, ke, ki, fi, fa, [o0, o1, p, o3, o4], 5, a, g, l, w, s))) (some (.int 2), rSm (er (he, ke, ki, fi, fa, [o0, o1, p, o3, o4], 5, a, g, l, w, s))) := by
  refine mr_seg 6 (pc1 := 7) (ls1 := [some (.ref 140), some (.int (nI p)), some (.int 0)]) (st1 := [.int 47, .ref 140]) (M1 := (rSm (er (he, ke, ki, fi, fa, [o0, o1, p, o3, o4], 5, a, g, l, w, s)))) (fun f => rfl) ?_
  refine mr_ldn (xs := (er (he, ke, ki, fi, fa, [o0, o1, p, o3, o4], 5, a, g, l, w, s))) rfl rfl (k := 47) (by decide) (er_or (K := (he, ke, ki, fi, fa, [o0, o1, p, o3, o4], 5, a, g, l, w, s)) v1 rfl (j := 0) (by decide)) ?_
  refine mr_seg 1 (pc1 := 9) (ls1 := [some (.ref 140), some (.int (nI p)), some (.int 0)]) (st1 := [.int (nI p), .int (nI o0)]) (M1 := (rSm (er (he, ke, ki, fi, fa, [o0, o1, p, o3, o4], 5, a, g, l, w, s)))) (fun f => rfl) ?_
  refine mr_f (C := (nI o0) = (nI p)) (fun e => q0 ((nI_eq (by omega) (by omega)).mp e)) (fun f => rfl) ?_
  refine mr_seg 6 (pc1 := 7) (ls1 := [some (.ref 140), some (.int (nI p)), some (.int 1)]) (st1 := [.int 48, .ref 140]) (M1 := (rSm (er (he, ke, ki, fi, fa, [o0, o1, p, o3, o4], 5, a, g, l, w, s)))) (fun f => rfl) ?_
  refine mr_ldn (xs := (er (he, ke, ki, fi, fa, [o0, o1, p, o3, o4], 5, a, g, l, w, s))) rfl rfl (k := 48) (by decide) (er_or (K := (he, ke, ki, fi, fa, [o0, o1, p, o3, o4], 5, a, g, l, w, s)) v1 rfl (j := 1) (by decide)) ?_
  refine mr_seg 1 (pc1 := 9) (ls1 := [some (.ref 140), some (.int (nI p)), some (.int 1)]) (st1 := [.int (nI p), .int (nI o1)]) (M1 := (rSm (er (he, ke, ki, fi, fa, [o0, o1, p, o3, o4], 5, a, g, l, w, s)))) (fun f => rfl) ?_
  refine mr_f (C := (nI o1) = (nI p)) (fun e => q1 ((nI_eq (by omega) (by omega)).mp e)) (fun f => rfl) ?_
  refine mr_seg 6 (pc1 := 7) (ls1 := [some (.ref 140), some (.int (nI p)), some (.int 2)]) (st1 := [.int 49, .ref 140]) (M1 := (rSm (er (he, ke, ki, fi, fa, [o0, o1, p, o3, o4], 5, a, g, l, w, s)))) (fun f => rfl) ?_
  refine mr_ldn (xs := (er (he, ke, ki, fi, fa, [o0, o1, p, o3, o4], 5, a, g, l, w, s))) rfl rfl (k := 49) (by decide) (er_or (K := (he, ke, ki, fi, fa, [o0, o1, p, o3, o4], 5, a, g, l, w, s)) v1 rfl (j := 2) (by decide)) ?_
  refine mr_seg 1 (pc1 := 9) (ls1 := [some (.ref 140), some (.int (nI p)), some (.int 2)]) (st1 := [.int (nI p), .int (nI p)]) (M1 := (rSm (er (he, ke, ki, fi, fa, [o0, o1, p, o3, o4], 5, a, g, l, w, s)))) (fun f => rfl) ?_
  refine mr_t (C := (nI p) = (nI p)) (rfl) (fun f => rfl) ?_
  exact mr_ret 2 (fun f => rfl)
set_option maxRecDepth 100000 in
theorem rc_place_m_5_3 (he ke ki fi fa : List Nat) (a g l w s p o0 o1 o2 o4 : Nat) (v1 : he.length = 25) (q0 : ¬ o0 = p) (q1 : ¬ o1 = p) (q2 : ¬ o2 = p) (q4 : ¬ o4 = p) (hp : p < 5) (b0 : o0 < 5) (b1 : o1 < 5) (b2 : o2 < 5) (b4 : o4 < 5) : mm_R 144 0 [some (.ref 140), some (.int (nI p)), none] [] (rSm (er (he, ke, ki, fi, fa, [o0, o1, o2, p, o4], 5, a, g, l, w, s))) (some (.int 3), rSm (er (he, ke, ki, fi, fa, [o0, o1, o2, p, o4], 5, a, g, l, w, s))) := by
  refine mr_seg 6 (pc1 := 7) (ls1 := [some (.ref 140), some (.int (nI p)), some (.int 0)]) (st1 := [.int 47, .ref 140]) (M1 := (rSm (er (he, ke, ki, fi, fa, [o0, o1, o2, p, o4], 5, a, g, l, w, s)))) (fun f => rfl) ?_
  refine mr_ldn (xs := (er (he, ke, ki, fi, fa, [o0, o1, o2, p, o4], 5, a, g, l, w, s))) rfl rfl (k := 47) (by decide) (er_or (K := (he, ke, ki, fi, fa, [o0, o1, o2, p, o4], 5, a, g, l, w, s)) v1 rfl (j := 0) (by decide)) ?_
  refine mr_seg 1 (pc1 := 9) (ls1 := [some (.ref 140), some (.int (nI p)), some (.int 0)]) (st1 := [.int (nI p), .int (nI o0)]) (M1 := (rSm (er (he, ke, ki, fi, fa, [o0, o1, o2, p, o4], 5, a, g, l, w, s)))) (fun f => rfl) ?_
  refine mr_f (C := (nI o0) = (nI p)) (fun e => q0 ((nI_eq (by omega) (by omega)).mp e)) (fun f => rfl) ?_
  refine mr_seg 6 (pc1 := 7) (ls1 := [some (.ref 140), some (.int (nI p)), some (.int 1)]) (st1 := [.int 48, .ref 140]) (M1 := (rSm (er (he, ke, ki, fi, fa, [o0, o1, o2, p, o4], 5, a, g, l, w, s)))) (fun f => rfl) ?_
  refine mr_ldn (xs := (er (he, ke, ki, fi, fa, [o0, o1, o2, p, o4], 5, a, g, l, w, s))) rfl rfl (k := 48) (by decide) (er_or (K := (he, ke, ki, fi, fa, [o0, o1, o2, p, o4], 5, a, g, l, w, s)) v1 rfl (j := 1) (by decide)) ?_
  refine mr_seg 1 (pc1 := 9) (ls1 := [some (.ref 140), some (.int (nI p)), some (.int 1)]) (st1 := [.int (nI p), .int (nI o1)]) (M1 := (rSm (er (he, ke, ki, fi, fa, [o0, o1, o2, p, o4], 5, a, g, l, w, s)))) (fun f => rfl) ?_
  refine mr_f (C := (nI o1) = (nI p)) (fun e => q1 ((nI_eq (by omega) (by omega)).mp e)) (fun f => rfl) ?_
  refine mr_seg 6 (pc1 := 7) (ls1 := [some (.ref 140), some (.int (nI p)), some (.int 2)]) (st1 := [.int 49, .ref 140]) (M1 := (rSm (er (he, ke, ki, fi, fa, [o0, o1, o2, p, o4], 5, a, g, l, w, s)))) (fun f => rfl) ?_
  refine mr_ldn (xs := (er (he, ke, ki, fi, fa, [o0, o1, o2, p, o4], 5, a, g, l, w, s))) rfl rfl (k := 49) (by decide) (er_or (K := (he, ke, ki, fi, fa, [o0, o1, o2, p, o4], 5, a, g, l, w, s)) v1 rfl (j := 2) (by decide)) ?_
  refine mr_seg 1 (pc1 := 9) (ls1 := [some (.ref 140), some (.int (nI p)), some (.int 2)]) (st1 := [.int (nI p), .int (nI o2)]) (M1 := (rSm (er (he, ke, ki, fi, fa, [o0, o1, o2, p, o4], 5, a, g, l, w, s)))) (fun f => rfl) ?_
  refine mr_f (C := (nI o2) = (nI p)) (fun e => q2 ((nI_eq (by omega) (by omega)).mp e)) (fun f => rfl) ?_
  refine mr_seg 6 (pc1 := 7) (ls1 := [some (.ref 140), some (.int (nI p)), some (.int 3)]) (st1 := [.int 50, .ref 140]) (M1 := (rSm (er (he, ke, ki, fi, fa, [o0, o1, o2, p, o4], 5, a, g, l, w, s)))) (fun f => rfl) ?_
  refine mr_ldn (xs := (er (he, ke, ki, fi, fa, [o0, o1, o2, p, o4], 5, a, g, l, w, s))) rfl rfl (k := 50) (by decide) (er_or (K := (he, ke, ki, fi, fa, [o0, o1, o2, p, o4], 5, a, g, l, w, s)) v1 rfl (j := 3) (by decide)) ?_
  refine mr_seg 1 (pc1 := 9) (ls1 := [some (.ref 140), some (.int (nI p)), some (.int 3)]) (st1 := [.int (nI p), .int (nI p)]) (M1 := (rSm (er (he, ke, ki, fi, fa, [o0, o1, o2, p, o4], 5, a, g, l, w, s)))) (fun f => rfl) ?_
  refine mr_t (C := (nI p) = (nI p)) (rfl) (fun f => rfl) ?_
  exact mr_ret 2 (fun f => rfl)
set_option maxRecDepth 100000 in
theorem rc_place_m_5_4 (he ke ki fi fa : List Nat) (a g l w s p o0 o1 o2 o3 : Nat) (v1 : he.length = 25) (q0 : ¬ o0 = p) (q1 : ¬ o1 = p) (q2 : ¬ o2 = p) (q3 : ¬ o3 = p) (hp : p < 5) (b0 : o0 < 5) (b1 : o1 < 5) (b2 : o2 < 5) (b3 : o3 < 5) : mm_R 144 0 [some (.ref 140), some (.int (nI p)), none] [] (rSm (er (he, ke, ki, fi, fa, [o0, o1, o2, o3, p], 5, a, g, l, w, s))) (some (.int 4), rSm (er (he, ke, ki, fi, fa, [o0, o1, o2, o3, p], 5, a, g, l, w, s))) := by
  refine mr_seg 6 (pc1 := 7) (ls1 := [some (.ref 140), some (.int (nI p)), some (.int 0)]) (st1 := [.int 47, .ref 140]) (M1 := (rSm (er (he, ke, ki, fi, fa, [o0, o1, o2, o3, p], 5, a, g, l, w, s)))) (fun f => rfl) ?_
  refine mr_ldn (xs := (er (he, ke, ki, fi, fa, [o0, o1, o2, o3, p], 5, a, g, l, w, s))) rfl rfl (k := 47) (by decide) (er_or (K := (he, ke, ki, fi, fa, [o0, o1, o2, o3, p], 5, a, g, l, w, s)) v1 rfl (j := 0) (by decide)) ?_
  refine mr_seg 1 (pc1 := 9) (ls1 := [some (.ref 140), some (.int (nI p)), some (.int 0)]) (st1 := [.int (nI p), .int (nI o0)]) (M1 := (rSm (er (he, ke, ki, fi, fa, [o0, o1, o2, o3, p], 5, a, g, l, w, s)))) (fun f => rfl) ?_
  refine mr_f (C := (nI o0) = (nI p)) (fun e => q0 ((nI_eq (by omega) (by omega)).mp e)) (fun f => rfl) ?_
  refine mr_seg 6 (pc1 := 7) (ls1 := [some (.ref 140), some (.int (nI p)), some (.int 1)]) (st1 := [.int 48, .ref 140]) (M1 := (rSm (er (he, ke, ki, fi, fa, [o0, o1, o2, o3, p], 5, a, g, l, w, s)))) (fun f => rfl) ?_
  refine mr_ldn (xs := (er (he, ke, ki, fi, fa, [o0, o1, o2, o3, p], 5, a, g, l, w, s))) rfl rfl (k := 48) (by decide) (er_or (K := (he, ke, ki, fi, fa, [o0, o1, o2, o3, p], 5, a, g, l, w, s)) v1 rfl (j := 1) (by decide)) ?_
  refine mr_seg 1 (pc1 := 9) (ls1 := [some (.ref 140), some (.int (nI p)), some (.int 1)]) (st1 := [.int (nI p), .int (nI o1)]) (M1 := (rSm (er (he, ke, ki, fi, fa, [o0, o1, o2, o3, p], 5, a, g, l, w, s)))) (fun f => rfl) ?_
  refine mr_f (C := (nI o1) = (nI p)) (fun e => q1 ((nI_eq (by omega) (by omega)).mp e)) (fun f => rfl) ?_
  refine mr_seg 6 (pc1 := 7) (ls1 := [some (.ref 140), some (.int (nI p)), some (.int 2)]) (st1 := [.int 49, .ref 140]) (M1 := (rSm (er (he, ke, ki, fi, fa, [o0, o1, o2, o3, p], 5, a, g, l, w, s)))) (fun f => rfl) ?_
  refine mr_ldn (xs := (er (he, ke, ki, fi, fa, [o0, o1, o2, o3, p], 5, a, g, l, w, s))) rfl rfl (k := 49) (by decide) (er_or (K := (he, ke, ki, fi, fa, [o0, o1, o2, o3, p], 5, a, g, l, w, s)) v1 rfl (j := 2) (by decide)) ?_
  refine mr_seg 1 (pc1 := 9) (ls1 := [some (.ref 140), some (.int (nI p)), some (.int 2)]) (st1 := [.int (nI p), .int (nI o2)]) (M1 := (rSm (er (he, ke, ki, fi, fa, [o0, o1, o2, o3, p], 5, a, g, l, w, s)))) (fun f => rfl) ?_
  refine mr_f (C := (nI o2) = (nI p)) (fun e => q2 ((nI_eq (by omega) (by omega)).mp e)) (fun f => rfl) ?_
  refine mr_seg 6 (pc1 := 7) (ls1 := [some (.ref 140), some (.int (nI p)), some (.int 3)]) (st1 := [.int 50, .ref 140]) (M1 := (rSm (er (he, ke, ki, fi, fa, [o0, o1, o2, o3, p], 5, a, g, l, w, s)))) (fun f => rfl) ?_
  refine mr_ldn (xs := (er (he, ke, ki, fi, fa, [o0, o1, o2, o3, p], 5, a, g, l, w, s))) rfl rfl (k := 50) (by decide) (er_or (K := (he, ke, ki, fi, fa, [o0, o1, o2, o3, p], 5, a, g, l, w, s)) v1 rfl (j := 3) (by decide)) ?_
  refine mr_seg 1 (pc1 := 9) (ls1 := [some (.ref 140), some (.int (nI p)), some (.int 3)]) (st1 := [.int (nI p), .int (nI o3)]) (M1 := (rSm (er (he, ke, ki, fi, fa, [o0, o1, o2, o3, p], 5, a, g, l, w, s)))) (fun f => rfl) ?_
  refine mr_f (C := (nI o3) = (nI p)) (fun e => q3 ((nI_eq (by omega) (by omega)).mp e)) (fun f => rfl) ?_
  refine mr_seg 6 (pc1 := 7) (ls1 := [some (.ref 140), some (.int (nI p)), some (.int 4)]) (st1 := [.int 51, .ref 140]) (M1 := (rSm (er (he, ke, ki, fi, fa, [o0, o1, o2, o3, p], 5, a, g, l, w, s)))) (fun f => rfl) ?_
  refine mr_ldn (xs := (er (he, ke, ki, fi, fa, [o0, o1, o2, o3, p], 5, a, g, l, w, s))) rfl rfl (k := 51) (by decide) (er_or (K := (he, ke, ki, fi, fa, [o0, o1, o2, o3, p], 5, a, g, l, w, s)) v1 rfl (j := 4) (by decide)) ?_
  refine mr_seg 1 (pc1 := 9) (ls1 := [some (.ref 140), some (.int (nI p)), some (.int 4)]) (st1 := [.int (nI p), .int (nI p)]) (M1 := (rSm (er (he, ke, ki, fi, fa, [o0, o1, o2, o3, p], 5, a, g, l, w, s)))) (fun f => rfl) ?_
  refine mr_t (C := (nI p) = (nI p)) (rfl) (fun f => rfl) ?_
  exact mr_ret 2 (fun f => rfl)
theorem rc_place_m (he ke ki fi fa or : List Nat) (mi a g l w s : Nat) (p : Nat) (v1 : he.length = 25) (hp : p < mi) (hO : or ∈ kOl mi) (hm : mi ≤ 5) : mm_R 144 0 [some (.ref 140), some (.int (nI p)), none] [] (rSm (er (he, ke, ki, fi, fa, or, mi, a, g, l, w, s))) (some (.int (nI (kplace or p))), rSm (er (he, ke, ki, fi, fa, or, mi, a, g, l, w, s))) := by
  obtain ⟨j, hj, hp1, hp2⟩ := kO_pos mi hm or hO p hp
  have hl := kO_len mi hm or hO
  have h5 : ∀ i, i < 5 → kg or i < 5 := kO_lt5 mi hm or hO
  match or, hl with
  | [o0, o1, o2, o3, o4], _ =>
    have b0 : o0 < 5 := h5 0 (by omega)
    have b1 : o1 < 5 := h5 1 (by omega)
    have b2 : o2 < 5 := h5 2 (by omega)
    have b3 : o3 < 5 := h5 3 (by omega)
    have b4 : o4 < 5 := h5 4 (by omega)
    match mi, j, hj, hm with
    | 1, 0, _, _ => cases hp1; exact mr_eq (rc_place_m_1_0 he ke ki fi fa a g l w s o0 o1 o2 o3 o4 v1  b0 b1 b2 b3 b4) (by show _ = (some (Value.int (nI (kplace [o0, o1, o2, o3, o4] o0))), _); rw [show kplace [o0, o1, o2, o3, o4] o0 = 0 by simp [kplace]]; rfl)
    | 2, 0, _, _ => cases hp1; exact mr_eq (rc_place_m_2_0 he ke ki fi fa a g l w s o0 o1 o2 o3 o4 v1 (hp2 1 (by omega) (by omega)) b0 b1 b2 b3 b4) (by show _ = (some (Value.int (nI (kplace [o0, o1, o2, o3, o4] o0))), _); rw [show kplace [o0, o1, o2, o3, o4] o0 = 0 by simp [kplace]]; rfl)
    | 2, 1, _, _ => cases hp1; exact mr_eq (rc_place_m_2_1 he ke ki fi fa a g l w s o1 o0 o2 o3 o4 v1 (hp2 0 (by omega) (by omega)) b1 b0 b2 b3 b4) (by show _ = (some (Value.int (nI (kplace [o0, o1, o2, o3, o4] o1))), _); rw [show kplace [o0, o1, o2, o3, o4] o1 = 1 by simp [kplace, show ¬ o0 = o1 from hp2 0 (by omega) (by omega)]]; rfl)
    | 3, 0, _, _ => cases hp1; exact mr_eq (rc_place_m_3_0 he ke ki fi fa a g l w s o0 o1 o2 o3 o4 v1 (hp2 1 (by omega) (by omega)) (hp2 2 (by omega) (by omega)) b0 b1 b2 b3 b4) (by show _ = (some (Value.int (nI (kplace [o0, o1, o2, o3, o4] o0))), _); rw [show kplace [o0, o1, o2, o3, o4] o0 = 0 by simp [kplace]]; rfl)
    | 3, 1, _, _ => cases hp1; exact mr_eq (rc_place_m_3_1 he ke ki fi fa a g l w s o1 o0 o2 o3 o4 v1 (hp2 0 (by omega) (by omega)) (hp2 2 (by omega) (by omega)) b1 b0 b2 b3 b4) (by show _ = (some (Value.int (nI (kplace [o0, o1, o2, o3, o4] o1))), _); rw [show kplace [o0, o1, o2, o3, o4] o1 = 1 by simp [kplace, show ¬ o0 = o1 from hp2 0 (by omega) (by omega)]]; rfl)
    | 3, 2, _, _ => cases hp1; exact mr_eq (rc_place_m_3_2 he ke ki fi fa a g l w s o2 o0 o1 o3 o4 v1 (hp2 0 (by omega) (by omega)) (hp2 1 (by omega) (by omega)) b2 b0 b1 b3 b4) (by show _ = (some (Value.int (nI (kplace [o0, o1, o2, o3, o4] o2))), _); rw [show kplace [o0, o1, o2, o3, o4] o2 = 2 by simp [kplace, show ¬ o0 = o2 from hp2 0 (by omega) (by omega), show ¬ o1 = o2 from hp2 1 (by omega) (by omega)]]; rfl)
    | 4, 0, _, _ => cases hp1; exact mr_eq (rc_place_m_4_0 he ke ki fi fa a g l w s o0 o1 o2 o3 o4 v1 (hp2 1 (by omega) (by omega)) (hp2 2 (by omega) (by omega)) (hp2 3 (by omega) (by omega)) b0 b1 b2 b3 b4) (by show _ = (some (Value.int (nI (kplace [o0, o1, o2, o3, o4] o0))), _); rw [show kplace [o0, o1, o2, o3, o4] o0 = 0 by simp [kplace]]; rfl)
    | 4, 1, _, _ => cases hp1; exact mr_eq (rc_place_m_4_1 he ke ki fi fa a g l w s o1 o0 o2 o3 o4 v1 (hp2 0 (by omega) (by omega)) (hp2 2 (by omega) (by omega)) (hp2 3 (by omega) (by omega)) b1 b0 b2 b3 b4) (by show _ = (some (Value.int (nI (kplace [o0, o1, o2, o3, o4] o1))), _); rw [show kplace [o0, o1, o2, o3, o4] o1 = 1 by simp [kplace, show ¬ o0 = o1 from hp2 0 (by omega) (by omega)]]; rfl)
    | 4, 2, _, _ => cases hp1; exact mr_eq (rc_place_m_4_2 he ke ki fi fa a g l w s o2 o0 o1 o3 o4 v1 (hp2 0 (by omega) (by omega)) (hp2 1 (by omega) (by omega)) (hp2 3 (by omega) (by omega)) b2 b0 b1 b3 b4) (by show _ = (some (Value.int (nI (kplace [o0, o1, o2, o3, o4] o2))), _); rw [show kplace [o0, o1, o2, o3, o4] o2 = 2 by simp [kplace, show ¬ o0 = o2 from hp2 0 (by omega) (by omega), show ¬ o1 = o2 from hp2 1 (by omega) (by omega)]]; rfl)
    | 4, 3, _, _ => cases hp1; exact mr_eq (rc_place_m_4_3 he ke ki fi fa a g l w s o3 o0 o1 o2 o4 v1 (hp2 0 (by omega) (by omega)) (hp2 1 (by omega) (by omega)) (hp2 2 (by omega) (by omega)) b3 b0 b1 b2 b4) (by show _ = (some (Value.int (nI (kplace [o0, o1, o2, o3, o4] o3))), _); rw [show kplace [o0, o1, o2, o3, o4] o3 = 3 by simp [kplace, show ¬ o0 = o3 from hp2 0 (by omega) (by omega), show ¬ o1 = o3 from hp2 1 (by omega) (by omega), show ¬ o2 = o3 from hp2 2 (by omega) (by omega)]]; rfl)
    | 5, 0, _, _ => cases hp1; exact mr_eq (rc_place_m_5_0 he ke ki fi fa a g l w s o0 o1 o2 o3 o4 v1 (hp2 1 (by omega) (by omega)) (hp2 2 (by omega) (by omega)) (hp2 3 (by omega) (by omega)) (hp2 4 (by omega) (by omega)) b0 b1 b2 b3 b4) (by show _ = (some (Value.int (nI (kplace [o0, o1, o2, o3, o4] o0))), _); rw [show kplace [o0, o1, o2, o3, o4] o0 = 0 by simp [kplace]]; rfl)
    | 5, 1, _, _ => cases hp1; exact mr_eq (rc_place_m_5_1 he ke ki fi fa a g l w s o1 o0 o2 o3 o4 v1 (hp2 0 (by omega) (by omega)) (hp2 2 (by omega) (by omega)) (hp2 3 (by omega) (by omega)) (hp2 4 (by omega) (by omega)) b1 b0 b2 b3 b4) (by show _ = (some (Value.int (nI (kplace [o0, o1, o2, o3, o4] o1))), _); rw [show kplace [o0, o1, o2, o3, o4] o1 = 1 by simp [kplace, show ¬ o0 = o1 from hp2 0 (by omega) (by omega)]]; rfl)
    | 5, 2, _, _ => cases hp1; exact mr_eq (rc_place_m_5_2 he ke ki fi fa a g l w s o2 o0 o1 o3 o4 v1 (hp2 0 (by omega) (by omega)) (hp2 1 (by omega) (by omega)) (hp2 3 (by omega) (by omega)) (hp2 4 (by omega) (by omega)) b2 b0 b1 b3 b4) (by show _ = (some (Value.int (nI (kplace [o0, o1, o2, o3, o4] o2))), _); rw [show kplace [o0, o1, o2, o3, o4] o2 = 2 by simp [kplace, show ¬ o0 = o2 from hp2 0 (by omega) (by omega), show ¬ o1 = o2 from hp2 1 (by omega) (by omega)]]; rfl)
    | 5, 3, _, _ => cases hp1; exact mr_eq (rc_place_m_5_3 he ke ki fi fa a g l w s o3 o0 o1 o2 o4 v1 (hp2 0 (by omega) (by omega)) (hp2 1 (by omega) (by omega)) (hp2 2 (by omega) (by omega)) (hp2 4 (by omega) (by omega)) b3 b0 b1 b2 b4) (by show _ = (some (Value.int (nI (kplace [o0, o1, o2, o3, o4] o3))), _); rw [show kplace [o0, o1, o2, o3, o4] o3 = 3 by simp [kplace, show ¬ o0 = o3 from hp2 0 (by omega) (by omega), show ¬ o1 = o3 from hp2 1 (by omega) (by omega), show ¬ o2 = o3 from hp2 2 (by omega) (by omega)]]; rfl)
    | 5, 4, _, _ => cases hp1; exact mr_eq (rc_place_m_5_4 he ke ki fi fa a g l w s o4 o0 o1 o2 o3 v1 (hp2 0 (by omega) (by omega)) (hp2 1 (by omega) (by omega)) (hp2 2 (by omega) (by omega)) (hp2 3 (by omega) (by omega)) b4 b0 b1 b2 b3) (by show _ = (some (Value.int (nI (kplace [o0, o1, o2, o3, o4] o4))), _); rw [show kplace [o0, o1, o2, o3, o4] o4 = 4 by simp [kplace, show ¬ o0 = o4 from hp2 0 (by omega) (by omega), show ¬ o1 = o4 from hp2 1 (by omega) (by omega), show ¬ o2 = o4 from hp2 2 (by omega) (by omega), show ¬ o3 = o4 from hp2 3 (by omega) (by omega)]]; rfl)
    | mi, j + 5, hj, hm => exact absurd hj (by omega)
    | mi + 6, _, _, hm => exact absurd hm (by omega)
    | 0, 0, hj, _ => exact absurd hj (by omega)
    | 0, 1, hj, _ => exact absurd hj (by omega)
    | 0, 2, hj, _ => exact absurd hj (by omega)
    | 0, 3, hj, _ => exact absurd hj (by omega)
    | 0, 4, hj, _ => exact absurd hj (by omega)
    | 1, 1, hj, _ => exact absurd hj (by omega)
    | 1, 2, hj, _ => exact absurd hj (by omega)
    | 1, 3, hj, _ => exact absurd hj (by omega)
    | 1, 4, hj, _ => exact absurd hj (by omega)
    | 2, 2, hj, _ => exact absurd hj (by omega)
    | 2, 3, hj, _ => exact absurd hj (by omega)
    | 2, 4, hj, _ => exact absurd hj (by omega)
    | 3, 3, hj, _ => exact absurd hj (by omega)
    | 3, 4, hj, _ => exact absurd hj (by omega)
    | 4, 4, hj, _ => exact absurd hj (by omega)
set_option maxRecDepth 100000 in
theorem rc_last_m_1_0 (he ke ki fi fa : List Nat) (a g l w s p o1 o2 o3 o4 : Nat) (v1 : he.length = 25) (hp : p < 5) (b1 : o1 < 5) (b2 : o2 < 5) (b3 : o3 < 5) (b4 : o4 < 5) : mm_R 143 0 [some (.ref 140), some (.int (nI p)), none] [] (rSm (er (he, ke, ki, fi, fa, [p, o1, o2, o3, o4], 1, a, g, l, w, s))) (none, rSm (er (he, ke, ki, fi, fa, klast [p, o1, o2, o3, o4] 1 p, 1, a, g, l, w, s))) := by
  refine mr_seg 2 (pc1 := 2) (ls1 := [some (.ref 140), some (.int (nI p)), none]) (st1 := [.int (nI p), .ref 140]) (M1 := (rSm (er (he, ke, ki, fi, fa, [p, o1, o2, o3, o4], 1, a, g, l, w, s)))) (fun f => rfl) ?_
  refine mr_call (y := 144) (y0 := 5) (L := [some (.ref 140), some (.int (nI p)), none]) (rest := []) (rr := some (.int 0)) (M1 := (rSm (er (he, ke, ki, fi, fa, [p, o1, o2, o3, o4], 1, a, g, l, w, s)))) (fun f => rfl) (rc_place_m_1_0 he ke ki fi fa a g l w s p o1 o2 o3 o4 v1 hp b1 b2 b3 b4) ?_
  refine mr_seg 4 (pc1 := 9) (ls1 := [some (.ref 140), some (.int (nI p)), some (.int 0)]) (st1 := [.int 0, .ref 140, .int 0]) (M1 := (rSm (er (he, ke, ki, fi, fa, [p, o1, o2, o3, o4], 1, a, g, l, w, s)))) (fun f => rfl) ?_
  refine mr_ldn (xs := (er (he, ke, ki, fi, fa, [p, o1, o2, o3, o4], 1, a, g, l, w, s))) rfl rfl (k := 0) (by decide) rfl ?_
  refine mr_seg 2 (pc1 := 12) (ls1 := [some (.ref 140), some (.int (nI p)), some (.int 0)]) (st1 := [.int (1 - 1), .int 0]) (M1 := (rSm (er (he, ke, ki, fi, fa, [p, o1, o2, o3, o4], 1, a, g, l, w, s)))) (fun f => rfl) ?_
  refine mr_v (show (1 : Int32) - 1 = 0 by decide) ?_
  refine mr_seg 5 (pc1 := 40) (ls1 := [some (.ref 140), some (.int (nI p)), some (.int 0)]) (st1 := [.int 0, .ref 140, .int 47, .ref 140]) (M1 := (rSm (er (he, ke, ki, fi, fa, [p, o1, o2, o3, o4], 1, a, g, l, w, s)))) (fun f => rfl) ?_
  refine mr_ldn (xs := (er (he, ke, ki, fi, fa, [p, o1, o2, o3, o4], 1, a, g, l, w, s))) rfl rfl (k := 0) (by decide) rfl ?_
  refine mr_seg 3 (pc1 := 44) (ls1 := [some (.ref 140), some (.int (nI p)), some (.int 0)]) (st1 := [.int (48 - 1), .ref 140]) (M1 := (rSm (er (he, ke, ki, fi, fa, [p, o1, o2, o3, o4], 1, a, g, l, w, s)))) (fun f => rfl) ?_
  refine mr_v (show (48 : Int32) - 1 = 47 by decide) ?_
  refine mr_seg 1 (pc1 := 45) (ls1 := [some (.ref 140), some (.int (nI p)), some (.int 0)]) (st1 := [.int (nI p), .int 47, .ref 140]) (M1 := (rSm (er (he, ke, ki, fi, fa, [p, o1, o2, o3, o4], 1, a, g, l, w, s)))) (fun f => rfl) ?_
  refine mr_stn (xs := (er (he, ke, ki, fi, fa, [p, o1, o2, o3, o4], 1, a, g, l, w, s))) (ys := (er (he, ke, ki, fi, fa, [p, o1, o2, o3, o4], 1, a, g, l, w, s))) (M2 := (rSm (er (he, ke, ki, fi, fa, [p, o1, o2, o3, o4], 1, a, g, l, w, s)))) rfl rfl (k := 47) (by decide) (by rw [er_leq (K := (he, ke, ki, fi, fa, [p, o1, o2, o3, o4], 1, a, g, l, w, s)) v1 rfl]; decide) (er_ors (K := (he, ke, ki, fi, fa, [p, o1, o2, o3, o4], 1, a, g, l, w, s)) v1 (j := 0)) rfl ?_
  refine mr_eq (mr_ret 1 (o := (none, (rSm (er (he, ke, ki, fi, fa, [p, o1, o2, o3, o4], 1, a, g, l, w, s))))) (fun f => rfl)) ?_
  have e : klast [p, o1, o2, o3, o4] 1 p = [p, o1, o2, o3, o4] := by simp [klast]
  rw [e]
set_option maxRecDepth 100000 in
theorem rc_last_m_2_0 (he ke ki fi fa : List Nat) (a g l w s p o1 o2 o3 o4 : Nat) (v1 : he.length = 25) (q1 : ¬ o1 = p) (hp : p < 5) (b1 : o1 < 5) (b2 : o2 < 5) (b3 : o3 < 5) (b4 : o4 < 5) : mm_R 143 0 [some (.ref 140), some (.int (nI p)), none] [] (rSm (er (he, ke, ki, fi, fa, [p, o1, o2, o3, o4], 2, a, g, l, w, s))) (none, rSm (er (he, ke, ki, fi, fa, klast [p, o1, o2, o3, o4] 2 p, 2, a, g, l, w, s))) := by
  refine mr_seg 2 (pc1 := 2) (ls1 := [some (.ref 140), some (.int (nI p)), none]) (st1 := [.int (nI p), .ref 140]) (M1 := (rSm (er (he, ke, ki, fi, fa, [p, o1, o2, o3, o4], 2, a, g, l, w, s)))) (fun f => rfl) ?_
  refine mr_call (y := 144) (y0 := 5) (L := [some (.ref 140), some (.int (nI p)), none]) (rest := []) (rr := some (.int 0)) (M1 := (rSm (er (he, ke, ki, fi, fa, [p, o1, o2, o3, o4], 2, a, g, l, w, s)))) (fun f => rfl) (rc_place_m_2_0 he ke ki fi fa a g l w s p o1 o2 o3 o4 v1 q1 hp b1 b2 b3 b4) ?_
  refine mr_seg 4 (pc1 := 9) (ls1 := [some (.ref 140), some (.int (nI p)), some (.int 0)]) (st1 := [.int 0, .ref 140, .int 0]) (M1 := (rSm (er (he, ke, ki, fi, fa, [p, o1, o2, o3, o4], 2, a, g, l, w, s)))) (fun f => rfl) ?_
  refine mr_ldn (xs := (er (he, ke, ki, fi, fa, [p, o1, o2, o3, o4], 2, a, g, l, w, s))) rfl rfl (k := 0) (by decide) rfl ?_
  refine mr_seg 2 (pc1 := 12) (ls1 := [some (.ref 140), some (.int (nI p)), some (.int 0)]) (st1 := [.int (2 - 1), .int 0]) (M1 := (rSm (er (he, ke, ki, fi, fa, [p, o1, o2, o3, o4], 2, a, g, l, w, s)))) (fun f => rfl) ?_
  refine mr_v (show (2 : Int32) - 1 = 1 by decide) ?_
  refine mr_seg 11 (pc1 := 27) (ls1 := [some (.ref 140), some (.int (nI p)), some (.int 0)]) (st1 := [.int 48, .ref 140, .int 47, .ref 140]) (M1 := (rSm (er (he, ke, ki, fi, fa, [p, o1, o2, o3, o4], 2, a, g, l, w, s)))) (fun f => rfl) ?_
  refine mr_ldn (xs := (er (he, ke, ki, fi, fa, [p, o1, o2, o3, o4], 2, a, g, l, w, s))) rfl rfl (k := 48) (by decide) (er_or (K := (he, ke, ki, fi, fa, [p, o1, o2, o3, o4], 2, a, g, l, w, s)) v1 rfl (j := 1) (by decide)) ?_
  refine mr_stn (xs := (er (he, ke, ki, fi, fa, [p, o1, o2, o3, o4], 2, a, g, l, w, s))) (ys := (er (he, ke, ki, fi, fa, [o1, o1, o2, o3, o4], 2, a, g, l, w, s))) (M2 := (rSm (er (he, ke, ki, fi, fa, [o1, o1, o2, o3, o4], 2, a, g, l, w, s)))) rfl rfl (k := 47) (by decide) (by rw [er_leq (K := (he, ke, ki, fi, fa, [p, o1, o2, o3, o4], 2, a, g, l, w, s)) v1 rfl]; decide) (er_ors (K := (he, ke, ki, fi, fa, [p, o1, o2, o3, o4], 2, a, g, l, w, s)) v1 (j := 0)) rfl ?_
  refine mr_seg 5 (pc1 := 9) (ls1 := [some (.ref 140), some (.int (nI p)), some (.int 1)]) (st1 := [.int 0, .ref 140, .int 1]) (M1 := (rSm (er (he, ke, ki, fi, fa, [o1, o1, o2, o3, o4], 2, a, g, l, w, s)))) (fun f => rfl) ?_
  refine mr_ldn (xs := (er (he, ke, ki, fi, fa, [o1, o1, o2, o3, o4], 2, a, g, l, w, s))) rfl rfl (k := 0) (by decide) rfl ?_
  refine mr_seg 2 (pc1 := 12) (ls1 := [some (.ref 140), some (.int (nI p)), some (.int 1)]) (st1 := [.int (2 - 1), .int 1]) (M1 := (rSm (er (he, ke, ki, fi, fa, [o1, o1, o2, o3, o4], 2, a, g, l, w, s)))) (fun f => rfl) ?_
  refine mr_v (show (2 : Int32) - 1 = 1 by decide) ?_
  refine mr_seg 5 (pc1 := 40) (ls1 := [some (.ref 140), some (.int (nI p)), some (.int 1)]) (st1 := [.int 0, .ref 140, .int 47, .ref 140]) (M1 := (rSm (er (he, ke, ki, fi, fa, [o1, o1, o2, o3, o4], 2, a, g, l, w, s)))) (fun f => rfl) ?_
  refine mr_ldn (xs := (er (he, ke, ki, fi, fa, [o1, o1, o2, o3, o4], 2, a, g, l, w, s))) rfl rfl (k := 0) (by decide) rfl ?_
  refine mr_seg 3 (pc1 := 44) (ls1 := [some (.ref 140), some (.int (nI p)), some (.int 1)]) (st1 := [.int (49 - 1), .ref 140]) (M1 := (rSm (er (he, ke, ki, fi, fa, [o1, o1, o2, o3, o4], 2, a, g, l, w, s)))) (fun f => rfl) ?_
  refine mr_v (show (49 : Int32) - 1 = 48 by decide) ?_
  refine mr_seg 1 (pc1 := 45) (ls1 := [some (.ref 140), some (.int (nI p)), some (.int 1)]) (st1 := [.int (nI p), .int 48, .ref 140]) (M1 := (rSm (er (he, ke, ki, fi, fa, [o1, o1, o2, o3, o4], 2, a, g, l, w, s)))) (fun f => rfl) ?_
  refine mr_stn (xs := (er (he, ke, ki, fi, fa, [o1, o1, o2, o3, o4], 2, a, g, l, w, s))) (ys := (er (he, ke, ki, fi, fa, [o1, p, o2, o3, o4], 2, a, g, l, w, s))) (M2 := (rSm (er (he, ke, ki, fi, fa, [o1, p, o2, o3, o4], 2, a, g, l, w, s)))) rfl rfl (k := 48) (by decide) (by rw [er_leq (K := (he, ke, ki, fi, fa, [o1, o1, o2, o3, o4], 2, a, g, l, w, s)) v1 rfl]; decide) (er_ors (K := (he, ke, ki, fi, fa, [o1, o1, o2, o3, o4], 2, a, g, l, w, s)) v1 (j := 1)) rfl ?_
  refine mr_eq (mr_ret 1 (o := (none, (rSm (er (he, ke, ki, fi, fa, [o1, p, o2, o3, o4], 2, a, g, l, w, s))))) (fun f => rfl)) ?_
  have e : klast [p, o1, o2, o3, o4] 2 p = [o1, p, o2, o3, o4] := by simp [klast, q1]
  rw [e]
set_option maxRecDepth 100000 in
theorem rc_last_m_2_1 (he ke ki fi fa : List Nat) (a g l w s p o0 o2 o3 o4 : Nat) (v1 : he.length = 25) (q0 : ¬ o0 = p) (hp : p < 5) (b0 : o0 < 5) (b2 : o2 < 5) (b3 : o3 < 5) (b4 : o4 < 5) : mm_R 143 0 [some (.ref 140), some (.int (nI p)), none] [] (rSm (er (he, ke, ki, fi, fa, [o0, p, o2, o3, o4], 2, a, g, l, w, s))) (none, rSm (er (he, ke, ki, fi, fa, klast [o0, p, o2, o3, o4] 2 p, 2, a, g, l, w, s))) := by
  refine mr_seg 2 (pc1 := 2) (ls1 := [some (.ref 140), some (.int (nI p)), none]) (st1 := [.int (nI p), .ref 140]) (M1 := (rSm (er (he, ke, ki, fi, fa, [o0, p, o2, o3, o4], 2, a, g, l, w, s)))) (fun f => rfl) ?_
  refine mr_call (y := 144) (y0 := 5) (L := [some (.ref 140), some (.int (nI p)), none]) (rest := []) (rr := some (.int 1)) (M1 := (rSm (er (he, ke, ki, fi, fa, [o0, p, o2, o3, o4], 2, a, g, l, w, s)))) (fun f => rfl) (rc_place_m_2_1 he ke ki fi fa a g l w s p o0 o2 o3 o4 v1 q0 hp b0 b2 b3 b4) ?_
  refine mr_seg 4 (pc1 := 9) (ls1 := [some (.ref 140), some (.int (nI p)), some (.int 1)]) (st1 := [.int 0, .ref 140, .int 1]) (M1 := (rSm (er (he, ke, ki, fi, fa, [o0, p, o2, o3, o4], 2, a, g, l, w, s)))) (fun f => rfl) ?_
  refine mr_ldn (xs := (er (he, ke, ki, fi, fa, [o0, p, o2, o3, o4], 2, a, g, l, w, s))) rfl rfl (k := 0) (by decide) rfl ?_
  refine mr_seg 2 (pc1 := 12) (ls1 := [some (.ref 140), some (.int (nI p)), some (.int 1)]) (st1 := [.int (2 - 1), .int 1]) (M1 := (rSm (er (he, ke, ki, fi, fa, [o0, p, o2, o3, o4], 2, a, g, l, w, s)))) (fun f => rfl) ?_
  refine mr_v (show (2 : Int32) - 1 = 1 by decide) ?_
  refine mr_seg 5 (pc1 := 40) (ls1 := [some (.ref 140), some (.int (nI p)), some (.int 1)]) (st1 := [.int 0, .ref 140, .int 47, .ref 140]) (M1 := (rSm (er (he, ke, ki, fi, fa, [o0, p, o2, o3, o4], 2, a, g, l, w, s)))) (fun f => rfl) ?_
  refine mr_ldn (xs := (er (he, ke, ki, fi, fa, [o0, p, o2, o3, o4], 2, a, g, l, w, s))) rfl rfl (k := 0) (by decide) rfl ?_
  refine mr_seg 3 (pc1 := 44) (ls1 := [some (.ref 140), some (.int (nI p)), some (.int 1)]) (st1 := [.int (49 - 1), .ref 140]) (M1 := (rSm (er (he, ke, ki, fi, fa, [o0, p, o2, o3, o4], 2, a, g, l, w, s)))) (fun f => rfl) ?_
  refine mr_v (show (49 : Int32) - 1 = 48 by decide) ?_
  refine mr_seg 1 (pc1 := 45) (ls1 := [some (.ref 140), some (.int (nI p)), some (.int 1)]) (st1 := [.int (nI p), .int 48, .ref 140]) (M1 := (rSm (er (he, ke, ki, fi, fa, [o0, p, o2, o3, o4], 2, a, g, l, w, s)))) (fun f => rfl) ?_
  refine mr_stn (xs := (er (he, ke, ki, fi, fa, [o0, p, o2, o3, o4], 2, a, g, l, w, s))) (ys := (er (he, ke, ki, fi, fa, [o0, p, o2, o3, o4], 2, a, g, l, w, s))) (M2 := (rSm (er (he, ke, ki, fi, fa, [o0, p, o2, o3, o4], 2, a, g, l, w, s)))) rfl rfl (k := 48) (by decide) (by rw [er_leq (K := (he, ke, ki, fi, fa, [o0, p, o2, o3, o4], 2, a, g, l, w, s)) v1 rfl]; decide) (er_ors (K := (he, ke, ki, fi, fa, [o0, p, o2, o3, o4], 2, a, g, l, w, s)) v1 (j := 1)) rfl ?_
  refine mr_eq (mr_ret 1 (o := (none, (rSm (er (he, ke, ki, fi, fa, [o0, p, o2, o3, o4], 2, a, g, l, w, s))))) (fun f => rfl)) ?_
  have e : klast [o0, p, o2, o3, o4] 2 p = [o0, p, o2, o3, o4] := by simp [klast, q0]
  rw [e]
set_option maxRecDepth 100000 in
theorem rc_last_m_3_0 (he ke ki fi fa : List Nat) (a g l w s p o1 o2 o3 o4 : Nat) (v1 : he.length = 25) (q1 : ¬ o1 = p) (q2 : ¬ o2 = p) (hp : p < 5) (b1 : o1 < 5) (b2 : o2 < 5) (b3 : o3 < 5) (b4 : o4 < 5) : mm_R 143 0 [some (.ref 140), some (.int (nI p)), none] [] (rSm (er (he, ke, ki, fi, fa, [p, o1, o2, o3, o4], 3, a, g, l, w, s))) (none, rSm (er (he, ke, ki, fi, fa, klast [p, o1, o2, o3, o4] 3 p, 3, a, g, l, w, s))) := by
  refine mr_seg 2 (pc1 := 2) (ls1 := [some (.ref 140), some (.int (nI p)), none]) (st1 := [.int (nI p), .ref 140]) (M1 := (rSm (er (he, ke, ki, fi, fa, [p, o1, o2, o3, o4], 3, a, g, l, w, s)))) (fun f => rfl) ?_
  refine mr_call (y := 144) (y0 := 5) (L := [some (.ref 140), some (.int (nI p)), none]) (rest := []) (rr := some (.int 0)) (M1 := (rSm (er (he, ke, ki, fi, fa, [p, o1, o2, o3, o4], 3, a, g, l, w, s)))) (fun f => rfl) (rc_place_m_3_0 he ke ki fi fa a g l w s p o1 o2 o3 o4 v1 q1 q2 hp b1 b2 b3 b4) ?_
  refine mr_seg 4 (pc1 := 9) (ls1 := [some (.ref 140), some (.int (nI p)), some (.int 0)]) (st1 := [.int 0, .ref 140, .int 0]) (M1 := (rSm (er (he, ke, ki, fi, fa, [p, o1, o2, o3, o4], 3, a, g, l, w, s)))) (fun f => rfl) ?_
  refine mr_ldn (xs := (er (he, ke, ki, fi, fa, [p, o1, o2, o3, o4], 3, a, g, l, w, s))) rfl rfl (k := 0) (by decide) rfl ?_
  refine mr_seg 2 (pc1 := 12) (ls1 := [some (.ref 140), some (.int (nI p)), some (.int 0)]) (st1 := [.int (3 - 1), .int 0]) (M1 := (rSm (er (he, ke, ki, fi, fa, [p, o1, o2, o3, o4], 3, a, g, l, w, s)))) (fun f => rfl) ?_
  refine mr_v (show (3 : Int32) - 1 = 2 by decide) ?_
  refine mr_seg 11 (pc1 := 27) (ls1 := [some (.ref 140), some (.int (nI p)), some (.int 0)]) (st1 := [.int 48, .ref 140, .int 47, .ref 140]) (M1 := (rSm (er (he, ke, ki, fi, fa, [p, o1, o2, o3, o4], 3, a, g, l, w, s)))) (fun f => rfl) ?_
  refine mr_ldn (xs := (er (he, ke, ki, fi, fa, [p, o1, o2, o3, o4], 3, a, g, l, w, s))) rfl rfl (k := 48) (by decide) (er_or (K := (he, ke, ki, fi, fa, [p, o1, o2, o3, o4], 3, a, g, l, w, s)) v1 rfl (j := 1) (by decide)) ?_
  refine mr_stn (xs := (er (he, ke, ki, fi, fa, [p, o1, o2, o3, o4], 3, a, g, l, w, s))) (ys := (er (he, ke, ki, fi, fa, [o1, o1, o2, o3, o4], 3, a, g, l, w, s))) (M2 := (rSm (er (he, ke, ki, fi, fa, [o1, o1, o2, o3, o4], 3, a, g, l, w, s)))) rfl rfl (k := 47) (by decide) (by rw [er_leq (K := (he, ke, ki, fi, fa, [p, o1, o2, o3, o4], 3, a, g, l, w, s)) v1 rfl]; decide) (er_ors (K := (he, ke, ki, fi, fa, [p, o1, o2, o3, o4], 3, a, g, l, w, s)) v1 (j := 0)) rfl ?_
  refine mr_seg 5 (pc1 := 9) (ls1 := [some (.ref 140), some (.int (nI p)), some (.int 1)]) (st1 := [.int 0, .ref 140, .int 1]) (M1 := (rSm (er (he, ke, ki, fi, fa, [o1, o1, o2, o3, o4], 3, a, g, l, w, s)))) (fun f => rfl) ?_
  refine mr_ldn (xs := (er (he, ke, ki, fi, fa, [o1, o1, o2, o3, o4], 3, a, g, l, w, s))) rfl rfl (k := 0) (by decide) rfl ?_
  refine mr_seg 2 (pc1 := 12) (ls1 := [some (.ref 140), some (.int (nI p)), some (.int 1)]) (st1 := [.int (3 - 1), .int 1]) (M1 := (rSm (er (he, ke, ki, fi, fa, [o1, o1, o2, o3, o4], 3, a, g, l, w, s)))) (fun f => rfl) ?_
  refine mr_v (show (3 : Int32) - 1 = 2 by decide) ?_
  refine mr_seg 11 (pc1 := 27) (ls1 := [some (.ref 140), some (.int (nI p)), some (.int 1)]) (st1 := [.int 49, .ref 140, .int 48, .ref 140]) (M1 := (rSm (er (he, ke, ki, fi, fa, [o1, o1, o2, o3, o4], 3, a, g, l, w, s)))) (fun f => rfl) ?_
  refine mr_ldn (xs := (er (he, ke, ki, fi, fa, [o1, o1, o2, o3, o4], 3, a, g, l, w, s))) rfl rfl (k := 49) (by decide) (er_or (K := (he, ke, ki, fi, fa, [o1, o1, o2, o3, o4], 3, a, g, l, w, s)) v1 rfl (j := 2) (by decide)) ?_
  refine mr_stn (xs := (er (he, ke, ki, fi, fa, [o1, o1, o2, o3, o4], 3, a, g, l, w, s))) (ys := (er (he, ke, ki, fi, fa, [o1, o2, o2, o3, o4], 3, a, g, l, w, s))) (M2 := (rSm (er (he, ke, ki, fi, fa, [o1, o2, o2, o3, o4], 3, a, g, l, w, s)))) rfl rfl (k := 48) (by decide) (by rw [er_leq (K := (he, ke, ki, fi, fa, [o1, o1, o2, o3, o4], 3, a, g, l, w, s)) v1 rfl]; decide) (er_ors (K := (he, ke, ki, fi, fa, [o1, o1, o2, o3, o4], 3, a, g, l, w, s)) v1 (j := 1)) rfl ?_
  refine mr_seg 5 (pc1 := 9) (ls1 := [some (.ref 140), some (.int (nI p)), some (.int 2)]) (st1 := [.int 0, .ref 140, .int 2]) (M1 := (rSm (er (he, ke, ki, fi, fa, [o1, o2, o2, o3, o4], 3, a, g, l, w, s)))) (fun f => rfl) ?_
  refine mr_ldn (xs := (er (he, ke, ki, fi, fa, [o1, o2, o2, o3, o4], 3, a, g, l, w, s))) rfl rfl (k := 0) (by decide) rfl ?_
  refine mr_seg 2 (pc1 := 12) (ls1 := [some (.ref 140), some (.int (nI p)), some (.int 2)]) (st1 := [.int (3 - 1), .int 2]) (M1 := (rSm (er (he, ke, ki, fi, fa, [o1, o2, o2, o3, o4], 3, a, g, l, w, s)))) (fun f => rfl) ?_
  refine mr_v (show (3 : Int32) - 1 = 2 by decide) ?_
  refine mr_seg 5 (pc1 := 40) (ls1 := [some (.ref 140), some (.int (nI p)), some (.int 2)]) (st1 := [.int 0, .ref 140, .int 47, .ref 140]) (M1 := (rSm (er (he, ke, ki, fi, fa, [o1, o2, o2, o3, o4], 3, a, g, l, w, s)))) (fun f => rfl) ?_
  refine mr_ldn (xs := (er (he, ke, ki, fi, fa, [o1, o2, o2, o3, o4], 3, a, g, l, w, s))) rfl rfl (k := 0) (by decide) rfl ?_
  refine mr_seg 3 (pc1 := 44) (ls1 := [some (.ref 140), some (.int (nI p)), some (.int 2)]) (st1 := [.int (50 - 1), .ref 140]) (M1 := (rSm (er (he, ke, ki, fi, fa, [o1, o2, o2, o3, o4], 3, a, g, l, w, s)))) (fun f => rfl) ?_
  refine mr_v (show (50 : Int32) - 1 = 49 by decide) ?_
  refine mr_seg 1 (pc1 := 45) (ls1 := [some (.ref 140), some (.int (nI p)), some (.int 2)]) (st1 := [.int (nI p), .int 49, .ref 140]) (M1 := (rSm (er (he, ke, ki, fi, fa, [o1, o2, o2, o3, o4], 3, a, g, l, w, s)))) (fun f => rfl) ?_
  refine mr_stn (xs := (er (he, ke, ki, fi, fa, [o1, o2, o2, o3, o4], 3, a, g, l, w, s))) (ys := (er (he, ke, ki, fi, fa, [o1, o2, p, o3, o4], 3, a, g, l, w, s))) (M2 := (rSm (er (he, ke, ki, fi, fa, [o1, o2, p, o3, o4], 3, a, g, l, w, s)))) rfl rfl (k := 49) (by decide) (by rw [er_leq (K := (he, ke, ki, fi, fa, [o1, o2, o2, o3, o4], 3, a, g, l, w, s)) v1 rfl]; decide) (er_ors (K := (he, ke, ki, fi, fa, [o1, o2, o2, o3, o4], 3, a, g, l, w, s)) v1 (j := 2)) rfl ?_
  refine mr_eq (mr_ret 1 (o := (none, (rSm (er (he, ke, ki, fi, fa, [o1, o2, p, o3, o4], 3, a, g, l, w, s))))) (fun f => rfl)) ?_
  have e : klast [p, o1, o2, o3, o4] 3 p = [o1, o2, p, o3, o4] := by simp [klast, q1, q2]
  rw [e]
