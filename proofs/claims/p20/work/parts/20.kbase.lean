/-! ===== the kingdom by natural numbers; heaps ===== -/
abbrev kG : Type := List Int32 × List Int32 × List Int32 × List Int32 × List Int32 × List Int32 × Int32 × Int32 × Int32 × Int32 × Int32 × Int32
abbrev kK : Type := List Nat × List Nat × List Nat × List Nat × List Nat × List Nat × Nat × Nat × Nat × Nat × Nat × Nat
abbrev cC : Type := Int32 × List Int32 × Int32 × List Int32 × Int32 × List Int32 × Int32 × List Int32 × Int32 × Int32 × List Int32 × List Int32 × List Int32
abbrev cR : Type := List Int32 × List Int32 × List Int32 × List Int32 × Int32 × List Int32 × List Int32 × List Int32 × Int32 × Int32 × Int32 × List Int32 × List Int32 × Int32
def kr (k : kK) : kG := (k.1.map nI, k.2.1.map nI, k.2.2.1.map nI, k.2.2.2.1.map nI, k.2.2.2.2.1.map nI, k.2.2.2.2.2.1.map nI, nI k.2.2.2.2.2.2.1, nI k.2.2.2.2.2.2.2.1, nI k.2.2.2.2.2.2.2.2.1, nI k.2.2.2.2.2.2.2.2.2.1, nI k.2.2.2.2.2.2.2.2.2.2.1, nI k.2.2.2.2.2.2.2.2.2.2.2)
def mk_M (c : cC) (n m k : kG) (r : cR) : mm_H := [.inl (9, [.ref 117, .ref 124, .ref 131, .int c.1, .ref 101, .ref 104, .int c.2.2.2.2.2.2.1, .ref 105, .ref 106, .ref 107, .ref 108, .ref 109]), .inl (8, [.ref 102, .int c.2.2.1, .ref 103, .int c.2.2.2.2.1]), .inr (.inl c.2.1), .inr (.inl c.2.2.2.1), .inr (.inl c.2.2.2.2.2.1), .inr (.inl c.2.2.2.2.2.2.2.1), .inl (6, [.int c.2.2.2.2.2.2.2.2.1, .int c.2.2.2.2.2.2.2.2.2.1]), .inr (.inl c.2.2.2.2.2.2.2.2.2.2.1), .inr (.inl c.2.2.2.2.2.2.2.2.2.2.2.1), .inr (.inl c.2.2.2.2.2.2.2.2.2.2.2.2), .inr (.inr [.ref 111, .ref 112, .ref 113, .ref 114, .ref 115, .ref 116]), .inl (3, []), .inl (2, []), .inl (7, []), .inl (0, []), .inl (5, []), .inl (4, []), .inl (1, [.ref 110, .ref 118, .ref 119, .ref 120, .ref 121, .ref 122, .ref 123, .int n.2.2.2.2.2.2.1, .int n.2.2.2.2.2.2.2.1, .int n.2.2.2.2.2.2.2.2.1, .int n.2.2.2.2.2.2.2.2.2.1, .int n.2.2.2.2.2.2.2.2.2.2.1, .int n.2.2.2.2.2.2.2.2.2.2.2]), .inr (.inl n.1), .inr (.inl n.2.1), .inr (.inl n.2.2.1), .inr (.inl n.2.2.2.1), .inr (.inl n.2.2.2.2.1), .inr (.inl n.2.2.2.2.2.1), .inl (1, [.ref 110, .ref 125, .ref 126, .ref 127, .ref 128, .ref 129, .ref 130, .int m.2.2.2.2.2.2.1, .int m.2.2.2.2.2.2.2.1, .int m.2.2.2.2.2.2.2.2.1, .int m.2.2.2.2.2.2.2.2.2.1, .int m.2.2.2.2.2.2.2.2.2.2.1, .int m.2.2.2.2.2.2.2.2.2.2.2]), .inr (.inl m.1), .inr (.inl m.2.1), .inr (.inl m.2.2.1), .inr (.inl m.2.2.2.1), .inr (.inl m.2.2.2.2.1), .inr (.inl m.2.2.2.2.2.1), .inl (1, [.ref 110, .ref 132, .ref 133, .ref 134, .ref 135, .ref 136, .ref 137, .int k.2.2.2.2.2.2.1, .int k.2.2.2.2.2.2.2.1, .int k.2.2.2.2.2.2.2.2.1, .int k.2.2.2.2.2.2.2.2.2.1, .int k.2.2.2.2.2.2.2.2.2.2.1, .int k.2.2.2.2.2.2.2.2.2.2.2]), .inr (.inl k.1), .inr (.inl k.2.1), .inr (.inl k.2.2.1), .inr (.inl k.2.2.2.1), .inr (.inl k.2.2.2.2.1), .inr (.inl k.2.2.2.2.2.1), .inl (10, [.ref 139, .ref 140, .ref 141, .ref 142, .int r.2.2.2.2.1, .ref 143, .ref 144, .ref 145, .int r.2.2.2.2.2.2.2.2.1, .int r.2.2.2.2.2.2.2.2.2.1, .int r.2.2.2.2.2.2.2.2.2.2.1, .ref 146, .ref 147, .int r.2.2.2.2.2.2.2.2.2.2.2.2.2]), .inr (.inl r.1), .inr (.inl r.2.1), .inr (.inl r.2.2.1), .inr (.inl r.2.2.2.1), .inr (.inl r.2.2.2.2.2.1), .inr (.inl r.2.2.2.2.2.2.1), .inr (.inl r.2.2.2.2.2.2.2.1), .inr (.inl r.2.2.2.2.2.2.2.2.2.2.2.1), .inr (.inl r.2.2.2.2.2.2.2.2.2.2.2.2.1)]
def kSr : mm_H := [.inr (.inr []), .inr (.inr []), .inr (.inr []), .inr (.inr []), .inr (.inr []), .inr (.inr []), .inr (.inr []), .inr (.inr []), .inr (.inr []), .inr (.inr []), .inr (.inr [.ref 111, .ref 112, .ref 113, .ref 114, .ref 115, .ref 116]), .inl (3, []), .inl (2, []), .inl (7, []), .inl (0, []), .inl (5, []), .inl (4, [])]
def kSn (n : kG) : mm_H := [.inr (.inr []), .inr (.inr []), .inr (.inr []), .inr (.inr []), .inr (.inr []), .inr (.inr []), .inr (.inr []), .inr (.inr []), .inr (.inr []), .inr (.inr []), .inr (.inr [.ref 111, .ref 112, .ref 113, .ref 114, .ref 115, .ref 116]), .inl (3, []), .inl (2, []), .inl (7, []), .inl (0, []), .inl (5, []), .inl (4, []), .inl (1, [.ref 110, .ref 118, .ref 119, .ref 120, .ref 121, .ref 122, .ref 123, .int n.2.2.2.2.2.2.1, .int n.2.2.2.2.2.2.2.1, .int n.2.2.2.2.2.2.2.2.1, .int n.2.2.2.2.2.2.2.2.2.1, .int n.2.2.2.2.2.2.2.2.2.2.1, .int n.2.2.2.2.2.2.2.2.2.2.2]), .inr (.inl n.1), .inr (.inl n.2.1), .inr (.inl n.2.2.1), .inr (.inl n.2.2.2.1), .inr (.inl n.2.2.2.2.1), .inr (.inl n.2.2.2.2.2.1)]
def kSm (m : kG) : mm_H := [.inr (.inr []), .inr (.inr []), .inr (.inr []), .inr (.inr []), .inr (.inr []), .inr (.inr []), .inr (.inr []), .inr (.inr []), .inr (.inr []), .inr (.inr []), .inr (.inr [.ref 111, .ref 112, .ref 113, .ref 114, .ref 115, .ref 116]), .inl (3, []), .inl (2, []), .inl (7, []), .inl (0, []), .inl (5, []), .inl (4, []), .inr (.inr []), .inr (.inr []), .inr (.inr []), .inr (.inr []), .inr (.inr []), .inr (.inr []), .inr (.inr []), .inl (1, [.ref 110, .ref 125, .ref 126, .ref 127, .ref 128, .ref 129, .ref 130, .int m.2.2.2.2.2.2.1, .int m.2.2.2.2.2.2.2.1, .int m.2.2.2.2.2.2.2.2.1, .int m.2.2.2.2.2.2.2.2.2.1, .int m.2.2.2.2.2.2.2.2.2.2.1, .int m.2.2.2.2.2.2.2.2.2.2.2]), .inr (.inl m.1), .inr (.inl m.2.1), .inr (.inl m.2.2.1), .inr (.inl m.2.2.2.1), .inr (.inl m.2.2.2.2.1), .inr (.inl m.2.2.2.2.2.1)]
def rSs (s : List Int32) : mm_H := [.inr (.inr []), .inr (.inr []), .inr (.inr []), .inr (.inr []), .inr (.inr []), .inr (.inr []), .inr (.inr []), .inr (.inr []), .inr (.inr []), .inr (.inr []), .inr (.inr []), .inr (.inr []), .inr (.inr []), .inr (.inr []), .inr (.inr []), .inr (.inr []), .inr (.inr []), .inr (.inr []), .inr (.inr []), .inr (.inr []), .inr (.inr []), .inr (.inr []), .inr (.inr []), .inr (.inr []), .inr (.inr []), .inr (.inr []), .inr (.inr []), .inr (.inr []), .inr (.inr []), .inr (.inr []), .inr (.inr []), .inr (.inr []), .inr (.inr []), .inr (.inr []), .inr (.inr []), .inr (.inr []), .inr (.inr []), .inr (.inr []), .inr (.inr []), .inr (.inl s)]
def rSm (s : List Int32) : mm_H := [.inr (.inr []), .inr (.inr []), .inr (.inr []), .inr (.inr []), .inr (.inr []), .inr (.inr []), .inr (.inr []), .inr (.inr []), .inr (.inr []), .inr (.inr []), .inr (.inr []), .inr (.inr []), .inr (.inr []), .inr (.inr []), .inr (.inr []), .inr (.inr []), .inr (.inr []), .inr (.inr []), .inr (.inr []), .inr (.inr []), .inr (.inr []), .inr (.inr []), .inr (.inr []), .inr (.inr []), .inr (.inr []), .inr (.inr []), .inr (.inr []), .inr (.inr []), .inr (.inr []), .inr (.inr []), .inr (.inr []), .inr (.inr []), .inr (.inr []), .inr (.inr []), .inr (.inr []), .inr (.inr []), .inr (.inr []), .inr (.inr []), .inr (.inr []), .inr (.inr []), .inr (.inl s)]
theorem kl_n {z : Nat} {ls : mm_L} {r : Option Value} {n n' : kG} (c : cC) (m k : kG) (q : cR) (h : mm_R z 0 ls [] (kSn n) (r, kSn n')) : mm_R z 0 ls [] (mk_M c n m k q) (r, mk_M c n' m k q) := mr_fr (mk_M c n m k q) h rfl rfl rfl
theorem kl_m {z : Nat} {ls : mm_L} {r : Option Value} {m m' : kG} (c : cC) (n k : kG) (q : cR) (h : mm_R z 0 ls [] (kSm m) (r, kSm m')) : mm_R z 0 ls [] (mk_M c n m k q) (r, mk_M c n m' k q) := mr_fr (mk_M c n m k q) h rfl rfl rfl
theorem kl_rn {z : Nat} {ls : mm_L} {r : Option Value} (n : kG) (h : mm_R z 0 ls [] kSr (r, kSr)) : mm_R z 0 ls [] (kSn n) (r, kSn n) := mr_fr (kSn n) h rfl rfl rfl
theorem kl_rm {z : Nat} {ls : mm_L} {r : Option Value} (m : kG) (h : mm_R z 0 ls [] kSr (r, kSr)) : mm_R z 0 ls [] (kSm m) (r, kSm m) := mr_fr (kSm m) h rfl rfl rfl
theorem rl_s {z : Nat} {ls : mm_L} {r : Option Value} {s s' : List Int32} (c : cC) (n m k : kG) (q : cR) (h : mm_R z 0 ls [] (rSs s) (r, rSs s')) (hs : q.1 = s) : mm_R z 0 ls [] (mk_M c n m k q) (r, mk_M c n m k (s', q.2)) := by
  subst hs
  exact mr_fr (mk_M c n m k q) h rfl rfl rfl
theorem rl_m {z : Nat} {ls : mm_L} {r : Option Value} {s s' : List Int32} (c : cC) (n m k : kG) (q : cR) (h : mm_R z 0 ls [] (rSm s) (r, rSm s')) (hs : q.2.1 = s) : mm_R z 0 ls [] (mk_M c n m k q) (r, mk_M c n m k (q.1, s', q.2.2)) := by
  subst hs
  exact mr_fr (mk_M c n m k q) h rfl rfl rfl
section KB
variable {z pc t1 t2 : Nat} {ls ls1 : mm_L} {st r : List Value} {M : mm_H} {o : Option Value × mm_H}
theorem mr_v {v v' : Int32} (e : v = v') (h : mm_R z pc ls (.int v' :: r) M o) : mm_R z pc ls (.int v :: r) M o := by rw [e]; exact h
theorem mr_lv {v v' : Int64} (e : v = v') (h : mm_R z pc ls (.long v' :: r) M o) : mm_R z pc ls (.long v :: r) M o := by rw [e]; exact h
theorem mr_l (F : Int32 → mm_L) {v v' : Int32} (e : v = v') (h : mm_R z pc (F v') st M o) : mm_R z pc (F v) st M o := by rw [e]; exact h
theorem mr_ifN {C P : Prop} [Decidable C] (hi : C ↔ P) (h0 : ∀ f : mm_F, mm_b none f z pc ls st M 0 0 = if C then f z t1 ls r M 0 0 else f z t2 ls r M 0 0) (h1 : P → mm_R z t1 ls r M o) (h2 : ¬ P → mm_R z t2 ls r M o) : mm_R z pc ls st M o := mr_if h0 (fun h => h1 (hi.mp h)) (fun h => h2 (fun q => h (hi.mpr q)))
theorem mr_acp {idx a b e : Nat} {xs ys : List Int32} {n : Int32} {M2 : mm_H} (hc : mm_code z pc = some (.invokestatic idx, [(1, e)])) (ha : mm_g M a = some (.inr (.inl ys))) (hb : mm_g M b = some (.inr (.inl xs))) (hn : ¬ n < 0) (h1 : n.toNatClampNeg = xs.length) (h2 : n.toNatClampNeg = ys.length) (hM : mm_s M (a - 100) (.inr (.inl xs)) = M2) (h : mm_R z (pc + 3) ls [] M2 o) : mm_R z pc ls [.int n, .int 0, .ref a, .int 0, .ref b] M o := by
  obtain ⟨k, hk⟩ := h
  refine ⟨k + 1, ?_⟩
  rw [mm_xs]
  unfold mm_b
  rw [hc]
  show mm_acp (mm_x none k) z pc ls [.int n, .int 0, .ref a, .int 0, .ref b] M 0 0 = some o
  unfold mm_acp
  simp only [ha, hb]
  rw [if_pos ⟨trivial, trivial, hn, h1, h2⟩, hM]
  exact hk
end KB
/-! ===== runs to an end of which something is said ===== -/
def mm_E (z pc : Nat) (ls : mm_L) (st : List Value) (M : mm_H) (F : Option Value → mm_H → Prop) : Prop := ∃ (r : Option Value) (M1 : mm_H), mm_R z pc ls st M (r, M1) ∧ F r M1
section KE
variable {z pc pc1 t1 t2 : Nat} {ls ls1 : mm_L} {st st1 r : List Value} {M M1 M2 : mm_H} {F : Option Value → mm_H → Prop}
theorem me_seg (k : Nat) (h : ∀ f : mm_F, mm_it none k f z pc ls st M 0 0 = f z pc1 ls1 st1 M1 0 0) (h2 : mm_E z pc1 ls1 st1 M1 F) : mm_E z pc ls st M F := by
  obtain ⟨a, b, c, d⟩ := h2
  exact ⟨a, b, mr_seg k h c, d⟩
theorem me_ret {r : Option Value} (k : Nat) (h : ∀ f : mm_F, mm_it none k f z pc ls st M 0 0 = some (r, M1)) (h2 : F r M1) : mm_E z pc ls st M F := ⟨r, M1, mr_ret k h, h2⟩
theorem me_of {r : Option Value} (h : mm_R z pc ls st M (r, M1)) (h2 : F r M1) : mm_E z pc ls st M F := ⟨r, M1, h, h2⟩
theorem me_mp {G : Option Value → mm_H → Prop} (h : mm_E z pc ls st M F) (h2 : ∀ r M1, F r M1 → G r M1) : mm_E z pc ls st M G := by
  obtain ⟨a, b, c, d⟩ := h
  exact ⟨a, b, c, h2 a b d⟩
theorem me_call {y y0 : Nat} {L : mm_L} {rest : List Value} {rr : Option Value} (h0 : ∀ f : mm_F, mm_b none f z pc ls st M 0 0 = (match f y 0 L [] M 0 0 with
      | some (r, M1) => f z y0 ls (r.toList ++ rest) M1 0 0
      | none => none)) (hs : mm_R y 0 L [] M (rr, M1)) (h : mm_E z y0 ls (rr.toList ++ rest) M1 F) : mm_E z pc ls st M F := by
  obtain ⟨a, b, c, d⟩ := h
  exact ⟨a, b, mr_call h0 hs c, d⟩
theorem me_callE {y y0 : Nat} {L : mm_L} {rest : List Value} {G : Option Value → mm_H → Prop} (h0 : ∀ f : mm_F, mm_b none f z pc ls st M 0 0 = (match f y 0 L [] M 0 0 with
      | some (r, M1) => f z y0 ls (r.toList ++ rest) M1 0 0
      | none => none)) (hs : mm_E y 0 L [] M G) (h : ∀ rr M1, G rr M1 → mm_E z y0 ls (rr.toList ++ rest) M1 F) : mm_E z pc ls st M F := by
  obtain ⟨a, b, c, d⟩ := hs
  exact me_call h0 c (h a b d)
theorem me_if {C : Prop} [Decidable C] (h0 : ∀ f : mm_F, mm_b none f z pc ls st M 0 0 = if C then f z t1 ls r M 0 0 else f z t2 ls r M 0 0) (h1 : C → mm_E z t1 ls r M F) (h2 : ¬ C → mm_E z t2 ls r M F) : mm_E z pc ls st M F := by
  by_cases hc : C
  · obtain ⟨a, b, c, d⟩ := h1 hc
    exact ⟨a, b, mr_t hc h0 c, d⟩
  · obtain ⟨a, b, c, d⟩ := h2 hc
    exact ⟨a, b, mr_f hc h0 c, d⟩
theorem me_t {C : Prop} [Decidable C] (hc : C) (h0 : ∀ f : mm_F, mm_b none f z pc ls st M 0 0 = if C then f z t1 ls r M 0 0 else f z t2 ls r M 0 0) (h1 : mm_E z t1 ls r M F) : mm_E z pc ls st M F := me_if h0 (fun _ => h1) (fun h => absurd hc h)
theorem me_f {C : Prop} [Decidable C] (hc : ¬ C) (h0 : ∀ f : mm_F, mm_b none f z pc ls st M 0 0 = if C then f z t1 ls r M 0 0 else f z t2 ls r M 0 0) (h1 : mm_E z t2 ls r M F) : mm_E z pc ls st M F := me_if h0 (fun h => absurd h hc) (fun _ => h1)
theorem me_ifN {C P : Prop} [Decidable C] (hi : C ↔ P) (h0 : ∀ f : mm_F, mm_b none f z pc ls st M 0 0 = if C then f z t1 ls r M 0 0 else f z t2 ls r M 0 0) (h1 : P → mm_E z t1 ls r M F) (h2 : ¬ P → mm_E z t2 ls r M F) : mm_E z pc ls st M F := me_if h0 (fun h => h1 (hi.mp h)) (fun h => h2 (fun q => h (hi.mpr q)))
theorem me_ldn {a k : Nat} {ex : List (Nat × Nat)} {xs : List Int32} {v : Int32} (hc : mm_code z pc = some (.iaload, ex)) (hg : mm_ia none M a = some xs) (hk : k < 2 ^ 31) (hv : xs[k]? = some v) (h : mm_E z (pc + 1) ls (.int v :: r) M F) : mm_E z pc ls (.int (nI k) :: .ref a :: r) M F := by
  obtain ⟨a, b, c, d⟩ := h
  exact ⟨a, b, mr_ldn hc hg hk hv c, d⟩
theorem me_stn {a k : Nat} {ex : List (Nat × Nat)} {xs ys : List Int32} {v : Int32} (hc : mm_code z pc = some (.iastore, ex)) (hg : mm_g M a = some (.inr (.inl xs))) (hk : k < 2 ^ 31) (hl : k < xs.length) (he : xs.set k v = ys) (hM : mm_s M (a - 100) (.inr (.inl ys)) = M2) (h : mm_E z (pc + 1) ls r M2 F) : mm_E z pc ls (.int v :: .int (nI k) :: .ref a :: r) M F := by
  obtain ⟨a, b, c, d⟩ := h
  exact ⟨a, b, mr_stn hc hg hk hl he hM c, d⟩
theorem me_v {v v' : Int32} (e : v = v') (h : mm_E z pc ls (.int v' :: r) M F) : mm_E z pc ls (.int v :: r) M F := by rw [e]; exact h
theorem me_lv {v v' : Int64} (e : v = v') (h : mm_E z pc ls (.long v' :: r) M F) : mm_E z pc ls (.long v :: r) M F := by rw [e]; exact h
theorem me_l (G : Int32 → mm_L) {v v' : Int32} (e : v = v') (h : mm_E z pc (G v') st M F) : mm_E z pc (G v) st M F := by rw [e]; exact h
theorem me_tsw {d lo hi : Int} {offs : Array Int} {ex : List (Nat × Nat)} {x : Int32} (hc : mm_code z pc = some (.tableswitch d lo hi offs, ex)) (hq : x.toInt < lo ∨ hi < x.toInt) (ht : (pc : Int) + d = (t1 : Int)) (h : mm_E z t1 ls r M F) : mm_E z pc ls (.int x :: r) M F := by
  obtain ⟨a, b, c, d⟩ := h
  exact ⟨a, b, mr_tsw hc hq ht c, d⟩
theorem me_lsw {d : Int} {ps : Array (Int × Int)} {ex : List (Nat × Nat)} {x : Int32} (hc : mm_code z pc = some (.lookupswitch d ps, ex)) (hq : Op.lookupswitch.offset ps.toList d x.toInt = d) (ht : (pc : Int) + d = (t1 : Int)) (h : mm_E z t1 ls r M F) : mm_E z pc ls (.int x :: r) M F := by
  obtain ⟨a, b, c, d⟩ := h
  exact ⟨a, b, mr_lsw hc hq ht c, d⟩
theorem me_M (e : M = M2) (h : mm_E z pc ls st M2 F) : mm_E z pc ls st M F := by rw [e]; exact h
theorem me_acp {idx a b e : Nat} {xs ys : List Int32} {n : Int32} (hc : mm_code z pc = some (.invokestatic idx, [(1, e)])) (ha : mm_g M a = some (.inr (.inl ys))) (hb : mm_g M b = some (.inr (.inl xs))) (hn : ¬ n < 0) (h1 : n.toNatClampNeg = xs.length) (h2 : n.toNatClampNeg = ys.length) (hM : mm_s M (a - 100) (.inr (.inl xs)) = M2) (h : mm_E z (pc + 3) ls [] M2 F) : mm_E z pc ls [.int n, .int 0, .ref a, .int 0, .ref b] M F := by
  obtain ⟨a, b, c, d⟩ := h
  exact ⟨a, b, mr_acp hc ha hb hn h1 h2 hM c, d⟩
end KE
def kg (l : List Nat) (i : Nat) : Nat := l.getD i 0
theorem kg_ok {l : List Nat} {i : Nat} (h : i < l.length) : (l.map nI)[i]? = some (nI (kg l i)) := by
  unfold kg
  rw [List.getElem?_map, List.getD_eq_getElem?_getD, List.getElem?_eq_getElem h]
  rfl
theorem ks_ok {l : List Nat} {i v : Nat} : (l.map nI).set i (nI v) = (l.set i v).map nI := by rw [List.map_set]
theorem kg_set {l : List Nat} {i v : Nat} (h : i < l.length) : kg (l.set i v) i = v := by
  unfold kg
  rw [List.getD_eq_getElem?_getD, List.getElem?_set_self h]
  rfl
theorem kg_set_ne {l : List Nat} {i j v : Nat} (h : i ≠ j) : kg (l.set i v) j = kg l j := by
  unfold kg
  rw [List.getD_eq_getElem?_getD, List.getD_eq_getElem?_getD, List.getElem?_set_ne h]
theorem kg_setc {l : List Nat} {i j v : Nat} : kg (l.set i v) j = if i = j ∧ i < l.length then v else kg l j := by
  by_cases h : i = j
  · subst h
    by_cases h2 : i < l.length
    · rw [if_pos ⟨rfl, h2⟩, kg_set h2]
    · rw [if_neg (fun q => h2 q.2)]
      rw [List.set_eq_of_length_le (Nat.not_lt.mp h2)]
  · rw [if_neg (fun q => h q.1), kg_set_ne h]
theorem k_max0 {a b : Nat} (ha : a < 2 ^ 30) (hb : b < 2 ^ 30) : (if (0 : Int32) < nI a - nI b then nI a - nI b else 0) = nI (a - b) := by
  by_cases h : b < a
  · rw [pk_sub (Nat.le_of_lt h), if_pos (show (0 : Int32) < nI (a - b) from nI_lt (a := 0) (by omega) (by omega))]
  · have e : a - b = 0 := by omega
    rw [e]
    by_cases h2 : a = b
    · subst h2
      rw [pk_sub (Nat.le_refl a), Nat.sub_self, if_neg (show ¬ (0 : Int32) < nI 0 from nI_nlt (a := 0) (b := 0) (Nat.le_refl 0) (by omega))]
      rfl
    · rw [if_neg (fun q => Int32.lt_irrefl (Int32.lt_trans q (pk_sneg hb (show a < b by omega))))]
      rfl
theorem k_sub0 {a b : Nat} (ha : a < 2 ^ 30) (hb : b < 2 ^ 30) : nI a - nI b = 0 ↔ a = b := by
  constructor
  · intro h
    have h2 := pk_sub_toInt ha hb
    rw [h] at h2
    have h3 : (0 : Int32).toInt = 0 := by decide
    omega
  · intro h
    subst h
    rw [pk_sub (Nat.le_refl a), Nat.sub_self]
    rfl
theorem k_subl {a b : Nat} (ha : a < 2 ^ 30) (hb : b < 2 ^ 30) : nI a - nI b < 0 ↔ a < b := by
  rw [Int32.lt_iff_toInt_lt, pk_sub_toInt ha hb]
  have h3 : (0 : Int32).toInt = 0 := by decide
  omega
theorem k_suble {a b : Nat} (ha : a < 2 ^ 30) (hb : b < 2 ^ 30) : 0 ≤ nI a - nI b ↔ b ≤ a := by
  rw [Int32.le_iff_toInt_le, pk_sub_toInt ha hb]
  have h3 : (0 : Int32).toInt = 0 := by decide
  omega
theorem k_n9 {a : Nat} (h : a < 2 ^ 31) : ¬ nI a = -9 := by
  intro q
  have h1 := nI_toInt h
  rw [q] at h1
  have h3 : (-9 : Int32).toInt = -9 := by decide
  omega
theorem k_nc {a : Nat} {c : Int32} (h : a < 2 ^ 31) (hc : c.toInt < 0) : ¬ nI a = c := by
  intro q
  have h1 := nI_toInt h
  rw [q] at h1
  omega
theorem k_min {a b : Nat} (ha : a < 2 ^ 31) (hb : b < 2 ^ 31) : (if nI b < nI a then nI b else nI a) = nI (min a b) := by
  by_cases h : b < a
  · rw [if_pos (nI_lt h ha), Nat.min_eq_right (Nat.le_of_lt h)]
  · rw [if_neg (nI_nlt (Nat.not_lt.mp h) hb), Nat.min_eq_left (Nat.not_lt.mp h)]
theorem k_max {a b : Nat} (ha : a < 2 ^ 31) (hb : b < 2 ^ 31) : (if nI a < nI b then nI b else nI a) = nI (max a b) := by
  by_cases h : a < b
  · rw [if_pos (nI_lt h hb), Nat.max_eq_right (Nat.le_of_lt h)]
  · rw [if_neg (nI_nlt (Nat.not_lt.mp h) ha), Nat.max_eq_left (Nat.not_lt.mp h)]
theorem s_l : ∀ n, n < 32 → ((nI n &&& 31).toBitVec.smod 32).toNat = n := by decide +kernel
theorem nx_and (a b : Nat) : nI a &&& nI b = nI (a &&& b) := by
  apply Int32.toBitVec_inj.1
  show BitVec.ofNat 32 a &&& BitVec.ofNat 32 b = BitVec.ofNat 32 (a &&& b)
  apply BitVec.eq_of_getLsbD_eq
  intro i hi
  simp [hi]
theorem nx_xor (a b : Nat) : nI a ^^^ nI b = nI (a ^^^ b) := by
  apply Int32.toBitVec_inj.1
  show BitVec.ofNat 32 a ^^^ BitVec.ofNat 32 b = BitVec.ofNat 32 (a ^^^ b)
  apply BitVec.eq_of_getLsbD_eq
  intro i hi
  simp [hi]
def k_he (k : kK) : List Nat := k.1
def k_ke (k : kK) : List Nat := k.2.1
def k_ki (k : kK) : List Nat := k.2.2.1
def k_fi (k : kK) : List Nat := k.2.2.2.1
def k_fa (k : kK) : List Nat := k.2.2.2.2.1
def k_or (k : kK) : List Nat := k.2.2.2.2.2.1
def k_mi (k : kK) : Nat := k.2.2.2.2.2.2.1
def k_at (k : kK) : Nat := k.2.2.2.2.2.2.2.1
def k_go (k : kK) : Nat := k.2.2.2.2.2.2.2.2.1
def k_la (k : kK) : Nat := k.2.2.2.2.2.2.2.2.2.1
def k_we (k : kK) : Nat := k.2.2.2.2.2.2.2.2.2.2.1
def k_st (k : kK) : Nat := k.2.2.2.2.2.2.2.2.2.2.2
def kI (o : Option Nat) : Int32 := match o with
  | some n => nI n
  | none => -9
def kbey (c w : Nat) : Option Nat := match w with
  | 0 => if 5 ≤ c then some (c - 5) else none
  | 1 => if c % 5 < 4 then some (c + 1) else none
  | 2 => if c < 20 then some (c + 5) else none
  | 3 => if 0 < c % 5 then some (c - 1) else none
  | _ => none
theorem kbey_lt {c w t : Nat} (hc : c < 25) (h : kbey c w = some t) : t < 25 := by
  unfold kbey at h
  split at h
  · split at h
    · cases h; omega
    · cases h
  · split at h
    · cases h; omega
    · cases h
  · split at h
    · cases h; omega
    · cases h
  · split at h
    · cases h; omega
    · cases h
  · cases h
def ksgn (a g : Nat) : Nat := if g / 5 < a / 5 then 0 else if a / 5 < g / 5 then 2 else if g < a then 3 else 1
theorem ksgn_lt (a g : Nat) : ksgn a g < 4 := by
  unfold ksgn
  repeat' split
  all_goals omega
def kleft (sg st : Nat) : Nat := if st % 3 = 0 then (sg + 3) % 4 else sg
theorem kleft_lt {sg st : Nat} (h : sg < 4) : kleft sg st < 4 := by
  unfold kleft
  split <;> omega
def kway (k a sg l st : Nat) : Nat := match k with
  | 1 => kleft sg st
  | 2 => if st % 4 = 0 then sg else if kbey a l = none then sg else l
  | 3 => if kbey a l = none then sg else l
  | 5 => if kbey a ((kleft sg st + 2) % 4) = none then kleft sg st else (kleft sg st + 2) % 4
  | _ => sg
theorem kway_lt {k a sg l st : Nat} (hs : sg < 4) (hl : l < 4) : kway k a sg l st < 4 := by
  have h1 := kleft_lt (st := st) hs
  unfold kway
  split
  · exact h1
  · split
    · exact hs
    · split <;> assumption
  · split <;> assumption
  · split
    · exact h1
    · omega
  · exact hs
def khold (k f : Nat) : Nat := match k with
  | 1 => f + 8
  | 3 => f + 5
  | 4 => 2 * (f + 8)
  | 5 => f + 8
  | _ => f + 6
def klast (l : List Nat) (m p : Nat) : List Nat := (l.take m).filter (fun x => !(x == p)) ++ (p :: l.drop m)
def kfirst (l : List Nat) (m p : Nat) : List Nat := p :: ((l.take m).filter (fun x => !(x == p)) ++ l.drop m)
def kload (he ke : List Nat) (a w c : Nat) : Nat := w + 3 * (kg he c - kg he a) + 4 * kg ke c
def knext : kK → Option Nat
  | (_, _, ki, _, _, or, mi, a, g, l, _, s) => if mi = 0 then none else if a = g then none else some (kway (kg ki (kg or 0)) a (ksgn a g) l (s + 1))
def kto (K : kK) : Option Nat := match knext K with
  | none => none
  | some w => kbey K.2.2.2.2.2.2.2.1 w
def kstep : kK → Nat → kK
  | (he, ke, ki, fi, fa, or, mi, a, g, l, w, s), more => match knext (he, ke, ki, fi, fa, or, mi, a, g, l, w, s) with
    | none => (he, ke, ki, fi, fa, or, mi, a, g, l, w, s + 1)
    | some y => match kbey a y with
      | none => (he, ke, ki, fi, fa, or, mi, a, g, l, w, s + 1)
      | some t => if khold (kg ki (kg or 0)) (kg fi (kg or 0)) < kload he ke a w t + more then (he, ke, ki, fi, fa.set (kg or 0) (min 99 (kg fa (kg or 0) + 1)), klast or mi (kg or 0), mi, a, g, l, w, s + 1) else (he, ke, ki, fi, fa, or, mi, t, g, y, w, s + 1)
theorem kjs_n {he ke ki fi fa or : List Nat} {mi a g l w s x : Nat} (hn : knext (he, ke, ki, fi, fa, or, mi, a, g, l, w, s) = none) : kstep (he, ke, ki, fi, fa, or, mi, a, g, l, w, s) x = (he, ke, ki, fi, fa, or, mi, a, g, l, w, s + 1) := by
  simp only [kstep, hn]
theorem kjs_b {he ke ki fi fa or : List Nat} {mi a g l w s x : Nat} {y : Nat} (hn : knext (he, ke, ki, fi, fa, or, mi, a, g, l, w, s) = some y) (hb : kbey a y = none) : kstep (he, ke, ki, fi, fa, or, mi, a, g, l, w, s) x = (he, ke, ki, fi, fa, or, mi, a, g, l, w, s + 1) := by
  simp only [kstep, hn, hb]
theorem kjs_f {he ke ki fi fa or : List Nat} {mi a g l w s x : Nat} {y t : Nat} (hn : knext (he, ke, ki, fi, fa, or, mi, a, g, l, w, s) = some y) (hb : kbey a y = some t) (h : khold (kg ki (kg or 0)) (kg fi (kg or 0)) < kload he ke a w t + x) : kstep (he, ke, ki, fi, fa, or, mi, a, g, l, w, s) x = (he, ke, ki, fi, fa.set (kg or 0) (min 99 (kg fa (kg or 0) + 1)), klast or mi (kg or 0), mi, a, g, l, w, s + 1) := by
  simp only [kstep, hn, hb]
  exact if_pos h
theorem kjs_t {he ke ki fi fa or : List Nat} {mi a g l w s x : Nat} {y t : Nat} (hn : knext (he, ke, ki, fi, fa, or, mi, a, g, l, w, s) = some y) (hb : kbey a y = some t) (h : ¬ (khold (kg ki (kg or 0)) (kg fi (kg or 0)) < kload he ke a w t + x)) : kstep (he, ke, ki, fi, fa, or, mi, a, g, l, w, s) x = (he, ke, ki, fi, fa, or, mi, t, g, y, w, s + 1) := by
  simp only [kstep, hn, hb]
  exact if_neg h
def kOl : Nat → List (List Nat)
  | 0 => [[0, 0, 0, 0, 0]]
  | 1 => [[0, 0, 0, 0, 0]]
  | 2 => [[0, 1, 0, 0, 0], [1, 0, 0, 0, 0]]
  | 3 => [[0, 1, 2, 0, 0], [0, 2, 1, 0, 0], [1, 0, 2, 0, 0], [1, 2, 0, 0, 0], [2, 0, 1, 0, 0], [2, 1, 0, 0, 0]]
  | 4 => [[0, 1, 2, 3, 0], [0, 1, 3, 2, 0], [0, 2, 1, 3, 0], [0, 2, 3, 1, 0], [0, 3, 1, 2, 0], [0, 3, 2, 1, 0], [1, 0, 2, 3, 0], [1, 0, 3, 2, 0], [1, 2, 0, 3, 0], [1, 2, 3, 0, 0], [1, 3, 0, 2, 0], [1, 3, 2, 0, 0], [2, 0, 1, 3, 0], [2, 0, 3, 1, 0], [2, 1, 0, 3, 0], [2, 1, 3, 0, 0], [2, 3, 0, 1, 0], [2, 3, 1, 0, 0], [3, 0, 1, 2, 0], [3, 0, 2, 1, 0], [3, 1, 0, 2, 0], [3, 1, 2, 0, 0], [3, 2, 0, 1, 0], [3, 2, 1, 0, 0]]
  | 5 => [[0, 1, 2, 3, 4], [0, 1, 2, 4, 3], [0, 1, 3, 2, 4], [0, 1, 3, 4, 2], [0, 1, 4, 2, 3], [0, 1, 4, 3, 2], [0, 2, 1, 3, 4], [0, 2, 1, 4, 3], [0, 2, 3, 1, 4], [0, 2, 3, 4, 1], [0, 2, 4, 1, 3], [0, 2, 4, 3, 1], [0, 3, 1, 2, 4], [0, 3, 1, 4, 2], [0, 3, 2, 1, 4], [0, 3, 2, 4, 1], [0, 3, 4, 1, 2], [0, 3, 4, 2, 1], [0, 4, 1, 2, 3], [0, 4, 1, 3, 2], [0, 4, 2, 1, 3], [0, 4, 2, 3, 1], [0, 4, 3, 1, 2], [0, 4, 3, 2, 1], [1, 0, 2, 3, 4], [1, 0, 2, 4, 3], [1, 0, 3, 2, 4], [1, 0, 3, 4, 2], [1, 0, 4, 2, 3], [1, 0, 4, 3, 2], [1, 2, 0, 3, 4], [1, 2, 0, 4, 3], [1, 2, 3, 0, 4], [1, 2, 3, 4, 0], [1, 2, 4, 0, 3], [1, 2, 4, 3, 0], [1, 3, 0, 2, 4], [1, 3, 0, 4, 2], [1, 3, 2, 0, 4], [1, 3, 2, 4, 0], [1, 3, 4, 0, 2], [1, 3, 4, 2, 0], [1, 4, 0, 2, 3], [1, 4, 0, 3, 2], [1, 4, 2, 0, 3], [1, 4, 2, 3, 0], [1, 4, 3, 0, 2], [1, 4, 3, 2, 0], [2, 0, 1, 3, 4], [2, 0, 1, 4, 3], [2, 0, 3, 1, 4], [2, 0, 3, 4, 1], [2, 0, 4, 1, 3], [2, 0, 4, 3, 1], [2, 1, 0, 3, 4], [2, 1, 0, 4, 3], [2, 1, 3, 0, 4], [2, 1, 3, 4, 0], [2, 1, 4, 0, 3], [2, 1, 4, 3, 0], [2, 3, 0, 1, 4], [2, 3, 0, 4, 1], [2, 3, 1, 0, 4], [2, 3, 1, 4, 0], [2, 3, 4, 0, 1], [2, 3, 4, 1, 0], [2, 4, 0, 1, 3], [2, 4, 0, 3, 1], [2, 4, 1, 0, 3], [2, 4, 1, 3, 0], [2, 4, 3, 0, 1], [2, 4, 3, 1, 0], [3, 0, 1, 2, 4], [3, 0, 1, 4, 2], [3, 0, 2, 1, 4], [3, 0, 2, 4, 1], [3, 0, 4, 1, 2], [3, 0, 4, 2, 1], [3, 1, 0, 2, 4], [3, 1, 0, 4, 2], [3, 1, 2, 0, 4], [3, 1, 2, 4, 0], [3, 1, 4, 0, 2], [3, 1, 4, 2, 0], [3, 2, 0, 1, 4], [3, 2, 0, 4, 1], [3, 2, 1, 0, 4], [3, 2, 1, 4, 0], [3, 2, 4, 0, 1], [3, 2, 4, 1, 0], [3, 4, 0, 1, 2], [3, 4, 0, 2, 1], [3, 4, 1, 0, 2], [3, 4, 1, 2, 0], [3, 4, 2, 0, 1], [3, 4, 2, 1, 0], [4, 0, 1, 2, 3], [4, 0, 1, 3, 2], [4, 0, 2, 1, 3], [4, 0, 2, 3, 1], [4, 0, 3, 1, 2], [4, 0, 3, 2, 1], [4, 1, 0, 2, 3], [4, 1, 0, 3, 2], [4, 1, 2, 0, 3], [4, 1, 2, 3, 0], [4, 1, 3, 0, 2], [4, 1, 3, 2, 0], [4, 2, 0, 1, 3], [4, 2, 0, 3, 1], [4, 2, 1, 0, 3], [4, 2, 1, 3, 0], [4, 2, 3, 0, 1], [4, 2, 3, 1, 0], [4, 3, 0, 1, 2], [4, 3, 0, 2, 1], [4, 3, 1, 0, 2], [4, 3, 1, 2, 0], [4, 3, 2, 0, 1], [4, 3, 2, 1, 0]]
  | _ => []
def kV : kK → Prop
  | (he, ke, ki, fi, fa, or, mi, a, g, l, w, _) => he.length = 25 ∧ ke.length = 25 ∧ ki.length = 5 ∧ fi.length = 5 ∧ fa.length = 5 ∧ or ∈ kOl mi ∧ mi ≤ 5 ∧ a < 25 ∧ g < 25 ∧ l < 4 ∧ w ≤ 20 ∧ (∀ i, kg he i ≤ 9) ∧ (∀ i, kg ke i ≤ 1) ∧ (∀ i, kg ki i ≤ 5) ∧ (∀ i, kg fi i ≤ 9) ∧ (∀ i, kg fa i ≤ 99)
theorem kO_len : ∀ m, m ≤ 5 → ∀ l ∈ kOl m, l.length = 5 := by decide +kernel
theorem kO_lt : ∀ m, m ≤ 5 → ∀ l ∈ kOl m, ∀ i, i < m → kg l i < m := by decide +kernel
theorem kO_lt5 : ∀ m, m ≤ 5 → ∀ l ∈ kOl m, ∀ i, i < 5 → kg l i < 5 := by decide +kernel
theorem kO_last : ∀ m, m ≤ 5 → ∀ l ∈ kOl m, ∀ p, p < m → klast l m p ∈ kOl m := by decide +kernel
theorem kO_first : ∀ m, m ≤ 5 → ∀ l ∈ kOl m, ∀ p, p < m → kfirst l m p ∈ kOl m := by decide +kernel
theorem kO_add : ∀ m, m ≤ 4 → ∀ l ∈ kOl m, l.set m m ∈ kOl (m + 1) := by decide +kernel
theorem kO_pos : ∀ m, m ≤ 5 → ∀ l ∈ kOl m, ∀ p, p < m → ∃ j, j < m ∧ kg l j = p ∧ ∀ i, i < m → ¬ i = j → ¬ kg l i = p := by
  intro m hm l hl p hp
  have h : ∀ m, m ≤ 5 → ∀ l ∈ kOl m, ∀ p, p < m → (List.range m).any (fun j => decide (kg l j = p) && (List.range m).all (fun i => decide (i = j) || !decide (kg l i = p))) = true := by decide +kernel
  have h1 := h m hm l hl p hp
  rw [List.any_eq_true] at h1
  obtain ⟨j, hj, h2⟩ := h1
  rw [Bool.and_eq_true, decide_eq_true_eq, List.all_eq_true] at h2
  refine ⟨j, List.mem_range.mp hj, h2.1, fun i hi hne => ?_⟩
  have h3 := h2.2 i (List.mem_range.mpr hi)
  rw [Bool.or_eq_true, decide_eq_true_eq, Bool.not_eq_true', decide_eq_false_iff_not] at h3
  exact h3.elim (fun q => absurd q hne) (fun q => q)
