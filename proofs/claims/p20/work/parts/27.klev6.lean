def klt : Option Nat → Option Nat → Bool
  | none, _ => false
  | some _, none => true
  | some a, some b => decide (a < b)
def kup (j : Nat) (f : Option Nat) (p : Option Nat × Option Nat) : Option Nat × Option Nat := if klt f p.2 = true then (some j, f) else p
def ksoon (f : Nat → Option Nat) : Nat → Nat → Option Nat × Option Nat → Option Nat × Option Nat
  | 0, _, p => p
  | r + 1, j, p => ksoon f r (j + 1) (kup j (f j) p)
def kle (o : Option Nat) : Prop := ∀ v, o = some v → v ≤ 60
def k61 (o : Option Nat) : Nat := match o with
  | some v => v
  | none => 61
theorem k61_le {o : Option Nat} (h : kle o) : k61 o ≤ 61 := by
  cases o with
  | none => exact Nat.le_refl 61
  | some v => have := h v rfl; show v ≤ 61; omega
theorem kle_n : kle none := fun v h => by cases h
theorem kle_wa (K : kK) (c : Nat) : kle (kwa 60 0 K c) := fun v h => by have := kwa_le 60 0 K c v h; omega
theorem kle_wf (K : kK) (p f : Nat) : kle (kwf 60 1 K p f) := fun v h => by have := kwf_le 60 1 K p f v h; omega
theorem kle_up {j : Nat} {f : Option Nat} {p : Option Nat × Option Nat} (hf : kle f) (hp : kle p.2) : kle (kup j f p).2 := by
  unfold kup
  split
  · exact hf
  · exact hp
theorem kN_lt {a b : Option Nat} (ha : kle a) (hb : kle b) : kN a < kN b ↔ klt a b = true := by
  cases a with
  | none =>
    cases b with
    | none => exact ⟨fun h => absurd h (by decide), fun h => by cases h⟩
    | some v =>
      have := hb v rfl
      exact ⟨fun h => absurd ((nI_lti (a := 1000000) (b := v) (by omega)).mp h) (by omega), fun h => by cases h⟩
  | some u =>
    have hu := ha u rfl
    cases b with
    | none => exact ⟨fun _ => rfl, fun _ => nI_ltt (a := u) (b := 1000000) (by omega)⟩
    | some v =>
      have hv := hb v rfl
      exact ⟨fun h => decide_eq_true ((nI_ltI (by omega) (by omega)).mp h), fun h => (nI_ltI (by omega) (by omega)).mpr (of_decide_eq_true h)⟩
theorem kN_ge {a b : Option Nat} (ha : kle a) (hb : kle b) : kN b ≤ kN a ↔ ¬ klt a b = true := by
  rw [← kN_lt ha hb, Int32.not_lt]
theorem k61_lt {a b : Option Nat} (ha : kle a) (hb : kle b) : k61 a < k61 b ↔ klt a b = true := by
  cases a with
  | none =>
    cases b with
    | none => exact ⟨fun h => absurd h (Nat.lt_irrefl 61), fun h => by cases h⟩
    | some v =>
      have hv := hb v rfl
      exact ⟨fun h => by have h' : 61 < v := h; omega, fun h => by cases h⟩
  | some u =>
    have hu := ha u rfl
    cases b with
    | none => exact ⟨fun _ => rfl, fun _ => by show u < 61; omega⟩
    | some v => exact ⟨fun h => decide_eq_true h, fun h => of_decide_eq_true h⟩
def soS (a b : Int32) : mm_H := [.inr (.inr []), .inr (.inr []), .inr (.inr []), .inr (.inr []), .inr (.inr []), .inr (.inr []), .inl (6, [.int a, .int b])]
theorem so_l {z : Nat} {ls : mm_L} {r : Option Value} {a b a' b' : Int32} (im : Nat) (le : List Nat) (ln : Nat) (ys : List Int32) (vt : Int32) (nu : List Nat) (nn : Nat) (rf : List Nat) (yc yh yg : List Int32) (n m k : kG) (q : cR) (h : mm_R z 0 ls [] (soS a b) (r, soS a' b')) : mm_R z 0 ls [] (mk_M (cT im le ln ys vt nu nn rf a b yc yh yg) n m k q) (r, mk_M (cT im le ln ys vt nu nn rf a' b' yc yh yg) n m k q) := mr_fr (mk_M (cT im le ln ys vt nu nn rf a b yc yh yg) n m k q) h rfl rfl rfl
set_option maxRecDepth 100000 in
theorem cc_offer (j : Nat) (f : Option Nat) (p : Option Nat × Option Nat) (hf : kle f) (hp : kle p.2) : mm_R 84 0 [some (.ref 106), some (.int (nI j)), some (.int (kN f))] [] (soS (kI p.1) (kN p.2)) (none, soS (kI (kup j f p).1) (kN (kup j f p).2)) := by
  refine mr_seg 3 (pc1 := 5) (ls1 := [some (.ref 106), some (.int (nI j)), some (.int (kN f))]) (st1 := [.int (kN p.2), .int (kN f)]) (M1 := (soS (kI p.1) (kN p.2))) (fun f => rfl) ?_
  refine mr_ifN (C := (kN p.2) ≤ (kN f)) (kN_ge hf hp) (fun f => rfl) (fun h1 => ?_) (fun h1 => ?_)
  · refine mr_eq (mr_ret 1 (o := (none, (soS (kI p.1) (kN p.2)))) (fun f => rfl)) ?_
    rw [show kup j f p = p from if_neg h1]
  · refine mr_eq (mr_ret 7 (o := (none, (soS (nI j) (kN f)))) (fun f => rfl)) ?_
    rw [show kup j f p = (some j, f) from if_pos (Decidable.not_not.mp h1)]
    rfl
set_option maxRecDepth 100000 in
theorem sc_push (he ke ki fi fa or : List Nat) (mi a g l w s : Nat) (im : Nat) (le : List Nat) (ln : Nat) (ys : List Int32) (vt : Int32) (nu : List Nat) (nn : Nat) (rf : List Nat) (yc yh yg : List Int32) (kk : kG) (q : cR) (hA : iA (he, ke, ki, fi, fa, or, mi, a, g, l, w, s)) (k : Nat) : ∀ (j : Nat) (p : Option Nat × Option Nat) (m : kG) (lo : Option Value), j + k = mi → kle p.2 → kSh m → mm_E 88 16 [some (.ref 100), some (.int (nI j)), lo] [] (mk_M (cT im le ln ys vt nu nn rf (kI p.1) (kN p.2) yc yh yg) (kr (he, ke, ki, fi, fa, or, mi, a, g, l, w, s)) m kk q) (fun r M1 => r = some (.int (kI (ksoon (fun j => kwa 60 0 (he, ke, ki, fi, fa, kfirst or mi j, mi, a, g, l, w, s) g) k j p).1)) ∧ ∃ m2, kSh m2 ∧ M1 = mk_M (cT im le ln ys vt nu nn rf (kI (ksoon (fun j => kwa 60 0 (he, ke, ki, fi, fa, kfirst or mi j, mi, a, g, l, w, s) g) k j p).1) (kN (ksoon (fun j => kwa 60 0 (he, ke, ki, fi, fa, kfirst or mi j, mi, a, g, l, w, s) g) k j p).2) yc yh yg) (kr (he, ke, ki, fi, fa, or, mi, a, g, l, w, s)) m2 kk q) := by
  obtain ⟨hV, hst⟩ := id hA
  have hst2 : s ≤ 999 := hst
  obtain ⟨v1, v2, v3, v4, v5, v6, v7, v8, v9, v10, v11, v12, v13, v14, v15, v16⟩ := id hV
  have v6l := kO_len mi v7 or v6
  induction k with
  | zero =>
    intro j p m lo hj hp hm
    refine me_seg 4 (pc1 := 24) (ls1 := [some (.ref 100), some (.int (nI j)), lo]) (st1 := [.int (nI mi), .int (nI j)]) (M1 := (mk_M (cT im le ln ys vt nu nn rf (kI p.1) (kN p.2) yc yh yg) (kr (he, ke, ki, fi, fa, or, mi, a, g, l, w, s)) m kk q)) (fun f => rfl) ?_
    refine me_t (C := (nI mi) ≤ (nI j)) (nI_let (a := mi) (b := j) (by omega)) (fun f => rfl) ?_
    refine me_ret 4 (r := some (.int (kI p.1))) (M1 := (mk_M (cT im le ln ys vt nu nn rf (kI p.1) (kN p.2) yc yh yg) (kr (he, ke, ki, fi, fa, or, mi, a, g, l, w, s)) m kk q)) (fun f => rfl) ?_
    exact ⟨rfl, m, hm, rfl⟩
  | succ k IH =>
    intro j p m lo hj hp hm
    refine me_seg 4 (pc1 := 24) (ls1 := [some (.ref 100), some (.int (nI j)), lo]) (st1 := [.int (nI mi), .int (nI j)]) (M1 := (mk_M (cT im le ln ys vt nu nn rf (kI p.1) (kN p.2) yc yh yg) (kr (he, ke, ki, fi, fa, or, mi, a, g, l, w, s)) m kk q)) (fun f => rfl) ?_
    refine me_f (C := (nI mi) ≤ (nI j)) (nI_lef (a := mi) (b := j) (by omega)) (fun f => rfl) ?_
    refine me_seg 1 (pc1 := 28) (ls1 := [some (.ref 100), some (.int (nI j)), lo]) (st1 := [.ref 100]) (M1 := (mk_M (cT im le ln ys vt nu nn rf (kI p.1) (kN p.2) yc yh yg) (kr (he, ke, ki, fi, fa, or, mi, a, g, l, w, s)) m kk q)) (fun f => rfl) ?_
    refine me_call (y := 75) (y0 := 31) (L := [some (.ref 100)]) (rest := []) (rr := some (.ref 124)) (M1 := (mk_M (cT im le ln ys vt nu nn rf (kI p.1) (kN p.2) yc yh yg) (kr (he, ke, ki, fi, fa, or, mi, a, g, l, w, s)) (kr (he, ke, ki, fi, fa, or, mi, a, g, l, w, s)) kk q)) (fun f => rfl) (cc_now (he, ke, ki, fi, fa, or, mi, a, g, l, w, s) (cT im le ln ys vt nu nn rf (kI p.1) (kN p.2) yc yh yg) m kk q hV hm) ?_
    refine me_seg 3 (pc1 := 34) (ls1 := [some (.ref 100), some (.int (nI j)), some (.ref 124)]) (st1 := [.int (nI j), .ref 124]) (M1 := (mk_M (cT im le ln ys vt nu nn rf (kI p.1) (kN p.2) yc yh yg) (kr (he, ke, ki, fi, fa, or, mi, a, g, l, w, s)) (kr (he, ke, ki, fi, fa, or, mi, a, g, l, w, s)) kk q)) (fun f => rfl) ?_
    refine me_call (y := 90) (y0 := 37) (L := [some (.ref 124), some (.int (nI j)), none, none]) (rest := []) (rr := none) (M1 := (mk_M (cT im le ln ys vt nu nn rf (kI p.1) (kN p.2) yc yh yg) (kr (he, ke, ki, fi, fa, or, mi, a, g, l, w, s)) (kr (he, ke, ki, fi, fa, kfirst or mi j, mi, a, g, l, w, s)) kk q)) (fun f => rfl) (kl_m (cT im le ln ys vt nu nn rf (kI p.1) (kN p.2) yc yh yg) (kr (he, ke, ki, fi, fa, or, mi, a, g, l, w, s)) kk q (kc_first_m he ke ki fi fa or mi a g l w s j (by omega) v6 v7)) ?_
    refine me_seg 4 (pc1 := 43) (ls1 := [some (.ref 100), some (.int (nI j)), some (.ref 124)]) (st1 := [.ref 124, .int (nI j), .ref 106]) (M1 := (mk_M (cT im le ln ys vt nu nn rf (kI p.1) (kN p.2) yc yh yg) (kr (he, ke, ki, fi, fa, or, mi, a, g, l, w, s)) (kr (he, ke, ki, fi, fa, kfirst or mi j, mi, a, g, l, w, s)) kk q)) (fun f => rfl) ?_
    refine me_call (y := 89) (y0 := 46) (L := [some (.ref 124)]) (rest := [.int (nI j), .ref 106]) (rr := some (.int (kN (kwa 60 0 (he, ke, ki, fi, fa, kfirst or mi j, mi, a, g, l, w, s) g)))) (M1 := (mk_M (cT im le ln ys vt nu nn rf (kI p.1) (kN p.2) yc yh yg) (kr (he, ke, ki, fi, fa, or, mi, a, g, l, w, s)) (kr (kwaK 60 (he, ke, ki, fi, fa, kfirst or mi j, mi, a, g, l, w, s) g)) kk q)) (fun f => rfl) (kl_m (cT im le ln ys vt nu nn rf (kI p.1) (kN p.2) yc yh yg) (kr (he, ke, ki, fi, fa, or, mi, a, g, l, w, s)) kk q (kc_wt (he, ke, ki, fi, fa, kfirst or mi j, mi, a, g, l, w, s) ⟨v1, v2, v3, v4, v5, kO_first mi v7 or v6 j (by omega), v7, v8, v9, v10, v11, v12, v13, v14, v15, v16⟩ (show s < 2 ^ 20 by omega))) ?_
    refine me_call (y := 84) (y0 := 49) (L := [some (.ref 106), some (.int (nI j)), some (.int (kN (kwa 60 0 (he, ke, ki, fi, fa, kfirst or mi j, mi, a, g, l, w, s) g)))]) (rest := []) (rr := none) (M1 := (mk_M (cT im le ln ys vt nu nn rf (kI (kup j (kwa 60 0 (he, ke, ki, fi, fa, kfirst or mi j, mi, a, g, l, w, s) g) p).1) (kN (kup j (kwa 60 0 (he, ke, ki, fi, fa, kfirst or mi j, mi, a, g, l, w, s) g) p).2) yc yh yg) (kr (he, ke, ki, fi, fa, or, mi, a, g, l, w, s)) (kr (kwaK 60 (he, ke, ki, fi, fa, kfirst or mi j, mi, a, g, l, w, s) g)) kk q)) (fun f => rfl) (so_l im le ln ys vt nu nn rf yc yh yg (kr (he, ke, ki, fi, fa, or, mi, a, g, l, w, s)) (kr (kwaK 60 (he, ke, ki, fi, fa, kfirst or mi j, mi, a, g, l, w, s) g)) kk q (cc_offer j (kwa 60 0 (he, ke, ki, fi, fa, kfirst or mi j, mi, a, g, l, w, s) g) p (kle_wa _ _) hp)) ?_
    refine me_seg 1 (pc1 := 52) (ls1 := [some (.ref 100), some (.int ((nI j) + 1)), some (.ref 124)]) (st1 := []) (M1 := (mk_M (cT im le ln ys vt nu nn rf (kI (kup j (kwa 60 0 (he, ke, ki, fi, fa, kfirst or mi j, mi, a, g, l, w, s) g) p).1) (kN (kup j (kwa 60 0 (he, ke, ki, fi, fa, kfirst or mi j, mi, a, g, l, w, s) g) p).2) yc yh yg) (kr (he, ke, ki, fi, fa, or, mi, a, g, l, w, s)) (kr (kwaK 60 (he, ke, ki, fi, fa, kfirst or mi j, mi, a, g, l, w, s) g)) kk q)) (fun f => rfl) ?_
    refine me_l (fun q_ => [some (.ref 100), some (.int q_), some (.ref 124)]) (nI_add j 1) ?_
    refine me_seg 1 (pc1 := 16) (ls1 := [some (.ref 100), some (.int (nI (j + 1))), some (.ref 124)]) (st1 := []) (M1 := (mk_M (cT im le ln ys vt nu nn rf (kI (kup j (kwa 60 0 (he, ke, ki, fi, fa, kfirst or mi j, mi, a, g, l, w, s) g) p).1) (kN (kup j (kwa 60 0 (he, ke, ki, fi, fa, kfirst or mi j, mi, a, g, l, w, s) g) p).2) yc yh yg) (kr (he, ke, ki, fi, fa, or, mi, a, g, l, w, s)) (kr (kwaK 60 (he, ke, ki, fi, fa, kfirst or mi j, mi, a, g, l, w, s) g)) kk q)) (fun f => rfl) ?_
    exact IH (j + 1) (kup j (kwa 60 0 (he, ke, ki, fi, fa, kfirst or mi j, mi, a, g, l, w, s) g) p) (kr (kwaK 60 (he, ke, ki, fi, fa, kfirst or mi j, mi, a, g, l, w, s) g)) (some (.ref 124)) (by omega) (kle_up (kle_wa _ _) hp) (kSh_r (kV_waK 60 g ⟨v1, v2, v3, v4, v5, kO_first mi v7 or v6 j (by omega), v7, v8, v9, v10, v11, v12, v13, v14, v15, v16⟩))
set_option maxRecDepth 100000 in
theorem sc_flat (he ke ki fi fa or : List Nat) (mi a g l w s : Nat) (im : Nat) (le : List Nat) (ln : Nat) (ys : List Int32) (vt : Int32) (nu : List Nat) (nn : Nat) (rf : List Nat) (yc yh yg : List Int32) (kk : kG) (q : cR) (hA : iA (he, ke, ki, fi, fa, or, mi, a, g, l, w, s)) (k : Nat) : ∀ (j : Nat) (p : Option Nat × Option Nat) (m : kG) (lo : Option Value), j + k = 25 → kle p.2 → kSh m → mm_E 92 16 [some (.ref 100), some (.int (nI j)), lo] [] (mk_M (cT im le ln ys vt nu nn rf (kI p.1) (kN p.2) yc yh yg) (kr (he, ke, ki, fi, fa, or, mi, a, g, l, w, s)) m kk q) (fun r M1 => r = some (.int (kI (ksoon (fun j => kwa 60 0 (he.set j 0, ke, ki, fi, fa, or, mi, a, g, l, w, s) g) k j p).1)) ∧ ∃ m2, kSh m2 ∧ M1 = mk_M (cT im le ln ys vt nu nn rf (kI (ksoon (fun j => kwa 60 0 (he.set j 0, ke, ki, fi, fa, or, mi, a, g, l, w, s) g) k j p).1) (kN (ksoon (fun j => kwa 60 0 (he.set j 0, ke, ki, fi, fa, or, mi, a, g, l, w, s) g) k j p).2) yc yh yg) (kr (he, ke, ki, fi, fa, or, mi, a, g, l, w, s)) m2 kk q) := by
  obtain ⟨hV, hst⟩ := id hA
  have hst2 : s ≤ 999 := hst
  obtain ⟨v1, v2, v3, v4, v5, v6, v7, v8, v9, v10, v11, v12, v13, v14, v15, v16⟩ := id hV
  have v6l := kO_len mi v7 or v6
  induction k with
  | zero =>
    intro j p m lo hj hp hm
    refine me_seg 2 (pc1 := 19) (ls1 := [some (.ref 100), some (.int (nI j)), lo]) (st1 := [.int 25, .int (nI j)]) (M1 := (mk_M (cT im le ln ys vt nu nn rf (kI p.1) (kN p.2) yc yh yg) (kr (he, ke, ki, fi, fa, or, mi, a, g, l, w, s)) m kk q)) (fun f => rfl) ?_
    refine me_t (C := 25 ≤ (nI j)) (nI_let (a := 25) (b := j) (by omega)) (fun f => rfl) ?_
    refine me_ret 4 (r := some (.int (kI p.1))) (M1 := (mk_M (cT im le ln ys vt nu nn rf (kI p.1) (kN p.2) yc yh yg) (kr (he, ke, ki, fi, fa, or, mi, a, g, l, w, s)) m kk q)) (fun f => rfl) ?_
    exact ⟨rfl, m, hm, rfl⟩
  | succ k IH =>
    intro j p m lo hj hp hm
    refine me_seg 2 (pc1 := 19) (ls1 := [some (.ref 100), some (.int (nI j)), lo]) (st1 := [.int 25, .int (nI j)]) (M1 := (mk_M (cT im le ln ys vt nu nn rf (kI p.1) (kN p.2) yc yh yg) (kr (he, ke, ki, fi, fa, or, mi, a, g, l, w, s)) m kk q)) (fun f => rfl) ?_
    refine me_f (C := 25 ≤ (nI j)) (nI_lef (a := 25) (b := j) (by omega)) (fun f => rfl) ?_
    refine me_seg 1 (pc1 := 23) (ls1 := [some (.ref 100), some (.int (nI j)), lo]) (st1 := [.ref 100]) (M1 := (mk_M (cT im le ln ys vt nu nn rf (kI p.1) (kN p.2) yc yh yg) (kr (he, ke, ki, fi, fa, or, mi, a, g, l, w, s)) m kk q)) (fun f => rfl) ?_
    refine me_call (y := 75) (y0 := 26) (L := [some (.ref 100)]) (rest := []) (rr := some (.ref 124)) (M1 := (mk_M (cT im le ln ys vt nu nn rf (kI p.1) (kN p.2) yc yh yg) (kr (he, ke, ki, fi, fa, or, mi, a, g, l, w, s)) (kr (he, ke, ki, fi, fa, or, mi, a, g, l, w, s)) kk q)) (fun f => rfl) (cc_now (he, ke, ki, fi, fa, or, mi, a, g, l, w, s) (cT im le ln ys vt nu nn rf (kI p.1) (kN p.2) yc yh yg) m kk q hV hm) ?_
    refine me_seg 5 (pc1 := 33) (ls1 := [some (.ref 100), some (.int (nI j)), some (.ref 124)]) (st1 := [.int 0, .int (nI j), .ref 125]) (M1 := (mk_M (cT im le ln ys vt nu nn rf (kI p.1) (kN p.2) yc yh yg) (kr (he, ke, ki, fi, fa, or, mi, a, g, l, w, s)) (kr (he, ke, ki, fi, fa, or, mi, a, g, l, w, s)) kk q)) (fun f => rfl) ?_
    refine me_stn (xs := (he.map nI)) (ys := ((he.set j 0).map nI)) (M2 := (mk_M (cT im le ln ys vt nu nn rf (kI p.1) (kN p.2) yc yh yg) (kr (he, ke, ki, fi, fa, or, mi, a, g, l, w, s)) (kr (he.set j 0, ke, ki, fi, fa, or, mi, a, g, l, w, s)) kk q)) rfl rfl (k := j) (by omega) (by simp only [List.length_map, List.length_set]; omega) ks_ok rfl ?_
    refine me_seg 4 (pc1 := 40) (ls1 := [some (.ref 100), some (.int (nI j)), some (.ref 124)]) (st1 := [.ref 124, .int (nI j), .ref 106]) (M1 := (mk_M (cT im le ln ys vt nu nn rf (kI p.1) (kN p.2) yc yh yg) (kr (he, ke, ki, fi, fa, or, mi, a, g, l, w, s)) (kr (he.set j 0, ke, ki, fi, fa, or, mi, a, g, l, w, s)) kk q)) (fun f => rfl) ?_
    refine me_call (y := 89) (y0 := 43) (L := [some (.ref 124)]) (rest := [.int (nI j), .ref 106]) (rr := some (.int (kN (kwa 60 0 (he.set j 0, ke, ki, fi, fa, or, mi, a, g, l, w, s) g)))) (M1 := (mk_M (cT im le ln ys vt nu nn rf (kI p.1) (kN p.2) yc yh yg) (kr (he, ke, ki, fi, fa, or, mi, a, g, l, w, s)) (kr (kwaK 60 (he.set j 0, ke, ki, fi, fa, or, mi, a, g, l, w, s) g)) kk q)) (fun f => rfl) (kl_m (cT im le ln ys vt nu nn rf (kI p.1) (kN p.2) yc yh yg) (kr (he, ke, ki, fi, fa, or, mi, a, g, l, w, s)) kk q (kc_wt (he.set j 0, ke, ki, fi, fa, or, mi, a, g, l, w, s) ⟨by rw [List.length_set]; exact v1, v2, v3, v4, v5, v6, v7, v8, v9, v10, v11, fun i => by rw [kg_setc]; split; omega; exact v12 i, v13, v14, v15, v16⟩ (show s < 2 ^ 20 by omega))) ?_
    refine me_call (y := 84) (y0 := 46) (L := [some (.ref 106), some (.int (nI j)), some (.int (kN (kwa 60 0 (he.set j 0, ke, ki, fi, fa, or, mi, a, g, l, w, s) g)))]) (rest := []) (rr := none) (M1 := (mk_M (cT im le ln ys vt nu nn rf (kI (kup j (kwa 60 0 (he.set j 0, ke, ki, fi, fa, or, mi, a, g, l, w, s) g) p).1) (kN (kup j (kwa 60 0 (he.set j 0, ke, ki, fi, fa, or, mi, a, g, l, w, s) g) p).2) yc yh yg) (kr (he, ke, ki, fi, fa, or, mi, a, g, l, w, s)) (kr (kwaK 60 (he.set j 0, ke, ki, fi, fa, or, mi, a, g, l, w, s) g)) kk q)) (fun f => rfl) (so_l im le ln ys vt nu nn rf yc yh yg (kr (he, ke, ki, fi, fa, or, mi, a, g, l, w, s)) (kr (kwaK 60 (he.set j 0, ke, ki, fi, fa, or, mi, a, g, l, w, s) g)) kk q (cc_offer j (kwa 60 0 (he.set j 0, ke, ki, fi, fa, or, mi, a, g, l, w, s) g) p (kle_wa _ _) hp)) ?_
    refine me_seg 1 (pc1 := 49) (ls1 := [some (.ref 100), some (.int ((nI j) + 1)), some (.ref 124)]) (st1 := []) (M1 := (mk_M (cT im le ln ys vt nu nn rf (kI (kup j (kwa 60 0 (he.set j 0, ke, ki, fi, fa, or, mi, a, g, l, w, s) g) p).1) (kN (kup j (kwa 60 0 (he.set j 0, ke, ki, fi, fa, or, mi, a, g, l, w, s) g) p).2) yc yh yg) (kr (he, ke, ki, fi, fa, or, mi, a, g, l, w, s)) (kr (kwaK 60 (he.set j 0, ke, ki, fi, fa, or, mi, a, g, l, w, s) g)) kk q)) (fun f => rfl) ?_
    refine me_l (fun q_ => [some (.ref 100), some (.int q_), some (.ref 124)]) (nI_add j 1) ?_
    refine me_seg 1 (pc1 := 16) (ls1 := [some (.ref 100), some (.int (nI (j + 1))), some (.ref 124)]) (st1 := []) (M1 := (mk_M (cT im le ln ys vt nu nn rf (kI (kup j (kwa 60 0 (he.set j 0, ke, ki, fi, fa, or, mi, a, g, l, w, s) g) p).1) (kN (kup j (kwa 60 0 (he.set j 0, ke, ki, fi, fa, or, mi, a, g, l, w, s) g) p).2) yc yh yg) (kr (he, ke, ki, fi, fa, or, mi, a, g, l, w, s)) (kr (kwaK 60 (he.set j 0, ke, ki, fi, fa, or, mi, a, g, l, w, s) g)) kk q)) (fun f => rfl) ?_
    exact IH (j + 1) (kup j (kwa 60 0 (he.set j 0, ke, ki, fi, fa, or, mi, a, g, l, w, s) g) p) (kr (kwaK 60 (he.set j 0, ke, ki, fi, fa, or, mi, a, g, l, w, s) g)) (some (.ref 124)) (by omega) (kle_up (kle_wa _ _) hp) (kSh_r (kV_waK 60 g ⟨by rw [List.length_set]; exact v1, v2, v3, v4, v5, v6, v7, v8, v9, v10, v11, fun i => by rw [kg_setc]; split; omega; exact v12 i, v13, v14, v15, v16⟩))
