theorem mm_s_same {M : mm_H} {a : Nat} {c : mm_C} (h : mm_g M a = some c) : mm_s M (a - 100) c = M := by
  obtain ⟨h1, h2⟩ := mm_glt h
  rw [mm_s_eq]
  apply List.ext_getElem?
  intro i
  rw [List.getElem?_set]
  by_cases e : a - 100 = i
  · subst e
    rw [if_pos rfl, if_pos (List.getElem?_eq_some_iff.mp h2).1, h2]
  · rw [if_neg e]
theorem mm_s_s {M : mm_H} {k : Nat} {c d : mm_C} : mm_s (mm_s M k c) k d = mm_s M k d := by
  rw [mm_s_eq, mm_s_eq, mm_s_eq, List.set_set]
theorem mm_g_s {M : mm_H} {a : Nat} {c0 c : mm_C} (h : mm_g M a = some c0) : mm_g (mm_s M (a - 100) c) a = some c := by
  obtain ⟨h1, h2⟩ := mm_glt h
  refine mm_Kp.gi h1 ?_
  rw [mm_s_eq, List.getElem?_set_self (List.getElem?_eq_some_iff.mp h2).1]
theorem mm_g_sn {M : mm_H} {a b : Nat} {c0 c1 c : mm_C} (ha : mm_g M a = some c1) (h : mm_g M b = some c0) (hab : ¬ a = b) : mm_g (mm_s M (a - 100) c) b = some c0 := by
  obtain ⟨h1, h2⟩ := mm_glt h
  obtain ⟨h3, -⟩ := mm_glt ha
  refine mm_Kp.gi h1 ?_
  rw [mm_s_eq, List.getElem?_set_ne (by omega)]
  exact h2
theorem mm_ia_g {M : mm_H} {b : Nat} {xs : List Int32} (h : mm_g M b = some (.inr (.inl xs))) : mm_ia none M b = some xs := by
  obtain ⟨h1, -⟩ := mm_glt h
  unfold mm_ia
  have hb : Nat.beq b 0 = false := by
    cases hq : Nat.beq b 0 with
    | false => rfl
    | true => have := Nat.eq_of_beq_eq_true hq; omega
  rw [hb, h]
  rfl
theorem rc_copies0 {a b : Nat} {xs : List Int32} (hab : ¬ a = b) (hx : xs.length = 52) (k : Nat) : ∀ (j : Nat) (M : mm_H) (zs : List Int32), j + k = 52 → mm_g M a = some (.inr (.inl zs)) → mm_g M b = some (.inr (.inl xs)) → zs.length = 52 → (∀ i, i < j → zs[i]? = xs[i]?) → mm_R 138 2 [some (.ref b), some (.ref a), some (.int (nI j))] [] M (none, mm_s M (a - 100) (.inr (.inl xs))) := by
  induction k with
  | zero =>
    intro j M zs hj hga hgb hz ht
    have e : zs = xs := by
      apply List.ext_getElem?
      intro i
      by_cases hi : i < j
      · exact ht i hi
      · rw [List.getElem?_eq_none (by omega), List.getElem?_eq_none (by omega)]
    subst e
    refine mr_seg 2 (pc1 := 5) (ls1 := [some (.ref b), some (.ref a), some (.int (nI j))]) (st1 := [.int 52, .int (nI j)]) (M1 := M) (fun f => rfl) ?_
    refine mr_t (C := (52 : Int32) ≤ nI j) (nI_let (a := 52) (b := j) (by omega)) (fun f => rfl) ?_
    refine mr_eq (mr_ret 1 (o := (none, M)) (fun f => rfl)) ?_
    rw [mm_s_same hga]
  | succ k IH =>
    intro j M zs hj hga hgb hz ht
    refine mr_seg 2 (pc1 := 5) (ls1 := [some (.ref b), some (.ref a), some (.int (nI j))]) (st1 := [.int 52, .int (nI j)]) (M1 := M) (fun f => rfl) ?_
    refine mr_f (C := (52 : Int32) ≤ nI j) (fun e => absurd ((nI_lei (a := 52) (b := j) (by omega)).mp e) (by omega)) (fun f => rfl) ?_
    refine mr_seg 4 (pc1 := 12) (ls1 := [some (.ref b), some (.ref a), some (.int (nI j))]) (st1 := [.int (nI j), .ref b, .int (nI j), .ref a]) (M1 := M) (fun f => rfl) ?_
    have hjx : j < xs.length := by omega
    refine mr_ldn (k := j) (v := xs[j]) rfl (mm_ia_g hgb) (by omega) (List.getElem?_eq_getElem hjx) ?_
    refine mr_stn (k := j) (ys := zs.set j xs[j]) (M2 := mm_s M (a - 100) (.inr (.inl (zs.set j xs[j])))) rfl hga (by omega) (by omega) rfl rfl ?_
    refine mr_seg 1 (pc1 := 17) (ls1 := [some (.ref b), some (.ref a), some (.int (nI j + 1))]) (st1 := []) (M1 := mm_s M (a - 100) (.inr (.inl (zs.set j xs[j])))) (fun f => rfl) ?_
    refine mr_l (fun q_ => [some (.ref b), some (.ref a), some (.int q_)]) (nI_add j 1) ?_
    refine mr_seg 1 (pc1 := 2) (ls1 := [some (.ref b), some (.ref a), some (.int (nI (j + 1)))]) (st1 := []) (M1 := mm_s M (a - 100) (.inr (.inl (zs.set j xs[j])))) (fun f => rfl) ?_
    have := IH (j + 1) (mm_s M (a - 100) (.inr (.inl (zs.set j xs[j])))) (zs.set j xs[j]) (by omega) (mm_g_s hga) (mm_g_sn hga hgb hab) (by rw [List.length_set]; exact hz) (fun i hi => ?_)
    · rw [mm_s_s] at this
      exact this
    · rw [List.getElem?_set]
      by_cases e : j = i
      · subst e
        rw [if_pos rfl, if_pos (by omega), List.getElem?_eq_getElem hjx]
      · rw [if_neg e]
        exact ht i (by omega)
theorem rc_copies {a b : Nat} {M : mm_H} {xs ys : List Int32} (hab : ¬ a = b) (hga : mm_g M a = some (.inr (.inl ys))) (hgb : mm_g M b = some (.inr (.inl xs))) (hx : xs.length = 52) (hy : ys.length = 52) : mm_R 138 0 [some (.ref b), some (.ref a), none] [] M (none, mm_s M (a - 100) (.inr (.inl xs))) := by
  refine mr_seg 2 (pc1 := 2) (ls1 := [some (.ref b), some (.ref a), some (.int 0)]) (st1 := []) (M1 := M) (fun f => rfl) ?_
  exact rc_copies0 hab hx 52 0 M ys (by omega) hga hgb hy (fun i hi => absurd hi (Nat.not_lt_zero i))
set_option maxRecDepth 100000 in
theorem cc_be_mn (he ke ki fi fa or : List Nat) (mi a g l w s : Nat) (c : cC) (m kk : kG) (q : cR) (hV : kV (he, ke, ki, fi, fa, or, mi, a, g, l, w, s)) (hm : kSh m) : mm_R 76 0 [some (.ref 124), some (.ref 117)] [] (mk_M c (kr (he, ke, ki, fi, fa, or, mi, a, g, l, w, s)) m kk q) (none, mk_M c (kr (he, ke, ki, fi, fa, or, mi, a, g, l, w, s)) (kr (he, ke, ki, fi, fa, or, mi, a, g, l, w, s)) kk q) := by
  obtain ⟨v1, v2, v3, v4, v5, v6, v7, v8, v9, v10, v11, v12, v13, v14, v15, v16⟩ := id hV
  have v6l := kO_len mi v7 or v6
  obtain ⟨hm1, hm2, hm3, hm4, hm5, hm6⟩ := id hm
  refine mr_seg 7 (pc1 := 12) (ls1 := [some (.ref 124), some (.ref 117)]) (st1 := [.int 25, .int 0, .ref 125, .int 0, .ref 118]) (M1 := (mk_M c (kr (he, ke, ki, fi, fa, or, mi, a, g, l, w, s)) m kk q)) (fun f => rfl) ?_
  refine mr_acp (xs := (he.map nI)) (M2 := (mk_M c (kr (he, ke, ki, fi, fa, or, mi, a, g, l, w, s)) ((he.map nI), m.2.1, m.2.2.1, m.2.2.2.1, m.2.2.2.2.1, m.2.2.2.2.2.1, m.2.2.2.2.2.2.1, m.2.2.2.2.2.2.2.1, m.2.2.2.2.2.2.2.2.1, m.2.2.2.2.2.2.2.2.2.1, m.2.2.2.2.2.2.2.2.2.2.1, m.2.2.2.2.2.2.2.2.2.2.2) kk q)) rfl rfl rfl (by decide) (by rw [List.length_map]; first | (rw [v1]; rfl) | (rw [v2]; rfl) | (rw [v3]; rfl) | (rw [v4]; rfl) | (rw [v5]; rfl) | (rw [v6l]; rfl)) (by rw [hm1]; rfl) rfl ?_
  refine mr_seg 7 (pc1 := 27) (ls1 := [some (.ref 124), some (.ref 117)]) (st1 := [.int 25, .int 0, .ref 126, .int 0, .ref 119]) (M1 := (mk_M c (kr (he, ke, ki, fi, fa, or, mi, a, g, l, w, s)) ((he.map nI), m.2.1, m.2.2.1, m.2.2.2.1, m.2.2.2.2.1, m.2.2.2.2.2.1, m.2.2.2.2.2.2.1, m.2.2.2.2.2.2.2.1, m.2.2.2.2.2.2.2.2.1, m.2.2.2.2.2.2.2.2.2.1, m.2.2.2.2.2.2.2.2.2.2.1, m.2.2.2.2.2.2.2.2.2.2.2) kk q)) (fun f => rfl) ?_
  refine mr_acp (xs := (ke.map nI)) (M2 := (mk_M c (kr (he, ke, ki, fi, fa, or, mi, a, g, l, w, s)) ((he.map nI), (ke.map nI), m.2.2.1, m.2.2.2.1, m.2.2.2.2.1, m.2.2.2.2.2.1, m.2.2.2.2.2.2.1, m.2.2.2.2.2.2.2.1, m.2.2.2.2.2.2.2.2.1, m.2.2.2.2.2.2.2.2.2.1, m.2.2.2.2.2.2.2.2.2.2.1, m.2.2.2.2.2.2.2.2.2.2.2) kk q)) rfl rfl rfl (by decide) (by rw [List.length_map]; first | (rw [v1]; rfl) | (rw [v2]; rfl) | (rw [v3]; rfl) | (rw [v4]; rfl) | (rw [v5]; rfl) | (rw [v6l]; rfl)) (by rw [hm2]; rfl) rfl ?_
  refine mr_seg 7 (pc1 := 41) (ls1 := [some (.ref 124), some (.ref 117)]) (st1 := [.int 5, .int 0, .ref 127, .int 0, .ref 120]) (M1 := (mk_M c (kr (he, ke, ki, fi, fa, or, mi, a, g, l, w, s)) ((he.map nI), (ke.map nI), m.2.2.1, m.2.2.2.1, m.2.2.2.2.1, m.2.2.2.2.2.1, m.2.2.2.2.2.2.1, m.2.2.2.2.2.2.2.1, m.2.2.2.2.2.2.2.2.1, m.2.2.2.2.2.2.2.2.2.1, m.2.2.2.2.2.2.2.2.2.2.1, m.2.2.2.2.2.2.2.2.2.2.2) kk q)) (fun f => rfl) ?_
  refine mr_acp (xs := (ki.map nI)) (M2 := (mk_M c (kr (he, ke, ki, fi, fa, or, mi, a, g, l, w, s)) ((he.map nI), (ke.map nI), (ki.map nI), m.2.2.2.1, m.2.2.2.2.1, m.2.2.2.2.2.1, m.2.2.2.2.2.2.1, m.2.2.2.2.2.2.2.1, m.2.2.2.2.2.2.2.2.1, m.2.2.2.2.2.2.2.2.2.1, m.2.2.2.2.2.2.2.2.2.2.1, m.2.2.2.2.2.2.2.2.2.2.2) kk q)) rfl rfl rfl (by decide) (by rw [List.length_map]; first | (rw [v1]; rfl) | (rw [v2]; rfl) | (rw [v3]; rfl) | (rw [v4]; rfl) | (rw [v5]; rfl) | (rw [v6l]; rfl)) (by rw [hm3]; rfl) rfl ?_
  refine mr_seg 7 (pc1 := 55) (ls1 := [some (.ref 124), some (.ref 117)]) (st1 := [.int 5, .int 0, .ref 128, .int 0, .ref 121]) (M1 := (mk_M c (kr (he, ke, ki, fi, fa, or, mi, a, g, l, w, s)) ((he.map nI), (ke.map nI), (ki.map nI), m.2.2.2.1, m.2.2.2.2.1, m.2.2.2.2.2.1, m.2.2.2.2.2.2.1, m.2.2.2.2.2.2.2.1, m.2.2.2.2.2.2.2.2.1, m.2.2.2.2.2.2.2.2.2.1, m.2.2.2.2.2.2.2.2.2.2.1, m.2.2.2.2.2.2.2.2.2.2.2) kk q)) (fun f => rfl) ?_
  refine mr_acp (xs := (fi.map nI)) (M2 := (mk_M c (kr (he, ke, ki, fi, fa, or, mi, a, g, l, w, s)) ((he.map nI), (ke.map nI), (ki.map nI), (fi.map nI), m.2.2.2.2.1, m.2.2.2.2.2.1, m.2.2.2.2.2.2.1, m.2.2.2.2.2.2.2.1, m.2.2.2.2.2.2.2.2.1, m.2.2.2.2.2.2.2.2.2.1, m.2.2.2.2.2.2.2.2.2.2.1, m.2.2.2.2.2.2.2.2.2.2.2) kk q)) rfl rfl rfl (by decide) (by rw [List.length_map]; first | (rw [v1]; rfl) | (rw [v2]; rfl) | (rw [v3]; rfl) | (rw [v4]; rfl) | (rw [v5]; rfl) | (rw [v6l]; rfl)) (by rw [hm4]; rfl) rfl ?_
  refine mr_seg 7 (pc1 := 69) (ls1 := [some (.ref 124), some (.ref 117)]) (st1 := [.int 5, .int 0, .ref 129, .int 0, .ref 122]) (M1 := (mk_M c (kr (he, ke, ki, fi, fa, or, mi, a, g, l, w, s)) ((he.map nI), (ke.map nI), (ki.map nI), (fi.map nI), m.2.2.2.2.1, m.2.2.2.2.2.1, m.2.2.2.2.2.2.1, m.2.2.2.2.2.2.2.1, m.2.2.2.2.2.2.2.2.1, m.2.2.2.2.2.2.2.2.2.1, m.2.2.2.2.2.2.2.2.2.2.1, m.2.2.2.2.2.2.2.2.2.2.2) kk q)) (fun f => rfl) ?_
  refine mr_acp (xs := (fa.map nI)) (M2 := (mk_M c (kr (he, ke, ki, fi, fa, or, mi, a, g, l, w, s)) ((he.map nI), (ke.map nI), (ki.map nI), (fi.map nI), (fa.map nI), m.2.2.2.2.2.1, m.2.2.2.2.2.2.1, m.2.2.2.2.2.2.2.1, m.2.2.2.2.2.2.2.2.1, m.2.2.2.2.2.2.2.2.2.1, m.2.2.2.2.2.2.2.2.2.2.1, m.2.2.2.2.2.2.2.2.2.2.2) kk q)) rfl rfl rfl (by decide) (by rw [List.length_map]; first | (rw [v1]; rfl) | (rw [v2]; rfl) | (rw [v3]; rfl) | (rw [v4]; rfl) | (rw [v5]; rfl) | (rw [v6l]; rfl)) (by rw [hm5]; rfl) rfl ?_
  refine mr_seg 7 (pc1 := 83) (ls1 := [some (.ref 124), some (.ref 117)]) (st1 := [.int 5, .int 0, .ref 130, .int 0, .ref 123]) (M1 := (mk_M c (kr (he, ke, ki, fi, fa, or, mi, a, g, l, w, s)) ((he.map nI), (ke.map nI), (ki.map nI), (fi.map nI), (fa.map nI), m.2.2.2.2.2.1, m.2.2.2.2.2.2.1, m.2.2.2.2.2.2.2.1, m.2.2.2.2.2.2.2.2.1, m.2.2.2.2.2.2.2.2.2.1, m.2.2.2.2.2.2.2.2.2.2.1, m.2.2.2.2.2.2.2.2.2.2.2) kk q)) (fun f => rfl) ?_
  refine mr_acp (xs := (or.map nI)) (M2 := (mk_M c (kr (he, ke, ki, fi, fa, or, mi, a, g, l, w, s)) ((he.map nI), (ke.map nI), (ki.map nI), (fi.map nI), (fa.map nI), (or.map nI), m.2.2.2.2.2.2.1, m.2.2.2.2.2.2.2.1, m.2.2.2.2.2.2.2.2.1, m.2.2.2.2.2.2.2.2.2.1, m.2.2.2.2.2.2.2.2.2.2.1, m.2.2.2.2.2.2.2.2.2.2.2) kk q)) rfl rfl rfl (by decide) (by rw [List.length_map]; first | (rw [v1]; rfl) | (rw [v2]; rfl) | (rw [v3]; rfl) | (rw [v4]; rfl) | (rw [v5]; rfl) | (rw [v6l]; rfl)) (by rw [hm6]; rfl) rfl ?_
  exact mr_ret 25 (fun f => rfl)
set_option maxRecDepth 100000 in
theorem cc_be_kn (he ke ki fi fa or : List Nat) (mi a g l w s : Nat) (c : cC) (m kk : kG) (q : cR) (hV : kV (he, ke, ki, fi, fa, or, mi, a, g, l, w, s)) (hkk : kSh kk) : mm_R 76 0 [some (.ref 131), some (.ref 117)] [] (mk_M c (kr (he, ke, ki, fi, fa, or, mi, a, g, l, w, s)) m kk q) (none, mk_M c (kr (he, ke, ki, fi, fa, or, mi, a, g, l, w, s)) m (kr (he, ke, ki, fi, fa, or, mi, a, g, l, w, s)) q) := by
  obtain ⟨v1, v2, v3, v4, v5, v6, v7, v8, v9, v10, v11, v12, v13, v14, v15, v16⟩ := id hV
  have v6l := kO_len mi v7 or v6
  obtain ⟨hkk1, hkk2, hkk3, hkk4, hkk5, hkk6⟩ := id hkk
  refine mr_seg 7 (pc1 := 12) (ls1 := [some (.ref 131), some (.ref 117)]) (st1 := [.int 25, .int 0, .ref 132, .int 0, .ref 118]) (M1 := (mk_M c (kr (he, ke, ki, fi, fa, or, mi, a, g, l, w, s)) m kk q)) (fun f => rfl) ?_
  refine mr_acp (xs := (he.map nI)) (M2 := (mk_M c (kr (he, ke, ki, fi, fa, or, mi, a, g, l, w, s)) m ((he.map nI), kk.2.1, kk.2.2.1, kk.2.2.2.1, kk.2.2.2.2.1, kk.2.2.2.2.2.1, kk.2.2.2.2.2.2.1, kk.2.2.2.2.2.2.2.1, kk.2.2.2.2.2.2.2.2.1, kk.2.2.2.2.2.2.2.2.2.1, kk.2.2.2.2.2.2.2.2.2.2.1, kk.2.2.2.2.2.2.2.2.2.2.2) q)) rfl rfl rfl (by decide) (by rw [List.length_map]; first | (rw [v1]; rfl) | (rw [v2]; rfl) | (rw [v3]; rfl) | (rw [v4]; rfl) | (rw [v5]; rfl) | (rw [v6l]; rfl)) (by rw [hkk1]; rfl) rfl ?_
  refine mr_seg 7 (pc1 := 27) (ls1 := [some (.ref 131), some (.ref 117)]) (st1 := [.int 25, .int 0, .ref 133, .int 0, .ref 119]) (M1 := (mk_M c (kr (he, ke, ki, fi, fa, or, mi, a, g, l, w, s)) m ((he.map nI), kk.2.1, kk.2.2.1, kk.2.2.2.1, kk.2.2.2.2.1, kk.2.2.2.2.2.1, kk.2.2.2.2.2.2.1, kk.2.2.2.2.2.2.2.1, kk.2.2.2.2.2.2.2.2.1, kk.2.2.2.2.2.2.2.2.2.1, kk.2.2.2.2.2.2.2.2.2.2.1, kk.2.2.2.2.2.2.2.2.2.2.2) q)) (fun f => rfl) ?_
  refine mr_acp (xs := (ke.map nI)) (M2 := (mk_M c (kr (he, ke, ki, fi, fa, or, mi, a, g, l, w, s)) m ((he.map nI), (ke.map nI), kk.2.2.1, kk.2.2.2.1, kk.2.2.2.2.1, kk.2.2.2.2.2.1, kk.2.2.2.2.2.2.1, kk.2.2.2.2.2.2.2.1, kk.2.2.2.2.2.2.2.2.1, kk.2.2.2.2.2.2.2.2.2.1, kk.2.2.2.2.2.2.2.2.2.2.1, kk.2.2.2.2.2.2.2.2.2.2.2) q)) rfl rfl rfl (by decide) (by rw [List.length_map]; first | (rw [v1]; rfl) | (rw [v2]; rfl) | (rw [v3]; rfl) | (rw [v4]; rfl) | (rw [v5]; rfl) | (rw [v6l]; rfl)) (by rw [hkk2]; rfl) rfl ?_
  refine mr_seg 7 (pc1 := 41) (ls1 := [some (.ref 131), some (.ref 117)]) (st1 := [.int 5, .int 0, .ref 134, .int 0, .ref 120]) (M1 := (mk_M c (kr (he, ke, ki, fi, fa, or, mi, a, g, l, w, s)) m ((he.map nI), (ke.map nI), kk.2.2.1, kk.2.2.2.1, kk.2.2.2.2.1, kk.2.2.2.2.2.1, kk.2.2.2.2.2.2.1, kk.2.2.2.2.2.2.2.1, kk.2.2.2.2.2.2.2.2.1, kk.2.2.2.2.2.2.2.2.2.1, kk.2.2.2.2.2.2.2.2.2.2.1, kk.2.2.2.2.2.2.2.2.2.2.2) q)) (fun f => rfl) ?_
  refine mr_acp (xs := (ki.map nI)) (M2 := (mk_M c (kr (he, ke, ki, fi, fa, or, mi, a, g, l, w, s)) m ((he.map nI), (ke.map nI), (ki.map nI), kk.2.2.2.1, kk.2.2.2.2.1, kk.2.2.2.2.2.1, kk.2.2.2.2.2.2.1, kk.2.2.2.2.2.2.2.1, kk.2.2.2.2.2.2.2.2.1, kk.2.2.2.2.2.2.2.2.2.1, kk.2.2.2.2.2.2.2.2.2.2.1, kk.2.2.2.2.2.2.2.2.2.2.2) q)) rfl rfl rfl (by decide) (by rw [List.length_map]; first | (rw [v1]; rfl) | (rw [v2]; rfl) | (rw [v3]; rfl) | (rw [v4]; rfl) | (rw [v5]; rfl) | (rw [v6l]; rfl)) (by rw [hkk3]; rfl) rfl ?_
  refine mr_seg 7 (pc1 := 55) (ls1 := [some (.ref 131), some (.ref 117)]) (st1 := [.int 5, .int 0, .ref 135, .int 0, .ref 121]) (M1 := (mk_M c (kr (he, ke, ki, fi, fa, or, mi, a, g, l, w, s)) m ((he.map nI), (ke.map nI), (ki.map nI), kk.2.2.2.1, kk.2.2.2.2.1, kk.2.2.2.2.2.1, kk.2.2.2.2.2.2.1, kk.2.2.2.2.2.2.2.1, kk.2.2.2.2.2.2.2.2.1, kk.2.2.2.2.2.2.2.2.2.1, kk.2.2.2.2.2.2.2.2.2.2.1, kk.2.2.2.2.2.2.2.2.2.2.2) q)) (fun f => rfl) ?_
  refine mr_acp (xs := (fi.map nI)) (M2 := (mk_M c (kr (he, ke, ki, fi, fa, or, mi, a, g, l, w, s)) m ((he.map nI), (ke.map nI), (ki.map nI), (fi.map nI), kk.2.2.2.2.1, kk.2.2.2.2.2.1, kk.2.2.2.2.2.2.1, kk.2.2.2.2.2.2.2.1, kk.2.2.2.2.2.2.2.2.1, kk.2.2.2.2.2.2.2.2.2.1, kk.2.2.2.2.2.2.2.2.2.2.1, kk.2.2.2.2.2.2.2.2.2.2.2) q)) rfl rfl rfl (by decide) (by rw [List.length_map]; first | (rw [v1]; rfl) | (rw [v2]; rfl) | (rw [v3]; rfl) | (rw [v4]; rfl) | (rw [v5]; rfl) | (rw [v6l]; rfl)) (by rw [hkk4]; rfl) rfl ?_
  refine mr_seg 7 (pc1 := 69) (ls1 := [some (.ref 131), some (.ref 117)]) (st1 := [.int 5, .int 0, .ref 136, .int 0, .ref 122]) (M1 := (mk_M c (kr (he, ke, ki, fi, fa, or, mi, a, g, l, w, s)) m ((he.map nI), (ke.map nI), (ki.map nI), (fi.map nI), kk.2.2.2.2.1, kk.2.2.2.2.2.1, kk.2.2.2.2.2.2.1, kk.2.2.2.2.2.2.2.1, kk.2.2.2.2.2.2.2.2.1, kk.2.2.2.2.2.2.2.2.2.1, kk.2.2.2.2.2.2.2.2.2.2.1, kk.2.2.2.2.2.2.2.2.2.2.2) q)) (fun f => rfl) ?_
  refine mr_acp (xs := (fa.map nI)) (M2 := (mk_M c (kr (he, ke, ki, fi, fa, or, mi, a, g, l, w, s)) m ((he.map nI), (ke.map nI), (ki.map nI), (fi.map nI), (fa.map nI), kk.2.2.2.2.2.1, kk.2.2.2.2.2.2.1, kk.2.2.2.2.2.2.2.1, kk.2.2.2.2.2.2.2.2.1, kk.2.2.2.2.2.2.2.2.2.1, kk.2.2.2.2.2.2.2.2.2.2.1, kk.2.2.2.2.2.2.2.2.2.2.2) q)) rfl rfl rfl (by decide) (by rw [List.length_map]; first | (rw [v1]; rfl) | (rw [v2]; rfl) | (rw [v3]; rfl) | (rw [v4]; rfl) | (rw [v5]; rfl) | (rw [v6l]; rfl)) (by rw [hkk5]; rfl) rfl ?_
  refine mr_seg 7 (pc1 := 83) (ls1 := [some (.ref 131), some (.ref 117)]) (st1 := [.int 5, .int 0, .ref 137, .int 0, .ref 123]) (M1 := (mk_M c (kr (he, ke, ki, fi, fa, or, mi, a, g, l, w, s)) m ((he.map nI), (ke.map nI), (ki.map nI), (fi.map nI), (fa.map nI), kk.2.2.2.2.2.1, kk.2.2.2.2.2.2.1, kk.2.2.2.2.2.2.2.1, kk.2.2.2.2.2.2.2.2.1, kk.2.2.2.2.2.2.2.2.2.1, kk.2.2.2.2.2.2.2.2.2.2.1, kk.2.2.2.2.2.2.2.2.2.2.2) q)) (fun f => rfl) ?_
  refine mr_acp (xs := (or.map nI)) (M2 := (mk_M c (kr (he, ke, ki, fi, fa, or, mi, a, g, l, w, s)) m ((he.map nI), (ke.map nI), (ki.map nI), (fi.map nI), (fa.map nI), (or.map nI), kk.2.2.2.2.2.2.1, kk.2.2.2.2.2.2.2.1, kk.2.2.2.2.2.2.2.2.1, kk.2.2.2.2.2.2.2.2.2.1, kk.2.2.2.2.2.2.2.2.2.2.1, kk.2.2.2.2.2.2.2.2.2.2.2) q)) rfl rfl rfl (by decide) (by rw [List.length_map]; first | (rw [v1]; rfl) | (rw [v2]; rfl) | (rw [v3]; rfl) | (rw [v4]; rfl) | (rw [v5]; rfl) | (rw [v6l]; rfl)) (by rw [hkk6]; rfl) rfl ?_
  exact mr_ret 25 (fun f => rfl)
set_option maxRecDepth 100000 in
theorem cc_be_nk (he ke ki fi fa or : List Nat) (mi a g l w s : Nat) (c : cC) (n m : kG) (q : cR) (hV : kV (he, ke, ki, fi, fa, or, mi, a, g, l, w, s)) (hn : kSh n) : mm_R 76 0 [some (.ref 117), some (.ref 131)] [] (mk_M c n m (kr (he, ke, ki, fi, fa, or, mi, a, g, l, w, s)) q) (none, mk_M c (kr (he, ke, ki, fi, fa, or, mi, a, g, l, w, s)) m (kr (he, ke, ki, fi, fa, or, mi, a, g, l, w, s)) q) := by
  obtain ⟨v1, v2, v3, v4, v5, v6, v7, v8, v9, v10, v11, v12, v13, v14, v15, v16⟩ := id hV
  have v6l := kO_len mi v7 or v6
  obtain ⟨hn1, hn2, hn3, hn4, hn5, hn6⟩ := id hn
  refine mr_seg 7 (pc1 := 12) (ls1 := [some (.ref 117), some (.ref 131)]) (st1 := [.int 25, .int 0, .ref 118, .int 0, .ref 132]) (M1 := (mk_M c n m (kr (he, ke, ki, fi, fa, or, mi, a, g, l, w, s)) q)) (fun f => rfl) ?_
  refine mr_acp (xs := (he.map nI)) (M2 := (mk_M c ((he.map nI), n.2.1, n.2.2.1, n.2.2.2.1, n.2.2.2.2.1, n.2.2.2.2.2.1, n.2.2.2.2.2.2.1, n.2.2.2.2.2.2.2.1, n.2.2.2.2.2.2.2.2.1, n.2.2.2.2.2.2.2.2.2.1, n.2.2.2.2.2.2.2.2.2.2.1, n.2.2.2.2.2.2.2.2.2.2.2) m (kr (he, ke, ki, fi, fa, or, mi, a, g, l, w, s)) q)) rfl rfl rfl (by decide) (by rw [List.length_map]; first | (rw [v1]; rfl) | (rw [v2]; rfl) | (rw [v3]; rfl) | (rw [v4]; rfl) | (rw [v5]; rfl) | (rw [v6l]; rfl)) (by rw [hn1]; rfl) rfl ?_
  refine mr_seg 7 (pc1 := 27) (ls1 := [some (.ref 117), some (.ref 131)]) (st1 := [.int 25, .int 0, .ref 119, .int 0, .ref 133]) (M1 := (mk_M c ((he.map nI), n.2.1, n.2.2.1, n.2.2.2.1, n.2.2.2.2.1, n.2.2.2.2.2.1, n.2.2.2.2.2.2.1, n.2.2.2.2.2.2.2.1, n.2.2.2.2.2.2.2.2.1, n.2.2.2.2.2.2.2.2.2.1, n.2.2.2.2.2.2.2.2.2.2.1, n.2.2.2.2.2.2.2.2.2.2.2) m (kr (he, ke, ki, fi, fa, or, mi, a, g, l, w, s)) q)) (fun f => rfl) ?_
  refine mr_acp (xs := (ke.map nI)) (M2 := (mk_M c ((he.map nI), (ke.map nI), n.2.2.1, n.2.2.2.1, n.2.2.2.2.1, n.2.2.2.2.2.1, n.2.2.2.2.2.2.1, n.2.2.2.2.2.2.2.1, n.2.2.2.2.2.2.2.2.1, n.2.2.2.2.2.2.2.2.2.1, n.2.2.2.2.2.2.2.2.2.2.1, n.2.2.2.2.2.2.2.2.2.2.2) m (kr (he, ke, ki, fi, fa, or, mi, a, g, l, w, s)) q)) rfl rfl rfl (by decide) (by rw [List.length_map]; first | (rw [v1]; rfl) | (rw [v2]; rfl) | (rw [v3]; rfl) | (rw [v4]; rfl) | (rw [v5]; rfl) | (rw [v6l]; rfl)) (by rw [hn2]; rfl) rfl ?_
  refine mr_seg 7 (pc1 := 41) (ls1 := [some (.ref 117), some (.ref 131)]) (st1 := [.int 5, .int 0, .ref 120, .int 0, .ref 134]) (M1 := (mk_M c ((he.map nI), (ke.map nI), n.2.2.1, n.2.2.2.1, n.2.2.2.2.1, n.2.2.2.2.2.1, n.2.2.2.2.2.2.1, n.2.2.2.2.2.2.2.1, n.2.2.2.2.2.2.2.2.1, n.2.2.2.2.2.2.2.2.2.1, n.2.2.2.2.2.2.2.2.2.2.1, n.2.2.2.2.2.2.2.2.2.2.2) m (kr (he, ke, ki, fi, fa, or, mi, a, g, l, w, s)) q)) (fun f => rfl) ?_
  refine mr_acp (xs := (ki.map nI)) (M2 := (mk_M c ((he.map nI), (ke.map nI), (ki.map nI), n.2.2.2.1, n.2.2.2.2.1, n.2.2.2.2.2.1, n.2.2.2.2.2.2.1, n.2.2.2.2.2.2.2.1, n.2.2.2.2.2.2.2.2.1, n.2.2.2.2.2.2.2.2.2.1, n.2.2.2.2.2.2.2.2.2.2.1, n.2.2.2.2.2.2.2.2.2.2.2) m (kr (he, ke, ki, fi, fa, or, mi, a, g, l, w, s)) q)) rfl rfl rfl (by decide) (by rw [List.length_map]; first | (rw [v1]; rfl) | (rw [v2]; rfl) | (rw [v3]; rfl) | (rw [v4]; rfl) | (rw [v5]; rfl) | (rw [v6l]; rfl)) (by rw [hn3]; rfl) rfl ?_
  refine mr_seg 7 (pc1 := 55) (ls1 := [some (.ref 117), some (.ref 131)]) (st1 := [.int 5, .int 0, .ref 121, .int 0, .ref 135]) (M1 := (mk_M c ((he.map nI), (ke.map nI), (ki.map nI), n.2.2.2.1, n.2.2.2.2.1, n.2.2.2.2.2.1, n.2.2.2.2.2.2.1, n.2.2.2.2.2.2.2.1, n.2.2.2.2.2.2.2.2.1, n.2.2.2.2.2.2.2.2.2.1, n.2.2.2.2.2.2.2.2.2.2.1, n.2.2.2.2.2.2.2.2.2.2.2) m (kr (he, ke, ki, fi, fa, or, mi, a, g, l, w, s)) q)) (fun f => rfl) ?_
  refine mr_acp (xs := (fi.map nI)) (M2 := (mk_M c ((he.map nI), (ke.map nI), (ki.map nI), (fi.map nI), n.2.2.2.2.1, n.2.2.2.2.2.1, n.2.2.2.2.2.2.1, n.2.2.2.2.2.2.2.1, n.2.2.2.2.2.2.2.2.1, n.2.2.2.2.2.2.2.2.2.1, n.2.2.2.2.2.2.2.2.2.2.1, n.2.2.2.2.2.2.2.2.2.2.2) m (kr (he, ke, ki, fi, fa, or, mi, a, g, l, w, s)) q)) rfl rfl rfl (by decide) (by rw [List.length_map]; first | (rw [v1]; rfl) | (rw [v2]; rfl) | (rw [v3]; rfl) | (rw [v4]; rfl) | (rw [v5]; rfl) | (rw [v6l]; rfl)) (by rw [hn4]; rfl) rfl ?_
  refine mr_seg 7 (pc1 := 69) (ls1 := [some (.ref 117), some (.ref 131)]) (st1 := [.int 5, .int 0, .ref 122, .int 0, .ref 136]) (M1 := (mk_M c ((he.map nI), (ke.map nI), (ki.map nI), (fi.map nI), n.2.2.2.2.1, n.2.2.2.2.2.1, n.2.2.2.2.2.2.1, n.2.2.2.2.2.2.2.1, n.2.2.2.2.2.2.2.2.1, n.2.2.2.2.2.2.2.2.2.1, n.2.2.2.2.2.2.2.2.2.2.1, n.2.2.2.2.2.2.2.2.2.2.2) m (kr (he, ke, ki, fi, fa, or, mi, a, g, l, w, s)) q)) (fun f => rfl) ?_
  refine mr_acp (xs := (fa.map nI)) (M2 := (mk_M c ((he.map nI), (ke.map nI), (ki.map nI), (fi.map nI), (fa.map nI), n.2.2.2.2.2.1, n.2.2.2.2.2.2.1, n.2.2.2.2.2.2.2.1, n.2.2.2.2.2.2.2.2.1, n.2.2.2.2.2.2.2.2.2.1, n.2.2.2.2.2.2.2.2.2.2.1, n.2.2.2.2.2.2.2.2.2.2.2) m (kr (he, ke, ki, fi, fa, or, mi, a, g, l, w, s)) q)) rfl rfl rfl (by decide) (by rw [List.length_map]; first | (rw [v1]; rfl) | (rw [v2]; rfl) | (rw [v3]; rfl) | (rw [v4]; rfl) | (rw [v5]; rfl) | (rw [v6l]; rfl)) (by rw [hn5]; rfl) rfl ?_
  refine mr_seg 7 (pc1 := 83) (ls1 := [some (.ref 117), some (.ref 131)]) (st1 := [.int 5, .int 0, .ref 123, .int 0, .ref 137]) (M1 := (mk_M c ((he.map nI), (ke.map nI), (ki.map nI), (fi.map nI), (fa.map nI), n.2.2.2.2.2.1, n.2.2.2.2.2.2.1, n.2.2.2.2.2.2.2.1, n.2.2.2.2.2.2.2.2.1, n.2.2.2.2.2.2.2.2.2.1, n.2.2.2.2.2.2.2.2.2.2.1, n.2.2.2.2.2.2.2.2.2.2.2) m (kr (he, ke, ki, fi, fa, or, mi, a, g, l, w, s)) q)) (fun f => rfl) ?_
  refine mr_acp (xs := (or.map nI)) (M2 := (mk_M c ((he.map nI), (ke.map nI), (ki.map nI), (fi.map nI), (fa.map nI), (or.map nI), n.2.2.2.2.2.2.1, n.2.2.2.2.2.2.2.1, n.2.2.2.2.2.2.2.2.1, n.2.2.2.2.2.2.2.2.2.1, n.2.2.2.2.2.2.2.2.2.2.1, n.2.2.2.2.2.2.2.2.2.2.2) m (kr (he, ke, ki, fi, fa, or, mi, a, g, l, w, s)) q)) rfl rfl rfl (by decide) (by rw [List.length_map]; first | (rw [v1]; rfl) | (rw [v2]; rfl) | (rw [v3]; rfl) | (rw [v4]; rfl) | (rw [v5]; rfl) | (rw [v6l]; rfl)) (by rw [hn6]; rfl) rfl ?_
  exact mr_ret 25 (fun f => rfl)
set_option maxRecDepth 100000 in
theorem cc_now0 (he ke ki fi fa or : List Nat) (mi a g l w s : Nat) (c : cC) (m kk : kG) (q : cR) (hV : kV (he, ke, ki, fi, fa, or, mi, a, g, l, w, s)) (hm : kSh m) : mm_R 75 0 [some (.ref 100)] [] (mk_M c (kr (he, ke, ki, fi, fa, or, mi, a, g, l, w, s)) m kk q) (some (.ref 124), mk_M c (kr (he, ke, ki, fi, fa, or, mi, a, g, l, w, s)) (kr (he, ke, ki, fi, fa, or, mi, a, g, l, w, s)) kk q) := by
  refine mr_seg 4 (pc1 := 8) (ls1 := [some (.ref 100)]) (st1 := [.ref 117, .ref 124]) (M1 := (mk_M c (kr (he, ke, ki, fi, fa, or, mi, a, g, l, w, s)) m kk q)) (fun f => rfl) ?_
  refine mr_call (y := 76) (y0 := 11) (L := [some (.ref 124), some (.ref 117)]) (rest := []) (rr := none) (M1 := (mk_M c (kr (he, ke, ki, fi, fa, or, mi, a, g, l, w, s)) (kr (he, ke, ki, fi, fa, or, mi, a, g, l, w, s)) kk q)) (fun f => rfl) (cc_be_mn he ke ki fi fa or mi a g l w s c m kk q hV hm) ?_
  exact mr_ret 3 (fun f => rfl)
theorem cc_now (K : kK) (c : cC) (m kk : kG) (q : cR) (hV : kV K) (hm : kSh m) : mm_R 75 0 [some (.ref 100)] [] (mk_M c (kr K) m kk q) (some (.ref 124), mk_M c (kr K) (kr K) kk q) := by
  obtain ⟨he, ke, ki, fi, fa, or, mi, a, g, l, w, s⟩ := K
  exact cc_now0 he ke ki fi fa or mi a g l w s c m kk q hV hm
theorem k_gem {mi : Nat} {x : Int32} (hm : mi ≤ 5) (h : nI mi ≤ x) : nI mi - 1 < x := by
  have h1 := Int32.le_iff_toInt_le.mp h
  rw [nI_toInt (by omega)] at h1
  rw [Int32.lt_iff_toInt_lt]
  have h2 := pk_sub_toInt (a := mi) (b := 1) (by omega) (by omega)
  have h3 : (nI mi - nI 1).toInt = (nI mi - 1).toInt := rfl
  omega
theorem k_nneg {x : Int32} {mi : Nat} (hm : mi ≤ 5) (h : nI mi ≤ x) : ¬ x < 0 := by
  intro q
  have h1 := Int32.le_iff_toInt_le.mp h
  have h2 := Int32.lt_iff_toInt_lt.mp q
  rw [nI_toInt (by omega)] at h1
  have h3 : (0 : Int32).toInt = 0 := by decide
  omega
set_option maxRecDepth 100000 in
theorem oc_goes_0 (he ke ki fi fa or : List Nat) (mi a g l w s : Nat) (im : Nat) (le : List Nat) (ln : Nat) (ys : List Int32) (vt : Int32) (nu : List Nat) (nn : Nat) (rf : List Nat) (vw vq : Int32) (yc yh yg : List Int32) (m kk : kG) (q : cR) (hA : iA (he, ke, ki, fi, fa, or, mi, a, g, l, w, s)) (hB : iB le ln) (hC : iC nu nn) (hD : iD rf) (hJ : iJ m ys yc yh yg) (k0 : kSh kk) (x : Int32) (hxu : x.toInt ≤ 0) : mm_R 73 0 [some (.ref 100), some (.int x)] [] (mk_M (cT im le ln ys vt nu nn rf vw vq yc yh yg) (kr (he, ke, ki, fi, fa, or, mi, a, g, l, w, s)) m kk q) (some (.int (-4)), (mk_M (cT im le ln ys vt nu nn (rf.set 4 (kg rf 4 + 1)) vw vq yc yh yg) (kr (he, ke, ki, fi, fa, or, mi, a, g, l, w, s)) m kk q)) := by
  have hst2 : s ≤ 999 := hA.2
  have v7 : mi ≤ 5 := hA.1.2.2.2.2.2.2.1
  have b3 : ln ≤ 96 := hB.2.2
  have c3 : nn ≤ 16 := hC.2.2
  refine mr_seg 2 (pc1 := 2) (ls1 := [some (.ref 100), some (.int x)]) (st1 := [.int 1, .int x]) (M1 := (mk_M (cT im le ln ys vt nu nn rf vw vq yc yh yg) (kr (he, ke, ki, fi, fa, or, mi, a, g, l, w, s)) m kk q)) (fun f => rfl) ?_
  refine mr_f (C := 1 ≤ x) (mz_ge_f 1 (by decide) (by omega)) (fun f => rfl) ?_
  refine mr_seg 2 (pc1 := 8) (ls1 := [some (.ref 100), some (.int x)]) (st1 := [.int (-4), .ref 100]) (M1 := (mk_M (cT im le ln ys vt nu nn rf vw vq yc yh yg) (kr (he, ke, ki, fi, fa, or, mi, a, g, l, w, s)) m kk q)) (fun f => rfl) ?_
  refine mr_call (y := 12) (y0 := 11) (L := [some (.ref 100), some (.int (-4))]) (rest := []) (rr := some (.int (-4))) (M1 := (mk_M (cT im le ln ys vt nu nn (rf.set 4 (kg rf 4 + 1)) vw vq yc yh yg) (kr (he, ke, ki, fi, fa, or, mi, a, g, l, w, s)) m kk q)) (fun f => rfl) (ms_re4 hD) ?_
  exact mr_ret 1 (fun f => rfl)
set_option maxRecDepth 100000 in
theorem om_goes_0 (he ke ki fi fa or : List Nat) (mi a g l w s : Nat) (xm xi xw : List Int32) (im : Nat) (le nu rf : List Nat) (ln nn : Nat) (vp : Int32) (xn xc : List Int32) (vs : Int32) (c : cC) (n m kk : kG) (hA : iA (he, ke, ki, fi, fa, or, mi, a, g, l, w, s)) (hB : iB le ln) (hC : iC nu nn) (hD : iD rf) (hR : iR xm xw xn xc) (k1 : xi.length = 52) (x : Int32) (hxu : x.toInt ≤ 0) : mm_R 167 0 [some (.ref 138), some (.int x)] [] (mk_M c n m kk (rT (he, ke, ki, fi, fa, or, mi, a, g, l, w, s) xm xi xw im le nu rf ln nn vp xn xc vs)) (some (.int (-4)), (mk_M c n m kk (rT (he, ke, ki, fi, fa, or, mi, a, g, l, w, s) xm xi xw im le nu (rf.set 4 (kg rf 4 + 1)) ln nn vp xn xc vs))) := by
  have hst2 : s ≤ 999 := hA.2
  have v7 : mi ≤ 5 := hA.1.2.2.2.2.2.2.1
  have b3 : ln ≤ 96 := hB.2.2
  have c3 : nn ≤ 16 := hC.2.2
  refine mr_seg 2 (pc1 := 2) (ls1 := [some (.ref 138), some (.int x)]) (st1 := [.int 1, .int x]) (M1 := (mk_M c n m kk (rT (he, ke, ki, fi, fa, or, mi, a, g, l, w, s) xm xi xw im le nu rf ln nn vp xn xc vs))) (fun f => rfl) ?_
  refine mr_f (C := 1 ≤ x) (mz_ge_f 1 (by decide) (by omega)) (fun f => rfl) ?_
  refine mr_seg 2 (pc1 := 8) (ls1 := [some (.ref 138), some (.int x)]) (st1 := [.int (-4), .ref 138]) (M1 := (mk_M c n m kk (rT (he, ke, ki, fi, fa, or, mi, a, g, l, w, s) xm xi xw im le nu rf ln nn vp xn xc vs))) (fun f => rfl) ?_
  refine mr_call (y := 130) (y0 := 11) (L := [some (.ref 138), some (.int (-4))]) (rest := []) (rr := some (.int (-4))) (M1 := (mk_M c n m kk (rT (he, ke, ki, fi, fa, or, mi, a, g, l, w, s) xm xi xw im le nu (rf.set 4 (kg rf 4 + 1)) ln nn vp xn xc vs))) (fun f => rfl) (ms_no4 hD) ?_
  exact mr_ret 1 (fun f => rfl)
theorem oe_goes_0 (he ke ki fi fa or : List Nat) (mi a g l w s : Nat) (m : kG) (kk : kG) (im : Nat) (le : List Nat) (ln : Nat) (ys : List Int32) (vt : Int32) (nu : List Nat) (nn : Nat) (rf : List Nat) (vw : Int32) (vq : Int32) (yc : List Int32) (yh : List Int32) (yg : List Int32) (xm : List Int32) (xi : List Int32) (xw : List Int32) (vp : Int32) (xn : List Int32) (xc : List Int32) (vs : Int32) (hA : iA (he, ke, ki, fi, fa, or, mi, a, g, l, w, s)) (hB : iB le ln) (hC : iC nu nn) (hD : iD rf) (hJ : iJ m ys yc yh yg) (hR : iR xm xw xn xc) (hK : iK im kk xi) (x : Int32) (hxu : x.toInt ≤ 0) : oI 73 167 [some (.ref 100), some (.int x)] [some (.ref 138), some (.int x)] (mk_M (cT im le ln ys vt nu nn rf vw vq yc yh yg) (kr (he, ke, ki, fi, fa, or, mi, a, g, l, w, s)) m kk (rT (he, ke, ki, fi, fa, or, mi, a, g, l, w, s) xm xi xw im le nu rf ln nn vp xn xc vs)) := by
  exact ⟨(-4), _, _, oc_goes_0 he ke ki fi fa or mi a g l w s im le ln ys vt nu nn rf vw vq yc yh yg m kk _ hA hB hC hD hJ hK.1 x hxu, om_goes_0 he ke ki fi fa or mi a g l w s xm xi xw im le nu rf ln nn vp xn xc vs _ _ _ _ hA hB hC hD hR hK.2.1 x hxu, (he, ke, ki, fi, fa, or, mi, a, g, l, w, s), m, kk, im, le, ln, ys, vt, nu, nn, (rf.set 4 (kg rf 4 + 1)), vw, vq, yc, yh, yg, xm, xi, xw, vp, xn, xc, vs, rfl, hA, hB, hC, iD_s hD, hJ, hR, hK⟩
set_option maxRecDepth 100000 in
theorem oc_goes_1 (he ke ki fi fa or : List Nat) (mi a g l w s : Nat) (im : Nat) (le : List Nat) (ln : Nat) (ys : List Int32) (vt : Int32) (nu : List Nat) (nn : Nat) (rf : List Nat) (vw vq : Int32) (yc yh yg : List Int32) (m kk : kG) (q : cR) (hA : iA (he, ke, ki, fi, fa, or, mi, a, g, l, w, s)) (hB : iB le ln) (hC : iC nu nn) (hD : iD rf) (hJ : iJ m ys yc yh yg) (k0 : kSh kk) (x : Int32) (hxl : 61 ≤ x.toInt) : mm_R 73 0 [some (.ref 100), some (.int x)] [] (mk_M (cT im le ln ys vt nu nn rf vw vq yc yh yg) (kr (he, ke, ki, fi, fa, or, mi, a, g, l, w, s)) m kk q) (some (.int (-6)), (mk_M (cT im le ln ys vt nu nn (rf.set 6 (kg rf 6 + 1)) vw vq yc yh yg) (kr (he, ke, ki, fi, fa, or, mi, a, g, l, w, s)) m kk q)) := by
  have hst2 : s ≤ 999 := hA.2
  have v7 : mi ≤ 5 := hA.1.2.2.2.2.2.2.1
  have b3 : ln ≤ 96 := hB.2.2
  have c3 : nn ≤ 16 := hC.2.2
  refine mr_seg 2 (pc1 := 2) (ls1 := [some (.ref 100), some (.int x)]) (st1 := [.int 1, .int x]) (M1 := (mk_M (cT im le ln ys vt nu nn rf vw vq yc yh yg) (kr (he, ke, ki, fi, fa, or, mi, a, g, l, w, s)) m kk q)) (fun f => rfl) ?_
  refine mr_t (C := 1 ≤ x) (mz_ge_t 1 (by decide) (by omega)) (fun f => rfl) ?_
  refine mr_seg 2 (pc1 := 15) (ls1 := [some (.ref 100), some (.int x)]) (st1 := [.int 60, .int x]) (M1 := (mk_M (cT im le ln ys vt nu nn rf vw vq yc yh yg) (kr (he, ke, ki, fi, fa, or, mi, a, g, l, w, s)) m kk q)) (fun f => rfl) ?_
  refine mr_t (C := 60 < x) (mz_gt_t 60 (by decide) (by omega)) (fun f => rfl) ?_
  refine mr_seg 2 (pc1 := 36) (ls1 := [some (.ref 100), some (.int x)]) (st1 := [.int (-6), .ref 100]) (M1 := (mk_M (cT im le ln ys vt nu nn rf vw vq yc yh yg) (kr (he, ke, ki, fi, fa, or, mi, a, g, l, w, s)) m kk q)) (fun f => rfl) ?_
  refine mr_call (y := 12) (y0 := 39) (L := [some (.ref 100), some (.int (-6))]) (rest := []) (rr := some (.int (-6))) (M1 := (mk_M (cT im le ln ys vt nu nn (rf.set 6 (kg rf 6 + 1)) vw vq yc yh yg) (kr (he, ke, ki, fi, fa, or, mi, a, g, l, w, s)) m kk q)) (fun f => rfl) (ms_re6 hD) ?_
  exact mr_ret 1 (fun f => rfl)
set_option maxRecDepth 100000 in
theorem om_goes_1 (he ke ki fi fa or : List Nat) (mi a g l w s : Nat) (xm xi xw : List Int32) (im : Nat) (le nu rf : List Nat) (ln nn : Nat) (vp : Int32) (xn xc : List Int32) (vs : Int32) (c : cC) (n m kk : kG) (hA : iA (he, ke, ki, fi, fa, or, mi, a, g, l, w, s)) (hB : iB le ln) (hC : iC nu nn) (hD : iD rf) (hR : iR xm xw xn xc) (k1 : xi.length = 52) (x : Int32) (hxl : 61 ≤ x.toInt) : mm_R 167 0 [some (.ref 138), some (.int x)] [] (mk_M c n m kk (rT (he, ke, ki, fi, fa, or, mi, a, g, l, w, s) xm xi xw im le nu rf ln nn vp xn xc vs)) (some (.int (-6)), (mk_M c n m kk (rT (he, ke, ki, fi, fa, or, mi, a, g, l, w, s) xm xi xw im le nu (rf.set 6 (kg rf 6 + 1)) ln nn vp xn xc vs))) := by
  have hst2 : s ≤ 999 := hA.2
  have v7 : mi ≤ 5 := hA.1.2.2.2.2.2.2.1
  have b3 : ln ≤ 96 := hB.2.2
  have c3 : nn ≤ 16 := hC.2.2
  refine mr_seg 2 (pc1 := 2) (ls1 := [some (.ref 138), some (.int x)]) (st1 := [.int 1, .int x]) (M1 := (mk_M c n m kk (rT (he, ke, ki, fi, fa, or, mi, a, g, l, w, s) xm xi xw im le nu rf ln nn vp xn xc vs))) (fun f => rfl) ?_
  refine mr_t (C := 1 ≤ x) (mz_ge_t 1 (by decide) (by omega)) (fun f => rfl) ?_
  refine mr_seg 2 (pc1 := 15) (ls1 := [some (.ref 138), some (.int x)]) (st1 := [.int 60, .int x]) (M1 := (mk_M c n m kk (rT (he, ke, ki, fi, fa, or, mi, a, g, l, w, s) xm xi xw im le nu rf ln nn vp xn xc vs))) (fun f => rfl) ?_
  refine mr_t (C := 60 < x) (mz_gt_t 60 (by decide) (by omega)) (fun f => rfl) ?_
  refine mr_seg 2 (pc1 := 35) (ls1 := [some (.ref 138), some (.int x)]) (st1 := [.int (-6), .ref 138]) (M1 := (mk_M c n m kk (rT (he, ke, ki, fi, fa, or, mi, a, g, l, w, s) xm xi xw im le nu rf ln nn vp xn xc vs))) (fun f => rfl) ?_
  refine mr_call (y := 130) (y0 := 38) (L := [some (.ref 138), some (.int (-6))]) (rest := []) (rr := some (.int (-6))) (M1 := (mk_M c n m kk (rT (he, ke, ki, fi, fa, or, mi, a, g, l, w, s) xm xi xw im le nu (rf.set 6 (kg rf 6 + 1)) ln nn vp xn xc vs))) (fun f => rfl) (ms_no6 hD) ?_
  exact mr_ret 1 (fun f => rfl)
theorem oe_goes_1 (he ke ki fi fa or : List Nat) (mi a g l w s : Nat) (m : kG) (kk : kG) (im : Nat) (le : List Nat) (ln : Nat) (ys : List Int32) (vt : Int32) (nu : List Nat) (nn : Nat) (rf : List Nat) (vw : Int32) (vq : Int32) (yc : List Int32) (yh : List Int32) (yg : List Int32) (xm : List Int32) (xi : List Int32) (xw : List Int32) (vp : Int32) (xn : List Int32) (xc : List Int32) (vs : Int32) (hA : iA (he, ke, ki, fi, fa, or, mi, a, g, l, w, s)) (hB : iB le ln) (hC : iC nu nn) (hD : iD rf) (hJ : iJ m ys yc yh yg) (hR : iR xm xw xn xc) (hK : iK im kk xi) (x : Int32) (hxl : 61 ≤ x.toInt) : oI 73 167 [some (.ref 100), some (.int x)] [some (.ref 138), some (.int x)] (mk_M (cT im le ln ys vt nu nn rf vw vq yc yh yg) (kr (he, ke, ki, fi, fa, or, mi, a, g, l, w, s)) m kk (rT (he, ke, ki, fi, fa, or, mi, a, g, l, w, s) xm xi xw im le nu rf ln nn vp xn xc vs)) := by
  exact ⟨(-6), _, _, oc_goes_1 he ke ki fi fa or mi a g l w s im le ln ys vt nu nn rf vw vq yc yh yg m kk _ hA hB hC hD hJ hK.1 x hxl, om_goes_1 he ke ki fi fa or mi a g l w s xm xi xw im le nu rf ln nn vp xn xc vs _ _ _ _ hA hB hC hD hR hK.2.1 x hxl, (he, ke, ki, fi, fa, or, mi, a, g, l, w, s), m, kk, im, le, ln, ys, vt, nu, nn, (rf.set 6 (kg rf 6 + 1)), vw, vq, yc, yh, yg, xm, xi, xw, vp, xn, xc, vs, rfl, hA, hB, hC, iD_s hD, hJ, hR, hK⟩
set_option maxRecDepth 100000 in
theorem oc_goes_2 (he ke ki fi fa or : List Nat) (mi a g l w s : Nat) (im : Nat) (le : List Nat) (ln : Nat) (ys : List Int32) (vt : Int32) (nu : List Nat) (nn : Nat) (rf : List Nat) (vw vq : Int32) (yc yh yg : List Int32) (m kk : kG) (q : cR) (hA : iA (he, ke, ki, fi, fa, or, mi, a, g, l, w, s)) (hB : iB le ln) (hC : iC nu nn) (hD : iD rf) (hJ : iJ m ys yc yh yg) (k0 : kSh kk) (x : Nat) (hx1 : 1 ≤ x) (hx : x ≤ 60) (hq : 999 < s + x) : mm_R 73 0 [some (.ref 100), some (.int (nI x))] [] (mk_M (cT im le ln ys vt nu nn rf vw vq yc yh yg) (kr (he, ke, ki, fi, fa, or, mi, a, g, l, w, s)) m kk q) (some (.int (-6)), (mk_M (cT im le ln ys vt nu nn (rf.set 6 (kg rf 6 + 1)) vw vq yc yh yg) (kr (he, ke, ki, fi, fa, or, mi, a, g, l, w, s)) m kk q)) := by
  have hst2 : s ≤ 999 := hA.2
  have v7 : mi ≤ 5 := hA.1.2.2.2.2.2.2.1
  have b3 : ln ≤ 96 := hB.2.2
  have c3 : nn ≤ 16 := hC.2.2
  refine mr_seg 2 (pc1 := 2) (ls1 := [some (.ref 100), some (.int (nI x))]) (st1 := [.int 1, .int (nI x)]) (M1 := (mk_M (cT im le ln ys vt nu nn rf vw vq yc yh yg) (kr (he, ke, ki, fi, fa, or, mi, a, g, l, w, s)) m kk q)) (fun f => rfl) ?_
  refine mr_t (C := 1 ≤ (nI x)) (nI_let (a := 1) (b := x) (by omega)) (fun f => rfl) ?_
  refine mr_seg 2 (pc1 := 15) (ls1 := [some (.ref 100), some (.int (nI x))]) (st1 := [.int 60, .int (nI x)]) (M1 := (mk_M (cT im le ln ys vt nu nn rf vw vq yc yh yg) (kr (he, ke, ki, fi, fa, or, mi, a, g, l, w, s)) m kk q)) (fun f => rfl) ?_
  refine mr_f (C := 60 < (nI x)) (nI_ltf (a := 60) (b := x) (by omega)) (fun f => rfl) ?_
  refine mr_seg 5 (pc1 := 27) (ls1 := [some (.ref 100), some (.int (nI x))]) (st1 := [.int ((nI s) + (nI x))]) (M1 := (mk_M (cT im le ln ys vt nu nn rf vw vq yc yh yg) (kr (he, ke, ki, fi, fa, or, mi, a, g, l, w, s)) m kk q)) (fun f => rfl) ?_
  refine mr_v (nI_add s x) ?_
  refine mr_seg 1 (pc1 := 30) (ls1 := [some (.ref 100), some (.int (nI x))]) (st1 := [.int 999, .int (nI (s + x))]) (M1 := (mk_M (cT im le ln ys vt nu nn rf vw vq yc yh yg) (kr (he, ke, ki, fi, fa, or, mi, a, g, l, w, s)) m kk q)) (fun f => rfl) ?_
  refine mr_f (C := (nI (s + x)) ≤ 999) (nI_lef (a := s + x) (b := 999) (by omega)) (fun f => rfl) ?_
  refine mr_seg 2 (pc1 := 36) (ls1 := [some (.ref 100), some (.int (nI x))]) (st1 := [.int (-6), .ref 100]) (M1 := (mk_M (cT im le ln ys vt nu nn rf vw vq yc yh yg) (kr (he, ke, ki, fi, fa, or, mi, a, g, l, w, s)) m kk q)) (fun f => rfl) ?_
  refine mr_call (y := 12) (y0 := 39) (L := [some (.ref 100), some (.int (-6))]) (rest := []) (rr := some (.int (-6))) (M1 := (mk_M (cT im le ln ys vt nu nn (rf.set 6 (kg rf 6 + 1)) vw vq yc yh yg) (kr (he, ke, ki, fi, fa, or, mi, a, g, l, w, s)) m kk q)) (fun f => rfl) (ms_re6 hD) ?_
  exact mr_ret 1 (fun f => rfl)
set_option maxRecDepth 100000 in
theorem om_goes_2 (he ke ki fi fa or : List Nat) (mi a g l w s : Nat) (xm xi xw : List Int32) (im : Nat) (le nu rf : List Nat) (ln nn : Nat) (vp : Int32) (xn xc : List Int32) (vs : Int32) (c : cC) (n m kk : kG) (hA : iA (he, ke, ki, fi, fa, or, mi, a, g, l, w, s)) (hB : iB le ln) (hC : iC nu nn) (hD : iD rf) (hR : iR xm xw xn xc) (k1 : xi.length = 52) (x : Nat) (hx1 : 1 ≤ x) (hx : x ≤ 60) (hq : 999 < s + x) : mm_R 167 0 [some (.ref 138), some (.int (nI x))] [] (mk_M c n m kk (rT (he, ke, ki, fi, fa, or, mi, a, g, l, w, s) xm xi xw im le nu rf ln nn vp xn xc vs)) (some (.int (-6)), (mk_M c n m kk (rT (he, ke, ki, fi, fa, or, mi, a, g, l, w, s) xm xi xw im le nu (rf.set 6 (kg rf 6 + 1)) ln nn vp xn xc vs))) := by
  obtain ⟨hV, hst⟩ := id hA
  have hst2 : s ≤ 999 := hst
  obtain ⟨v1, v2, v3, v4, v5, v6, v7, v8, v9, v10, v11, v12, v13, v14, v15, v16⟩ := id hV
  have v6l := kO_len mi v7 or v6
  obtain ⟨b1, b2, b3⟩ := id hB
  obtain ⟨c1, c2, c3⟩ := id hC
  have d1 : rf.length = 7 := hD
  obtain ⟨r1, r2, r3, r4⟩ := id hR
  refine mr_seg 2 (pc1 := 2) (ls1 := [some (.ref 138), some (.int (nI x))]) (st1 := [.int 1, .int (nI x)]) (M1 := (mk_M c n m kk (rT (he, ke, ki, fi, fa, or, mi, a, g, l, w, s) xm xi xw im le nu rf ln nn vp xn xc vs))) (fun f => rfl) ?_
  refine mr_t (C := 1 ≤ (nI x)) (nI_let (a := 1) (b := x) (by omega)) (fun f => rfl) ?_
  refine mr_seg 2 (pc1 := 15) (ls1 := [some (.ref 138), some (.int (nI x))]) (st1 := [.int 60, .int (nI x)]) (M1 := (mk_M c n m kk (rT (he, ke, ki, fi, fa, or, mi, a, g, l, w, s) xm xi xw im le nu rf ln nn vp xn xc vs))) (fun f => rfl) ?_
  refine mr_f (C := 60 < (nI x)) (nI_ltf (a := 60) (b := x) (by omega)) (fun f => rfl) ?_
  refine mr_seg 3 (pc1 := 23) (ls1 := [some (.ref 138), some (.int (nI x))]) (st1 := [.int 1, .ref 139]) (M1 := (mk_M c n m kk (rT (he, ke, ki, fi, fa, or, mi, a, g, l, w, s) xm xi xw im le nu rf ln nn vp xn xc vs))) (fun f => rfl) ?_
  refine mr_ldn (xs := (er (he, ke, ki, fi, fa, or, mi, a, g, l, w, s))) rfl rfl (k := 1) (by decide) rfl ?_
  refine mr_seg 2 (pc1 := 26) (ls1 := [some (.ref 138), some (.int (nI x))]) (st1 := [.int ((nI s) + (nI x))]) (M1 := (mk_M c n m kk (rT (he, ke, ki, fi, fa, or, mi, a, g, l, w, s) xm xi xw im le nu rf ln nn vp xn xc vs))) (fun f => rfl) ?_
  refine mr_v (nI_add s x) ?_
  refine mr_seg 1 (pc1 := 29) (ls1 := [some (.ref 138), some (.int (nI x))]) (st1 := [.int 999, .int (nI (s + x))]) (M1 := (mk_M c n m kk (rT (he, ke, ki, fi, fa, or, mi, a, g, l, w, s) xm xi xw im le nu rf ln nn vp xn xc vs))) (fun f => rfl) ?_
  refine mr_f (C := (nI (s + x)) ≤ 999) (nI_lef (a := s + x) (b := 999) (by omega)) (fun f => rfl) ?_
  refine mr_seg 2 (pc1 := 35) (ls1 := [some (.ref 138), some (.int (nI x))]) (st1 := [.int (-6), .ref 138]) (M1 := (mk_M c n m kk (rT (he, ke, ki, fi, fa, or, mi, a, g, l, w, s) xm xi xw im le nu rf ln nn vp xn xc vs))) (fun f => rfl) ?_
  refine mr_call (y := 130) (y0 := 38) (L := [some (.ref 138), some (.int (-6))]) (rest := []) (rr := some (.int (-6))) (M1 := (mk_M c n m kk (rT (he, ke, ki, fi, fa, or, mi, a, g, l, w, s) xm xi xw im le nu (rf.set 6 (kg rf 6 + 1)) ln nn vp xn xc vs))) (fun f => rfl) (ms_no6 hD) ?_
  exact mr_ret 1 (fun f => rfl)
theorem oe_goes_2 (he ke ki fi fa or : List Nat) (mi a g l w s : Nat) (m : kG) (kk : kG) (im : Nat) (le : List Nat) (ln : Nat) (ys : List Int32) (vt : Int32) (nu : List Nat) (nn : Nat) (rf : List Nat) (vw : Int32) (vq : Int32) (yc : List Int32) (yh : List Int32) (yg : List Int32) (xm : List Int32) (xi : List Int32) (xw : List Int32) (vp : Int32) (xn : List Int32) (xc : List Int32) (vs : Int32) (hA : iA (he, ke, ki, fi, fa, or, mi, a, g, l, w, s)) (hB : iB le ln) (hC : iC nu nn) (hD : iD rf) (hJ : iJ m ys yc yh yg) (hR : iR xm xw xn xc) (hK : iK im kk xi) (x : Nat) (hx1 : 1 ≤ x) (hx : x ≤ 60) (hq : 999 < s + x) : oI 73 167 [some (.ref 100), some (.int (nI x))] [some (.ref 138), some (.int (nI x))] (mk_M (cT im le ln ys vt nu nn rf vw vq yc yh yg) (kr (he, ke, ki, fi, fa, or, mi, a, g, l, w, s)) m kk (rT (he, ke, ki, fi, fa, or, mi, a, g, l, w, s) xm xi xw im le nu rf ln nn vp xn xc vs)) := by
  exact ⟨(-6), _, _, oc_goes_2 he ke ki fi fa or mi a g l w s im le ln ys vt nu nn rf vw vq yc yh yg m kk _ hA hB hC hD hJ hK.1 x hx1 hx hq, om_goes_2 he ke ki fi fa or mi a g l w s xm xi xw im le nu rf ln nn vp xn xc vs _ _ _ _ hA hB hC hD hR hK.2.1 x hx1 hx hq, (he, ke, ki, fi, fa, or, mi, a, g, l, w, s), m, kk, im, le, ln, ys, vt, nu, nn, (rf.set 6 (kg rf 6 + 1)), vw, vq, yc, yh, yg, xm, xi, xw, vp, xn, xc, vs, rfl, hA, hB, hC, iD_s hD, hJ, hR, hK⟩
set_option maxRecDepth 100000 in
theorem oc_goes_3 (he ke ki fi fa or : List Nat) (mi a g l w s : Nat) (im : Nat) (le : List Nat) (ln : Nat) (ys : List Int32) (vt : Int32) (nu : List Nat) (nn : Nat) (rf : List Nat) (vw vq : Int32) (yc yh yg : List Int32) (m kk : kG) (q : cR) (hA : iA (he, ke, ki, fi, fa, or, mi, a, g, l, w, s)) (hB : iB le ln) (hC : iC nu nn) (hD : iD rf) (hJ : iJ m ys yc yh yg) (k0 : kSh kk) (x : Nat) (hx1 : 1 ≤ x) (hx : x ≤ 60) (hq : s + x ≤ 999) : mm_R 73 0 [some (.ref 100), some (.int (nI x))] [] (mk_M (cT im le ln ys vt nu nn rf vw vq yc yh yg) (kr (he, ke, ki, fi, fa, or, mi, a, g, l, w, s)) m kk q) (some (.int (nI (k_at (ksteps x (he, ke, ki, fi, fa, or, mi, a, g, l, w, s))))), (mk_M (cT im le ln ys vt nu nn rf vw vq yc yh yg) (kr (ksteps x (he, ke, ki, fi, fa, or, mi, a, g, l, w, s))) m kk q)) := by
  obtain ⟨hV, hst⟩ := id hA
  have hst2 : s ≤ 999 := hst
  obtain ⟨v1, v2, v3, v4, v5, v6, v7, v8, v9, v10, v11, v12, v13, v14, v15, v16⟩ := id hV
  have v6l := kO_len mi v7 or v6
  obtain ⟨b1, b2, b3⟩ := id hB
  obtain ⟨c1, c2, c3⟩ := id hC
  have d1 : rf.length = 7 := hD
  obtain ⟨j0, j1, j2, j3, j4⟩ := id hJ
  refine mr_seg 2 (pc1 := 2) (ls1 := [some (.ref 100), some (.int (nI x))]) (st1 := [.int 1, .int (nI x)]) (M1 := (mk_M (cT im le ln ys vt nu nn rf vw vq yc yh yg) (kr (he, ke, ki, fi, fa, or, mi, a, g, l, w, s)) m kk q)) (fun f => rfl) ?_
  refine mr_t (C := 1 ≤ (nI x)) (nI_let (a := 1) (b := x) (by omega)) (fun f => rfl) ?_
  refine mr_seg 2 (pc1 := 15) (ls1 := [some (.ref 100), some (.int (nI x))]) (st1 := [.int 60, .int (nI x)]) (M1 := (mk_M (cT im le ln ys vt nu nn rf vw vq yc yh yg) (kr (he, ke, ki, fi, fa, or, mi, a, g, l, w, s)) m kk q)) (fun f => rfl) ?_
  refine mr_f (C := 60 < (nI x)) (nI_ltf (a := 60) (b := x) (by omega)) (fun f => rfl) ?_
  refine mr_seg 5 (pc1 := 27) (ls1 := [some (.ref 100), some (.int (nI x))]) (st1 := [.int ((nI s) + (nI x))]) (M1 := (mk_M (cT im le ln ys vt nu nn rf vw vq yc yh yg) (kr (he, ke, ki, fi, fa, or, mi, a, g, l, w, s)) m kk q)) (fun f => rfl) ?_
  refine mr_v (nI_add s x) ?_
  refine mr_seg 1 (pc1 := 30) (ls1 := [some (.ref 100), some (.int (nI x))]) (st1 := [.int 999, .int (nI (s + x))]) (M1 := (mk_M (cT im le ln ys vt nu nn rf vw vq yc yh yg) (kr (he, ke, ki, fi, fa, or, mi, a, g, l, w, s)) m kk q)) (fun f => rfl) ?_
  refine mr_t (C := (nI (s + x)) ≤ 999) (nI_let (a := s + x) (b := 999) (by omega)) (fun f => rfl) ?_
  refine mr_seg 3 (pc1 := 45) (ls1 := [some (.ref 100), some (.int (nI x))]) (st1 := [.int (nI x), .ref 117]) (M1 := (mk_M (cT im le ln ys vt nu nn rf vw vq yc yh yg) (kr (he, ke, ki, fi, fa, or, mi, a, g, l, w, s)) m kk q)) (fun f => rfl) ?_
  refine mr_call (y := 43) (y0 := 48) (L := [some (.ref 117), some (.int (nI x)), none]) (rest := []) (rr := none) (M1 := (mk_M (cT im le ln ys vt nu nn rf vw vq yc yh yg) (kr (ksteps x (he, ke, ki, fi, fa, or, mi, a, g, l, w, s))) m kk q)) (fun f => rfl) (kl_n (cT im le ln ys vt nu nn rf vw vq yc yh yg) m kk q (kc_by_n x (by omega) (he, ke, ki, fi, fa, or, mi, a, g, l, w, s) hV (show s < 2 ^ 20 by omega))) ?_
  exact mr_ret 4 (fun f => rfl)
set_option maxRecDepth 100000 in
theorem om_goes_3 (he ke ki fi fa or : List Nat) (mi a g l w s : Nat) (xm xi xw : List Int32) (im : Nat) (le nu rf : List Nat) (ln nn : Nat) (vp : Int32) (xn xc : List Int32) (vs : Int32) (c : cC) (n m kk : kG) (hA : iA (he, ke, ki, fi, fa, or, mi, a, g, l, w, s)) (hB : iB le ln) (hC : iC nu nn) (hD : iD rf) (hR : iR xm xw xn xc) (k1 : xi.length = 52) (x : Nat) (hx1 : 1 ≤ x) (hx : x ≤ 60) (hq : s + x ≤ 999) : mm_R 167 0 [some (.ref 138), some (.int (nI x))] [] (mk_M c n m kk (rT (he, ke, ki, fi, fa, or, mi, a, g, l, w, s) xm xi xw im le nu rf ln nn vp xn xc vs)) (some (.int (nI (k_at (ksteps x (he, ke, ki, fi, fa, or, mi, a, g, l, w, s))))), (mk_M c n m kk (rT (ksteps x (he, ke, ki, fi, fa, or, mi, a, g, l, w, s)) xm xi xw im le nu rf ln nn vp xn xc vs))) := by
  obtain ⟨hV, hst⟩ := id hA
  have hst2 : s ≤ 999 := hst
  obtain ⟨v1, v2, v3, v4, v5, v6, v7, v8, v9, v10, v11, v12, v13, v14, v15, v16⟩ := id hV
  have v6l := kO_len mi v7 or v6
  obtain ⟨b1, b2, b3⟩ := id hB
  obtain ⟨c1, c2, c3⟩ := id hC
  have d1 : rf.length = 7 := hD
  obtain ⟨r1, r2, r3, r4⟩ := id hR
  refine mr_seg 2 (pc1 := 2) (ls1 := [some (.ref 138), some (.int (nI x))]) (st1 := [.int 1, .int (nI x)]) (M1 := (mk_M c n m kk (rT (he, ke, ki, fi, fa, or, mi, a, g, l, w, s) xm xi xw im le nu rf ln nn vp xn xc vs))) (fun f => rfl) ?_
  refine mr_t (C := 1 ≤ (nI x)) (nI_let (a := 1) (b := x) (by omega)) (fun f => rfl) ?_
  refine mr_seg 2 (pc1 := 15) (ls1 := [some (.ref 138), some (.int (nI x))]) (st1 := [.int 60, .int (nI x)]) (M1 := (mk_M c n m kk (rT (he, ke, ki, fi, fa, or, mi, a, g, l, w, s) xm xi xw im le nu rf ln nn vp xn xc vs))) (fun f => rfl) ?_
  refine mr_f (C := 60 < (nI x)) (nI_ltf (a := 60) (b := x) (by omega)) (fun f => rfl) ?_
  refine mr_seg 3 (pc1 := 23) (ls1 := [some (.ref 138), some (.int (nI x))]) (st1 := [.int 1, .ref 139]) (M1 := (mk_M c n m kk (rT (he, ke, ki, fi, fa, or, mi, a, g, l, w, s) xm xi xw im le nu rf ln nn vp xn xc vs))) (fun f => rfl) ?_
  refine mr_ldn (xs := (er (he, ke, ki, fi, fa, or, mi, a, g, l, w, s))) rfl rfl (k := 1) (by decide) rfl ?_
  refine mr_seg 2 (pc1 := 26) (ls1 := [some (.ref 138), some (.int (nI x))]) (st1 := [.int ((nI s) + (nI x))]) (M1 := (mk_M c n m kk (rT (he, ke, ki, fi, fa, or, mi, a, g, l, w, s) xm xi xw im le nu rf ln nn vp xn xc vs))) (fun f => rfl) ?_
  refine mr_v (nI_add s x) ?_
  refine mr_seg 1 (pc1 := 29) (ls1 := [some (.ref 138), some (.int (nI x))]) (st1 := [.int 999, .int (nI (s + x))]) (M1 := (mk_M c n m kk (rT (he, ke, ki, fi, fa, or, mi, a, g, l, w, s) xm xi xw im le nu rf ln nn vp xn xc vs))) (fun f => rfl) ?_
  refine mr_t (C := (nI (s + x)) ≤ 999) (nI_let (a := s + x) (b := 999) (by omega)) (fun f => rfl) ?_
  refine mr_seg 3 (pc1 := 44) (ls1 := [some (.ref 138), some (.int (nI x))]) (st1 := [.int (nI x), .ref 139]) (M1 := (mk_M c n m kk (rT (he, ke, ki, fi, fa, or, mi, a, g, l, w, s) xm xi xw im le nu rf ln nn vp xn xc vs))) (fun f => rfl) ?_
  refine mr_call (y := 145) (y0 := 47) (L := [some (.ref 139), some (.int (nI x)), none]) (rest := []) (rr := none) (M1 := (mk_M c n m kk (rT (ksteps x (he, ke, ki, fi, fa, or, mi, a, g, l, w, s)) xm xi xw im le nu rf ln nn vp xn xc vs))) (fun f => rfl) (rl_s c n m kk (rT (he, ke, ki, fi, fa, or, mi, a, g, l, w, s) xm xi xw im le nu rf ln nn vp xn xc vs) (rc_by_s x (by omega) (he, ke, ki, fi, fa, or, mi, a, g, l, w, s) hV (show s < 2 ^ 20 by omega)) rfl) ?_
  refine mr_seg 3 (pc1 := 52) (ls1 := [some (.ref 138), some (.int (nI x))]) (st1 := [.int 2, .ref 139]) (M1 := (mk_M c n m kk (rT (ksteps x (he, ke, ki, fi, fa, or, mi, a, g, l, w, s)) xm xi xw im le nu rf ln nn vp xn xc vs))) (fun f => rfl) ?_
  refine mr_ldn (xs := (er (ksteps x (he, ke, ki, fi, fa, or, mi, a, g, l, w, s)))) rfl rfl (k := 2) (by decide) rfl ?_
  exact mr_ret 1 (fun f => rfl)
theorem oe_goes_3 (he ke ki fi fa or : List Nat) (mi a g l w s : Nat) (m : kG) (kk : kG) (im : Nat) (le : List Nat) (ln : Nat) (ys : List Int32) (vt : Int32) (nu : List Nat) (nn : Nat) (rf : List Nat) (vw : Int32) (vq : Int32) (yc : List Int32) (yh : List Int32) (yg : List Int32) (xm : List Int32) (xi : List Int32) (xw : List Int32) (vp : Int32) (xn : List Int32) (xc : List Int32) (vs : Int32) (hA : iA (he, ke, ki, fi, fa, or, mi, a, g, l, w, s)) (hB : iB le ln) (hC : iC nu nn) (hD : iD rf) (hJ : iJ m ys yc yh yg) (hR : iR xm xw xn xc) (hK : iK im kk xi) (x : Nat) (hx1 : 1 ≤ x) (hx : x ≤ 60) (hq : s + x ≤ 999) : oI 73 167 [some (.ref 100), some (.int (nI x))] [some (.ref 138), some (.int (nI x))] (mk_M (cT im le ln ys vt nu nn rf vw vq yc yh yg) (kr (he, ke, ki, fi, fa, or, mi, a, g, l, w, s)) m kk (rT (he, ke, ki, fi, fa, or, mi, a, g, l, w, s) xm xi xw im le nu rf ln nn vp xn xc vs)) := by
  obtain ⟨hV, hst⟩ := id hA
  have hst2 : s ≤ 999 := hst
  obtain ⟨v1, v2, v3, v4, v5, v6, v7, v8, v9, v10, v11, v12, v13, v14, v15, v16⟩ := id hV
  have v6l := kO_len mi v7 or v6
  obtain ⟨b1, b2, b3⟩ := id hB
  obtain ⟨c1, c2, c3⟩ := id hC
  have d1 : rf.length = 7 := hD
  obtain ⟨j0, j1, j2, j3, j4⟩ := id hJ
  obtain ⟨r1, r2, r3, r4⟩ := id hR
  obtain ⟨k0, k1, k2, k3⟩ := id hK
  exact ⟨(nI (k_at (ksteps x (he, ke, ki, fi, fa, or, mi, a, g, l, w, s)))), _, _, oc_goes_3 he ke ki fi fa or mi a g l w s im le ln ys vt nu nn rf vw vq yc yh yg m kk _ hA hB hC hD hJ hK.1 x hx1 hx hq, om_goes_3 he ke ki fi fa or mi a g l w s xm xi xw im le nu rf ln nn vp xn xc vs _ _ _ _ hA hB hC hD hR hK.2.1 x hx1 hx hq, (ksteps x (he, ke, ki, fi, fa, or, mi, a, g, l, w, s)), m, kk, im, le, ln, ys, vt, nu, nn, rf, vw, vq, yc, yh, yg, xm, xi, xw, vp, xn, xc, vs, rfl, ⟨kV_steps x hV, by rw [kst_steps]; show s + x ≤ 999; exact hq⟩, hB, hC, hD, hJ, hR, hK⟩
set_option maxRecDepth 100000 in
theorem oc_then_0 (he ke ki fi fa or : List Nat) (mi a g l w s : Nat) (im : Nat) (le : List Nat) (ln : Nat) (ys : List Int32) (vt : Int32) (nu : List Nat) (nn : Nat) (rf : List Nat) (vw vq : Int32) (yc yh yg : List Int32) (m kk : kG) (q : cR) (hA : iA (he, ke, ki, fi, fa, or, mi, a, g, l, w, s)) (hB : iB le ln) (hC : iC nu nn) (hD : iD rf) (hJ : iJ m ys yc yh yg) (k0 : kSh kk) (x : Int32) (hxu : x.toInt ≤ -1) (y : Int32) : mm_R 74 0 [some (.ref 100), some (.int x), some (.int y), none] [] (mk_M (cT im le ln ys vt nu nn rf vw vq yc yh yg) (kr (he, ke, ki, fi, fa, or, mi, a, g, l, w, s)) m kk q) (some (.int (-4)), (mk_M (cT im le ln ys vt nu nn (rf.set 4 (kg rf 4 + 1)) vw vq yc yh yg) (kr (he, ke, ki, fi, fa, or, mi, a, g, l, w, s)) m kk q)) := by
  have hst2 : s ≤ 999 := hA.2
  have v7 : mi ≤ 5 := hA.1.2.2.2.2.2.2.1
  have b3 : ln ≤ 96 := hB.2.2
  have c3 : nn ≤ 16 := hC.2.2
  refine mr_seg 1 (pc1 := 1) (ls1 := [some (.ref 100), some (.int x), some (.int y), none]) (st1 := [.int x]) (M1 := (mk_M (cT im le ln ys vt nu nn rf vw vq yc yh yg) (kr (he, ke, ki, fi, fa, or, mi, a, g, l, w, s)) m kk q)) (fun f => rfl) ?_
  refine mr_f (C := 0 ≤ x) (mz_ge_f 0 (by decide) (by omega)) (fun f => rfl) ?_
  refine mr_seg 2 (pc1 := 7) (ls1 := [some (.ref 100), some (.int x), some (.int y), none]) (st1 := [.int (-4), .ref 100]) (M1 := (mk_M (cT im le ln ys vt nu nn rf vw vq yc yh yg) (kr (he, ke, ki, fi, fa, or, mi, a, g, l, w, s)) m kk q)) (fun f => rfl) ?_
  refine mr_call (y := 12) (y0 := 10) (L := [some (.ref 100), some (.int (-4))]) (rest := []) (rr := some (.int (-4))) (M1 := (mk_M (cT im le ln ys vt nu nn (rf.set 4 (kg rf 4 + 1)) vw vq yc yh yg) (kr (he, ke, ki, fi, fa, or, mi, a, g, l, w, s)) m kk q)) (fun f => rfl) (ms_re4 hD) ?_
  exact mr_ret 1 (fun f => rfl)
set_option maxRecDepth 100000 in
theorem om_then_0 (he ke ki fi fa or : List Nat) (mi a g l w s : Nat) (xm xi xw : List Int32) (im : Nat) (le nu rf : List Nat) (ln nn : Nat) (vp : Int32) (xn xc : List Int32) (vs : Int32) (c : cC) (n m kk : kG) (hA : iA (he, ke, ki, fi, fa, or, mi, a, g, l, w, s)) (hB : iB le ln) (hC : iC nu nn) (hD : iD rf) (hR : iR xm xw xn xc) (k1 : xi.length = 52) (x : Int32) (hxu : x.toInt ≤ -1) (y : Int32) : mm_R 168 0 [some (.ref 138), some (.int x), some (.int y), none] [] (mk_M c n m kk (rT (he, ke, ki, fi, fa, or, mi, a, g, l, w, s) xm xi xw im le nu rf ln nn vp xn xc vs)) (some (.int (-4)), (mk_M c n m kk (rT (he, ke, ki, fi, fa, or, mi, a, g, l, w, s) xm xi xw im le nu (rf.set 4 (kg rf 4 + 1)) ln nn vp xn xc vs))) := by
  have hst2 : s ≤ 999 := hA.2
  have v7 : mi ≤ 5 := hA.1.2.2.2.2.2.2.1
  have b3 : ln ≤ 96 := hB.2.2
  have c3 : nn ≤ 16 := hC.2.2
  refine mr_seg 3 (pc1 := 4) (ls1 := [some (.ref 138), some (.int x), some (.int y), none]) (st1 := [.int 60, .int 0, .int x]) (M1 := (mk_M c n m kk (rT (he, ke, ki, fi, fa, or, mi, a, g, l, w, s) xm xi xw im le nu rf ln nn vp xn xc vs))) (fun f => rfl) ?_
  refine mr_call (y := 159) (y0 := 7) (L := [some (.int x), some (.int 0), some (.int 60)]) (rest := []) (rr := some (.int (-4))) (M1 := (mk_M c n m kk (rT (he, ke, ki, fi, fa, or, mi, a, g, l, w, s) xm xi xw im le nu rf ln nn vp xn xc vs))) (fun f => rfl) (ms_wb_lo (x := x) (a := 0) (b := 60) (mz_ge_f 0 (by decide) (by omega))) ?_
  refine mr_seg 7 (pc1 := 30) (ls1 := [some (.ref 138), some (.int x), some (.int y), some (.int (-4))]) (st1 := [.int (-4), .ref 138]) (M1 := (mk_M c n m kk (rT (he, ke, ki, fi, fa, or, mi, a, g, l, w, s) xm xi xw im le nu rf ln nn vp xn xc vs))) (fun f => rfl) ?_
  refine mr_call (y := 130) (y0 := 33) (L := [some (.ref 138), some (.int (-4))]) (rest := []) (rr := some (.int (-4))) (M1 := (mk_M c n m kk (rT (he, ke, ki, fi, fa, or, mi, a, g, l, w, s) xm xi xw im le nu (rf.set 4 (kg rf 4 + 1)) ln nn vp xn xc vs))) (fun f => rfl) (ms_no4 hD) ?_
  exact mr_ret 1 (fun f => rfl)
theorem oe_then_0 (he ke ki fi fa or : List Nat) (mi a g l w s : Nat) (m : kG) (kk : kG) (im : Nat) (le : List Nat) (ln : Nat) (ys : List Int32) (vt : Int32) (nu : List Nat) (nn : Nat) (rf : List Nat) (vw : Int32) (vq : Int32) (yc : List Int32) (yh : List Int32) (yg : List Int32) (xm : List Int32) (xi : List Int32) (xw : List Int32) (vp : Int32) (xn : List Int32) (xc : List Int32) (vs : Int32) (hA : iA (he, ke, ki, fi, fa, or, mi, a, g, l, w, s)) (hB : iB le ln) (hC : iC nu nn) (hD : iD rf) (hJ : iJ m ys yc yh yg) (hR : iR xm xw xn xc) (hK : iK im kk xi) (x : Int32) (hxu : x.toInt ≤ -1) (y : Int32) : oI 74 168 [some (.ref 100), some (.int x), some (.int y), none] [some (.ref 138), some (.int x), some (.int y), none] (mk_M (cT im le ln ys vt nu nn rf vw vq yc yh yg) (kr (he, ke, ki, fi, fa, or, mi, a, g, l, w, s)) m kk (rT (he, ke, ki, fi, fa, or, mi, a, g, l, w, s) xm xi xw im le nu rf ln nn vp xn xc vs)) := by
  exact ⟨(-4), _, _, oc_then_0 he ke ki fi fa or mi a g l w s im le ln ys vt nu nn rf vw vq yc yh yg m kk _ hA hB hC hD hJ hK.1 x hxu y, om_then_0 he ke ki fi fa or mi a g l w s xm xi xw im le nu rf ln nn vp xn xc vs _ _ _ _ hA hB hC hD hR hK.2.1 x hxu y, (he, ke, ki, fi, fa, or, mi, a, g, l, w, s), m, kk, im, le, ln, ys, vt, nu, nn, (rf.set 4 (kg rf 4 + 1)), vw, vq, yc, yh, yg, xm, xi, xw, vp, xn, xc, vs, rfl, hA, hB, hC, iD_s hD, hJ, hR, hK⟩
set_option maxRecDepth 100000 in
theorem oc_then_1 (he ke ki fi fa or : List Nat) (mi a g l w s : Nat) (im : Nat) (le : List Nat) (ln : Nat) (ys : List Int32) (vt : Int32) (nu : List Nat) (nn : Nat) (rf : List Nat) (vw vq : Int32) (yc yh yg : List Int32) (m kk : kG) (q : cR) (hA : iA (he, ke, ki, fi, fa, or, mi, a, g, l, w, s)) (hB : iB le ln) (hC : iC nu nn) (hD : iD rf) (hJ : iJ m ys yc yh yg) (k0 : kSh kk) (x : Int32) (hxl : 61 ≤ x.toInt) (y : Int32) : mm_R 74 0 [some (.ref 100), some (.int x), some (.int y), none] [] (mk_M (cT im le ln ys vt nu nn rf vw vq yc yh yg) (kr (he, ke, ki, fi, fa, or, mi, a, g, l, w, s)) m kk q) (some (.int (-6)), (mk_M (cT im le ln ys vt nu nn (rf.set 6 (kg rf 6 + 1)) vw vq yc yh yg) (kr (he, ke, ki, fi, fa, or, mi, a, g, l, w, s)) m kk q)) := by
  have hst2 : s ≤ 999 := hA.2
  have v7 : mi ≤ 5 := hA.1.2.2.2.2.2.2.1
  have b3 : ln ≤ 96 := hB.2.2
  have c3 : nn ≤ 16 := hC.2.2
  refine mr_seg 1 (pc1 := 1) (ls1 := [some (.ref 100), some (.int x), some (.int y), none]) (st1 := [.int x]) (M1 := (mk_M (cT im le ln ys vt nu nn rf vw vq yc yh yg) (kr (he, ke, ki, fi, fa, or, mi, a, g, l, w, s)) m kk q)) (fun f => rfl) ?_
  refine mr_t (C := 0 ≤ x) (mz_ge_t 0 (by decide) (by omega)) (fun f => rfl) ?_
  refine mr_seg 2 (pc1 := 14) (ls1 := [some (.ref 100), some (.int x), some (.int y), none]) (st1 := [.int 60, .int x]) (M1 := (mk_M (cT im le ln ys vt nu nn rf vw vq yc yh yg) (kr (he, ke, ki, fi, fa, or, mi, a, g, l, w, s)) m kk q)) (fun f => rfl) ?_
  refine mr_f (C := x ≤ 60) (mz_le_f 60 (by decide) (by omega)) (fun f => rfl) ?_
  refine mr_seg 2 (pc1 := 20) (ls1 := [some (.ref 100), some (.int x), some (.int y), none]) (st1 := [.int (-6), .ref 100]) (M1 := (mk_M (cT im le ln ys vt nu nn rf vw vq yc yh yg) (kr (he, ke, ki, fi, fa, or, mi, a, g, l, w, s)) m kk q)) (fun f => rfl) ?_
  refine mr_call (y := 12) (y0 := 23) (L := [some (.ref 100), some (.int (-6))]) (rest := []) (rr := some (.int (-6))) (M1 := (mk_M (cT im le ln ys vt nu nn (rf.set 6 (kg rf 6 + 1)) vw vq yc yh yg) (kr (he, ke, ki, fi, fa, or, mi, a, g, l, w, s)) m kk q)) (fun f => rfl) (ms_re6 hD) ?_
  exact mr_ret 1 (fun f => rfl)
set_option maxRecDepth 100000 in
theorem om_then_1 (he ke ki fi fa or : List Nat) (mi a g l w s : Nat) (xm xi xw : List Int32) (im : Nat) (le nu rf : List Nat) (ln nn : Nat) (vp : Int32) (xn xc : List Int32) (vs : Int32) (c : cC) (n m kk : kG) (hA : iA (he, ke, ki, fi, fa, or, mi, a, g, l, w, s)) (hB : iB le ln) (hC : iC nu nn) (hD : iD rf) (hR : iR xm xw xn xc) (k1 : xi.length = 52) (x : Int32) (hxl : 61 ≤ x.toInt) (y : Int32) : mm_R 168 0 [some (.ref 138), some (.int x), some (.int y), none] [] (mk_M c n m kk (rT (he, ke, ki, fi, fa, or, mi, a, g, l, w, s) xm xi xw im le nu rf ln nn vp xn xc vs)) (some (.int (-6)), (mk_M c n m kk (rT (he, ke, ki, fi, fa, or, mi, a, g, l, w, s) xm xi xw im le nu (rf.set 6 (kg rf 6 + 1)) ln nn vp xn xc vs))) := by
  have hst2 : s ≤ 999 := hA.2
  have v7 : mi ≤ 5 := hA.1.2.2.2.2.2.2.1
  have b3 : ln ≤ 96 := hB.2.2
  have c3 : nn ≤ 16 := hC.2.2
  refine mr_seg 3 (pc1 := 4) (ls1 := [some (.ref 138), some (.int x), some (.int y), none]) (st1 := [.int 60, .int 0, .int x]) (M1 := (mk_M c n m kk (rT (he, ke, ki, fi, fa, or, mi, a, g, l, w, s) xm xi xw im le nu rf ln nn vp xn xc vs))) (fun f => rfl) ?_
  refine mr_call (y := 159) (y0 := 7) (L := [some (.int x), some (.int 0), some (.int 60)]) (rest := []) (rr := some (.int (-6))) (M1 := (mk_M c n m kk (rT (he, ke, ki, fi, fa, or, mi, a, g, l, w, s) xm xi xw im le nu rf ln nn vp xn xc vs))) (fun f => rfl) (ms_wb_hi (x := x) (a := 0) (b := 60) (mz_ge_t 0 (by decide) (by omega)) (mz_le_f 60 (by decide) (by omega))) ?_
  refine mr_seg 7 (pc1 := 30) (ls1 := [some (.ref 138), some (.int x), some (.int y), some (.int (-6))]) (st1 := [.int (-6), .ref 138]) (M1 := (mk_M c n m kk (rT (he, ke, ki, fi, fa, or, mi, a, g, l, w, s) xm xi xw im le nu rf ln nn vp xn xc vs))) (fun f => rfl) ?_
  refine mr_call (y := 130) (y0 := 33) (L := [some (.ref 138), some (.int (-6))]) (rest := []) (rr := some (.int (-6))) (M1 := (mk_M c n m kk (rT (he, ke, ki, fi, fa, or, mi, a, g, l, w, s) xm xi xw im le nu (rf.set 6 (kg rf 6 + 1)) ln nn vp xn xc vs))) (fun f => rfl) (ms_no6 hD) ?_
  exact mr_ret 1 (fun f => rfl)
theorem oe_then_1 (he ke ki fi fa or : List Nat) (mi a g l w s : Nat) (m : kG) (kk : kG) (im : Nat) (le : List Nat) (ln : Nat) (ys : List Int32) (vt : Int32) (nu : List Nat) (nn : Nat) (rf : List Nat) (vw : Int32) (vq : Int32) (yc : List Int32) (yh : List Int32) (yg : List Int32) (xm : List Int32) (xi : List Int32) (xw : List Int32) (vp : Int32) (xn : List Int32) (xc : List Int32) (vs : Int32) (hA : iA (he, ke, ki, fi, fa, or, mi, a, g, l, w, s)) (hB : iB le ln) (hC : iC nu nn) (hD : iD rf) (hJ : iJ m ys yc yh yg) (hR : iR xm xw xn xc) (hK : iK im kk xi) (x : Int32) (hxl : 61 ≤ x.toInt) (y : Int32) : oI 74 168 [some (.ref 100), some (.int x), some (.int y), none] [some (.ref 138), some (.int x), some (.int y), none] (mk_M (cT im le ln ys vt nu nn rf vw vq yc yh yg) (kr (he, ke, ki, fi, fa, or, mi, a, g, l, w, s)) m kk (rT (he, ke, ki, fi, fa, or, mi, a, g, l, w, s) xm xi xw im le nu rf ln nn vp xn xc vs)) := by
  exact ⟨(-6), _, _, oc_then_1 he ke ki fi fa or mi a g l w s im le ln ys vt nu nn rf vw vq yc yh yg m kk _ hA hB hC hD hJ hK.1 x hxl y, om_then_1 he ke ki fi fa or mi a g l w s xm xi xw im le nu rf ln nn vp xn xc vs _ _ _ _ hA hB hC hD hR hK.2.1 x hxl y, (he, ke, ki, fi, fa, or, mi, a, g, l, w, s), m, kk, im, le, ln, ys, vt, nu, nn, (rf.set 6 (kg rf 6 + 1)), vw, vq, yc, yh, yg, xm, xi, xw, vp, xn, xc, vs, rfl, hA, hB, hC, iD_s hD, hJ, hR, hK⟩
set_option maxRecDepth 100000 in
theorem oc_then_2 (he ke ki fi fa or : List Nat) (mi a g l w s : Nat) (im : Nat) (le : List Nat) (ln : Nat) (ys : List Int32) (vt : Int32) (nu : List Nat) (nn : Nat) (rf : List Nat) (vw vq : Int32) (yc yh yg : List Int32) (m kk : kG) (q : cR) (hA : iA (he, ke, ki, fi, fa, or, mi, a, g, l, w, s)) (hB : iB le ln) (hC : iC nu nn) (hD : iD rf) (hJ : iJ m ys yc yh yg) (k0 : kSh kk) (x : Nat) (hx1 : 0 ≤ x) (hx : x ≤ 60) (y : Int32) (hyu : y.toInt ≤ -1) : mm_R 74 0 [some (.ref 100), some (.int (nI x)), some (.int y), none] [] (mk_M (cT im le ln ys vt nu nn rf vw vq yc yh yg) (kr (he, ke, ki, fi, fa, or, mi, a, g, l, w, s)) m kk q) (some (.int (-2)), (mk_M (cT im le ln ys vt nu nn (rf.set 2 (kg rf 2 + 1)) vw vq yc yh yg) (kr (he, ke, ki, fi, fa, or, mi, a, g, l, w, s)) m kk q)) := by
  have hst2 : s ≤ 999 := hA.2
  have v7 : mi ≤ 5 := hA.1.2.2.2.2.2.2.1
  have b3 : ln ≤ 96 := hB.2.2
  have c3 : nn ≤ 16 := hC.2.2
  refine mr_seg 1 (pc1 := 1) (ls1 := [some (.ref 100), some (.int (nI x)), some (.int y), none]) (st1 := [.int (nI x)]) (M1 := (mk_M (cT im le ln ys vt nu nn rf vw vq yc yh yg) (kr (he, ke, ki, fi, fa, or, mi, a, g, l, w, s)) m kk q)) (fun f => rfl) ?_
  refine mr_t (C := 0 ≤ (nI x)) (nI_let (a := 0) (b := x) (by omega)) (fun f => rfl) ?_
  refine mr_seg 2 (pc1 := 14) (ls1 := [some (.ref 100), some (.int (nI x)), some (.int y), none]) (st1 := [.int 60, .int (nI x)]) (M1 := (mk_M (cT im le ln ys vt nu nn rf vw vq yc yh yg) (kr (he, ke, ki, fi, fa, or, mi, a, g, l, w, s)) m kk q)) (fun f => rfl) ?_
  refine mr_t (C := (nI x) ≤ 60) (nI_let (a := x) (b := 60) (by omega)) (fun f => rfl) ?_
  refine mr_seg 1 (pc1 := 25) (ls1 := [some (.ref 100), some (.int (nI x)), some (.int y), none]) (st1 := [.int y]) (M1 := (mk_M (cT im le ln ys vt nu nn rf vw vq yc yh yg) (kr (he, ke, ki, fi, fa, or, mi, a, g, l, w, s)) m kk q)) (fun f => rfl) ?_
  refine mr_t (C := y < 0) (mz_lt_t 0 (by decide) (by omega)) (fun f => rfl) ?_
  refine mr_seg 2 (pc1 := 36) (ls1 := [some (.ref 100), some (.int (nI x)), some (.int y), none]) (st1 := [.int (-2), .ref 100]) (M1 := (mk_M (cT im le ln ys vt nu nn rf vw vq yc yh yg) (kr (he, ke, ki, fi, fa, or, mi, a, g, l, w, s)) m kk q)) (fun f => rfl) ?_
  refine mr_call (y := 12) (y0 := 39) (L := [some (.ref 100), some (.int (-2))]) (rest := []) (rr := some (.int (-2))) (M1 := (mk_M (cT im le ln ys vt nu nn (rf.set 2 (kg rf 2 + 1)) vw vq yc yh yg) (kr (he, ke, ki, fi, fa, or, mi, a, g, l, w, s)) m kk q)) (fun f => rfl) (ms_re2 hD) ?_
  exact mr_ret 1 (fun f => rfl)
set_option maxRecDepth 100000 in
theorem om_then_2 (he ke ki fi fa or : List Nat) (mi a g l w s : Nat) (xm xi xw : List Int32) (im : Nat) (le nu rf : List Nat) (ln nn : Nat) (vp : Int32) (xn xc : List Int32) (vs : Int32) (c : cC) (n m kk : kG) (hA : iA (he, ke, ki, fi, fa, or, mi, a, g, l, w, s)) (hB : iB le ln) (hC : iC nu nn) (hD : iD rf) (hR : iR xm xw xn xc) (k1 : xi.length = 52) (x : Nat) (hx1 : 0 ≤ x) (hx : x ≤ 60) (y : Int32) (hyu : y.toInt ≤ -1) : mm_R 168 0 [some (.ref 138), some (.int (nI x)), some (.int y), none] [] (mk_M c n m kk (rT (he, ke, ki, fi, fa, or, mi, a, g, l, w, s) xm xi xw im le nu rf ln nn vp xn xc vs)) (some (.int (-2)), (mk_M c n m kk (rT (he, ke, ki, fi, fa, or, mi, a, g, l, w, s) xm xi xw im le nu (rf.set 2 (kg rf 2 + 1)) ln nn vp xn xc vs))) := by
  have hst2 : s ≤ 999 := hA.2
  have v7 : mi ≤ 5 := hA.1.2.2.2.2.2.2.1
  have b3 : ln ≤ 96 := hB.2.2
  have c3 : nn ≤ 16 := hC.2.2
  refine mr_seg 3 (pc1 := 4) (ls1 := [some (.ref 138), some (.int (nI x)), some (.int y), none]) (st1 := [.int 60, .int 0, .int (nI x)]) (M1 := (mk_M c n m kk (rT (he, ke, ki, fi, fa, or, mi, a, g, l, w, s) xm xi xw im le nu rf ln nn vp xn xc vs))) (fun f => rfl) ?_
  refine mr_call (y := 159) (y0 := 7) (L := [some (.int (nI x)), some (.int 0), some (.int 60)]) (rest := []) (rr := some (.int 0)) (M1 := (mk_M c n m kk (rT (he, ke, ki, fi, fa, or, mi, a, g, l, w, s) xm xi xw im le nu rf ln nn vp xn xc vs))) (fun f => rfl) (ms_wb_ok (x := (nI x)) (a := 0) (b := 60) (nI_let (a := 0) (b := x) (by omega)) (nI_let (a := x) (b := 60) (by omega))) ?_
  refine mr_seg 6 (pc1 := 15) (ls1 := [some (.ref 138), some (.int (nI x)), some (.int y), some (.int 0)]) (st1 := [.int 2, .int 0, .int y]) (M1 := (mk_M c n m kk (rT (he, ke, ki, fi, fa, or, mi, a, g, l, w, s) xm xi xw im le nu rf ln nn vp xn xc vs))) (fun f => rfl) ?_
  refine mr_call (y := 135) (y0 := 18) (L := [some (.int y), some (.int 0), some (.int 2)]) (rest := []) (rr := some (.int 0)) (M1 := (mk_M c n m kk (rT (he, ke, ki, fi, fa, or, mi, a, g, l, w, s) xm xi xw im le nu rf ln nn vp xn xc vs))) (fun f => rfl) (ms_in_lo (x := y) (a := 0) (b := 2) (mz_lt_t 0 (by decide) (by omega))) ?_
  refine mr_seg 7 (pc1 := 30) (ls1 := [some (.ref 138), some (.int (nI x)), some (.int y), some (.int (-2))]) (st1 := [.int (-2), .ref 138]) (M1 := (mk_M c n m kk (rT (he, ke, ki, fi, fa, or, mi, a, g, l, w, s) xm xi xw im le nu rf ln nn vp xn xc vs))) (fun f => rfl) ?_
  refine mr_call (y := 130) (y0 := 33) (L := [some (.ref 138), some (.int (-2))]) (rest := []) (rr := some (.int (-2))) (M1 := (mk_M c n m kk (rT (he, ke, ki, fi, fa, or, mi, a, g, l, w, s) xm xi xw im le nu (rf.set 2 (kg rf 2 + 1)) ln nn vp xn xc vs))) (fun f => rfl) (ms_no2 hD) ?_
  exact mr_ret 1 (fun f => rfl)
theorem oe_then_2 (he ke ki fi fa or : List Nat) (mi a g l w s : Nat) (m : kG) (kk : kG) (im : Nat) (le : List Nat) (ln : Nat) (ys : List Int32) (vt : Int32) (nu : List Nat) (nn : Nat) (rf : List Nat) (vw : Int32) (vq : Int32) (yc : List Int32) (yh : List Int32) (yg : List Int32) (xm : List Int32) (xi : List Int32) (xw : List Int32) (vp : Int32) (xn : List Int32) (xc : List Int32) (vs : Int32) (hA : iA (he, ke, ki, fi, fa, or, mi, a, g, l, w, s)) (hB : iB le ln) (hC : iC nu nn) (hD : iD rf) (hJ : iJ m ys yc yh yg) (hR : iR xm xw xn xc) (hK : iK im kk xi) (x : Nat) (hx1 : 0 ≤ x) (hx : x ≤ 60) (y : Int32) (hyu : y.toInt ≤ -1) : oI 74 168 [some (.ref 100), some (.int (nI x)), some (.int y), none] [some (.ref 138), some (.int (nI x)), some (.int y), none] (mk_M (cT im le ln ys vt nu nn rf vw vq yc yh yg) (kr (he, ke, ki, fi, fa, or, mi, a, g, l, w, s)) m kk (rT (he, ke, ki, fi, fa, or, mi, a, g, l, w, s) xm xi xw im le nu rf ln nn vp xn xc vs)) := by
  exact ⟨(-2), _, _, oc_then_2 he ke ki fi fa or mi a g l w s im le ln ys vt nu nn rf vw vq yc yh yg m kk _ hA hB hC hD hJ hK.1 x hx1 hx y hyu, om_then_2 he ke ki fi fa or mi a g l w s xm xi xw im le nu rf ln nn vp xn xc vs _ _ _ _ hA hB hC hD hR hK.2.1 x hx1 hx y hyu, (he, ke, ki, fi, fa, or, mi, a, g, l, w, s), m, kk, im, le, ln, ys, vt, nu, nn, (rf.set 2 (kg rf 2 + 1)), vw, vq, yc, yh, yg, xm, xi, xw, vp, xn, xc, vs, rfl, hA, hB, hC, iD_s hD, hJ, hR, hK⟩
set_option maxRecDepth 100000 in
theorem oc_then_3 (he ke ki fi fa or : List Nat) (mi a g l w s : Nat) (im : Nat) (le : List Nat) (ln : Nat) (ys : List Int32) (vt : Int32) (nu : List Nat) (nn : Nat) (rf : List Nat) (vw vq : Int32) (yc yh yg : List Int32) (m kk : kG) (q : cR) (hA : iA (he, ke, ki, fi, fa, or, mi, a, g, l, w, s)) (hB : iB le ln) (hC : iC nu nn) (hD : iD rf) (hJ : iJ m ys yc yh yg) (k0 : kSh kk) (x : Nat) (hx1 : 0 ≤ x) (hx : x ≤ 60) (y : Int32) (hyl : 3 ≤ y.toInt) : mm_R 74 0 [some (.ref 100), some (.int (nI x)), some (.int y), none] [] (mk_M (cT im le ln ys vt nu nn rf vw vq yc yh yg) (kr (he, ke, ki, fi, fa, or, mi, a, g, l, w, s)) m kk q) (some (.int (-2)), (mk_M (cT im le ln ys vt nu nn (rf.set 2 (kg rf 2 + 1)) vw vq yc yh yg) (kr (he, ke, ki, fi, fa, or, mi, a, g, l, w, s)) m kk q)) := by
  have hst2 : s ≤ 999 := hA.2
  have v7 : mi ≤ 5 := hA.1.2.2.2.2.2.2.1
  have b3 : ln ≤ 96 := hB.2.2
  have c3 : nn ≤ 16 := hC.2.2
  refine mr_seg 1 (pc1 := 1) (ls1 := [some (.ref 100), some (.int (nI x)), some (.int y), none]) (st1 := [.int (nI x)]) (M1 := (mk_M (cT im le ln ys vt nu nn rf vw vq yc yh yg) (kr (he, ke, ki, fi, fa, or, mi, a, g, l, w, s)) m kk q)) (fun f => rfl) ?_
  refine mr_t (C := 0 ≤ (nI x)) (nI_let (a := 0) (b := x) (by omega)) (fun f => rfl) ?_
  refine mr_seg 2 (pc1 := 14) (ls1 := [some (.ref 100), some (.int (nI x)), some (.int y), none]) (st1 := [.int 60, .int (nI x)]) (M1 := (mk_M (cT im le ln ys vt nu nn rf vw vq yc yh yg) (kr (he, ke, ki, fi, fa, or, mi, a, g, l, w, s)) m kk q)) (fun f => rfl) ?_
  refine mr_t (C := (nI x) ≤ 60) (nI_let (a := x) (b := 60) (by omega)) (fun f => rfl) ?_
  refine mr_seg 1 (pc1 := 25) (ls1 := [some (.ref 100), some (.int (nI x)), some (.int y), none]) (st1 := [.int y]) (M1 := (mk_M (cT im le ln ys vt nu nn rf vw vq yc yh yg) (kr (he, ke, ki, fi, fa, or, mi, a, g, l, w, s)) m kk q)) (fun f => rfl) ?_
  refine mr_f (C := y < 0) (mz_lt_f 0 (by decide) (by omega)) (fun f => rfl) ?_
  refine mr_seg 2 (pc1 := 30) (ls1 := [some (.ref 100), some (.int (nI x)), some (.int y), none]) (st1 := [.int 2, .int y]) (M1 := (mk_M (cT im le ln ys vt nu nn rf vw vq yc yh yg) (kr (he, ke, ki, fi, fa, or, mi, a, g, l, w, s)) m kk q)) (fun f => rfl) ?_
  refine mr_f (C := y ≤ 2) (mz_le_f 2 (by decide) (by omega)) (fun f => rfl) ?_
  refine mr_seg 2 (pc1 := 36) (ls1 := [some (.ref 100), some (.int (nI x)), some (.int y), none]) (st1 := [.int (-2), .ref 100]) (M1 := (mk_M (cT im le ln ys vt nu nn rf vw vq yc yh yg) (kr (he, ke, ki, fi, fa, or, mi, a, g, l, w, s)) m kk q)) (fun f => rfl) ?_
  refine mr_call (y := 12) (y0 := 39) (L := [some (.ref 100), some (.int (-2))]) (rest := []) (rr := some (.int (-2))) (M1 := (mk_M (cT im le ln ys vt nu nn (rf.set 2 (kg rf 2 + 1)) vw vq yc yh yg) (kr (he, ke, ki, fi, fa, or, mi, a, g, l, w, s)) m kk q)) (fun f => rfl) (ms_re2 hD) ?_
  exact mr_ret 1 (fun f => rfl)
set_option maxRecDepth 100000 in
theorem om_then_3 (he ke ki fi fa or : List Nat) (mi a g l w s : Nat) (xm xi xw : List Int32) (im : Nat) (le nu rf : List Nat) (ln nn : Nat) (vp : Int32) (xn xc : List Int32) (vs : Int32) (c : cC) (n m kk : kG) (hA : iA (he, ke, ki, fi, fa, or, mi, a, g, l, w, s)) (hB : iB le ln) (hC : iC nu nn) (hD : iD rf) (hR : iR xm xw xn xc) (k1 : xi.length = 52) (x : Nat) (hx1 : 0 ≤ x) (hx : x ≤ 60) (y : Int32) (hyl : 3 ≤ y.toInt) : mm_R 168 0 [some (.ref 138), some (.int (nI x)), some (.int y), none] [] (mk_M c n m kk (rT (he, ke, ki, fi, fa, or, mi, a, g, l, w, s) xm xi xw im le nu rf ln nn vp xn xc vs)) (some (.int (-2)), (mk_M c n m kk (rT (he, ke, ki, fi, fa, or, mi, a, g, l, w, s) xm xi xw im le nu (rf.set 2 (kg rf 2 + 1)) ln nn vp xn xc vs))) := by
  have hst2 : s ≤ 999 := hA.2
  have v7 : mi ≤ 5 := hA.1.2.2.2.2.2.2.1
  have b3 : ln ≤ 96 := hB.2.2
  have c3 : nn ≤ 16 := hC.2.2
  refine mr_seg 3 (pc1 := 4) (ls1 := [some (.ref 138), some (.int (nI x)), some (.int y), none]) (st1 := [.int 60, .int 0, .int (nI x)]) (M1 := (mk_M c n m kk (rT (he, ke, ki, fi, fa, or, mi, a, g, l, w, s) xm xi xw im le nu rf ln nn vp xn xc vs))) (fun f => rfl) ?_
  refine mr_call (y := 159) (y0 := 7) (L := [some (.int (nI x)), some (.int 0), some (.int 60)]) (rest := []) (rr := some (.int 0)) (M1 := (mk_M c n m kk (rT (he, ke, ki, fi, fa, or, mi, a, g, l, w, s) xm xi xw im le nu rf ln nn vp xn xc vs))) (fun f => rfl) (ms_wb_ok (x := (nI x)) (a := 0) (b := 60) (nI_let (a := 0) (b := x) (by omega)) (nI_let (a := x) (b := 60) (by omega))) ?_
  refine mr_seg 6 (pc1 := 15) (ls1 := [some (.ref 138), some (.int (nI x)), some (.int y), some (.int 0)]) (st1 := [.int 2, .int 0, .int y]) (M1 := (mk_M c n m kk (rT (he, ke, ki, fi, fa, or, mi, a, g, l, w, s) xm xi xw im le nu rf ln nn vp xn xc vs))) (fun f => rfl) ?_
  refine mr_call (y := 135) (y0 := 18) (L := [some (.int y), some (.int 0), some (.int 2)]) (rest := []) (rr := some (.int 0)) (M1 := (mk_M c n m kk (rT (he, ke, ki, fi, fa, or, mi, a, g, l, w, s) xm xi xw im le nu rf ln nn vp xn xc vs))) (fun f => rfl) (ms_in_hi (x := y) (a := 0) (b := 2) (mz_lt_f 0 (by decide) (by omega)) (mz_gt_t 2 (by decide) (by omega))) ?_
  refine mr_seg 7 (pc1 := 30) (ls1 := [some (.ref 138), some (.int (nI x)), some (.int y), some (.int (-2))]) (st1 := [.int (-2), .ref 138]) (M1 := (mk_M c n m kk (rT (he, ke, ki, fi, fa, or, mi, a, g, l, w, s) xm xi xw im le nu rf ln nn vp xn xc vs))) (fun f => rfl) ?_
  refine mr_call (y := 130) (y0 := 33) (L := [some (.ref 138), some (.int (-2))]) (rest := []) (rr := some (.int (-2))) (M1 := (mk_M c n m kk (rT (he, ke, ki, fi, fa, or, mi, a, g, l, w, s) xm xi xw im le nu (rf.set 2 (kg rf 2 + 1)) ln nn vp xn xc vs))) (fun f => rfl) (ms_no2 hD) ?_
  exact mr_ret 1 (fun f => rfl)
theorem oe_then_3 (he ke ki fi fa or : List Nat) (mi a g l w s : Nat) (m : kG) (kk : kG) (im : Nat) (le : List Nat) (ln : Nat) (ys : List Int32) (vt : Int32) (nu : List Nat) (nn : Nat) (rf : List Nat) (vw : Int32) (vq : Int32) (yc : List Int32) (yh : List Int32) (yg : List Int32) (xm : List Int32) (xi : List Int32) (xw : List Int32) (vp : Int32) (xn : List Int32) (xc : List Int32) (vs : Int32) (hA : iA (he, ke, ki, fi, fa, or, mi, a, g, l, w, s)) (hB : iB le ln) (hC : iC nu nn) (hD : iD rf) (hJ : iJ m ys yc yh yg) (hR : iR xm xw xn xc) (hK : iK im kk xi) (x : Nat) (hx1 : 0 ≤ x) (hx : x ≤ 60) (y : Int32) (hyl : 3 ≤ y.toInt) : oI 74 168 [some (.ref 100), some (.int (nI x)), some (.int y), none] [some (.ref 138), some (.int (nI x)), some (.int y), none] (mk_M (cT im le ln ys vt nu nn rf vw vq yc yh yg) (kr (he, ke, ki, fi, fa, or, mi, a, g, l, w, s)) m kk (rT (he, ke, ki, fi, fa, or, mi, a, g, l, w, s) xm xi xw im le nu rf ln nn vp xn xc vs)) := by
  exact ⟨(-2), _, _, oc_then_3 he ke ki fi fa or mi a g l w s im le ln ys vt nu nn rf vw vq yc yh yg m kk _ hA hB hC hD hJ hK.1 x hx1 hx y hyl, om_then_3 he ke ki fi fa or mi a g l w s xm xi xw im le nu rf ln nn vp xn xc vs _ _ _ _ hA hB hC hD hR hK.2.1 x hx1 hx y hyl, (he, ke, ki, fi, fa, or, mi, a, g, l, w, s), m, kk, im, le, ln, ys, vt, nu, nn, (rf.set 2 (kg rf 2 + 1)), vw, vq, yc, yh, yg, xm, xi, xw, vp, xn, xc, vs, rfl, hA, hB, hC, iD_s hD, hJ, hR, hK⟩
set_option maxRecDepth 100000 in
theorem oc_then_4 (he ke ki fi fa or : List Nat) (mi a g l w s : Nat) (im : Nat) (le : List Nat) (ln : Nat) (ys : List Int32) (vt : Int32) (nu : List Nat) (nn : Nat) (rf : List Nat) (vw vq : Int32) (yc yh yg : List Int32) (m kk : kG) (q : cR) (hA : iA (he, ke, ki, fi, fa, or, mi, a, g, l, w, s)) (hB : iB le ln) (hC : iC nu nn) (hD : iD rf) (hJ : iJ m ys yc yh yg) (k0 : kSh kk) (x : Nat) (hx1 : 0 ≤ x) (hx : x ≤ 60) : mm_R 74 0 [some (.ref 100), some (.int (nI x)), some (.int 0), none] [] (mk_M (cT im le ln ys vt nu nn rf vw vq yc yh yg) (kr (he, ke, ki, fi, fa, or, mi, a, g, l, w, s)) m kk q) (some (.int (nI (k_at (ksteps x (he, ke, ki, fi, fa, or, mi, a, g, l, w, s))))), (mk_M (cT im le ln ys vt nu nn rf vw vq yc yh yg) (kr (he, ke, ki, fi, fa, or, mi, a, g, l, w, s)) (kr (ksteps x (he, ke, ki, fi, fa, or, mi, a, g, l, w, s))) kk q)) := by
  obtain ⟨hV, hst⟩ := id hA
  have hst2 : s ≤ 999 := hst
  obtain ⟨v1, v2, v3, v4, v5, v6, v7, v8, v9, v10, v11, v12, v13, v14, v15, v16⟩ := id hV
  have v6l := kO_len mi v7 or v6
  obtain ⟨b1, b2, b3⟩ := id hB
  obtain ⟨c1, c2, c3⟩ := id hC
  have d1 : rf.length = 7 := hD
  obtain ⟨j0, j1, j2, j3, j4⟩ := id hJ
  refine mr_seg 1 (pc1 := 1) (ls1 := [some (.ref 100), some (.int (nI x)), some (.int 0), none]) (st1 := [.int (nI x)]) (M1 := (mk_M (cT im le ln ys vt nu nn rf vw vq yc yh yg) (kr (he, ke, ki, fi, fa, or, mi, a, g, l, w, s)) m kk q)) (fun f => rfl) ?_
  refine mr_t (C := 0 ≤ (nI x)) (nI_let (a := 0) (b := x) (by omega)) (fun f => rfl) ?_
  refine mr_seg 2 (pc1 := 14) (ls1 := [some (.ref 100), some (.int (nI x)), some (.int 0), none]) (st1 := [.int 60, .int (nI x)]) (M1 := (mk_M (cT im le ln ys vt nu nn rf vw vq yc yh yg) (kr (he, ke, ki, fi, fa, or, mi, a, g, l, w, s)) m kk q)) (fun f => rfl) ?_
  refine mr_t (C := (nI x) ≤ 60) (nI_let (a := x) (b := 60) (by omega)) (fun f => rfl) ?_
  refine mr_seg 6 (pc1 := 41) (ls1 := [some (.ref 100), some (.int (nI x)), some (.int 0), none]) (st1 := [.ref 100]) (M1 := (mk_M (cT im le ln ys vt nu nn rf vw vq yc yh yg) (kr (he, ke, ki, fi, fa, or, mi, a, g, l, w, s)) m kk q)) (fun f => rfl) ?_
  refine mr_call (y := 75) (y0 := 44) (L := [some (.ref 100)]) (rest := []) (rr := some (.ref 124)) (M1 := (mk_M (cT im le ln ys vt nu nn rf vw vq yc yh yg) (kr (he, ke, ki, fi, fa, or, mi, a, g, l, w, s)) (kr (he, ke, ki, fi, fa, or, mi, a, g, l, w, s)) kk q)) (fun f => rfl) (cc_now (he, ke, ki, fi, fa, or, mi, a, g, l, w, s) (cT im le ln ys vt nu nn rf vw vq yc yh yg) m kk q hV j0) ?_
  refine mr_seg 3 (pc1 := 47) (ls1 := [some (.ref 100), some (.int (nI x)), some (.int 0), some (.ref 124)]) (st1 := [.int (nI x), .ref 124]) (M1 := (mk_M (cT im le ln ys vt nu nn rf vw vq yc yh yg) (kr (he, ke, ki, fi, fa, or, mi, a, g, l, w, s)) (kr (he, ke, ki, fi, fa, or, mi, a, g, l, w, s)) kk q)) (fun f => rfl) ?_
  refine mr_call (y := 43) (y0 := 50) (L := [some (.ref 124), some (.int (nI x)), none]) (rest := []) (rr := none) (M1 := (mk_M (cT im le ln ys vt nu nn rf vw vq yc yh yg) (kr (he, ke, ki, fi, fa, or, mi, a, g, l, w, s)) (kr (ksteps x (he, ke, ki, fi, fa, or, mi, a, g, l, w, s))) kk q)) (fun f => rfl) (kl_m (cT im le ln ys vt nu nn rf vw vq yc yh yg) (kr (he, ke, ki, fi, fa, or, mi, a, g, l, w, s)) kk q (kc_by_m x (by omega) (he, ke, ki, fi, fa, or, mi, a, g, l, w, s) hV (show s < 2 ^ 20 by omega))) ?_
  exact mr_ret 5 (fun f => rfl)
set_option maxRecDepth 100000 in
theorem om_then_4 (he ke ki fi fa or : List Nat) (mi a g l w s : Nat) (xm xi xw : List Int32) (im : Nat) (le nu rf : List Nat) (ln nn : Nat) (vp : Int32) (xn xc : List Int32) (vs : Int32) (c : cC) (n m kk : kG) (hA : iA (he, ke, ki, fi, fa, or, mi, a, g, l, w, s)) (hB : iB le ln) (hC : iC nu nn) (hD : iD rf) (hR : iR xm xw xn xc) (k1 : xi.length = 52) (x : Nat) (hx1 : 0 ≤ x) (hx : x ≤ 60) : mm_R 168 0 [some (.ref 138), some (.int (nI x)), some (.int 0), none] [] (mk_M c n m kk (rT (he, ke, ki, fi, fa, or, mi, a, g, l, w, s) xm xi xw im le nu rf ln nn vp xn xc vs)) (some (.int (nI (k_at (ksteps x (he, ke, ki, fi, fa, or, mi, a, g, l, w, s))))), (mk_M c n m kk (rT (he, ke, ki, fi, fa, or, mi, a, g, l, w, s) (er (ksteps x (he, ke, ki, fi, fa, or, mi, a, g, l, w, s))) xi xw im le nu rf ln nn vp xn xc vs))) := by
  obtain ⟨hV, hst⟩ := id hA
  have hst2 : s ≤ 999 := hst
  obtain ⟨v1, v2, v3, v4, v5, v6, v7, v8, v9, v10, v11, v12, v13, v14, v15, v16⟩ := id hV
  have v6l := kO_len mi v7 or v6
  obtain ⟨b1, b2, b3⟩ := id hB
  obtain ⟨c1, c2, c3⟩ := id hC
  have d1 : rf.length = 7 := hD
  obtain ⟨r1, r2, r3, r4⟩ := id hR
  refine mr_seg 3 (pc1 := 4) (ls1 := [some (.ref 138), some (.int (nI x)), some (.int 0), none]) (st1 := [.int 60, .int 0, .int (nI x)]) (M1 := (mk_M c n m kk (rT (he, ke, ki, fi, fa, or, mi, a, g, l, w, s) xm xi xw im le nu rf ln nn vp xn xc vs))) (fun f => rfl) ?_
  refine mr_call (y := 159) (y0 := 7) (L := [some (.int (nI x)), some (.int 0), some (.int 60)]) (rest := []) (rr := some (.int 0)) (M1 := (mk_M c n m kk (rT (he, ke, ki, fi, fa, or, mi, a, g, l, w, s) xm xi xw im le nu rf ln nn vp xn xc vs))) (fun f => rfl) (ms_wb_ok (x := (nI x)) (a := 0) (b := 60) (nI_let (a := 0) (b := x) (by omega)) (nI_let (a := x) (b := 60) (by omega))) ?_
  refine mr_seg 6 (pc1 := 15) (ls1 := [some (.ref 138), some (.int (nI x)), some (.int 0), some (.int 0)]) (st1 := [.int 2, .int 0, .int 0]) (M1 := (mk_M c n m kk (rT (he, ke, ki, fi, fa, or, mi, a, g, l, w, s) xm xi xw im le nu rf ln nn vp xn xc vs))) (fun f => rfl) ?_
  refine mr_call (y := 135) (y0 := 18) (L := [some (.int 0), some (.int 0), some (.int 2)]) (rest := []) (rr := some (.int 1)) (M1 := (mk_M c n m kk (rT (he, ke, ki, fi, fa, or, mi, a, g, l, w, s) xm xi xw im le nu rf ln nn vp xn xc vs))) (fun f => rfl) (by
      exact mr_ret 9 (fun f => rfl)) ?_
  refine mr_seg 5 (pc1 := 36) (ls1 := [some (.ref 138), some (.int (nI x)), some (.int 0), some (.int 0)]) (st1 := [.int (nI x), .ref 138]) (M1 := (mk_M c n m kk (rT (he, ke, ki, fi, fa, or, mi, a, g, l, w, s) xm xi xw im le nu rf ln nn vp xn xc vs))) (fun f => rfl) ?_
  refine mr_call (y := 169) (y0 := 39) (L := [some (.ref 138), some (.int (nI x))]) (rest := []) (rr := none) (M1 := (mk_M c n m kk (rT (he, ke, ki, fi, fa, or, mi, a, g, l, w, s) (er (ksteps x (he, ke, ki, fi, fa, or, mi, a, g, l, w, s))) xi xw im le nu rf ln nn vp xn xc vs))) (fun f => rfl) (by
      refine mr_seg 4 (pc1 := 8) (ls1 := [some (.ref 138), some (.int (nI x))]) (st1 := [.ref 140, .ref 139]) (M1 := (mk_M c n m kk (rT (he, ke, ki, fi, fa, or, mi, a, g, l, w, s) xm xi xw im le nu rf ln nn vp xn xc vs))) (fun f => rfl) ?_
      refine mr_call (y := 138) (y0 := 11) (L := [some (.ref 139), some (.ref 140), none]) (rest := []) (rr := none) (M1 := (mk_M c n m kk (rT (he, ke, ki, fi, fa, or, mi, a, g, l, w, s) (er (he, ke, ki, fi, fa, or, mi, a, g, l, w, s)) xi xw im le nu rf ln nn vp xn xc vs))) (fun f => rfl) (rc_copies (a := 140) (b := 139) (by decide) rfl rfl (er_len hV) r1) ?_
      refine mr_seg 3 (pc1 := 16) (ls1 := [some (.ref 138), some (.int (nI x))]) (st1 := [.int (nI x), .ref 140]) (M1 := (mk_M c n m kk (rT (he, ke, ki, fi, fa, or, mi, a, g, l, w, s) (er (he, ke, ki, fi, fa, or, mi, a, g, l, w, s)) xi xw im le nu rf ln nn vp xn xc vs))) (fun f => rfl) ?_
      refine mr_call (y := 145) (y0 := 19) (L := [some (.ref 140), some (.int (nI x)), none]) (rest := []) (rr := none) (M1 := (mk_M c n m kk (rT (he, ke, ki, fi, fa, or, mi, a, g, l, w, s) (er (ksteps x (he, ke, ki, fi, fa, or, mi, a, g, l, w, s))) xi xw im le nu rf ln nn vp xn xc vs))) (fun f => rfl) (rl_m c n m kk (rT (he, ke, ki, fi, fa, or, mi, a, g, l, w, s) (er (he, ke, ki, fi, fa, or, mi, a, g, l, w, s)) xi xw im le nu rf ln nn vp xn xc vs) (rc_by_m x (by omega) (he, ke, ki, fi, fa, or, mi, a, g, l, w, s) hV (show s < 2 ^ 20 by omega)) rfl) ?_
      exact mr_ret 1 (fun f => rfl)) ?_
  refine mr_seg 5 (pc1 := 48) (ls1 := [some (.ref 138), some (.int (nI x)), some (.int 0), some (.int 0)]) (st1 := [.int 2, .ref 140]) (M1 := (mk_M c n m kk (rT (he, ke, ki, fi, fa, or, mi, a, g, l, w, s) (er (ksteps x (he, ke, ki, fi, fa, or, mi, a, g, l, w, s))) xi xw im le nu rf ln nn vp xn xc vs))) (fun f => rfl) ?_
  refine mr_ldn (xs := (er (ksteps x (he, ke, ki, fi, fa, or, mi, a, g, l, w, s)))) rfl rfl (k := 2) (by decide) rfl ?_
  exact mr_ret 2 (fun f => rfl)
theorem oe_then_4 (he ke ki fi fa or : List Nat) (mi a g l w s : Nat) (m : kG) (kk : kG) (im : Nat) (le : List Nat) (ln : Nat) (ys : List Int32) (vt : Int32) (nu : List Nat) (nn : Nat) (rf : List Nat) (vw : Int32) (vq : Int32) (yc : List Int32) (yh : List Int32) (yg : List Int32) (xm : List Int32) (xi : List Int32) (xw : List Int32) (vp : Int32) (xn : List Int32) (xc : List Int32) (vs : Int32) (hA : iA (he, ke, ki, fi, fa, or, mi, a, g, l, w, s)) (hB : iB le ln) (hC : iC nu nn) (hD : iD rf) (hJ : iJ m ys yc yh yg) (hR : iR xm xw xn xc) (hK : iK im kk xi) (x : Nat) (hx1 : 0 ≤ x) (hx : x ≤ 60) : oI 74 168 [some (.ref 100), some (.int (nI x)), some (.int 0), none] [some (.ref 138), some (.int (nI x)), some (.int 0), none] (mk_M (cT im le ln ys vt nu nn rf vw vq yc yh yg) (kr (he, ke, ki, fi, fa, or, mi, a, g, l, w, s)) m kk (rT (he, ke, ki, fi, fa, or, mi, a, g, l, w, s) xm xi xw im le nu rf ln nn vp xn xc vs)) := by
  obtain ⟨hV, hst⟩ := id hA
  have hst2 : s ≤ 999 := hst
  obtain ⟨v1, v2, v3, v4, v5, v6, v7, v8, v9, v10, v11, v12, v13, v14, v15, v16⟩ := id hV
  have v6l := kO_len mi v7 or v6
  obtain ⟨b1, b2, b3⟩ := id hB
  obtain ⟨c1, c2, c3⟩ := id hC
  have d1 : rf.length = 7 := hD
  obtain ⟨j0, j1, j2, j3, j4⟩ := id hJ
  obtain ⟨r1, r2, r3, r4⟩ := id hR
  obtain ⟨k0, k1, k2, k3⟩ := id hK
  exact ⟨(nI (k_at (ksteps x (he, ke, ki, fi, fa, or, mi, a, g, l, w, s)))), _, _, oc_then_4 he ke ki fi fa or mi a g l w s im le ln ys vt nu nn rf vw vq yc yh yg m kk _ hA hB hC hD hJ hK.1 x hx1 hx, om_then_4 he ke ki fi fa or mi a g l w s xm xi xw im le nu rf ln nn vp xn xc vs _ _ _ _ hA hB hC hD hR hK.2.1 x hx1 hx, (he, ke, ki, fi, fa, or, mi, a, g, l, w, s), (kr (ksteps x (he, ke, ki, fi, fa, or, mi, a, g, l, w, s))), kk, im, le, ln, ys, vt, nu, nn, rf, vw, vq, yc, yh, yg, (er (ksteps x (he, ke, ki, fi, fa, or, mi, a, g, l, w, s))), xi, xw, vp, xn, xc, vs, rfl, hA, hB, hC, hD, ⟨kSh_r (kV_steps x hV), j1, j2, j3, j4⟩, ⟨er_len (kV_steps x hV), r2, r3, r4⟩, hK⟩
set_option maxRecDepth 100000 in
theorem oc_then_6 (he ke ki fi fa or : List Nat) (mi a g l w s : Nat) (im : Nat) (le : List Nat) (ln : Nat) (ys : List Int32) (vt : Int32) (nu : List Nat) (nn : Nat) (rf : List Nat) (vw vq : Int32) (yc yh yg : List Int32) (m kk : kG) (q : cR) (hA : iA (he, ke, ki, fi, fa, or, mi, a, g, l, w, s)) (hB : iB le ln) (hC : iC nu nn) (hD : iD rf) (hJ : iJ m ys yc yh yg) (k0 : kSh kk) (x : Nat) (hx1 : 0 ≤ x) (hx : x ≤ 60) : mm_R 74 0 [some (.ref 100), some (.int (nI x)), some (.int 2), none] [] (mk_M (cT im le ln ys vt nu nn rf vw vq yc yh yg) (kr (he, ke, ki, fi, fa, or, mi, a, g, l, w, s)) m kk q) (some (.int (nI (ksum (k_fa (ksteps x (he, ke, ki, fi, fa, or, mi, a, g, l, w, s))) (k_mi (ksteps x (he, ke, ki, fi, fa, or, mi, a, g, l, w, s)))))), (mk_M (cT im le ln ys vt nu nn rf vw vq yc yh yg) (kr (he, ke, ki, fi, fa, or, mi, a, g, l, w, s)) (kr (ksteps x (he, ke, ki, fi, fa, or, mi, a, g, l, w, s))) kk q)) := by
  obtain ⟨hV, hst⟩ := id hA
  have hst2 : s ≤ 999 := hst
  obtain ⟨v1, v2, v3, v4, v5, v6, v7, v8, v9, v10, v11, v12, v13, v14, v15, v16⟩ := id hV
  have v6l := kO_len mi v7 or v6
  obtain ⟨b1, b2, b3⟩ := id hB
  obtain ⟨c1, c2, c3⟩ := id hC
  have d1 : rf.length = 7 := hD
  obtain ⟨j0, j1, j2, j3, j4⟩ := id hJ
  refine mr_seg 1 (pc1 := 1) (ls1 := [some (.ref 100), some (.int (nI x)), some (.int 2), none]) (st1 := [.int (nI x)]) (M1 := (mk_M (cT im le ln ys vt nu nn rf vw vq yc yh yg) (kr (he, ke, ki, fi, fa, or, mi, a, g, l, w, s)) m kk q)) (fun f => rfl) ?_
  refine mr_t (C := 0 ≤ (nI x)) (nI_let (a := 0) (b := x) (by omega)) (fun f => rfl) ?_
  refine mr_seg 2 (pc1 := 14) (ls1 := [some (.ref 100), some (.int (nI x)), some (.int 2), none]) (st1 := [.int 60, .int (nI x)]) (M1 := (mk_M (cT im le ln ys vt nu nn rf vw vq yc yh yg) (kr (he, ke, ki, fi, fa, or, mi, a, g, l, w, s)) m kk q)) (fun f => rfl) ?_
  refine mr_t (C := (nI x) ≤ 60) (nI_let (a := x) (b := 60) (by omega)) (fun f => rfl) ?_
  refine mr_seg 6 (pc1 := 41) (ls1 := [some (.ref 100), some (.int (nI x)), some (.int 2), none]) (st1 := [.ref 100]) (M1 := (mk_M (cT im le ln ys vt nu nn rf vw vq yc yh yg) (kr (he, ke, ki, fi, fa, or, mi, a, g, l, w, s)) m kk q)) (fun f => rfl) ?_
  refine mr_call (y := 75) (y0 := 44) (L := [some (.ref 100)]) (rest := []) (rr := some (.ref 124)) (M1 := (mk_M (cT im le ln ys vt nu nn rf vw vq yc yh yg) (kr (he, ke, ki, fi, fa, or, mi, a, g, l, w, s)) (kr (he, ke, ki, fi, fa, or, mi, a, g, l, w, s)) kk q)) (fun f => rfl) (cc_now (he, ke, ki, fi, fa, or, mi, a, g, l, w, s) (cT im le ln ys vt nu nn rf vw vq yc yh yg) m kk q hV j0) ?_
  refine mr_seg 3 (pc1 := 47) (ls1 := [some (.ref 100), some (.int (nI x)), some (.int 2), some (.ref 124)]) (st1 := [.int (nI x), .ref 124]) (M1 := (mk_M (cT im le ln ys vt nu nn rf vw vq yc yh yg) (kr (he, ke, ki, fi, fa, or, mi, a, g, l, w, s)) (kr (he, ke, ki, fi, fa, or, mi, a, g, l, w, s)) kk q)) (fun f => rfl) ?_
  refine mr_call (y := 43) (y0 := 50) (L := [some (.ref 124), some (.int (nI x)), none]) (rest := []) (rr := none) (M1 := (mk_M (cT im le ln ys vt nu nn rf vw vq yc yh yg) (kr (he, ke, ki, fi, fa, or, mi, a, g, l, w, s)) (kr (ksteps x (he, ke, ki, fi, fa, or, mi, a, g, l, w, s))) kk q)) (fun f => rfl) (kl_m (cT im le ln ys vt nu nn rf vw vq yc yh yg) (kr (he, ke, ki, fi, fa, or, mi, a, g, l, w, s)) kk q (kc_by_m x (by omega) (he, ke, ki, fi, fa, or, mi, a, g, l, w, s) hV (show s < 2 ^ 20 by omega))) ?_
  refine mr_seg 6 (pc1 := 72) (ls1 := [some (.ref 100), some (.int (nI x)), some (.int 2), some (.ref 124)]) (st1 := [.ref 124]) (M1 := (mk_M (cT im le ln ys vt nu nn rf vw vq yc yh yg) (kr (he, ke, ki, fi, fa, or, mi, a, g, l, w, s)) (kr (ksteps x (he, ke, ki, fi, fa, or, mi, a, g, l, w, s))) kk q)) (fun f => rfl) ?_
  refine mr_call (y := 77) (y0 := 75) (L := [some (.ref 124), none, none]) (rest := []) (rr := some (.int (nI (ksum (k_fa (ksteps x (he, ke, ki, fi, fa, or, mi, a, g, l, w, s))) (k_mi (ksteps x (he, ke, ki, fi, fa, or, mi, a, g, l, w, s))))))) (M1 := (mk_M (cT im le ln ys vt nu nn rf vw vq yc yh yg) (kr (he, ke, ki, fi, fa, or, mi, a, g, l, w, s)) (kr (ksteps x (he, ke, ki, fi, fa, or, mi, a, g, l, w, s))) kk q)) (fun f => rfl) (kl_m (cT im le ln ys vt nu nn rf vw vq yc yh yg) (kr (he, ke, ki, fi, fa, or, mi, a, g, l, w, s)) kk q (kc_af_m (ksteps x (he, ke, ki, fi, fa, or, mi, a, g, l, w, s)) (kV_steps x hV))) ?_
  exact mr_ret 1 (fun f => rfl)
set_option maxRecDepth 100000 in
theorem om_then_6 (he ke ki fi fa or : List Nat) (mi a g l w s : Nat) (xm xi xw : List Int32) (im : Nat) (le nu rf : List Nat) (ln nn : Nat) (vp : Int32) (xn xc : List Int32) (vs : Int32) (c : cC) (n m kk : kG) (hA : iA (he, ke, ki, fi, fa, or, mi, a, g, l, w, s)) (hB : iB le ln) (hC : iC nu nn) (hD : iD rf) (hR : iR xm xw xn xc) (k1 : xi.length = 52) (x : Nat) (hx1 : 0 ≤ x) (hx : x ≤ 60) : mm_R 168 0 [some (.ref 138), some (.int (nI x)), some (.int 2), none] [] (mk_M c n m kk (rT (he, ke, ki, fi, fa, or, mi, a, g, l, w, s) xm xi xw im le nu rf ln nn vp xn xc vs)) (some (.int (nI (ksum (k_fa (ksteps x (he, ke, ki, fi, fa, or, mi, a, g, l, w, s))) (k_mi (ksteps x (he, ke, ki, fi, fa, or, mi, a, g, l, w, s)))))), (mk_M c n m kk (rT (he, ke, ki, fi, fa, or, mi, a, g, l, w, s) (er (ksteps x (he, ke, ki, fi, fa, or, mi, a, g, l, w, s))) xi xw im le nu rf ln nn vp xn xc vs))) := by
  obtain ⟨hV, hst⟩ := id hA
  have hst2 : s ≤ 999 := hst
  obtain ⟨v1, v2, v3, v4, v5, v6, v7, v8, v9, v10, v11, v12, v13, v14, v15, v16⟩ := id hV
  have v6l := kO_len mi v7 or v6
  obtain ⟨b1, b2, b3⟩ := id hB
  obtain ⟨c1, c2, c3⟩ := id hC
  have d1 : rf.length = 7 := hD
  obtain ⟨r1, r2, r3, r4⟩ := id hR
  refine mr_seg 3 (pc1 := 4) (ls1 := [some (.ref 138), some (.int (nI x)), some (.int 2), none]) (st1 := [.int 60, .int 0, .int (nI x)]) (M1 := (mk_M c n m kk (rT (he, ke, ki, fi, fa, or, mi, a, g, l, w, s) xm xi xw im le nu rf ln nn vp xn xc vs))) (fun f => rfl) ?_
  refine mr_call (y := 159) (y0 := 7) (L := [some (.int (nI x)), some (.int 0), some (.int 60)]) (rest := []) (rr := some (.int 0)) (M1 := (mk_M c n m kk (rT (he, ke, ki, fi, fa, or, mi, a, g, l, w, s) xm xi xw im le nu rf ln nn vp xn xc vs))) (fun f => rfl) (ms_wb_ok (x := (nI x)) (a := 0) (b := 60) (nI_let (a := 0) (b := x) (by omega)) (nI_let (a := x) (b := 60) (by omega))) ?_
  refine mr_seg 6 (pc1 := 15) (ls1 := [some (.ref 138), some (.int (nI x)), some (.int 2), some (.int 0)]) (st1 := [.int 2, .int 0, .int 2]) (M1 := (mk_M c n m kk (rT (he, ke, ki, fi, fa, or, mi, a, g, l, w, s) xm xi xw im le nu rf ln nn vp xn xc vs))) (fun f => rfl) ?_
  refine mr_call (y := 135) (y0 := 18) (L := [some (.int 2), some (.int 0), some (.int 2)]) (rest := []) (rr := some (.int 1)) (M1 := (mk_M c n m kk (rT (he, ke, ki, fi, fa, or, mi, a, g, l, w, s) xm xi xw im le nu rf ln nn vp xn xc vs))) (fun f => rfl) (by
      exact mr_ret 9 (fun f => rfl)) ?_
  refine mr_seg 5 (pc1 := 36) (ls1 := [some (.ref 138), some (.int (nI x)), some (.int 2), some (.int 0)]) (st1 := [.int (nI x), .ref 138]) (M1 := (mk_M c n m kk (rT (he, ke, ki, fi, fa, or, mi, a, g, l, w, s) xm xi xw im le nu rf ln nn vp xn xc vs))) (fun f => rfl) ?_
  refine mr_call (y := 169) (y0 := 39) (L := [some (.ref 138), some (.int (nI x))]) (rest := []) (rr := none) (M1 := (mk_M c n m kk (rT (he, ke, ki, fi, fa, or, mi, a, g, l, w, s) (er (ksteps x (he, ke, ki, fi, fa, or, mi, a, g, l, w, s))) xi xw im le nu rf ln nn vp xn xc vs))) (fun f => rfl) (by
      refine mr_seg 4 (pc1 := 8) (ls1 := [some (.ref 138), some (.int (nI x))]) (st1 := [.ref 140, .ref 139]) (M1 := (mk_M c n m kk (rT (he, ke, ki, fi, fa, or, mi, a, g, l, w, s) xm xi xw im le nu rf ln nn vp xn xc vs))) (fun f => rfl) ?_
      refine mr_call (y := 138) (y0 := 11) (L := [some (.ref 139), some (.ref 140), none]) (rest := []) (rr := none) (M1 := (mk_M c n m kk (rT (he, ke, ki, fi, fa, or, mi, a, g, l, w, s) (er (he, ke, ki, fi, fa, or, mi, a, g, l, w, s)) xi xw im le nu rf ln nn vp xn xc vs))) (fun f => rfl) (rc_copies (a := 140) (b := 139) (by decide) rfl rfl (er_len hV) r1) ?_
      refine mr_seg 3 (pc1 := 16) (ls1 := [some (.ref 138), some (.int (nI x))]) (st1 := [.int (nI x), .ref 140]) (M1 := (mk_M c n m kk (rT (he, ke, ki, fi, fa, or, mi, a, g, l, w, s) (er (he, ke, ki, fi, fa, or, mi, a, g, l, w, s)) xi xw im le nu rf ln nn vp xn xc vs))) (fun f => rfl) ?_
      refine mr_call (y := 145) (y0 := 19) (L := [some (.ref 140), some (.int (nI x)), none]) (rest := []) (rr := none) (M1 := (mk_M c n m kk (rT (he, ke, ki, fi, fa, or, mi, a, g, l, w, s) (er (ksteps x (he, ke, ki, fi, fa, or, mi, a, g, l, w, s))) xi xw im le nu rf ln nn vp xn xc vs))) (fun f => rfl) (rl_m c n m kk (rT (he, ke, ki, fi, fa, or, mi, a, g, l, w, s) (er (he, ke, ki, fi, fa, or, mi, a, g, l, w, s)) xi xw im le nu rf ln nn vp xn xc vs) (rc_by_m x (by omega) (he, ke, ki, fi, fa, or, mi, a, g, l, w, s) hV (show s < 2 ^ 20 by omega)) rfl) ?_
      exact mr_ret 1 (fun f => rfl)) ?_
  refine mr_seg 7 (pc1 := 61) (ls1 := [some (.ref 138), some (.int (nI x)), some (.int 2), some (.int 0)]) (st1 := [.ref 140]) (M1 := (mk_M c n m kk (rT (he, ke, ki, fi, fa, or, mi, a, g, l, w, s) (er (ksteps x (he, ke, ki, fi, fa, or, mi, a, g, l, w, s))) xi xw im le nu rf ln nn vp xn xc vs))) (fun f => rfl) ?_
  refine mr_call (y := 170) (y0 := 64) (L := [some (.ref 140), none, none]) (rest := []) (rr := some (.int (nI (ksum (k_fa (ksteps x (he, ke, ki, fi, fa, or, mi, a, g, l, w, s))) (k_mi (ksteps x (he, ke, ki, fi, fa, or, mi, a, g, l, w, s))))))) (M1 := (mk_M c n m kk (rT (he, ke, ki, fi, fa, or, mi, a, g, l, w, s) (er (ksteps x (he, ke, ki, fi, fa, or, mi, a, g, l, w, s))) xi xw im le nu rf ln nn vp xn xc vs))) (fun f => rfl) (rl_m c n m kk (rT (he, ke, ki, fi, fa, or, mi, a, g, l, w, s) (er (ksteps x (he, ke, ki, fi, fa, or, mi, a, g, l, w, s))) xi xw im le nu rf ln nn vp xn xc vs) (rc_af_m (ksteps x (he, ke, ki, fi, fa, or, mi, a, g, l, w, s)) (kV_steps x hV)) rfl) ?_
  exact mr_ret 2 (fun f => rfl)
theorem oe_then_6 (he ke ki fi fa or : List Nat) (mi a g l w s : Nat) (m : kG) (kk : kG) (im : Nat) (le : List Nat) (ln : Nat) (ys : List Int32) (vt : Int32) (nu : List Nat) (nn : Nat) (rf : List Nat) (vw : Int32) (vq : Int32) (yc : List Int32) (yh : List Int32) (yg : List Int32) (xm : List Int32) (xi : List Int32) (xw : List Int32) (vp : Int32) (xn : List Int32) (xc : List Int32) (vs : Int32) (hA : iA (he, ke, ki, fi, fa, or, mi, a, g, l, w, s)) (hB : iB le ln) (hC : iC nu nn) (hD : iD rf) (hJ : iJ m ys yc yh yg) (hR : iR xm xw xn xc) (hK : iK im kk xi) (x : Nat) (hx1 : 0 ≤ x) (hx : x ≤ 60) : oI 74 168 [some (.ref 100), some (.int (nI x)), some (.int 2), none] [some (.ref 138), some (.int (nI x)), some (.int 2), none] (mk_M (cT im le ln ys vt nu nn rf vw vq yc yh yg) (kr (he, ke, ki, fi, fa, or, mi, a, g, l, w, s)) m kk (rT (he, ke, ki, fi, fa, or, mi, a, g, l, w, s) xm xi xw im le nu rf ln nn vp xn xc vs)) := by
  obtain ⟨hV, hst⟩ := id hA
  have hst2 : s ≤ 999 := hst
  obtain ⟨v1, v2, v3, v4, v5, v6, v7, v8, v9, v10, v11, v12, v13, v14, v15, v16⟩ := id hV
  have v6l := kO_len mi v7 or v6
  obtain ⟨b1, b2, b3⟩ := id hB
  obtain ⟨c1, c2, c3⟩ := id hC
  have d1 : rf.length = 7 := hD
  obtain ⟨j0, j1, j2, j3, j4⟩ := id hJ
  obtain ⟨r1, r2, r3, r4⟩ := id hR
  obtain ⟨k0, k1, k2, k3⟩ := id hK
  exact ⟨(nI (ksum (k_fa (ksteps x (he, ke, ki, fi, fa, or, mi, a, g, l, w, s))) (k_mi (ksteps x (he, ke, ki, fi, fa, or, mi, a, g, l, w, s))))), _, _, oc_then_6 he ke ki fi fa or mi a g l w s im le ln ys vt nu nn rf vw vq yc yh yg m kk _ hA hB hC hD hJ hK.1 x hx1 hx, om_then_6 he ke ki fi fa or mi a g l w s xm xi xw im le nu rf ln nn vp xn xc vs _ _ _ _ hA hB hC hD hR hK.2.1 x hx1 hx, (he, ke, ki, fi, fa, or, mi, a, g, l, w, s), (kr (ksteps x (he, ke, ki, fi, fa, or, mi, a, g, l, w, s))), kk, im, le, ln, ys, vt, nu, nn, rf, vw, vq, yc, yh, yg, (er (ksteps x (he, ke, ki, fi, fa, or, mi, a, g, l, w, s))), xi, xw, vp, xn, xc, vs, rfl, hA, hB, hC, hD, ⟨kSh_r (kV_steps x hV), j1, j2, j3, j4⟩, ⟨er_len (kV_steps x hV), r2, r3, r4⟩, hK⟩
set_option maxRecDepth 100000 in
theorem oc_then_50 (he ke ki fi fa or : List Nat) (mi a g l w s : Nat) (im : Nat) (le : List Nat) (ln : Nat) (ys : List Int32) (vt : Int32) (nu : List Nat) (nn : Nat) (rf : List Nat) (vw vq : Int32) (yc yh yg : List Int32) (m kk : kG) (q : cR) (hA : iA (he, ke, ki, fi, fa, or, mi, a, g, l, w, s)) (hB : iB le ln) (hC : iC nu nn) (hD : iD rf) (hJ : iJ m ys yc yh yg) (k0 : kSh kk) (x : Nat) (hx1 : 0 ≤ x) (hx : x ≤ 60) (hq : mi = 0) : mm_R 74 0 [some (.ref 100), some (.int (nI x)), some (.int 1), none] [] (mk_M (cT im le ln ys vt nu nn rf vw vq yc yh yg) (kr (he, ke, ki, fi, fa, or, mi, a, g, l, w, s)) m kk q) (some (.int (-9)), (mk_M (cT im le ln ys vt nu nn rf vw vq yc yh yg) (kr (he, ke, ki, fi, fa, or, mi, a, g, l, w, s)) (kr (ksteps x (he, ke, ki, fi, fa, or, mi, a, g, l, w, s))) kk q)) := by
  obtain ⟨hV, hst⟩ := id hA
  have hst2 : s ≤ 999 := hst
  obtain ⟨v1, v2, v3, v4, v5, v6, v7, v8, v9, v10, v11, v12, v13, v14, v15, v16⟩ := id hV
  have v6l := kO_len mi v7 or v6
  obtain ⟨b1, b2, b3⟩ := id hB
  obtain ⟨c1, c2, c3⟩ := id hC
  have d1 : rf.length = 7 := hD
  obtain ⟨j0, j1, j2, j3, j4⟩ := id hJ
  have emi : k_mi (ksteps x (he, ke, ki, fi, fa, or, mi, a, g, l, w, s)) = mi := kmi_steps x _
  refine mr_seg 1 (pc1 := 1) (ls1 := [some (.ref 100), some (.int (nI x)), some (.int 1), none]) (st1 := [.int (nI x)]) (M1 := (mk_M (cT im le ln ys vt nu nn rf vw vq yc yh yg) (kr (he, ke, ki, fi, fa, or, mi, a, g, l, w, s)) m kk q)) (fun f => rfl) ?_
  refine mr_t (C := 0 ≤ (nI x)) (nI_let (a := 0) (b := x) (by omega)) (fun f => rfl) ?_
  refine mr_seg 2 (pc1 := 14) (ls1 := [some (.ref 100), some (.int (nI x)), some (.int 1), none]) (st1 := [.int 60, .int (nI x)]) (M1 := (mk_M (cT im le ln ys vt nu nn rf vw vq yc yh yg) (kr (he, ke, ki, fi, fa, or, mi, a, g, l, w, s)) m kk q)) (fun f => rfl) ?_
  refine mr_t (C := (nI x) ≤ 60) (nI_let (a := x) (b := 60) (by omega)) (fun f => rfl) ?_
  refine mr_seg 6 (pc1 := 41) (ls1 := [some (.ref 100), some (.int (nI x)), some (.int 1), none]) (st1 := [.ref 100]) (M1 := (mk_M (cT im le ln ys vt nu nn rf vw vq yc yh yg) (kr (he, ke, ki, fi, fa, or, mi, a, g, l, w, s)) m kk q)) (fun f => rfl) ?_
  refine mr_call (y := 75) (y0 := 44) (L := [some (.ref 100)]) (rest := []) (rr := some (.ref 124)) (M1 := (mk_M (cT im le ln ys vt nu nn rf vw vq yc yh yg) (kr (he, ke, ki, fi, fa, or, mi, a, g, l, w, s)) (kr (he, ke, ki, fi, fa, or, mi, a, g, l, w, s)) kk q)) (fun f => rfl) (cc_now (he, ke, ki, fi, fa, or, mi, a, g, l, w, s) (cT im le ln ys vt nu nn rf vw vq yc yh yg) m kk q hV j0) ?_
  refine mr_seg 3 (pc1 := 47) (ls1 := [some (.ref 100), some (.int (nI x)), some (.int 1), some (.ref 124)]) (st1 := [.int (nI x), .ref 124]) (M1 := (mk_M (cT im le ln ys vt nu nn rf vw vq yc yh yg) (kr (he, ke, ki, fi, fa, or, mi, a, g, l, w, s)) (kr (he, ke, ki, fi, fa, or, mi, a, g, l, w, s)) kk q)) (fun f => rfl) ?_
  refine mr_call (y := 43) (y0 := 50) (L := [some (.ref 124), some (.int (nI x)), none]) (rest := []) (rr := none) (M1 := (mk_M (cT im le ln ys vt nu nn rf vw vq yc yh yg) (kr (he, ke, ki, fi, fa, or, mi, a, g, l, w, s)) (kr (ksteps x (he, ke, ki, fi, fa, or, mi, a, g, l, w, s))) kk q)) (fun f => rfl) (kl_m (cT im le ln ys vt nu nn rf vw vq yc yh yg) (kr (he, ke, ki, fi, fa, or, mi, a, g, l, w, s)) kk q (kc_by_m x (by omega) (he, ke, ki, fi, fa, or, mi, a, g, l, w, s) hV (show s < 2 ^ 20 by omega))) ?_
  refine mr_seg 6 (pc1 := 65) (ls1 := [some (.ref 100), some (.int (nI x)), some (.int 1), some (.ref 124)]) (st1 := [.ref 124]) (M1 := (mk_M (cT im le ln ys vt nu nn rf vw vq yc yh yg) (kr (he, ke, ki, fi, fa, or, mi, a, g, l, w, s)) (kr (ksteps x (he, ke, ki, fi, fa, or, mi, a, g, l, w, s))) kk q)) (fun f => rfl) ?_
  refine mr_call (y := 71) (y0 := 68) (L := [some (.ref 124)]) (rest := []) (rr := some (.int (-9))) (M1 := (mk_M (cT im le ln ys vt nu nn rf vw vq yc yh yg) (kr (he, ke, ki, fi, fa, or, mi, a, g, l, w, s)) (kr (ksteps x (he, ke, ki, fi, fa, or, mi, a, g, l, w, s))) kk q)) (fun f => rfl) (mr_eq (kl_m (cT im le ln ys vt nu nn rf vw vq yc yh yg) (kr (he, ke, ki, fi, fa, or, mi, a, g, l, w, s)) kk q (kc_firx_m (ksteps x (he, ke, ki, fi, fa, or, mi, a, g, l, w, s)) (kV_steps x hV))) (by rw [kfir_0 (K := (ksteps x (he, ke, ki, fi, fa, or, mi, a, g, l, w, s))) (show k_mi (ksteps x (he, ke, ki, fi, fa, or, mi, a, g, l, w, s)) = 0 from (kmi_steps x _).trans hq)] <;> rfl)) ?_
  exact mr_ret 2 (fun f => rfl)
set_option maxRecDepth 100000 in
theorem om_then_50 (he ke ki fi fa or : List Nat) (mi a g l w s : Nat) (xm xi xw : List Int32) (im : Nat) (le nu rf : List Nat) (ln nn : Nat) (vp : Int32) (xn xc : List Int32) (vs : Int32) (c : cC) (n m kk : kG) (hA : iA (he, ke, ki, fi, fa, or, mi, a, g, l, w, s)) (hB : iB le ln) (hC : iC nu nn) (hD : iD rf) (hR : iR xm xw xn xc) (k1 : xi.length = 52) (x : Nat) (hx1 : 0 ≤ x) (hx : x ≤ 60) (hq : mi = 0) : mm_R 168 0 [some (.ref 138), some (.int (nI x)), some (.int 1), none] [] (mk_M c n m kk (rT (he, ke, ki, fi, fa, or, mi, a, g, l, w, s) xm xi xw im le nu rf ln nn vp xn xc vs)) (some (.int (-9)), (mk_M c n m kk (rT (he, ke, ki, fi, fa, or, mi, a, g, l, w, s) (er (ksteps x (he, ke, ki, fi, fa, or, mi, a, g, l, w, s))) xi xw im le nu rf ln nn vp xn xc vs))) := by
  obtain ⟨hV, hst⟩ := id hA
  have hst2 : s ≤ 999 := hst
  obtain ⟨v1, v2, v3, v4, v5, v6, v7, v8, v9, v10, v11, v12, v13, v14, v15, v16⟩ := id hV
  have v6l := kO_len mi v7 or v6
  obtain ⟨b1, b2, b3⟩ := id hB
  obtain ⟨c1, c2, c3⟩ := id hC
  have d1 : rf.length = 7 := hD
  obtain ⟨r1, r2, r3, r4⟩ := id hR
  have emi : k_mi (ksteps x (he, ke, ki, fi, fa, or, mi, a, g, l, w, s)) = mi := kmi_steps x _
  refine mr_seg 3 (pc1 := 4) (ls1 := [some (.ref 138), some (.int (nI x)), some (.int 1), none]) (st1 := [.int 60, .int 0, .int (nI x)]) (M1 := (mk_M c n m kk (rT (he, ke, ki, fi, fa, or, mi, a, g, l, w, s) xm xi xw im le nu rf ln nn vp xn xc vs))) (fun f => rfl) ?_
  refine mr_call (y := 159) (y0 := 7) (L := [some (.int (nI x)), some (.int 0), some (.int 60)]) (rest := []) (rr := some (.int 0)) (M1 := (mk_M c n m kk (rT (he, ke, ki, fi, fa, or, mi, a, g, l, w, s) xm xi xw im le nu rf ln nn vp xn xc vs))) (fun f => rfl) (ms_wb_ok (x := (nI x)) (a := 0) (b := 60) (nI_let (a := 0) (b := x) (by omega)) (nI_let (a := x) (b := 60) (by omega))) ?_
  refine mr_seg 6 (pc1 := 15) (ls1 := [some (.ref 138), some (.int (nI x)), some (.int 1), some (.int 0)]) (st1 := [.int 2, .int 0, .int 1]) (M1 := (mk_M c n m kk (rT (he, ke, ki, fi, fa, or, mi, a, g, l, w, s) xm xi xw im le nu rf ln nn vp xn xc vs))) (fun f => rfl) ?_
  refine mr_call (y := 135) (y0 := 18) (L := [some (.int 1), some (.int 0), some (.int 2)]) (rest := []) (rr := some (.int 1)) (M1 := (mk_M c n m kk (rT (he, ke, ki, fi, fa, or, mi, a, g, l, w, s) xm xi xw im le nu rf ln nn vp xn xc vs))) (fun f => rfl) (by
      exact mr_ret 9 (fun f => rfl)) ?_
  refine mr_seg 5 (pc1 := 36) (ls1 := [some (.ref 138), some (.int (nI x)), some (.int 1), some (.int 0)]) (st1 := [.int (nI x), .ref 138]) (M1 := (mk_M c n m kk (rT (he, ke, ki, fi, fa, or, mi, a, g, l, w, s) xm xi xw im le nu rf ln nn vp xn xc vs))) (fun f => rfl) ?_
  refine mr_call (y := 169) (y0 := 39) (L := [some (.ref 138), some (.int (nI x))]) (rest := []) (rr := none) (M1 := (mk_M c n m kk (rT (he, ke, ki, fi, fa, or, mi, a, g, l, w, s) (er (ksteps x (he, ke, ki, fi, fa, or, mi, a, g, l, w, s))) xi xw im le nu rf ln nn vp xn xc vs))) (fun f => rfl) (by
      refine mr_seg 4 (pc1 := 8) (ls1 := [some (.ref 138), some (.int (nI x))]) (st1 := [.ref 140, .ref 139]) (M1 := (mk_M c n m kk (rT (he, ke, ki, fi, fa, or, mi, a, g, l, w, s) xm xi xw im le nu rf ln nn vp xn xc vs))) (fun f => rfl) ?_
      refine mr_call (y := 138) (y0 := 11) (L := [some (.ref 139), some (.ref 140), none]) (rest := []) (rr := none) (M1 := (mk_M c n m kk (rT (he, ke, ki, fi, fa, or, mi, a, g, l, w, s) (er (he, ke, ki, fi, fa, or, mi, a, g, l, w, s)) xi xw im le nu rf ln nn vp xn xc vs))) (fun f => rfl) (rc_copies (a := 140) (b := 139) (by decide) rfl rfl (er_len hV) r1) ?_
      refine mr_seg 3 (pc1 := 16) (ls1 := [some (.ref 138), some (.int (nI x))]) (st1 := [.int (nI x), .ref 140]) (M1 := (mk_M c n m kk (rT (he, ke, ki, fi, fa, or, mi, a, g, l, w, s) (er (he, ke, ki, fi, fa, or, mi, a, g, l, w, s)) xi xw im le nu rf ln nn vp xn xc vs))) (fun f => rfl) ?_
      refine mr_call (y := 145) (y0 := 19) (L := [some (.ref 140), some (.int (nI x)), none]) (rest := []) (rr := none) (M1 := (mk_M c n m kk (rT (he, ke, ki, fi, fa, or, mi, a, g, l, w, s) (er (ksteps x (he, ke, ki, fi, fa, or, mi, a, g, l, w, s))) xi xw im le nu rf ln nn vp xn xc vs))) (fun f => rfl) (rl_m c n m kk (rT (he, ke, ki, fi, fa, or, mi, a, g, l, w, s) (er (he, ke, ki, fi, fa, or, mi, a, g, l, w, s)) xi xw im le nu rf ln nn vp xn xc vs) (rc_by_m x (by omega) (he, ke, ki, fi, fa, or, mi, a, g, l, w, s) hV (show s < 2 ^ 20 by omega)) rfl) ?_
      exact mr_ret 1 (fun f => rfl)) ?_
  refine mr_seg 8 (pc1 := 72) (ls1 := [some (.ref 138), some (.int (nI x)), some (.int 1), some (.int 0)]) (st1 := [.int 0, .ref 140]) (M1 := (mk_M c n m kk (rT (he, ke, ki, fi, fa, or, mi, a, g, l, w, s) (er (ksteps x (he, ke, ki, fi, fa, or, mi, a, g, l, w, s))) xi xw im le nu rf ln nn vp xn xc vs))) (fun f => rfl) ?_
  refine mr_ldn (xs := (er (ksteps x (he, ke, ki, fi, fa, or, mi, a, g, l, w, s)))) rfl rfl (k := 0) (by decide) rfl ?_
  refine mr_t (C := (nI (k_mi (ksteps x (he, ke, ki, fi, fa, or, mi, a, g, l, w, s)))) = 0) ((nI_eqi (a := k_mi (ksteps x (he, ke, ki, fi, fa, or, mi, a, g, l, w, s))) (b := 0) (by omega)).mpr ((kmi_steps x _).trans hq)) (fun f => rfl) ?_
  exact mr_ret 3 (fun f => rfl)
theorem oe_then_50 (he ke ki fi fa or : List Nat) (mi a g l w s : Nat) (m : kG) (kk : kG) (im : Nat) (le : List Nat) (ln : Nat) (ys : List Int32) (vt : Int32) (nu : List Nat) (nn : Nat) (rf : List Nat) (vw : Int32) (vq : Int32) (yc : List Int32) (yh : List Int32) (yg : List Int32) (xm : List Int32) (xi : List Int32) (xw : List Int32) (vp : Int32) (xn : List Int32) (xc : List Int32) (vs : Int32) (hA : iA (he, ke, ki, fi, fa, or, mi, a, g, l, w, s)) (hB : iB le ln) (hC : iC nu nn) (hD : iD rf) (hJ : iJ m ys yc yh yg) (hR : iR xm xw xn xc) (hK : iK im kk xi) (x : Nat) (hx1 : 0 ≤ x) (hx : x ≤ 60) (hq : mi = 0) : oI 74 168 [some (.ref 100), some (.int (nI x)), some (.int 1), none] [some (.ref 138), some (.int (nI x)), some (.int 1), none] (mk_M (cT im le ln ys vt nu nn rf vw vq yc yh yg) (kr (he, ke, ki, fi, fa, or, mi, a, g, l, w, s)) m kk (rT (he, ke, ki, fi, fa, or, mi, a, g, l, w, s) xm xi xw im le nu rf ln nn vp xn xc vs)) := by
  obtain ⟨hV, hst⟩ := id hA
  have hst2 : s ≤ 999 := hst
  obtain ⟨v1, v2, v3, v4, v5, v6, v7, v8, v9, v10, v11, v12, v13, v14, v15, v16⟩ := id hV
  have v6l := kO_len mi v7 or v6
  obtain ⟨b1, b2, b3⟩ := id hB
  obtain ⟨c1, c2, c3⟩ := id hC
  have d1 : rf.length = 7 := hD
  obtain ⟨j0, j1, j2, j3, j4⟩ := id hJ
  obtain ⟨r1, r2, r3, r4⟩ := id hR
  obtain ⟨k0, k1, k2, k3⟩ := id hK
  have emi : k_mi (ksteps x (he, ke, ki, fi, fa, or, mi, a, g, l, w, s)) = mi := kmi_steps x _
  exact ⟨(-9), _, _, oc_then_50 he ke ki fi fa or mi a g l w s im le ln ys vt nu nn rf vw vq yc yh yg m kk _ hA hB hC hD hJ hK.1 x hx1 hx hq, om_then_50 he ke ki fi fa or mi a g l w s xm xi xw im le nu rf ln nn vp xn xc vs _ _ _ _ hA hB hC hD hR hK.2.1 x hx1 hx hq, (he, ke, ki, fi, fa, or, mi, a, g, l, w, s), (kr (ksteps x (he, ke, ki, fi, fa, or, mi, a, g, l, w, s))), kk, im, le, ln, ys, vt, nu, nn, rf, vw, vq, yc, yh, yg, (er (ksteps x (he, ke, ki, fi, fa, or, mi, a, g, l, w, s))), xi, xw, vp, xn, xc, vs, rfl, hA, hB, hC, hD, ⟨kSh_r (kV_steps x hV), j1, j2, j3, j4⟩, ⟨er_len (kV_steps x hV), r2, r3, r4⟩, hK⟩
set_option maxRecDepth 100000 in
theorem oc_then_51 (he ke ki fi fa or : List Nat) (mi a g l w s : Nat) (im : Nat) (le : List Nat) (ln : Nat) (ys : List Int32) (vt : Int32) (nu : List Nat) (nn : Nat) (rf : List Nat) (vw vq : Int32) (yc yh yg : List Int32) (m kk : kG) (q : cR) (hA : iA (he, ke, ki, fi, fa, or, mi, a, g, l, w, s)) (hB : iB le ln) (hC : iC nu nn) (hD : iD rf) (hJ : iJ m ys yc yh yg) (k0 : kSh kk) (x : Nat) (hx1 : 0 ≤ x) (hx : x ≤ 60) (hq : 0 < mi) : mm_R 74 0 [some (.ref 100), some (.int (nI x)), some (.int 1), none] [] (mk_M (cT im le ln ys vt nu nn rf vw vq yc yh yg) (kr (he, ke, ki, fi, fa, or, mi, a, g, l, w, s)) m kk q) (some (.int (nI (kg (k_or (ksteps x (he, ke, ki, fi, fa, or, mi, a, g, l, w, s))) 0))), (mk_M (cT im le ln ys vt nu nn rf vw vq yc yh yg) (kr (he, ke, ki, fi, fa, or, mi, a, g, l, w, s)) (kr (ksteps x (he, ke, ki, fi, fa, or, mi, a, g, l, w, s))) kk q)) := by
  obtain ⟨hV, hst⟩ := id hA
  have hst2 : s ≤ 999 := hst
  obtain ⟨v1, v2, v3, v4, v5, v6, v7, v8, v9, v10, v11, v12, v13, v14, v15, v16⟩ := id hV
  have v6l := kO_len mi v7 or v6
  obtain ⟨b1, b2, b3⟩ := id hB
  obtain ⟨c1, c2, c3⟩ := id hC
  have d1 : rf.length = 7 := hD
  obtain ⟨j0, j1, j2, j3, j4⟩ := id hJ
  have emi : k_mi (ksteps x (he, ke, ki, fi, fa, or, mi, a, g, l, w, s)) = mi := kmi_steps x _
  refine mr_seg 1 (pc1 := 1) (ls1 := [some (.ref 100), some (.int (nI x)), some (.int 1), none]) (st1 := [.int (nI x)]) (M1 := (mk_M (cT im le ln ys vt nu nn rf vw vq yc yh yg) (kr (he, ke, ki, fi, fa, or, mi, a, g, l, w, s)) m kk q)) (fun f => rfl) ?_
  refine mr_t (C := 0 ≤ (nI x)) (nI_let (a := 0) (b := x) (by omega)) (fun f => rfl) ?_
  refine mr_seg 2 (pc1 := 14) (ls1 := [some (.ref 100), some (.int (nI x)), some (.int 1), none]) (st1 := [.int 60, .int (nI x)]) (M1 := (mk_M (cT im le ln ys vt nu nn rf vw vq yc yh yg) (kr (he, ke, ki, fi, fa, or, mi, a, g, l, w, s)) m kk q)) (fun f => rfl) ?_
  refine mr_t (C := (nI x) ≤ 60) (nI_let (a := x) (b := 60) (by omega)) (fun f => rfl) ?_
  refine mr_seg 6 (pc1 := 41) (ls1 := [some (.ref 100), some (.int (nI x)), some (.int 1), none]) (st1 := [.ref 100]) (M1 := (mk_M (cT im le ln ys vt nu nn rf vw vq yc yh yg) (kr (he, ke, ki, fi, fa, or, mi, a, g, l, w, s)) m kk q)) (fun f => rfl) ?_
  refine mr_call (y := 75) (y0 := 44) (L := [some (.ref 100)]) (rest := []) (rr := some (.ref 124)) (M1 := (mk_M (cT im le ln ys vt nu nn rf vw vq yc yh yg) (kr (he, ke, ki, fi, fa, or, mi, a, g, l, w, s)) (kr (he, ke, ki, fi, fa, or, mi, a, g, l, w, s)) kk q)) (fun f => rfl) (cc_now (he, ke, ki, fi, fa, or, mi, a, g, l, w, s) (cT im le ln ys vt nu nn rf vw vq yc yh yg) m kk q hV j0) ?_
  refine mr_seg 3 (pc1 := 47) (ls1 := [some (.ref 100), some (.int (nI x)), some (.int 1), some (.ref 124)]) (st1 := [.int (nI x), .ref 124]) (M1 := (mk_M (cT im le ln ys vt nu nn rf vw vq yc yh yg) (kr (he, ke, ki, fi, fa, or, mi, a, g, l, w, s)) (kr (he, ke, ki, fi, fa, or, mi, a, g, l, w, s)) kk q)) (fun f => rfl) ?_
  refine mr_call (y := 43) (y0 := 50) (L := [some (.ref 124), some (.int (nI x)), none]) (rest := []) (rr := none) (M1 := (mk_M (cT im le ln ys vt nu nn rf vw vq yc yh yg) (kr (he, ke, ki, fi, fa, or, mi, a, g, l, w, s)) (kr (ksteps x (he, ke, ki, fi, fa, or, mi, a, g, l, w, s))) kk q)) (fun f => rfl) (kl_m (cT im le ln ys vt nu nn rf vw vq yc yh yg) (kr (he, ke, ki, fi, fa, or, mi, a, g, l, w, s)) kk q (kc_by_m x (by omega) (he, ke, ki, fi, fa, or, mi, a, g, l, w, s) hV (show s < 2 ^ 20 by omega))) ?_
  refine mr_seg 6 (pc1 := 65) (ls1 := [some (.ref 100), some (.int (nI x)), some (.int 1), some (.ref 124)]) (st1 := [.ref 124]) (M1 := (mk_M (cT im le ln ys vt nu nn rf vw vq yc yh yg) (kr (he, ke, ki, fi, fa, or, mi, a, g, l, w, s)) (kr (ksteps x (he, ke, ki, fi, fa, or, mi, a, g, l, w, s))) kk q)) (fun f => rfl) ?_
  refine mr_call (y := 71) (y0 := 68) (L := [some (.ref 124)]) (rest := []) (rr := some (.int (nI (kg (k_or (ksteps x (he, ke, ki, fi, fa, or, mi, a, g, l, w, s))) 0)))) (M1 := (mk_M (cT im le ln ys vt nu nn rf vw vq yc yh yg) (kr (he, ke, ki, fi, fa, or, mi, a, g, l, w, s)) (kr (ksteps x (he, ke, ki, fi, fa, or, mi, a, g, l, w, s))) kk q)) (fun f => rfl) (mr_eq (kl_m (cT im le ln ys vt nu nn rf vw vq yc yh yg) (kr (he, ke, ki, fi, fa, or, mi, a, g, l, w, s)) kk q (kc_firx_m (ksteps x (he, ke, ki, fi, fa, or, mi, a, g, l, w, s)) (kV_steps x hV))) (by rw [kfir_1 (K := (ksteps x (he, ke, ki, fi, fa, or, mi, a, g, l, w, s))) (show ¬ k_mi (ksteps x (he, ke, ki, fi, fa, or, mi, a, g, l, w, s)) = 0 by rw [kmi_steps]; show ¬ mi = 0; omega)] <;> rfl)) ?_
  exact mr_ret 2 (fun f => rfl)
set_option maxRecDepth 100000 in
theorem om_then_51 (he ke ki fi fa or : List Nat) (mi a g l w s : Nat) (xm xi xw : List Int32) (im : Nat) (le nu rf : List Nat) (ln nn : Nat) (vp : Int32) (xn xc : List Int32) (vs : Int32) (c : cC) (n m kk : kG) (hA : iA (he, ke, ki, fi, fa, or, mi, a, g, l, w, s)) (hB : iB le ln) (hC : iC nu nn) (hD : iD rf) (hR : iR xm xw xn xc) (k1 : xi.length = 52) (x : Nat) (hx1 : 0 ≤ x) (hx : x ≤ 60) (hq : 0 < mi) : mm_R 168 0 [some (.ref 138), some (.int (nI x)), some (.int 1), none] [] (mk_M c n m kk (rT (he, ke, ki, fi, fa, or, mi, a, g, l, w, s) xm xi xw im le nu rf ln nn vp xn xc vs)) (some (.int (nI (kg (k_or (ksteps x (he, ke, ki, fi, fa, or, mi, a, g, l, w, s))) 0))), (mk_M c n m kk (rT (he, ke, ki, fi, fa, or, mi, a, g, l, w, s) (er (ksteps x (he, ke, ki, fi, fa, or, mi, a, g, l, w, s))) xi xw im le nu rf ln nn vp xn xc vs))) := by
  obtain ⟨hV, hst⟩ := id hA
  have hst2 : s ≤ 999 := hst
  obtain ⟨v1, v2, v3, v4, v5, v6, v7, v8, v9, v10, v11, v12, v13, v14, v15, v16⟩ := id hV
  have v6l := kO_len mi v7 or v6
  obtain ⟨b1, b2, b3⟩ := id hB
  obtain ⟨c1, c2, c3⟩ := id hC
  have d1 : rf.length = 7 := hD
  obtain ⟨r1, r2, r3, r4⟩ := id hR
  have emi : k_mi (ksteps x (he, ke, ki, fi, fa, or, mi, a, g, l, w, s)) = mi := kmi_steps x _
  refine mr_seg 3 (pc1 := 4) (ls1 := [some (.ref 138), some (.int (nI x)), some (.int 1), none]) (st1 := [.int 60, .int 0, .int (nI x)]) (M1 := (mk_M c n m kk (rT (he, ke, ki, fi, fa, or, mi, a, g, l, w, s) xm xi xw im le nu rf ln nn vp xn xc vs))) (fun f => rfl) ?_
  refine mr_call (y := 159) (y0 := 7) (L := [some (.int (nI x)), some (.int 0), some (.int 60)]) (rest := []) (rr := some (.int 0)) (M1 := (mk_M c n m kk (rT (he, ke, ki, fi, fa, or, mi, a, g, l, w, s) xm xi xw im le nu rf ln nn vp xn xc vs))) (fun f => rfl) (ms_wb_ok (x := (nI x)) (a := 0) (b := 60) (nI_let (a := 0) (b := x) (by omega)) (nI_let (a := x) (b := 60) (by omega))) ?_
  refine mr_seg 6 (pc1 := 15) (ls1 := [some (.ref 138), some (.int (nI x)), some (.int 1), some (.int 0)]) (st1 := [.int 2, .int 0, .int 1]) (M1 := (mk_M c n m kk (rT (he, ke, ki, fi, fa, or, mi, a, g, l, w, s) xm xi xw im le nu rf ln nn vp xn xc vs))) (fun f => rfl) ?_
  refine mr_call (y := 135) (y0 := 18) (L := [some (.int 1), some (.int 0), some (.int 2)]) (rest := []) (rr := some (.int 1)) (M1 := (mk_M c n m kk (rT (he, ke, ki, fi, fa, or, mi, a, g, l, w, s) xm xi xw im le nu rf ln nn vp xn xc vs))) (fun f => rfl) (by
      exact mr_ret 9 (fun f => rfl)) ?_
  refine mr_seg 5 (pc1 := 36) (ls1 := [some (.ref 138), some (.int (nI x)), some (.int 1), some (.int 0)]) (st1 := [.int (nI x), .ref 138]) (M1 := (mk_M c n m kk (rT (he, ke, ki, fi, fa, or, mi, a, g, l, w, s) xm xi xw im le nu rf ln nn vp xn xc vs))) (fun f => rfl) ?_
  refine mr_call (y := 169) (y0 := 39) (L := [some (.ref 138), some (.int (nI x))]) (rest := []) (rr := none) (M1 := (mk_M c n m kk (rT (he, ke, ki, fi, fa, or, mi, a, g, l, w, s) (er (ksteps x (he, ke, ki, fi, fa, or, mi, a, g, l, w, s))) xi xw im le nu rf ln nn vp xn xc vs))) (fun f => rfl) (by
      refine mr_seg 4 (pc1 := 8) (ls1 := [some (.ref 138), some (.int (nI x))]) (st1 := [.ref 140, .ref 139]) (M1 := (mk_M c n m kk (rT (he, ke, ki, fi, fa, or, mi, a, g, l, w, s) xm xi xw im le nu rf ln nn vp xn xc vs))) (fun f => rfl) ?_
      refine mr_call (y := 138) (y0 := 11) (L := [some (.ref 139), some (.ref 140), none]) (rest := []) (rr := none) (M1 := (mk_M c n m kk (rT (he, ke, ki, fi, fa, or, mi, a, g, l, w, s) (er (he, ke, ki, fi, fa, or, mi, a, g, l, w, s)) xi xw im le nu rf ln nn vp xn xc vs))) (fun f => rfl) (rc_copies (a := 140) (b := 139) (by decide) rfl rfl (er_len hV) r1) ?_
      refine mr_seg 3 (pc1 := 16) (ls1 := [some (.ref 138), some (.int (nI x))]) (st1 := [.int (nI x), .ref 140]) (M1 := (mk_M c n m kk (rT (he, ke, ki, fi, fa, or, mi, a, g, l, w, s) (er (he, ke, ki, fi, fa, or, mi, a, g, l, w, s)) xi xw im le nu rf ln nn vp xn xc vs))) (fun f => rfl) ?_
      refine mr_call (y := 145) (y0 := 19) (L := [some (.ref 140), some (.int (nI x)), none]) (rest := []) (rr := none) (M1 := (mk_M c n m kk (rT (he, ke, ki, fi, fa, or, mi, a, g, l, w, s) (er (ksteps x (he, ke, ki, fi, fa, or, mi, a, g, l, w, s))) xi xw im le nu rf ln nn vp xn xc vs))) (fun f => rfl) (rl_m c n m kk (rT (he, ke, ki, fi, fa, or, mi, a, g, l, w, s) (er (he, ke, ki, fi, fa, or, mi, a, g, l, w, s)) xi xw im le nu rf ln nn vp xn xc vs) (rc_by_m x (by omega) (he, ke, ki, fi, fa, or, mi, a, g, l, w, s) hV (show s < 2 ^ 20 by omega)) rfl) ?_
      exact mr_ret 1 (fun f => rfl)) ?_
  refine mr_seg 8 (pc1 := 72) (ls1 := [some (.ref 138), some (.int (nI x)), some (.int 1), some (.int 0)]) (st1 := [.int 0, .ref 140]) (M1 := (mk_M c n m kk (rT (he, ke, ki, fi, fa, or, mi, a, g, l, w, s) (er (ksteps x (he, ke, ki, fi, fa, or, mi, a, g, l, w, s))) xi xw im le nu rf ln nn vp xn xc vs))) (fun f => rfl) ?_
  refine mr_ldn (xs := (er (ksteps x (he, ke, ki, fi, fa, or, mi, a, g, l, w, s)))) rfl rfl (k := 0) (by decide) rfl ?_
  refine mr_f (C := (nI (k_mi (ksteps x (he, ke, ki, fi, fa, or, mi, a, g, l, w, s)))) = 0) (fun e_ => absurd ((nI_eqi (a := k_mi (ksteps x (he, ke, ki, fi, fa, or, mi, a, g, l, w, s))) (b := 0) (by omega)).mp e_) (by rw [kmi_steps]; show ¬ mi = 0; omega)) (fun f => rfl) ?_
  refine mr_seg 3 (pc1 := 87) (ls1 := [some (.ref 138), some (.int (nI x)), some (.int 1), some (.int 0)]) (st1 := [.int 47, .ref 140]) (M1 := (mk_M c n m kk (rT (he, ke, ki, fi, fa, or, mi, a, g, l, w, s) (er (ksteps x (he, ke, ki, fi, fa, or, mi, a, g, l, w, s))) xi xw im le nu rf ln nn vp xn xc vs))) (fun f => rfl) ?_
  refine mr_ldn (xs := (er (ksteps x (he, ke, ki, fi, fa, or, mi, a, g, l, w, s)))) rfl rfl (k := 47) (by decide) (er_or (K := ksteps x (he, ke, ki, fi, fa, or, mi, a, g, l, w, s)) (kV_he (kV_steps x hV)) (kV_orl (kV_steps x hV)) (j := 0) (by decide)) ?_
  exact mr_ret 1 (fun f => rfl)
theorem oe_then_51 (he ke ki fi fa or : List Nat) (mi a g l w s : Nat) (m : kG) (kk : kG) (im : Nat) (le : List Nat) (ln : Nat) (ys : List Int32) (vt : Int32) (nu : List Nat) (nn : Nat) (rf : List Nat) (vw : Int32) (vq : Int32) (yc : List Int32) (yh : List Int32) (yg : List Int32) (xm : List Int32) (xi : List Int32) (xw : List Int32) (vp : Int32) (xn : List Int32) (xc : List Int32) (vs : Int32) (hA : iA (he, ke, ki, fi, fa, or, mi, a, g, l, w, s)) (hB : iB le ln) (hC : iC nu nn) (hD : iD rf) (hJ : iJ m ys yc yh yg) (hR : iR xm xw xn xc) (hK : iK im kk xi) (x : Nat) (hx1 : 0 ≤ x) (hx : x ≤ 60) (hq : 0 < mi) : oI 74 168 [some (.ref 100), some (.int (nI x)), some (.int 1), none] [some (.ref 138), some (.int (nI x)), some (.int 1), none] (mk_M (cT im le ln ys vt nu nn rf vw vq yc yh yg) (kr (he, ke, ki, fi, fa, or, mi, a, g, l, w, s)) m kk (rT (he, ke, ki, fi, fa, or, mi, a, g, l, w, s) xm xi xw im le nu rf ln nn vp xn xc vs)) := by
  obtain ⟨hV, hst⟩ := id hA
  have hst2 : s ≤ 999 := hst
  obtain ⟨v1, v2, v3, v4, v5, v6, v7, v8, v9, v10, v11, v12, v13, v14, v15, v16⟩ := id hV
  have v6l := kO_len mi v7 or v6
  obtain ⟨b1, b2, b3⟩ := id hB
  obtain ⟨c1, c2, c3⟩ := id hC
  have d1 : rf.length = 7 := hD
  obtain ⟨j0, j1, j2, j3, j4⟩ := id hJ
  obtain ⟨r1, r2, r3, r4⟩ := id hR
  obtain ⟨k0, k1, k2, k3⟩ := id hK
  have emi : k_mi (ksteps x (he, ke, ki, fi, fa, or, mi, a, g, l, w, s)) = mi := kmi_steps x _
  exact ⟨(nI (kg (k_or (ksteps x (he, ke, ki, fi, fa, or, mi, a, g, l, w, s))) 0)), _, _, oc_then_51 he ke ki fi fa or mi a g l w s im le ln ys vt nu nn rf vw vq yc yh yg m kk _ hA hB hC hD hJ hK.1 x hx1 hx hq, om_then_51 he ke ki fi fa or mi a g l w s xm xi xw im le nu rf ln nn vp xn xc vs _ _ _ _ hA hB hC hD hR hK.2.1 x hx1 hx hq, (he, ke, ki, fi, fa, or, mi, a, g, l, w, s), (kr (ksteps x (he, ke, ki, fi, fa, or, mi, a, g, l, w, s))), kk, im, le, ln, ys, vt, nu, nn, rf, vw, vq, yc, yh, yg, (er (ksteps x (he, ke, ki, fi, fa, or, mi, a, g, l, w, s))), xi, xw, vp, xn, xc, vs, rfl, hA, hB, hC, hD, ⟨kSh_r (kV_steps x hV), j1, j2, j3, j4⟩, ⟨er_len (kV_steps x hV), r2, r3, r4⟩, hK⟩
set_option maxRecDepth 100000 in
theorem oc_image_0 (he ke ki fi fa or : List Nat) (mi a g l w s : Nat) (im : Nat) (le : List Nat) (ln : Nat) (ys : List Int32) (vt : Int32) (nu : List Nat) (nn : Nat) (rf : List Nat) (vw vq : Int32) (yc yh yg : List Int32) (m kk : kG) (q : cR) (hA : iA (he, ke, ki, fi, fa, or, mi, a, g, l, w, s)) (hB : iB le ln) (hC : iC nu nn) (hD : iD rf) (hJ : iJ m ys yc yh yg) (k0 : kSh kk) : mm_R 125 0 [some (.ref 100)] [] (mk_M (cT im le ln ys vt nu nn rf vw vq yc yh yg) (kr (he, ke, ki, fi, fa, or, mi, a, g, l, w, s)) m kk q) (some (.int (nI s)), (mk_M (cT 1 le ln ys vt nu nn rf vw vq yc yh yg) (kr (he, ke, ki, fi, fa, or, mi, a, g, l, w, s)) m (kr (he, ke, ki, fi, fa, or, mi, a, g, l, w, s)) q)) := by
  obtain ⟨hV, hst⟩ := id hA
  have hst2 : s ≤ 999 := hst
  obtain ⟨v1, v2, v3, v4, v5, v6, v7, v8, v9, v10, v11, v12, v13, v14, v15, v16⟩ := id hV
  have v6l := kO_len mi v7 or v6
  obtain ⟨b1, b2, b3⟩ := id hB
  obtain ⟨c1, c2, c3⟩ := id hC
  have d1 : rf.length = 7 := hD
  obtain ⟨j0, j1, j2, j3, j4⟩ := id hJ
  refine mr_seg 4 (pc1 := 8) (ls1 := [some (.ref 100)]) (st1 := [.ref 117, .ref 131]) (M1 := (mk_M (cT im le ln ys vt nu nn rf vw vq yc yh yg) (kr (he, ke, ki, fi, fa, or, mi, a, g, l, w, s)) m kk q)) (fun f => rfl) ?_
  refine mr_call (y := 76) (y0 := 11) (L := [some (.ref 131), some (.ref 117)]) (rest := []) (rr := none) (M1 := (mk_M (cT im le ln ys vt nu nn rf vw vq yc yh yg) (kr (he, ke, ki, fi, fa, or, mi, a, g, l, w, s)) m (kr (he, ke, ki, fi, fa, or, mi, a, g, l, w, s)) q)) (fun f => rfl) (cc_be_kn he ke ki fi fa or mi a g l w s (cT im le ln ys vt nu nn rf vw vq yc yh yg) m kk q hV k0) ?_
  exact mr_ret 7 (fun f => rfl)
set_option maxRecDepth 100000 in
theorem om_image_0 (he ke ki fi fa or : List Nat) (mi a g l w s : Nat) (xm xi xw : List Int32) (im : Nat) (le nu rf : List Nat) (ln nn : Nat) (vp : Int32) (xn xc : List Int32) (vs : Int32) (c : cC) (n m kk : kG) (hA : iA (he, ke, ki, fi, fa, or, mi, a, g, l, w, s)) (hB : iB le ln) (hC : iC nu nn) (hD : iD rf) (hR : iR xm xw xn xc) (k1 : xi.length = 52) : mm_R 209 0 [some (.ref 138)] [] (mk_M c n m kk (rT (he, ke, ki, fi, fa, or, mi, a, g, l, w, s) xm xi xw im le nu rf ln nn vp xn xc vs)) (some (.int (nI s)), (mk_M c n m kk (rT (he, ke, ki, fi, fa, or, mi, a, g, l, w, s) xm (er (he, ke, ki, fi, fa, or, mi, a, g, l, w, s)) xw 1 le nu rf ln nn vp xn xc vs))) := by
  obtain ⟨hV, hst⟩ := id hA
  have hst2 : s ≤ 999 := hst
  obtain ⟨v1, v2, v3, v4, v5, v6, v7, v8, v9, v10, v11, v12, v13, v14, v15, v16⟩ := id hV
  have v6l := kO_len mi v7 or v6
  obtain ⟨b1, b2, b3⟩ := id hB
  obtain ⟨c1, c2, c3⟩ := id hC
  have d1 : rf.length = 7 := hD
  obtain ⟨r1, r2, r3, r4⟩ := id hR
  refine mr_seg 4 (pc1 := 8) (ls1 := [some (.ref 138)]) (st1 := [.ref 141, .ref 139]) (M1 := (mk_M c n m kk (rT (he, ke, ki, fi, fa, or, mi, a, g, l, w, s) xm xi xw im le nu rf ln nn vp xn xc vs))) (fun f => rfl) ?_
  refine mr_call (y := 138) (y0 := 11) (L := [some (.ref 139), some (.ref 141), none]) (rest := []) (rr := none) (M1 := (mk_M c n m kk (rT (he, ke, ki, fi, fa, or, mi, a, g, l, w, s) xm (er (he, ke, ki, fi, fa, or, mi, a, g, l, w, s)) xw im le nu rf ln nn vp xn xc vs))) (fun f => rfl) (rc_copies (a := 141) (b := 139) (by decide) rfl rfl (er_len hV) k1) ?_
  refine mr_seg 6 (pc1 := 21) (ls1 := [some (.ref 138)]) (st1 := [.int 1, .ref 139]) (M1 := (mk_M c n m kk (rT (he, ke, ki, fi, fa, or, mi, a, g, l, w, s) xm (er (he, ke, ki, fi, fa, or, mi, a, g, l, w, s)) xw 1 le nu rf ln nn vp xn xc vs))) (fun f => rfl) ?_
  refine mr_ldn (xs := (er (he, ke, ki, fi, fa, or, mi, a, g, l, w, s))) rfl rfl (k := 1) (by decide) rfl ?_
  exact mr_ret 1 (fun f => rfl)
theorem oe_image_0 (he ke ki fi fa or : List Nat) (mi a g l w s : Nat) (m : kG) (kk : kG) (im : Nat) (le : List Nat) (ln : Nat) (ys : List Int32) (vt : Int32) (nu : List Nat) (nn : Nat) (rf : List Nat) (vw : Int32) (vq : Int32) (yc : List Int32) (yh : List Int32) (yg : List Int32) (xm : List Int32) (xi : List Int32) (xw : List Int32) (vp : Int32) (xn : List Int32) (xc : List Int32) (vs : Int32) (hA : iA (he, ke, ki, fi, fa, or, mi, a, g, l, w, s)) (hB : iB le ln) (hC : iC nu nn) (hD : iD rf) (hJ : iJ m ys yc yh yg) (hR : iR xm xw xn xc) (hK : iK im kk xi) : oI 125 209 [some (.ref 100)] [some (.ref 138)] (mk_M (cT im le ln ys vt nu nn rf vw vq yc yh yg) (kr (he, ke, ki, fi, fa, or, mi, a, g, l, w, s)) m kk (rT (he, ke, ki, fi, fa, or, mi, a, g, l, w, s) xm xi xw im le nu rf ln nn vp xn xc vs)) := by
  obtain ⟨hV, hst⟩ := id hA
  have hst2 : s ≤ 999 := hst
  obtain ⟨v1, v2, v3, v4, v5, v6, v7, v8, v9, v10, v11, v12, v13, v14, v15, v16⟩ := id hV
  have v6l := kO_len mi v7 or v6
  obtain ⟨b1, b2, b3⟩ := id hB
  obtain ⟨c1, c2, c3⟩ := id hC
  have d1 : rf.length = 7 := hD
  obtain ⟨j0, j1, j2, j3, j4⟩ := id hJ
  obtain ⟨r1, r2, r3, r4⟩ := id hR
  obtain ⟨k0, k1, k2, k3⟩ := id hK
  exact ⟨(nI s), _, _, oc_image_0 he ke ki fi fa or mi a g l w s im le ln ys vt nu nn rf vw vq yc yh yg m kk _ hA hB hC hD hJ hK.1, om_image_0 he ke ki fi fa or mi a g l w s xm xi xw im le nu rf ln nn vp xn xc vs _ _ _ _ hA hB hC hD hR hK.2.1, (he, ke, ki, fi, fa, or, mi, a, g, l, w, s), m, (kr (he, ke, ki, fi, fa, or, mi, a, g, l, w, s)), 1, le, ln, ys, vt, nu, nn, rf, vw, vq, yc, yh, yg, xm, (er (he, ke, ki, fi, fa, or, mi, a, g, l, w, s)), xw, vp, xn, xc, vs, rfl, hA, hB, hC, hD, hJ, hR, ⟨kSh_r hV, er_len hV, by omega, fun _ => ⟨_, hA, rfl, rfl⟩⟩⟩
set_option maxRecDepth 100000 in
theorem oc_steps_0 (he ke ki fi fa or : List Nat) (mi a g l w s : Nat) (im : Nat) (le : List Nat) (ln : Nat) (ys : List Int32) (vt : Int32) (nu : List Nat) (nn : Nat) (rf : List Nat) (vw vq : Int32) (yc yh yg : List Int32) (m kk : kG) (q : cR) (hA : iA (he, ke, ki, fi, fa, or, mi, a, g, l, w, s)) (hB : iB le ln) (hC : iC nu nn) (hD : iD rf) (hJ : iJ m ys yc yh yg) (k0 : kSh kk) (x : Int32) (hxu : x.toInt ≤ -1) : mm_R 70 0 [some (.ref 100), some (.int x)] [] (mk_M (cT im le ln ys vt nu nn rf vw vq yc yh yg) (kr (he, ke, ki, fi, fa, or, mi, a, g, l, w, s)) m kk q) (some (.int (-1)), (mk_M (cT im le ln ys vt nu nn (rf.set 1 (kg rf 1 + 1)) vw vq yc yh yg) (kr (he, ke, ki, fi, fa, or, mi, a, g, l, w, s)) m kk q)) := by
  have hst2 : s ≤ 999 := hA.2
  have v7 : mi ≤ 5 := hA.1.2.2.2.2.2.2.1
  have b3 : ln ≤ 96 := hB.2.2
  have c3 : nn ≤ 16 := hC.2.2
  refine mr_seg 2 (pc1 := 2) (ls1 := [some (.ref 100), some (.int x)]) (st1 := [.int x, .ref 100]) (M1 := (mk_M (cT im le ln ys vt nu nn rf vw vq yc yh yg) (kr (he, ke, ki, fi, fa, or, mi, a, g, l, w, s)) m kk q)) (fun f => rfl) ?_
  refine mr_call (y := 61) (y0 := 5) (L := [some (.ref 100), some (.int x)]) (rest := []) (rr := some (.int 0)) (M1 := (mk_M (cT im le ln ys vt nu nn rf vw vq yc yh yg) (kr (he, ke, ki, fi, fa, or, mi, a, g, l, w, s)) m kk q)) (fun f => rfl) (ms_m1_lo (x := x) (mz_lt_t 0 (by decide) (by omega))) ?_
  refine mr_seg 3 (pc1 := 10) (ls1 := [some (.ref 100), some (.int x)]) (st1 := [.int (-1), .ref 100]) (M1 := (mk_M (cT im le ln ys vt nu nn rf vw vq yc yh yg) (kr (he, ke, ki, fi, fa, or, mi, a, g, l, w, s)) m kk q)) (fun f => rfl) ?_
  refine mr_call (y := 12) (y0 := 13) (L := [some (.ref 100), some (.int (-1))]) (rest := []) (rr := some (.int (-1))) (M1 := (mk_M (cT im le ln ys vt nu nn (rf.set 1 (kg rf 1 + 1)) vw vq yc yh yg) (kr (he, ke, ki, fi, fa, or, mi, a, g, l, w, s)) m kk q)) (fun f => rfl) (ms_re1 hD) ?_
  exact mr_ret 1 (fun f => rfl)
set_option maxRecDepth 100000 in
theorem om_steps_0 (he ke ki fi fa or : List Nat) (mi a g l w s : Nat) (xm xi xw : List Int32) (im : Nat) (le nu rf : List Nat) (ln nn : Nat) (vp : Int32) (xn xc : List Int32) (vs : Int32) (c : cC) (n m kk : kG) (hA : iA (he, ke, ki, fi, fa, or, mi, a, g, l, w, s)) (hB : iB le ln) (hC : iC nu nn) (hD : iD rf) (hR : iR xm xw xn xc) (k1 : xi.length = 52) (x : Int32) (hxu : x.toInt ≤ -1) : mm_R 165 0 [some (.ref 138), some (.int x)] [] (mk_M c n m kk (rT (he, ke, ki, fi, fa, or, mi, a, g, l, w, s) xm xi xw im le nu rf ln nn vp xn xc vs)) (some (.int (-1)), (mk_M c n m kk (rT (he, ke, ki, fi, fa, or, mi, a, g, l, w, s) xm xi xw im le nu (rf.set 1 (kg rf 1 + 1)) ln nn vp xn xc vs))) := by
  have hst2 : s ≤ 999 := hA.2
  have v7 : mi ≤ 5 := hA.1.2.2.2.2.2.2.1
  have b3 : ln ≤ 96 := hB.2.2
  have c3 : nn ≤ 16 := hC.2.2
  refine mr_seg 2 (pc1 := 2) (ls1 := [some (.ref 138), some (.int x)]) (st1 := [.int x, .ref 138]) (M1 := (mk_M c n m kk (rT (he, ke, ki, fi, fa, or, mi, a, g, l, w, s) xm xi xw im le nu rf ln nn vp xn xc vs))) (fun f => rfl) ?_
  refine mr_call (y := 142) (y0 := 5) (L := [some (.ref 138), some (.int x)]) (rest := []) (rr := some (.int 0)) (M1 := (mk_M c n m kk (rT (he, ke, ki, fi, fa, or, mi, a, g, l, w, s) xm xi xw im le nu rf ln nn vp xn xc vs))) (fun f => rfl) (ms_m2_lo (x := x) (mz_lt_t 0 (by decide) (by omega))) ?_
  refine mr_seg 3 (pc1 := 10) (ls1 := [some (.ref 138), some (.int x)]) (st1 := [.int (-1), .ref 138]) (M1 := (mk_M c n m kk (rT (he, ke, ki, fi, fa, or, mi, a, g, l, w, s) xm xi xw im le nu rf ln nn vp xn xc vs))) (fun f => rfl) ?_
  refine mr_call (y := 130) (y0 := 13) (L := [some (.ref 138), some (.int (-1))]) (rest := []) (rr := some (.int (-1))) (M1 := (mk_M c n m kk (rT (he, ke, ki, fi, fa, or, mi, a, g, l, w, s) xm xi xw im le nu (rf.set 1 (kg rf 1 + 1)) ln nn vp xn xc vs))) (fun f => rfl) (ms_no1 hD) ?_
  exact mr_ret 1 (fun f => rfl)
theorem oe_steps_0 (he ke ki fi fa or : List Nat) (mi a g l w s : Nat) (m : kG) (kk : kG) (im : Nat) (le : List Nat) (ln : Nat) (ys : List Int32) (vt : Int32) (nu : List Nat) (nn : Nat) (rf : List Nat) (vw : Int32) (vq : Int32) (yc : List Int32) (yh : List Int32) (yg : List Int32) (xm : List Int32) (xi : List Int32) (xw : List Int32) (vp : Int32) (xn : List Int32) (xc : List Int32) (vs : Int32) (hA : iA (he, ke, ki, fi, fa, or, mi, a, g, l, w, s)) (hB : iB le ln) (hC : iC nu nn) (hD : iD rf) (hJ : iJ m ys yc yh yg) (hR : iR xm xw xn xc) (hK : iK im kk xi) (x : Int32) (hxu : x.toInt ≤ -1) : oI 70 165 [some (.ref 100), some (.int x)] [some (.ref 138), some (.int x)] (mk_M (cT im le ln ys vt nu nn rf vw vq yc yh yg) (kr (he, ke, ki, fi, fa, or, mi, a, g, l, w, s)) m kk (rT (he, ke, ki, fi, fa, or, mi, a, g, l, w, s) xm xi xw im le nu rf ln nn vp xn xc vs)) := by
  exact ⟨(-1), _, _, oc_steps_0 he ke ki fi fa or mi a g l w s im le ln ys vt nu nn rf vw vq yc yh yg m kk _ hA hB hC hD hJ hK.1 x hxu, om_steps_0 he ke ki fi fa or mi a g l w s xm xi xw im le nu rf ln nn vp xn xc vs _ _ _ _ hA hB hC hD hR hK.2.1 x hxu, (he, ke, ki, fi, fa, or, mi, a, g, l, w, s), m, kk, im, le, ln, ys, vt, nu, nn, (rf.set 1 (kg rf 1 + 1)), vw, vq, yc, yh, yg, xm, xi, xw, vp, xn, xc, vs, rfl, hA, hB, hC, iD_s hD, hJ, hR, hK⟩
set_option maxRecDepth 100000 in
theorem oc_steps_1 (he ke ki fi fa or : List Nat) (mi a g l w s : Nat) (im : Nat) (le : List Nat) (ln : Nat) (ys : List Int32) (vt : Int32) (nu : List Nat) (nn : Nat) (rf : List Nat) (vw vq : Int32) (yc yh yg : List Int32) (m kk : kG) (q : cR) (hA : iA (he, ke, ki, fi, fa, or, mi, a, g, l, w, s)) (hB : iB le ln) (hC : iC nu nn) (hD : iD rf) (hJ : iJ m ys yc yh yg) (k0 : kSh kk) (x : Int32) (hx : nI mi ≤ x) : mm_R 70 0 [some (.ref 100), some (.int x)] [] (mk_M (cT im le ln ys vt nu nn rf vw vq yc yh yg) (kr (he, ke, ki, fi, fa, or, mi, a, g, l, w, s)) m kk q) (some (.int (-1)), (mk_M (cT im le ln ys vt nu nn (rf.set 1 (kg rf 1 + 1)) vw vq yc yh yg) (kr (he, ke, ki, fi, fa, or, mi, a, g, l, w, s)) m kk q)) := by
  have hst2 : s ≤ 999 := hA.2
  have v7 : mi ≤ 5 := hA.1.2.2.2.2.2.2.1
  have b3 : ln ≤ 96 := hB.2.2
  have c3 : nn ≤ 16 := hC.2.2
  refine mr_seg 2 (pc1 := 2) (ls1 := [some (.ref 100), some (.int x)]) (st1 := [.int x, .ref 100]) (M1 := (mk_M (cT im le ln ys vt nu nn rf vw vq yc yh yg) (kr (he, ke, ki, fi, fa, or, mi, a, g, l, w, s)) m kk q)) (fun f => rfl) ?_
  refine mr_call (y := 61) (y0 := 5) (L := [some (.ref 100), some (.int x)]) (rest := []) (rr := some (.int 0)) (M1 := (mk_M (cT im le ln ys vt nu nn rf vw vq yc yh yg) (kr (he, ke, ki, fi, fa, or, mi, a, g, l, w, s)) m kk q)) (fun f => rfl) (ms_m1_hi (x := x) (k_nneg v7 hx) (hx)) ?_
  refine mr_seg 3 (pc1 := 10) (ls1 := [some (.ref 100), some (.int x)]) (st1 := [.int (-1), .ref 100]) (M1 := (mk_M (cT im le ln ys vt nu nn rf vw vq yc yh yg) (kr (he, ke, ki, fi, fa, or, mi, a, g, l, w, s)) m kk q)) (fun f => rfl) ?_
  refine mr_call (y := 12) (y0 := 13) (L := [some (.ref 100), some (.int (-1))]) (rest := []) (rr := some (.int (-1))) (M1 := (mk_M (cT im le ln ys vt nu nn (rf.set 1 (kg rf 1 + 1)) vw vq yc yh yg) (kr (he, ke, ki, fi, fa, or, mi, a, g, l, w, s)) m kk q)) (fun f => rfl) (ms_re1 hD) ?_
  exact mr_ret 1 (fun f => rfl)
set_option maxRecDepth 100000 in
theorem om_steps_1 (he ke ki fi fa or : List Nat) (mi a g l w s : Nat) (xm xi xw : List Int32) (im : Nat) (le nu rf : List Nat) (ln nn : Nat) (vp : Int32) (xn xc : List Int32) (vs : Int32) (c : cC) (n m kk : kG) (hA : iA (he, ke, ki, fi, fa, or, mi, a, g, l, w, s)) (hB : iB le ln) (hC : iC nu nn) (hD : iD rf) (hR : iR xm xw xn xc) (k1 : xi.length = 52) (x : Int32) (hx : nI mi ≤ x) : mm_R 165 0 [some (.ref 138), some (.int x)] [] (mk_M c n m kk (rT (he, ke, ki, fi, fa, or, mi, a, g, l, w, s) xm xi xw im le nu rf ln nn vp xn xc vs)) (some (.int (-1)), (mk_M c n m kk (rT (he, ke, ki, fi, fa, or, mi, a, g, l, w, s) xm xi xw im le nu (rf.set 1 (kg rf 1 + 1)) ln nn vp xn xc vs))) := by
  have hst2 : s ≤ 999 := hA.2
  have v7 : mi ≤ 5 := hA.1.2.2.2.2.2.2.1
  have b3 : ln ≤ 96 := hB.2.2
  have c3 : nn ≤ 16 := hC.2.2
  refine mr_seg 2 (pc1 := 2) (ls1 := [some (.ref 138), some (.int x)]) (st1 := [.int x, .ref 138]) (M1 := (mk_M c n m kk (rT (he, ke, ki, fi, fa, or, mi, a, g, l, w, s) xm xi xw im le nu rf ln nn vp xn xc vs))) (fun f => rfl) ?_
  refine mr_call (y := 142) (y0 := 5) (L := [some (.ref 138), some (.int x)]) (rest := []) (rr := some (.int 0)) (M1 := (mk_M c n m kk (rT (he, ke, ki, fi, fa, or, mi, a, g, l, w, s) xm xi xw im le nu rf ln nn vp xn xc vs))) (fun f => rfl) (ms_m2_hi (x := x) (b := (nI mi) - 1) rfl (k_nneg v7 hx) (k_gem v7 hx)) ?_
  refine mr_seg 3 (pc1 := 10) (ls1 := [some (.ref 138), some (.int x)]) (st1 := [.int (-1), .ref 138]) (M1 := (mk_M c n m kk (rT (he, ke, ki, fi, fa, or, mi, a, g, l, w, s) xm xi xw im le nu rf ln nn vp xn xc vs))) (fun f => rfl) ?_
  refine mr_call (y := 130) (y0 := 13) (L := [some (.ref 138), some (.int (-1))]) (rest := []) (rr := some (.int (-1))) (M1 := (mk_M c n m kk (rT (he, ke, ki, fi, fa, or, mi, a, g, l, w, s) xm xi xw im le nu (rf.set 1 (kg rf 1 + 1)) ln nn vp xn xc vs))) (fun f => rfl) (ms_no1 hD) ?_
  exact mr_ret 1 (fun f => rfl)
theorem oe_steps_1 (he ke ki fi fa or : List Nat) (mi a g l w s : Nat) (m : kG) (kk : kG) (im : Nat) (le : List Nat) (ln : Nat) (ys : List Int32) (vt : Int32) (nu : List Nat) (nn : Nat) (rf : List Nat) (vw : Int32) (vq : Int32) (yc : List Int32) (yh : List Int32) (yg : List Int32) (xm : List Int32) (xi : List Int32) (xw : List Int32) (vp : Int32) (xn : List Int32) (xc : List Int32) (vs : Int32) (hA : iA (he, ke, ki, fi, fa, or, mi, a, g, l, w, s)) (hB : iB le ln) (hC : iC nu nn) (hD : iD rf) (hJ : iJ m ys yc yh yg) (hR : iR xm xw xn xc) (hK : iK im kk xi) (x : Int32) (hx : nI mi ≤ x) : oI 70 165 [some (.ref 100), some (.int x)] [some (.ref 138), some (.int x)] (mk_M (cT im le ln ys vt nu nn rf vw vq yc yh yg) (kr (he, ke, ki, fi, fa, or, mi, a, g, l, w, s)) m kk (rT (he, ke, ki, fi, fa, or, mi, a, g, l, w, s) xm xi xw im le nu rf ln nn vp xn xc vs)) := by
  exact ⟨(-1), _, _, oc_steps_1 he ke ki fi fa or mi a g l w s im le ln ys vt nu nn rf vw vq yc yh yg m kk _ hA hB hC hD hJ hK.1 x hx, om_steps_1 he ke ki fi fa or mi a g l w s xm xi xw im le nu rf ln nn vp xn xc vs _ _ _ _ hA hB hC hD hR hK.2.1 x hx, (he, ke, ki, fi, fa, or, mi, a, g, l, w, s), m, kk, im, le, ln, ys, vt, nu, nn, (rf.set 1 (kg rf 1 + 1)), vw, vq, yc, yh, yg, xm, xi, xw, vp, xn, xc, vs, rfl, hA, hB, hC, iD_s hD, hJ, hR, hK⟩
set_option maxRecDepth 100000 in
theorem oc_steps_2 (he ke ki fi fa or : List Nat) (mi a g l w s : Nat) (im : Nat) (le : List Nat) (ln : Nat) (ys : List Int32) (vt : Int32) (nu : List Nat) (nn : Nat) (rf : List Nat) (vw vq : Int32) (yc yh yg : List Int32) (m kk : kG) (q : cR) (hA : iA (he, ke, ki, fi, fa, or, mi, a, g, l, w, s)) (hB : iB le ln) (hC : iC nu nn) (hD : iD rf) (hJ : iJ m ys yc yh yg) (k0 : kSh kk) (p : Nat) (hp : p < mi) : mm_R 70 0 [some (.ref 100), some (.int (nI p))] [] (mk_M (cT im le ln ys vt nu nn rf vw vq yc yh yg) (kr (he, ke, ki, fi, fa, or, mi, a, g, l, w, s)) m kk q) (some (.int (nI (kg (klast or mi p) 0))), (mk_M (cT im le ln ys vt nu nn rf vw vq yc yh yg) (kr (he, ke, ki, fi, fa, klast or mi p, mi, a, g, l, w, s)) m kk q)) := by
  obtain ⟨hV, hst⟩ := id hA
  have hst2 : s ≤ 999 := hst
  obtain ⟨v1, v2, v3, v4, v5, v6, v7, v8, v9, v10, v11, v12, v13, v14, v15, v16⟩ := id hV
  have v6l := kO_len mi v7 or v6
  obtain ⟨b1, b2, b3⟩ := id hB
  obtain ⟨c1, c2, c3⟩ := id hC
  have d1 : rf.length = 7 := hD
  obtain ⟨j0, j1, j2, j3, j4⟩ := id hJ
  have hl2 : (klast or mi p).length = 5 := kO_len mi v7 _ (kO_last mi v7 or v6 p hp)
  refine mr_seg 2 (pc1 := 2) (ls1 := [some (.ref 100), some (.int (nI p))]) (st1 := [.int (nI p), .ref 100]) (M1 := (mk_M (cT im le ln ys vt nu nn rf vw vq yc yh yg) (kr (he, ke, ki, fi, fa, or, mi, a, g, l, w, s)) m kk q)) (fun f => rfl) ?_
  refine mr_call (y := 61) (y0 := 5) (L := [some (.ref 100), some (.int (nI p))]) (rest := []) (rr := some (.int 1)) (M1 := (mk_M (cT im le ln ys vt nu nn rf vw vq yc yh yg) (kr (he, ke, ki, fi, fa, or, mi, a, g, l, w, s)) m kk q)) (fun f => rfl) (ms_m1_ok (x := (nI p)) (nI_ltf (a := p) (b := 0) (by omega)) (nI_lef (a := mi) (b := p) (by omega))) ?_
  refine mr_seg 4 (pc1 := 19) (ls1 := [some (.ref 100), some (.int (nI p))]) (st1 := [.int (nI p), .ref 117]) (M1 := (mk_M (cT im le ln ys vt nu nn rf vw vq yc yh yg) (kr (he, ke, ki, fi, fa, or, mi, a, g, l, w, s)) m kk q)) (fun f => rfl) ?_
  refine mr_call (y := 42) (y0 := 22) (L := [some (.ref 117), some (.int (nI p)), none, none]) (rest := []) (rr := none) (M1 := (mk_M (cT im le ln ys vt nu nn rf vw vq yc yh yg) (kr (he, ke, ki, fi, fa, klast or mi p, mi, a, g, l, w, s)) m kk q)) (fun f => rfl) (kl_n (cT im le ln ys vt nu nn rf vw vq yc yh yg) m kk q (kc_last_n he ke ki fi fa or mi a g l w s p (by assumption) v6 v7)) ?_
  refine mr_seg 2 (pc1 := 26) (ls1 := [some (.ref 100), some (.int (nI p))]) (st1 := [.ref 117]) (M1 := (mk_M (cT im le ln ys vt nu nn rf vw vq yc yh yg) (kr (he, ke, ki, fi, fa, klast or mi p, mi, a, g, l, w, s)) m kk q)) (fun f => rfl) ?_
  refine mr_call (y := 71) (y0 := 29) (L := [some (.ref 117)]) (rest := []) (rr := some (.int (nI (kg (klast or mi p) 0)))) (M1 := (mk_M (cT im le ln ys vt nu nn rf vw vq yc yh yg) (kr (he, ke, ki, fi, fa, klast or mi p, mi, a, g, l, w, s)) m kk q)) (fun f => rfl) (mr_eq (kl_n (cT im le ln ys vt nu nn rf vw vq yc yh yg) m kk q (kc_firx_n (he, ke, ki, fi, fa, klast or mi p, mi, a, g, l, w, s) ⟨v1, v2, v3, v4, v5, kO_last mi v7 or v6 p hp, v7, v8, v9, v10, v11, v12, v13, v14, v15, v16⟩)) (by rw [kfir_1 (K := (he, ke, ki, fi, fa, klast or mi p, mi, a, g, l, w, s)) (show ¬ mi = 0 by omega)] <;> rfl)) ?_
  exact mr_ret 1 (fun f => rfl)
set_option maxRecDepth 100000 in
theorem om_steps_2 (he ke ki fi fa or : List Nat) (mi a g l w s : Nat) (xm xi xw : List Int32) (im : Nat) (le nu rf : List Nat) (ln nn : Nat) (vp : Int32) (xn xc : List Int32) (vs : Int32) (c : cC) (n m kk : kG) (hA : iA (he, ke, ki, fi, fa, or, mi, a, g, l, w, s)) (hB : iB le ln) (hC : iC nu nn) (hD : iD rf) (hR : iR xm xw xn xc) (k1 : xi.length = 52) (p : Nat) (hp : p < mi) : mm_R 165 0 [some (.ref 138), some (.int (nI p))] [] (mk_M c n m kk (rT (he, ke, ki, fi, fa, or, mi, a, g, l, w, s) xm xi xw im le nu rf ln nn vp xn xc vs)) (some (.int (nI (kg (klast or mi p) 0))), (mk_M c n m kk (rT (he, ke, ki, fi, fa, klast or mi p, mi, a, g, l, w, s) xm xi xw im le nu rf ln nn vp xn xc vs))) := by
  obtain ⟨hV, hst⟩ := id hA
  have hst2 : s ≤ 999 := hst
  obtain ⟨v1, v2, v3, v4, v5, v6, v7, v8, v9, v10, v11, v12, v13, v14, v15, v16⟩ := id hV
  have v6l := kO_len mi v7 or v6
  obtain ⟨b1, b2, b3⟩ := id hB
  obtain ⟨c1, c2, c3⟩ := id hC
  have d1 : rf.length = 7 := hD
  obtain ⟨r1, r2, r3, r4⟩ := id hR
  have hl2 : (klast or mi p).length = 5 := kO_len mi v7 _ (kO_last mi v7 or v6 p hp)
  refine mr_seg 2 (pc1 := 2) (ls1 := [some (.ref 138), some (.int (nI p))]) (st1 := [.int (nI p), .ref 138]) (M1 := (mk_M c n m kk (rT (he, ke, ki, fi, fa, or, mi, a, g, l, w, s) xm xi xw im le nu rf ln nn vp xn xc vs))) (fun f => rfl) ?_
  refine mr_call (y := 142) (y0 := 5) (L := [some (.ref 138), some (.int (nI p))]) (rest := []) (rr := some (.int 1)) (M1 := (mk_M c n m kk (rT (he, ke, ki, fi, fa, or, mi, a, g, l, w, s) xm xi xw im le nu rf ln nn vp xn xc vs))) (fun f => rfl) (ms_m2_ok (x := (nI p)) (b := (nI (mi - 1))) (pk_sub (a := mi) (b := 1) (by omega)) (nI_ltf (a := p) (b := 0) (by omega)) (nI_ltf (a := mi - 1) (b := p) (by omega))) ?_
  refine mr_seg 4 (pc1 := 19) (ls1 := [some (.ref 138), some (.int (nI p))]) (st1 := [.int (nI p), .ref 139]) (M1 := (mk_M c n m kk (rT (he, ke, ki, fi, fa, or, mi, a, g, l, w, s) xm xi xw im le nu rf ln nn vp xn xc vs))) (fun f => rfl) ?_
  refine mr_call (y := 143) (y0 := 22) (L := [some (.ref 139), some (.int (nI p)), none]) (rest := []) (rr := none) (M1 := (mk_M c n m kk (rT (he, ke, ki, fi, fa, klast or mi p, mi, a, g, l, w, s) xm xi xw im le nu rf ln nn vp xn xc vs))) (fun f => rfl) (rl_s c n m kk (rT (he, ke, ki, fi, fa, or, mi, a, g, l, w, s) xm xi xw im le nu rf ln nn vp xn xc vs) (rc_last_s he ke ki fi fa or mi a g l w s p v1 (by assumption) v6 v7) rfl) ?_
  refine mr_seg 3 (pc1 := 28) (ls1 := [some (.ref 138), some (.int (nI p))]) (st1 := [.int 47, .ref 139]) (M1 := (mk_M c n m kk (rT (he, ke, ki, fi, fa, klast or mi p, mi, a, g, l, w, s) xm xi xw im le nu rf ln nn vp xn xc vs))) (fun f => rfl) ?_
  refine mr_ldn (xs := (er (he, ke, ki, fi, fa, klast or mi p, mi, a, g, l, w, s))) rfl rfl (k := 47) (by decide) (er_or (K := (he, ke, ki, fi, fa, klast or mi p, mi, a, g, l, w, s)) v1 hl2 (j := 0) (by decide)) ?_
  exact mr_ret 1 (fun f => rfl)
theorem oe_steps_2 (he ke ki fi fa or : List Nat) (mi a g l w s : Nat) (m : kG) (kk : kG) (im : Nat) (le : List Nat) (ln : Nat) (ys : List Int32) (vt : Int32) (nu : List Nat) (nn : Nat) (rf : List Nat) (vw : Int32) (vq : Int32) (yc : List Int32) (yh : List Int32) (yg : List Int32) (xm : List Int32) (xi : List Int32) (xw : List Int32) (vp : Int32) (xn : List Int32) (xc : List Int32) (vs : Int32) (hA : iA (he, ke, ki, fi, fa, or, mi, a, g, l, w, s)) (hB : iB le ln) (hC : iC nu nn) (hD : iD rf) (hJ : iJ m ys yc yh yg) (hR : iR xm xw xn xc) (hK : iK im kk xi) (p : Nat) (hp : p < mi) : oI 70 165 [some (.ref 100), some (.int (nI p))] [some (.ref 138), some (.int (nI p))] (mk_M (cT im le ln ys vt nu nn rf vw vq yc yh yg) (kr (he, ke, ki, fi, fa, or, mi, a, g, l, w, s)) m kk (rT (he, ke, ki, fi, fa, or, mi, a, g, l, w, s) xm xi xw im le nu rf ln nn vp xn xc vs)) := by
  obtain ⟨hV, hst⟩ := id hA
  have hst2 : s ≤ 999 := hst
  obtain ⟨v1, v2, v3, v4, v5, v6, v7, v8, v9, v10, v11, v12, v13, v14, v15, v16⟩ := id hV
  have v6l := kO_len mi v7 or v6
  obtain ⟨b1, b2, b3⟩ := id hB
  obtain ⟨c1, c2, c3⟩ := id hC
  have d1 : rf.length = 7 := hD
  obtain ⟨j0, j1, j2, j3, j4⟩ := id hJ
  obtain ⟨r1, r2, r3, r4⟩ := id hR
  obtain ⟨k0, k1, k2, k3⟩ := id hK
  have hl2 : (klast or mi p).length = 5 := kO_len mi v7 _ (kO_last mi v7 or v6 p hp)
  exact ⟨(nI (kg (klast or mi p) 0)), _, _, oc_steps_2 he ke ki fi fa or mi a g l w s im le ln ys vt nu nn rf vw vq yc yh yg m kk _ hA hB hC hD hJ hK.1 p hp, om_steps_2 he ke ki fi fa or mi a g l w s xm xi xw im le nu rf ln nn vp xn xc vs _ _ _ _ hA hB hC hD hR hK.2.1 p hp, (he, ke, ki, fi, fa, klast or mi p, mi, a, g, l, w, s), m, kk, im, le, ln, ys, vt, nu, nn, rf, vw, vq, yc, yh, yg, xm, xi, xw, vp, xn, xc, vs, rfl, ⟨⟨v1, v2, v3, v4, v5, kO_last mi v7 or v6 p hp, v7, v8, v9, v10, v11, v12, v13, v14, v15, v16⟩, hst⟩, hB, hC, hD, hJ, hR, hK⟩
set_option maxRecDepth 100000 in
theorem oc_turn_0 (he ke ki fi fa or : List Nat) (mi a g l w s : Nat) (im : Nat) (le : List Nat) (ln : Nat) (ys : List Int32) (vt : Int32) (nu : List Nat) (nn : Nat) (rf : List Nat) (vw vq : Int32) (yc yh yg : List Int32) (m kk : kG) (q : cR) (hA : iA (he, ke, ki, fi, fa, or, mi, a, g, l, w, s)) (hB : iB le ln) (hC : iC nu nn) (hD : iD rf) (hJ : iJ m ys yc yh yg) (k0 : kSh kk) (x : Int32) (hxu : x.toInt ≤ -1) (y : Int32) (z : Int32) : mm_R 72 0 [some (.ref 100), some (.int x), some (.int y), some (.int z), none] [] (mk_M (cT im le ln ys vt nu nn rf vw vq yc yh yg) (kr (he, ke, ki, fi, fa, or, mi, a, g, l, w, s)) m kk q) (some (.int (-1)), (mk_M (cT im le ln ys vt nu nn (rf.set 1 (kg rf 1 + 1)) vw vq yc yh yg) (kr (he, ke, ki, fi, fa, or, mi, a, g, l, w, s)) m kk q)) := by
  have hst2 : s ≤ 999 := hA.2
  have v7 : mi ≤ 5 := hA.1.2.2.2.2.2.2.1
  have b3 : ln ≤ 96 := hB.2.2
  have c3 : nn ≤ 16 := hC.2.2
  refine mr_seg 2 (pc1 := 2) (ls1 := [some (.ref 100), some (.int x), some (.int y), some (.int z), none]) (st1 := [.int x, .ref 100]) (M1 := (mk_M (cT im le ln ys vt nu nn rf vw vq yc yh yg) (kr (he, ke, ki, fi, fa, or, mi, a, g, l, w, s)) m kk q)) (fun f => rfl) ?_
  refine mr_call (y := 61) (y0 := 5) (L := [some (.ref 100), some (.int x)]) (rest := []) (rr := some (.int 0)) (M1 := (mk_M (cT im le ln ys vt nu nn rf vw vq yc yh yg) (kr (he, ke, ki, fi, fa, or, mi, a, g, l, w, s)) m kk q)) (fun f => rfl) (ms_m1_lo (x := x) (mz_lt_t 0 (by decide) (by omega))) ?_
  refine mr_seg 3 (pc1 := 10) (ls1 := [some (.ref 100), some (.int x), some (.int y), some (.int z), none]) (st1 := [.int (-1), .ref 100]) (M1 := (mk_M (cT im le ln ys vt nu nn rf vw vq yc yh yg) (kr (he, ke, ki, fi, fa, or, mi, a, g, l, w, s)) m kk q)) (fun f => rfl) ?_
  refine mr_call (y := 12) (y0 := 13) (L := [some (.ref 100), some (.int (-1))]) (rest := []) (rr := some (.int (-1))) (M1 := (mk_M (cT im le ln ys vt nu nn (rf.set 1 (kg rf 1 + 1)) vw vq yc yh yg) (kr (he, ke, ki, fi, fa, or, mi, a, g, l, w, s)) m kk q)) (fun f => rfl) (ms_re1 hD) ?_
  exact mr_ret 1 (fun f => rfl)
set_option maxRecDepth 100000 in
theorem om_turn_0 (he ke ki fi fa or : List Nat) (mi a g l w s : Nat) (xm xi xw : List Int32) (im : Nat) (le nu rf : List Nat) (ln nn : Nat) (vp : Int32) (xn xc : List Int32) (vs : Int32) (c : cC) (n m kk : kG) (hA : iA (he, ke, ki, fi, fa, or, mi, a, g, l, w, s)) (hB : iB le ln) (hC : iC nu nn) (hD : iD rf) (hR : iR xm xw xn xc) (k1 : xi.length = 52) (x : Int32) (hxu : x.toInt ≤ -1) (y : Int32) (z : Int32) : mm_R 166 0 [some (.ref 138), some (.int x), some (.int y), some (.int z), none, none] [] (mk_M c n m kk (rT (he, ke, ki, fi, fa, or, mi, a, g, l, w, s) xm xi xw im le nu rf ln nn vp xn xc vs)) (some (.int (-1)), (mk_M c n m kk (rT (he, ke, ki, fi, fa, or, mi, a, g, l, w, s) xm xi xw im le nu (rf.set 1 (kg rf 1 + 1)) ln nn vp xn xc vs))) := by
  have hst2 : s ≤ 999 := hA.2
  have v7 : mi ≤ 5 := hA.1.2.2.2.2.2.2.1
  have b3 : ln ≤ 96 := hB.2.2
  have c3 : nn ≤ 16 := hC.2.2
  refine mr_seg 2 (pc1 := 2) (ls1 := [some (.ref 138), some (.int x), some (.int y), some (.int z), none, none]) (st1 := [.int x, .ref 138]) (M1 := (mk_M c n m kk (rT (he, ke, ki, fi, fa, or, mi, a, g, l, w, s) xm xi xw im le nu rf ln nn vp xn xc vs))) (fun f => rfl) ?_
  refine mr_call (y := 142) (y0 := 5) (L := [some (.ref 138), some (.int x)]) (rest := []) (rr := some (.int 0)) (M1 := (mk_M c n m kk (rT (he, ke, ki, fi, fa, or, mi, a, g, l, w, s) xm xi xw im le nu rf ln nn vp xn xc vs))) (fun f => rfl) (ms_m2_lo (x := x) (mz_lt_t 0 (by decide) (by omega))) ?_
  refine mr_seg 8 (pc1 := 43) (ls1 := [some (.ref 138), some (.int x), some (.int y), some (.int z), some (.int (-1)), none]) (st1 := [.int (-1), .ref 138]) (M1 := (mk_M c n m kk (rT (he, ke, ki, fi, fa, or, mi, a, g, l, w, s) xm xi xw im le nu rf ln nn vp xn xc vs))) (fun f => rfl) ?_
  refine mr_call (y := 130) (y0 := 46) (L := [some (.ref 138), some (.int (-1))]) (rest := []) (rr := some (.int (-1))) (M1 := (mk_M c n m kk (rT (he, ke, ki, fi, fa, or, mi, a, g, l, w, s) xm xi xw im le nu (rf.set 1 (kg rf 1 + 1)) ln nn vp xn xc vs))) (fun f => rfl) (ms_no1 hD) ?_
  exact mr_ret 1 (fun f => rfl)
theorem oe_turn_0 (he ke ki fi fa or : List Nat) (mi a g l w s : Nat) (m : kG) (kk : kG) (im : Nat) (le : List Nat) (ln : Nat) (ys : List Int32) (vt : Int32) (nu : List Nat) (nn : Nat) (rf : List Nat) (vw : Int32) (vq : Int32) (yc : List Int32) (yh : List Int32) (yg : List Int32) (xm : List Int32) (xi : List Int32) (xw : List Int32) (vp : Int32) (xn : List Int32) (xc : List Int32) (vs : Int32) (hA : iA (he, ke, ki, fi, fa, or, mi, a, g, l, w, s)) (hB : iB le ln) (hC : iC nu nn) (hD : iD rf) (hJ : iJ m ys yc yh yg) (hR : iR xm xw xn xc) (hK : iK im kk xi) (x : Int32) (hxu : x.toInt ≤ -1) (y : Int32) (z : Int32) : oI 72 166 [some (.ref 100), some (.int x), some (.int y), some (.int z), none] [some (.ref 138), some (.int x), some (.int y), some (.int z), none, none] (mk_M (cT im le ln ys vt nu nn rf vw vq yc yh yg) (kr (he, ke, ki, fi, fa, or, mi, a, g, l, w, s)) m kk (rT (he, ke, ki, fi, fa, or, mi, a, g, l, w, s) xm xi xw im le nu rf ln nn vp xn xc vs)) := by
  exact ⟨(-1), _, _, oc_turn_0 he ke ki fi fa or mi a g l w s im le ln ys vt nu nn rf vw vq yc yh yg m kk _ hA hB hC hD hJ hK.1 x hxu y z, om_turn_0 he ke ki fi fa or mi a g l w s xm xi xw im le nu rf ln nn vp xn xc vs _ _ _ _ hA hB hC hD hR hK.2.1 x hxu y z, (he, ke, ki, fi, fa, or, mi, a, g, l, w, s), m, kk, im, le, ln, ys, vt, nu, nn, (rf.set 1 (kg rf 1 + 1)), vw, vq, yc, yh, yg, xm, xi, xw, vp, xn, xc, vs, rfl, hA, hB, hC, iD_s hD, hJ, hR, hK⟩
set_option maxRecDepth 100000 in
theorem oc_turn_1 (he ke ki fi fa or : List Nat) (mi a g l w s : Nat) (im : Nat) (le : List Nat) (ln : Nat) (ys : List Int32) (vt : Int32) (nu : List Nat) (nn : Nat) (rf : List Nat) (vw vq : Int32) (yc yh yg : List Int32) (m kk : kG) (q : cR) (hA : iA (he, ke, ki, fi, fa, or, mi, a, g, l, w, s)) (hB : iB le ln) (hC : iC nu nn) (hD : iD rf) (hJ : iJ m ys yc yh yg) (k0 : kSh kk) (x : Int32) (hx : nI mi ≤ x) (y : Int32) (z : Int32) : mm_R 72 0 [some (.ref 100), some (.int x), some (.int y), some (.int z), none] [] (mk_M (cT im le ln ys vt nu nn rf vw vq yc yh yg) (kr (he, ke, ki, fi, fa, or, mi, a, g, l, w, s)) m kk q) (some (.int (-1)), (mk_M (cT im le ln ys vt nu nn (rf.set 1 (kg rf 1 + 1)) vw vq yc yh yg) (kr (he, ke, ki, fi, fa, or, mi, a, g, l, w, s)) m kk q)) := by
  have hst2 : s ≤ 999 := hA.2
  have v7 : mi ≤ 5 := hA.1.2.2.2.2.2.2.1
  have b3 : ln ≤ 96 := hB.2.2
  have c3 : nn ≤ 16 := hC.2.2
  refine mr_seg 2 (pc1 := 2) (ls1 := [some (.ref 100), some (.int x), some (.int y), some (.int z), none]) (st1 := [.int x, .ref 100]) (M1 := (mk_M (cT im le ln ys vt nu nn rf vw vq yc yh yg) (kr (he, ke, ki, fi, fa, or, mi, a, g, l, w, s)) m kk q)) (fun f => rfl) ?_
  refine mr_call (y := 61) (y0 := 5) (L := [some (.ref 100), some (.int x)]) (rest := []) (rr := some (.int 0)) (M1 := (mk_M (cT im le ln ys vt nu nn rf vw vq yc yh yg) (kr (he, ke, ki, fi, fa, or, mi, a, g, l, w, s)) m kk q)) (fun f => rfl) (ms_m1_hi (x := x) (k_nneg v7 hx) (hx)) ?_
  refine mr_seg 3 (pc1 := 10) (ls1 := [some (.ref 100), some (.int x), some (.int y), some (.int z), none]) (st1 := [.int (-1), .ref 100]) (M1 := (mk_M (cT im le ln ys vt nu nn rf vw vq yc yh yg) (kr (he, ke, ki, fi, fa, or, mi, a, g, l, w, s)) m kk q)) (fun f => rfl) ?_
  refine mr_call (y := 12) (y0 := 13) (L := [some (.ref 100), some (.int (-1))]) (rest := []) (rr := some (.int (-1))) (M1 := (mk_M (cT im le ln ys vt nu nn (rf.set 1 (kg rf 1 + 1)) vw vq yc yh yg) (kr (he, ke, ki, fi, fa, or, mi, a, g, l, w, s)) m kk q)) (fun f => rfl) (ms_re1 hD) ?_
  exact mr_ret 1 (fun f => rfl)
set_option maxRecDepth 100000 in
theorem om_turn_1 (he ke ki fi fa or : List Nat) (mi a g l w s : Nat) (xm xi xw : List Int32) (im : Nat) (le nu rf : List Nat) (ln nn : Nat) (vp : Int32) (xn xc : List Int32) (vs : Int32) (c : cC) (n m kk : kG) (hA : iA (he, ke, ki, fi, fa, or, mi, a, g, l, w, s)) (hB : iB le ln) (hC : iC nu nn) (hD : iD rf) (hR : iR xm xw xn xc) (k1 : xi.length = 52) (x : Int32) (hx : nI mi ≤ x) (y : Int32) (z : Int32) : mm_R 166 0 [some (.ref 138), some (.int x), some (.int y), some (.int z), none, none] [] (mk_M c n m kk (rT (he, ke, ki, fi, fa, or, mi, a, g, l, w, s) xm xi xw im le nu rf ln nn vp xn xc vs)) (some (.int (-1)), (mk_M c n m kk (rT (he, ke, ki, fi, fa, or, mi, a, g, l, w, s) xm xi xw im le nu (rf.set 1 (kg rf 1 + 1)) ln nn vp xn xc vs))) := by
  have hst2 : s ≤ 999 := hA.2
  have v7 : mi ≤ 5 := hA.1.2.2.2.2.2.2.1
  have b3 : ln ≤ 96 := hB.2.2
  have c3 : nn ≤ 16 := hC.2.2
  refine mr_seg 2 (pc1 := 2) (ls1 := [some (.ref 138), some (.int x), some (.int y), some (.int z), none, none]) (st1 := [.int x, .ref 138]) (M1 := (mk_M c n m kk (rT (he, ke, ki, fi, fa, or, mi, a, g, l, w, s) xm xi xw im le nu rf ln nn vp xn xc vs))) (fun f => rfl) ?_
  refine mr_call (y := 142) (y0 := 5) (L := [some (.ref 138), some (.int x)]) (rest := []) (rr := some (.int 0)) (M1 := (mk_M c n m kk (rT (he, ke, ki, fi, fa, or, mi, a, g, l, w, s) xm xi xw im le nu rf ln nn vp xn xc vs))) (fun f => rfl) (ms_m2_hi (x := x) (b := (nI mi) - 1) rfl (k_nneg v7 hx) (k_gem v7 hx)) ?_
  refine mr_seg 8 (pc1 := 43) (ls1 := [some (.ref 138), some (.int x), some (.int y), some (.int z), some (.int (-1)), none]) (st1 := [.int (-1), .ref 138]) (M1 := (mk_M c n m kk (rT (he, ke, ki, fi, fa, or, mi, a, g, l, w, s) xm xi xw im le nu rf ln nn vp xn xc vs))) (fun f => rfl) ?_
  refine mr_call (y := 130) (y0 := 46) (L := [some (.ref 138), some (.int (-1))]) (rest := []) (rr := some (.int (-1))) (M1 := (mk_M c n m kk (rT (he, ke, ki, fi, fa, or, mi, a, g, l, w, s) xm xi xw im le nu (rf.set 1 (kg rf 1 + 1)) ln nn vp xn xc vs))) (fun f => rfl) (ms_no1 hD) ?_
  exact mr_ret 1 (fun f => rfl)
theorem oe_turn_1 (he ke ki fi fa or : List Nat) (mi a g l w s : Nat) (m : kG) (kk : kG) (im : Nat) (le : List Nat) (ln : Nat) (ys : List Int32) (vt : Int32) (nu : List Nat) (nn : Nat) (rf : List Nat) (vw : Int32) (vq : Int32) (yc : List Int32) (yh : List Int32) (yg : List Int32) (xm : List Int32) (xi : List Int32) (xw : List Int32) (vp : Int32) (xn : List Int32) (xc : List Int32) (vs : Int32) (hA : iA (he, ke, ki, fi, fa, or, mi, a, g, l, w, s)) (hB : iB le ln) (hC : iC nu nn) (hD : iD rf) (hJ : iJ m ys yc yh yg) (hR : iR xm xw xn xc) (hK : iK im kk xi) (x : Int32) (hx : nI mi ≤ x) (y : Int32) (z : Int32) : oI 72 166 [some (.ref 100), some (.int x), some (.int y), some (.int z), none] [some (.ref 138), some (.int x), some (.int y), some (.int z), none, none] (mk_M (cT im le ln ys vt nu nn rf vw vq yc yh yg) (kr (he, ke, ki, fi, fa, or, mi, a, g, l, w, s)) m kk (rT (he, ke, ki, fi, fa, or, mi, a, g, l, w, s) xm xi xw im le nu rf ln nn vp xn xc vs)) := by
  exact ⟨(-1), _, _, oc_turn_1 he ke ki fi fa or mi a g l w s im le ln ys vt nu nn rf vw vq yc yh yg m kk _ hA hB hC hD hJ hK.1 x hx y z, om_turn_1 he ke ki fi fa or mi a g l w s xm xi xw im le nu rf ln nn vp xn xc vs _ _ _ _ hA hB hC hD hR hK.2.1 x hx y z, (he, ke, ki, fi, fa, or, mi, a, g, l, w, s), m, kk, im, le, ln, ys, vt, nu, nn, (rf.set 1 (kg rf 1 + 1)), vw, vq, yc, yh, yg, xm, xi, xw, vp, xn, xc, vs, rfl, hA, hB, hC, iD_s hD, hJ, hR, hK⟩
set_option maxRecDepth 100000 in
theorem oc_turn_2 (he ke ki fi fa or : List Nat) (mi a g l w s : Nat) (im : Nat) (le : List Nat) (ln : Nat) (ys : List Int32) (vt : Int32) (nu : List Nat) (nn : Nat) (rf : List Nat) (vw vq : Int32) (yc yh yg : List Int32) (m kk : kG) (q : cR) (hA : iA (he, ke, ki, fi, fa, or, mi, a, g, l, w, s)) (hB : iB le ln) (hC : iC nu nn) (hD : iD rf) (hJ : iJ m ys yc yh yg) (k0 : kSh kk) (p : Nat) (hp : p < mi) (y : Int32) (hyu : y.toInt ≤ -1) (z : Int32) : mm_R 72 0 [some (.ref 100), some (.int (nI p)), some (.int y), some (.int z), none] [] (mk_M (cT im le ln ys vt nu nn rf vw vq yc yh yg) (kr (he, ke, ki, fi, fa, or, mi, a, g, l, w, s)) m kk q) (some (.int (-2)), (mk_M (cT im le ln ys vt nu nn (rf.set 2 (kg rf 2 + 1)) vw vq yc yh yg) (kr (he, ke, ki, fi, fa, or, mi, a, g, l, w, s)) m kk q)) := by
  have hst2 : s ≤ 999 := hA.2
  have v7 : mi ≤ 5 := hA.1.2.2.2.2.2.2.1
  have b3 : ln ≤ 96 := hB.2.2
  have c3 : nn ≤ 16 := hC.2.2
  refine mr_seg 2 (pc1 := 2) (ls1 := [some (.ref 100), some (.int (nI p)), some (.int y), some (.int z), none]) (st1 := [.int (nI p), .ref 100]) (M1 := (mk_M (cT im le ln ys vt nu nn rf vw vq yc yh yg) (kr (he, ke, ki, fi, fa, or, mi, a, g, l, w, s)) m kk q)) (fun f => rfl) ?_
  refine mr_call (y := 61) (y0 := 5) (L := [some (.ref 100), some (.int (nI p))]) (rest := []) (rr := some (.int 1)) (M1 := (mk_M (cT im le ln ys vt nu nn rf vw vq yc yh yg) (kr (he, ke, ki, fi, fa, or, mi, a, g, l, w, s)) m kk q)) (fun f => rfl) (ms_m1_ok (x := (nI p)) (nI_ltf (a := p) (b := 0) (by omega)) (nI_lef (a := mi) (b := p) (by omega))) ?_
  refine mr_seg 2 (pc1 := 15) (ls1 := [some (.ref 100), some (.int (nI p)), some (.int y), some (.int z), none]) (st1 := [.int y]) (M1 := (mk_M (cT im le ln ys vt nu nn rf vw vq yc yh yg) (kr (he, ke, ki, fi, fa, or, mi, a, g, l, w, s)) m kk q)) (fun f => rfl) ?_
  refine mr_t (C := y < 0) (mz_lt_t 0 (by decide) (by omega)) (fun f => rfl) ?_
  refine mr_seg 2 (pc1 := 27) (ls1 := [some (.ref 100), some (.int (nI p)), some (.int y), some (.int z), none]) (st1 := [.int (-2), .ref 100]) (M1 := (mk_M (cT im le ln ys vt nu nn rf vw vq yc yh yg) (kr (he, ke, ki, fi, fa, or, mi, a, g, l, w, s)) m kk q)) (fun f => rfl) ?_
  refine mr_call (y := 12) (y0 := 30) (L := [some (.ref 100), some (.int (-2))]) (rest := []) (rr := some (.int (-2))) (M1 := (mk_M (cT im le ln ys vt nu nn (rf.set 2 (kg rf 2 + 1)) vw vq yc yh yg) (kr (he, ke, ki, fi, fa, or, mi, a, g, l, w, s)) m kk q)) (fun f => rfl) (ms_re2 hD) ?_
  exact mr_ret 1 (fun f => rfl)
set_option maxRecDepth 100000 in
theorem om_turn_2 (he ke ki fi fa or : List Nat) (mi a g l w s : Nat) (xm xi xw : List Int32) (im : Nat) (le nu rf : List Nat) (ln nn : Nat) (vp : Int32) (xn xc : List Int32) (vs : Int32) (c : cC) (n m kk : kG) (hA : iA (he, ke, ki, fi, fa, or, mi, a, g, l, w, s)) (hB : iB le ln) (hC : iC nu nn) (hD : iD rf) (hR : iR xm xw xn xc) (k1 : xi.length = 52) (p : Nat) (hp : p < mi) (y : Int32) (hyu : y.toInt ≤ -1) (z : Int32) : mm_R 166 0 [some (.ref 138), some (.int (nI p)), some (.int y), some (.int z), none, none] [] (mk_M c n m kk (rT (he, ke, ki, fi, fa, or, mi, a, g, l, w, s) xm xi xw im le nu rf ln nn vp xn xc vs)) (some (.int (-2)), (mk_M c n m kk (rT (he, ke, ki, fi, fa, or, mi, a, g, l, w, s) xm xi xw im le nu (rf.set 2 (kg rf 2 + 1)) ln nn vp xn xc vs))) := by
  have hst2 : s ≤ 999 := hA.2
  have v7 : mi ≤ 5 := hA.1.2.2.2.2.2.2.1
  have b3 : ln ≤ 96 := hB.2.2
  have c3 : nn ≤ 16 := hC.2.2
  refine mr_seg 2 (pc1 := 2) (ls1 := [some (.ref 138), some (.int (nI p)), some (.int y), some (.int z), none, none]) (st1 := [.int (nI p), .ref 138]) (M1 := (mk_M c n m kk (rT (he, ke, ki, fi, fa, or, mi, a, g, l, w, s) xm xi xw im le nu rf ln nn vp xn xc vs))) (fun f => rfl) ?_
  refine mr_call (y := 142) (y0 := 5) (L := [some (.ref 138), some (.int (nI p))]) (rest := []) (rr := some (.int 1)) (M1 := (mk_M c n m kk (rT (he, ke, ki, fi, fa, or, mi, a, g, l, w, s) xm xi xw im le nu rf ln nn vp xn xc vs))) (fun f => rfl) (ms_m2_ok (x := (nI p)) (b := (nI (mi - 1))) (pk_sub (a := mi) (b := 1) (by omega)) (nI_ltf (a := p) (b := 0) (by omega)) (nI_ltf (a := mi - 1) (b := p) (by omega))) ?_
  refine mr_seg 4 (pc1 := 15) (ls1 := [some (.ref 138), some (.int (nI p)), some (.int y), some (.int z), none, none]) (st1 := [.int 5, .int 0, .int y]) (M1 := (mk_M c n m kk (rT (he, ke, ki, fi, fa, or, mi, a, g, l, w, s) xm xi xw im le nu rf ln nn vp xn xc vs))) (fun f => rfl) ?_
  refine mr_call (y := 135) (y0 := 18) (L := [some (.int y), some (.int 0), some (.int 5)]) (rest := []) (rr := some (.int 0)) (M1 := (mk_M c n m kk (rT (he, ke, ki, fi, fa, or, mi, a, g, l, w, s) xm xi xw im le nu rf ln nn vp xn xc vs))) (fun f => rfl) (ms_in_lo (x := y) (a := 0) (b := 5) (mz_lt_t 0 (by decide) (by omega))) ?_
  refine mr_seg 8 (pc1 := 43) (ls1 := [some (.ref 138), some (.int (nI p)), some (.int y), some (.int z), some (.int (-2)), none]) (st1 := [.int (-2), .ref 138]) (M1 := (mk_M c n m kk (rT (he, ke, ki, fi, fa, or, mi, a, g, l, w, s) xm xi xw im le nu rf ln nn vp xn xc vs))) (fun f => rfl) ?_
  refine mr_call (y := 130) (y0 := 46) (L := [some (.ref 138), some (.int (-2))]) (rest := []) (rr := some (.int (-2))) (M1 := (mk_M c n m kk (rT (he, ke, ki, fi, fa, or, mi, a, g, l, w, s) xm xi xw im le nu (rf.set 2 (kg rf 2 + 1)) ln nn vp xn xc vs))) (fun f => rfl) (ms_no2 hD) ?_
  exact mr_ret 1 (fun f => rfl)
theorem oe_turn_2 (he ke ki fi fa or : List Nat) (mi a g l w s : Nat) (m : kG) (kk : kG) (im : Nat) (le : List Nat) (ln : Nat) (ys : List Int32) (vt : Int32) (nu : List Nat) (nn : Nat) (rf : List Nat) (vw : Int32) (vq : Int32) (yc : List Int32) (yh : List Int32) (yg : List Int32) (xm : List Int32) (xi : List Int32) (xw : List Int32) (vp : Int32) (xn : List Int32) (xc : List Int32) (vs : Int32) (hA : iA (he, ke, ki, fi, fa, or, mi, a, g, l, w, s)) (hB : iB le ln) (hC : iC nu nn) (hD : iD rf) (hJ : iJ m ys yc yh yg) (hR : iR xm xw xn xc) (hK : iK im kk xi) (p : Nat) (hp : p < mi) (y : Int32) (hyu : y.toInt ≤ -1) (z : Int32) : oI 72 166 [some (.ref 100), some (.int (nI p)), some (.int y), some (.int z), none] [some (.ref 138), some (.int (nI p)), some (.int y), some (.int z), none, none] (mk_M (cT im le ln ys vt nu nn rf vw vq yc yh yg) (kr (he, ke, ki, fi, fa, or, mi, a, g, l, w, s)) m kk (rT (he, ke, ki, fi, fa, or, mi, a, g, l, w, s) xm xi xw im le nu rf ln nn vp xn xc vs)) := by
  exact ⟨(-2), _, _, oc_turn_2 he ke ki fi fa or mi a g l w s im le ln ys vt nu nn rf vw vq yc yh yg m kk _ hA hB hC hD hJ hK.1 p hp y hyu z, om_turn_2 he ke ki fi fa or mi a g l w s xm xi xw im le nu rf ln nn vp xn xc vs _ _ _ _ hA hB hC hD hR hK.2.1 p hp y hyu z, (he, ke, ki, fi, fa, or, mi, a, g, l, w, s), m, kk, im, le, ln, ys, vt, nu, nn, (rf.set 2 (kg rf 2 + 1)), vw, vq, yc, yh, yg, xm, xi, xw, vp, xn, xc, vs, rfl, hA, hB, hC, iD_s hD, hJ, hR, hK⟩
set_option maxRecDepth 100000 in
theorem oc_turn_3 (he ke ki fi fa or : List Nat) (mi a g l w s : Nat) (im : Nat) (le : List Nat) (ln : Nat) (ys : List Int32) (vt : Int32) (nu : List Nat) (nn : Nat) (rf : List Nat) (vw vq : Int32) (yc yh yg : List Int32) (m kk : kG) (q : cR) (hA : iA (he, ke, ki, fi, fa, or, mi, a, g, l, w, s)) (hB : iB le ln) (hC : iC nu nn) (hD : iD rf) (hJ : iJ m ys yc yh yg) (k0 : kSh kk) (p : Nat) (hp : p < mi) (y : Int32) (hyl : 6 ≤ y.toInt) (z : Int32) : mm_R 72 0 [some (.ref 100), some (.int (nI p)), some (.int y), some (.int z), none] [] (mk_M (cT im le ln ys vt nu nn rf vw vq yc yh yg) (kr (he, ke, ki, fi, fa, or, mi, a, g, l, w, s)) m kk q) (some (.int (-2)), (mk_M (cT im le ln ys vt nu nn (rf.set 2 (kg rf 2 + 1)) vw vq yc yh yg) (kr (he, ke, ki, fi, fa, or, mi, a, g, l, w, s)) m kk q)) := by
  have hst2 : s ≤ 999 := hA.2
  have v7 : mi ≤ 5 := hA.1.2.2.2.2.2.2.1
  have b3 : ln ≤ 96 := hB.2.2
  have c3 : nn ≤ 16 := hC.2.2
  refine mr_seg 2 (pc1 := 2) (ls1 := [some (.ref 100), some (.int (nI p)), some (.int y), some (.int z), none]) (st1 := [.int (nI p), .ref 100]) (M1 := (mk_M (cT im le ln ys vt nu nn rf vw vq yc yh yg) (kr (he, ke, ki, fi, fa, or, mi, a, g, l, w, s)) m kk q)) (fun f => rfl) ?_
  refine mr_call (y := 61) (y0 := 5) (L := [some (.ref 100), some (.int (nI p))]) (rest := []) (rr := some (.int 1)) (M1 := (mk_M (cT im le ln ys vt nu nn rf vw vq yc yh yg) (kr (he, ke, ki, fi, fa, or, mi, a, g, l, w, s)) m kk q)) (fun f => rfl) (ms_m1_ok (x := (nI p)) (nI_ltf (a := p) (b := 0) (by omega)) (nI_lef (a := mi) (b := p) (by omega))) ?_
  refine mr_seg 2 (pc1 := 15) (ls1 := [some (.ref 100), some (.int (nI p)), some (.int y), some (.int z), none]) (st1 := [.int y]) (M1 := (mk_M (cT im le ln ys vt nu nn rf vw vq yc yh yg) (kr (he, ke, ki, fi, fa, or, mi, a, g, l, w, s)) m kk q)) (fun f => rfl) ?_
  refine mr_f (C := y < 0) (mz_lt_f 0 (by decide) (by omega)) (fun f => rfl) ?_
  refine mr_seg 2 (pc1 := 21) (ls1 := [some (.ref 100), some (.int (nI p)), some (.int y), some (.int z), none]) (st1 := [.int 6, .int y]) (M1 := (mk_M (cT im le ln ys vt nu nn rf vw vq yc yh yg) (kr (he, ke, ki, fi, fa, or, mi, a, g, l, w, s)) m kk q)) (fun f => rfl) ?_
  refine mr_f (C := y < 6) (mz_lt_f 6 (by decide) (by omega)) (fun f => rfl) ?_
  refine mr_seg 2 (pc1 := 27) (ls1 := [some (.ref 100), some (.int (nI p)), some (.int y), some (.int z), none]) (st1 := [.int (-2), .ref 100]) (M1 := (mk_M (cT im le ln ys vt nu nn rf vw vq yc yh yg) (kr (he, ke, ki, fi, fa, or, mi, a, g, l, w, s)) m kk q)) (fun f => rfl) ?_
  refine mr_call (y := 12) (y0 := 30) (L := [some (.ref 100), some (.int (-2))]) (rest := []) (rr := some (.int (-2))) (M1 := (mk_M (cT im le ln ys vt nu nn (rf.set 2 (kg rf 2 + 1)) vw vq yc yh yg) (kr (he, ke, ki, fi, fa, or, mi, a, g, l, w, s)) m kk q)) (fun f => rfl) (ms_re2 hD) ?_
  exact mr_ret 1 (fun f => rfl)
set_option maxRecDepth 100000 in
theorem om_turn_3 (he ke ki fi fa or : List Nat) (mi a g l w s : Nat) (xm xi xw : List Int32) (im : Nat) (le nu rf : List Nat) (ln nn : Nat) (vp : Int32) (xn xc : List Int32) (vs : Int32) (c : cC) (n m kk : kG) (hA : iA (he, ke, ki, fi, fa, or, mi, a, g, l, w, s)) (hB : iB le ln) (hC : iC nu nn) (hD : iD rf) (hR : iR xm xw xn xc) (k1 : xi.length = 52) (p : Nat) (hp : p < mi) (y : Int32) (hyl : 6 ≤ y.toInt) (z : Int32) : mm_R 166 0 [some (.ref 138), some (.int (nI p)), some (.int y), some (.int z), none, none] [] (mk_M c n m kk (rT (he, ke, ki, fi, fa, or, mi, a, g, l, w, s) xm xi xw im le nu rf ln nn vp xn xc vs)) (some (.int (-2)), (mk_M c n m kk (rT (he, ke, ki, fi, fa, or, mi, a, g, l, w, s) xm xi xw im le nu (rf.set 2 (kg rf 2 + 1)) ln nn vp xn xc vs))) := by
  have hst2 : s ≤ 999 := hA.2
  have v7 : mi ≤ 5 := hA.1.2.2.2.2.2.2.1
  have b3 : ln ≤ 96 := hB.2.2
  have c3 : nn ≤ 16 := hC.2.2
  refine mr_seg 2 (pc1 := 2) (ls1 := [some (.ref 138), some (.int (nI p)), some (.int y), some (.int z), none, none]) (st1 := [.int (nI p), .ref 138]) (M1 := (mk_M c n m kk (rT (he, ke, ki, fi, fa, or, mi, a, g, l, w, s) xm xi xw im le nu rf ln nn vp xn xc vs))) (fun f => rfl) ?_
  refine mr_call (y := 142) (y0 := 5) (L := [some (.ref 138), some (.int (nI p))]) (rest := []) (rr := some (.int 1)) (M1 := (mk_M c n m kk (rT (he, ke, ki, fi, fa, or, mi, a, g, l, w, s) xm xi xw im le nu rf ln nn vp xn xc vs))) (fun f => rfl) (ms_m2_ok (x := (nI p)) (b := (nI (mi - 1))) (pk_sub (a := mi) (b := 1) (by omega)) (nI_ltf (a := p) (b := 0) (by omega)) (nI_ltf (a := mi - 1) (b := p) (by omega))) ?_
  refine mr_seg 4 (pc1 := 15) (ls1 := [some (.ref 138), some (.int (nI p)), some (.int y), some (.int z), none, none]) (st1 := [.int 5, .int 0, .int y]) (M1 := (mk_M c n m kk (rT (he, ke, ki, fi, fa, or, mi, a, g, l, w, s) xm xi xw im le nu rf ln nn vp xn xc vs))) (fun f => rfl) ?_
  refine mr_call (y := 135) (y0 := 18) (L := [some (.int y), some (.int 0), some (.int 5)]) (rest := []) (rr := some (.int 0)) (M1 := (mk_M c n m kk (rT (he, ke, ki, fi, fa, or, mi, a, g, l, w, s) xm xi xw im le nu rf ln nn vp xn xc vs))) (fun f => rfl) (ms_in_hi (x := y) (a := 0) (b := 5) (mz_lt_f 0 (by decide) (by omega)) (mz_gt_t 5 (by decide) (by omega))) ?_
  refine mr_seg 8 (pc1 := 43) (ls1 := [some (.ref 138), some (.int (nI p)), some (.int y), some (.int z), some (.int (-2)), none]) (st1 := [.int (-2), .ref 138]) (M1 := (mk_M c n m kk (rT (he, ke, ki, fi, fa, or, mi, a, g, l, w, s) xm xi xw im le nu rf ln nn vp xn xc vs))) (fun f => rfl) ?_
  refine mr_call (y := 130) (y0 := 46) (L := [some (.ref 138), some (.int (-2))]) (rest := []) (rr := some (.int (-2))) (M1 := (mk_M c n m kk (rT (he, ke, ki, fi, fa, or, mi, a, g, l, w, s) xm xi xw im le nu (rf.set 2 (kg rf 2 + 1)) ln nn vp xn xc vs))) (fun f => rfl) (ms_no2 hD) ?_
  exact mr_ret 1 (fun f => rfl)
theorem oe_turn_3 (he ke ki fi fa or : List Nat) (mi a g l w s : Nat) (m : kG) (kk : kG) (im : Nat) (le : List Nat) (ln : Nat) (ys : List Int32) (vt : Int32) (nu : List Nat) (nn : Nat) (rf : List Nat) (vw : Int32) (vq : Int32) (yc : List Int32) (yh : List Int32) (yg : List Int32) (xm : List Int32) (xi : List Int32) (xw : List Int32) (vp : Int32) (xn : List Int32) (xc : List Int32) (vs : Int32) (hA : iA (he, ke, ki, fi, fa, or, mi, a, g, l, w, s)) (hB : iB le ln) (hC : iC nu nn) (hD : iD rf) (hJ : iJ m ys yc yh yg) (hR : iR xm xw xn xc) (hK : iK im kk xi) (p : Nat) (hp : p < mi) (y : Int32) (hyl : 6 ≤ y.toInt) (z : Int32) : oI 72 166 [some (.ref 100), some (.int (nI p)), some (.int y), some (.int z), none] [some (.ref 138), some (.int (nI p)), some (.int y), some (.int z), none, none] (mk_M (cT im le ln ys vt nu nn rf vw vq yc yh yg) (kr (he, ke, ki, fi, fa, or, mi, a, g, l, w, s)) m kk (rT (he, ke, ki, fi, fa, or, mi, a, g, l, w, s) xm xi xw im le nu rf ln nn vp xn xc vs)) := by
  exact ⟨(-2), _, _, oc_turn_3 he ke ki fi fa or mi a g l w s im le ln ys vt nu nn rf vw vq yc yh yg m kk _ hA hB hC hD hJ hK.1 p hp y hyl z, om_turn_3 he ke ki fi fa or mi a g l w s xm xi xw im le nu rf ln nn vp xn xc vs _ _ _ _ hA hB hC hD hR hK.2.1 p hp y hyl z, (he, ke, ki, fi, fa, or, mi, a, g, l, w, s), m, kk, im, le, ln, ys, vt, nu, nn, (rf.set 2 (kg rf 2 + 1)), vw, vq, yc, yh, yg, xm, xi, xw, vp, xn, xc, vs, rfl, hA, hB, hC, iD_s hD, hJ, hR, hK⟩
set_option maxRecDepth 100000 in
theorem oc_turn_4 (he ke ki fi fa or : List Nat) (mi a g l w s : Nat) (im : Nat) (le : List Nat) (ln : Nat) (ys : List Int32) (vt : Int32) (nu : List Nat) (nn : Nat) (rf : List Nat) (vw vq : Int32) (yc yh yg : List Int32) (m kk : kG) (q : cR) (hA : iA (he, ke, ki, fi, fa, or, mi, a, g, l, w, s)) (hB : iB le ln) (hC : iC nu nn) (hD : iD rf) (hJ : iJ m ys yc yh yg) (k0 : kSh kk) (p : Nat) (hp : p < mi) (y : Nat) (hy : y < 6) (z : Int32) (hzu : z.toInt ≤ -1) : mm_R 72 0 [some (.ref 100), some (.int (nI p)), some (.int (nI y)), some (.int z), none] [] (mk_M (cT im le ln ys vt nu nn rf vw vq yc yh yg) (kr (he, ke, ki, fi, fa, or, mi, a, g, l, w, s)) m kk q) (some (.int (-4)), (mk_M (cT im le ln ys vt nu nn (rf.set 4 (kg rf 4 + 1)) vw vq yc yh yg) (kr (he, ke, ki, fi, fa, or, mi, a, g, l, w, s)) m kk q)) := by
  have hst2 : s ≤ 999 := hA.2
  have v7 : mi ≤ 5 := hA.1.2.2.2.2.2.2.1
  have b3 : ln ≤ 96 := hB.2.2
  have c3 : nn ≤ 16 := hC.2.2
  refine mr_seg 2 (pc1 := 2) (ls1 := [some (.ref 100), some (.int (nI p)), some (.int (nI y)), some (.int z), none]) (st1 := [.int (nI p), .ref 100]) (M1 := (mk_M (cT im le ln ys vt nu nn rf vw vq yc yh yg) (kr (he, ke, ki, fi, fa, or, mi, a, g, l, w, s)) m kk q)) (fun f => rfl) ?_
  refine mr_call (y := 61) (y0 := 5) (L := [some (.ref 100), some (.int (nI p))]) (rest := []) (rr := some (.int 1)) (M1 := (mk_M (cT im le ln ys vt nu nn rf vw vq yc yh yg) (kr (he, ke, ki, fi, fa, or, mi, a, g, l, w, s)) m kk q)) (fun f => rfl) (ms_m1_ok (x := (nI p)) (nI_ltf (a := p) (b := 0) (by omega)) (nI_lef (a := mi) (b := p) (by omega))) ?_
  refine mr_seg 2 (pc1 := 15) (ls1 := [some (.ref 100), some (.int (nI p)), some (.int (nI y)), some (.int z), none]) (st1 := [.int (nI y)]) (M1 := (mk_M (cT im le ln ys vt nu nn rf vw vq yc yh yg) (kr (he, ke, ki, fi, fa, or, mi, a, g, l, w, s)) m kk q)) (fun f => rfl) ?_
  refine mr_f (C := (nI y) < 0) (nI_ltf (a := y) (b := 0) (by omega)) (fun f => rfl) ?_
  refine mr_seg 2 (pc1 := 21) (ls1 := [some (.ref 100), some (.int (nI p)), some (.int (nI y)), some (.int z), none]) (st1 := [.int 6, .int (nI y)]) (M1 := (mk_M (cT im le ln ys vt nu nn rf vw vq yc yh yg) (kr (he, ke, ki, fi, fa, or, mi, a, g, l, w, s)) m kk q)) (fun f => rfl) ?_
  refine mr_t (C := (nI y) < 6) (nI_ltt (a := y) (b := 6) (by omega)) (fun f => rfl) ?_
  refine mr_seg 1 (pc1 := 32) (ls1 := [some (.ref 100), some (.int (nI p)), some (.int (nI y)), some (.int z), none]) (st1 := [.int z]) (M1 := (mk_M (cT im le ln ys vt nu nn rf vw vq yc yh yg) (kr (he, ke, ki, fi, fa, or, mi, a, g, l, w, s)) m kk q)) (fun f => rfl) ?_
  refine mr_f (C := 0 ≤ z) (mz_ge_f 0 (by decide) (by omega)) (fun f => rfl) ?_
  refine mr_seg 2 (pc1 := 38) (ls1 := [some (.ref 100), some (.int (nI p)), some (.int (nI y)), some (.int z), none]) (st1 := [.int (-4), .ref 100]) (M1 := (mk_M (cT im le ln ys vt nu nn rf vw vq yc yh yg) (kr (he, ke, ki, fi, fa, or, mi, a, g, l, w, s)) m kk q)) (fun f => rfl) ?_
  refine mr_call (y := 12) (y0 := 41) (L := [some (.ref 100), some (.int (-4))]) (rest := []) (rr := some (.int (-4))) (M1 := (mk_M (cT im le ln ys vt nu nn (rf.set 4 (kg rf 4 + 1)) vw vq yc yh yg) (kr (he, ke, ki, fi, fa, or, mi, a, g, l, w, s)) m kk q)) (fun f => rfl) (ms_re4 hD) ?_
  exact mr_ret 1 (fun f => rfl)
set_option maxRecDepth 100000 in
theorem om_turn_4 (he ke ki fi fa or : List Nat) (mi a g l w s : Nat) (xm xi xw : List Int32) (im : Nat) (le nu rf : List Nat) (ln nn : Nat) (vp : Int32) (xn xc : List Int32) (vs : Int32) (c : cC) (n m kk : kG) (hA : iA (he, ke, ki, fi, fa, or, mi, a, g, l, w, s)) (hB : iB le ln) (hC : iC nu nn) (hD : iD rf) (hR : iR xm xw xn xc) (k1 : xi.length = 52) (p : Nat) (hp : p < mi) (y : Nat) (hy : y < 6) (z : Int32) (hzu : z.toInt ≤ -1) : mm_R 166 0 [some (.ref 138), some (.int (nI p)), some (.int (nI y)), some (.int z), none, none] [] (mk_M c n m kk (rT (he, ke, ki, fi, fa, or, mi, a, g, l, w, s) xm xi xw im le nu rf ln nn vp xn xc vs)) (some (.int (-4)), (mk_M c n m kk (rT (he, ke, ki, fi, fa, or, mi, a, g, l, w, s) xm xi xw im le nu (rf.set 4 (kg rf 4 + 1)) ln nn vp xn xc vs))) := by
  have hst2 : s ≤ 999 := hA.2
  have v7 : mi ≤ 5 := hA.1.2.2.2.2.2.2.1
  have b3 : ln ≤ 96 := hB.2.2
  have c3 : nn ≤ 16 := hC.2.2
  refine mr_seg 2 (pc1 := 2) (ls1 := [some (.ref 138), some (.int (nI p)), some (.int (nI y)), some (.int z), none, none]) (st1 := [.int (nI p), .ref 138]) (M1 := (mk_M c n m kk (rT (he, ke, ki, fi, fa, or, mi, a, g, l, w, s) xm xi xw im le nu rf ln nn vp xn xc vs))) (fun f => rfl) ?_
  refine mr_call (y := 142) (y0 := 5) (L := [some (.ref 138), some (.int (nI p))]) (rest := []) (rr := some (.int 1)) (M1 := (mk_M c n m kk (rT (he, ke, ki, fi, fa, or, mi, a, g, l, w, s) xm xi xw im le nu rf ln nn vp xn xc vs))) (fun f => rfl) (ms_m2_ok (x := (nI p)) (b := (nI (mi - 1))) (pk_sub (a := mi) (b := 1) (by omega)) (nI_ltf (a := p) (b := 0) (by omega)) (nI_ltf (a := mi - 1) (b := p) (by omega))) ?_
  refine mr_seg 4 (pc1 := 15) (ls1 := [some (.ref 138), some (.int (nI p)), some (.int (nI y)), some (.int z), none, none]) (st1 := [.int 5, .int 0, .int (nI y)]) (M1 := (mk_M c n m kk (rT (he, ke, ki, fi, fa, or, mi, a, g, l, w, s) xm xi xw im le nu rf ln nn vp xn xc vs))) (fun f => rfl) ?_
  refine mr_call (y := 135) (y0 := 18) (L := [some (.int (nI y)), some (.int 0), some (.int 5)]) (rest := []) (rr := some (.int 1)) (M1 := (mk_M c n m kk (rT (he, ke, ki, fi, fa, or, mi, a, g, l, w, s) xm xi xw im le nu rf ln nn vp xn xc vs))) (fun f => rfl) (ms_in_ok (x := (nI y)) (a := 0) (b := 5) (nI_ltf (a := y) (b := 0) (by omega)) (nI_ltf (a := 5) (b := y) (by omega))) ?_
  refine mr_seg 4 (pc1 := 30) (ls1 := [some (.ref 138), some (.int (nI p)), some (.int (nI y)), some (.int z), none, none]) (st1 := [.int 9, .int 0, .int z]) (M1 := (mk_M c n m kk (rT (he, ke, ki, fi, fa, or, mi, a, g, l, w, s) xm xi xw im le nu rf ln nn vp xn xc vs))) (fun f => rfl) ?_
  refine mr_call (y := 159) (y0 := 33) (L := [some (.int z), some (.int 0), some (.int 9)]) (rest := []) (rr := some (.int (-4))) (M1 := (mk_M c n m kk (rT (he, ke, ki, fi, fa, or, mi, a, g, l, w, s) xm xi xw im le nu rf ln nn vp xn xc vs))) (fun f => rfl) (ms_wb_lo (x := z) (a := 0) (b := 9) (mz_ge_f 0 (by decide) (by omega))) ?_
  refine mr_seg 5 (pc1 := 43) (ls1 := [some (.ref 138), some (.int (nI p)), some (.int (nI y)), some (.int z), some (.int (-4)), none]) (st1 := [.int (-4), .ref 138]) (M1 := (mk_M c n m kk (rT (he, ke, ki, fi, fa, or, mi, a, g, l, w, s) xm xi xw im le nu rf ln nn vp xn xc vs))) (fun f => rfl) ?_
  refine mr_call (y := 130) (y0 := 46) (L := [some (.ref 138), some (.int (-4))]) (rest := []) (rr := some (.int (-4))) (M1 := (mk_M c n m kk (rT (he, ke, ki, fi, fa, or, mi, a, g, l, w, s) xm xi xw im le nu (rf.set 4 (kg rf 4 + 1)) ln nn vp xn xc vs))) (fun f => rfl) (ms_no4 hD) ?_
  exact mr_ret 1 (fun f => rfl)
theorem oe_turn_4 (he ke ki fi fa or : List Nat) (mi a g l w s : Nat) (m : kG) (kk : kG) (im : Nat) (le : List Nat) (ln : Nat) (ys : List Int32) (vt : Int32) (nu : List Nat) (nn : Nat) (rf : List Nat) (vw : Int32) (vq : Int32) (yc : List Int32) (yh : List Int32) (yg : List Int32) (xm : List Int32) (xi : List Int32) (xw : List Int32) (vp : Int32) (xn : List Int32) (xc : List Int32) (vs : Int32) (hA : iA (he, ke, ki, fi, fa, or, mi, a, g, l, w, s)) (hB : iB le ln) (hC : iC nu nn) (hD : iD rf) (hJ : iJ m ys yc yh yg) (hR : iR xm xw xn xc) (hK : iK im kk xi) (p : Nat) (hp : p < mi) (y : Nat) (hy : y < 6) (z : Int32) (hzu : z.toInt ≤ -1) : oI 72 166 [some (.ref 100), some (.int (nI p)), some (.int (nI y)), some (.int z), none] [some (.ref 138), some (.int (nI p)), some (.int (nI y)), some (.int z), none, none] (mk_M (cT im le ln ys vt nu nn rf vw vq yc yh yg) (kr (he, ke, ki, fi, fa, or, mi, a, g, l, w, s)) m kk (rT (he, ke, ki, fi, fa, or, mi, a, g, l, w, s) xm xi xw im le nu rf ln nn vp xn xc vs)) := by
  exact ⟨(-4), _, _, oc_turn_4 he ke ki fi fa or mi a g l w s im le ln ys vt nu nn rf vw vq yc yh yg m kk _ hA hB hC hD hJ hK.1 p hp y hy z hzu, om_turn_4 he ke ki fi fa or mi a g l w s xm xi xw im le nu rf ln nn vp xn xc vs _ _ _ _ hA hB hC hD hR hK.2.1 p hp y hy z hzu, (he, ke, ki, fi, fa, or, mi, a, g, l, w, s), m, kk, im, le, ln, ys, vt, nu, nn, (rf.set 4 (kg rf 4 + 1)), vw, vq, yc, yh, yg, xm, xi, xw, vp, xn, xc, vs, rfl, hA, hB, hC, iD_s hD, hJ, hR, hK⟩
set_option maxRecDepth 100000 in
theorem oc_turn_5 (he ke ki fi fa or : List Nat) (mi a g l w s : Nat) (im : Nat) (le : List Nat) (ln : Nat) (ys : List Int32) (vt : Int32) (nu : List Nat) (nn : Nat) (rf : List Nat) (vw vq : Int32) (yc yh yg : List Int32) (m kk : kG) (q : cR) (hA : iA (he, ke, ki, fi, fa, or, mi, a, g, l, w, s)) (hB : iB le ln) (hC : iC nu nn) (hD : iD rf) (hJ : iJ m ys yc yh yg) (k0 : kSh kk) (p : Nat) (hp : p < mi) (y : Nat) (hy : y < 6) (z : Int32) (hzl : 10 ≤ z.toInt) : mm_R 72 0 [some (.ref 100), some (.int (nI p)), some (.int (nI y)), some (.int z), none] [] (mk_M (cT im le ln ys vt nu nn rf vw vq yc yh yg) (kr (he, ke, ki, fi, fa, or, mi, a, g, l, w, s)) m kk q) (some (.int (-6)), (mk_M (cT im le ln ys vt nu nn (rf.set 6 (kg rf 6 + 1)) vw vq yc yh yg) (kr (he, ke, ki, fi, fa, or, mi, a, g, l, w, s)) m kk q)) := by
  have hst2 : s ≤ 999 := hA.2
  have v7 : mi ≤ 5 := hA.1.2.2.2.2.2.2.1
  have b3 : ln ≤ 96 := hB.2.2
  have c3 : nn ≤ 16 := hC.2.2
  refine mr_seg 2 (pc1 := 2) (ls1 := [some (.ref 100), some (.int (nI p)), some (.int (nI y)), some (.int z), none]) (st1 := [.int (nI p), .ref 100]) (M1 := (mk_M (cT im le ln ys vt nu nn rf vw vq yc yh yg) (kr (he, ke, ki, fi, fa, or, mi, a, g, l, w, s)) m kk q)) (fun f => rfl) ?_
  refine mr_call (y := 61) (y0 := 5) (L := [some (.ref 100), some (.int (nI p))]) (rest := []) (rr := some (.int 1)) (M1 := (mk_M (cT im le ln ys vt nu nn rf vw vq yc yh yg) (kr (he, ke, ki, fi, fa, or, mi, a, g, l, w, s)) m kk q)) (fun f => rfl) (ms_m1_ok (x := (nI p)) (nI_ltf (a := p) (b := 0) (by omega)) (nI_lef (a := mi) (b := p) (by omega))) ?_
  refine mr_seg 2 (pc1 := 15) (ls1 := [some (.ref 100), some (.int (nI p)), some (.int (nI y)), some (.int z), none]) (st1 := [.int (nI y)]) (M1 := (mk_M (cT im le ln ys vt nu nn rf vw vq yc yh yg) (kr (he, ke, ki, fi, fa, or, mi, a, g, l, w, s)) m kk q)) (fun f => rfl) ?_
  refine mr_f (C := (nI y) < 0) (nI_ltf (a := y) (b := 0) (by omega)) (fun f => rfl) ?_
  refine mr_seg 2 (pc1 := 21) (ls1 := [some (.ref 100), some (.int (nI p)), some (.int (nI y)), some (.int z), none]) (st1 := [.int 6, .int (nI y)]) (M1 := (mk_M (cT im le ln ys vt nu nn rf vw vq yc yh yg) (kr (he, ke, ki, fi, fa, or, mi, a, g, l, w, s)) m kk q)) (fun f => rfl) ?_
  refine mr_t (C := (nI y) < 6) (nI_ltt (a := y) (b := 6) (by omega)) (fun f => rfl) ?_
  refine mr_seg 1 (pc1 := 32) (ls1 := [some (.ref 100), some (.int (nI p)), some (.int (nI y)), some (.int z), none]) (st1 := [.int z]) (M1 := (mk_M (cT im le ln ys vt nu nn rf vw vq yc yh yg) (kr (he, ke, ki, fi, fa, or, mi, a, g, l, w, s)) m kk q)) (fun f => rfl) ?_
  refine mr_t (C := 0 ≤ z) (mz_ge_t 0 (by decide) (by omega)) (fun f => rfl) ?_
  refine mr_seg 2 (pc1 := 45) (ls1 := [some (.ref 100), some (.int (nI p)), some (.int (nI y)), some (.int z), none]) (st1 := [.int 9, .int z]) (M1 := (mk_M (cT im le ln ys vt nu nn rf vw vq yc yh yg) (kr (he, ke, ki, fi, fa, or, mi, a, g, l, w, s)) m kk q)) (fun f => rfl) ?_
  refine mr_f (C := z ≤ 9) (mz_le_f 9 (by decide) (by omega)) (fun f => rfl) ?_
  refine mr_seg 2 (pc1 := 51) (ls1 := [some (.ref 100), some (.int (nI p)), some (.int (nI y)), some (.int z), none]) (st1 := [.int (-6), .ref 100]) (M1 := (mk_M (cT im le ln ys vt nu nn rf vw vq yc yh yg) (kr (he, ke, ki, fi, fa, or, mi, a, g, l, w, s)) m kk q)) (fun f => rfl) ?_
  refine mr_call (y := 12) (y0 := 54) (L := [some (.ref 100), some (.int (-6))]) (rest := []) (rr := some (.int (-6))) (M1 := (mk_M (cT im le ln ys vt nu nn (rf.set 6 (kg rf 6 + 1)) vw vq yc yh yg) (kr (he, ke, ki, fi, fa, or, mi, a, g, l, w, s)) m kk q)) (fun f => rfl) (ms_re6 hD) ?_
  exact mr_ret 1 (fun f => rfl)
set_option maxRecDepth 100000 in
theorem om_turn_5 (he ke ki fi fa or : List Nat) (mi a g l w s : Nat) (xm xi xw : List Int32) (im : Nat) (le nu rf : List Nat) (ln nn : Nat) (vp : Int32) (xn xc : List Int32) (vs : Int32) (c : cC) (n m kk : kG) (hA : iA (he, ke, ki, fi, fa, or, mi, a, g, l, w, s)) (hB : iB le ln) (hC : iC nu nn) (hD : iD rf) (hR : iR xm xw xn xc) (k1 : xi.length = 52) (p : Nat) (hp : p < mi) (y : Nat) (hy : y < 6) (z : Int32) (hzl : 10 ≤ z.toInt) : mm_R 166 0 [some (.ref 138), some (.int (nI p)), some (.int (nI y)), some (.int z), none, none] [] (mk_M c n m kk (rT (he, ke, ki, fi, fa, or, mi, a, g, l, w, s) xm xi xw im le nu rf ln nn vp xn xc vs)) (some (.int (-6)), (mk_M c n m kk (rT (he, ke, ki, fi, fa, or, mi, a, g, l, w, s) xm xi xw im le nu (rf.set 6 (kg rf 6 + 1)) ln nn vp xn xc vs))) := by
  have hst2 : s ≤ 999 := hA.2
  have v7 : mi ≤ 5 := hA.1.2.2.2.2.2.2.1
  have b3 : ln ≤ 96 := hB.2.2
  have c3 : nn ≤ 16 := hC.2.2
  refine mr_seg 2 (pc1 := 2) (ls1 := [some (.ref 138), some (.int (nI p)), some (.int (nI y)), some (.int z), none, none]) (st1 := [.int (nI p), .ref 138]) (M1 := (mk_M c n m kk (rT (he, ke, ki, fi, fa, or, mi, a, g, l, w, s) xm xi xw im le nu rf ln nn vp xn xc vs))) (fun f => rfl) ?_
  refine mr_call (y := 142) (y0 := 5) (L := [some (.ref 138), some (.int (nI p))]) (rest := []) (rr := some (.int 1)) (M1 := (mk_M c n m kk (rT (he, ke, ki, fi, fa, or, mi, a, g, l, w, s) xm xi xw im le nu rf ln nn vp xn xc vs))) (fun f => rfl) (ms_m2_ok (x := (nI p)) (b := (nI (mi - 1))) (pk_sub (a := mi) (b := 1) (by omega)) (nI_ltf (a := p) (b := 0) (by omega)) (nI_ltf (a := mi - 1) (b := p) (by omega))) ?_
  refine mr_seg 4 (pc1 := 15) (ls1 := [some (.ref 138), some (.int (nI p)), some (.int (nI y)), some (.int z), none, none]) (st1 := [.int 5, .int 0, .int (nI y)]) (M1 := (mk_M c n m kk (rT (he, ke, ki, fi, fa, or, mi, a, g, l, w, s) xm xi xw im le nu rf ln nn vp xn xc vs))) (fun f => rfl) ?_
  refine mr_call (y := 135) (y0 := 18) (L := [some (.int (nI y)), some (.int 0), some (.int 5)]) (rest := []) (rr := some (.int 1)) (M1 := (mk_M c n m kk (rT (he, ke, ki, fi, fa, or, mi, a, g, l, w, s) xm xi xw im le nu rf ln nn vp xn xc vs))) (fun f => rfl) (ms_in_ok (x := (nI y)) (a := 0) (b := 5) (nI_ltf (a := y) (b := 0) (by omega)) (nI_ltf (a := 5) (b := y) (by omega))) ?_
  refine mr_seg 4 (pc1 := 30) (ls1 := [some (.ref 138), some (.int (nI p)), some (.int (nI y)), some (.int z), none, none]) (st1 := [.int 9, .int 0, .int z]) (M1 := (mk_M c n m kk (rT (he, ke, ki, fi, fa, or, mi, a, g, l, w, s) xm xi xw im le nu rf ln nn vp xn xc vs))) (fun f => rfl) ?_
  refine mr_call (y := 159) (y0 := 33) (L := [some (.int z), some (.int 0), some (.int 9)]) (rest := []) (rr := some (.int (-6))) (M1 := (mk_M c n m kk (rT (he, ke, ki, fi, fa, or, mi, a, g, l, w, s) xm xi xw im le nu rf ln nn vp xn xc vs))) (fun f => rfl) (ms_wb_hi (x := z) (a := 0) (b := 9) (mz_ge_t 0 (by decide) (by omega)) (mz_le_f 9 (by decide) (by omega))) ?_
  refine mr_seg 5 (pc1 := 43) (ls1 := [some (.ref 138), some (.int (nI p)), some (.int (nI y)), some (.int z), some (.int (-6)), none]) (st1 := [.int (-6), .ref 138]) (M1 := (mk_M c n m kk (rT (he, ke, ki, fi, fa, or, mi, a, g, l, w, s) xm xi xw im le nu rf ln nn vp xn xc vs))) (fun f => rfl) ?_
  refine mr_call (y := 130) (y0 := 46) (L := [some (.ref 138), some (.int (-6))]) (rest := []) (rr := some (.int (-6))) (M1 := (mk_M c n m kk (rT (he, ke, ki, fi, fa, or, mi, a, g, l, w, s) xm xi xw im le nu (rf.set 6 (kg rf 6 + 1)) ln nn vp xn xc vs))) (fun f => rfl) (ms_no6 hD) ?_
  exact mr_ret 1 (fun f => rfl)
theorem oe_turn_5 (he ke ki fi fa or : List Nat) (mi a g l w s : Nat) (m : kG) (kk : kG) (im : Nat) (le : List Nat) (ln : Nat) (ys : List Int32) (vt : Int32) (nu : List Nat) (nn : Nat) (rf : List Nat) (vw : Int32) (vq : Int32) (yc : List Int32) (yh : List Int32) (yg : List Int32) (xm : List Int32) (xi : List Int32) (xw : List Int32) (vp : Int32) (xn : List Int32) (xc : List Int32) (vs : Int32) (hA : iA (he, ke, ki, fi, fa, or, mi, a, g, l, w, s)) (hB : iB le ln) (hC : iC nu nn) (hD : iD rf) (hJ : iJ m ys yc yh yg) (hR : iR xm xw xn xc) (hK : iK im kk xi) (p : Nat) (hp : p < mi) (y : Nat) (hy : y < 6) (z : Int32) (hzl : 10 ≤ z.toInt) : oI 72 166 [some (.ref 100), some (.int (nI p)), some (.int (nI y)), some (.int z), none] [some (.ref 138), some (.int (nI p)), some (.int (nI y)), some (.int z), none, none] (mk_M (cT im le ln ys vt nu nn rf vw vq yc yh yg) (kr (he, ke, ki, fi, fa, or, mi, a, g, l, w, s)) m kk (rT (he, ke, ki, fi, fa, or, mi, a, g, l, w, s) xm xi xw im le nu rf ln nn vp xn xc vs)) := by
  exact ⟨(-6), _, _, oc_turn_5 he ke ki fi fa or mi a g l w s im le ln ys vt nu nn rf vw vq yc yh yg m kk _ hA hB hC hD hJ hK.1 p hp y hy z hzl, om_turn_5 he ke ki fi fa or mi a g l w s xm xi xw im le nu rf ln nn vp xn xc vs _ _ _ _ hA hB hC hD hR hK.2.1 p hp y hy z hzl, (he, ke, ki, fi, fa, or, mi, a, g, l, w, s), m, kk, im, le, ln, ys, vt, nu, nn, (rf.set 6 (kg rf 6 + 1)), vw, vq, yc, yh, yg, xm, xi, xw, vp, xn, xc, vs, rfl, hA, hB, hC, iD_s hD, hJ, hR, hK⟩
set_option maxRecDepth 100000 in
theorem oc_turn_6 (he ke ki fi fa or : List Nat) (mi a g l w s : Nat) (im : Nat) (le : List Nat) (ln : Nat) (ys : List Int32) (vt : Int32) (nu : List Nat) (nn : Nat) (rf : List Nat) (vw vq : Int32) (yc yh yg : List Int32) (m kk : kG) (q : cR) (hA : iA (he, ke, ki, fi, fa, or, mi, a, g, l, w, s)) (hB : iB le ln) (hC : iC nu nn) (hD : iD rf) (hJ : iJ m ys yc yh yg) (k0 : kSh kk) (p : Nat) (hp : p < mi) (y : Nat) (hy : y < 6) (z : Nat) (hz : z < 10) : mm_R 72 0 [some (.ref 100), some (.int (nI p)), some (.int (nI y)), some (.int (nI z)), none] [] (mk_M (cT im le ln ys vt nu nn rf vw vq yc yh yg) (kr (he, ke, ki, fi, fa, or, mi, a, g, l, w, s)) m kk q) (some (.int (nI (10 * (kg ki p) + kg fi p))), (mk_M (cT im le ln ys vt nu nn rf vw vq yc yh yg) (kr (he, ke, ki.set p y, fi.set p z, fa, or, mi, a, g, l, w, s)) m kk q)) := by
  obtain ⟨hV, hst⟩ := id hA
  have hst2 : s ≤ 999 := hst
  obtain ⟨v1, v2, v3, v4, v5, v6, v7, v8, v9, v10, v11, v12, v13, v14, v15, v16⟩ := id hV
  have v6l := kO_len mi v7 or v6
  obtain ⟨b1, b2, b3⟩ := id hB
  obtain ⟨c1, c2, c3⟩ := id hC
  have d1 : rf.length = 7 := hD
  obtain ⟨j0, j1, j2, j3, j4⟩ := id hJ
  have w14 := v14 p
  have w15 := v15 p
  refine mr_seg 2 (pc1 := 2) (ls1 := [some (.ref 100), some (.int (nI p)), some (.int (nI y)), some (.int (nI z)), none]) (st1 := [.int (nI p), .ref 100]) (M1 := (mk_M (cT im le ln ys vt nu nn rf vw vq yc yh yg) (kr (he, ke, ki, fi, fa, or, mi, a, g, l, w, s)) m kk q)) (fun f => rfl) ?_
  refine mr_call (y := 61) (y0 := 5) (L := [some (.ref 100), some (.int (nI p))]) (rest := []) (rr := some (.int 1)) (M1 := (mk_M (cT im le ln ys vt nu nn rf vw vq yc yh yg) (kr (he, ke, ki, fi, fa, or, mi, a, g, l, w, s)) m kk q)) (fun f => rfl) (ms_m1_ok (x := (nI p)) (nI_ltf (a := p) (b := 0) (by omega)) (nI_lef (a := mi) (b := p) (by omega))) ?_
  refine mr_seg 2 (pc1 := 15) (ls1 := [some (.ref 100), some (.int (nI p)), some (.int (nI y)), some (.int (nI z)), none]) (st1 := [.int (nI y)]) (M1 := (mk_M (cT im le ln ys vt nu nn rf vw vq yc yh yg) (kr (he, ke, ki, fi, fa, or, mi, a, g, l, w, s)) m kk q)) (fun f => rfl) ?_
  refine mr_f (C := (nI y) < 0) (nI_ltf (a := y) (b := 0) (by omega)) (fun f => rfl) ?_
  refine mr_seg 2 (pc1 := 21) (ls1 := [some (.ref 100), some (.int (nI p)), some (.int (nI y)), some (.int (nI z)), none]) (st1 := [.int 6, .int (nI y)]) (M1 := (mk_M (cT im le ln ys vt nu nn rf vw vq yc yh yg) (kr (he, ke, ki, fi, fa, or, mi, a, g, l, w, s)) m kk q)) (fun f => rfl) ?_
  refine mr_t (C := (nI y) < 6) (nI_ltt (a := y) (b := 6) (by omega)) (fun f => rfl) ?_
  refine mr_seg 1 (pc1 := 32) (ls1 := [some (.ref 100), some (.int (nI p)), some (.int (nI y)), some (.int (nI z)), none]) (st1 := [.int (nI z)]) (M1 := (mk_M (cT im le ln ys vt nu nn rf vw vq yc yh yg) (kr (he, ke, ki, fi, fa, or, mi, a, g, l, w, s)) m kk q)) (fun f => rfl) ?_
  refine mr_t (C := 0 ≤ (nI z)) (nI_let (a := 0) (b := z) (by omega)) (fun f => rfl) ?_
  refine mr_seg 2 (pc1 := 45) (ls1 := [some (.ref 100), some (.int (nI p)), some (.int (nI y)), some (.int (nI z)), none]) (st1 := [.int 9, .int (nI z)]) (M1 := (mk_M (cT im le ln ys vt nu nn rf vw vq yc yh yg) (kr (he, ke, ki, fi, fa, or, mi, a, g, l, w, s)) m kk q)) (fun f => rfl) ?_
  refine mr_t (C := (nI z) ≤ 9) (nI_let (a := z) (b := 9) (by omega)) (fun f => rfl) ?_
  refine mr_seg 5 (pc1 := 65) (ls1 := [some (.ref 100), some (.int (nI p)), some (.int (nI y)), some (.int (nI z)), none]) (st1 := [.int (nI p), .ref 120, .int 10]) (M1 := (mk_M (cT im le ln ys vt nu nn rf vw vq yc yh yg) (kr (he, ke, ki, fi, fa, or, mi, a, g, l, w, s)) m kk q)) (fun f => rfl) ?_
  refine mr_ldk (l0 := ki) rfl rfl (k := p) (by omega) ?_
  refine mr_seg 1 (pc1 := 67) (ls1 := [some (.ref 100), some (.int (nI p)), some (.int (nI y)), some (.int (nI z)), none]) (st1 := [.int (10 * (nI (kg ki p)))]) (M1 := (mk_M (cT im le ln ys vt nu nn rf vw vq yc yh yg) (kr (he, ke, ki, fi, fa, or, mi, a, g, l, w, s)) m kk q)) (fun f => rfl) ?_
  refine mr_v (pk_mul 10 (kg ki p)) ?_
  refine mr_seg 4 (pc1 := 75) (ls1 := [some (.ref 100), some (.int (nI p)), some (.int (nI y)), some (.int (nI z)), none]) (st1 := [.int (nI p), .ref 121, .int (nI (10 * (kg ki p)))]) (M1 := (mk_M (cT im le ln ys vt nu nn rf vw vq yc yh yg) (kr (he, ke, ki, fi, fa, or, mi, a, g, l, w, s)) m kk q)) (fun f => rfl) ?_
  refine mr_ldk (l0 := fi) rfl rfl (k := p) (by omega) ?_
  refine mr_seg 1 (pc1 := 77) (ls1 := [some (.ref 100), some (.int (nI p)), some (.int (nI y)), some (.int (nI z)), none]) (st1 := [.int ((nI (10 * (kg ki p))) + (nI (kg fi p)))]) (M1 := (mk_M (cT im le ln ys vt nu nn rf vw vq yc yh yg) (kr (he, ke, ki, fi, fa, or, mi, a, g, l, w, s)) m kk q)) (fun f => rfl) ?_
  refine mr_v (nI_add (10 * (kg ki p)) (kg fi p)) ?_
  refine mr_seg 6 (pc1 := 88) (ls1 := [some (.ref 100), some (.int (nI p)), some (.int (nI y)), some (.int (nI z)), some (.int (nI (10 * (kg ki p) + kg fi p)))]) (st1 := [.int (nI y), .int (nI p), .ref 120]) (M1 := (mk_M (cT im le ln ys vt nu nn rf vw vq yc yh yg) (kr (he, ke, ki, fi, fa, or, mi, a, g, l, w, s)) m kk q)) (fun f => rfl) ?_
  refine mr_stk (l0 := ki) (M2 := (mk_M (cT im le ln ys vt nu nn rf vw vq yc yh yg) (kr (he, ke, ki.set p y, fi, fa, or, mi, a, g, l, w, s)) m kk q)) rfl rfl (k := p) (v := y) (by omega) rfl ?_
  refine mr_seg 5 (pc1 := 98) (ls1 := [some (.ref 100), some (.int (nI p)), some (.int (nI y)), some (.int (nI z)), some (.int (nI (10 * (kg ki p) + kg fi p)))]) (st1 := [.int (nI z), .int (nI p), .ref 121]) (M1 := (mk_M (cT im le ln ys vt nu nn rf vw vq yc yh yg) (kr (he, ke, ki.set p y, fi, fa, or, mi, a, g, l, w, s)) m kk q)) (fun f => rfl) ?_
  refine mr_stk (l0 := fi) (M2 := (mk_M (cT im le ln ys vt nu nn rf vw vq yc yh yg) (kr (he, ke, ki.set p y, fi.set p z, fa, or, mi, a, g, l, w, s)) m kk q)) rfl rfl (k := p) (v := z) (by omega) rfl ?_
  exact mr_ret 2 (fun f => rfl)
set_option maxRecDepth 100000 in
theorem om_turn_6 (he ke ki fi fa or : List Nat) (mi a g l w s : Nat) (xm xi xw : List Int32) (im : Nat) (le nu rf : List Nat) (ln nn : Nat) (vp : Int32) (xn xc : List Int32) (vs : Int32) (c : cC) (n m kk : kG) (hA : iA (he, ke, ki, fi, fa, or, mi, a, g, l, w, s)) (hB : iB le ln) (hC : iC nu nn) (hD : iD rf) (hR : iR xm xw xn xc) (k1 : xi.length = 52) (p : Nat) (hp : p < mi) (y : Nat) (hy : y < 6) (z : Nat) (hz : z < 10) : mm_R 166 0 [some (.ref 138), some (.int (nI p)), some (.int (nI y)), some (.int (nI z)), none, none] [] (mk_M c n m kk (rT (he, ke, ki, fi, fa, or, mi, a, g, l, w, s) xm xi xw im le nu rf ln nn vp xn xc vs)) (some (.int (nI (10 * (kg ki p) + kg fi p))), (mk_M c n m kk (rT (he, ke, ki.set p y, fi.set p z, fa, or, mi, a, g, l, w, s) xm xi xw im le nu rf ln nn vp xn xc vs))) := by
  obtain ⟨hV, hst⟩ := id hA
  have hst2 : s ≤ 999 := hst
  obtain ⟨v1, v2, v3, v4, v5, v6, v7, v8, v9, v10, v11, v12, v13, v14, v15, v16⟩ := id hV
  have v6l := kO_len mi v7 or v6
  obtain ⟨b1, b2, b3⟩ := id hB
  obtain ⟨c1, c2, c3⟩ := id hC
  have d1 : rf.length = 7 := hD
  obtain ⟨r1, r2, r3, r4⟩ := id hR
  have w14 := v14 p
  have w15 := v15 p
  refine mr_seg 2 (pc1 := 2) (ls1 := [some (.ref 138), some (.int (nI p)), some (.int (nI y)), some (.int (nI z)), none, none]) (st1 := [.int (nI p), .ref 138]) (M1 := (mk_M c n m kk (rT (he, ke, ki, fi, fa, or, mi, a, g, l, w, s) xm xi xw im le nu rf ln nn vp xn xc vs))) (fun f => rfl) ?_
  refine mr_call (y := 142) (y0 := 5) (L := [some (.ref 138), some (.int (nI p))]) (rest := []) (rr := some (.int 1)) (M1 := (mk_M c n m kk (rT (he, ke, ki, fi, fa, or, mi, a, g, l, w, s) xm xi xw im le nu rf ln nn vp xn xc vs))) (fun f => rfl) (ms_m2_ok (x := (nI p)) (b := (nI (mi - 1))) (pk_sub (a := mi) (b := 1) (by omega)) (nI_ltf (a := p) (b := 0) (by omega)) (nI_ltf (a := mi - 1) (b := p) (by omega))) ?_
  refine mr_seg 4 (pc1 := 15) (ls1 := [some (.ref 138), some (.int (nI p)), some (.int (nI y)), some (.int (nI z)), none, none]) (st1 := [.int 5, .int 0, .int (nI y)]) (M1 := (mk_M c n m kk (rT (he, ke, ki, fi, fa, or, mi, a, g, l, w, s) xm xi xw im le nu rf ln nn vp xn xc vs))) (fun f => rfl) ?_
  refine mr_call (y := 135) (y0 := 18) (L := [some (.int (nI y)), some (.int 0), some (.int 5)]) (rest := []) (rr := some (.int 1)) (M1 := (mk_M c n m kk (rT (he, ke, ki, fi, fa, or, mi, a, g, l, w, s) xm xi xw im le nu rf ln nn vp xn xc vs))) (fun f => rfl) (ms_in_ok (x := (nI y)) (a := 0) (b := 5) (nI_ltf (a := y) (b := 0) (by omega)) (nI_ltf (a := 5) (b := y) (by omega))) ?_
  refine mr_seg 4 (pc1 := 30) (ls1 := [some (.ref 138), some (.int (nI p)), some (.int (nI y)), some (.int (nI z)), none, none]) (st1 := [.int 9, .int 0, .int (nI z)]) (M1 := (mk_M c n m kk (rT (he, ke, ki, fi, fa, or, mi, a, g, l, w, s) xm xi xw im le nu rf ln nn vp xn xc vs))) (fun f => rfl) ?_
  refine mr_call (y := 159) (y0 := 33) (L := [some (.int (nI z)), some (.int 0), some (.int 9)]) (rest := []) (rr := some (.int 0)) (M1 := (mk_M c n m kk (rT (he, ke, ki, fi, fa, or, mi, a, g, l, w, s) xm xi xw im le nu rf ln nn vp xn xc vs))) (fun f => rfl) (ms_wb_ok (x := (nI z)) (a := 0) (b := 9) (nI_let (a := 0) (b := z) (by omega)) (nI_let (a := z) (b := 9) (by omega))) ?_
  refine mr_seg 8 (pc1 := 55) (ls1 := [some (.ref 138), some (.int (nI p)), some (.int (nI y)), some (.int (nI z)), some (.int 0), none]) (st1 := [.int 0, .int (nI p), .ref 139, .int 10]) (M1 := (mk_M c n m kk (rT (he, ke, ki, fi, fa, or, mi, a, g, l, w, s) xm xi xw im le nu rf ln nn vp xn xc vs))) (fun f => rfl) ?_
  refine mr_call (y := 141) (y0 := 58) (L := [some (.int (nI p)), some (.int 0)]) (rest := [.ref 139, .int 10]) (rr := some (.int (nI (32 + 3 * p + 0)))) (M1 := (mk_M c n m kk (rT (he, ke, ki, fi, fa, or, mi, a, g, l, w, s) xm xi xw im le nu rf ln nn vp xn xc vs))) (fun f => rfl) (rc_of p 0 (by omega) (by decide) _) ?_
  refine mr_ldn (xs := (er (he, ke, ki, fi, fa, or, mi, a, g, l, w, s))) rfl rfl (k := 32 + 3 * p + 0) (by omega) (er_ki (K := (he, ke, ki, fi, fa, or, mi, a, g, l, w, s)) v1 (by omega)) ?_
  refine mr_seg 1 (pc1 := 60) (ls1 := [some (.ref 138), some (.int (nI p)), some (.int (nI y)), some (.int (nI z)), some (.int 0), none]) (st1 := [.int (10 * (nI (kg ki p)))]) (M1 := (mk_M c n m kk (rT (he, ke, ki, fi, fa, or, mi, a, g, l, w, s) xm xi xw im le nu rf ln nn vp xn xc vs))) (fun f => rfl) ?_
  refine mr_v (pk_mul 10 (kg ki p)) ?_
  refine mr_seg 4 (pc1 := 66) (ls1 := [some (.ref 138), some (.int (nI p)), some (.int (nI y)), some (.int (nI z)), some (.int 0), none]) (st1 := [.int 1, .int (nI p), .ref 139, .int (nI (10 * (kg ki p)))]) (M1 := (mk_M c n m kk (rT (he, ke, ki, fi, fa, or, mi, a, g, l, w, s) xm xi xw im le nu rf ln nn vp xn xc vs))) (fun f => rfl) ?_
  refine mr_call (y := 141) (y0 := 69) (L := [some (.int (nI p)), some (.int 1)]) (rest := [.ref 139, .int (nI (10 * (kg ki p)))]) (rr := some (.int (nI (32 + 3 * p + 1)))) (M1 := (mk_M c n m kk (rT (he, ke, ki, fi, fa, or, mi, a, g, l, w, s) xm xi xw im le nu rf ln nn vp xn xc vs))) (fun f => rfl) (rc_of p 1 (by omega) (by decide) _) ?_
  refine mr_ldn (xs := (er (he, ke, ki, fi, fa, or, mi, a, g, l, w, s))) rfl rfl (k := 32 + 3 * p + 1) (by omega) (er_fi (K := (he, ke, ki, fi, fa, or, mi, a, g, l, w, s)) v1 (by omega)) ?_
  refine mr_seg 1 (pc1 := 71) (ls1 := [some (.ref 138), some (.int (nI p)), some (.int (nI y)), some (.int (nI z)), some (.int 0), none]) (st1 := [.int ((nI (10 * (kg ki p))) + (nI (kg fi p)))]) (M1 := (mk_M c n m kk (rT (he, ke, ki, fi, fa, or, mi, a, g, l, w, s) xm xi xw im le nu rf ln nn vp xn xc vs))) (fun f => rfl) ?_
  refine mr_v (nI_add (10 * (kg ki p)) (kg fi p)) ?_
  refine mr_seg 5 (pc1 := 79) (ls1 := [some (.ref 138), some (.int (nI p)), some (.int (nI y)), some (.int (nI z)), some (.int 0), some (.int (nI (10 * (kg ki p) + kg fi p)))]) (st1 := [.int 0, .int (nI p), .ref 139]) (M1 := (mk_M c n m kk (rT (he, ke, ki, fi, fa, or, mi, a, g, l, w, s) xm xi xw im le nu rf ln nn vp xn xc vs))) (fun f => rfl) ?_
  refine mr_call (y := 141) (y0 := 82) (L := [some (.int (nI p)), some (.int 0)]) (rest := [.ref 139]) (rr := some (.int (nI (32 + 3 * p + 0)))) (M1 := (mk_M c n m kk (rT (he, ke, ki, fi, fa, or, mi, a, g, l, w, s) xm xi xw im le nu rf ln nn vp xn xc vs))) (fun f => rfl) (rc_of p 0 (by omega) (by decide) _) ?_
  refine mr_seg 1 (pc1 := 83) (ls1 := [some (.ref 138), some (.int (nI p)), some (.int (nI y)), some (.int (nI z)), some (.int 0), some (.int (nI (10 * (kg ki p) + kg fi p)))]) (st1 := [.int (nI y), .int (nI (32 + 3 * p + 0)), .ref 139]) (M1 := (mk_M c n m kk (rT (he, ke, ki, fi, fa, or, mi, a, g, l, w, s) xm xi xw im le nu rf ln nn vp xn xc vs))) (fun f => rfl) ?_
  refine mr_stn (xs := (er (he, ke, ki, fi, fa, or, mi, a, g, l, w, s))) (ys := (er (he, ke, ki.set p y, fi, fa, or, mi, a, g, l, w, s))) (M2 := (mk_M c n m kk (rT (he, ke, ki.set p y, fi, fa, or, mi, a, g, l, w, s) xm xi xw im le nu rf ln nn vp xn xc vs))) rfl rfl (k := 32 + 3 * p + 0) (by omega) (by rw [er_leq (K := (he, ke, ki, fi, fa, or, mi, a, g, l, w, s)) v1 v6l]; omega) (er_kis (K := (he, ke, ki, fi, fa, or, mi, a, g, l, w, s)) v1 v3 (by omega)) rfl ?_
  refine mr_seg 4 (pc1 := 90) (ls1 := [some (.ref 138), some (.int (nI p)), some (.int (nI y)), some (.int (nI z)), some (.int 0), some (.int (nI (10 * (kg ki p) + kg fi p)))]) (st1 := [.int 1, .int (nI p), .ref 139]) (M1 := (mk_M c n m kk (rT (he, ke, ki.set p y, fi, fa, or, mi, a, g, l, w, s) xm xi xw im le nu rf ln nn vp xn xc vs))) (fun f => rfl) ?_
  refine mr_call (y := 141) (y0 := 93) (L := [some (.int (nI p)), some (.int 1)]) (rest := [.ref 139]) (rr := some (.int (nI (32 + 3 * p + 1)))) (M1 := (mk_M c n m kk (rT (he, ke, ki.set p y, fi, fa, or, mi, a, g, l, w, s) xm xi xw im le nu rf ln nn vp xn xc vs))) (fun f => rfl) (rc_of p 1 (by omega) (by decide) _) ?_
  refine mr_seg 1 (pc1 := 94) (ls1 := [some (.ref 138), some (.int (nI p)), some (.int (nI y)), some (.int (nI z)), some (.int 0), some (.int (nI (10 * (kg ki p) + kg fi p)))]) (st1 := [.int (nI z), .int (nI (32 + 3 * p + 1)), .ref 139]) (M1 := (mk_M c n m kk (rT (he, ke, ki.set p y, fi, fa, or, mi, a, g, l, w, s) xm xi xw im le nu rf ln nn vp xn xc vs))) (fun f => rfl) ?_
  refine mr_stn (xs := (er (he, ke, ki.set p y, fi, fa, or, mi, a, g, l, w, s))) (ys := (er (he, ke, ki.set p y, fi.set p z, fa, or, mi, a, g, l, w, s))) (M2 := (mk_M c n m kk (rT (he, ke, ki.set p y, fi.set p z, fa, or, mi, a, g, l, w, s) xm xi xw im le nu rf ln nn vp xn xc vs))) rfl rfl (k := 32 + 3 * p + 1) (by omega) (by rw [er_leq (K := (he, ke, ki.set p y, fi, fa, or, mi, a, g, l, w, s)) v1 v6l]; omega) (er_fis (K := (he, ke, ki.set p y, fi, fa, or, mi, a, g, l, w, s)) v1 v4 (by omega)) rfl ?_
  exact mr_ret 2 (fun f => rfl)
theorem oe_turn_6 (he ke ki fi fa or : List Nat) (mi a g l w s : Nat) (m : kG) (kk : kG) (im : Nat) (le : List Nat) (ln : Nat) (ys : List Int32) (vt : Int32) (nu : List Nat) (nn : Nat) (rf : List Nat) (vw : Int32) (vq : Int32) (yc : List Int32) (yh : List Int32) (yg : List Int32) (xm : List Int32) (xi : List Int32) (xw : List Int32) (vp : Int32) (xn : List Int32) (xc : List Int32) (vs : Int32) (hA : iA (he, ke, ki, fi, fa, or, mi, a, g, l, w, s)) (hB : iB le ln) (hC : iC nu nn) (hD : iD rf) (hJ : iJ m ys yc yh yg) (hR : iR xm xw xn xc) (hK : iK im kk xi) (p : Nat) (hp : p < mi) (y : Nat) (hy : y < 6) (z : Nat) (hz : z < 10) : oI 72 166 [some (.ref 100), some (.int (nI p)), some (.int (nI y)), some (.int (nI z)), none] [some (.ref 138), some (.int (nI p)), some (.int (nI y)), some (.int (nI z)), none, none] (mk_M (cT im le ln ys vt nu nn rf vw vq yc yh yg) (kr (he, ke, ki, fi, fa, or, mi, a, g, l, w, s)) m kk (rT (he, ke, ki, fi, fa, or, mi, a, g, l, w, s) xm xi xw im le nu rf ln nn vp xn xc vs)) := by
  obtain ⟨hV, hst⟩ := id hA
  have hst2 : s ≤ 999 := hst
  obtain ⟨v1, v2, v3, v4, v5, v6, v7, v8, v9, v10, v11, v12, v13, v14, v15, v16⟩ := id hV
  have v6l := kO_len mi v7 or v6
  obtain ⟨b1, b2, b3⟩ := id hB
  obtain ⟨c1, c2, c3⟩ := id hC
  have d1 : rf.length = 7 := hD
  obtain ⟨j0, j1, j2, j3, j4⟩ := id hJ
  obtain ⟨r1, r2, r3, r4⟩ := id hR
  obtain ⟨k0, k1, k2, k3⟩ := id hK
  have w14 := v14 p
  have w15 := v15 p
  exact ⟨(nI (10 * (kg ki p) + kg fi p)), _, _, oc_turn_6 he ke ki fi fa or mi a g l w s im le ln ys vt nu nn rf vw vq yc yh yg m kk _ hA hB hC hD hJ hK.1 p hp y hy z hz, om_turn_6 he ke ki fi fa or mi a g l w s xm xi xw im le nu rf ln nn vp xn xc vs _ _ _ _ hA hB hC hD hR hK.2.1 p hp y hy z hz, (he, ke, ki.set p y, fi.set p z, fa, or, mi, a, g, l, w, s), m, kk, im, le, ln, ys, vt, nu, nn, rf, vw, vq, yc, yh, yg, xm, xi, xw, vp, xn, xc, vs, rfl, ⟨⟨v1, v2, by rw [List.length_set]; exact v3, by rw [List.length_set]; exact v4, v5, v6, v7, v8, v9, v10, v11, v12, v13, fun i => by rw [kg_setc]; split; omega; exact v14 i, fun i => by rw [kg_setc]; split; omega; exact v15 i, v16⟩, hst⟩, hB, hC, hD, hJ, hR, hK⟩
set_option maxRecDepth 100000 in
theorem oc_minister_0 (he ke ki fi fa or : List Nat) (mi a g l w s : Nat) (im : Nat) (le : List Nat) (ln : Nat) (ys : List Int32) (vt : Int32) (nu : List Nat) (nn : Nat) (rf : List Nat) (vw vq : Int32) (yc yh yg : List Int32) (m kk : kG) (q : cR) (hA : iA (he, ke, ki, fi, fa, or, mi, a, g, l, w, s)) (hB : iB le ln) (hC : iC nu nn) (hD : iD rf) (hJ : iJ m ys yc yh yg) (k0 : kSh kk) (x : Int32) (hxu : x.toInt ≤ -1) (y : Int32) : mm_R 60 0 [some (.ref 100), some (.int x), some (.int y)] [] (mk_M (cT im le ln ys vt nu nn rf vw vq yc yh yg) (kr (he, ke, ki, fi, fa, or, mi, a, g, l, w, s)) m kk q) (some (.int (-1)), (mk_M (cT im le ln ys vt nu nn (rf.set 1 (kg rf 1 + 1)) vw vq yc yh yg) (kr (he, ke, ki, fi, fa, or, mi, a, g, l, w, s)) m kk q)) := by
  have hst2 : s ≤ 999 := hA.2
  have v7 : mi ≤ 5 := hA.1.2.2.2.2.2.2.1
  have b3 : ln ≤ 96 := hB.2.2
  have c3 : nn ≤ 16 := hC.2.2
  refine mr_seg 2 (pc1 := 2) (ls1 := [some (.ref 100), some (.int x), some (.int y)]) (st1 := [.int x, .ref 100]) (M1 := (mk_M (cT im le ln ys vt nu nn rf vw vq yc yh yg) (kr (he, ke, ki, fi, fa, or, mi, a, g, l, w, s)) m kk q)) (fun f => rfl) ?_
  refine mr_call (y := 61) (y0 := 5) (L := [some (.ref 100), some (.int x)]) (rest := []) (rr := some (.int 0)) (M1 := (mk_M (cT im le ln ys vt nu nn rf vw vq yc yh yg) (kr (he, ke, ki, fi, fa, or, mi, a, g, l, w, s)) m kk q)) (fun f => rfl) (ms_m1_lo (x := x) (mz_lt_t 0 (by decide) (by omega))) ?_
  refine mr_seg 3 (pc1 := 10) (ls1 := [some (.ref 100), some (.int x), some (.int y)]) (st1 := [.int (-1), .ref 100]) (M1 := (mk_M (cT im le ln ys vt nu nn rf vw vq yc yh yg) (kr (he, ke, ki, fi, fa, or, mi, a, g, l, w, s)) m kk q)) (fun f => rfl) ?_
  refine mr_call (y := 12) (y0 := 13) (L := [some (.ref 100), some (.int (-1))]) (rest := []) (rr := some (.int (-1))) (M1 := (mk_M (cT im le ln ys vt nu nn (rf.set 1 (kg rf 1 + 1)) vw vq yc yh yg) (kr (he, ke, ki, fi, fa, or, mi, a, g, l, w, s)) m kk q)) (fun f => rfl) (ms_re1 hD) ?_
  exact mr_ret 1 (fun f => rfl)
set_option maxRecDepth 100000 in
theorem om_minister_0 (he ke ki fi fa or : List Nat) (mi a g l w s : Nat) (xm xi xw : List Int32) (im : Nat) (le nu rf : List Nat) (ln nn : Nat) (vp : Int32) (xn xc : List Int32) (vs : Int32) (c : cC) (n m kk : kG) (hA : iA (he, ke, ki, fi, fa, or, mi, a, g, l, w, s)) (hB : iB le ln) (hC : iC nu nn) (hD : iD rf) (hR : iR xm xw xn xc) (k1 : xi.length = 52) (x : Int32) (hxu : x.toInt ≤ -1) (y : Int32) : mm_R 155 0 [some (.ref 138), some (.int x), some (.int y)] [] (mk_M c n m kk (rT (he, ke, ki, fi, fa, or, mi, a, g, l, w, s) xm xi xw im le nu rf ln nn vp xn xc vs)) (some (.int (-1)), (mk_M c n m kk (rT (he, ke, ki, fi, fa, or, mi, a, g, l, w, s) xm xi xw im le nu (rf.set 1 (kg rf 1 + 1)) ln nn vp xn xc vs))) := by
  have hst2 : s ≤ 999 := hA.2
  have v7 : mi ≤ 5 := hA.1.2.2.2.2.2.2.1
  have b3 : ln ≤ 96 := hB.2.2
  have c3 : nn ≤ 16 := hC.2.2
  refine mr_seg 2 (pc1 := 2) (ls1 := [some (.ref 138), some (.int x), some (.int y)]) (st1 := [.int x, .ref 138]) (M1 := (mk_M c n m kk (rT (he, ke, ki, fi, fa, or, mi, a, g, l, w, s) xm xi xw im le nu rf ln nn vp xn xc vs))) (fun f => rfl) ?_
  refine mr_call (y := 142) (y0 := 5) (L := [some (.ref 138), some (.int x)]) (rest := []) (rr := some (.int 0)) (M1 := (mk_M c n m kk (rT (he, ke, ki, fi, fa, or, mi, a, g, l, w, s) xm xi xw im le nu rf ln nn vp xn xc vs))) (fun f => rfl) (ms_m2_lo (x := x) (mz_lt_t 0 (by decide) (by omega))) ?_
  refine mr_seg 3 (pc1 := 10) (ls1 := [some (.ref 138), some (.int x), some (.int y)]) (st1 := [.int (-1), .ref 138]) (M1 := (mk_M c n m kk (rT (he, ke, ki, fi, fa, or, mi, a, g, l, w, s) xm xi xw im le nu rf ln nn vp xn xc vs))) (fun f => rfl) ?_
  refine mr_call (y := 130) (y0 := 13) (L := [some (.ref 138), some (.int (-1))]) (rest := []) (rr := some (.int (-1))) (M1 := (mk_M c n m kk (rT (he, ke, ki, fi, fa, or, mi, a, g, l, w, s) xm xi xw im le nu (rf.set 1 (kg rf 1 + 1)) ln nn vp xn xc vs))) (fun f => rfl) (ms_no1 hD) ?_
  exact mr_ret 1 (fun f => rfl)
theorem oe_minister_0 (he ke ki fi fa or : List Nat) (mi a g l w s : Nat) (m : kG) (kk : kG) (im : Nat) (le : List Nat) (ln : Nat) (ys : List Int32) (vt : Int32) (nu : List Nat) (nn : Nat) (rf : List Nat) (vw : Int32) (vq : Int32) (yc : List Int32) (yh : List Int32) (yg : List Int32) (xm : List Int32) (xi : List Int32) (xw : List Int32) (vp : Int32) (xn : List Int32) (xc : List Int32) (vs : Int32) (hA : iA (he, ke, ki, fi, fa, or, mi, a, g, l, w, s)) (hB : iB le ln) (hC : iC nu nn) (hD : iD rf) (hJ : iJ m ys yc yh yg) (hR : iR xm xw xn xc) (hK : iK im kk xi) (x : Int32) (hxu : x.toInt ≤ -1) (y : Int32) : oI 60 155 [some (.ref 100), some (.int x), some (.int y)] [some (.ref 138), some (.int x), some (.int y)] (mk_M (cT im le ln ys vt nu nn rf vw vq yc yh yg) (kr (he, ke, ki, fi, fa, or, mi, a, g, l, w, s)) m kk (rT (he, ke, ki, fi, fa, or, mi, a, g, l, w, s) xm xi xw im le nu rf ln nn vp xn xc vs)) := by
  exact ⟨(-1), _, _, oc_minister_0 he ke ki fi fa or mi a g l w s im le ln ys vt nu nn rf vw vq yc yh yg m kk _ hA hB hC hD hJ hK.1 x hxu y, om_minister_0 he ke ki fi fa or mi a g l w s xm xi xw im le nu rf ln nn vp xn xc vs _ _ _ _ hA hB hC hD hR hK.2.1 x hxu y, (he, ke, ki, fi, fa, or, mi, a, g, l, w, s), m, kk, im, le, ln, ys, vt, nu, nn, (rf.set 1 (kg rf 1 + 1)), vw, vq, yc, yh, yg, xm, xi, xw, vp, xn, xc, vs, rfl, hA, hB, hC, iD_s hD, hJ, hR, hK⟩
set_option maxRecDepth 100000 in
theorem oc_minister_1 (he ke ki fi fa or : List Nat) (mi a g l w s : Nat) (im : Nat) (le : List Nat) (ln : Nat) (ys : List Int32) (vt : Int32) (nu : List Nat) (nn : Nat) (rf : List Nat) (vw vq : Int32) (yc yh yg : List Int32) (m kk : kG) (q : cR) (hA : iA (he, ke, ki, fi, fa, or, mi, a, g, l, w, s)) (hB : iB le ln) (hC : iC nu nn) (hD : iD rf) (hJ : iJ m ys yc yh yg) (k0 : kSh kk) (x : Int32) (hx : nI mi ≤ x) (y : Int32) : mm_R 60 0 [some (.ref 100), some (.int x), some (.int y)] [] (mk_M (cT im le ln ys vt nu nn rf vw vq yc yh yg) (kr (he, ke, ki, fi, fa, or, mi, a, g, l, w, s)) m kk q) (some (.int (-1)), (mk_M (cT im le ln ys vt nu nn (rf.set 1 (kg rf 1 + 1)) vw vq yc yh yg) (kr (he, ke, ki, fi, fa, or, mi, a, g, l, w, s)) m kk q)) := by
  have hst2 : s ≤ 999 := hA.2
  have v7 : mi ≤ 5 := hA.1.2.2.2.2.2.2.1
  have b3 : ln ≤ 96 := hB.2.2
  have c3 : nn ≤ 16 := hC.2.2
  refine mr_seg 2 (pc1 := 2) (ls1 := [some (.ref 100), some (.int x), some (.int y)]) (st1 := [.int x, .ref 100]) (M1 := (mk_M (cT im le ln ys vt nu nn rf vw vq yc yh yg) (kr (he, ke, ki, fi, fa, or, mi, a, g, l, w, s)) m kk q)) (fun f => rfl) ?_
  refine mr_call (y := 61) (y0 := 5) (L := [some (.ref 100), some (.int x)]) (rest := []) (rr := some (.int 0)) (M1 := (mk_M (cT im le ln ys vt nu nn rf vw vq yc yh yg) (kr (he, ke, ki, fi, fa, or, mi, a, g, l, w, s)) m kk q)) (fun f => rfl) (ms_m1_hi (x := x) (k_nneg v7 hx) (hx)) ?_
  refine mr_seg 3 (pc1 := 10) (ls1 := [some (.ref 100), some (.int x), some (.int y)]) (st1 := [.int (-1), .ref 100]) (M1 := (mk_M (cT im le ln ys vt nu nn rf vw vq yc yh yg) (kr (he, ke, ki, fi, fa, or, mi, a, g, l, w, s)) m kk q)) (fun f => rfl) ?_
  refine mr_call (y := 12) (y0 := 13) (L := [some (.ref 100), some (.int (-1))]) (rest := []) (rr := some (.int (-1))) (M1 := (mk_M (cT im le ln ys vt nu nn (rf.set 1 (kg rf 1 + 1)) vw vq yc yh yg) (kr (he, ke, ki, fi, fa, or, mi, a, g, l, w, s)) m kk q)) (fun f => rfl) (ms_re1 hD) ?_
  exact mr_ret 1 (fun f => rfl)
set_option maxRecDepth 100000 in
theorem om_minister_1 (he ke ki fi fa or : List Nat) (mi a g l w s : Nat) (xm xi xw : List Int32) (im : Nat) (le nu rf : List Nat) (ln nn : Nat) (vp : Int32) (xn xc : List Int32) (vs : Int32) (c : cC) (n m kk : kG) (hA : iA (he, ke, ki, fi, fa, or, mi, a, g, l, w, s)) (hB : iB le ln) (hC : iC nu nn) (hD : iD rf) (hR : iR xm xw xn xc) (k1 : xi.length = 52) (x : Int32) (hx : nI mi ≤ x) (y : Int32) : mm_R 155 0 [some (.ref 138), some (.int x), some (.int y)] [] (mk_M c n m kk (rT (he, ke, ki, fi, fa, or, mi, a, g, l, w, s) xm xi xw im le nu rf ln nn vp xn xc vs)) (some (.int (-1)), (mk_M c n m kk (rT (he, ke, ki, fi, fa, or, mi, a, g, l, w, s) xm xi xw im le nu (rf.set 1 (kg rf 1 + 1)) ln nn vp xn xc vs))) := by
  have hst2 : s ≤ 999 := hA.2
  have v7 : mi ≤ 5 := hA.1.2.2.2.2.2.2.1
  have b3 : ln ≤ 96 := hB.2.2
  have c3 : nn ≤ 16 := hC.2.2
  refine mr_seg 2 (pc1 := 2) (ls1 := [some (.ref 138), some (.int x), some (.int y)]) (st1 := [.int x, .ref 138]) (M1 := (mk_M c n m kk (rT (he, ke, ki, fi, fa, or, mi, a, g, l, w, s) xm xi xw im le nu rf ln nn vp xn xc vs))) (fun f => rfl) ?_
  refine mr_call (y := 142) (y0 := 5) (L := [some (.ref 138), some (.int x)]) (rest := []) (rr := some (.int 0)) (M1 := (mk_M c n m kk (rT (he, ke, ki, fi, fa, or, mi, a, g, l, w, s) xm xi xw im le nu rf ln nn vp xn xc vs))) (fun f => rfl) (ms_m2_hi (x := x) (b := (nI mi) - 1) rfl (k_nneg v7 hx) (k_gem v7 hx)) ?_
  refine mr_seg 3 (pc1 := 10) (ls1 := [some (.ref 138), some (.int x), some (.int y)]) (st1 := [.int (-1), .ref 138]) (M1 := (mk_M c n m kk (rT (he, ke, ki, fi, fa, or, mi, a, g, l, w, s) xm xi xw im le nu rf ln nn vp xn xc vs))) (fun f => rfl) ?_
  refine mr_call (y := 130) (y0 := 13) (L := [some (.ref 138), some (.int (-1))]) (rest := []) (rr := some (.int (-1))) (M1 := (mk_M c n m kk (rT (he, ke, ki, fi, fa, or, mi, a, g, l, w, s) xm xi xw im le nu (rf.set 1 (kg rf 1 + 1)) ln nn vp xn xc vs))) (fun f => rfl) (ms_no1 hD) ?_
  exact mr_ret 1 (fun f => rfl)
theorem oe_minister_1 (he ke ki fi fa or : List Nat) (mi a g l w s : Nat) (m : kG) (kk : kG) (im : Nat) (le : List Nat) (ln : Nat) (ys : List Int32) (vt : Int32) (nu : List Nat) (nn : Nat) (rf : List Nat) (vw : Int32) (vq : Int32) (yc : List Int32) (yh : List Int32) (yg : List Int32) (xm : List Int32) (xi : List Int32) (xw : List Int32) (vp : Int32) (xn : List Int32) (xc : List Int32) (vs : Int32) (hA : iA (he, ke, ki, fi, fa, or, mi, a, g, l, w, s)) (hB : iB le ln) (hC : iC nu nn) (hD : iD rf) (hJ : iJ m ys yc yh yg) (hR : iR xm xw xn xc) (hK : iK im kk xi) (x : Int32) (hx : nI mi ≤ x) (y : Int32) : oI 60 155 [some (.ref 100), some (.int x), some (.int y)] [some (.ref 138), some (.int x), some (.int y)] (mk_M (cT im le ln ys vt nu nn rf vw vq yc yh yg) (kr (he, ke, ki, fi, fa, or, mi, a, g, l, w, s)) m kk (rT (he, ke, ki, fi, fa, or, mi, a, g, l, w, s) xm xi xw im le nu rf ln nn vp xn xc vs)) := by
  exact ⟨(-1), _, _, oc_minister_1 he ke ki fi fa or mi a g l w s im le ln ys vt nu nn rf vw vq yc yh yg m kk _ hA hB hC hD hJ hK.1 x hx y, om_minister_1 he ke ki fi fa or mi a g l w s xm xi xw im le nu rf ln nn vp xn xc vs _ _ _ _ hA hB hC hD hR hK.2.1 x hx y, (he, ke, ki, fi, fa, or, mi, a, g, l, w, s), m, kk, im, le, ln, ys, vt, nu, nn, (rf.set 1 (kg rf 1 + 1)), vw, vq, yc, yh, yg, xm, xi, xw, vp, xn, xc, vs, rfl, hA, hB, hC, iD_s hD, hJ, hR, hK⟩
set_option maxRecDepth 100000 in
theorem oc_minister_2 (he ke ki fi fa or : List Nat) (mi a g l w s : Nat) (im : Nat) (le : List Nat) (ln : Nat) (ys : List Int32) (vt : Int32) (nu : List Nat) (nn : Nat) (rf : List Nat) (vw vq : Int32) (yc yh yg : List Int32) (m kk : kG) (q : cR) (hA : iA (he, ke, ki, fi, fa, or, mi, a, g, l, w, s)) (hB : iB le ln) (hC : iC nu nn) (hD : iD rf) (hJ : iJ m ys yc yh yg) (k0 : kSh kk) (p : Nat) (hp : p < mi) (y : Int32) (hyu : y.toInt ≤ -1) : mm_R 60 0 [some (.ref 100), some (.int (nI p)), some (.int y)] [] (mk_M (cT im le ln ys vt nu nn rf vw vq yc yh yg) (kr (he, ke, ki, fi, fa, or, mi, a, g, l, w, s)) m kk q) (some (.int (-2)), (mk_M (cT im le ln ys vt nu nn (rf.set 2 (kg rf 2 + 1)) vw vq yc yh yg) (kr (he, ke, ki, fi, fa, or, mi, a, g, l, w, s)) m kk q)) := by
  have hst2 : s ≤ 999 := hA.2
  have v7 : mi ≤ 5 := hA.1.2.2.2.2.2.2.1
  have b3 : ln ≤ 96 := hB.2.2
  have c3 : nn ≤ 16 := hC.2.2
  refine mr_seg 2 (pc1 := 2) (ls1 := [some (.ref 100), some (.int (nI p)), some (.int y)]) (st1 := [.int (nI p), .ref 100]) (M1 := (mk_M (cT im le ln ys vt nu nn rf vw vq yc yh yg) (kr (he, ke, ki, fi, fa, or, mi, a, g, l, w, s)) m kk q)) (fun f => rfl) ?_
  refine mr_call (y := 61) (y0 := 5) (L := [some (.ref 100), some (.int (nI p))]) (rest := []) (rr := some (.int 1)) (M1 := (mk_M (cT im le ln ys vt nu nn rf vw vq yc yh yg) (kr (he, ke, ki, fi, fa, or, mi, a, g, l, w, s)) m kk q)) (fun f => rfl) (ms_m1_ok (x := (nI p)) (nI_ltf (a := p) (b := 0) (by omega)) (nI_lef (a := mi) (b := p) (by omega))) ?_
  refine mr_seg 2 (pc1 := 15) (ls1 := [some (.ref 100), some (.int (nI p)), some (.int y)]) (st1 := [.int y]) (M1 := (mk_M (cT im le ln ys vt nu nn rf vw vq yc yh yg) (kr (he, ke, ki, fi, fa, or, mi, a, g, l, w, s)) m kk q)) (fun f => rfl) ?_
  refine mr_tsw (t1 := 96) rfl (by omega) (by decide) ?_
  refine mr_seg 2 (pc1 := 99) (ls1 := [some (.ref 100), some (.int (nI p)), some (.int y)]) (st1 := [.int (-2), .ref 100]) (M1 := (mk_M (cT im le ln ys vt nu nn rf vw vq yc yh yg) (kr (he, ke, ki, fi, fa, or, mi, a, g, l, w, s)) m kk q)) (fun f => rfl) ?_
  refine mr_call (y := 12) (y0 := 102) (L := [some (.ref 100), some (.int (-2))]) (rest := []) (rr := some (.int (-2))) (M1 := (mk_M (cT im le ln ys vt nu nn (rf.set 2 (kg rf 2 + 1)) vw vq yc yh yg) (kr (he, ke, ki, fi, fa, or, mi, a, g, l, w, s)) m kk q)) (fun f => rfl) (ms_re2 hD) ?_
  exact mr_ret 1 (fun f => rfl)
set_option maxRecDepth 100000 in
theorem om_minister_2 (he ke ki fi fa or : List Nat) (mi a g l w s : Nat) (xm xi xw : List Int32) (im : Nat) (le nu rf : List Nat) (ln nn : Nat) (vp : Int32) (xn xc : List Int32) (vs : Int32) (c : cC) (n m kk : kG) (hA : iA (he, ke, ki, fi, fa, or, mi, a, g, l, w, s)) (hB : iB le ln) (hC : iC nu nn) (hD : iD rf) (hR : iR xm xw xn xc) (k1 : xi.length = 52) (p : Nat) (hp : p < mi) (y : Int32) (hyu : y.toInt ≤ -1) : mm_R 155 0 [some (.ref 138), some (.int (nI p)), some (.int y)] [] (mk_M c n m kk (rT (he, ke, ki, fi, fa, or, mi, a, g, l, w, s) xm xi xw im le nu rf ln nn vp xn xc vs)) (some (.int (-2)), (mk_M c n m kk (rT (he, ke, ki, fi, fa, or, mi, a, g, l, w, s) xm xi xw im le nu (rf.set 2 (kg rf 2 + 1)) ln nn vp xn xc vs))) := by
  have hst2 : s ≤ 999 := hA.2
  have v7 : mi ≤ 5 := hA.1.2.2.2.2.2.2.1
  have b3 : ln ≤ 96 := hB.2.2
  have c3 : nn ≤ 16 := hC.2.2
  refine mr_seg 2 (pc1 := 2) (ls1 := [some (.ref 138), some (.int (nI p)), some (.int y)]) (st1 := [.int (nI p), .ref 138]) (M1 := (mk_M c n m kk (rT (he, ke, ki, fi, fa, or, mi, a, g, l, w, s) xm xi xw im le nu rf ln nn vp xn xc vs))) (fun f => rfl) ?_
  refine mr_call (y := 142) (y0 := 5) (L := [some (.ref 138), some (.int (nI p))]) (rest := []) (rr := some (.int 1)) (M1 := (mk_M c n m kk (rT (he, ke, ki, fi, fa, or, mi, a, g, l, w, s) xm xi xw im le nu rf ln nn vp xn xc vs))) (fun f => rfl) (ms_m2_ok (x := (nI p)) (b := (nI (mi - 1))) (pk_sub (a := mi) (b := 1) (by omega)) (nI_ltf (a := p) (b := 0) (by omega)) (nI_ltf (a := mi - 1) (b := p) (by omega))) ?_
  refine mr_seg 4 (pc1 := 17) (ls1 := [some (.ref 138), some (.int (nI p)), some (.int y)]) (st1 := [.int 2, .int 0, .int y]) (M1 := (mk_M c n m kk (rT (he, ke, ki, fi, fa, or, mi, a, g, l, w, s) xm xi xw im le nu rf ln nn vp xn xc vs))) (fun f => rfl) ?_
  refine mr_call (y := 135) (y0 := 20) (L := [some (.int y), some (.int 0), some (.int 2)]) (rest := []) (rr := some (.int 0)) (M1 := (mk_M c n m kk (rT (he, ke, ki, fi, fa, or, mi, a, g, l, w, s) xm xi xw im le nu rf ln nn vp xn xc vs))) (fun f => rfl) (ms_in_lo (x := y) (a := 0) (b := 2) (mz_lt_t 0 (by decide) (by omega))) ?_
  refine mr_seg 3 (pc1 := 36) (ls1 := [some (.ref 138), some (.int (nI p)), some (.int y)]) (st1 := [.int 3, .int y]) (M1 := (mk_M c n m kk (rT (he, ke, ki, fi, fa, or, mi, a, g, l, w, s) xm xi xw im le nu rf ln nn vp xn xc vs))) (fun f => rfl) ?_
  refine mr_f (C := y = 3) (mz_eq_f 3 (by decide) (by omega)) (fun f => rfl) ?_
  refine mr_seg 2 (pc1 := 52) (ls1 := [some (.ref 138), some (.int (nI p)), some (.int y)]) (st1 := [.int 4, .int y]) (M1 := (mk_M c n m kk (rT (he, ke, ki, fi, fa, or, mi, a, g, l, w, s) xm xi xw im le nu rf ln nn vp xn xc vs))) (fun f => rfl) ?_
  refine mr_f (C := y = 4) (mz_eq_f 4 (by decide) (by omega)) (fun f => rfl) ?_
  refine mr_seg 2 (pc1 := 69) (ls1 := [some (.ref 138), some (.int (nI p)), some (.int y)]) (st1 := [.int (-2), .ref 138]) (M1 := (mk_M c n m kk (rT (he, ke, ki, fi, fa, or, mi, a, g, l, w, s) xm xi xw im le nu rf ln nn vp xn xc vs))) (fun f => rfl) ?_
  refine mr_call (y := 130) (y0 := 72) (L := [some (.ref 138), some (.int (-2))]) (rest := []) (rr := some (.int (-2))) (M1 := (mk_M c n m kk (rT (he, ke, ki, fi, fa, or, mi, a, g, l, w, s) xm xi xw im le nu (rf.set 2 (kg rf 2 + 1)) ln nn vp xn xc vs))) (fun f => rfl) (ms_no2 hD) ?_
  exact mr_ret 1 (fun f => rfl)
theorem oe_minister_2 (he ke ki fi fa or : List Nat) (mi a g l w s : Nat) (m : kG) (kk : kG) (im : Nat) (le : List Nat) (ln : Nat) (ys : List Int32) (vt : Int32) (nu : List Nat) (nn : Nat) (rf : List Nat) (vw : Int32) (vq : Int32) (yc : List Int32) (yh : List Int32) (yg : List Int32) (xm : List Int32) (xi : List Int32) (xw : List Int32) (vp : Int32) (xn : List Int32) (xc : List Int32) (vs : Int32) (hA : iA (he, ke, ki, fi, fa, or, mi, a, g, l, w, s)) (hB : iB le ln) (hC : iC nu nn) (hD : iD rf) (hJ : iJ m ys yc yh yg) (hR : iR xm xw xn xc) (hK : iK im kk xi) (p : Nat) (hp : p < mi) (y : Int32) (hyu : y.toInt ≤ -1) : oI 60 155 [some (.ref 100), some (.int (nI p)), some (.int y)] [some (.ref 138), some (.int (nI p)), some (.int y)] (mk_M (cT im le ln ys vt nu nn rf vw vq yc yh yg) (kr (he, ke, ki, fi, fa, or, mi, a, g, l, w, s)) m kk (rT (he, ke, ki, fi, fa, or, mi, a, g, l, w, s) xm xi xw im le nu rf ln nn vp xn xc vs)) := by
  exact ⟨(-2), _, _, oc_minister_2 he ke ki fi fa or mi a g l w s im le ln ys vt nu nn rf vw vq yc yh yg m kk _ hA hB hC hD hJ hK.1 p hp y hyu, om_minister_2 he ke ki fi fa or mi a g l w s xm xi xw im le nu rf ln nn vp xn xc vs _ _ _ _ hA hB hC hD hR hK.2.1 p hp y hyu, (he, ke, ki, fi, fa, or, mi, a, g, l, w, s), m, kk, im, le, ln, ys, vt, nu, nn, (rf.set 2 (kg rf 2 + 1)), vw, vq, yc, yh, yg, xm, xi, xw, vp, xn, xc, vs, rfl, hA, hB, hC, iD_s hD, hJ, hR, hK⟩
set_option maxRecDepth 100000 in
theorem oc_minister_3 (he ke ki fi fa or : List Nat) (mi a g l w s : Nat) (im : Nat) (le : List Nat) (ln : Nat) (ys : List Int32) (vt : Int32) (nu : List Nat) (nn : Nat) (rf : List Nat) (vw vq : Int32) (yc yh yg : List Int32) (m kk : kG) (q : cR) (hA : iA (he, ke, ki, fi, fa, or, mi, a, g, l, w, s)) (hB : iB le ln) (hC : iC nu nn) (hD : iD rf) (hJ : iJ m ys yc yh yg) (k0 : kSh kk) (p : Nat) (hp : p < mi) (y : Int32) (hyl : 5 ≤ y.toInt) : mm_R 60 0 [some (.ref 100), some (.int (nI p)), some (.int y)] [] (mk_M (cT im le ln ys vt nu nn rf vw vq yc yh yg) (kr (he, ke, ki, fi, fa, or, mi, a, g, l, w, s)) m kk q) (some (.int (-2)), (mk_M (cT im le ln ys vt nu nn (rf.set 2 (kg rf 2 + 1)) vw vq yc yh yg) (kr (he, ke, ki, fi, fa, or, mi, a, g, l, w, s)) m kk q)) := by
  have hst2 : s ≤ 999 := hA.2
  have v7 : mi ≤ 5 := hA.1.2.2.2.2.2.2.1
  have b3 : ln ≤ 96 := hB.2.2
  have c3 : nn ≤ 16 := hC.2.2
  refine mr_seg 2 (pc1 := 2) (ls1 := [some (.ref 100), some (.int (nI p)), some (.int y)]) (st1 := [.int (nI p), .ref 100]) (M1 := (mk_M (cT im le ln ys vt nu nn rf vw vq yc yh yg) (kr (he, ke, ki, fi, fa, or, mi, a, g, l, w, s)) m kk q)) (fun f => rfl) ?_
  refine mr_call (y := 61) (y0 := 5) (L := [some (.ref 100), some (.int (nI p))]) (rest := []) (rr := some (.int 1)) (M1 := (mk_M (cT im le ln ys vt nu nn rf vw vq yc yh yg) (kr (he, ke, ki, fi, fa, or, mi, a, g, l, w, s)) m kk q)) (fun f => rfl) (ms_m1_ok (x := (nI p)) (nI_ltf (a := p) (b := 0) (by omega)) (nI_lef (a := mi) (b := p) (by omega))) ?_
  refine mr_seg 2 (pc1 := 15) (ls1 := [some (.ref 100), some (.int (nI p)), some (.int y)]) (st1 := [.int y]) (M1 := (mk_M (cT im le ln ys vt nu nn rf vw vq yc yh yg) (kr (he, ke, ki, fi, fa, or, mi, a, g, l, w, s)) m kk q)) (fun f => rfl) ?_
  refine mr_tsw (t1 := 96) rfl (by omega) (by decide) ?_
  refine mr_seg 2 (pc1 := 99) (ls1 := [some (.ref 100), some (.int (nI p)), some (.int y)]) (st1 := [.int (-2), .ref 100]) (M1 := (mk_M (cT im le ln ys vt nu nn rf vw vq yc yh yg) (kr (he, ke, ki, fi, fa, or, mi, a, g, l, w, s)) m kk q)) (fun f => rfl) ?_
  refine mr_call (y := 12) (y0 := 102) (L := [some (.ref 100), some (.int (-2))]) (rest := []) (rr := some (.int (-2))) (M1 := (mk_M (cT im le ln ys vt nu nn (rf.set 2 (kg rf 2 + 1)) vw vq yc yh yg) (kr (he, ke, ki, fi, fa, or, mi, a, g, l, w, s)) m kk q)) (fun f => rfl) (ms_re2 hD) ?_
  exact mr_ret 1 (fun f => rfl)
set_option maxRecDepth 100000 in
theorem om_minister_3 (he ke ki fi fa or : List Nat) (mi a g l w s : Nat) (xm xi xw : List Int32) (im : Nat) (le nu rf : List Nat) (ln nn : Nat) (vp : Int32) (xn xc : List Int32) (vs : Int32) (c : cC) (n m kk : kG) (hA : iA (he, ke, ki, fi, fa, or, mi, a, g, l, w, s)) (hB : iB le ln) (hC : iC nu nn) (hD : iD rf) (hR : iR xm xw xn xc) (k1 : xi.length = 52) (p : Nat) (hp : p < mi) (y : Int32) (hyl : 5 ≤ y.toInt) : mm_R 155 0 [some (.ref 138), some (.int (nI p)), some (.int y)] [] (mk_M c n m kk (rT (he, ke, ki, fi, fa, or, mi, a, g, l, w, s) xm xi xw im le nu rf ln nn vp xn xc vs)) (some (.int (-2)), (mk_M c n m kk (rT (he, ke, ki, fi, fa, or, mi, a, g, l, w, s) xm xi xw im le nu (rf.set 2 (kg rf 2 + 1)) ln nn vp xn xc vs))) := by
  have hst2 : s ≤ 999 := hA.2
  have v7 : mi ≤ 5 := hA.1.2.2.2.2.2.2.1
  have b3 : ln ≤ 96 := hB.2.2
  have c3 : nn ≤ 16 := hC.2.2
  refine mr_seg 2 (pc1 := 2) (ls1 := [some (.ref 138), some (.int (nI p)), some (.int y)]) (st1 := [.int (nI p), .ref 138]) (M1 := (mk_M c n m kk (rT (he, ke, ki, fi, fa, or, mi, a, g, l, w, s) xm xi xw im le nu rf ln nn vp xn xc vs))) (fun f => rfl) ?_
  refine mr_call (y := 142) (y0 := 5) (L := [some (.ref 138), some (.int (nI p))]) (rest := []) (rr := some (.int 1)) (M1 := (mk_M c n m kk (rT (he, ke, ki, fi, fa, or, mi, a, g, l, w, s) xm xi xw im le nu rf ln nn vp xn xc vs))) (fun f => rfl) (ms_m2_ok (x := (nI p)) (b := (nI (mi - 1))) (pk_sub (a := mi) (b := 1) (by omega)) (nI_ltf (a := p) (b := 0) (by omega)) (nI_ltf (a := mi - 1) (b := p) (by omega))) ?_
  refine mr_seg 4 (pc1 := 17) (ls1 := [some (.ref 138), some (.int (nI p)), some (.int y)]) (st1 := [.int 2, .int 0, .int y]) (M1 := (mk_M c n m kk (rT (he, ke, ki, fi, fa, or, mi, a, g, l, w, s) xm xi xw im le nu rf ln nn vp xn xc vs))) (fun f => rfl) ?_
  refine mr_call (y := 135) (y0 := 20) (L := [some (.int y), some (.int 0), some (.int 2)]) (rest := []) (rr := some (.int 0)) (M1 := (mk_M c n m kk (rT (he, ke, ki, fi, fa, or, mi, a, g, l, w, s) xm xi xw im le nu rf ln nn vp xn xc vs))) (fun f => rfl) (ms_in_hi (x := y) (a := 0) (b := 2) (mz_lt_f 0 (by decide) (by omega)) (mz_gt_t 2 (by decide) (by omega))) ?_
  refine mr_seg 3 (pc1 := 36) (ls1 := [some (.ref 138), some (.int (nI p)), some (.int y)]) (st1 := [.int 3, .int y]) (M1 := (mk_M c n m kk (rT (he, ke, ki, fi, fa, or, mi, a, g, l, w, s) xm xi xw im le nu rf ln nn vp xn xc vs))) (fun f => rfl) ?_
  refine mr_f (C := y = 3) (mz_eq_f 3 (by decide) (by omega)) (fun f => rfl) ?_
  refine mr_seg 2 (pc1 := 52) (ls1 := [some (.ref 138), some (.int (nI p)), some (.int y)]) (st1 := [.int 4, .int y]) (M1 := (mk_M c n m kk (rT (he, ke, ki, fi, fa, or, mi, a, g, l, w, s) xm xi xw im le nu rf ln nn vp xn xc vs))) (fun f => rfl) ?_
  refine mr_f (C := y = 4) (mz_eq_f 4 (by decide) (by omega)) (fun f => rfl) ?_
  refine mr_seg 2 (pc1 := 69) (ls1 := [some (.ref 138), some (.int (nI p)), some (.int y)]) (st1 := [.int (-2), .ref 138]) (M1 := (mk_M c n m kk (rT (he, ke, ki, fi, fa, or, mi, a, g, l, w, s) xm xi xw im le nu rf ln nn vp xn xc vs))) (fun f => rfl) ?_
  refine mr_call (y := 130) (y0 := 72) (L := [some (.ref 138), some (.int (-2))]) (rest := []) (rr := some (.int (-2))) (M1 := (mk_M c n m kk (rT (he, ke, ki, fi, fa, or, mi, a, g, l, w, s) xm xi xw im le nu (rf.set 2 (kg rf 2 + 1)) ln nn vp xn xc vs))) (fun f => rfl) (ms_no2 hD) ?_
  exact mr_ret 1 (fun f => rfl)
theorem oe_minister_3 (he ke ki fi fa or : List Nat) (mi a g l w s : Nat) (m : kG) (kk : kG) (im : Nat) (le : List Nat) (ln : Nat) (ys : List Int32) (vt : Int32) (nu : List Nat) (nn : Nat) (rf : List Nat) (vw : Int32) (vq : Int32) (yc : List Int32) (yh : List Int32) (yg : List Int32) (xm : List Int32) (xi : List Int32) (xw : List Int32) (vp : Int32) (xn : List Int32) (xc : List Int32) (vs : Int32) (hA : iA (he, ke, ki, fi, fa, or, mi, a, g, l, w, s)) (hB : iB le ln) (hC : iC nu nn) (hD : iD rf) (hJ : iJ m ys yc yh yg) (hR : iR xm xw xn xc) (hK : iK im kk xi) (p : Nat) (hp : p < mi) (y : Int32) (hyl : 5 ≤ y.toInt) : oI 60 155 [some (.ref 100), some (.int (nI p)), some (.int y)] [some (.ref 138), some (.int (nI p)), some (.int y)] (mk_M (cT im le ln ys vt nu nn rf vw vq yc yh yg) (kr (he, ke, ki, fi, fa, or, mi, a, g, l, w, s)) m kk (rT (he, ke, ki, fi, fa, or, mi, a, g, l, w, s) xm xi xw im le nu rf ln nn vp xn xc vs)) := by
  exact ⟨(-2), _, _, oc_minister_3 he ke ki fi fa or mi a g l w s im le ln ys vt nu nn rf vw vq yc yh yg m kk _ hA hB hC hD hJ hK.1 p hp y hyl, om_minister_3 he ke ki fi fa or mi a g l w s xm xi xw im le nu rf ln nn vp xn xc vs _ _ _ _ hA hB hC hD hR hK.2.1 p hp y hyl, (he, ke, ki, fi, fa, or, mi, a, g, l, w, s), m, kk, im, le, ln, ys, vt, nu, nn, (rf.set 2 (kg rf 2 + 1)), vw, vq, yc, yh, yg, xm, xi, xw, vp, xn, xc, vs, rfl, hA, hB, hC, iD_s hD, hJ, hR, hK⟩
set_option maxRecDepth 100000 in
theorem oc_minister_4 (he ke ki fi fa or : List Nat) (mi a g l w s : Nat) (im : Nat) (le : List Nat) (ln : Nat) (ys : List Int32) (vt : Int32) (nu : List Nat) (nn : Nat) (rf : List Nat) (vw vq : Int32) (yc yh yg : List Int32) (m kk : kG) (q : cR) (hA : iA (he, ke, ki, fi, fa, or, mi, a, g, l, w, s)) (hB : iB le ln) (hC : iC nu nn) (hD : iD rf) (hJ : iJ m ys yc yh yg) (k0 : kSh kk) (p : Nat) (hp : p < mi) : mm_R 60 0 [some (.ref 100), some (.int (nI p)), some (.int 0)] [] (mk_M (cT im le ln ys vt nu nn rf vw vq yc yh yg) (kr (he, ke, ki, fi, fa, or, mi, a, g, l, w, s)) m kk q) (some (.int (nI (kg ki p))), (mk_M (cT im le ln ys vt nu nn rf vw vq yc yh yg) (kr (he, ke, ki, fi, fa, or, mi, a, g, l, w, s)) m kk q)) := by
  obtain ⟨hV, hst⟩ := id hA
  have hst2 : s ≤ 999 := hst
  obtain ⟨v1, v2, v3, v4, v5, v6, v7, v8, v9, v10, v11, v12, v13, v14, v15, v16⟩ := id hV
  have v6l := kO_len mi v7 or v6
  obtain ⟨b1, b2, b3⟩ := id hB
  obtain ⟨c1, c2, c3⟩ := id hC
  have d1 : rf.length = 7 := hD
  obtain ⟨j0, j1, j2, j3, j4⟩ := id hJ
  have w14 := v14 p
  have w15 := v15 p
  have w16 := v16 p
  refine mr_seg 2 (pc1 := 2) (ls1 := [some (.ref 100), some (.int (nI p)), some (.int 0)]) (st1 := [.int (nI p), .ref 100]) (M1 := (mk_M (cT im le ln ys vt nu nn rf vw vq yc yh yg) (kr (he, ke, ki, fi, fa, or, mi, a, g, l, w, s)) m kk q)) (fun f => rfl) ?_
  refine mr_call (y := 61) (y0 := 5) (L := [some (.ref 100), some (.int (nI p))]) (rest := []) (rr := some (.int 1)) (M1 := (mk_M (cT im le ln ys vt nu nn rf vw vq yc yh yg) (kr (he, ke, ki, fi, fa, or, mi, a, g, l, w, s)) m kk q)) (fun f => rfl) (ms_m1_ok (x := (nI p)) (nI_ltf (a := p) (b := 0) (by omega)) (nI_lef (a := mi) (b := p) (by omega))) ?_
  refine mr_seg 7 (pc1 := 56) (ls1 := [some (.ref 100), some (.int (nI p)), some (.int 0)]) (st1 := [.int (nI p), .ref 120]) (M1 := (mk_M (cT im le ln ys vt nu nn rf vw vq yc yh yg) (kr (he, ke, ki, fi, fa, or, mi, a, g, l, w, s)) m kk q)) (fun f => rfl) ?_
  refine mr_ldk (l0 := ki) rfl rfl (k := p) (by omega) ?_
  exact mr_ret 1 (fun f => rfl)
set_option maxRecDepth 100000 in
theorem om_minister_4 (he ke ki fi fa or : List Nat) (mi a g l w s : Nat) (xm xi xw : List Int32) (im : Nat) (le nu rf : List Nat) (ln nn : Nat) (vp : Int32) (xn xc : List Int32) (vs : Int32) (c : cC) (n m kk : kG) (hA : iA (he, ke, ki, fi, fa, or, mi, a, g, l, w, s)) (hB : iB le ln) (hC : iC nu nn) (hD : iD rf) (hR : iR xm xw xn xc) (k1 : xi.length = 52) (p : Nat) (hp : p < mi) : mm_R 155 0 [some (.ref 138), some (.int (nI p)), some (.int 0)] [] (mk_M c n m kk (rT (he, ke, ki, fi, fa, or, mi, a, g, l, w, s) xm xi xw im le nu rf ln nn vp xn xc vs)) (some (.int (nI (kg ki p))), (mk_M c n m kk (rT (he, ke, ki, fi, fa, or, mi, a, g, l, w, s) xm xi xw im le nu rf ln nn vp xn xc vs))) := by
  obtain ⟨hV, hst⟩ := id hA
  have hst2 : s ≤ 999 := hst
  obtain ⟨v1, v2, v3, v4, v5, v6, v7, v8, v9, v10, v11, v12, v13, v14, v15, v16⟩ := id hV
  have v6l := kO_len mi v7 or v6
  obtain ⟨b1, b2, b3⟩ := id hB
  obtain ⟨c1, c2, c3⟩ := id hC
  have d1 : rf.length = 7 := hD
  obtain ⟨r1, r2, r3, r4⟩ := id hR
  have w14 := v14 p
  have w15 := v15 p
  have w16 := v16 p
  refine mr_seg 2 (pc1 := 2) (ls1 := [some (.ref 138), some (.int (nI p)), some (.int 0)]) (st1 := [.int (nI p), .ref 138]) (M1 := (mk_M c n m kk (rT (he, ke, ki, fi, fa, or, mi, a, g, l, w, s) xm xi xw im le nu rf ln nn vp xn xc vs))) (fun f => rfl) ?_
  refine mr_call (y := 142) (y0 := 5) (L := [some (.ref 138), some (.int (nI p))]) (rest := []) (rr := some (.int 1)) (M1 := (mk_M c n m kk (rT (he, ke, ki, fi, fa, or, mi, a, g, l, w, s) xm xi xw im le nu rf ln nn vp xn xc vs))) (fun f => rfl) (ms_m2_ok (x := (nI p)) (b := (nI (mi - 1))) (pk_sub (a := mi) (b := 1) (by omega)) (nI_ltf (a := p) (b := 0) (by omega)) (nI_ltf (a := mi - 1) (b := p) (by omega))) ?_
  refine mr_seg 4 (pc1 := 17) (ls1 := [some (.ref 138), some (.int (nI p)), some (.int 0)]) (st1 := [.int 2, .int 0, .int 0]) (M1 := (mk_M c n m kk (rT (he, ke, ki, fi, fa, or, mi, a, g, l, w, s) xm xi xw im le nu rf ln nn vp xn xc vs))) (fun f => rfl) ?_
  refine mr_call (y := 135) (y0 := 20) (L := [some (.int 0), some (.int 0), some (.int 2)]) (rest := []) (rr := some (.int 1)) (M1 := (mk_M c n m kk (rT (he, ke, ki, fi, fa, or, mi, a, g, l, w, s) xm xi xw im le nu rf ln nn vp xn xc vs))) (fun f => rfl) (by
      exact mr_ret 9 (fun f => rfl)) ?_
  refine mr_seg 5 (pc1 := 29) (ls1 := [some (.ref 138), some (.int (nI p)), some (.int 0)]) (st1 := [.int 0, .int (nI p), .ref 139]) (M1 := (mk_M c n m kk (rT (he, ke, ki, fi, fa, or, mi, a, g, l, w, s) xm xi xw im le nu rf ln nn vp xn xc vs))) (fun f => rfl) ?_
  refine mr_call (y := 141) (y0 := 32) (L := [some (.int (nI p)), some (.int 0)]) (rest := [.ref 139]) (rr := some (.int (nI (32 + 3 * p + 0)))) (M1 := (mk_M c n m kk (rT (he, ke, ki, fi, fa, or, mi, a, g, l, w, s) xm xi xw im le nu rf ln nn vp xn xc vs))) (fun f => rfl) (rc_of p 0 (by omega) (by decide) _) ?_
  refine mr_ldn (xs := (er (he, ke, ki, fi, fa, or, mi, a, g, l, w, s))) rfl rfl (k := 32 + 3 * p + 0) (by omega) (er_ki (K := (he, ke, ki, fi, fa, or, mi, a, g, l, w, s)) v1 (by omega)) ?_
  exact mr_ret 1 (fun f => rfl)
theorem oe_minister_4 (he ke ki fi fa or : List Nat) (mi a g l w s : Nat) (m : kG) (kk : kG) (im : Nat) (le : List Nat) (ln : Nat) (ys : List Int32) (vt : Int32) (nu : List Nat) (nn : Nat) (rf : List Nat) (vw : Int32) (vq : Int32) (yc : List Int32) (yh : List Int32) (yg : List Int32) (xm : List Int32) (xi : List Int32) (xw : List Int32) (vp : Int32) (xn : List Int32) (xc : List Int32) (vs : Int32) (hA : iA (he, ke, ki, fi, fa, or, mi, a, g, l, w, s)) (hB : iB le ln) (hC : iC nu nn) (hD : iD rf) (hJ : iJ m ys yc yh yg) (hR : iR xm xw xn xc) (hK : iK im kk xi) (p : Nat) (hp : p < mi) : oI 60 155 [some (.ref 100), some (.int (nI p)), some (.int 0)] [some (.ref 138), some (.int (nI p)), some (.int 0)] (mk_M (cT im le ln ys vt nu nn rf vw vq yc yh yg) (kr (he, ke, ki, fi, fa, or, mi, a, g, l, w, s)) m kk (rT (he, ke, ki, fi, fa, or, mi, a, g, l, w, s) xm xi xw im le nu rf ln nn vp xn xc vs)) := by
  exact ⟨(nI (kg ki p)), _, _, oc_minister_4 he ke ki fi fa or mi a g l w s im le ln ys vt nu nn rf vw vq yc yh yg m kk _ hA hB hC hD hJ hK.1 p hp, om_minister_4 he ke ki fi fa or mi a g l w s xm xi xw im le nu rf ln nn vp xn xc vs _ _ _ _ hA hB hC hD hR hK.2.1 p hp, (he, ke, ki, fi, fa, or, mi, a, g, l, w, s), m, kk, im, le, ln, ys, vt, nu, nn, rf, vw, vq, yc, yh, yg, xm, xi, xw, vp, xn, xc, vs, rfl, hA, hB, hC, hD, hJ, hR, hK⟩
set_option maxRecDepth 100000 in
theorem oc_minister_5 (he ke ki fi fa or : List Nat) (mi a g l w s : Nat) (im : Nat) (le : List Nat) (ln : Nat) (ys : List Int32) (vt : Int32) (nu : List Nat) (nn : Nat) (rf : List Nat) (vw vq : Int32) (yc yh yg : List Int32) (m kk : kG) (q : cR) (hA : iA (he, ke, ki, fi, fa, or, mi, a, g, l, w, s)) (hB : iB le ln) (hC : iC nu nn) (hD : iD rf) (hJ : iJ m ys yc yh yg) (k0 : kSh kk) (p : Nat) (hp : p < mi) : mm_R 60 0 [some (.ref 100), some (.int (nI p)), some (.int 1)] [] (mk_M (cT im le ln ys vt nu nn rf vw vq yc yh yg) (kr (he, ke, ki, fi, fa, or, mi, a, g, l, w, s)) m kk q) (some (.int (nI (kg fi p))), (mk_M (cT im le ln ys vt nu nn rf vw vq yc yh yg) (kr (he, ke, ki, fi, fa, or, mi, a, g, l, w, s)) m kk q)) := by
  obtain ⟨hV, hst⟩ := id hA
  have hst2 : s ≤ 999 := hst
  obtain ⟨v1, v2, v3, v4, v5, v6, v7, v8, v9, v10, v11, v12, v13, v14, v15, v16⟩ := id hV
  have v6l := kO_len mi v7 or v6
  obtain ⟨b1, b2, b3⟩ := id hB
  obtain ⟨c1, c2, c3⟩ := id hC
  have d1 : rf.length = 7 := hD
  obtain ⟨j0, j1, j2, j3, j4⟩ := id hJ
  have w14 := v14 p
  have w15 := v15 p
  have w16 := v16 p
  refine mr_seg 2 (pc1 := 2) (ls1 := [some (.ref 100), some (.int (nI p)), some (.int 1)]) (st1 := [.int (nI p), .ref 100]) (M1 := (mk_M (cT im le ln ys vt nu nn rf vw vq yc yh yg) (kr (he, ke, ki, fi, fa, or, mi, a, g, l, w, s)) m kk q)) (fun f => rfl) ?_
  refine mr_call (y := 61) (y0 := 5) (L := [some (.ref 100), some (.int (nI p))]) (rest := []) (rr := some (.int 1)) (M1 := (mk_M (cT im le ln ys vt nu nn rf vw vq yc yh yg) (kr (he, ke, ki, fi, fa, or, mi, a, g, l, w, s)) m kk q)) (fun f => rfl) (ms_m1_ok (x := (nI p)) (nI_ltf (a := p) (b := 0) (by omega)) (nI_lef (a := mi) (b := p) (by omega))) ?_
  refine mr_seg 7 (pc1 := 66) (ls1 := [some (.ref 100), some (.int (nI p)), some (.int 1)]) (st1 := [.int (nI p), .ref 121]) (M1 := (mk_M (cT im le ln ys vt nu nn rf vw vq yc yh yg) (kr (he, ke, ki, fi, fa, or, mi, a, g, l, w, s)) m kk q)) (fun f => rfl) ?_
  refine mr_ldk (l0 := fi) rfl rfl (k := p) (by omega) ?_
  exact mr_ret 1 (fun f => rfl)
set_option maxRecDepth 100000 in
theorem om_minister_5 (he ke ki fi fa or : List Nat) (mi a g l w s : Nat) (xm xi xw : List Int32) (im : Nat) (le nu rf : List Nat) (ln nn : Nat) (vp : Int32) (xn xc : List Int32) (vs : Int32) (c : cC) (n m kk : kG) (hA : iA (he, ke, ki, fi, fa, or, mi, a, g, l, w, s)) (hB : iB le ln) (hC : iC nu nn) (hD : iD rf) (hR : iR xm xw xn xc) (k1 : xi.length = 52) (p : Nat) (hp : p < mi) : mm_R 155 0 [some (.ref 138), some (.int (nI p)), some (.int 1)] [] (mk_M c n m kk (rT (he, ke, ki, fi, fa, or, mi, a, g, l, w, s) xm xi xw im le nu rf ln nn vp xn xc vs)) (some (.int (nI (kg fi p))), (mk_M c n m kk (rT (he, ke, ki, fi, fa, or, mi, a, g, l, w, s) xm xi xw im le nu rf ln nn vp xn xc vs))) := by
  obtain ⟨hV, hst⟩ := id hA
  have hst2 : s ≤ 999 := hst
  obtain ⟨v1, v2, v3, v4, v5, v6, v7, v8, v9, v10, v11, v12, v13, v14, v15, v16⟩ := id hV
  have v6l := kO_len mi v7 or v6
  obtain ⟨b1, b2, b3⟩ := id hB
  obtain ⟨c1, c2, c3⟩ := id hC
  have d1 : rf.length = 7 := hD
  obtain ⟨r1, r2, r3, r4⟩ := id hR
  have w14 := v14 p
  have w15 := v15 p
  have w16 := v16 p
  refine mr_seg 2 (pc1 := 2) (ls1 := [some (.ref 138), some (.int (nI p)), some (.int 1)]) (st1 := [.int (nI p), .ref 138]) (M1 := (mk_M c n m kk (rT (he, ke, ki, fi, fa, or, mi, a, g, l, w, s) xm xi xw im le nu rf ln nn vp xn xc vs))) (fun f => rfl) ?_
  refine mr_call (y := 142) (y0 := 5) (L := [some (.ref 138), some (.int (nI p))]) (rest := []) (rr := some (.int 1)) (M1 := (mk_M c n m kk (rT (he, ke, ki, fi, fa, or, mi, a, g, l, w, s) xm xi xw im le nu rf ln nn vp xn xc vs))) (fun f => rfl) (ms_m2_ok (x := (nI p)) (b := (nI (mi - 1))) (pk_sub (a := mi) (b := 1) (by omega)) (nI_ltf (a := p) (b := 0) (by omega)) (nI_ltf (a := mi - 1) (b := p) (by omega))) ?_
  refine mr_seg 4 (pc1 := 17) (ls1 := [some (.ref 138), some (.int (nI p)), some (.int 1)]) (st1 := [.int 2, .int 0, .int 1]) (M1 := (mk_M c n m kk (rT (he, ke, ki, fi, fa, or, mi, a, g, l, w, s) xm xi xw im le nu rf ln nn vp xn xc vs))) (fun f => rfl) ?_
  refine mr_call (y := 135) (y0 := 20) (L := [some (.int 1), some (.int 0), some (.int 2)]) (rest := []) (rr := some (.int 1)) (M1 := (mk_M c n m kk (rT (he, ke, ki, fi, fa, or, mi, a, g, l, w, s) xm xi xw im le nu rf ln nn vp xn xc vs))) (fun f => rfl) (by
      exact mr_ret 9 (fun f => rfl)) ?_
  refine mr_seg 5 (pc1 := 29) (ls1 := [some (.ref 138), some (.int (nI p)), some (.int 1)]) (st1 := [.int 1, .int (nI p), .ref 139]) (M1 := (mk_M c n m kk (rT (he, ke, ki, fi, fa, or, mi, a, g, l, w, s) xm xi xw im le nu rf ln nn vp xn xc vs))) (fun f => rfl) ?_
  refine mr_call (y := 141) (y0 := 32) (L := [some (.int (nI p)), some (.int 1)]) (rest := [.ref 139]) (rr := some (.int (nI (32 + 3 * p + 1)))) (M1 := (mk_M c n m kk (rT (he, ke, ki, fi, fa, or, mi, a, g, l, w, s) xm xi xw im le nu rf ln nn vp xn xc vs))) (fun f => rfl) (rc_of p 1 (by omega) (by decide) _) ?_
  refine mr_ldn (xs := (er (he, ke, ki, fi, fa, or, mi, a, g, l, w, s))) rfl rfl (k := 32 + 3 * p + 1) (by omega) (er_fi (K := (he, ke, ki, fi, fa, or, mi, a, g, l, w, s)) v1 (by omega)) ?_
  exact mr_ret 1 (fun f => rfl)
theorem oe_minister_5 (he ke ki fi fa or : List Nat) (mi a g l w s : Nat) (m : kG) (kk : kG) (im : Nat) (le : List Nat) (ln : Nat) (ys : List Int32) (vt : Int32) (nu : List Nat) (nn : Nat) (rf : List Nat) (vw : Int32) (vq : Int32) (yc : List Int32) (yh : List Int32) (yg : List Int32) (xm : List Int32) (xi : List Int32) (xw : List Int32) (vp : Int32) (xn : List Int32) (xc : List Int32) (vs : Int32) (hA : iA (he, ke, ki, fi, fa, or, mi, a, g, l, w, s)) (hB : iB le ln) (hC : iC nu nn) (hD : iD rf) (hJ : iJ m ys yc yh yg) (hR : iR xm xw xn xc) (hK : iK im kk xi) (p : Nat) (hp : p < mi) : oI 60 155 [some (.ref 100), some (.int (nI p)), some (.int 1)] [some (.ref 138), some (.int (nI p)), some (.int 1)] (mk_M (cT im le ln ys vt nu nn rf vw vq yc yh yg) (kr (he, ke, ki, fi, fa, or, mi, a, g, l, w, s)) m kk (rT (he, ke, ki, fi, fa, or, mi, a, g, l, w, s) xm xi xw im le nu rf ln nn vp xn xc vs)) := by
  exact ⟨(nI (kg fi p)), _, _, oc_minister_5 he ke ki fi fa or mi a g l w s im le ln ys vt nu nn rf vw vq yc yh yg m kk _ hA hB hC hD hJ hK.1 p hp, om_minister_5 he ke ki fi fa or mi a g l w s xm xi xw im le nu rf ln nn vp xn xc vs _ _ _ _ hA hB hC hD hR hK.2.1 p hp, (he, ke, ki, fi, fa, or, mi, a, g, l, w, s), m, kk, im, le, ln, ys, vt, nu, nn, rf, vw, vq, yc, yh, yg, xm, xi, xw, vp, xn, xc, vs, rfl, hA, hB, hC, hD, hJ, hR, hK⟩
set_option maxRecDepth 100000 in
theorem oc_minister_6 (he ke ki fi fa or : List Nat) (mi a g l w s : Nat) (im : Nat) (le : List Nat) (ln : Nat) (ys : List Int32) (vt : Int32) (nu : List Nat) (nn : Nat) (rf : List Nat) (vw vq : Int32) (yc yh yg : List Int32) (m kk : kG) (q : cR) (hA : iA (he, ke, ki, fi, fa, or, mi, a, g, l, w, s)) (hB : iB le ln) (hC : iC nu nn) (hD : iD rf) (hJ : iJ m ys yc yh yg) (k0 : kSh kk) (p : Nat) (hp : p < mi) : mm_R 60 0 [some (.ref 100), some (.int (nI p)), some (.int 2)] [] (mk_M (cT im le ln ys vt nu nn rf vw vq yc yh yg) (kr (he, ke, ki, fi, fa, or, mi, a, g, l, w, s)) m kk q) (some (.int (nI (kg fa p))), (mk_M (cT im le ln ys vt nu nn rf vw vq yc yh yg) (kr (he, ke, ki, fi, fa, or, mi, a, g, l, w, s)) m kk q)) := by
  obtain ⟨hV, hst⟩ := id hA
  have hst2 : s ≤ 999 := hst
  obtain ⟨v1, v2, v3, v4, v5, v6, v7, v8, v9, v10, v11, v12, v13, v14, v15, v16⟩ := id hV
  have v6l := kO_len mi v7 or v6
  obtain ⟨b1, b2, b3⟩ := id hB
  obtain ⟨c1, c2, c3⟩ := id hC
  have d1 : rf.length = 7 := hD
  obtain ⟨j0, j1, j2, j3, j4⟩ := id hJ
  have w14 := v14 p
  have w15 := v15 p
  have w16 := v16 p
  refine mr_seg 2 (pc1 := 2) (ls1 := [some (.ref 100), some (.int (nI p)), some (.int 2)]) (st1 := [.int (nI p), .ref 100]) (M1 := (mk_M (cT im le ln ys vt nu nn rf vw vq yc yh yg) (kr (he, ke, ki, fi, fa, or, mi, a, g, l, w, s)) m kk q)) (fun f => rfl) ?_
  refine mr_call (y := 61) (y0 := 5) (L := [some (.ref 100), some (.int (nI p))]) (rest := []) (rr := some (.int 1)) (M1 := (mk_M (cT im le ln ys vt nu nn rf vw vq yc yh yg) (kr (he, ke, ki, fi, fa, or, mi, a, g, l, w, s)) m kk q)) (fun f => rfl) (ms_m1_ok (x := (nI p)) (nI_ltf (a := p) (b := 0) (by omega)) (nI_lef (a := mi) (b := p) (by omega))) ?_
  refine mr_seg 7 (pc1 := 76) (ls1 := [some (.ref 100), some (.int (nI p)), some (.int 2)]) (st1 := [.int (nI p), .ref 122]) (M1 := (mk_M (cT im le ln ys vt nu nn rf vw vq yc yh yg) (kr (he, ke, ki, fi, fa, or, mi, a, g, l, w, s)) m kk q)) (fun f => rfl) ?_
  refine mr_ldk (l0 := fa) rfl rfl (k := p) (by omega) ?_
  exact mr_ret 1 (fun f => rfl)
set_option maxRecDepth 100000 in
theorem om_minister_6 (he ke ki fi fa or : List Nat) (mi a g l w s : Nat) (xm xi xw : List Int32) (im : Nat) (le nu rf : List Nat) (ln nn : Nat) (vp : Int32) (xn xc : List Int32) (vs : Int32) (c : cC) (n m kk : kG) (hA : iA (he, ke, ki, fi, fa, or, mi, a, g, l, w, s)) (hB : iB le ln) (hC : iC nu nn) (hD : iD rf) (hR : iR xm xw xn xc) (k1 : xi.length = 52) (p : Nat) (hp : p < mi) : mm_R 155 0 [some (.ref 138), some (.int (nI p)), some (.int 2)] [] (mk_M c n m kk (rT (he, ke, ki, fi, fa, or, mi, a, g, l, w, s) xm xi xw im le nu rf ln nn vp xn xc vs)) (some (.int (nI (kg fa p))), (mk_M c n m kk (rT (he, ke, ki, fi, fa, or, mi, a, g, l, w, s) xm xi xw im le nu rf ln nn vp xn xc vs))) := by
  obtain ⟨hV, hst⟩ := id hA
  have hst2 : s ≤ 999 := hst
  obtain ⟨v1, v2, v3, v4, v5, v6, v7, v8, v9, v10, v11, v12, v13, v14, v15, v16⟩ := id hV
  have v6l := kO_len mi v7 or v6
  obtain ⟨b1, b2, b3⟩ := id hB
  obtain ⟨c1, c2, c3⟩ := id hC
  have d1 : rf.length = 7 := hD
  obtain ⟨r1, r2, r3, r4⟩ := id hR
  have w14 := v14 p
  have w15 := v15 p
  have w16 := v16 p
  refine mr_seg 2 (pc1 := 2) (ls1 := [some (.ref 138), some (.int (nI p)), some (.int 2)]) (st1 := [.int (nI p), .ref 138]) (M1 := (mk_M c n m kk (rT (he, ke, ki, fi, fa, or, mi, a, g, l, w, s) xm xi xw im le nu rf ln nn vp xn xc vs))) (fun f => rfl) ?_
  refine mr_call (y := 142) (y0 := 5) (L := [some (.ref 138), some (.int (nI p))]) (rest := []) (rr := some (.int 1)) (M1 := (mk_M c n m kk (rT (he, ke, ki, fi, fa, or, mi, a, g, l, w, s) xm xi xw im le nu rf ln nn vp xn xc vs))) (fun f => rfl) (ms_m2_ok (x := (nI p)) (b := (nI (mi - 1))) (pk_sub (a := mi) (b := 1) (by omega)) (nI_ltf (a := p) (b := 0) (by omega)) (nI_ltf (a := mi - 1) (b := p) (by omega))) ?_
  refine mr_seg 4 (pc1 := 17) (ls1 := [some (.ref 138), some (.int (nI p)), some (.int 2)]) (st1 := [.int 2, .int 0, .int 2]) (M1 := (mk_M c n m kk (rT (he, ke, ki, fi, fa, or, mi, a, g, l, w, s) xm xi xw im le nu rf ln nn vp xn xc vs))) (fun f => rfl) ?_
  refine mr_call (y := 135) (y0 := 20) (L := [some (.int 2), some (.int 0), some (.int 2)]) (rest := []) (rr := some (.int 1)) (M1 := (mk_M c n m kk (rT (he, ke, ki, fi, fa, or, mi, a, g, l, w, s) xm xi xw im le nu rf ln nn vp xn xc vs))) (fun f => rfl) (by
      exact mr_ret 9 (fun f => rfl)) ?_
  refine mr_seg 5 (pc1 := 29) (ls1 := [some (.ref 138), some (.int (nI p)), some (.int 2)]) (st1 := [.int 2, .int (nI p), .ref 139]) (M1 := (mk_M c n m kk (rT (he, ke, ki, fi, fa, or, mi, a, g, l, w, s) xm xi xw im le nu rf ln nn vp xn xc vs))) (fun f => rfl) ?_
  refine mr_call (y := 141) (y0 := 32) (L := [some (.int (nI p)), some (.int 2)]) (rest := [.ref 139]) (rr := some (.int (nI (32 + 3 * p + 2)))) (M1 := (mk_M c n m kk (rT (he, ke, ki, fi, fa, or, mi, a, g, l, w, s) xm xi xw im le nu rf ln nn vp xn xc vs))) (fun f => rfl) (rc_of p 2 (by omega) (by decide) _) ?_
  refine mr_ldn (xs := (er (he, ke, ki, fi, fa, or, mi, a, g, l, w, s))) rfl rfl (k := 32 + 3 * p + 2) (by omega) (er_fa (K := (he, ke, ki, fi, fa, or, mi, a, g, l, w, s)) v1 (by omega)) ?_
  exact mr_ret 1 (fun f => rfl)
theorem oe_minister_6 (he ke ki fi fa or : List Nat) (mi a g l w s : Nat) (m : kG) (kk : kG) (im : Nat) (le : List Nat) (ln : Nat) (ys : List Int32) (vt : Int32) (nu : List Nat) (nn : Nat) (rf : List Nat) (vw : Int32) (vq : Int32) (yc : List Int32) (yh : List Int32) (yg : List Int32) (xm : List Int32) (xi : List Int32) (xw : List Int32) (vp : Int32) (xn : List Int32) (xc : List Int32) (vs : Int32) (hA : iA (he, ke, ki, fi, fa, or, mi, a, g, l, w, s)) (hB : iB le ln) (hC : iC nu nn) (hD : iD rf) (hJ : iJ m ys yc yh yg) (hR : iR xm xw xn xc) (hK : iK im kk xi) (p : Nat) (hp : p < mi) : oI 60 155 [some (.ref 100), some (.int (nI p)), some (.int 2)] [some (.ref 138), some (.int (nI p)), some (.int 2)] (mk_M (cT im le ln ys vt nu nn rf vw vq yc yh yg) (kr (he, ke, ki, fi, fa, or, mi, a, g, l, w, s)) m kk (rT (he, ke, ki, fi, fa, or, mi, a, g, l, w, s) xm xi xw im le nu rf ln nn vp xn xc vs)) := by
  exact ⟨(nI (kg fa p)), _, _, oc_minister_6 he ke ki fi fa or mi a g l w s im le ln ys vt nu nn rf vw vq yc yh yg m kk _ hA hB hC hD hJ hK.1 p hp, om_minister_6 he ke ki fi fa or mi a g l w s xm xi xw im le nu rf ln nn vp xn xc vs _ _ _ _ hA hB hC hD hR hK.2.1 p hp, (he, ke, ki, fi, fa, or, mi, a, g, l, w, s), m, kk, im, le, ln, ys, vt, nu, nn, rf, vw, vq, yc, yh, yg, xm, xi, xw, vp, xn, xc, vs, rfl, hA, hB, hC, hD, hJ, hR, hK⟩
set_option maxRecDepth 100000 in
theorem oc_minister_7 (he ke ki fi fa or : List Nat) (mi a g l w s : Nat) (im : Nat) (le : List Nat) (ln : Nat) (ys : List Int32) (vt : Int32) (nu : List Nat) (nn : Nat) (rf : List Nat) (vw vq : Int32) (yc yh yg : List Int32) (m kk : kG) (q : cR) (hA : iA (he, ke, ki, fi, fa, or, mi, a, g, l, w, s)) (hB : iB le ln) (hC : iC nu nn) (hD : iD rf) (hJ : iJ m ys yc yh yg) (k0 : kSh kk) (p : Nat) (hp : p < mi) : mm_R 60 0 [some (.ref 100), some (.int (nI p)), some (.int 3)] [] (mk_M (cT im le ln ys vt nu nn rf vw vq yc yh yg) (kr (he, ke, ki, fi, fa, or, mi, a, g, l, w, s)) m kk q) (some (.int (nI (kplace or p))), (mk_M (cT im le ln ys vt nu nn rf vw vq yc yh yg) (kr (he, ke, ki, fi, fa, or, mi, a, g, l, w, s)) m kk q)) := by
  obtain ⟨hV, hst⟩ := id hA
  have hst2 : s ≤ 999 := hst
  obtain ⟨v1, v2, v3, v4, v5, v6, v7, v8, v9, v10, v11, v12, v13, v14, v15, v16⟩ := id hV
  have v6l := kO_len mi v7 or v6
  obtain ⟨b1, b2, b3⟩ := id hB
  obtain ⟨c1, c2, c3⟩ := id hC
  have d1 : rf.length = 7 := hD
  obtain ⟨j0, j1, j2, j3, j4⟩ := id hJ
  have w14 := v14 p
  have w15 := v15 p
  have w16 := v16 p
  refine mr_seg 2 (pc1 := 2) (ls1 := [some (.ref 100), some (.int (nI p)), some (.int 3)]) (st1 := [.int (nI p), .ref 100]) (M1 := (mk_M (cT im le ln ys vt nu nn rf vw vq yc yh yg) (kr (he, ke, ki, fi, fa, or, mi, a, g, l, w, s)) m kk q)) (fun f => rfl) ?_
  refine mr_call (y := 61) (y0 := 5) (L := [some (.ref 100), some (.int (nI p))]) (rest := []) (rr := some (.int 1)) (M1 := (mk_M (cT im le ln ys vt nu nn rf vw vq yc yh yg) (kr (he, ke, ki, fi, fa, or, mi, a, g, l, w, s)) m kk q)) (fun f => rfl) (ms_m1_ok (x := (nI p)) (nI_ltf (a := p) (b := 0) (by omega)) (nI_lef (a := mi) (b := p) (by omega))) ?_
  refine mr_seg 6 (pc1 := 83) (ls1 := [some (.ref 100), some (.int (nI p)), some (.int 3)]) (st1 := [.int (nI p), .ref 117]) (M1 := (mk_M (cT im le ln ys vt nu nn rf vw vq yc yh yg) (kr (he, ke, ki, fi, fa, or, mi, a, g, l, w, s)) m kk q)) (fun f => rfl) ?_
  refine mr_call (y := 62) (y0 := 86) (L := [some (.ref 117), some (.int (nI p)), none]) (rest := []) (rr := some (.int (nI (kplace or p)))) (M1 := (mk_M (cT im le ln ys vt nu nn rf vw vq yc yh yg) (kr (he, ke, ki, fi, fa, or, mi, a, g, l, w, s)) m kk q)) (fun f => rfl) (kl_n (cT im le ln ys vt nu nn rf vw vq yc yh yg) m kk q (kc_place he ke ki fi fa or mi a g l w s p (by assumption) v6 v7)) ?_
  exact mr_ret 1 (fun f => rfl)
set_option maxRecDepth 100000 in
theorem om_minister_7 (he ke ki fi fa or : List Nat) (mi a g l w s : Nat) (xm xi xw : List Int32) (im : Nat) (le nu rf : List Nat) (ln nn : Nat) (vp : Int32) (xn xc : List Int32) (vs : Int32) (c : cC) (n m kk : kG) (hA : iA (he, ke, ki, fi, fa, or, mi, a, g, l, w, s)) (hB : iB le ln) (hC : iC nu nn) (hD : iD rf) (hR : iR xm xw xn xc) (k1 : xi.length = 52) (p : Nat) (hp : p < mi) : mm_R 155 0 [some (.ref 138), some (.int (nI p)), some (.int 3)] [] (mk_M c n m kk (rT (he, ke, ki, fi, fa, or, mi, a, g, l, w, s) xm xi xw im le nu rf ln nn vp xn xc vs)) (some (.int (nI (kplace or p))), (mk_M c n m kk (rT (he, ke, ki, fi, fa, or, mi, a, g, l, w, s) xm xi xw im le nu rf ln nn vp xn xc vs))) := by
  obtain ⟨hV, hst⟩ := id hA
  have hst2 : s ≤ 999 := hst
  obtain ⟨v1, v2, v3, v4, v5, v6, v7, v8, v9, v10, v11, v12, v13, v14, v15, v16⟩ := id hV
  have v6l := kO_len mi v7 or v6
  obtain ⟨b1, b2, b3⟩ := id hB
  obtain ⟨c1, c2, c3⟩ := id hC
  have d1 : rf.length = 7 := hD
  obtain ⟨r1, r2, r3, r4⟩ := id hR
  have w14 := v14 p
  have w15 := v15 p
  have w16 := v16 p
  refine mr_seg 2 (pc1 := 2) (ls1 := [some (.ref 138), some (.int (nI p)), some (.int 3)]) (st1 := [.int (nI p), .ref 138]) (M1 := (mk_M c n m kk (rT (he, ke, ki, fi, fa, or, mi, a, g, l, w, s) xm xi xw im le nu rf ln nn vp xn xc vs))) (fun f => rfl) ?_
  refine mr_call (y := 142) (y0 := 5) (L := [some (.ref 138), some (.int (nI p))]) (rest := []) (rr := some (.int 1)) (M1 := (mk_M c n m kk (rT (he, ke, ki, fi, fa, or, mi, a, g, l, w, s) xm xi xw im le nu rf ln nn vp xn xc vs))) (fun f => rfl) (ms_m2_ok (x := (nI p)) (b := (nI (mi - 1))) (pk_sub (a := mi) (b := 1) (by omega)) (nI_ltf (a := p) (b := 0) (by omega)) (nI_ltf (a := mi - 1) (b := p) (by omega))) ?_
  refine mr_seg 4 (pc1 := 17) (ls1 := [some (.ref 138), some (.int (nI p)), some (.int 3)]) (st1 := [.int 2, .int 0, .int 3]) (M1 := (mk_M c n m kk (rT (he, ke, ki, fi, fa, or, mi, a, g, l, w, s) xm xi xw im le nu rf ln nn vp xn xc vs))) (fun f => rfl) ?_
  refine mr_call (y := 135) (y0 := 20) (L := [some (.int 3), some (.int 0), some (.int 2)]) (rest := []) (rr := some (.int 0)) (M1 := (mk_M c n m kk (rT (he, ke, ki, fi, fa, or, mi, a, g, l, w, s) xm xi xw im le nu rf ln nn vp xn xc vs))) (fun f => rfl) (by
      exact mr_ret 8 (fun f => rfl)) ?_
  refine mr_seg 7 (pc1 := 44) (ls1 := [some (.ref 138), some (.int (nI p)), some (.int 3)]) (st1 := [.int (nI p), .ref 139]) (M1 := (mk_M c n m kk (rT (he, ke, ki, fi, fa, or, mi, a, g, l, w, s) xm xi xw im le nu rf ln nn vp xn xc vs))) (fun f => rfl) ?_
  refine mr_call (y := 144) (y0 := 47) (L := [some (.ref 139), some (.int (nI p)), none]) (rest := []) (rr := some (.int (nI (kplace or p)))) (M1 := (mk_M c n m kk (rT (he, ke, ki, fi, fa, or, mi, a, g, l, w, s) xm xi xw im le nu rf ln nn vp xn xc vs))) (fun f => rfl) (rl_s c n m kk (rT (he, ke, ki, fi, fa, or, mi, a, g, l, w, s) xm xi xw im le nu rf ln nn vp xn xc vs) (rc_place_s he ke ki fi fa or mi a g l w s p v1 (by assumption) v6 v7) rfl) ?_
  exact mr_ret 2 (fun f => rfl)
theorem oe_minister_7 (he ke ki fi fa or : List Nat) (mi a g l w s : Nat) (m : kG) (kk : kG) (im : Nat) (le : List Nat) (ln : Nat) (ys : List Int32) (vt : Int32) (nu : List Nat) (nn : Nat) (rf : List Nat) (vw : Int32) (vq : Int32) (yc : List Int32) (yh : List Int32) (yg : List Int32) (xm : List Int32) (xi : List Int32) (xw : List Int32) (vp : Int32) (xn : List Int32) (xc : List Int32) (vs : Int32) (hA : iA (he, ke, ki, fi, fa, or, mi, a, g, l, w, s)) (hB : iB le ln) (hC : iC nu nn) (hD : iD rf) (hJ : iJ m ys yc yh yg) (hR : iR xm xw xn xc) (hK : iK im kk xi) (p : Nat) (hp : p < mi) : oI 60 155 [some (.ref 100), some (.int (nI p)), some (.int 3)] [some (.ref 138), some (.int (nI p)), some (.int 3)] (mk_M (cT im le ln ys vt nu nn rf vw vq yc yh yg) (kr (he, ke, ki, fi, fa, or, mi, a, g, l, w, s)) m kk (rT (he, ke, ki, fi, fa, or, mi, a, g, l, w, s) xm xi xw im le nu rf ln nn vp xn xc vs)) := by
  exact ⟨(nI (kplace or p)), _, _, oc_minister_7 he ke ki fi fa or mi a g l w s im le ln ys vt nu nn rf vw vq yc yh yg m kk _ hA hB hC hD hJ hK.1 p hp, om_minister_7 he ke ki fi fa or mi a g l w s xm xi xw im le nu rf ln nn vp xn xc vs _ _ _ _ hA hB hC hD hR hK.2.1 p hp, (he, ke, ki, fi, fa, or, mi, a, g, l, w, s), m, kk, im, le, ln, ys, vt, nu, nn, rf, vw, vq, yc, yh, yg, xm, xi, xw, vp, xn, xc, vs, rfl, hA, hB, hC, hD, hJ, hR, hK⟩
set_option maxRecDepth 100000 in
theorem oc_minister_8 (he ke ki fi fa or : List Nat) (mi a g l w s : Nat) (im : Nat) (le : List Nat) (ln : Nat) (ys : List Int32) (vt : Int32) (nu : List Nat) (nn : Nat) (rf : List Nat) (vw vq : Int32) (yc yh yg : List Int32) (m kk : kG) (q : cR) (hA : iA (he, ke, ki, fi, fa, or, mi, a, g, l, w, s)) (hB : iB le ln) (hC : iC nu nn) (hD : iD rf) (hJ : iJ m ys yc yh yg) (k0 : kSh kk) (p : Nat) (hp : p < mi) : mm_R 60 0 [some (.ref 100), some (.int (nI p)), some (.int 4)] [] (mk_M (cT im le ln ys vt nu nn rf vw vq yc yh yg) (kr (he, ke, ki, fi, fa, or, mi, a, g, l, w, s)) m kk q) (some (.int (nI (khold (kg ki p) (kg fi p)))), (mk_M (cT im le ln ys vt nu nn rf vw vq yc yh yg) (kr (he, ke, ki, fi, fa, or, mi, a, g, l, w, s)) m kk q)) := by
  obtain ⟨hV, hst⟩ := id hA
  have hst2 : s ≤ 999 := hst
  obtain ⟨v1, v2, v3, v4, v5, v6, v7, v8, v9, v10, v11, v12, v13, v14, v15, v16⟩ := id hV
  have v6l := kO_len mi v7 or v6
  obtain ⟨b1, b2, b3⟩ := id hB
  obtain ⟨c1, c2, c3⟩ := id hC
  have d1 : rf.length = 7 := hD
  obtain ⟨j0, j1, j2, j3, j4⟩ := id hJ
  have w14 := v14 p
  have w15 := v15 p
  have w16 := v16 p
  refine mr_seg 2 (pc1 := 2) (ls1 := [some (.ref 100), some (.int (nI p)), some (.int 4)]) (st1 := [.int (nI p), .ref 100]) (M1 := (mk_M (cT im le ln ys vt nu nn rf vw vq yc yh yg) (kr (he, ke, ki, fi, fa, or, mi, a, g, l, w, s)) m kk q)) (fun f => rfl) ?_
  refine mr_call (y := 61) (y0 := 5) (L := [some (.ref 100), some (.int (nI p))]) (rest := []) (rr := some (.int 1)) (M1 := (mk_M (cT im le ln ys vt nu nn rf vw vq yc yh yg) (kr (he, ke, ki, fi, fa, or, mi, a, g, l, w, s)) m kk q)) (fun f => rfl) (ms_m1_ok (x := (nI p)) (nI_ltf (a := p) (b := 0) (by omega)) (nI_lef (a := mi) (b := p) (by omega))) ?_
  refine mr_seg 6 (pc1 := 92) (ls1 := [some (.ref 100), some (.int (nI p)), some (.int 4)]) (st1 := [.int (nI p), .ref 117]) (M1 := (mk_M (cT im le ln ys vt nu nn rf vw vq yc yh yg) (kr (he, ke, ki, fi, fa, or, mi, a, g, l, w, s)) m kk q)) (fun f => rfl) ?_
  refine mr_call (y := 55) (y0 := 95) (L := [some (.ref 117), some (.int (nI p))]) (rest := []) (rr := some (.int (nI (khold (kg ki p) (kg fi p))))) (M1 := (mk_M (cT im le ln ys vt nu nn rf vw vq yc yh yg) (kr (he, ke, ki, fi, fa, or, mi, a, g, l, w, s)) m kk q)) (fun f => rfl) (kl_n (cT im le ln ys vt nu nn rf vw vq yc yh yg) m kk q (kc_str_n he ke ki fi fa or mi a g l w s p (by omega) hV)) ?_
  exact mr_ret 1 (fun f => rfl)
set_option maxRecDepth 100000 in
theorem om_minister_8 (he ke ki fi fa or : List Nat) (mi a g l w s : Nat) (xm xi xw : List Int32) (im : Nat) (le nu rf : List Nat) (ln nn : Nat) (vp : Int32) (xn xc : List Int32) (vs : Int32) (c : cC) (n m kk : kG) (hA : iA (he, ke, ki, fi, fa, or, mi, a, g, l, w, s)) (hB : iB le ln) (hC : iC nu nn) (hD : iD rf) (hR : iR xm xw xn xc) (k1 : xi.length = 52) (p : Nat) (hp : p < mi) : mm_R 155 0 [some (.ref 138), some (.int (nI p)), some (.int 4)] [] (mk_M c n m kk (rT (he, ke, ki, fi, fa, or, mi, a, g, l, w, s) xm xi xw im le nu rf ln nn vp xn xc vs)) (some (.int (nI (khold (kg ki p) (kg fi p)))), (mk_M c n m kk (rT (he, ke, ki, fi, fa, or, mi, a, g, l, w, s) xm xi xw im le nu rf ln nn vp xn xc vs))) := by
  obtain ⟨hV, hst⟩ := id hA
  have hst2 : s ≤ 999 := hst
  obtain ⟨v1, v2, v3, v4, v5, v6, v7, v8, v9, v10, v11, v12, v13, v14, v15, v16⟩ := id hV
  have v6l := kO_len mi v7 or v6
  obtain ⟨b1, b2, b3⟩ := id hB
  obtain ⟨c1, c2, c3⟩ := id hC
  have d1 : rf.length = 7 := hD
  obtain ⟨r1, r2, r3, r4⟩ := id hR
  have w14 := v14 p
  have w15 := v15 p
  have w16 := v16 p
  refine mr_seg 2 (pc1 := 2) (ls1 := [some (.ref 138), some (.int (nI p)), some (.int 4)]) (st1 := [.int (nI p), .ref 138]) (M1 := (mk_M c n m kk (rT (he, ke, ki, fi, fa, or, mi, a, g, l, w, s) xm xi xw im le nu rf ln nn vp xn xc vs))) (fun f => rfl) ?_
  refine mr_call (y := 142) (y0 := 5) (L := [some (.ref 138), some (.int (nI p))]) (rest := []) (rr := some (.int 1)) (M1 := (mk_M c n m kk (rT (he, ke, ki, fi, fa, or, mi, a, g, l, w, s) xm xi xw im le nu rf ln nn vp xn xc vs))) (fun f => rfl) (ms_m2_ok (x := (nI p)) (b := (nI (mi - 1))) (pk_sub (a := mi) (b := 1) (by omega)) (nI_ltf (a := p) (b := 0) (by omega)) (nI_ltf (a := mi - 1) (b := p) (by omega))) ?_
  refine mr_seg 4 (pc1 := 17) (ls1 := [some (.ref 138), some (.int (nI p)), some (.int 4)]) (st1 := [.int 2, .int 0, .int 4]) (M1 := (mk_M c n m kk (rT (he, ke, ki, fi, fa, or, mi, a, g, l, w, s) xm xi xw im le nu rf ln nn vp xn xc vs))) (fun f => rfl) ?_
  refine mr_call (y := 135) (y0 := 20) (L := [some (.int 4), some (.int 0), some (.int 2)]) (rest := []) (rr := some (.int 0)) (M1 := (mk_M c n m kk (rT (he, ke, ki, fi, fa, or, mi, a, g, l, w, s) xm xi xw im le nu rf ln nn vp xn xc vs))) (fun f => rfl) (by
      exact mr_ret 8 (fun f => rfl)) ?_
  refine mr_seg 10 (pc1 := 60) (ls1 := [some (.ref 138), some (.int (nI p)), some (.int 4)]) (st1 := [.int (nI p), .ref 139]) (M1 := (mk_M c n m kk (rT (he, ke, ki, fi, fa, or, mi, a, g, l, w, s) xm xi xw im le nu rf ln nn vp xn xc vs))) (fun f => rfl) ?_
  refine mr_call (y := 152) (y0 := 63) (L := [some (.ref 139), some (.int (nI p))]) (rest := []) (rr := some (.int (nI (khold (kg ki p) (kg fi p))))) (M1 := (mk_M c n m kk (rT (he, ke, ki, fi, fa, or, mi, a, g, l, w, s) xm xi xw im le nu rf ln nn vp xn xc vs))) (fun f => rfl) (rl_s c n m kk (rT (he, ke, ki, fi, fa, or, mi, a, g, l, w, s) xm xi xw im le nu rf ln nn vp xn xc vs) (rc_hold_s he ke ki fi fa or mi a g l w s p (by omega) hV) rfl) ?_
  exact mr_ret 2 (fun f => rfl)
theorem oe_minister_8 (he ke ki fi fa or : List Nat) (mi a g l w s : Nat) (m : kG) (kk : kG) (im : Nat) (le : List Nat) (ln : Nat) (ys : List Int32) (vt : Int32) (nu : List Nat) (nn : Nat) (rf : List Nat) (vw : Int32) (vq : Int32) (yc : List Int32) (yh : List Int32) (yg : List Int32) (xm : List Int32) (xi : List Int32) (xw : List Int32) (vp : Int32) (xn : List Int32) (xc : List Int32) (vs : Int32) (hA : iA (he, ke, ki, fi, fa, or, mi, a, g, l, w, s)) (hB : iB le ln) (hC : iC nu nn) (hD : iD rf) (hJ : iJ m ys yc yh yg) (hR : iR xm xw xn xc) (hK : iK im kk xi) (p : Nat) (hp : p < mi) : oI 60 155 [some (.ref 100), some (.int (nI p)), some (.int 4)] [some (.ref 138), some (.int (nI p)), some (.int 4)] (mk_M (cT im le ln ys vt nu nn rf vw vq yc yh yg) (kr (he, ke, ki, fi, fa, or, mi, a, g, l, w, s)) m kk (rT (he, ke, ki, fi, fa, or, mi, a, g, l, w, s) xm xi xw im le nu rf ln nn vp xn xc vs)) := by
  exact ⟨(nI (khold (kg ki p) (kg fi p))), _, _, oc_minister_8 he ke ki fi fa or mi a g l w s im le ln ys vt nu nn rf vw vq yc yh yg m kk _ hA hB hC hD hJ hK.1 p hp, om_minister_8 he ke ki fi fa or mi a g l w s xm xi xw im le nu rf ln nn vp xn xc vs _ _ _ _ hA hB hC hD hR hK.2.1 p hp, (he, ke, ki, fi, fa, or, mi, a, g, l, w, s), m, kk, im, le, ln, ys, vt, nu, nn, rf, vw, vq, yc, yh, yg, xm, xi, xw, vp, xn, xc, vs, rfl, hA, hB, hC, hD, hJ, hR, hK⟩
set_option maxRecDepth 100000 in
theorem oc_pushing_0 (he ke ki fi fa or : List Nat) (mi a g l w s : Nat) (im : Nat) (le : List Nat) (ln : Nat) (ys : List Int32) (vt : Int32) (nu : List Nat) (nn : Nat) (rf : List Nat) (vw vq : Int32) (yc yh yg : List Int32) (m kk : kG) (q : cR) (hA : iA (he, ke, ki, fi, fa, or, mi, a, g, l, w, s)) (hB : iB le ln) (hC : iC nu nn) (hD : iD rf) (hJ : iJ m ys yc yh yg) (k0 : kSh kk) (x : Int32) (hxu : x.toInt ≤ -1) : mm_R 64 0 [some (.ref 100), some (.int x)] [] (mk_M (cT im le ln ys vt nu nn rf vw vq yc yh yg) (kr (he, ke, ki, fi, fa, or, mi, a, g, l, w, s)) m kk q) (some (.int (-2)), (mk_M (cT im le ln ys vt nu nn (rf.set 2 (kg rf 2 + 1)) vw vq yc yh yg) (kr (he, ke, ki, fi, fa, or, mi, a, g, l, w, s)) m kk q)) := by
  have hst2 : s ≤ 999 := hA.2
  have v7 : mi ≤ 5 := hA.1.2.2.2.2.2.2.1
  have b3 : ln ≤ 96 := hB.2.2
  have c3 : nn ≤ 16 := hC.2.2
  refine mr_seg 1 (pc1 := 1) (ls1 := [some (.ref 100), some (.int x)]) (st1 := [.int x]) (M1 := (mk_M (cT im le ln ys vt nu nn rf vw vq yc yh yg) (kr (he, ke, ki, fi, fa, or, mi, a, g, l, w, s)) m kk q)) (fun f => rfl) ?_
  refine mr_tsw (t1 := 69) rfl (by omega) (by decide) ?_
  refine mr_seg 2 (pc1 := 72) (ls1 := [some (.ref 100), some (.int x)]) (st1 := [.int (-2), .ref 100]) (M1 := (mk_M (cT im le ln ys vt nu nn rf vw vq yc yh yg) (kr (he, ke, ki, fi, fa, or, mi, a, g, l, w, s)) m kk q)) (fun f => rfl) ?_
  refine mr_call (y := 12) (y0 := 75) (L := [some (.ref 100), some (.int (-2))]) (rest := []) (rr := some (.int (-2))) (M1 := (mk_M (cT im le ln ys vt nu nn (rf.set 2 (kg rf 2 + 1)) vw vq yc yh yg) (kr (he, ke, ki, fi, fa, or, mi, a, g, l, w, s)) m kk q)) (fun f => rfl) (ms_re2 hD) ?_
  exact mr_ret 1 (fun f => rfl)
set_option maxRecDepth 100000 in
theorem om_pushing_0 (he ke ki fi fa or : List Nat) (mi a g l w s : Nat) (xm xi xw : List Int32) (im : Nat) (le nu rf : List Nat) (ln nn : Nat) (vp : Int32) (xn xc : List Int32) (vs : Int32) (c : cC) (n m kk : kG) (hA : iA (he, ke, ki, fi, fa, or, mi, a, g, l, w, s)) (hB : iB le ln) (hC : iC nu nn) (hD : iD rf) (hR : iR xm xw xn xc) (k1 : xi.length = 52) (x : Int32) (hxu : x.toInt ≤ -1) : mm_R 157 0 [some (.ref 138), some (.int x), none, none] [] (mk_M c n m kk (rT (he, ke, ki, fi, fa, or, mi, a, g, l, w, s) xm xi xw im le nu rf ln nn vp xn xc vs)) (some (.int (-2)), (mk_M c n m kk (rT (he, ke, ki, fi, fa, or, mi, a, g, l, w, s) xm xi xw im le nu (rf.set 2 (kg rf 2 + 1)) ln nn vp xn xc vs))) := by
  have hst2 : s ≤ 999 := hA.2
  have v7 : mi ≤ 5 := hA.1.2.2.2.2.2.2.1
  have b3 : ln ≤ 96 := hB.2.2
  have c3 : nn ≤ 16 := hC.2.2
  refine mr_seg 3 (pc1 := 3) (ls1 := [some (.ref 138), some (.int x), none, none]) (st1 := [.int 2, .int 0, .int x]) (M1 := (mk_M c n m kk (rT (he, ke, ki, fi, fa, or, mi, a, g, l, w, s) xm xi xw im le nu rf ln nn vp xn xc vs))) (fun f => rfl) ?_
  refine mr_call (y := 135) (y0 := 6) (L := [some (.int x), some (.int 0), some (.int 2)]) (rest := []) (rr := some (.int 0)) (M1 := (mk_M c n m kk (rT (he, ke, ki, fi, fa, or, mi, a, g, l, w, s) xm xi xw im le nu rf ln nn vp xn xc vs))) (fun f => rfl) (ms_in_lo (x := x) (a := 0) (b := 2) (mz_lt_t 0 (by decide) (by omega))) ?_
  refine mr_seg 3 (pc1 := 12) (ls1 := [some (.ref 138), some (.int x), none, none]) (st1 := [.int (-2), .ref 138]) (M1 := (mk_M c n m kk (rT (he, ke, ki, fi, fa, or, mi, a, g, l, w, s) xm xi xw im le nu rf ln nn vp xn xc vs))) (fun f => rfl) ?_
  refine mr_call (y := 130) (y0 := 15) (L := [some (.ref 138), some (.int (-2))]) (rest := []) (rr := some (.int (-2))) (M1 := (mk_M c n m kk (rT (he, ke, ki, fi, fa, or, mi, a, g, l, w, s) xm xi xw im le nu (rf.set 2 (kg rf 2 + 1)) ln nn vp xn xc vs))) (fun f => rfl) (ms_no2 hD) ?_
  exact mr_ret 1 (fun f => rfl)
theorem oe_pushing_0 (he ke ki fi fa or : List Nat) (mi a g l w s : Nat) (m : kG) (kk : kG) (im : Nat) (le : List Nat) (ln : Nat) (ys : List Int32) (vt : Int32) (nu : List Nat) (nn : Nat) (rf : List Nat) (vw : Int32) (vq : Int32) (yc : List Int32) (yh : List Int32) (yg : List Int32) (xm : List Int32) (xi : List Int32) (xw : List Int32) (vp : Int32) (xn : List Int32) (xc : List Int32) (vs : Int32) (hA : iA (he, ke, ki, fi, fa, or, mi, a, g, l, w, s)) (hB : iB le ln) (hC : iC nu nn) (hD : iD rf) (hJ : iJ m ys yc yh yg) (hR : iR xm xw xn xc) (hK : iK im kk xi) (x : Int32) (hxu : x.toInt ≤ -1) : oI 64 157 [some (.ref 100), some (.int x)] [some (.ref 138), some (.int x), none, none] (mk_M (cT im le ln ys vt nu nn rf vw vq yc yh yg) (kr (he, ke, ki, fi, fa, or, mi, a, g, l, w, s)) m kk (rT (he, ke, ki, fi, fa, or, mi, a, g, l, w, s) xm xi xw im le nu rf ln nn vp xn xc vs)) := by
  exact ⟨(-2), _, _, oc_pushing_0 he ke ki fi fa or mi a g l w s im le ln ys vt nu nn rf vw vq yc yh yg m kk _ hA hB hC hD hJ hK.1 x hxu, om_pushing_0 he ke ki fi fa or mi a g l w s xm xi xw im le nu rf ln nn vp xn xc vs _ _ _ _ hA hB hC hD hR hK.2.1 x hxu, (he, ke, ki, fi, fa, or, mi, a, g, l, w, s), m, kk, im, le, ln, ys, vt, nu, nn, (rf.set 2 (kg rf 2 + 1)), vw, vq, yc, yh, yg, xm, xi, xw, vp, xn, xc, vs, rfl, hA, hB, hC, iD_s hD, hJ, hR, hK⟩
set_option maxRecDepth 100000 in
theorem oc_pushing_1 (he ke ki fi fa or : List Nat) (mi a g l w s : Nat) (im : Nat) (le : List Nat) (ln : Nat) (ys : List Int32) (vt : Int32) (nu : List Nat) (nn : Nat) (rf : List Nat) (vw vq : Int32) (yc yh yg : List Int32) (m kk : kG) (q : cR) (hA : iA (he, ke, ki, fi, fa, or, mi, a, g, l, w, s)) (hB : iB le ln) (hC : iC nu nn) (hD : iD rf) (hJ : iJ m ys yc yh yg) (k0 : kSh kk) (x : Int32) (hxl : 3 ≤ x.toInt) : mm_R 64 0 [some (.ref 100), some (.int x)] [] (mk_M (cT im le ln ys vt nu nn rf vw vq yc yh yg) (kr (he, ke, ki, fi, fa, or, mi, a, g, l, w, s)) m kk q) (some (.int (-2)), (mk_M (cT im le ln ys vt nu nn (rf.set 2 (kg rf 2 + 1)) vw vq yc yh yg) (kr (he, ke, ki, fi, fa, or, mi, a, g, l, w, s)) m kk q)) := by
  have hst2 : s ≤ 999 := hA.2
  have v7 : mi ≤ 5 := hA.1.2.2.2.2.2.2.1
  have b3 : ln ≤ 96 := hB.2.2
  have c3 : nn ≤ 16 := hC.2.2
  refine mr_seg 1 (pc1 := 1) (ls1 := [some (.ref 100), some (.int x)]) (st1 := [.int x]) (M1 := (mk_M (cT im le ln ys vt nu nn rf vw vq yc yh yg) (kr (he, ke, ki, fi, fa, or, mi, a, g, l, w, s)) m kk q)) (fun f => rfl) ?_
  refine mr_tsw (t1 := 69) rfl (by omega) (by decide) ?_
  refine mr_seg 2 (pc1 := 72) (ls1 := [some (.ref 100), some (.int x)]) (st1 := [.int (-2), .ref 100]) (M1 := (mk_M (cT im le ln ys vt nu nn rf vw vq yc yh yg) (kr (he, ke, ki, fi, fa, or, mi, a, g, l, w, s)) m kk q)) (fun f => rfl) ?_
  refine mr_call (y := 12) (y0 := 75) (L := [some (.ref 100), some (.int (-2))]) (rest := []) (rr := some (.int (-2))) (M1 := (mk_M (cT im le ln ys vt nu nn (rf.set 2 (kg rf 2 + 1)) vw vq yc yh yg) (kr (he, ke, ki, fi, fa, or, mi, a, g, l, w, s)) m kk q)) (fun f => rfl) (ms_re2 hD) ?_
  exact mr_ret 1 (fun f => rfl)
set_option maxRecDepth 100000 in
theorem om_pushing_1 (he ke ki fi fa or : List Nat) (mi a g l w s : Nat) (xm xi xw : List Int32) (im : Nat) (le nu rf : List Nat) (ln nn : Nat) (vp : Int32) (xn xc : List Int32) (vs : Int32) (c : cC) (n m kk : kG) (hA : iA (he, ke, ki, fi, fa, or, mi, a, g, l, w, s)) (hB : iB le ln) (hC : iC nu nn) (hD : iD rf) (hR : iR xm xw xn xc) (k1 : xi.length = 52) (x : Int32) (hxl : 3 ≤ x.toInt) : mm_R 157 0 [some (.ref 138), some (.int x), none, none] [] (mk_M c n m kk (rT (he, ke, ki, fi, fa, or, mi, a, g, l, w, s) xm xi xw im le nu rf ln nn vp xn xc vs)) (some (.int (-2)), (mk_M c n m kk (rT (he, ke, ki, fi, fa, or, mi, a, g, l, w, s) xm xi xw im le nu (rf.set 2 (kg rf 2 + 1)) ln nn vp xn xc vs))) := by
  have hst2 : s ≤ 999 := hA.2
  have v7 : mi ≤ 5 := hA.1.2.2.2.2.2.2.1
  have b3 : ln ≤ 96 := hB.2.2
  have c3 : nn ≤ 16 := hC.2.2
  refine mr_seg 3 (pc1 := 3) (ls1 := [some (.ref 138), some (.int x), none, none]) (st1 := [.int 2, .int 0, .int x]) (M1 := (mk_M c n m kk (rT (he, ke, ki, fi, fa, or, mi, a, g, l, w, s) xm xi xw im le nu rf ln nn vp xn xc vs))) (fun f => rfl) ?_
  refine mr_call (y := 135) (y0 := 6) (L := [some (.int x), some (.int 0), some (.int 2)]) (rest := []) (rr := some (.int 0)) (M1 := (mk_M c n m kk (rT (he, ke, ki, fi, fa, or, mi, a, g, l, w, s) xm xi xw im le nu rf ln nn vp xn xc vs))) (fun f => rfl) (ms_in_hi (x := x) (a := 0) (b := 2) (mz_lt_f 0 (by decide) (by omega)) (mz_gt_t 2 (by decide) (by omega))) ?_
  refine mr_seg 3 (pc1 := 12) (ls1 := [some (.ref 138), some (.int x), none, none]) (st1 := [.int (-2), .ref 138]) (M1 := (mk_M c n m kk (rT (he, ke, ki, fi, fa, or, mi, a, g, l, w, s) xm xi xw im le nu rf ln nn vp xn xc vs))) (fun f => rfl) ?_
  refine mr_call (y := 130) (y0 := 15) (L := [some (.ref 138), some (.int (-2))]) (rest := []) (rr := some (.int (-2))) (M1 := (mk_M c n m kk (rT (he, ke, ki, fi, fa, or, mi, a, g, l, w, s) xm xi xw im le nu (rf.set 2 (kg rf 2 + 1)) ln nn vp xn xc vs))) (fun f => rfl) (ms_no2 hD) ?_
  exact mr_ret 1 (fun f => rfl)
theorem oe_pushing_1 (he ke ki fi fa or : List Nat) (mi a g l w s : Nat) (m : kG) (kk : kG) (im : Nat) (le : List Nat) (ln : Nat) (ys : List Int32) (vt : Int32) (nu : List Nat) (nn : Nat) (rf : List Nat) (vw : Int32) (vq : Int32) (yc : List Int32) (yh : List Int32) (yg : List Int32) (xm : List Int32) (xi : List Int32) (xw : List Int32) (vp : Int32) (xn : List Int32) (xc : List Int32) (vs : Int32) (hA : iA (he, ke, ki, fi, fa, or, mi, a, g, l, w, s)) (hB : iB le ln) (hC : iC nu nn) (hD : iD rf) (hJ : iJ m ys yc yh yg) (hR : iR xm xw xn xc) (hK : iK im kk xi) (x : Int32) (hxl : 3 ≤ x.toInt) : oI 64 157 [some (.ref 100), some (.int x)] [some (.ref 138), some (.int x), none, none] (mk_M (cT im le ln ys vt nu nn rf vw vq yc yh yg) (kr (he, ke, ki, fi, fa, or, mi, a, g, l, w, s)) m kk (rT (he, ke, ki, fi, fa, or, mi, a, g, l, w, s) xm xi xw im le nu rf ln nn vp xn xc vs)) := by
  exact ⟨(-2), _, _, oc_pushing_1 he ke ki fi fa or mi a g l w s im le ln ys vt nu nn rf vw vq yc yh yg m kk _ hA hB hC hD hJ hK.1 x hxl, om_pushing_1 he ke ki fi fa or mi a g l w s xm xi xw im le nu rf ln nn vp xn xc vs _ _ _ _ hA hB hC hD hR hK.2.1 x hxl, (he, ke, ki, fi, fa, or, mi, a, g, l, w, s), m, kk, im, le, ln, ys, vt, nu, nn, (rf.set 2 (kg rf 2 + 1)), vw, vq, yc, yh, yg, xm, xi, xw, vp, xn, xc, vs, rfl, hA, hB, hC, iD_s hD, hJ, hR, hK⟩
set_option maxRecDepth 100000 in
theorem oc_pushing_2 (he ke ki fi fa or : List Nat) (mi a g l w s : Nat) (im : Nat) (le : List Nat) (ln : Nat) (ys : List Int32) (vt : Int32) (nu : List Nat) (nn : Nat) (rf : List Nat) (vw vq : Int32) (yc yh yg : List Int32) (m kk : kG) (q : cR) (hA : iA (he, ke, ki, fi, fa, or, mi, a, g, l, w, s)) (hB : iB le ln) (hC : iC nu nn) (hD : iD rf) (hJ : iJ m ys yc yh yg) (k0 : kSh kk) : mm_R 64 0 [some (.ref 100), some (.int 0)] [] (mk_M (cT im le ln ys vt nu nn rf vw vq yc yh yg) (kr (he, ke, ki, fi, fa, or, mi, a, g, l, w, s)) m kk q) (some (.int (kS9 a g)), (mk_M (cT im le ln ys vt nu nn rf vw vq yc yh yg) (kr (he, ke, ki, fi, fa, or, mi, a, g, l, w, s)) m kk q)) := by
  obtain ⟨hV, hst⟩ := id hA
  have hst2 : s ≤ 999 := hst
  obtain ⟨v1, v2, v3, v4, v5, v6, v7, v8, v9, v10, v11, v12, v13, v14, v15, v16⟩ := id hV
  have v6l := kO_len mi v7 or v6
  obtain ⟨b1, b2, b3⟩ := id hB
  obtain ⟨c1, c2, c3⟩ := id hC
  have d1 : rf.length = 7 := hD
  obtain ⟨j0, j1, j2, j3, j4⟩ := id hJ
  refine mr_seg 4 (pc1 := 32) (ls1 := [some (.ref 100), some (.int 0)]) (st1 := [.ref 117]) (M1 := (mk_M (cT im le ln ys vt nu nn rf vw vq yc yh yg) (kr (he, ke, ki, fi, fa, or, mi, a, g, l, w, s)) m kk q)) (fun f => rfl) ?_
  refine mr_call (y := 46) (y0 := 35) (L := [some (.ref 117), none]) (rest := []) (rr := some (.int (kS9 a g))) (M1 := (mk_M (cT im le ln ys vt nu nn rf vw vq yc yh yg) (kr (he, ke, ki, fi, fa, or, mi, a, g, l, w, s)) m kk q)) (fun f => rfl) (kl_n (cT im le ln ys vt nu nn rf vw vq yc yh yg) m kk q (kc_sgn_n he ke ki fi fa or mi a g l w s v8 v9)) ?_
  exact mr_ret 1 (fun f => rfl)
set_option maxRecDepth 100000 in
theorem om_pushing_2 (he ke ki fi fa or : List Nat) (mi a g l w s : Nat) (xm xi xw : List Int32) (im : Nat) (le nu rf : List Nat) (ln nn : Nat) (vp : Int32) (xn xc : List Int32) (vs : Int32) (c : cC) (n m kk : kG) (hA : iA (he, ke, ki, fi, fa, or, mi, a, g, l, w, s)) (hB : iB le ln) (hC : iC nu nn) (hD : iD rf) (hR : iR xm xw xn xc) (k1 : xi.length = 52) : mm_R 157 0 [some (.ref 138), some (.int 0), none, none] [] (mk_M c n m kk (rT (he, ke, ki, fi, fa, or, mi, a, g, l, w, s) xm xi xw im le nu rf ln nn vp xn xc vs)) (some (.int (kS9 a g)), (mk_M c n m kk (rT (he, ke, ki, fi, fa, or, mi, a, g, l, w, s) xm xi xw im le nu rf ln nn vp xn xc vs))) := by
  obtain ⟨hV, hst⟩ := id hA
  have hst2 : s ≤ 999 := hst
  obtain ⟨v1, v2, v3, v4, v5, v6, v7, v8, v9, v10, v11, v12, v13, v14, v15, v16⟩ := id hV
  have v6l := kO_len mi v7 or v6
  obtain ⟨b1, b2, b3⟩ := id hB
  obtain ⟨c1, c2, c3⟩ := id hC
  have d1 : rf.length = 7 := hD
  obtain ⟨r1, r2, r3, r4⟩ := id hR
  refine mr_seg 3 (pc1 := 3) (ls1 := [some (.ref 138), some (.int 0), none, none]) (st1 := [.int 2, .int 0, .int 0]) (M1 := (mk_M c n m kk (rT (he, ke, ki, fi, fa, or, mi, a, g, l, w, s) xm xi xw im le nu rf ln nn vp xn xc vs))) (fun f => rfl) ?_
  refine mr_call (y := 135) (y0 := 6) (L := [some (.int 0), some (.int 0), some (.int 2)]) (rest := []) (rr := some (.int 1)) (M1 := (mk_M c n m kk (rT (he, ke, ki, fi, fa, or, mi, a, g, l, w, s) xm xi xw im le nu rf ln nn vp xn xc vs))) (fun f => rfl) (by
      exact mr_ret 9 (fun f => rfl)) ?_
  refine mr_seg 5 (pc1 := 24) (ls1 := [some (.ref 138), some (.int 0), none, none]) (st1 := [.ref 139]) (M1 := (mk_M c n m kk (rT (he, ke, ki, fi, fa, or, mi, a, g, l, w, s) xm xi xw im le nu rf ln nn vp xn xc vs))) (fun f => rfl) ?_
  refine mr_call (y := 148) (y0 := 27) (L := [some (.ref 139), none, none]) (rest := []) (rr := some (.int (kS9 a g))) (M1 := (mk_M c n m kk (rT (he, ke, ki, fi, fa, or, mi, a, g, l, w, s) xm xi xw im le nu rf ln nn vp xn xc vs))) (fun f => rfl) (rl_s c n m kk (rT (he, ke, ki, fi, fa, or, mi, a, g, l, w, s) xm xi xw im le nu rf ln nn vp xn xc vs) (rc_sgn_s he ke ki fi fa or mi a g l w s v8 v9) rfl) ?_
  exact mr_ret 1 (fun f => rfl)
theorem oe_pushing_2 (he ke ki fi fa or : List Nat) (mi a g l w s : Nat) (m : kG) (kk : kG) (im : Nat) (le : List Nat) (ln : Nat) (ys : List Int32) (vt : Int32) (nu : List Nat) (nn : Nat) (rf : List Nat) (vw : Int32) (vq : Int32) (yc : List Int32) (yh : List Int32) (yg : List Int32) (xm : List Int32) (xi : List Int32) (xw : List Int32) (vp : Int32) (xn : List Int32) (xc : List Int32) (vs : Int32) (hA : iA (he, ke, ki, fi, fa, or, mi, a, g, l, w, s)) (hB : iB le ln) (hC : iC nu nn) (hD : iD rf) (hJ : iJ m ys yc yh yg) (hR : iR xm xw xn xc) (hK : iK im kk xi) : oI 64 157 [some (.ref 100), some (.int 0)] [some (.ref 138), some (.int 0), none, none] (mk_M (cT im le ln ys vt nu nn rf vw vq yc yh yg) (kr (he, ke, ki, fi, fa, or, mi, a, g, l, w, s)) m kk (rT (he, ke, ki, fi, fa, or, mi, a, g, l, w, s) xm xi xw im le nu rf ln nn vp xn xc vs)) := by
  exact ⟨(kS9 a g), _, _, oc_pushing_2 he ke ki fi fa or mi a g l w s im le ln ys vt nu nn rf vw vq yc yh yg m kk _ hA hB hC hD hJ hK.1, om_pushing_2 he ke ki fi fa or mi a g l w s xm xi xw im le nu rf ln nn vp xn xc vs _ _ _ _ hA hB hC hD hR hK.2.1, (he, ke, ki, fi, fa, or, mi, a, g, l, w, s), m, kk, im, le, ln, ys, vt, nu, nn, rf, vw, vq, yc, yh, yg, xm, xi, xw, vp, xn, xc, vs, rfl, hA, hB, hC, hD, hJ, hR, hK⟩
set_option maxRecDepth 100000 in
theorem oc_pushing_10 (he ke ki fi fa or : List Nat) (mi a g l w s : Nat) (im : Nat) (le : List Nat) (ln : Nat) (ys : List Int32) (vt : Int32) (nu : List Nat) (nn : Nat) (rf : List Nat) (vw vq : Int32) (yc yh yg : List Int32) (m kk : kG) (q : cR) (hA : iA (he, ke, ki, fi, fa, or, mi, a, g, l, w, s)) (hB : iB le ln) (hC : iC nu nn) (hD : iD rf) (hJ : iJ m ys yc yh yg) (k0 : kSh kk) (hq : mi = 0) : mm_R 64 0 [some (.ref 100), some (.int 1)] [] (mk_M (cT im le ln ys vt nu nn rf vw vq yc yh yg) (kr (he, ke, ki, fi, fa, or, mi, a, g, l, w, s)) m kk q) (some (.int (-9)), (mk_M (cT im le ln ys vt nu nn rf vw vq yc yh yg) (kr (he, ke, ki, fi, fa, or, mi, a, g, l, w, s)) m kk q)) := by
  obtain ⟨hV, hst⟩ := id hA
  have hst2 : s ≤ 999 := hst
  obtain ⟨v1, v2, v3, v4, v5, v6, v7, v8, v9, v10, v11, v12, v13, v14, v15, v16⟩ := id hV
  have v6l := kO_len mi v7 or v6
  obtain ⟨b1, b2, b3⟩ := id hB
  obtain ⟨c1, c2, c3⟩ := id hC
  have d1 : rf.length = 7 := hD
  obtain ⟨j0, j1, j2, j3, j4⟩ := id hJ
  have hn : knext (he, ke, ki, fi, fa, or, mi, a, g, l, w, s) = none := by show (if mi = 0 then none else if a = g then none else some (kway (kg ki (kg or 0)) a (ksgn a g) l (s + 1))) = none; rw [if_pos hq]
  refine mr_seg 4 (pc1 := 40) (ls1 := [some (.ref 100), some (.int 1)]) (st1 := [.ref 117]) (M1 := (mk_M (cT im le ln ys vt nu nn rf vw vq yc yh yg) (kr (he, ke, ki, fi, fa, or, mi, a, g, l, w, s)) m kk q)) (fun f => rfl) ?_
  refine mr_call (y := 45) (y0 := 43) (L := [some (.ref 117)]) (rest := []) (rr := some (.int (-9))) (M1 := (mk_M (cT im le ln ys vt nu nn rf vw vq yc yh yg) (kr (he, ke, ki, fi, fa, or, mi, a, g, l, w, s)) m kk q)) (fun f => rfl) (mr_eq (kl_n (cT im le ln ys vt nu nn rf vw vq yc yh yg) m kk q (kc_next_n he ke ki fi fa or mi a g l w s hV (by omega))) (by rw [hn]; rfl)) ?_
  exact mr_ret 1 (fun f => rfl)
set_option maxRecDepth 100000 in
theorem om_pushing_10 (he ke ki fi fa or : List Nat) (mi a g l w s : Nat) (xm xi xw : List Int32) (im : Nat) (le nu rf : List Nat) (ln nn : Nat) (vp : Int32) (xn xc : List Int32) (vs : Int32) (c : cC) (n m kk : kG) (hA : iA (he, ke, ki, fi, fa, or, mi, a, g, l, w, s)) (hB : iB le ln) (hC : iC nu nn) (hD : iD rf) (hR : iR xm xw xn xc) (k1 : xi.length = 52) (hq : mi = 0) : mm_R 157 0 [some (.ref 138), some (.int 1), none, none] [] (mk_M c n m kk (rT (he, ke, ki, fi, fa, or, mi, a, g, l, w, s) xm xi xw im le nu rf ln nn vp xn xc vs)) (some (.int (-9)), (mk_M c n m kk (rT (he, ke, ki, fi, fa, or, mi, a, g, l, w, s) xm xi xw im le nu rf ln nn vp xn xc vs))) := by
  obtain ⟨hV, hst⟩ := id hA
  have hst2 : s ≤ 999 := hst
  obtain ⟨v1, v2, v3, v4, v5, v6, v7, v8, v9, v10, v11, v12, v13, v14, v15, v16⟩ := id hV
  have v6l := kO_len mi v7 or v6
  obtain ⟨b1, b2, b3⟩ := id hB
  obtain ⟨c1, c2, c3⟩ := id hC
  have d1 : rf.length = 7 := hD
  obtain ⟨r1, r2, r3, r4⟩ := id hR
  have hn : knext (he, ke, ki, fi, fa, or, mi, a, g, l, w, s) = none := by show (if mi = 0 then none else if a = g then none else some (kway (kg ki (kg or 0)) a (ksgn a g) l (s + 1))) = none; rw [if_pos hq]
  refine mr_seg 3 (pc1 := 3) (ls1 := [some (.ref 138), some (.int 1), none, none]) (st1 := [.int 2, .int 0, .int 1]) (M1 := (mk_M c n m kk (rT (he, ke, ki, fi, fa, or, mi, a, g, l, w, s) xm xi xw im le nu rf ln nn vp xn xc vs))) (fun f => rfl) ?_
  refine mr_call (y := 135) (y0 := 6) (L := [some (.int 1), some (.int 0), some (.int 2)]) (rest := []) (rr := some (.int 1)) (M1 := (mk_M c n m kk (rT (he, ke, ki, fi, fa, or, mi, a, g, l, w, s) xm xi xw im le nu rf ln nn vp xn xc vs))) (fun f => rfl) (by
      exact mr_ret 9 (fun f => rfl)) ?_
  refine mr_seg 6 (pc1 := 33) (ls1 := [some (.ref 138), some (.int 1), none, none]) (st1 := [.int 0, .ref 139]) (M1 := (mk_M c n m kk (rT (he, ke, ki, fi, fa, or, mi, a, g, l, w, s) xm xi xw im le nu rf ln nn vp xn xc vs))) (fun f => rfl) ?_
  refine mr_ldn (xs := (er (he, ke, ki, fi, fa, or, mi, a, g, l, w, s))) rfl rfl (k := 0) (by decide) rfl ?_
  refine mr_t (C := (nI mi) = 0) (nI_eqt (a := mi) (b := 0) (by omega)) (fun f => rfl) ?_
  exact mr_ret 2 (fun f => rfl)
theorem oe_pushing_10 (he ke ki fi fa or : List Nat) (mi a g l w s : Nat) (m : kG) (kk : kG) (im : Nat) (le : List Nat) (ln : Nat) (ys : List Int32) (vt : Int32) (nu : List Nat) (nn : Nat) (rf : List Nat) (vw : Int32) (vq : Int32) (yc : List Int32) (yh : List Int32) (yg : List Int32) (xm : List Int32) (xi : List Int32) (xw : List Int32) (vp : Int32) (xn : List Int32) (xc : List Int32) (vs : Int32) (hA : iA (he, ke, ki, fi, fa, or, mi, a, g, l, w, s)) (hB : iB le ln) (hC : iC nu nn) (hD : iD rf) (hJ : iJ m ys yc yh yg) (hR : iR xm xw xn xc) (hK : iK im kk xi) (hq : mi = 0) : oI 64 157 [some (.ref 100), some (.int 1)] [some (.ref 138), some (.int 1), none, none] (mk_M (cT im le ln ys vt nu nn rf vw vq yc yh yg) (kr (he, ke, ki, fi, fa, or, mi, a, g, l, w, s)) m kk (rT (he, ke, ki, fi, fa, or, mi, a, g, l, w, s) xm xi xw im le nu rf ln nn vp xn xc vs)) := by
  exact ⟨(-9), _, _, oc_pushing_10 he ke ki fi fa or mi a g l w s im le ln ys vt nu nn rf vw vq yc yh yg m kk _ hA hB hC hD hJ hK.1 hq, om_pushing_10 he ke ki fi fa or mi a g l w s xm xi xw im le nu rf ln nn vp xn xc vs _ _ _ _ hA hB hC hD hR hK.2.1 hq, (he, ke, ki, fi, fa, or, mi, a, g, l, w, s), m, kk, im, le, ln, ys, vt, nu, nn, rf, vw, vq, yc, yh, yg, xm, xi, xw, vp, xn, xc, vs, rfl, hA, hB, hC, hD, hJ, hR, hK⟩
set_option maxRecDepth 100000 in
theorem oc_pushing_11 (he ke ki fi fa or : List Nat) (mi a g l w s : Nat) (im : Nat) (le : List Nat) (ln : Nat) (ys : List Int32) (vt : Int32) (nu : List Nat) (nn : Nat) (rf : List Nat) (vw vq : Int32) (yc yh yg : List Int32) (m kk : kG) (q : cR) (hA : iA (he, ke, ki, fi, fa, or, mi, a, g, l, w, s)) (hB : iB le ln) (hC : iC nu nn) (hD : iD rf) (hJ : iJ m ys yc yh yg) (k0 : kSh kk) (hq : ¬ mi = 0) (hr : a = g) : mm_R 64 0 [some (.ref 100), some (.int 1)] [] (mk_M (cT im le ln ys vt nu nn rf vw vq yc yh yg) (kr (he, ke, ki, fi, fa, or, mi, a, g, l, w, s)) m kk q) (some (.int (-9)), (mk_M (cT im le ln ys vt nu nn rf vw vq yc yh yg) (kr (he, ke, ki, fi, fa, or, mi, a, g, l, w, s)) m kk q)) := by
  obtain ⟨hV, hst⟩ := id hA
  have hst2 : s ≤ 999 := hst
  obtain ⟨v1, v2, v3, v4, v5, v6, v7, v8, v9, v10, v11, v12, v13, v14, v15, v16⟩ := id hV
  have v6l := kO_len mi v7 or v6
  obtain ⟨b1, b2, b3⟩ := id hB
  obtain ⟨c1, c2, c3⟩ := id hC
  have d1 : rf.length = 7 := hD
  obtain ⟨j0, j1, j2, j3, j4⟩ := id hJ
  have hn : knext (he, ke, ki, fi, fa, or, mi, a, g, l, w, s) = none := by show (if mi = 0 then none else if a = g then none else some (kway (kg ki (kg or 0)) a (ksgn a g) l (s + 1))) = none; rw [if_neg hq, if_pos hr]
  refine mr_seg 4 (pc1 := 40) (ls1 := [some (.ref 100), some (.int 1)]) (st1 := [.ref 117]) (M1 := (mk_M (cT im le ln ys vt nu nn rf vw vq yc yh yg) (kr (he, ke, ki, fi, fa, or, mi, a, g, l, w, s)) m kk q)) (fun f => rfl) ?_
  refine mr_call (y := 45) (y0 := 43) (L := [some (.ref 117)]) (rest := []) (rr := some (.int (-9))) (M1 := (mk_M (cT im le ln ys vt nu nn rf vw vq yc yh yg) (kr (he, ke, ki, fi, fa, or, mi, a, g, l, w, s)) m kk q)) (fun f => rfl) (mr_eq (kl_n (cT im le ln ys vt nu nn rf vw vq yc yh yg) m kk q (kc_next_n he ke ki fi fa or mi a g l w s hV (by omega))) (by rw [hn]; rfl)) ?_
  exact mr_ret 1 (fun f => rfl)
set_option maxRecDepth 100000 in
theorem om_pushing_11 (he ke ki fi fa or : List Nat) (mi a g l w s : Nat) (xm xi xw : List Int32) (im : Nat) (le nu rf : List Nat) (ln nn : Nat) (vp : Int32) (xn xc : List Int32) (vs : Int32) (c : cC) (n m kk : kG) (hA : iA (he, ke, ki, fi, fa, or, mi, a, g, l, w, s)) (hB : iB le ln) (hC : iC nu nn) (hD : iD rf) (hR : iR xm xw xn xc) (k1 : xi.length = 52) (hq : ¬ mi = 0) (hr : a = g) : mm_R 157 0 [some (.ref 138), some (.int 1), none, none] [] (mk_M c n m kk (rT (he, ke, ki, fi, fa, or, mi, a, g, l, w, s) xm xi xw im le nu rf ln nn vp xn xc vs)) (some (.int (-9)), (mk_M c n m kk (rT (he, ke, ki, fi, fa, or, mi, a, g, l, w, s) xm xi xw im le nu rf ln nn vp xn xc vs))) := by
  obtain ⟨hV, hst⟩ := id hA
  have hst2 : s ≤ 999 := hst
  obtain ⟨v1, v2, v3, v4, v5, v6, v7, v8, v9, v10, v11, v12, v13, v14, v15, v16⟩ := id hV
  have v6l := kO_len mi v7 or v6
  obtain ⟨b1, b2, b3⟩ := id hB
  obtain ⟨c1, c2, c3⟩ := id hC
  have d1 : rf.length = 7 := hD
  obtain ⟨r1, r2, r3, r4⟩ := id hR
  have hn : knext (he, ke, ki, fi, fa, or, mi, a, g, l, w, s) = none := by show (if mi = 0 then none else if a = g then none else some (kway (kg ki (kg or 0)) a (ksgn a g) l (s + 1))) = none; rw [if_neg hq, if_pos hr]
  refine mr_seg 3 (pc1 := 3) (ls1 := [some (.ref 138), some (.int 1), none, none]) (st1 := [.int 2, .int 0, .int 1]) (M1 := (mk_M c n m kk (rT (he, ke, ki, fi, fa, or, mi, a, g, l, w, s) xm xi xw im le nu rf ln nn vp xn xc vs))) (fun f => rfl) ?_
  refine mr_call (y := 135) (y0 := 6) (L := [some (.int 1), some (.int 0), some (.int 2)]) (rest := []) (rr := some (.int 1)) (M1 := (mk_M c n m kk (rT (he, ke, ki, fi, fa, or, mi, a, g, l, w, s) xm xi xw im le nu rf ln nn vp xn xc vs))) (fun f => rfl) (by
      exact mr_ret 9 (fun f => rfl)) ?_
  refine mr_seg 6 (pc1 := 33) (ls1 := [some (.ref 138), some (.int 1), none, none]) (st1 := [.int 0, .ref 139]) (M1 := (mk_M c n m kk (rT (he, ke, ki, fi, fa, or, mi, a, g, l, w, s) xm xi xw im le nu rf ln nn vp xn xc vs))) (fun f => rfl) ?_
  refine mr_ldn (xs := (er (he, ke, ki, fi, fa, or, mi, a, g, l, w, s))) rfl rfl (k := 0) (by decide) rfl ?_
  refine mr_f (C := (nI mi) = 0) (fun e_ => absurd ((nI_eqi (a := mi) (b := 0) (by omega)).mp e_) (hq)) (fun f => rfl) ?_
  refine mr_seg 3 (pc1 := 42) (ls1 := [some (.ref 138), some (.int 1), none, none]) (st1 := [.int 2, .ref 139]) (M1 := (mk_M c n m kk (rT (he, ke, ki, fi, fa, or, mi, a, g, l, w, s) xm xi xw im le nu rf ln nn vp xn xc vs))) (fun f => rfl) ?_
  refine mr_ldn (xs := (er (he, ke, ki, fi, fa, or, mi, a, g, l, w, s))) rfl rfl (k := 2) (by decide) rfl ?_
  refine mr_seg 3 (pc1 := 48) (ls1 := [some (.ref 138), some (.int 1), none, none]) (st1 := [.int 3, .ref 139, .int (nI a)]) (M1 := (mk_M c n m kk (rT (he, ke, ki, fi, fa, or, mi, a, g, l, w, s) xm xi xw im le nu rf ln nn vp xn xc vs))) (fun f => rfl) ?_
  refine mr_ldn (xs := (er (he, ke, ki, fi, fa, or, mi, a, g, l, w, s))) rfl rfl (k := 3) (by decide) rfl ?_
  refine mr_t (C := (nI a) = (nI g)) (nI_eqt (a := a) (b := g) (by omega)) (fun f => rfl) ?_
  exact mr_ret 2 (fun f => rfl)
theorem oe_pushing_11 (he ke ki fi fa or : List Nat) (mi a g l w s : Nat) (m : kG) (kk : kG) (im : Nat) (le : List Nat) (ln : Nat) (ys : List Int32) (vt : Int32) (nu : List Nat) (nn : Nat) (rf : List Nat) (vw : Int32) (vq : Int32) (yc : List Int32) (yh : List Int32) (yg : List Int32) (xm : List Int32) (xi : List Int32) (xw : List Int32) (vp : Int32) (xn : List Int32) (xc : List Int32) (vs : Int32) (hA : iA (he, ke, ki, fi, fa, or, mi, a, g, l, w, s)) (hB : iB le ln) (hC : iC nu nn) (hD : iD rf) (hJ : iJ m ys yc yh yg) (hR : iR xm xw xn xc) (hK : iK im kk xi) (hq : ¬ mi = 0) (hr : a = g) : oI 64 157 [some (.ref 100), some (.int 1)] [some (.ref 138), some (.int 1), none, none] (mk_M (cT im le ln ys vt nu nn rf vw vq yc yh yg) (kr (he, ke, ki, fi, fa, or, mi, a, g, l, w, s)) m kk (rT (he, ke, ki, fi, fa, or, mi, a, g, l, w, s) xm xi xw im le nu rf ln nn vp xn xc vs)) := by
  exact ⟨(-9), _, _, oc_pushing_11 he ke ki fi fa or mi a g l w s im le ln ys vt nu nn rf vw vq yc yh yg m kk _ hA hB hC hD hJ hK.1 hq hr, om_pushing_11 he ke ki fi fa or mi a g l w s xm xi xw im le nu rf ln nn vp xn xc vs _ _ _ _ hA hB hC hD hR hK.2.1 hq hr, (he, ke, ki, fi, fa, or, mi, a, g, l, w, s), m, kk, im, le, ln, ys, vt, nu, nn, rf, vw, vq, yc, yh, yg, xm, xi, xw, vp, xn, xc, vs, rfl, hA, hB, hC, hD, hJ, hR, hK⟩
set_option maxRecDepth 100000 in
theorem oc_pushing_12 (he ke ki fi fa or : List Nat) (mi a g l w s : Nat) (im : Nat) (le : List Nat) (ln : Nat) (ys : List Int32) (vt : Int32) (nu : List Nat) (nn : Nat) (rf : List Nat) (vw vq : Int32) (yc yh yg : List Int32) (m kk : kG) (q : cR) (hA : iA (he, ke, ki, fi, fa, or, mi, a, g, l, w, s)) (hB : iB le ln) (hC : iC nu nn) (hD : iD rf) (hJ : iJ m ys yc yh yg) (k0 : kSh kk) (y : Nat) (hn : knext (he, ke, ki, fi, fa, or, mi, a, g, l, w, s) = some y) (hb : kbey a y = none) : mm_R 64 0 [some (.ref 100), some (.int 1)] [] (mk_M (cT im le ln ys vt nu nn rf vw vq yc yh yg) (kr (he, ke, ki, fi, fa, or, mi, a, g, l, w, s)) m kk q) (some (.int (nI y)), (mk_M (cT im le ln ys vt nu nn rf vw vq yc yh yg) (kr (he, ke, ki, fi, fa, or, mi, a, g, l, w, s)) m kk q)) := by
  obtain ⟨hV, hst⟩ := id hA
  have hst2 : s ≤ 999 := hst
  obtain ⟨v1, v2, v3, v4, v5, v6, v7, v8, v9, v10, v11, v12, v13, v14, v15, v16⟩ := id hV
  have v6l := kO_len mi v7 or v6
  obtain ⟨b1, b2, b3⟩ := id hB
  obtain ⟨c1, c2, c3⟩ := id hC
  have d1 : rf.length = 7 := hD
  obtain ⟨j0, j1, j2, j3, j4⟩ := id hJ
  have hq := knext_mi hn
  have hne := knext_ne hn
  have hy0 := knext_y hn
  have hy := knext_lt hV hn
  have v60 := kO_lt5 mi v7 or v6 0 (by omega)
  refine mr_seg 4 (pc1 := 40) (ls1 := [some (.ref 100), some (.int 1)]) (st1 := [.ref 117]) (M1 := (mk_M (cT im le ln ys vt nu nn rf vw vq yc yh yg) (kr (he, ke, ki, fi, fa, or, mi, a, g, l, w, s)) m kk q)) (fun f => rfl) ?_
  refine mr_call (y := 45) (y0 := 43) (L := [some (.ref 117)]) (rest := []) (rr := some (.int (nI y))) (M1 := (mk_M (cT im le ln ys vt nu nn rf vw vq yc yh yg) (kr (he, ke, ki, fi, fa, or, mi, a, g, l, w, s)) m kk q)) (fun f => rfl) (mr_eq (kl_n (cT im le ln ys vt nu nn rf vw vq yc yh yg) m kk q (kc_next_n he ke ki fi fa or mi a g l w s hV (by omega))) (by rw [hn]; rfl)) ?_
  exact mr_ret 1 (fun f => rfl)
set_option maxRecDepth 100000 in
theorem om_pushing_12 (he ke ki fi fa or : List Nat) (mi a g l w s : Nat) (xm xi xw : List Int32) (im : Nat) (le nu rf : List Nat) (ln nn : Nat) (vp : Int32) (xn xc : List Int32) (vs : Int32) (c : cC) (n m kk : kG) (hA : iA (he, ke, ki, fi, fa, or, mi, a, g, l, w, s)) (hB : iB le ln) (hC : iC nu nn) (hD : iD rf) (hR : iR xm xw xn xc) (k1 : xi.length = 52) (y : Nat) (hn : knext (he, ke, ki, fi, fa, or, mi, a, g, l, w, s) = some y) (hb : kbey a y = none) : mm_R 157 0 [some (.ref 138), some (.int 1), none, none] [] (mk_M c n m kk (rT (he, ke, ki, fi, fa, or, mi, a, g, l, w, s) xm xi xw im le nu rf ln nn vp xn xc vs)) (some (.int (nI y)), (mk_M c n m kk (rT (he, ke, ki, fi, fa, or, mi, a, g, l, w, s) xm xi xw im le nu rf ln nn vp xn xc vs))) := by
  obtain ⟨hV, hst⟩ := id hA
  have hst2 : s ≤ 999 := hst
  obtain ⟨v1, v2, v3, v4, v5, v6, v7, v8, v9, v10, v11, v12, v13, v14, v15, v16⟩ := id hV
  have v6l := kO_len mi v7 or v6
  obtain ⟨b1, b2, b3⟩ := id hB
  obtain ⟨c1, c2, c3⟩ := id hC
  have d1 : rf.length = 7 := hD
  obtain ⟨r1, r2, r3, r4⟩ := id hR
  have hq := knext_mi hn
  have hne := knext_ne hn
  have hy0 := knext_y hn
  have hy := knext_lt hV hn
  have v60 := kO_lt5 mi v7 or v6 0 (by omega)
  refine mr_seg 3 (pc1 := 3) (ls1 := [some (.ref 138), some (.int 1), none, none]) (st1 := [.int 2, .int 0, .int 1]) (M1 := (mk_M c n m kk (rT (he, ke, ki, fi, fa, or, mi, a, g, l, w, s) xm xi xw im le nu rf ln nn vp xn xc vs))) (fun f => rfl) ?_
  refine mr_call (y := 135) (y0 := 6) (L := [some (.int 1), some (.int 0), some (.int 2)]) (rest := []) (rr := some (.int 1)) (M1 := (mk_M c n m kk (rT (he, ke, ki, fi, fa, or, mi, a, g, l, w, s) xm xi xw im le nu rf ln nn vp xn xc vs))) (fun f => rfl) (by
      exact mr_ret 9 (fun f => rfl)) ?_
  refine mr_seg 6 (pc1 := 33) (ls1 := [some (.ref 138), some (.int 1), none, none]) (st1 := [.int 0, .ref 139]) (M1 := (mk_M c n m kk (rT (he, ke, ki, fi, fa, or, mi, a, g, l, w, s) xm xi xw im le nu rf ln nn vp xn xc vs))) (fun f => rfl) ?_
  refine mr_ldn (xs := (er (he, ke, ki, fi, fa, or, mi, a, g, l, w, s))) rfl rfl (k := 0) (by decide) rfl ?_
  refine mr_f (C := (nI mi) = 0) (nI_eqf (a := mi) (b := 0) (by omega)) (fun f => rfl) ?_
  refine mr_seg 3 (pc1 := 42) (ls1 := [some (.ref 138), some (.int 1), none, none]) (st1 := [.int 2, .ref 139]) (M1 := (mk_M c n m kk (rT (he, ke, ki, fi, fa, or, mi, a, g, l, w, s) xm xi xw im le nu rf ln nn vp xn xc vs))) (fun f => rfl) ?_
  refine mr_ldn (xs := (er (he, ke, ki, fi, fa, or, mi, a, g, l, w, s))) rfl rfl (k := 2) (by decide) rfl ?_
  refine mr_seg 3 (pc1 := 48) (ls1 := [some (.ref 138), some (.int 1), none, none]) (st1 := [.int 3, .ref 139, .int (nI a)]) (M1 := (mk_M c n m kk (rT (he, ke, ki, fi, fa, or, mi, a, g, l, w, s) xm xi xw im le nu rf ln nn vp xn xc vs))) (fun f => rfl) ?_
  refine mr_ldn (xs := (er (he, ke, ki, fi, fa, or, mi, a, g, l, w, s))) rfl rfl (k := 3) (by decide) rfl ?_
  refine mr_f (C := (nI a) = (nI g)) (fun e_ => absurd ((nI_eqi (a := a) (b := g) (by omega)).mp e_) (hne)) (fun f => rfl) ?_
  refine mr_seg 5 (pc1 := 65) (ls1 := [some (.ref 138), some (.int 1), none, none]) (st1 := [.int 47, .ref 139, .ref 139]) (M1 := (mk_M c n m kk (rT (he, ke, ki, fi, fa, or, mi, a, g, l, w, s) xm xi xw im le nu rf ln nn vp xn xc vs))) (fun f => rfl) ?_
  refine mr_ldn (xs := (er (he, ke, ki, fi, fa, or, mi, a, g, l, w, s))) rfl rfl (k := 47) (by decide) (er_or (K := (he, ke, ki, fi, fa, or, mi, a, g, l, w, s)) v1 v6l (j := 0) (by decide)) ?_
  refine mr_seg 3 (pc1 := 71) (ls1 := [some (.ref 138), some (.int 1), none, none]) (st1 := [.int 1, .ref 139, .int (nI (kg or 0)), .ref 139]) (M1 := (mk_M c n m kk (rT (he, ke, ki, fi, fa, or, mi, a, g, l, w, s) xm xi xw im le nu rf ln nn vp xn xc vs))) (fun f => rfl) ?_
  refine mr_ldn (xs := (er (he, ke, ki, fi, fa, or, mi, a, g, l, w, s))) rfl rfl (k := 1) (by decide) rfl ?_
  refine mr_seg 2 (pc1 := 74) (ls1 := [some (.ref 138), some (.int 1), none, none]) (st1 := [.int ((nI s) + 1), .int (nI (kg or 0)), .ref 139]) (M1 := (mk_M c n m kk (rT (he, ke, ki, fi, fa, or, mi, a, g, l, w, s) xm xi xw im le nu rf ln nn vp xn xc vs))) (fun f => rfl) ?_
  refine mr_v (nI_add s 1) ?_
  refine mr_call (y := 147) (y0 := 77) (L := [some (.ref 139), some (.int (nI (kg or 0))), some (.int (nI (s + 1))), none, none, none]) (rest := []) (rr := some (.int (nI y))) (M1 := (mk_M c n m kk (rT (he, ke, ki, fi, fa, or, mi, a, g, l, w, s) xm xi xw im le nu rf ln nn vp xn xc vs))) (fun f => rfl) (mr_eq (rl_s c n m kk (rT (he, ke, ki, fi, fa, or, mi, a, g, l, w, s) xm xi xw im le nu rf ln nn vp xn xc vs) (rc_way_s he ke ki fi fa or mi a g l w s (kg or 0) (s + 1) v60 (by omega) hV hne) rfl) (by rw [hy0] <;> rfl)) ?_
  refine mr_seg 4 (pc1 := 83) (ls1 := [some (.ref 138), some (.int 1), some (.int (nI y)), none]) (st1 := [.int 2, .ref 139]) (M1 := (mk_M c n m kk (rT (he, ke, ki, fi, fa, or, mi, a, g, l, w, s) xm xi xw im le nu rf ln nn vp xn xc vs))) (fun f => rfl) ?_
  refine mr_ldn (xs := (er (he, ke, ki, fi, fa, or, mi, a, g, l, w, s))) rfl rfl (k := 2) (by decide) rfl ?_
  refine mr_seg 1 (pc1 := 85) (ls1 := [some (.ref 138), some (.int 1), some (.int (nI y)), none]) (st1 := [.int (nI y), .int (nI a)]) (M1 := (mk_M c n m kk (rT (he, ke, ki, fi, fa, or, mi, a, g, l, w, s) xm xi xw im le nu rf ln nn vp xn xc vs))) (fun f => rfl) ?_
  refine mr_call (y := 149) (y0 := 88) (L := [some (.int (nI a)), some (.int (nI y))]) (rest := []) (rr := some (.int (-9))) (M1 := (mk_M c n m kk (rT (he, ke, ki, fi, fa, or, mi, a, g, l, w, s) xm xi xw im le nu rf ln nn vp xn xc vs))) (fun f => rfl) (mr_eq (rc_bey (c := a) (w := y) (by omega) (by omega) _) (by rw [hb]; rfl)) ?_
  exact mr_ret 7 (fun f => rfl)
theorem oe_pushing_12 (he ke ki fi fa or : List Nat) (mi a g l w s : Nat) (m : kG) (kk : kG) (im : Nat) (le : List Nat) (ln : Nat) (ys : List Int32) (vt : Int32) (nu : List Nat) (nn : Nat) (rf : List Nat) (vw : Int32) (vq : Int32) (yc : List Int32) (yh : List Int32) (yg : List Int32) (xm : List Int32) (xi : List Int32) (xw : List Int32) (vp : Int32) (xn : List Int32) (xc : List Int32) (vs : Int32) (hA : iA (he, ke, ki, fi, fa, or, mi, a, g, l, w, s)) (hB : iB le ln) (hC : iC nu nn) (hD : iD rf) (hJ : iJ m ys yc yh yg) (hR : iR xm xw xn xc) (hK : iK im kk xi) (y : Nat) (hn : knext (he, ke, ki, fi, fa, or, mi, a, g, l, w, s) = some y) (hb : kbey a y = none) : oI 64 157 [some (.ref 100), some (.int 1)] [some (.ref 138), some (.int 1), none, none] (mk_M (cT im le ln ys vt nu nn rf vw vq yc yh yg) (kr (he, ke, ki, fi, fa, or, mi, a, g, l, w, s)) m kk (rT (he, ke, ki, fi, fa, or, mi, a, g, l, w, s) xm xi xw im le nu rf ln nn vp xn xc vs)) := by
  exact ⟨(nI y), _, _, oc_pushing_12 he ke ki fi fa or mi a g l w s im le ln ys vt nu nn rf vw vq yc yh yg m kk _ hA hB hC hD hJ hK.1 y hn hb, om_pushing_12 he ke ki fi fa or mi a g l w s xm xi xw im le nu rf ln nn vp xn xc vs _ _ _ _ hA hB hC hD hR hK.2.1 y hn hb, (he, ke, ki, fi, fa, or, mi, a, g, l, w, s), m, kk, im, le, ln, ys, vt, nu, nn, rf, vw, vq, yc, yh, yg, xm, xi, xw, vp, xn, xc, vs, rfl, hA, hB, hC, hD, hJ, hR, hK⟩
set_option maxRecDepth 100000 in
theorem oc_pushing_13 (he ke ki fi fa or : List Nat) (mi a g l w s : Nat) (im : Nat) (le : List Nat) (ln : Nat) (ys : List Int32) (vt : Int32) (nu : List Nat) (nn : Nat) (rf : List Nat) (vw vq : Int32) (yc yh yg : List Int32) (m kk : kG) (q : cR) (hA : iA (he, ke, ki, fi, fa, or, mi, a, g, l, w, s)) (hB : iB le ln) (hC : iC nu nn) (hD : iD rf) (hJ : iJ m ys yc yh yg) (k0 : kSh kk) (y : Nat) (hn : knext (he, ke, ki, fi, fa, or, mi, a, g, l, w, s) = some y) (u : Nat) (hb : kbey a y = some u) : mm_R 64 0 [some (.ref 100), some (.int 1)] [] (mk_M (cT im le ln ys vt nu nn rf vw vq yc yh yg) (kr (he, ke, ki, fi, fa, or, mi, a, g, l, w, s)) m kk q) (some (.int (nI y)), (mk_M (cT im le ln ys vt nu nn rf vw vq yc yh yg) (kr (he, ke, ki, fi, fa, or, mi, a, g, l, w, s)) m kk q)) := by
  obtain ⟨hV, hst⟩ := id hA
  have hst2 : s ≤ 999 := hst
  obtain ⟨v1, v2, v3, v4, v5, v6, v7, v8, v9, v10, v11, v12, v13, v14, v15, v16⟩ := id hV
  have v6l := kO_len mi v7 or v6
  obtain ⟨b1, b2, b3⟩ := id hB
  obtain ⟨c1, c2, c3⟩ := id hC
  have d1 : rf.length = 7 := hD
  obtain ⟨j0, j1, j2, j3, j4⟩ := id hJ
  have hq := knext_mi hn
  have hne := knext_ne hn
  have hy0 := knext_y hn
  have hy := knext_lt hV hn
  have v60 := kO_lt5 mi v7 or v6 0 (by omega)
  have hu := kbey_lt v8 hb
  refine mr_seg 4 (pc1 := 40) (ls1 := [some (.ref 100), some (.int 1)]) (st1 := [.ref 117]) (M1 := (mk_M (cT im le ln ys vt nu nn rf vw vq yc yh yg) (kr (he, ke, ki, fi, fa, or, mi, a, g, l, w, s)) m kk q)) (fun f => rfl) ?_
  refine mr_call (y := 45) (y0 := 43) (L := [some (.ref 117)]) (rest := []) (rr := some (.int (nI y))) (M1 := (mk_M (cT im le ln ys vt nu nn rf vw vq yc yh yg) (kr (he, ke, ki, fi, fa, or, mi, a, g, l, w, s)) m kk q)) (fun f => rfl) (mr_eq (kl_n (cT im le ln ys vt nu nn rf vw vq yc yh yg) m kk q (kc_next_n he ke ki fi fa or mi a g l w s hV (by omega))) (by rw [hn]; rfl)) ?_
  exact mr_ret 1 (fun f => rfl)
set_option maxRecDepth 100000 in
theorem om_pushing_13 (he ke ki fi fa or : List Nat) (mi a g l w s : Nat) (xm xi xw : List Int32) (im : Nat) (le nu rf : List Nat) (ln nn : Nat) (vp : Int32) (xn xc : List Int32) (vs : Int32) (c : cC) (n m kk : kG) (hA : iA (he, ke, ki, fi, fa, or, mi, a, g, l, w, s)) (hB : iB le ln) (hC : iC nu nn) (hD : iD rf) (hR : iR xm xw xn xc) (k1 : xi.length = 52) (y : Nat) (hn : knext (he, ke, ki, fi, fa, or, mi, a, g, l, w, s) = some y) (u : Nat) (hb : kbey a y = some u) : mm_R 157 0 [some (.ref 138), some (.int 1), none, none] [] (mk_M c n m kk (rT (he, ke, ki, fi, fa, or, mi, a, g, l, w, s) xm xi xw im le nu rf ln nn vp xn xc vs)) (some (.int (nI y)), (mk_M c n m kk (rT (he, ke, ki, fi, fa, or, mi, a, g, l, w, s) xm xi xw im le nu rf ln nn vp xn xc vs))) := by
  obtain ⟨hV, hst⟩ := id hA
  have hst2 : s ≤ 999 := hst
  obtain ⟨v1, v2, v3, v4, v5, v6, v7, v8, v9, v10, v11, v12, v13, v14, v15, v16⟩ := id hV
  have v6l := kO_len mi v7 or v6
  obtain ⟨b1, b2, b3⟩ := id hB
  obtain ⟨c1, c2, c3⟩ := id hC
  have d1 : rf.length = 7 := hD
  obtain ⟨r1, r2, r3, r4⟩ := id hR
  have hq := knext_mi hn
  have hne := knext_ne hn
  have hy0 := knext_y hn
  have hy := knext_lt hV hn
  have v60 := kO_lt5 mi v7 or v6 0 (by omega)
  have hu := kbey_lt v8 hb
  refine mr_seg 3 (pc1 := 3) (ls1 := [some (.ref 138), some (.int 1), none, none]) (st1 := [.int 2, .int 0, .int 1]) (M1 := (mk_M c n m kk (rT (he, ke, ki, fi, fa, or, mi, a, g, l, w, s) xm xi xw im le nu rf ln nn vp xn xc vs))) (fun f => rfl) ?_
  refine mr_call (y := 135) (y0 := 6) (L := [some (.int 1), some (.int 0), some (.int 2)]) (rest := []) (rr := some (.int 1)) (M1 := (mk_M c n m kk (rT (he, ke, ki, fi, fa, or, mi, a, g, l, w, s) xm xi xw im le nu rf ln nn vp xn xc vs))) (fun f => rfl) (by
      exact mr_ret 9 (fun f => rfl)) ?_
  refine mr_seg 6 (pc1 := 33) (ls1 := [some (.ref 138), some (.int 1), none, none]) (st1 := [.int 0, .ref 139]) (M1 := (mk_M c n m kk (rT (he, ke, ki, fi, fa, or, mi, a, g, l, w, s) xm xi xw im le nu rf ln nn vp xn xc vs))) (fun f => rfl) ?_
  refine mr_ldn (xs := (er (he, ke, ki, fi, fa, or, mi, a, g, l, w, s))) rfl rfl (k := 0) (by decide) rfl ?_
  refine mr_f (C := (nI mi) = 0) (nI_eqf (a := mi) (b := 0) (by omega)) (fun f => rfl) ?_
  refine mr_seg 3 (pc1 := 42) (ls1 := [some (.ref 138), some (.int 1), none, none]) (st1 := [.int 2, .ref 139]) (M1 := (mk_M c n m kk (rT (he, ke, ki, fi, fa, or, mi, a, g, l, w, s) xm xi xw im le nu rf ln nn vp xn xc vs))) (fun f => rfl) ?_
  refine mr_ldn (xs := (er (he, ke, ki, fi, fa, or, mi, a, g, l, w, s))) rfl rfl (k := 2) (by decide) rfl ?_
  refine mr_seg 3 (pc1 := 48) (ls1 := [some (.ref 138), some (.int 1), none, none]) (st1 := [.int 3, .ref 139, .int (nI a)]) (M1 := (mk_M c n m kk (rT (he, ke, ki, fi, fa, or, mi, a, g, l, w, s) xm xi xw im le nu rf ln nn vp xn xc vs))) (fun f => rfl) ?_
  refine mr_ldn (xs := (er (he, ke, ki, fi, fa, or, mi, a, g, l, w, s))) rfl rfl (k := 3) (by decide) rfl ?_
  refine mr_f (C := (nI a) = (nI g)) (fun e_ => absurd ((nI_eqi (a := a) (b := g) (by omega)).mp e_) (hne)) (fun f => rfl) ?_
  refine mr_seg 5 (pc1 := 65) (ls1 := [some (.ref 138), some (.int 1), none, none]) (st1 := [.int 47, .ref 139, .ref 139]) (M1 := (mk_M c n m kk (rT (he, ke, ki, fi, fa, or, mi, a, g, l, w, s) xm xi xw im le nu rf ln nn vp xn xc vs))) (fun f => rfl) ?_
  refine mr_ldn (xs := (er (he, ke, ki, fi, fa, or, mi, a, g, l, w, s))) rfl rfl (k := 47) (by decide) (er_or (K := (he, ke, ki, fi, fa, or, mi, a, g, l, w, s)) v1 v6l (j := 0) (by decide)) ?_
  refine mr_seg 3 (pc1 := 71) (ls1 := [some (.ref 138), some (.int 1), none, none]) (st1 := [.int 1, .ref 139, .int (nI (kg or 0)), .ref 139]) (M1 := (mk_M c n m kk (rT (he, ke, ki, fi, fa, or, mi, a, g, l, w, s) xm xi xw im le nu rf ln nn vp xn xc vs))) (fun f => rfl) ?_
  refine mr_ldn (xs := (er (he, ke, ki, fi, fa, or, mi, a, g, l, w, s))) rfl rfl (k := 1) (by decide) rfl ?_
  refine mr_seg 2 (pc1 := 74) (ls1 := [some (.ref 138), some (.int 1), none, none]) (st1 := [.int ((nI s) + 1), .int (nI (kg or 0)), .ref 139]) (M1 := (mk_M c n m kk (rT (he, ke, ki, fi, fa, or, mi, a, g, l, w, s) xm xi xw im le nu rf ln nn vp xn xc vs))) (fun f => rfl) ?_
  refine mr_v (nI_add s 1) ?_
  refine mr_call (y := 147) (y0 := 77) (L := [some (.ref 139), some (.int (nI (kg or 0))), some (.int (nI (s + 1))), none, none, none]) (rest := []) (rr := some (.int (nI y))) (M1 := (mk_M c n m kk (rT (he, ke, ki, fi, fa, or, mi, a, g, l, w, s) xm xi xw im le nu rf ln nn vp xn xc vs))) (fun f => rfl) (mr_eq (rl_s c n m kk (rT (he, ke, ki, fi, fa, or, mi, a, g, l, w, s) xm xi xw im le nu rf ln nn vp xn xc vs) (rc_way_s he ke ki fi fa or mi a g l w s (kg or 0) (s + 1) v60 (by omega) hV hne) rfl) (by rw [hy0] <;> rfl)) ?_
  refine mr_seg 4 (pc1 := 83) (ls1 := [some (.ref 138), some (.int 1), some (.int (nI y)), none]) (st1 := [.int 2, .ref 139]) (M1 := (mk_M c n m kk (rT (he, ke, ki, fi, fa, or, mi, a, g, l, w, s) xm xi xw im le nu rf ln nn vp xn xc vs))) (fun f => rfl) ?_
  refine mr_ldn (xs := (er (he, ke, ki, fi, fa, or, mi, a, g, l, w, s))) rfl rfl (k := 2) (by decide) rfl ?_
  refine mr_seg 1 (pc1 := 85) (ls1 := [some (.ref 138), some (.int 1), some (.int (nI y)), none]) (st1 := [.int (nI y), .int (nI a)]) (M1 := (mk_M c n m kk (rT (he, ke, ki, fi, fa, or, mi, a, g, l, w, s) xm xi xw im le nu rf ln nn vp xn xc vs))) (fun f => rfl) ?_
  refine mr_call (y := 149) (y0 := 88) (L := [some (.int (nI a)), some (.int (nI y))]) (rest := []) (rr := some (.int (nI u))) (M1 := (mk_M c n m kk (rT (he, ke, ki, fi, fa, or, mi, a, g, l, w, s) xm xi xw im le nu rf ln nn vp xn xc vs))) (fun f => rfl) (mr_eq (rc_bey (c := a) (w := y) (by omega) (by omega) _) (by rw [hb]; rfl)) ?_
  exact mr_ret 7 (fun f => rfl)
theorem oe_pushing_13 (he ke ki fi fa or : List Nat) (mi a g l w s : Nat) (m : kG) (kk : kG) (im : Nat) (le : List Nat) (ln : Nat) (ys : List Int32) (vt : Int32) (nu : List Nat) (nn : Nat) (rf : List Nat) (vw : Int32) (vq : Int32) (yc : List Int32) (yh : List Int32) (yg : List Int32) (xm : List Int32) (xi : List Int32) (xw : List Int32) (vp : Int32) (xn : List Int32) (xc : List Int32) (vs : Int32) (hA : iA (he, ke, ki, fi, fa, or, mi, a, g, l, w, s)) (hB : iB le ln) (hC : iC nu nn) (hD : iD rf) (hJ : iJ m ys yc yh yg) (hR : iR xm xw xn xc) (hK : iK im kk xi) (y : Nat) (hn : knext (he, ke, ki, fi, fa, or, mi, a, g, l, w, s) = some y) (u : Nat) (hb : kbey a y = some u) : oI 64 157 [some (.ref 100), some (.int 1)] [some (.ref 138), some (.int 1), none, none] (mk_M (cT im le ln ys vt nu nn rf vw vq yc yh yg) (kr (he, ke, ki, fi, fa, or, mi, a, g, l, w, s)) m kk (rT (he, ke, ki, fi, fa, or, mi, a, g, l, w, s) xm xi xw im le nu rf ln nn vp xn xc vs)) := by
  exact ⟨(nI y), _, _, oc_pushing_13 he ke ki fi fa or mi a g l w s im le ln ys vt nu nn rf vw vq yc yh yg m kk _ hA hB hC hD hJ hK.1 y hn u hb, om_pushing_13 he ke ki fi fa or mi a g l w s xm xi xw im le nu rf ln nn vp xn xc vs _ _ _ _ hA hB hC hD hR hK.2.1 y hn u hb, (he, ke, ki, fi, fa, or, mi, a, g, l, w, s), m, kk, im, le, ln, ys, vt, nu, nn, rf, vw, vq, yc, yh, yg, xm, xi, xw, vp, xn, xc, vs, rfl, hA, hB, hC, hD, hJ, hR, hK⟩
set_option maxRecDepth 100000 in
theorem oc_pushing_20 (he ke ki fi fa or : List Nat) (mi a g l w s : Nat) (im : Nat) (le : List Nat) (ln : Nat) (ys : List Int32) (vt : Int32) (nu : List Nat) (nn : Nat) (rf : List Nat) (vw vq : Int32) (yc yh yg : List Int32) (m kk : kG) (q : cR) (hA : iA (he, ke, ki, fi, fa, or, mi, a, g, l, w, s)) (hB : iB le ln) (hC : iC nu nn) (hD : iD rf) (hJ : iJ m ys yc yh yg) (k0 : kSh kk) (hq : mi = 0) : mm_R 64 0 [some (.ref 100), some (.int 2)] [] (mk_M (cT im le ln ys vt nu nn rf vw vq yc yh yg) (kr (he, ke, ki, fi, fa, or, mi, a, g, l, w, s)) m kk q) (some (.int (-9)), (mk_M (cT im le ln ys vt nu nn rf vw vq yc yh yg) (kr (he, ke, ki, fi, fa, or, mi, a, g, l, w, s)) m kk q)) := by
  obtain ⟨hV, hst⟩ := id hA
  have hst2 : s ≤ 999 := hst
  obtain ⟨v1, v2, v3, v4, v5, v6, v7, v8, v9, v10, v11, v12, v13, v14, v15, v16⟩ := id hV
  have v6l := kO_len mi v7 or v6
  obtain ⟨b1, b2, b3⟩ := id hB
  obtain ⟨c1, c2, c3⟩ := id hC
  have d1 : rf.length = 7 := hD
  obtain ⟨j0, j1, j2, j3, j4⟩ := id hJ
  have hn : knext (he, ke, ki, fi, fa, or, mi, a, g, l, w, s) = none := by show (if mi = 0 then none else if a = g then none else some (kway (kg ki (kg or 0)) a (ksgn a g) l (s + 1))) = none; rw [if_pos hq]
  refine mr_seg 9 (pc1 := 59) (ls1 := [some (.ref 100), some (.int 2)]) (st1 := [.ref 117, .int (nI a), .ref 117]) (M1 := (mk_M (cT im le ln ys vt nu nn rf vw vq yc yh yg) (kr (he, ke, ki, fi, fa, or, mi, a, g, l, w, s)) m kk q)) (fun f => rfl) ?_
  refine mr_call (y := 45) (y0 := 62) (L := [some (.ref 117)]) (rest := [.int (nI a), .ref 117]) (rr := some (.int (-9))) (M1 := (mk_M (cT im le ln ys vt nu nn rf vw vq yc yh yg) (kr (he, ke, ki, fi, fa, or, mi, a, g, l, w, s)) m kk q)) (fun f => rfl) (mr_eq (kl_n (cT im le ln ys vt nu nn rf vw vq yc yh yg) m kk q (kc_next_n he ke ki fi fa or mi a g l w s hV (by omega))) (by rw [hn]; rfl)) ?_
  refine mr_call (y := 48) (y0 := 65) (L := [some (.int (nI a)), some (.int (-9))]) (rest := [.ref 117]) (rr := some (.int (-9))) (M1 := (mk_M (cT im le ln ys vt nu nn rf vw vq yc yh yg) (kr (he, ke, ki, fi, fa, or, mi, a, g, l, w, s)) m kk q)) (fun f => rfl) (kc_bey9 (by omega) _) ?_
  refine mr_call (y := 54) (y0 := 68) (L := [some (.ref 117), some (.int (-9)), none]) (rest := []) (rr := some (.int (-9))) (M1 := (mk_M (cT im le ln ys vt nu nn rf vw vq yc yh yg) (kr (he, ke, ki, fi, fa, or, mi, a, g, l, w, s)) m kk q)) (fun f => rfl) (by
      exact mr_ret 5 (fun f => rfl)) ?_
  exact mr_ret 1 (fun f => rfl)
set_option maxRecDepth 100000 in
theorem om_pushing_20 (he ke ki fi fa or : List Nat) (mi a g l w s : Nat) (xm xi xw : List Int32) (im : Nat) (le nu rf : List Nat) (ln nn : Nat) (vp : Int32) (xn xc : List Int32) (vs : Int32) (c : cC) (n m kk : kG) (hA : iA (he, ke, ki, fi, fa, or, mi, a, g, l, w, s)) (hB : iB le ln) (hC : iC nu nn) (hD : iD rf) (hR : iR xm xw xn xc) (k1 : xi.length = 52) (hq : mi = 0) : mm_R 157 0 [some (.ref 138), some (.int 2), none, none] [] (mk_M c n m kk (rT (he, ke, ki, fi, fa, or, mi, a, g, l, w, s) xm xi xw im le nu rf ln nn vp xn xc vs)) (some (.int (-9)), (mk_M c n m kk (rT (he, ke, ki, fi, fa, or, mi, a, g, l, w, s) xm xi xw im le nu rf ln nn vp xn xc vs))) := by
  obtain ⟨hV, hst⟩ := id hA
  have hst2 : s ≤ 999 := hst
  obtain ⟨v1, v2, v3, v4, v5, v6, v7, v8, v9, v10, v11, v12, v13, v14, v15, v16⟩ := id hV
  have v6l := kO_len mi v7 or v6
  obtain ⟨b1, b2, b3⟩ := id hB
  obtain ⟨c1, c2, c3⟩ := id hC
  have d1 : rf.length = 7 := hD
  obtain ⟨r1, r2, r3, r4⟩ := id hR
  have hn : knext (he, ke, ki, fi, fa, or, mi, a, g, l, w, s) = none := by show (if mi = 0 then none else if a = g then none else some (kway (kg ki (kg or 0)) a (ksgn a g) l (s + 1))) = none; rw [if_pos hq]
  refine mr_seg 3 (pc1 := 3) (ls1 := [some (.ref 138), some (.int 2), none, none]) (st1 := [.int 2, .int 0, .int 2]) (M1 := (mk_M c n m kk (rT (he, ke, ki, fi, fa, or, mi, a, g, l, w, s) xm xi xw im le nu rf ln nn vp xn xc vs))) (fun f => rfl) ?_
  refine mr_call (y := 135) (y0 := 6) (L := [some (.int 2), some (.int 0), some (.int 2)]) (rest := []) (rr := some (.int 1)) (M1 := (mk_M c n m kk (rT (he, ke, ki, fi, fa, or, mi, a, g, l, w, s) xm xi xw im le nu rf ln nn vp xn xc vs))) (fun f => rfl) (by
      exact mr_ret 9 (fun f => rfl)) ?_
  refine mr_seg 6 (pc1 := 33) (ls1 := [some (.ref 138), some (.int 2), none, none]) (st1 := [.int 0, .ref 139]) (M1 := (mk_M c n m kk (rT (he, ke, ki, fi, fa, or, mi, a, g, l, w, s) xm xi xw im le nu rf ln nn vp xn xc vs))) (fun f => rfl) ?_
  refine mr_ldn (xs := (er (he, ke, ki, fi, fa, or, mi, a, g, l, w, s))) rfl rfl (k := 0) (by decide) rfl ?_
  refine mr_t (C := (nI mi) = 0) (nI_eqt (a := mi) (b := 0) (by omega)) (fun f => rfl) ?_
  exact mr_ret 2 (fun f => rfl)
theorem oe_pushing_20 (he ke ki fi fa or : List Nat) (mi a g l w s : Nat) (m : kG) (kk : kG) (im : Nat) (le : List Nat) (ln : Nat) (ys : List Int32) (vt : Int32) (nu : List Nat) (nn : Nat) (rf : List Nat) (vw : Int32) (vq : Int32) (yc : List Int32) (yh : List Int32) (yg : List Int32) (xm : List Int32) (xi : List Int32) (xw : List Int32) (vp : Int32) (xn : List Int32) (xc : List Int32) (vs : Int32) (hA : iA (he, ke, ki, fi, fa, or, mi, a, g, l, w, s)) (hB : iB le ln) (hC : iC nu nn) (hD : iD rf) (hJ : iJ m ys yc yh yg) (hR : iR xm xw xn xc) (hK : iK im kk xi) (hq : mi = 0) : oI 64 157 [some (.ref 100), some (.int 2)] [some (.ref 138), some (.int 2), none, none] (mk_M (cT im le ln ys vt nu nn rf vw vq yc yh yg) (kr (he, ke, ki, fi, fa, or, mi, a, g, l, w, s)) m kk (rT (he, ke, ki, fi, fa, or, mi, a, g, l, w, s) xm xi xw im le nu rf ln nn vp xn xc vs)) := by
  exact ⟨(-9), _, _, oc_pushing_20 he ke ki fi fa or mi a g l w s im le ln ys vt nu nn rf vw vq yc yh yg m kk _ hA hB hC hD hJ hK.1 hq, om_pushing_20 he ke ki fi fa or mi a g l w s xm xi xw im le nu rf ln nn vp xn xc vs _ _ _ _ hA hB hC hD hR hK.2.1 hq, (he, ke, ki, fi, fa, or, mi, a, g, l, w, s), m, kk, im, le, ln, ys, vt, nu, nn, rf, vw, vq, yc, yh, yg, xm, xi, xw, vp, xn, xc, vs, rfl, hA, hB, hC, hD, hJ, hR, hK⟩
set_option maxRecDepth 100000 in
theorem oc_pushing_21 (he ke ki fi fa or : List Nat) (mi a g l w s : Nat) (im : Nat) (le : List Nat) (ln : Nat) (ys : List Int32) (vt : Int32) (nu : List Nat) (nn : Nat) (rf : List Nat) (vw vq : Int32) (yc yh yg : List Int32) (m kk : kG) (q : cR) (hA : iA (he, ke, ki, fi, fa, or, mi, a, g, l, w, s)) (hB : iB le ln) (hC : iC nu nn) (hD : iD rf) (hJ : iJ m ys yc yh yg) (k0 : kSh kk) (hq : ¬ mi = 0) (hr : a = g) : mm_R 64 0 [some (.ref 100), some (.int 2)] [] (mk_M (cT im le ln ys vt nu nn rf vw vq yc yh yg) (kr (he, ke, ki, fi, fa, or, mi, a, g, l, w, s)) m kk q) (some (.int (-9)), (mk_M (cT im le ln ys vt nu nn rf vw vq yc yh yg) (kr (he, ke, ki, fi, fa, or, mi, a, g, l, w, s)) m kk q)) := by
  obtain ⟨hV, hst⟩ := id hA
  have hst2 : s ≤ 999 := hst
  obtain ⟨v1, v2, v3, v4, v5, v6, v7, v8, v9, v10, v11, v12, v13, v14, v15, v16⟩ := id hV
  have v6l := kO_len mi v7 or v6
  obtain ⟨b1, b2, b3⟩ := id hB
  obtain ⟨c1, c2, c3⟩ := id hC
  have d1 : rf.length = 7 := hD
  obtain ⟨j0, j1, j2, j3, j4⟩ := id hJ
  have hn : knext (he, ke, ki, fi, fa, or, mi, a, g, l, w, s) = none := by show (if mi = 0 then none else if a = g then none else some (kway (kg ki (kg or 0)) a (ksgn a g) l (s + 1))) = none; rw [if_neg hq, if_pos hr]
  refine mr_seg 9 (pc1 := 59) (ls1 := [some (.ref 100), some (.int 2)]) (st1 := [.ref 117, .int (nI a), .ref 117]) (M1 := (mk_M (cT im le ln ys vt nu nn rf vw vq yc yh yg) (kr (he, ke, ki, fi, fa, or, mi, a, g, l, w, s)) m kk q)) (fun f => rfl) ?_
  refine mr_call (y := 45) (y0 := 62) (L := [some (.ref 117)]) (rest := [.int (nI a), .ref 117]) (rr := some (.int (-9))) (M1 := (mk_M (cT im le ln ys vt nu nn rf vw vq yc yh yg) (kr (he, ke, ki, fi, fa, or, mi, a, g, l, w, s)) m kk q)) (fun f => rfl) (mr_eq (kl_n (cT im le ln ys vt nu nn rf vw vq yc yh yg) m kk q (kc_next_n he ke ki fi fa or mi a g l w s hV (by omega))) (by rw [hn]; rfl)) ?_
  refine mr_call (y := 48) (y0 := 65) (L := [some (.int (nI a)), some (.int (-9))]) (rest := [.ref 117]) (rr := some (.int (-9))) (M1 := (mk_M (cT im le ln ys vt nu nn rf vw vq yc yh yg) (kr (he, ke, ki, fi, fa, or, mi, a, g, l, w, s)) m kk q)) (fun f => rfl) (kc_bey9 (by omega) _) ?_
  refine mr_call (y := 54) (y0 := 68) (L := [some (.ref 117), some (.int (-9)), none]) (rest := []) (rr := some (.int (-9))) (M1 := (mk_M (cT im le ln ys vt nu nn rf vw vq yc yh yg) (kr (he, ke, ki, fi, fa, or, mi, a, g, l, w, s)) m kk q)) (fun f => rfl) (by
      exact mr_ret 5 (fun f => rfl)) ?_
  exact mr_ret 1 (fun f => rfl)
set_option maxRecDepth 100000 in
theorem om_pushing_21 (he ke ki fi fa or : List Nat) (mi a g l w s : Nat) (xm xi xw : List Int32) (im : Nat) (le nu rf : List Nat) (ln nn : Nat) (vp : Int32) (xn xc : List Int32) (vs : Int32) (c : cC) (n m kk : kG) (hA : iA (he, ke, ki, fi, fa, or, mi, a, g, l, w, s)) (hB : iB le ln) (hC : iC nu nn) (hD : iD rf) (hR : iR xm xw xn xc) (k1 : xi.length = 52) (hq : ¬ mi = 0) (hr : a = g) : mm_R 157 0 [some (.ref 138), some (.int 2), none, none] [] (mk_M c n m kk (rT (he, ke, ki, fi, fa, or, mi, a, g, l, w, s) xm xi xw im le nu rf ln nn vp xn xc vs)) (some (.int (-9)), (mk_M c n m kk (rT (he, ke, ki, fi, fa, or, mi, a, g, l, w, s) xm xi xw im le nu rf ln nn vp xn xc vs))) := by
  obtain ⟨hV, hst⟩ := id hA
  have hst2 : s ≤ 999 := hst
  obtain ⟨v1, v2, v3, v4, v5, v6, v7, v8, v9, v10, v11, v12, v13, v14, v15, v16⟩ := id hV
  have v6l := kO_len mi v7 or v6
  obtain ⟨b1, b2, b3⟩ := id hB
  obtain ⟨c1, c2, c3⟩ := id hC
  have d1 : rf.length = 7 := hD
  obtain ⟨r1, r2, r3, r4⟩ := id hR
  have hn : knext (he, ke, ki, fi, fa, or, mi, a, g, l, w, s) = none := by show (if mi = 0 then none else if a = g then none else some (kway (kg ki (kg or 0)) a (ksgn a g) l (s + 1))) = none; rw [if_neg hq, if_pos hr]
  refine mr_seg 3 (pc1 := 3) (ls1 := [some (.ref 138), some (.int 2), none, none]) (st1 := [.int 2, .int 0, .int 2]) (M1 := (mk_M c n m kk (rT (he, ke, ki, fi, fa, or, mi, a, g, l, w, s) xm xi xw im le nu rf ln nn vp xn xc vs))) (fun f => rfl) ?_
  refine mr_call (y := 135) (y0 := 6) (L := [some (.int 2), some (.int 0), some (.int 2)]) (rest := []) (rr := some (.int 1)) (M1 := (mk_M c n m kk (rT (he, ke, ki, fi, fa, or, mi, a, g, l, w, s) xm xi xw im le nu rf ln nn vp xn xc vs))) (fun f => rfl) (by
      exact mr_ret 9 (fun f => rfl)) ?_
  refine mr_seg 6 (pc1 := 33) (ls1 := [some (.ref 138), some (.int 2), none, none]) (st1 := [.int 0, .ref 139]) (M1 := (mk_M c n m kk (rT (he, ke, ki, fi, fa, or, mi, a, g, l, w, s) xm xi xw im le nu rf ln nn vp xn xc vs))) (fun f => rfl) ?_
  refine mr_ldn (xs := (er (he, ke, ki, fi, fa, or, mi, a, g, l, w, s))) rfl rfl (k := 0) (by decide) rfl ?_
  refine mr_f (C := (nI mi) = 0) (fun e_ => absurd ((nI_eqi (a := mi) (b := 0) (by omega)).mp e_) (hq)) (fun f => rfl) ?_
  refine mr_seg 3 (pc1 := 42) (ls1 := [some (.ref 138), some (.int 2), none, none]) (st1 := [.int 2, .ref 139]) (M1 := (mk_M c n m kk (rT (he, ke, ki, fi, fa, or, mi, a, g, l, w, s) xm xi xw im le nu rf ln nn vp xn xc vs))) (fun f => rfl) ?_
  refine mr_ldn (xs := (er (he, ke, ki, fi, fa, or, mi, a, g, l, w, s))) rfl rfl (k := 2) (by decide) rfl ?_
  refine mr_seg 3 (pc1 := 48) (ls1 := [some (.ref 138), some (.int 2), none, none]) (st1 := [.int 3, .ref 139, .int (nI a)]) (M1 := (mk_M c n m kk (rT (he, ke, ki, fi, fa, or, mi, a, g, l, w, s) xm xi xw im le nu rf ln nn vp xn xc vs))) (fun f => rfl) ?_
  refine mr_ldn (xs := (er (he, ke, ki, fi, fa, or, mi, a, g, l, w, s))) rfl rfl (k := 3) (by decide) rfl ?_
  refine mr_t (C := (nI a) = (nI g)) (nI_eqt (a := a) (b := g) (by omega)) (fun f => rfl) ?_
  exact mr_ret 2 (fun f => rfl)
theorem oe_pushing_21 (he ke ki fi fa or : List Nat) (mi a g l w s : Nat) (m : kG) (kk : kG) (im : Nat) (le : List Nat) (ln : Nat) (ys : List Int32) (vt : Int32) (nu : List Nat) (nn : Nat) (rf : List Nat) (vw : Int32) (vq : Int32) (yc : List Int32) (yh : List Int32) (yg : List Int32) (xm : List Int32) (xi : List Int32) (xw : List Int32) (vp : Int32) (xn : List Int32) (xc : List Int32) (vs : Int32) (hA : iA (he, ke, ki, fi, fa, or, mi, a, g, l, w, s)) (hB : iB le ln) (hC : iC nu nn) (hD : iD rf) (hJ : iJ m ys yc yh yg) (hR : iR xm xw xn xc) (hK : iK im kk xi) (hq : ¬ mi = 0) (hr : a = g) : oI 64 157 [some (.ref 100), some (.int 2)] [some (.ref 138), some (.int 2), none, none] (mk_M (cT im le ln ys vt nu nn rf vw vq yc yh yg) (kr (he, ke, ki, fi, fa, or, mi, a, g, l, w, s)) m kk (rT (he, ke, ki, fi, fa, or, mi, a, g, l, w, s) xm xi xw im le nu rf ln nn vp xn xc vs)) := by
  exact ⟨(-9), _, _, oc_pushing_21 he ke ki fi fa or mi a g l w s im le ln ys vt nu nn rf vw vq yc yh yg m kk _ hA hB hC hD hJ hK.1 hq hr, om_pushing_21 he ke ki fi fa or mi a g l w s xm xi xw im le nu rf ln nn vp xn xc vs _ _ _ _ hA hB hC hD hR hK.2.1 hq hr, (he, ke, ki, fi, fa, or, mi, a, g, l, w, s), m, kk, im, le, ln, ys, vt, nu, nn, rf, vw, vq, yc, yh, yg, xm, xi, xw, vp, xn, xc, vs, rfl, hA, hB, hC, hD, hJ, hR, hK⟩
set_option maxRecDepth 100000 in
theorem oc_pushing_22 (he ke ki fi fa or : List Nat) (mi a g l w s : Nat) (im : Nat) (le : List Nat) (ln : Nat) (ys : List Int32) (vt : Int32) (nu : List Nat) (nn : Nat) (rf : List Nat) (vw vq : Int32) (yc yh yg : List Int32) (m kk : kG) (q : cR) (hA : iA (he, ke, ki, fi, fa, or, mi, a, g, l, w, s)) (hB : iB le ln) (hC : iC nu nn) (hD : iD rf) (hJ : iJ m ys yc yh yg) (k0 : kSh kk) (y : Nat) (hn : knext (he, ke, ki, fi, fa, or, mi, a, g, l, w, s) = some y) (hb : kbey a y = none) : mm_R 64 0 [some (.ref 100), some (.int 2)] [] (mk_M (cT im le ln ys vt nu nn rf vw vq yc yh yg) (kr (he, ke, ki, fi, fa, or, mi, a, g, l, w, s)) m kk q) (some (.int (-9)), (mk_M (cT im le ln ys vt nu nn rf vw vq yc yh yg) (kr (he, ke, ki, fi, fa, or, mi, a, g, l, w, s)) m kk q)) := by
  obtain ⟨hV, hst⟩ := id hA
  have hst2 : s ≤ 999 := hst
  obtain ⟨v1, v2, v3, v4, v5, v6, v7, v8, v9, v10, v11, v12, v13, v14, v15, v16⟩ := id hV
  have v6l := kO_len mi v7 or v6
  obtain ⟨b1, b2, b3⟩ := id hB
  obtain ⟨c1, c2, c3⟩ := id hC
  have d1 : rf.length = 7 := hD
  obtain ⟨j0, j1, j2, j3, j4⟩ := id hJ
  have hq := knext_mi hn
  have hne := knext_ne hn
  have hy0 := knext_y hn
  have hy := knext_lt hV hn
  have v60 := kO_lt5 mi v7 or v6 0 (by omega)
  refine mr_seg 9 (pc1 := 59) (ls1 := [some (.ref 100), some (.int 2)]) (st1 := [.ref 117, .int (nI a), .ref 117]) (M1 := (mk_M (cT im le ln ys vt nu nn rf vw vq yc yh yg) (kr (he, ke, ki, fi, fa, or, mi, a, g, l, w, s)) m kk q)) (fun f => rfl) ?_
  refine mr_call (y := 45) (y0 := 62) (L := [some (.ref 117)]) (rest := [.int (nI a), .ref 117]) (rr := some (.int (nI y))) (M1 := (mk_M (cT im le ln ys vt nu nn rf vw vq yc yh yg) (kr (he, ke, ki, fi, fa, or, mi, a, g, l, w, s)) m kk q)) (fun f => rfl) (mr_eq (kl_n (cT im le ln ys vt nu nn rf vw vq yc yh yg) m kk q (kc_next_n he ke ki fi fa or mi a g l w s hV (by omega))) (by rw [hn]; rfl)) ?_
  refine mr_call (y := 48) (y0 := 65) (L := [some (.int (nI a)), some (.int (nI y))]) (rest := [.ref 117]) (rr := some (.int (-9))) (M1 := (mk_M (cT im le ln ys vt nu nn rf vw vq yc yh yg) (kr (he, ke, ki, fi, fa, or, mi, a, g, l, w, s)) m kk q)) (fun f => rfl) (mr_eq (kc_bey (c := a) (w := y) (by omega) (by omega) _) (by rw [hb]; rfl)) ?_
  refine mr_call (y := 54) (y0 := 68) (L := [some (.ref 117), some (.int (-9)), none]) (rest := []) (rr := some (.int (-9))) (M1 := (mk_M (cT im le ln ys vt nu nn rf vw vq yc yh yg) (kr (he, ke, ki, fi, fa, or, mi, a, g, l, w, s)) m kk q)) (fun f => rfl) (by
      exact mr_ret 5 (fun f => rfl)) ?_
  exact mr_ret 1 (fun f => rfl)
set_option maxRecDepth 100000 in
theorem om_pushing_22 (he ke ki fi fa or : List Nat) (mi a g l w s : Nat) (xm xi xw : List Int32) (im : Nat) (le nu rf : List Nat) (ln nn : Nat) (vp : Int32) (xn xc : List Int32) (vs : Int32) (c : cC) (n m kk : kG) (hA : iA (he, ke, ki, fi, fa, or, mi, a, g, l, w, s)) (hB : iB le ln) (hC : iC nu nn) (hD : iD rf) (hR : iR xm xw xn xc) (k1 : xi.length = 52) (y : Nat) (hn : knext (he, ke, ki, fi, fa, or, mi, a, g, l, w, s) = some y) (hb : kbey a y = none) : mm_R 157 0 [some (.ref 138), some (.int 2), none, none] [] (mk_M c n m kk (rT (he, ke, ki, fi, fa, or, mi, a, g, l, w, s) xm xi xw im le nu rf ln nn vp xn xc vs)) (some (.int (-9)), (mk_M c n m kk (rT (he, ke, ki, fi, fa, or, mi, a, g, l, w, s) xm xi xw im le nu rf ln nn vp xn xc vs))) := by
  obtain ⟨hV, hst⟩ := id hA
  have hst2 : s ≤ 999 := hst
  obtain ⟨v1, v2, v3, v4, v5, v6, v7, v8, v9, v10, v11, v12, v13, v14, v15, v16⟩ := id hV
  have v6l := kO_len mi v7 or v6
  obtain ⟨b1, b2, b3⟩ := id hB
  obtain ⟨c1, c2, c3⟩ := id hC
  have d1 : rf.length = 7 := hD
  obtain ⟨r1, r2, r3, r4⟩ := id hR
  have hq := knext_mi hn
  have hne := knext_ne hn
  have hy0 := knext_y hn
  have hy := knext_lt hV hn
  have v60 := kO_lt5 mi v7 or v6 0 (by omega)
  refine mr_seg 3 (pc1 := 3) (ls1 := [some (.ref 138), some (.int 2), none, none]) (st1 := [.int 2, .int 0, .int 2]) (M1 := (mk_M c n m kk (rT (he, ke, ki, fi, fa, or, mi, a, g, l, w, s) xm xi xw im le nu rf ln nn vp xn xc vs))) (fun f => rfl) ?_
  refine mr_call (y := 135) (y0 := 6) (L := [some (.int 2), some (.int 0), some (.int 2)]) (rest := []) (rr := some (.int 1)) (M1 := (mk_M c n m kk (rT (he, ke, ki, fi, fa, or, mi, a, g, l, w, s) xm xi xw im le nu rf ln nn vp xn xc vs))) (fun f => rfl) (by
      exact mr_ret 9 (fun f => rfl)) ?_
  refine mr_seg 6 (pc1 := 33) (ls1 := [some (.ref 138), some (.int 2), none, none]) (st1 := [.int 0, .ref 139]) (M1 := (mk_M c n m kk (rT (he, ke, ki, fi, fa, or, mi, a, g, l, w, s) xm xi xw im le nu rf ln nn vp xn xc vs))) (fun f => rfl) ?_
  refine mr_ldn (xs := (er (he, ke, ki, fi, fa, or, mi, a, g, l, w, s))) rfl rfl (k := 0) (by decide) rfl ?_
  refine mr_f (C := (nI mi) = 0) (nI_eqf (a := mi) (b := 0) (by omega)) (fun f => rfl) ?_
  refine mr_seg 3 (pc1 := 42) (ls1 := [some (.ref 138), some (.int 2), none, none]) (st1 := [.int 2, .ref 139]) (M1 := (mk_M c n m kk (rT (he, ke, ki, fi, fa, or, mi, a, g, l, w, s) xm xi xw im le nu rf ln nn vp xn xc vs))) (fun f => rfl) ?_
  refine mr_ldn (xs := (er (he, ke, ki, fi, fa, or, mi, a, g, l, w, s))) rfl rfl (k := 2) (by decide) rfl ?_
  refine mr_seg 3 (pc1 := 48) (ls1 := [some (.ref 138), some (.int 2), none, none]) (st1 := [.int 3, .ref 139, .int (nI a)]) (M1 := (mk_M c n m kk (rT (he, ke, ki, fi, fa, or, mi, a, g, l, w, s) xm xi xw im le nu rf ln nn vp xn xc vs))) (fun f => rfl) ?_
  refine mr_ldn (xs := (er (he, ke, ki, fi, fa, or, mi, a, g, l, w, s))) rfl rfl (k := 3) (by decide) rfl ?_
  refine mr_f (C := (nI a) = (nI g)) (fun e_ => absurd ((nI_eqi (a := a) (b := g) (by omega)).mp e_) (hne)) (fun f => rfl) ?_
  refine mr_seg 5 (pc1 := 65) (ls1 := [some (.ref 138), some (.int 2), none, none]) (st1 := [.int 47, .ref 139, .ref 139]) (M1 := (mk_M c n m kk (rT (he, ke, ki, fi, fa, or, mi, a, g, l, w, s) xm xi xw im le nu rf ln nn vp xn xc vs))) (fun f => rfl) ?_
  refine mr_ldn (xs := (er (he, ke, ki, fi, fa, or, mi, a, g, l, w, s))) rfl rfl (k := 47) (by decide) (er_or (K := (he, ke, ki, fi, fa, or, mi, a, g, l, w, s)) v1 v6l (j := 0) (by decide)) ?_
  refine mr_seg 3 (pc1 := 71) (ls1 := [some (.ref 138), some (.int 2), none, none]) (st1 := [.int 1, .ref 139, .int (nI (kg or 0)), .ref 139]) (M1 := (mk_M c n m kk (rT (he, ke, ki, fi, fa, or, mi, a, g, l, w, s) xm xi xw im le nu rf ln nn vp xn xc vs))) (fun f => rfl) ?_
  refine mr_ldn (xs := (er (he, ke, ki, fi, fa, or, mi, a, g, l, w, s))) rfl rfl (k := 1) (by decide) rfl ?_
  refine mr_seg 2 (pc1 := 74) (ls1 := [some (.ref 138), some (.int 2), none, none]) (st1 := [.int ((nI s) + 1), .int (nI (kg or 0)), .ref 139]) (M1 := (mk_M c n m kk (rT (he, ke, ki, fi, fa, or, mi, a, g, l, w, s) xm xi xw im le nu rf ln nn vp xn xc vs))) (fun f => rfl) ?_
  refine mr_v (nI_add s 1) ?_
  refine mr_call (y := 147) (y0 := 77) (L := [some (.ref 139), some (.int (nI (kg or 0))), some (.int (nI (s + 1))), none, none, none]) (rest := []) (rr := some (.int (nI y))) (M1 := (mk_M c n m kk (rT (he, ke, ki, fi, fa, or, mi, a, g, l, w, s) xm xi xw im le nu rf ln nn vp xn xc vs))) (fun f => rfl) (mr_eq (rl_s c n m kk (rT (he, ke, ki, fi, fa, or, mi, a, g, l, w, s) xm xi xw im le nu rf ln nn vp xn xc vs) (rc_way_s he ke ki fi fa or mi a g l w s (kg or 0) (s + 1) v60 (by omega) hV hne) rfl) (by rw [hy0] <;> rfl)) ?_
  refine mr_seg 4 (pc1 := 83) (ls1 := [some (.ref 138), some (.int 2), some (.int (nI y)), none]) (st1 := [.int 2, .ref 139]) (M1 := (mk_M c n m kk (rT (he, ke, ki, fi, fa, or, mi, a, g, l, w, s) xm xi xw im le nu rf ln nn vp xn xc vs))) (fun f => rfl) ?_
  refine mr_ldn (xs := (er (he, ke, ki, fi, fa, or, mi, a, g, l, w, s))) rfl rfl (k := 2) (by decide) rfl ?_
  refine mr_seg 1 (pc1 := 85) (ls1 := [some (.ref 138), some (.int 2), some (.int (nI y)), none]) (st1 := [.int (nI y), .int (nI a)]) (M1 := (mk_M c n m kk (rT (he, ke, ki, fi, fa, or, mi, a, g, l, w, s) xm xi xw im le nu rf ln nn vp xn xc vs))) (fun f => rfl) ?_
  refine mr_call (y := 149) (y0 := 88) (L := [some (.int (nI a)), some (.int (nI y))]) (rest := []) (rr := some (.int (-9))) (M1 := (mk_M c n m kk (rT (he, ke, ki, fi, fa, or, mi, a, g, l, w, s) xm xi xw im le nu rf ln nn vp xn xc vs))) (fun f => rfl) (mr_eq (rc_bey (c := a) (w := y) (by omega) (by omega) _) (by rw [hb]; rfl)) ?_
  exact mr_ret 9 (fun f => rfl)
theorem oe_pushing_22 (he ke ki fi fa or : List Nat) (mi a g l w s : Nat) (m : kG) (kk : kG) (im : Nat) (le : List Nat) (ln : Nat) (ys : List Int32) (vt : Int32) (nu : List Nat) (nn : Nat) (rf : List Nat) (vw : Int32) (vq : Int32) (yc : List Int32) (yh : List Int32) (yg : List Int32) (xm : List Int32) (xi : List Int32) (xw : List Int32) (vp : Int32) (xn : List Int32) (xc : List Int32) (vs : Int32) (hA : iA (he, ke, ki, fi, fa, or, mi, a, g, l, w, s)) (hB : iB le ln) (hC : iC nu nn) (hD : iD rf) (hJ : iJ m ys yc yh yg) (hR : iR xm xw xn xc) (hK : iK im kk xi) (y : Nat) (hn : knext (he, ke, ki, fi, fa, or, mi, a, g, l, w, s) = some y) (hb : kbey a y = none) : oI 64 157 [some (.ref 100), some (.int 2)] [some (.ref 138), some (.int 2), none, none] (mk_M (cT im le ln ys vt nu nn rf vw vq yc yh yg) (kr (he, ke, ki, fi, fa, or, mi, a, g, l, w, s)) m kk (rT (he, ke, ki, fi, fa, or, mi, a, g, l, w, s) xm xi xw im le nu rf ln nn vp xn xc vs)) := by
  exact ⟨(-9), _, _, oc_pushing_22 he ke ki fi fa or mi a g l w s im le ln ys vt nu nn rf vw vq yc yh yg m kk _ hA hB hC hD hJ hK.1 y hn hb, om_pushing_22 he ke ki fi fa or mi a g l w s xm xi xw im le nu rf ln nn vp xn xc vs _ _ _ _ hA hB hC hD hR hK.2.1 y hn hb, (he, ke, ki, fi, fa, or, mi, a, g, l, w, s), m, kk, im, le, ln, ys, vt, nu, nn, rf, vw, vq, yc, yh, yg, xm, xi, xw, vp, xn, xc, vs, rfl, hA, hB, hC, hD, hJ, hR, hK⟩
set_option maxRecDepth 100000 in
theorem oc_pushing_23 (he ke ki fi fa or : List Nat) (mi a g l w s : Nat) (im : Nat) (le : List Nat) (ln : Nat) (ys : List Int32) (vt : Int32) (nu : List Nat) (nn : Nat) (rf : List Nat) (vw vq : Int32) (yc yh yg : List Int32) (m kk : kG) (q : cR) (hA : iA (he, ke, ki, fi, fa, or, mi, a, g, l, w, s)) (hB : iB le ln) (hC : iC nu nn) (hD : iD rf) (hJ : iJ m ys yc yh yg) (k0 : kSh kk) (y : Nat) (hn : knext (he, ke, ki, fi, fa, or, mi, a, g, l, w, s) = some y) (u : Nat) (hb : kbey a y = some u) : mm_R 64 0 [some (.ref 100), some (.int 2)] [] (mk_M (cT im le ln ys vt nu nn rf vw vq yc yh yg) (kr (he, ke, ki, fi, fa, or, mi, a, g, l, w, s)) m kk q) (some (.int (nI (kload he ke a w u))), (mk_M (cT im le ln ys vt nu nn rf vw vq yc yh yg) (kr (he, ke, ki, fi, fa, or, mi, a, g, l, w, s)) m kk q)) := by
  obtain ⟨hV, hst⟩ := id hA
  have hst2 : s ≤ 999 := hst
  obtain ⟨v1, v2, v3, v4, v5, v6, v7, v8, v9, v10, v11, v12, v13, v14, v15, v16⟩ := id hV
  have v6l := kO_len mi v7 or v6
  obtain ⟨b1, b2, b3⟩ := id hB
  obtain ⟨c1, c2, c3⟩ := id hC
  have d1 : rf.length = 7 := hD
  obtain ⟨j0, j1, j2, j3, j4⟩ := id hJ
  have hq := knext_mi hn
  have hne := knext_ne hn
  have hy0 := knext_y hn
  have hy := knext_lt hV hn
  have v60 := kO_lt5 mi v7 or v6 0 (by omega)
  have hu := kbey_lt v8 hb
  refine mr_seg 9 (pc1 := 59) (ls1 := [some (.ref 100), some (.int 2)]) (st1 := [.ref 117, .int (nI a), .ref 117]) (M1 := (mk_M (cT im le ln ys vt nu nn rf vw vq yc yh yg) (kr (he, ke, ki, fi, fa, or, mi, a, g, l, w, s)) m kk q)) (fun f => rfl) ?_
  refine mr_call (y := 45) (y0 := 62) (L := [some (.ref 117)]) (rest := [.int (nI a), .ref 117]) (rr := some (.int (nI y))) (M1 := (mk_M (cT im le ln ys vt nu nn rf vw vq yc yh yg) (kr (he, ke, ki, fi, fa, or, mi, a, g, l, w, s)) m kk q)) (fun f => rfl) (mr_eq (kl_n (cT im le ln ys vt nu nn rf vw vq yc yh yg) m kk q (kc_next_n he ke ki fi fa or mi a g l w s hV (by omega))) (by rw [hn]; rfl)) ?_
  refine mr_call (y := 48) (y0 := 65) (L := [some (.int (nI a)), some (.int (nI y))]) (rest := [.ref 117]) (rr := some (.int (nI u))) (M1 := (mk_M (cT im le ln ys vt nu nn rf vw vq yc yh yg) (kr (he, ke, ki, fi, fa, or, mi, a, g, l, w, s)) m kk q)) (fun f => rfl) (mr_eq (kc_bey (c := a) (w := y) (by omega) (by omega) _) (by rw [hb]; rfl)) ?_
  refine mr_call (y := 54) (y0 := 68) (L := [some (.ref 117), some (.int (nI u)), none]) (rest := []) (rr := some (.int (nI (kload he ke a w u)))) (M1 := (mk_M (cT im le ln ys vt nu nn rf vw vq yc yh yg) (kr (he, ke, ki, fi, fa, or, mi, a, g, l, w, s)) m kk q)) (fun f => rfl) (kl_n (cT im le ln ys vt nu nn rf vw vq yc yh yg) m kk q (kc_load_n he ke ki fi fa or mi a g l w s u (by omega) hV)) ?_
  exact mr_ret 1 (fun f => rfl)
set_option maxRecDepth 100000 in
theorem om_pushing_23 (he ke ki fi fa or : List Nat) (mi a g l w s : Nat) (xm xi xw : List Int32) (im : Nat) (le nu rf : List Nat) (ln nn : Nat) (vp : Int32) (xn xc : List Int32) (vs : Int32) (c : cC) (n m kk : kG) (hA : iA (he, ke, ki, fi, fa, or, mi, a, g, l, w, s)) (hB : iB le ln) (hC : iC nu nn) (hD : iD rf) (hR : iR xm xw xn xc) (k1 : xi.length = 52) (y : Nat) (hn : knext (he, ke, ki, fi, fa, or, mi, a, g, l, w, s) = some y) (u : Nat) (hb : kbey a y = some u) : mm_R 157 0 [some (.ref 138), some (.int 2), none, none] [] (mk_M c n m kk (rT (he, ke, ki, fi, fa, or, mi, a, g, l, w, s) xm xi xw im le nu rf ln nn vp xn xc vs)) (some (.int (nI (kload he ke a w u))), (mk_M c n m kk (rT (he, ke, ki, fi, fa, or, mi, a, g, l, w, s) xm xi xw im le nu rf ln nn vp xn xc vs))) := by
  obtain ⟨hV, hst⟩ := id hA
  have hst2 : s ≤ 999 := hst
  obtain ⟨v1, v2, v3, v4, v5, v6, v7, v8, v9, v10, v11, v12, v13, v14, v15, v16⟩ := id hV
  have v6l := kO_len mi v7 or v6
  obtain ⟨b1, b2, b3⟩ := id hB
  obtain ⟨c1, c2, c3⟩ := id hC
  have d1 : rf.length = 7 := hD
  obtain ⟨r1, r2, r3, r4⟩ := id hR
  have hq := knext_mi hn
  have hne := knext_ne hn
  have hy0 := knext_y hn
  have hy := knext_lt hV hn
  have v60 := kO_lt5 mi v7 or v6 0 (by omega)
  have hu := kbey_lt v8 hb
  refine mr_seg 3 (pc1 := 3) (ls1 := [some (.ref 138), some (.int 2), none, none]) (st1 := [.int 2, .int 0, .int 2]) (M1 := (mk_M c n m kk (rT (he, ke, ki, fi, fa, or, mi, a, g, l, w, s) xm xi xw im le nu rf ln nn vp xn xc vs))) (fun f => rfl) ?_
  refine mr_call (y := 135) (y0 := 6) (L := [some (.int 2), some (.int 0), some (.int 2)]) (rest := []) (rr := some (.int 1)) (M1 := (mk_M c n m kk (rT (he, ke, ki, fi, fa, or, mi, a, g, l, w, s) xm xi xw im le nu rf ln nn vp xn xc vs))) (fun f => rfl) (by
      exact mr_ret 9 (fun f => rfl)) ?_
  refine mr_seg 6 (pc1 := 33) (ls1 := [some (.ref 138), some (.int 2), none, none]) (st1 := [.int 0, .ref 139]) (M1 := (mk_M c n m kk (rT (he, ke, ki, fi, fa, or, mi, a, g, l, w, s) xm xi xw im le nu rf ln nn vp xn xc vs))) (fun f => rfl) ?_
  refine mr_ldn (xs := (er (he, ke, ki, fi, fa, or, mi, a, g, l, w, s))) rfl rfl (k := 0) (by decide) rfl ?_
  refine mr_f (C := (nI mi) = 0) (nI_eqf (a := mi) (b := 0) (by omega)) (fun f => rfl) ?_
  refine mr_seg 3 (pc1 := 42) (ls1 := [some (.ref 138), some (.int 2), none, none]) (st1 := [.int 2, .ref 139]) (M1 := (mk_M c n m kk (rT (he, ke, ki, fi, fa, or, mi, a, g, l, w, s) xm xi xw im le nu rf ln nn vp xn xc vs))) (fun f => rfl) ?_
  refine mr_ldn (xs := (er (he, ke, ki, fi, fa, or, mi, a, g, l, w, s))) rfl rfl (k := 2) (by decide) rfl ?_
  refine mr_seg 3 (pc1 := 48) (ls1 := [some (.ref 138), some (.int 2), none, none]) (st1 := [.int 3, .ref 139, .int (nI a)]) (M1 := (mk_M c n m kk (rT (he, ke, ki, fi, fa, or, mi, a, g, l, w, s) xm xi xw im le nu rf ln nn vp xn xc vs))) (fun f => rfl) ?_
  refine mr_ldn (xs := (er (he, ke, ki, fi, fa, or, mi, a, g, l, w, s))) rfl rfl (k := 3) (by decide) rfl ?_
  refine mr_f (C := (nI a) = (nI g)) (fun e_ => absurd ((nI_eqi (a := a) (b := g) (by omega)).mp e_) (hne)) (fun f => rfl) ?_
  refine mr_seg 5 (pc1 := 65) (ls1 := [some (.ref 138), some (.int 2), none, none]) (st1 := [.int 47, .ref 139, .ref 139]) (M1 := (mk_M c n m kk (rT (he, ke, ki, fi, fa, or, mi, a, g, l, w, s) xm xi xw im le nu rf ln nn vp xn xc vs))) (fun f => rfl) ?_
  refine mr_ldn (xs := (er (he, ke, ki, fi, fa, or, mi, a, g, l, w, s))) rfl rfl (k := 47) (by decide) (er_or (K := (he, ke, ki, fi, fa, or, mi, a, g, l, w, s)) v1 v6l (j := 0) (by decide)) ?_
  refine mr_seg 3 (pc1 := 71) (ls1 := [some (.ref 138), some (.int 2), none, none]) (st1 := [.int 1, .ref 139, .int (nI (kg or 0)), .ref 139]) (M1 := (mk_M c n m kk (rT (he, ke, ki, fi, fa, or, mi, a, g, l, w, s) xm xi xw im le nu rf ln nn vp xn xc vs))) (fun f => rfl) ?_
  refine mr_ldn (xs := (er (he, ke, ki, fi, fa, or, mi, a, g, l, w, s))) rfl rfl (k := 1) (by decide) rfl ?_
  refine mr_seg 2 (pc1 := 74) (ls1 := [some (.ref 138), some (.int 2), none, none]) (st1 := [.int ((nI s) + 1), .int (nI (kg or 0)), .ref 139]) (M1 := (mk_M c n m kk (rT (he, ke, ki, fi, fa, or, mi, a, g, l, w, s) xm xi xw im le nu rf ln nn vp xn xc vs))) (fun f => rfl) ?_
  refine mr_v (nI_add s 1) ?_
  refine mr_call (y := 147) (y0 := 77) (L := [some (.ref 139), some (.int (nI (kg or 0))), some (.int (nI (s + 1))), none, none, none]) (rest := []) (rr := some (.int (nI y))) (M1 := (mk_M c n m kk (rT (he, ke, ki, fi, fa, or, mi, a, g, l, w, s) xm xi xw im le nu rf ln nn vp xn xc vs))) (fun f => rfl) (mr_eq (rl_s c n m kk (rT (he, ke, ki, fi, fa, or, mi, a, g, l, w, s) xm xi xw im le nu rf ln nn vp xn xc vs) (rc_way_s he ke ki fi fa or mi a g l w s (kg or 0) (s + 1) v60 (by omega) hV hne) rfl) (by rw [hy0] <;> rfl)) ?_
  refine mr_seg 4 (pc1 := 83) (ls1 := [some (.ref 138), some (.int 2), some (.int (nI y)), none]) (st1 := [.int 2, .ref 139]) (M1 := (mk_M c n m kk (rT (he, ke, ki, fi, fa, or, mi, a, g, l, w, s) xm xi xw im le nu rf ln nn vp xn xc vs))) (fun f => rfl) ?_
  refine mr_ldn (xs := (er (he, ke, ki, fi, fa, or, mi, a, g, l, w, s))) rfl rfl (k := 2) (by decide) rfl ?_
  refine mr_seg 1 (pc1 := 85) (ls1 := [some (.ref 138), some (.int 2), some (.int (nI y)), none]) (st1 := [.int (nI y), .int (nI a)]) (M1 := (mk_M c n m kk (rT (he, ke, ki, fi, fa, or, mi, a, g, l, w, s) xm xi xw im le nu rf ln nn vp xn xc vs))) (fun f => rfl) ?_
  refine mr_call (y := 149) (y0 := 88) (L := [some (.int (nI a)), some (.int (nI y))]) (rest := []) (rr := some (.int (nI u))) (M1 := (mk_M c n m kk (rT (he, ke, ki, fi, fa, or, mi, a, g, l, w, s) xm xi xw im le nu rf ln nn vp xn xc vs))) (fun f => rfl) (mr_eq (rc_bey (c := a) (w := y) (by omega) (by omega) _) (by rw [hb]; rfl)) ?_
  refine mr_seg 5 (pc1 := 99) (ls1 := [some (.ref 138), some (.int 2), some (.int (nI y)), some (.int (nI u))]) (st1 := [.int (nI u)]) (M1 := (mk_M c n m kk (rT (he, ke, ki, fi, fa, or, mi, a, g, l, w, s) xm xi xw im le nu rf ln nn vp xn xc vs))) (fun f => rfl) ?_
  refine mr_t (C := 0 ≤ (nI u)) (nI_let (a := 0) (b := u) (by omega)) (fun f => rfl) ?_
  refine mr_seg 3 (pc1 := 112) (ls1 := [some (.ref 138), some (.int 2), some (.int (nI y)), some (.int (nI u))]) (st1 := [.int (nI u), .ref 139]) (M1 := (mk_M c n m kk (rT (he, ke, ki, fi, fa, or, mi, a, g, l, w, s) xm xi xw im le nu rf ln nn vp xn xc vs))) (fun f => rfl) ?_
  refine mr_call (y := 150) (y0 := 115) (L := [some (.ref 139), some (.int (nI u)), none]) (rest := []) (rr := some (.int (nI (kload he ke a w u)))) (M1 := (mk_M c n m kk (rT (he, ke, ki, fi, fa, or, mi, a, g, l, w, s) xm xi xw im le nu rf ln nn vp xn xc vs))) (fun f => rfl) (rl_s c n m kk (rT (he, ke, ki, fi, fa, or, mi, a, g, l, w, s) xm xi xw im le nu rf ln nn vp xn xc vs) (rc_load_s he ke ki fi fa or mi a g l w s u (by omega) hV) rfl) ?_
  exact mr_ret 1 (fun f => rfl)
theorem oe_pushing_23 (he ke ki fi fa or : List Nat) (mi a g l w s : Nat) (m : kG) (kk : kG) (im : Nat) (le : List Nat) (ln : Nat) (ys : List Int32) (vt : Int32) (nu : List Nat) (nn : Nat) (rf : List Nat) (vw : Int32) (vq : Int32) (yc : List Int32) (yh : List Int32) (yg : List Int32) (xm : List Int32) (xi : List Int32) (xw : List Int32) (vp : Int32) (xn : List Int32) (xc : List Int32) (vs : Int32) (hA : iA (he, ke, ki, fi, fa, or, mi, a, g, l, w, s)) (hB : iB le ln) (hC : iC nu nn) (hD : iD rf) (hJ : iJ m ys yc yh yg) (hR : iR xm xw xn xc) (hK : iK im kk xi) (y : Nat) (hn : knext (he, ke, ki, fi, fa, or, mi, a, g, l, w, s) = some y) (u : Nat) (hb : kbey a y = some u) : oI 64 157 [some (.ref 100), some (.int 2)] [some (.ref 138), some (.int 2), none, none] (mk_M (cT im le ln ys vt nu nn rf vw vq yc yh yg) (kr (he, ke, ki, fi, fa, or, mi, a, g, l, w, s)) m kk (rT (he, ke, ki, fi, fa, or, mi, a, g, l, w, s) xm xi xw im le nu rf ln nn vp xn xc vs)) := by
  exact ⟨(nI (kload he ke a w u)), _, _, oc_pushing_23 he ke ki fi fa or mi a g l w s im le ln ys vt nu nn rf vw vq yc yh yg m kk _ hA hB hC hD hJ hK.1 y hn u hb, om_pushing_23 he ke ki fi fa or mi a g l w s xm xi xw im le nu rf ln nn vp xn xc vs _ _ _ _ hA hB hC hD hR hK.2.1 y hn u hb, (he, ke, ki, fi, fa, or, mi, a, g, l, w, s), m, kk, im, le, ln, ys, vt, nu, nn, rf, vw, vq, yc, yh, yg, xm, xi, xw, vp, xn, xc, vs, rfl, hA, hB, hC, hD, hJ, hR, hK⟩
set_option maxRecDepth 100000 in
theorem oc_count_0 (he ke ki fi fa or : List Nat) (mi a g l w s : Nat) (im : Nat) (le : List Nat) (ln : Nat) (ys : List Int32) (vt : Int32) (nu : List Nat) (nn : Nat) (rf : List Nat) (vw vq : Int32) (yc yh yg : List Int32) (m kk : kG) (q : cR) (hA : iA (he, ke, ki, fi, fa, or, mi, a, g, l, w, s)) (hB : iB le ln) (hC : iC nu nn) (hD : iD rf) (hJ : iJ m ys yc yh yg) (k0 : kSh kk) (x : Int32) (hxu : x.toInt ≤ -1) : mm_R 127 0 [some (.ref 100), some (.int x)] [] (mk_M (cT im le ln ys vt nu nn rf vw vq yc yh yg) (kr (he, ke, ki, fi, fa, or, mi, a, g, l, w, s)) m kk q) (some (.int (-9)), (mk_M (cT im le ln ys vt nu nn rf vw vq yc yh yg) (kr (he, ke, ki, fi, fa, or, mi, a, g, l, w, s)) m kk q)) := by
  obtain ⟨hV, hst⟩ := id hA
  have hst2 : s ≤ 999 := hst
  obtain ⟨v1, v2, v3, v4, v5, v6, v7, v8, v9, v10, v11, v12, v13, v14, v15, v16⟩ := id hV
  have v6l := kO_len mi v7 or v6
  obtain ⟨b1, b2, b3⟩ := id hB
  obtain ⟨c1, c2, c3⟩ := id hC
  have d1 : rf.length = 7 := hD
  obtain ⟨j0, j1, j2, j3, j4⟩ := id hJ
  refine mr_seg 1 (pc1 := 1) (ls1 := [some (.ref 100), some (.int x)]) (st1 := [.int x]) (M1 := (mk_M (cT im le ln ys vt nu nn rf vw vq yc yh yg) (kr (he, ke, ki, fi, fa, or, mi, a, g, l, w, s)) m kk q)) (fun f => rfl) ?_
  refine mr_tsw (t1 := 109) rfl (by omega) (by decide) ?_
  refine mr_seg 2 (pc1 := 112) (ls1 := [some (.ref 100), some (.int x)]) (st1 := [.int 11, .int x]) (M1 := (mk_M (cT im le ln ys vt nu nn rf vw vq yc yh yg) (kr (he, ke, ki, fi, fa, or, mi, a, g, l, w, s)) m kk q)) (fun f => rfl) ?_
  refine mr_t (C := x < 11) (mz_lt_t 11 (by decide) (by omega)) (fun f => rfl) ?_
  exact mr_ret 2 (fun f => rfl)
set_option maxRecDepth 100000 in
theorem om_count_0 (he ke ki fi fa or : List Nat) (mi a g l w s : Nat) (xm xi xw : List Int32) (im : Nat) (le nu rf : List Nat) (ln nn : Nat) (vp : Int32) (xn xc : List Int32) (vs : Int32) (c : cC) (n m kk : kG) (hA : iA (he, ke, ki, fi, fa, or, mi, a, g, l, w, s)) (hB : iB le ln) (hC : iC nu nn) (hD : iD rf) (hR : iR xm xw xn xc) (k1 : xi.length = 52) (x : Int32) (hxu : x.toInt ≤ -1) : mm_R 211 0 [some (.ref 138), some (.int x)] [] (mk_M c n m kk (rT (he, ke, ki, fi, fa, or, mi, a, g, l, w, s) xm xi xw im le nu rf ln nn vp xn xc vs)) (some (.int (-9)), (mk_M c n m kk (rT (he, ke, ki, fi, fa, or, mi, a, g, l, w, s) xm xi xw im le nu rf ln nn vp xn xc vs))) := by
  obtain ⟨hV, hst⟩ := id hA
  have hst2 : s ≤ 999 := hst
  obtain ⟨v1, v2, v3, v4, v5, v6, v7, v8, v9, v10, v11, v12, v13, v14, v15, v16⟩ := id hV
  have v6l := kO_len mi v7 or v6
  obtain ⟨b1, b2, b3⟩ := id hB
  obtain ⟨c1, c2, c3⟩ := id hC
  have d1 : rf.length = 7 := hD
  obtain ⟨r1, r2, r3, r4⟩ := id hR
  refine mr_seg 3 (pc1 := 5) (ls1 := [some (.ref 138), some (.int x)]) (st1 := [.int 16, .int 11, .int x]) (M1 := (mk_M c n m kk (rT (he, ke, ki, fi, fa, or, mi, a, g, l, w, s) xm xi xw im le nu rf ln nn vp xn xc vs))) (fun f => rfl) ?_
  refine mr_call (y := 135) (y0 := 8) (L := [some (.int x), some (.int 11), some (.int 16)]) (rest := []) (rr := some (.int 0)) (M1 := (mk_M c n m kk (rT (he, ke, ki, fi, fa, or, mi, a, g, l, w, s) xm xi xw im le nu rf ln nn vp xn xc vs))) (fun f => rfl) (ms_in_lo (x := x) (a := 11) (b := 16) (mz_lt_t 11 (by decide) (by omega))) ?_
  refine mr_seg 2 (pc1 := 22) (ls1 := [some (.ref 138), some (.int x)]) (st1 := [.int x]) (M1 := (mk_M c n m kk (rT (he, ke, ki, fi, fa, or, mi, a, g, l, w, s) xm xi xw im le nu rf ln nn vp xn xc vs))) (fun f => rfl) ?_
  refine mr_tsw (t1 := 100) rfl (by omega) (by decide) ?_
  exact mr_ret 2 (fun f => rfl)
theorem oe_count_0 (he ke ki fi fa or : List Nat) (mi a g l w s : Nat) (m : kG) (kk : kG) (im : Nat) (le : List Nat) (ln : Nat) (ys : List Int32) (vt : Int32) (nu : List Nat) (nn : Nat) (rf : List Nat) (vw : Int32) (vq : Int32) (yc : List Int32) (yh : List Int32) (yg : List Int32) (xm : List Int32) (xi : List Int32) (xw : List Int32) (vp : Int32) (xn : List Int32) (xc : List Int32) (vs : Int32) (hA : iA (he, ke, ki, fi, fa, or, mi, a, g, l, w, s)) (hB : iB le ln) (hC : iC nu nn) (hD : iD rf) (hJ : iJ m ys yc yh yg) (hR : iR xm xw xn xc) (hK : iK im kk xi) (x : Int32) (hxu : x.toInt ≤ -1) : oI 127 211 [some (.ref 100), some (.int x)] [some (.ref 138), some (.int x)] (mk_M (cT im le ln ys vt nu nn rf vw vq yc yh yg) (kr (he, ke, ki, fi, fa, or, mi, a, g, l, w, s)) m kk (rT (he, ke, ki, fi, fa, or, mi, a, g, l, w, s) xm xi xw im le nu rf ln nn vp xn xc vs)) := by
  exact ⟨(-9), _, _, oc_count_0 he ke ki fi fa or mi a g l w s im le ln ys vt nu nn rf vw vq yc yh yg m kk _ hA hB hC hD hJ hK.1 x hxu, om_count_0 he ke ki fi fa or mi a g l w s xm xi xw im le nu rf ln nn vp xn xc vs _ _ _ _ hA hB hC hD hR hK.2.1 x hxu, (he, ke, ki, fi, fa, or, mi, a, g, l, w, s), m, kk, im, le, ln, ys, vt, nu, nn, rf, vw, vq, yc, yh, yg, xm, xi, xw, vp, xn, xc, vs, rfl, hA, hB, hC, hD, hJ, hR, hK⟩
set_option maxRecDepth 100000 in
theorem oc_count_1 (he ke ki fi fa or : List Nat) (mi a g l w s : Nat) (im : Nat) (le : List Nat) (ln : Nat) (ys : List Int32) (vt : Int32) (nu : List Nat) (nn : Nat) (rf : List Nat) (vw vq : Int32) (yc yh yg : List Int32) (m kk : kG) (q : cR) (hA : iA (he, ke, ki, fi, fa, or, mi, a, g, l, w, s)) (hB : iB le ln) (hC : iC nu nn) (hD : iD rf) (hJ : iJ m ys yc yh yg) (k0 : kSh kk) (x : Int32) (hxl : 17 ≤ x.toInt) : mm_R 127 0 [some (.ref 100), some (.int x)] [] (mk_M (cT im le ln ys vt nu nn rf vw vq yc yh yg) (kr (he, ke, ki, fi, fa, or, mi, a, g, l, w, s)) m kk q) (some (.int (-9)), (mk_M (cT im le ln ys vt nu nn rf vw vq yc yh yg) (kr (he, ke, ki, fi, fa, or, mi, a, g, l, w, s)) m kk q)) := by
  obtain ⟨hV, hst⟩ := id hA
  have hst2 : s ≤ 999 := hst
  obtain ⟨v1, v2, v3, v4, v5, v6, v7, v8, v9, v10, v11, v12, v13, v14, v15, v16⟩ := id hV
  have v6l := kO_len mi v7 or v6
  obtain ⟨b1, b2, b3⟩ := id hB
  obtain ⟨c1, c2, c3⟩ := id hC
  have d1 : rf.length = 7 := hD
  obtain ⟨j0, j1, j2, j3, j4⟩ := id hJ
  refine mr_seg 1 (pc1 := 1) (ls1 := [some (.ref 100), some (.int x)]) (st1 := [.int x]) (M1 := (mk_M (cT im le ln ys vt nu nn rf vw vq yc yh yg) (kr (he, ke, ki, fi, fa, or, mi, a, g, l, w, s)) m kk q)) (fun f => rfl) ?_
  refine mr_tsw (t1 := 109) rfl (by omega) (by decide) ?_
  refine mr_seg 2 (pc1 := 112) (ls1 := [some (.ref 100), some (.int x)]) (st1 := [.int 11, .int x]) (M1 := (mk_M (cT im le ln ys vt nu nn rf vw vq yc yh yg) (kr (he, ke, ki, fi, fa, or, mi, a, g, l, w, s)) m kk q)) (fun f => rfl) ?_
  refine mr_f (C := x < 11) (mz_lt_f 11 (by decide) (by omega)) (fun f => rfl) ?_
  refine mr_seg 2 (pc1 := 118) (ls1 := [some (.ref 100), some (.int x)]) (st1 := [.int 16, .int x]) (M1 := (mk_M (cT im le ln ys vt nu nn rf vw vq yc yh yg) (kr (he, ke, ki, fi, fa, or, mi, a, g, l, w, s)) m kk q)) (fun f => rfl) ?_
  refine mr_t (C := 16 < x) (mz_gt_t 16 (by decide) (by omega)) (fun f => rfl) ?_
  exact mr_ret 2 (fun f => rfl)
set_option maxRecDepth 100000 in
theorem om_count_1 (he ke ki fi fa or : List Nat) (mi a g l w s : Nat) (xm xi xw : List Int32) (im : Nat) (le nu rf : List Nat) (ln nn : Nat) (vp : Int32) (xn xc : List Int32) (vs : Int32) (c : cC) (n m kk : kG) (hA : iA (he, ke, ki, fi, fa, or, mi, a, g, l, w, s)) (hB : iB le ln) (hC : iC nu nn) (hD : iD rf) (hR : iR xm xw xn xc) (k1 : xi.length = 52) (x : Int32) (hxl : 17 ≤ x.toInt) : mm_R 211 0 [some (.ref 138), some (.int x)] [] (mk_M c n m kk (rT (he, ke, ki, fi, fa, or, mi, a, g, l, w, s) xm xi xw im le nu rf ln nn vp xn xc vs)) (some (.int (-9)), (mk_M c n m kk (rT (he, ke, ki, fi, fa, or, mi, a, g, l, w, s) xm xi xw im le nu rf ln nn vp xn xc vs))) := by
  obtain ⟨hV, hst⟩ := id hA
  have hst2 : s ≤ 999 := hst
  obtain ⟨v1, v2, v3, v4, v5, v6, v7, v8, v9, v10, v11, v12, v13, v14, v15, v16⟩ := id hV
  have v6l := kO_len mi v7 or v6
  obtain ⟨b1, b2, b3⟩ := id hB
  obtain ⟨c1, c2, c3⟩ := id hC
  have d1 : rf.length = 7 := hD
  obtain ⟨r1, r2, r3, r4⟩ := id hR
  refine mr_seg 3 (pc1 := 5) (ls1 := [some (.ref 138), some (.int x)]) (st1 := [.int 16, .int 11, .int x]) (M1 := (mk_M c n m kk (rT (he, ke, ki, fi, fa, or, mi, a, g, l, w, s) xm xi xw im le nu rf ln nn vp xn xc vs))) (fun f => rfl) ?_
  refine mr_call (y := 135) (y0 := 8) (L := [some (.int x), some (.int 11), some (.int 16)]) (rest := []) (rr := some (.int 0)) (M1 := (mk_M c n m kk (rT (he, ke, ki, fi, fa, or, mi, a, g, l, w, s) xm xi xw im le nu rf ln nn vp xn xc vs))) (fun f => rfl) (ms_in_hi (x := x) (a := 11) (b := 16) (mz_lt_f 11 (by decide) (by omega)) (mz_gt_t 16 (by decide) (by omega))) ?_
  refine mr_seg 2 (pc1 := 22) (ls1 := [some (.ref 138), some (.int x)]) (st1 := [.int x]) (M1 := (mk_M c n m kk (rT (he, ke, ki, fi, fa, or, mi, a, g, l, w, s) xm xi xw im le nu rf ln nn vp xn xc vs))) (fun f => rfl) ?_
  refine mr_tsw (t1 := 100) rfl (by omega) (by decide) ?_
  exact mr_ret 2 (fun f => rfl)
theorem oe_count_1 (he ke ki fi fa or : List Nat) (mi a g l w s : Nat) (m : kG) (kk : kG) (im : Nat) (le : List Nat) (ln : Nat) (ys : List Int32) (vt : Int32) (nu : List Nat) (nn : Nat) (rf : List Nat) (vw : Int32) (vq : Int32) (yc : List Int32) (yh : List Int32) (yg : List Int32) (xm : List Int32) (xi : List Int32) (xw : List Int32) (vp : Int32) (xn : List Int32) (xc : List Int32) (vs : Int32) (hA : iA (he, ke, ki, fi, fa, or, mi, a, g, l, w, s)) (hB : iB le ln) (hC : iC nu nn) (hD : iD rf) (hJ : iJ m ys yc yh yg) (hR : iR xm xw xn xc) (hK : iK im kk xi) (x : Int32) (hxl : 17 ≤ x.toInt) : oI 127 211 [some (.ref 100), some (.int x)] [some (.ref 138), some (.int x)] (mk_M (cT im le ln ys vt nu nn rf vw vq yc yh yg) (kr (he, ke, ki, fi, fa, or, mi, a, g, l, w, s)) m kk (rT (he, ke, ki, fi, fa, or, mi, a, g, l, w, s) xm xi xw im le nu rf ln nn vp xn xc vs)) := by
  exact ⟨(-9), _, _, oc_count_1 he ke ki fi fa or mi a g l w s im le ln ys vt nu nn rf vw vq yc yh yg m kk _ hA hB hC hD hJ hK.1 x hxl, om_count_1 he ke ki fi fa or mi a g l w s xm xi xw im le nu rf ln nn vp xn xc vs _ _ _ _ hA hB hC hD hR hK.2.1 x hxl, (he, ke, ki, fi, fa, or, mi, a, g, l, w, s), m, kk, im, le, ln, ys, vt, nu, nn, rf, vw, vq, yc, yh, yg, xm, xi, xw, vp, xn, xc, vs, rfl, hA, hB, hC, hD, hJ, hR, hK⟩
set_option maxRecDepth 100000 in
theorem oc_count_2 (he ke ki fi fa or : List Nat) (mi a g l w s : Nat) (im : Nat) (le : List Nat) (ln : Nat) (ys : List Int32) (vt : Int32) (nu : List Nat) (nn : Nat) (rf : List Nat) (vw vq : Int32) (yc yh yg : List Int32) (m kk : kG) (q : cR) (hA : iA (he, ke, ki, fi, fa, or, mi, a, g, l, w, s)) (hB : iB le ln) (hC : iC nu nn) (hD : iD rf) (hJ : iJ m ys yc yh yg) (k0 : kSh kk) (x : Int32) (hxl : 8 ≤ x.toInt) (hxu : x.toInt ≤ 10) : mm_R 127 0 [some (.ref 100), some (.int x)] [] (mk_M (cT im le ln ys vt nu nn rf vw vq yc yh yg) (kr (he, ke, ki, fi, fa, or, mi, a, g, l, w, s)) m kk q) (some (.int (-9)), (mk_M (cT im le ln ys vt nu nn rf vw vq yc yh yg) (kr (he, ke, ki, fi, fa, or, mi, a, g, l, w, s)) m kk q)) := by
  obtain ⟨hV, hst⟩ := id hA
  have hst2 : s ≤ 999 := hst
  obtain ⟨v1, v2, v3, v4, v5, v6, v7, v8, v9, v10, v11, v12, v13, v14, v15, v16⟩ := id hV
  have v6l := kO_len mi v7 or v6
  obtain ⟨b1, b2, b3⟩ := id hB
  obtain ⟨c1, c2, c3⟩ := id hC
  have d1 : rf.length = 7 := hD
  obtain ⟨j0, j1, j2, j3, j4⟩ := id hJ
  refine mr_seg 1 (pc1 := 1) (ls1 := [some (.ref 100), some (.int x)]) (st1 := [.int x]) (M1 := (mk_M (cT im le ln ys vt nu nn rf vw vq yc yh yg) (kr (he, ke, ki, fi, fa, or, mi, a, g, l, w, s)) m kk q)) (fun f => rfl) ?_
  refine mr_tsw (t1 := 109) rfl (by omega) (by decide) ?_
  refine mr_seg 2 (pc1 := 112) (ls1 := [some (.ref 100), some (.int x)]) (st1 := [.int 11, .int x]) (M1 := (mk_M (cT im le ln ys vt nu nn rf vw vq yc yh yg) (kr (he, ke, ki, fi, fa, or, mi, a, g, l, w, s)) m kk q)) (fun f => rfl) ?_
  refine mr_t (C := x < 11) (mz_lt_t 11 (by decide) (by omega)) (fun f => rfl) ?_
  exact mr_ret 2 (fun f => rfl)
set_option maxRecDepth 100000 in
theorem om_count_2 (he ke ki fi fa or : List Nat) (mi a g l w s : Nat) (xm xi xw : List Int32) (im : Nat) (le nu rf : List Nat) (ln nn : Nat) (vp : Int32) (xn xc : List Int32) (vs : Int32) (c : cC) (n m kk : kG) (hA : iA (he, ke, ki, fi, fa, or, mi, a, g, l, w, s)) (hB : iB le ln) (hC : iC nu nn) (hD : iD rf) (hR : iR xm xw xn xc) (k1 : xi.length = 52) (x : Int32) (hxl : 8 ≤ x.toInt) (hxu : x.toInt ≤ 10) : mm_R 211 0 [some (.ref 138), some (.int x)] [] (mk_M c n m kk (rT (he, ke, ki, fi, fa, or, mi, a, g, l, w, s) xm xi xw im le nu rf ln nn vp xn xc vs)) (some (.int (-9)), (mk_M c n m kk (rT (he, ke, ki, fi, fa, or, mi, a, g, l, w, s) xm xi xw im le nu rf ln nn vp xn xc vs))) := by
  obtain ⟨hV, hst⟩ := id hA
  have hst2 : s ≤ 999 := hst
  obtain ⟨v1, v2, v3, v4, v5, v6, v7, v8, v9, v10, v11, v12, v13, v14, v15, v16⟩ := id hV
  have v6l := kO_len mi v7 or v6
  obtain ⟨b1, b2, b3⟩ := id hB
  obtain ⟨c1, c2, c3⟩ := id hC
  have d1 : rf.length = 7 := hD
  obtain ⟨r1, r2, r3, r4⟩ := id hR
  refine mr_seg 3 (pc1 := 5) (ls1 := [some (.ref 138), some (.int x)]) (st1 := [.int 16, .int 11, .int x]) (M1 := (mk_M c n m kk (rT (he, ke, ki, fi, fa, or, mi, a, g, l, w, s) xm xi xw im le nu rf ln nn vp xn xc vs))) (fun f => rfl) ?_
  refine mr_call (y := 135) (y0 := 8) (L := [some (.int x), some (.int 11), some (.int 16)]) (rest := []) (rr := some (.int 0)) (M1 := (mk_M c n m kk (rT (he, ke, ki, fi, fa, or, mi, a, g, l, w, s) xm xi xw im le nu rf ln nn vp xn xc vs))) (fun f => rfl) (ms_in_lo (x := x) (a := 11) (b := 16) (mz_lt_t 11 (by decide) (by omega))) ?_
  refine mr_seg 2 (pc1 := 22) (ls1 := [some (.ref 138), some (.int x)]) (st1 := [.int x]) (M1 := (mk_M c n m kk (rT (he, ke, ki, fi, fa, or, mi, a, g, l, w, s) xm xi xw im le nu rf ln nn vp xn xc vs))) (fun f => rfl) ?_
  refine mr_tsw (t1 := 100) rfl (by omega) (by decide) ?_
  exact mr_ret 2 (fun f => rfl)
theorem oe_count_2 (he ke ki fi fa or : List Nat) (mi a g l w s : Nat) (m : kG) (kk : kG) (im : Nat) (le : List Nat) (ln : Nat) (ys : List Int32) (vt : Int32) (nu : List Nat) (nn : Nat) (rf : List Nat) (vw : Int32) (vq : Int32) (yc : List Int32) (yh : List Int32) (yg : List Int32) (xm : List Int32) (xi : List Int32) (xw : List Int32) (vp : Int32) (xn : List Int32) (xc : List Int32) (vs : Int32) (hA : iA (he, ke, ki, fi, fa, or, mi, a, g, l, w, s)) (hB : iB le ln) (hC : iC nu nn) (hD : iD rf) (hJ : iJ m ys yc yh yg) (hR : iR xm xw xn xc) (hK : iK im kk xi) (x : Int32) (hxl : 8 ≤ x.toInt) (hxu : x.toInt ≤ 10) : oI 127 211 [some (.ref 100), some (.int x)] [some (.ref 138), some (.int x)] (mk_M (cT im le ln ys vt nu nn rf vw vq yc yh yg) (kr (he, ke, ki, fi, fa, or, mi, a, g, l, w, s)) m kk (rT (he, ke, ki, fi, fa, or, mi, a, g, l, w, s) xm xi xw im le nu rf ln nn vp xn xc vs)) := by
  exact ⟨(-9), _, _, oc_count_2 he ke ki fi fa or mi a g l w s im le ln ys vt nu nn rf vw vq yc yh yg m kk _ hA hB hC hD hJ hK.1 x hxl hxu, om_count_2 he ke ki fi fa or mi a g l w s xm xi xw im le nu rf ln nn vp xn xc vs _ _ _ _ hA hB hC hD hR hK.2.1 x hxl hxu, (he, ke, ki, fi, fa, or, mi, a, g, l, w, s), m, kk, im, le, ln, ys, vt, nu, nn, rf, vw, vq, yc, yh, yg, xm, xi, xw, vp, xn, xc, vs, rfl, hA, hB, hC, hD, hJ, hR, hK⟩
set_option maxRecDepth 100000 in
theorem oc_count_10 (he ke ki fi fa or : List Nat) (mi a g l w s : Nat) (im : Nat) (le : List Nat) (ln : Nat) (ys : List Int32) (vt : Int32) (nu : List Nat) (nn : Nat) (rf : List Nat) (vw vq : Int32) (yc yh yg : List Int32) (m kk : kG) (q : cR) (hA : iA (he, ke, ki, fi, fa, or, mi, a, g, l, w, s)) (hB : iB le ln) (hC : iC nu nn) (hD : iD rf) (hJ : iJ m ys yc yh yg) (k0 : kSh kk) : mm_R 127 0 [some (.ref 100), some (.int 0)] [] (mk_M (cT im le ln ys vt nu nn rf vw vq yc yh yg) (kr (he, ke, ki, fi, fa, or, mi, a, g, l, w, s)) m kk q) (some (.int (nI mi)), (mk_M (cT im le ln ys vt nu nn rf vw vq yc yh yg) (kr (he, ke, ki, fi, fa, or, mi, a, g, l, w, s)) m kk q)) := by
  obtain ⟨hV, hst⟩ := id hA
  have hst2 : s ≤ 999 := hst
  obtain ⟨v1, v2, v3, v4, v5, v6, v7, v8, v9, v10, v11, v12, v13, v14, v15, v16⟩ := id hV
  have v6l := kO_len mi v7 or v6
  obtain ⟨b1, b2, b3⟩ := id hB
  obtain ⟨c1, c2, c3⟩ := id hC
  have d1 : rf.length = 7 := hD
  obtain ⟨j0, j1, j2, j3, j4⟩ := id hJ
  exact mr_ret 6 (fun f => rfl)
set_option maxRecDepth 100000 in
theorem om_count_10 (he ke ki fi fa or : List Nat) (mi a g l w s : Nat) (xm xi xw : List Int32) (im : Nat) (le nu rf : List Nat) (ln nn : Nat) (vp : Int32) (xn xc : List Int32) (vs : Int32) (c : cC) (n m kk : kG) (hA : iA (he, ke, ki, fi, fa, or, mi, a, g, l, w, s)) (hB : iB le ln) (hC : iC nu nn) (hD : iD rf) (hR : iR xm xw xn xc) (k1 : xi.length = 52) : mm_R 211 0 [some (.ref 138), some (.int 0)] [] (mk_M c n m kk (rT (he, ke, ki, fi, fa, or, mi, a, g, l, w, s) xm xi xw im le nu rf ln nn vp xn xc vs)) (some (.int (nI mi)), (mk_M c n m kk (rT (he, ke, ki, fi, fa, or, mi, a, g, l, w, s) xm xi xw im le nu rf ln nn vp xn xc vs))) := by
  obtain ⟨hV, hst⟩ := id hA
  have hst2 : s ≤ 999 := hst
  obtain ⟨v1, v2, v3, v4, v5, v6, v7, v8, v9, v10, v11, v12, v13, v14, v15, v16⟩ := id hV
  have v6l := kO_len mi v7 or v6
  obtain ⟨b1, b2, b3⟩ := id hB
  obtain ⟨c1, c2, c3⟩ := id hC
  have d1 : rf.length = 7 := hD
  obtain ⟨r1, r2, r3, r4⟩ := id hR
  refine mr_seg 3 (pc1 := 5) (ls1 := [some (.ref 138), some (.int 0)]) (st1 := [.int 16, .int 11, .int 0]) (M1 := (mk_M c n m kk (rT (he, ke, ki, fi, fa, or, mi, a, g, l, w, s) xm xi xw im le nu rf ln nn vp xn xc vs))) (fun f => rfl) ?_
  refine mr_call (y := 135) (y0 := 8) (L := [some (.int 0), some (.int 11), some (.int 16)]) (rest := []) (rr := some (.int 0)) (M1 := (mk_M c n m kk (rT (he, ke, ki, fi, fa, or, mi, a, g, l, w, s) xm xi xw im le nu rf ln nn vp xn xc vs))) (fun f => rfl) (by
      exact mr_ret 5 (fun f => rfl)) ?_
  refine mr_seg 6 (pc1 := 73) (ls1 := [some (.ref 138), some (.int 0)]) (st1 := [.int 0, .ref 139]) (M1 := (mk_M c n m kk (rT (he, ke, ki, fi, fa, or, mi, a, g, l, w, s) xm xi xw im le nu rf ln nn vp xn xc vs))) (fun f => rfl) ?_
  refine mr_ldn (xs := (er (he, ke, ki, fi, fa, or, mi, a, g, l, w, s))) rfl rfl (k := 0) (by decide) rfl ?_
  exact mr_ret 1 (fun f => rfl)
theorem oe_count_10 (he ke ki fi fa or : List Nat) (mi a g l w s : Nat) (m : kG) (kk : kG) (im : Nat) (le : List Nat) (ln : Nat) (ys : List Int32) (vt : Int32) (nu : List Nat) (nn : Nat) (rf : List Nat) (vw : Int32) (vq : Int32) (yc : List Int32) (yh : List Int32) (yg : List Int32) (xm : List Int32) (xi : List Int32) (xw : List Int32) (vp : Int32) (xn : List Int32) (xc : List Int32) (vs : Int32) (hA : iA (he, ke, ki, fi, fa, or, mi, a, g, l, w, s)) (hB : iB le ln) (hC : iC nu nn) (hD : iD rf) (hJ : iJ m ys yc yh yg) (hR : iR xm xw xn xc) (hK : iK im kk xi) : oI 127 211 [some (.ref 100), some (.int 0)] [some (.ref 138), some (.int 0)] (mk_M (cT im le ln ys vt nu nn rf vw vq yc yh yg) (kr (he, ke, ki, fi, fa, or, mi, a, g, l, w, s)) m kk (rT (he, ke, ki, fi, fa, or, mi, a, g, l, w, s) xm xi xw im le nu rf ln nn vp xn xc vs)) := by
  exact ⟨(nI mi), _, _, oc_count_10 he ke ki fi fa or mi a g l w s im le ln ys vt nu nn rf vw vq yc yh yg m kk _ hA hB hC hD hJ hK.1, om_count_10 he ke ki fi fa or mi a g l w s xm xi xw im le nu rf ln nn vp xn xc vs _ _ _ _ hA hB hC hD hR hK.2.1, (he, ke, ki, fi, fa, or, mi, a, g, l, w, s), m, kk, im, le, ln, ys, vt, nu, nn, rf, vw, vq, yc, yh, yg, xm, xi, xw, vp, xn, xc, vs, rfl, hA, hB, hC, hD, hJ, hR, hK⟩
set_option maxRecDepth 100000 in
theorem oc_count_11 (he ke ki fi fa or : List Nat) (mi a g l w s : Nat) (im : Nat) (le : List Nat) (ln : Nat) (ys : List Int32) (vt : Int32) (nu : List Nat) (nn : Nat) (rf : List Nat) (vw vq : Int32) (yc yh yg : List Int32) (m kk : kG) (q : cR) (hA : iA (he, ke, ki, fi, fa, or, mi, a, g, l, w, s)) (hB : iB le ln) (hC : iC nu nn) (hD : iD rf) (hJ : iJ m ys yc yh yg) (k0 : kSh kk) : mm_R 127 0 [some (.ref 100), some (.int 1)] [] (mk_M (cT im le ln ys vt nu nn rf vw vq yc yh yg) (kr (he, ke, ki, fi, fa, or, mi, a, g, l, w, s)) m kk q) (some (.int (nI s)), (mk_M (cT im le ln ys vt nu nn rf vw vq yc yh yg) (kr (he, ke, ki, fi, fa, or, mi, a, g, l, w, s)) m kk q)) := by
  obtain ⟨hV, hst⟩ := id hA
  have hst2 : s ≤ 999 := hst
  obtain ⟨v1, v2, v3, v4, v5, v6, v7, v8, v9, v10, v11, v12, v13, v14, v15, v16⟩ := id hV
  have v6l := kO_len mi v7 or v6
  obtain ⟨b1, b2, b3⟩ := id hB
  obtain ⟨c1, c2, c3⟩ := id hC
  have d1 : rf.length = 7 := hD
  obtain ⟨j0, j1, j2, j3, j4⟩ := id hJ
  exact mr_ret 6 (fun f => rfl)
set_option maxRecDepth 100000 in
theorem om_count_11 (he ke ki fi fa or : List Nat) (mi a g l w s : Nat) (xm xi xw : List Int32) (im : Nat) (le nu rf : List Nat) (ln nn : Nat) (vp : Int32) (xn xc : List Int32) (vs : Int32) (c : cC) (n m kk : kG) (hA : iA (he, ke, ki, fi, fa, or, mi, a, g, l, w, s)) (hB : iB le ln) (hC : iC nu nn) (hD : iD rf) (hR : iR xm xw xn xc) (k1 : xi.length = 52) : mm_R 211 0 [some (.ref 138), some (.int 1)] [] (mk_M c n m kk (rT (he, ke, ki, fi, fa, or, mi, a, g, l, w, s) xm xi xw im le nu rf ln nn vp xn xc vs)) (some (.int (nI s)), (mk_M c n m kk (rT (he, ke, ki, fi, fa, or, mi, a, g, l, w, s) xm xi xw im le nu rf ln nn vp xn xc vs))) := by
  obtain ⟨hV, hst⟩ := id hA
  have hst2 : s ≤ 999 := hst
  obtain ⟨v1, v2, v3, v4, v5, v6, v7, v8, v9, v10, v11, v12, v13, v14, v15, v16⟩ := id hV
  have v6l := kO_len mi v7 or v6
  obtain ⟨b1, b2, b3⟩ := id hB
  obtain ⟨c1, c2, c3⟩ := id hC
  have d1 : rf.length = 7 := hD
  obtain ⟨r1, r2, r3, r4⟩ := id hR
  refine mr_seg 3 (pc1 := 5) (ls1 := [some (.ref 138), some (.int 1)]) (st1 := [.int 16, .int 11, .int 1]) (M1 := (mk_M c n m kk (rT (he, ke, ki, fi, fa, or, mi, a, g, l, w, s) xm xi xw im le nu rf ln nn vp xn xc vs))) (fun f => rfl) ?_
  refine mr_call (y := 135) (y0 := 8) (L := [some (.int 1), some (.int 11), some (.int 16)]) (rest := []) (rr := some (.int 0)) (M1 := (mk_M c n m kk (rT (he, ke, ki, fi, fa, or, mi, a, g, l, w, s) xm xi xw im le nu rf ln nn vp xn xc vs))) (fun f => rfl) (by
      exact mr_ret 5 (fun f => rfl)) ?_
  refine mr_seg 6 (pc1 := 73) (ls1 := [some (.ref 138), some (.int 1)]) (st1 := [.int 1, .ref 139]) (M1 := (mk_M c n m kk (rT (he, ke, ki, fi, fa, or, mi, a, g, l, w, s) xm xi xw im le nu rf ln nn vp xn xc vs))) (fun f => rfl) ?_
  refine mr_ldn (xs := (er (he, ke, ki, fi, fa, or, mi, a, g, l, w, s))) rfl rfl (k := 1) (by decide) rfl ?_
  exact mr_ret 1 (fun f => rfl)
theorem oe_count_11 (he ke ki fi fa or : List Nat) (mi a g l w s : Nat) (m : kG) (kk : kG) (im : Nat) (le : List Nat) (ln : Nat) (ys : List Int32) (vt : Int32) (nu : List Nat) (nn : Nat) (rf : List Nat) (vw : Int32) (vq : Int32) (yc : List Int32) (yh : List Int32) (yg : List Int32) (xm : List Int32) (xi : List Int32) (xw : List Int32) (vp : Int32) (xn : List Int32) (xc : List Int32) (vs : Int32) (hA : iA (he, ke, ki, fi, fa, or, mi, a, g, l, w, s)) (hB : iB le ln) (hC : iC nu nn) (hD : iD rf) (hJ : iJ m ys yc yh yg) (hR : iR xm xw xn xc) (hK : iK im kk xi) : oI 127 211 [some (.ref 100), some (.int 1)] [some (.ref 138), some (.int 1)] (mk_M (cT im le ln ys vt nu nn rf vw vq yc yh yg) (kr (he, ke, ki, fi, fa, or, mi, a, g, l, w, s)) m kk (rT (he, ke, ki, fi, fa, or, mi, a, g, l, w, s) xm xi xw im le nu rf ln nn vp xn xc vs)) := by
  exact ⟨(nI s), _, _, oc_count_11 he ke ki fi fa or mi a g l w s im le ln ys vt nu nn rf vw vq yc yh yg m kk _ hA hB hC hD hJ hK.1, om_count_11 he ke ki fi fa or mi a g l w s xm xi xw im le nu rf ln nn vp xn xc vs _ _ _ _ hA hB hC hD hR hK.2.1, (he, ke, ki, fi, fa, or, mi, a, g, l, w, s), m, kk, im, le, ln, ys, vt, nu, nn, rf, vw, vq, yc, yh, yg, xm, xi, xw, vp, xn, xc, vs, rfl, hA, hB, hC, hD, hJ, hR, hK⟩
set_option maxRecDepth 100000 in
theorem oc_count_12 (he ke ki fi fa or : List Nat) (mi a g l w s : Nat) (im : Nat) (le : List Nat) (ln : Nat) (ys : List Int32) (vt : Int32) (nu : List Nat) (nn : Nat) (rf : List Nat) (vw vq : Int32) (yc yh yg : List Int32) (m kk : kG) (q : cR) (hA : iA (he, ke, ki, fi, fa, or, mi, a, g, l, w, s)) (hB : iB le ln) (hC : iC nu nn) (hD : iD rf) (hJ : iJ m ys yc yh yg) (k0 : kSh kk) : mm_R 127 0 [some (.ref 100), some (.int 2)] [] (mk_M (cT im le ln ys vt nu nn rf vw vq yc yh yg) (kr (he, ke, ki, fi, fa, or, mi, a, g, l, w, s)) m kk q) (some (.int (nI a)), (mk_M (cT im le ln ys vt nu nn rf vw vq yc yh yg) (kr (he, ke, ki, fi, fa, or, mi, a, g, l, w, s)) m kk q)) := by
  obtain ⟨hV, hst⟩ := id hA
  have hst2 : s ≤ 999 := hst
  obtain ⟨v1, v2, v3, v4, v5, v6, v7, v8, v9, v10, v11, v12, v13, v14, v15, v16⟩ := id hV
  have v6l := kO_len mi v7 or v6
  obtain ⟨b1, b2, b3⟩ := id hB
  obtain ⟨c1, c2, c3⟩ := id hC
  have d1 : rf.length = 7 := hD
  obtain ⟨j0, j1, j2, j3, j4⟩ := id hJ
  exact mr_ret 6 (fun f => rfl)
set_option maxRecDepth 100000 in
theorem om_count_12 (he ke ki fi fa or : List Nat) (mi a g l w s : Nat) (xm xi xw : List Int32) (im : Nat) (le nu rf : List Nat) (ln nn : Nat) (vp : Int32) (xn xc : List Int32) (vs : Int32) (c : cC) (n m kk : kG) (hA : iA (he, ke, ki, fi, fa, or, mi, a, g, l, w, s)) (hB : iB le ln) (hC : iC nu nn) (hD : iD rf) (hR : iR xm xw xn xc) (k1 : xi.length = 52) : mm_R 211 0 [some (.ref 138), some (.int 2)] [] (mk_M c n m kk (rT (he, ke, ki, fi, fa, or, mi, a, g, l, w, s) xm xi xw im le nu rf ln nn vp xn xc vs)) (some (.int (nI a)), (mk_M c n m kk (rT (he, ke, ki, fi, fa, or, mi, a, g, l, w, s) xm xi xw im le nu rf ln nn vp xn xc vs))) := by
  obtain ⟨hV, hst⟩ := id hA
  have hst2 : s ≤ 999 := hst
  obtain ⟨v1, v2, v3, v4, v5, v6, v7, v8, v9, v10, v11, v12, v13, v14, v15, v16⟩ := id hV
  have v6l := kO_len mi v7 or v6
  obtain ⟨b1, b2, b3⟩ := id hB
  obtain ⟨c1, c2, c3⟩ := id hC
  have d1 : rf.length = 7 := hD
  obtain ⟨r1, r2, r3, r4⟩ := id hR
  refine mr_seg 3 (pc1 := 5) (ls1 := [some (.ref 138), some (.int 2)]) (st1 := [.int 16, .int 11, .int 2]) (M1 := (mk_M c n m kk (rT (he, ke, ki, fi, fa, or, mi, a, g, l, w, s) xm xi xw im le nu rf ln nn vp xn xc vs))) (fun f => rfl) ?_
  refine mr_call (y := 135) (y0 := 8) (L := [some (.int 2), some (.int 11), some (.int 16)]) (rest := []) (rr := some (.int 0)) (M1 := (mk_M c n m kk (rT (he, ke, ki, fi, fa, or, mi, a, g, l, w, s) xm xi xw im le nu rf ln nn vp xn xc vs))) (fun f => rfl) (by
      exact mr_ret 5 (fun f => rfl)) ?_
  refine mr_seg 6 (pc1 := 73) (ls1 := [some (.ref 138), some (.int 2)]) (st1 := [.int 2, .ref 139]) (M1 := (mk_M c n m kk (rT (he, ke, ki, fi, fa, or, mi, a, g, l, w, s) xm xi xw im le nu rf ln nn vp xn xc vs))) (fun f => rfl) ?_
  refine mr_ldn (xs := (er (he, ke, ki, fi, fa, or, mi, a, g, l, w, s))) rfl rfl (k := 2) (by decide) rfl ?_
  exact mr_ret 1 (fun f => rfl)
theorem oe_count_12 (he ke ki fi fa or : List Nat) (mi a g l w s : Nat) (m : kG) (kk : kG) (im : Nat) (le : List Nat) (ln : Nat) (ys : List Int32) (vt : Int32) (nu : List Nat) (nn : Nat) (rf : List Nat) (vw : Int32) (vq : Int32) (yc : List Int32) (yh : List Int32) (yg : List Int32) (xm : List Int32) (xi : List Int32) (xw : List Int32) (vp : Int32) (xn : List Int32) (xc : List Int32) (vs : Int32) (hA : iA (he, ke, ki, fi, fa, or, mi, a, g, l, w, s)) (hB : iB le ln) (hC : iC nu nn) (hD : iD rf) (hJ : iJ m ys yc yh yg) (hR : iR xm xw xn xc) (hK : iK im kk xi) : oI 127 211 [some (.ref 100), some (.int 2)] [some (.ref 138), some (.int 2)] (mk_M (cT im le ln ys vt nu nn rf vw vq yc yh yg) (kr (he, ke, ki, fi, fa, or, mi, a, g, l, w, s)) m kk (rT (he, ke, ki, fi, fa, or, mi, a, g, l, w, s) xm xi xw im le nu rf ln nn vp xn xc vs)) := by
  exact ⟨(nI a), _, _, oc_count_12 he ke ki fi fa or mi a g l w s im le ln ys vt nu nn rf vw vq yc yh yg m kk _ hA hB hC hD hJ hK.1, om_count_12 he ke ki fi fa or mi a g l w s xm xi xw im le nu rf ln nn vp xn xc vs _ _ _ _ hA hB hC hD hR hK.2.1, (he, ke, ki, fi, fa, or, mi, a, g, l, w, s), m, kk, im, le, ln, ys, vt, nu, nn, rf, vw, vq, yc, yh, yg, xm, xi, xw, vp, xn, xc, vs, rfl, hA, hB, hC, hD, hJ, hR, hK⟩
set_option maxRecDepth 100000 in
theorem oc_count_13 (he ke ki fi fa or : List Nat) (mi a g l w s : Nat) (im : Nat) (le : List Nat) (ln : Nat) (ys : List Int32) (vt : Int32) (nu : List Nat) (nn : Nat) (rf : List Nat) (vw vq : Int32) (yc yh yg : List Int32) (m kk : kG) (q : cR) (hA : iA (he, ke, ki, fi, fa, or, mi, a, g, l, w, s)) (hB : iB le ln) (hC : iC nu nn) (hD : iD rf) (hJ : iJ m ys yc yh yg) (k0 : kSh kk) : mm_R 127 0 [some (.ref 100), some (.int 3)] [] (mk_M (cT im le ln ys vt nu nn rf vw vq yc yh yg) (kr (he, ke, ki, fi, fa, or, mi, a, g, l, w, s)) m kk q) (some (.int (nI g)), (mk_M (cT im le ln ys vt nu nn rf vw vq yc yh yg) (kr (he, ke, ki, fi, fa, or, mi, a, g, l, w, s)) m kk q)) := by
  obtain ⟨hV, hst⟩ := id hA
  have hst2 : s ≤ 999 := hst
  obtain ⟨v1, v2, v3, v4, v5, v6, v7, v8, v9, v10, v11, v12, v13, v14, v15, v16⟩ := id hV
  have v6l := kO_len mi v7 or v6
  obtain ⟨b1, b2, b3⟩ := id hB
  obtain ⟨c1, c2, c3⟩ := id hC
  have d1 : rf.length = 7 := hD
  obtain ⟨j0, j1, j2, j3, j4⟩ := id hJ
  exact mr_ret 6 (fun f => rfl)
set_option maxRecDepth 100000 in
theorem om_count_13 (he ke ki fi fa or : List Nat) (mi a g l w s : Nat) (xm xi xw : List Int32) (im : Nat) (le nu rf : List Nat) (ln nn : Nat) (vp : Int32) (xn xc : List Int32) (vs : Int32) (c : cC) (n m kk : kG) (hA : iA (he, ke, ki, fi, fa, or, mi, a, g, l, w, s)) (hB : iB le ln) (hC : iC nu nn) (hD : iD rf) (hR : iR xm xw xn xc) (k1 : xi.length = 52) : mm_R 211 0 [some (.ref 138), some (.int 3)] [] (mk_M c n m kk (rT (he, ke, ki, fi, fa, or, mi, a, g, l, w, s) xm xi xw im le nu rf ln nn vp xn xc vs)) (some (.int (nI g)), (mk_M c n m kk (rT (he, ke, ki, fi, fa, or, mi, a, g, l, w, s) xm xi xw im le nu rf ln nn vp xn xc vs))) := by
  obtain ⟨hV, hst⟩ := id hA
  have hst2 : s ≤ 999 := hst
  obtain ⟨v1, v2, v3, v4, v5, v6, v7, v8, v9, v10, v11, v12, v13, v14, v15, v16⟩ := id hV
  have v6l := kO_len mi v7 or v6
  obtain ⟨b1, b2, b3⟩ := id hB
  obtain ⟨c1, c2, c3⟩ := id hC
  have d1 : rf.length = 7 := hD
  obtain ⟨r1, r2, r3, r4⟩ := id hR
  refine mr_seg 3 (pc1 := 5) (ls1 := [some (.ref 138), some (.int 3)]) (st1 := [.int 16, .int 11, .int 3]) (M1 := (mk_M c n m kk (rT (he, ke, ki, fi, fa, or, mi, a, g, l, w, s) xm xi xw im le nu rf ln nn vp xn xc vs))) (fun f => rfl) ?_
  refine mr_call (y := 135) (y0 := 8) (L := [some (.int 3), some (.int 11), some (.int 16)]) (rest := []) (rr := some (.int 0)) (M1 := (mk_M c n m kk (rT (he, ke, ki, fi, fa, or, mi, a, g, l, w, s) xm xi xw im le nu rf ln nn vp xn xc vs))) (fun f => rfl) (by
      exact mr_ret 5 (fun f => rfl)) ?_
  refine mr_seg 6 (pc1 := 73) (ls1 := [some (.ref 138), some (.int 3)]) (st1 := [.int 3, .ref 139]) (M1 := (mk_M c n m kk (rT (he, ke, ki, fi, fa, or, mi, a, g, l, w, s) xm xi xw im le nu rf ln nn vp xn xc vs))) (fun f => rfl) ?_
  refine mr_ldn (xs := (er (he, ke, ki, fi, fa, or, mi, a, g, l, w, s))) rfl rfl (k := 3) (by decide) rfl ?_
  exact mr_ret 1 (fun f => rfl)
theorem oe_count_13 (he ke ki fi fa or : List Nat) (mi a g l w s : Nat) (m : kG) (kk : kG) (im : Nat) (le : List Nat) (ln : Nat) (ys : List Int32) (vt : Int32) (nu : List Nat) (nn : Nat) (rf : List Nat) (vw : Int32) (vq : Int32) (yc : List Int32) (yh : List Int32) (yg : List Int32) (xm : List Int32) (xi : List Int32) (xw : List Int32) (vp : Int32) (xn : List Int32) (xc : List Int32) (vs : Int32) (hA : iA (he, ke, ki, fi, fa, or, mi, a, g, l, w, s)) (hB : iB le ln) (hC : iC nu nn) (hD : iD rf) (hJ : iJ m ys yc yh yg) (hR : iR xm xw xn xc) (hK : iK im kk xi) : oI 127 211 [some (.ref 100), some (.int 3)] [some (.ref 138), some (.int 3)] (mk_M (cT im le ln ys vt nu nn rf vw vq yc yh yg) (kr (he, ke, ki, fi, fa, or, mi, a, g, l, w, s)) m kk (rT (he, ke, ki, fi, fa, or, mi, a, g, l, w, s) xm xi xw im le nu rf ln nn vp xn xc vs)) := by
  exact ⟨(nI g), _, _, oc_count_13 he ke ki fi fa or mi a g l w s im le ln ys vt nu nn rf vw vq yc yh yg m kk _ hA hB hC hD hJ hK.1, om_count_13 he ke ki fi fa or mi a g l w s xm xi xw im le nu rf ln nn vp xn xc vs _ _ _ _ hA hB hC hD hR hK.2.1, (he, ke, ki, fi, fa, or, mi, a, g, l, w, s), m, kk, im, le, ln, ys, vt, nu, nn, rf, vw, vq, yc, yh, yg, xm, xi, xw, vp, xn, xc, vs, rfl, hA, hB, hC, hD, hJ, hR, hK⟩
set_option maxRecDepth 100000 in
theorem oc_count_14 (he ke ki fi fa or : List Nat) (mi a g l w s : Nat) (im : Nat) (le : List Nat) (ln : Nat) (ys : List Int32) (vt : Int32) (nu : List Nat) (nn : Nat) (rf : List Nat) (vw vq : Int32) (yc yh yg : List Int32) (m kk : kG) (q : cR) (hA : iA (he, ke, ki, fi, fa, or, mi, a, g, l, w, s)) (hB : iB le ln) (hC : iC nu nn) (hD : iD rf) (hJ : iJ m ys yc yh yg) (k0 : kSh kk) : mm_R 127 0 [some (.ref 100), some (.int 4)] [] (mk_M (cT im le ln ys vt nu nn rf vw vq yc yh yg) (kr (he, ke, ki, fi, fa, or, mi, a, g, l, w, s)) m kk q) (some (.int (nI w)), (mk_M (cT im le ln ys vt nu nn rf vw vq yc yh yg) (kr (he, ke, ki, fi, fa, or, mi, a, g, l, w, s)) m kk q)) := by
  obtain ⟨hV, hst⟩ := id hA
  have hst2 : s ≤ 999 := hst
  obtain ⟨v1, v2, v3, v4, v5, v6, v7, v8, v9, v10, v11, v12, v13, v14, v15, v16⟩ := id hV
  have v6l := kO_len mi v7 or v6
  obtain ⟨b1, b2, b3⟩ := id hB
  obtain ⟨c1, c2, c3⟩ := id hC
  have d1 : rf.length = 7 := hD
  obtain ⟨j0, j1, j2, j3, j4⟩ := id hJ
  exact mr_ret 6 (fun f => rfl)
set_option maxRecDepth 100000 in
theorem om_count_14 (he ke ki fi fa or : List Nat) (mi a g l w s : Nat) (xm xi xw : List Int32) (im : Nat) (le nu rf : List Nat) (ln nn : Nat) (vp : Int32) (xn xc : List Int32) (vs : Int32) (c : cC) (n m kk : kG) (hA : iA (he, ke, ki, fi, fa, or, mi, a, g, l, w, s)) (hB : iB le ln) (hC : iC nu nn) (hD : iD rf) (hR : iR xm xw xn xc) (k1 : xi.length = 52) : mm_R 211 0 [some (.ref 138), some (.int 4)] [] (mk_M c n m kk (rT (he, ke, ki, fi, fa, or, mi, a, g, l, w, s) xm xi xw im le nu rf ln nn vp xn xc vs)) (some (.int (nI w)), (mk_M c n m kk (rT (he, ke, ki, fi, fa, or, mi, a, g, l, w, s) xm xi xw im le nu rf ln nn vp xn xc vs))) := by
  obtain ⟨hV, hst⟩ := id hA
  have hst2 : s ≤ 999 := hst
  obtain ⟨v1, v2, v3, v4, v5, v6, v7, v8, v9, v10, v11, v12, v13, v14, v15, v16⟩ := id hV
  have v6l := kO_len mi v7 or v6
  obtain ⟨b1, b2, b3⟩ := id hB
  obtain ⟨c1, c2, c3⟩ := id hC
  have d1 : rf.length = 7 := hD
  obtain ⟨r1, r2, r3, r4⟩ := id hR
  refine mr_seg 3 (pc1 := 5) (ls1 := [some (.ref 138), some (.int 4)]) (st1 := [.int 16, .int 11, .int 4]) (M1 := (mk_M c n m kk (rT (he, ke, ki, fi, fa, or, mi, a, g, l, w, s) xm xi xw im le nu rf ln nn vp xn xc vs))) (fun f => rfl) ?_
  refine mr_call (y := 135) (y0 := 8) (L := [some (.int 4), some (.int 11), some (.int 16)]) (rest := []) (rr := some (.int 0)) (M1 := (mk_M c n m kk (rT (he, ke, ki, fi, fa, or, mi, a, g, l, w, s) xm xi xw im le nu rf ln nn vp xn xc vs))) (fun f => rfl) (by
      exact mr_ret 5 (fun f => rfl)) ?_
  refine mr_seg 6 (pc1 := 80) (ls1 := [some (.ref 138), some (.int 4)]) (st1 := [.int 5, .ref 139]) (M1 := (mk_M c n m kk (rT (he, ke, ki, fi, fa, or, mi, a, g, l, w, s) xm xi xw im le nu rf ln nn vp xn xc vs))) (fun f => rfl) ?_
  refine mr_ldn (xs := (er (he, ke, ki, fi, fa, or, mi, a, g, l, w, s))) rfl rfl (k := 5) (by decide) rfl ?_
  exact mr_ret 1 (fun f => rfl)
theorem oe_count_14 (he ke ki fi fa or : List Nat) (mi a g l w s : Nat) (m : kG) (kk : kG) (im : Nat) (le : List Nat) (ln : Nat) (ys : List Int32) (vt : Int32) (nu : List Nat) (nn : Nat) (rf : List Nat) (vw : Int32) (vq : Int32) (yc : List Int32) (yh : List Int32) (yg : List Int32) (xm : List Int32) (xi : List Int32) (xw : List Int32) (vp : Int32) (xn : List Int32) (xc : List Int32) (vs : Int32) (hA : iA (he, ke, ki, fi, fa, or, mi, a, g, l, w, s)) (hB : iB le ln) (hC : iC nu nn) (hD : iD rf) (hJ : iJ m ys yc yh yg) (hR : iR xm xw xn xc) (hK : iK im kk xi) : oI 127 211 [some (.ref 100), some (.int 4)] [some (.ref 138), some (.int 4)] (mk_M (cT im le ln ys vt nu nn rf vw vq yc yh yg) (kr (he, ke, ki, fi, fa, or, mi, a, g, l, w, s)) m kk (rT (he, ke, ki, fi, fa, or, mi, a, g, l, w, s) xm xi xw im le nu rf ln nn vp xn xc vs)) := by
  exact ⟨(nI w), _, _, oc_count_14 he ke ki fi fa or mi a g l w s im le ln ys vt nu nn rf vw vq yc yh yg m kk _ hA hB hC hD hJ hK.1, om_count_14 he ke ki fi fa or mi a g l w s xm xi xw im le nu rf ln nn vp xn xc vs _ _ _ _ hA hB hC hD hR hK.2.1, (he, ke, ki, fi, fa, or, mi, a, g, l, w, s), m, kk, im, le, ln, ys, vt, nu, nn, rf, vw, vq, yc, yh, yg, xm, xi, xw, vp, xn, xc, vs, rfl, hA, hB, hC, hD, hJ, hR, hK⟩
set_option maxRecDepth 100000 in
theorem oc_count_15 (he ke ki fi fa or : List Nat) (mi a g l w s : Nat) (im : Nat) (le : List Nat) (ln : Nat) (ys : List Int32) (vt : Int32) (nu : List Nat) (nn : Nat) (rf : List Nat) (vw vq : Int32) (yc yh yg : List Int32) (m kk : kG) (q : cR) (hA : iA (he, ke, ki, fi, fa, or, mi, a, g, l, w, s)) (hB : iB le ln) (hC : iC nu nn) (hD : iD rf) (hJ : iJ m ys yc yh yg) (k0 : kSh kk) : mm_R 127 0 [some (.ref 100), some (.int 5)] [] (mk_M (cT im le ln ys vt nu nn rf vw vq yc yh yg) (kr (he, ke, ki, fi, fa, or, mi, a, g, l, w, s)) m kk q) (some (.int (nI (ksum (k_fa (he, ke, ki, fi, fa, or, mi, a, g, l, w, s)) (k_mi (he, ke, ki, fi, fa, or, mi, a, g, l, w, s))))), (mk_M (cT im le ln ys vt nu nn rf vw vq yc yh yg) (kr (he, ke, ki, fi, fa, or, mi, a, g, l, w, s)) m kk q)) := by
  obtain ⟨hV, hst⟩ := id hA
  have hst2 : s ≤ 999 := hst
  obtain ⟨v1, v2, v3, v4, v5, v6, v7, v8, v9, v10, v11, v12, v13, v14, v15, v16⟩ := id hV
  have v6l := kO_len mi v7 or v6
  obtain ⟨b1, b2, b3⟩ := id hB
  obtain ⟨c1, c2, c3⟩ := id hC
  have d1 : rf.length = 7 := hD
  obtain ⟨j0, j1, j2, j3, j4⟩ := id hJ
  refine mr_seg 4 (pc1 := 92) (ls1 := [some (.ref 100), some (.int 5)]) (st1 := [.ref 117]) (M1 := (mk_M (cT im le ln ys vt nu nn rf vw vq yc yh yg) (kr (he, ke, ki, fi, fa, or, mi, a, g, l, w, s)) m kk q)) (fun f => rfl) ?_
  refine mr_call (y := 77) (y0 := 95) (L := [some (.ref 117), none, none]) (rest := []) (rr := some (.int (nI (ksum (k_fa (he, ke, ki, fi, fa, or, mi, a, g, l, w, s)) (k_mi (he, ke, ki, fi, fa, or, mi, a, g, l, w, s)))))) (M1 := (mk_M (cT im le ln ys vt nu nn rf vw vq yc yh yg) (kr (he, ke, ki, fi, fa, or, mi, a, g, l, w, s)) m kk q)) (fun f => rfl) (kl_n (cT im le ln ys vt nu nn rf vw vq yc yh yg) m kk q (kc_af_n (he, ke, ki, fi, fa, or, mi, a, g, l, w, s) hV)) ?_
  exact mr_ret 1 (fun f => rfl)
set_option maxRecDepth 100000 in
theorem om_count_15 (he ke ki fi fa or : List Nat) (mi a g l w s : Nat) (xm xi xw : List Int32) (im : Nat) (le nu rf : List Nat) (ln nn : Nat) (vp : Int32) (xn xc : List Int32) (vs : Int32) (c : cC) (n m kk : kG) (hA : iA (he, ke, ki, fi, fa, or, mi, a, g, l, w, s)) (hB : iB le ln) (hC : iC nu nn) (hD : iD rf) (hR : iR xm xw xn xc) (k1 : xi.length = 52) : mm_R 211 0 [some (.ref 138), some (.int 5)] [] (mk_M c n m kk (rT (he, ke, ki, fi, fa, or, mi, a, g, l, w, s) xm xi xw im le nu rf ln nn vp xn xc vs)) (some (.int (nI (ksum (k_fa (he, ke, ki, fi, fa, or, mi, a, g, l, w, s)) (k_mi (he, ke, ki, fi, fa, or, mi, a, g, l, w, s))))), (mk_M c n m kk (rT (he, ke, ki, fi, fa, or, mi, a, g, l, w, s) xm xi xw im le nu rf ln nn vp xn xc vs))) := by
  obtain ⟨hV, hst⟩ := id hA
  have hst2 : s ≤ 999 := hst
  obtain ⟨v1, v2, v3, v4, v5, v6, v7, v8, v9, v10, v11, v12, v13, v14, v15, v16⟩ := id hV
  have v6l := kO_len mi v7 or v6
  obtain ⟨b1, b2, b3⟩ := id hB
  obtain ⟨c1, c2, c3⟩ := id hC
  have d1 : rf.length = 7 := hD
  obtain ⟨r1, r2, r3, r4⟩ := id hR
  refine mr_seg 3 (pc1 := 5) (ls1 := [some (.ref 138), some (.int 5)]) (st1 := [.int 16, .int 11, .int 5]) (M1 := (mk_M c n m kk (rT (he, ke, ki, fi, fa, or, mi, a, g, l, w, s) xm xi xw im le nu rf ln nn vp xn xc vs))) (fun f => rfl) ?_
  refine mr_call (y := 135) (y0 := 8) (L := [some (.int 5), some (.int 11), some (.int 16)]) (rest := []) (rr := some (.int 0)) (M1 := (mk_M c n m kk (rT (he, ke, ki, fi, fa, or, mi, a, g, l, w, s) xm xi xw im le nu rf ln nn vp xn xc vs))) (fun f => rfl) (by
      exact mr_ret 5 (fun f => rfl)) ?_
  refine mr_seg 5 (pc1 := 86) (ls1 := [some (.ref 138), some (.int 5)]) (st1 := [.ref 139]) (M1 := (mk_M c n m kk (rT (he, ke, ki, fi, fa, or, mi, a, g, l, w, s) xm xi xw im le nu rf ln nn vp xn xc vs))) (fun f => rfl) ?_
  refine mr_call (y := 170) (y0 := 89) (L := [some (.ref 139), none, none]) (rest := []) (rr := some (.int (nI (ksum (k_fa (he, ke, ki, fi, fa, or, mi, a, g, l, w, s)) (k_mi (he, ke, ki, fi, fa, or, mi, a, g, l, w, s)))))) (M1 := (mk_M c n m kk (rT (he, ke, ki, fi, fa, or, mi, a, g, l, w, s) xm xi xw im le nu rf ln nn vp xn xc vs))) (fun f => rfl) (rl_s c n m kk (rT (he, ke, ki, fi, fa, or, mi, a, g, l, w, s) xm xi xw im le nu rf ln nn vp xn xc vs) (rc_af_s (he, ke, ki, fi, fa, or, mi, a, g, l, w, s) hV) rfl) ?_
  exact mr_ret 1 (fun f => rfl)
theorem oe_count_15 (he ke ki fi fa or : List Nat) (mi a g l w s : Nat) (m : kG) (kk : kG) (im : Nat) (le : List Nat) (ln : Nat) (ys : List Int32) (vt : Int32) (nu : List Nat) (nn : Nat) (rf : List Nat) (vw : Int32) (vq : Int32) (yc : List Int32) (yh : List Int32) (yg : List Int32) (xm : List Int32) (xi : List Int32) (xw : List Int32) (vp : Int32) (xn : List Int32) (xc : List Int32) (vs : Int32) (hA : iA (he, ke, ki, fi, fa, or, mi, a, g, l, w, s)) (hB : iB le ln) (hC : iC nu nn) (hD : iD rf) (hJ : iJ m ys yc yh yg) (hR : iR xm xw xn xc) (hK : iK im kk xi) : oI 127 211 [some (.ref 100), some (.int 5)] [some (.ref 138), some (.int 5)] (mk_M (cT im le ln ys vt nu nn rf vw vq yc yh yg) (kr (he, ke, ki, fi, fa, or, mi, a, g, l, w, s)) m kk (rT (he, ke, ki, fi, fa, or, mi, a, g, l, w, s) xm xi xw im le nu rf ln nn vp xn xc vs)) := by
  exact ⟨(nI (ksum (k_fa (he, ke, ki, fi, fa, or, mi, a, g, l, w, s)) (k_mi (he, ke, ki, fi, fa, or, mi, a, g, l, w, s)))), _, _, oc_count_15 he ke ki fi fa or mi a g l w s im le ln ys vt nu nn rf vw vq yc yh yg m kk _ hA hB hC hD hJ hK.1, om_count_15 he ke ki fi fa or mi a g l w s xm xi xw im le nu rf ln nn vp xn xc vs _ _ _ _ hA hB hC hD hR hK.2.1, (he, ke, ki, fi, fa, or, mi, a, g, l, w, s), m, kk, im, le, ln, ys, vt, nu, nn, rf, vw, vq, yc, yh, yg, xm, xi, xw, vp, xn, xc, vs, rfl, hA, hB, hC, hD, hJ, hR, hK⟩
set_option maxRecDepth 100000 in
theorem oc_count_16 (he ke ki fi fa or : List Nat) (mi a g l w s : Nat) (im : Nat) (le : List Nat) (ln : Nat) (ys : List Int32) (vt : Int32) (nu : List Nat) (nn : Nat) (rf : List Nat) (vw vq : Int32) (yc yh yg : List Int32) (m kk : kG) (q : cR) (hA : iA (he, ke, ki, fi, fa, or, mi, a, g, l, w, s)) (hB : iB le ln) (hC : iC nu nn) (hD : iD rf) (hJ : iJ m ys yc yh yg) (k0 : kSh kk) : mm_R 127 0 [some (.ref 100), some (.int 6)] [] (mk_M (cT im le ln ys vt nu nn rf vw vq yc yh yg) (kr (he, ke, ki, fi, fa, or, mi, a, g, l, w, s)) m kk q) (some (.int (nI nn)), (mk_M (cT im le ln ys vt nu nn rf vw vq yc yh yg) (kr (he, ke, ki, fi, fa, or, mi, a, g, l, w, s)) m kk q)) := by
  obtain ⟨hV, hst⟩ := id hA
  have hst2 : s ≤ 999 := hst
  obtain ⟨v1, v2, v3, v4, v5, v6, v7, v8, v9, v10, v11, v12, v13, v14, v15, v16⟩ := id hV
  have v6l := kO_len mi v7 or v6
  obtain ⟨b1, b2, b3⟩ := id hB
  obtain ⟨c1, c2, c3⟩ := id hC
  have d1 : rf.length = 7 := hD
  obtain ⟨j0, j1, j2, j3, j4⟩ := id hJ
  exact mr_ret 5 (fun f => rfl)
set_option maxRecDepth 100000 in
theorem om_count_16 (he ke ki fi fa or : List Nat) (mi a g l w s : Nat) (xm xi xw : List Int32) (im : Nat) (le nu rf : List Nat) (ln nn : Nat) (vp : Int32) (xn xc : List Int32) (vs : Int32) (c : cC) (n m kk : kG) (hA : iA (he, ke, ki, fi, fa, or, mi, a, g, l, w, s)) (hB : iB le ln) (hC : iC nu nn) (hD : iD rf) (hR : iR xm xw xn xc) (k1 : xi.length = 52) : mm_R 211 0 [some (.ref 138), some (.int 6)] [] (mk_M c n m kk (rT (he, ke, ki, fi, fa, or, mi, a, g, l, w, s) xm xi xw im le nu rf ln nn vp xn xc vs)) (some (.int (nI nn)), (mk_M c n m kk (rT (he, ke, ki, fi, fa, or, mi, a, g, l, w, s) xm xi xw im le nu rf ln nn vp xn xc vs))) := by
  obtain ⟨hV, hst⟩ := id hA
  have hst2 : s ≤ 999 := hst
  obtain ⟨v1, v2, v3, v4, v5, v6, v7, v8, v9, v10, v11, v12, v13, v14, v15, v16⟩ := id hV
  have v6l := kO_len mi v7 or v6
  obtain ⟨b1, b2, b3⟩ := id hB
  obtain ⟨c1, c2, c3⟩ := id hC
  have d1 : rf.length = 7 := hD
  obtain ⟨r1, r2, r3, r4⟩ := id hR
  refine mr_seg 3 (pc1 := 5) (ls1 := [some (.ref 138), some (.int 6)]) (st1 := [.int 16, .int 11, .int 6]) (M1 := (mk_M c n m kk (rT (he, ke, ki, fi, fa, or, mi, a, g, l, w, s) xm xi xw im le nu rf ln nn vp xn xc vs))) (fun f => rfl) ?_
  refine mr_call (y := 135) (y0 := 8) (L := [some (.int 6), some (.int 11), some (.int 16)]) (rest := []) (rr := some (.int 0)) (M1 := (mk_M c n m kk (rT (he, ke, ki, fi, fa, or, mi, a, g, l, w, s) xm xi xw im le nu rf ln nn vp xn xc vs))) (fun f => rfl) (by
      exact mr_ret 5 (fun f => rfl)) ?_
  exact mr_ret 6 (fun f => rfl)
theorem oe_count_16 (he ke ki fi fa or : List Nat) (mi a g l w s : Nat) (m : kG) (kk : kG) (im : Nat) (le : List Nat) (ln : Nat) (ys : List Int32) (vt : Int32) (nu : List Nat) (nn : Nat) (rf : List Nat) (vw : Int32) (vq : Int32) (yc : List Int32) (yh : List Int32) (yg : List Int32) (xm : List Int32) (xi : List Int32) (xw : List Int32) (vp : Int32) (xn : List Int32) (xc : List Int32) (vs : Int32) (hA : iA (he, ke, ki, fi, fa, or, mi, a, g, l, w, s)) (hB : iB le ln) (hC : iC nu nn) (hD : iD rf) (hJ : iJ m ys yc yh yg) (hR : iR xm xw xn xc) (hK : iK im kk xi) : oI 127 211 [some (.ref 100), some (.int 6)] [some (.ref 138), some (.int 6)] (mk_M (cT im le ln ys vt nu nn rf vw vq yc yh yg) (kr (he, ke, ki, fi, fa, or, mi, a, g, l, w, s)) m kk (rT (he, ke, ki, fi, fa, or, mi, a, g, l, w, s) xm xi xw im le nu rf ln nn vp xn xc vs)) := by
  exact ⟨(nI nn), _, _, oc_count_16 he ke ki fi fa or mi a g l w s im le ln ys vt nu nn rf vw vq yc yh yg m kk _ hA hB hC hD hJ hK.1, om_count_16 he ke ki fi fa or mi a g l w s xm xi xw im le nu rf ln nn vp xn xc vs _ _ _ _ hA hB hC hD hR hK.2.1, (he, ke, ki, fi, fa, or, mi, a, g, l, w, s), m, kk, im, le, ln, ys, vt, nu, nn, rf, vw, vq, yc, yh, yg, xm, xi, xw, vp, xn, xc, vs, rfl, hA, hB, hC, hD, hJ, hR, hK⟩
set_option maxRecDepth 100000 in
theorem oc_count_17 (he ke ki fi fa or : List Nat) (mi a g l w s : Nat) (im : Nat) (le : List Nat) (ln : Nat) (ys : List Int32) (vt : Int32) (nu : List Nat) (nn : Nat) (rf : List Nat) (vw vq : Int32) (yc yh yg : List Int32) (m kk : kG) (q : cR) (hA : iA (he, ke, ki, fi, fa, or, mi, a, g, l, w, s)) (hB : iB le ln) (hC : iC nu nn) (hD : iD rf) (hJ : iJ m ys yc yh yg) (k0 : kSh kk) : mm_R 127 0 [some (.ref 100), some (.int 7)] [] (mk_M (cT im le ln ys vt nu nn rf vw vq yc yh yg) (kr (he, ke, ki, fi, fa, or, mi, a, g, l, w, s)) m kk q) (some (.int (nI ln)), (mk_M (cT im le ln ys vt nu nn rf vw vq yc yh yg) (kr (he, ke, ki, fi, fa, or, mi, a, g, l, w, s)) m kk q)) := by
  obtain ⟨hV, hst⟩ := id hA
  have hst2 : s ≤ 999 := hst
  obtain ⟨v1, v2, v3, v4, v5, v6, v7, v8, v9, v10, v11, v12, v13, v14, v15, v16⟩ := id hV
  have v6l := kO_len mi v7 or v6
  obtain ⟨b1, b2, b3⟩ := id hB
  obtain ⟨c1, c2, c3⟩ := id hC
  have d1 : rf.length = 7 := hD
  obtain ⟨j0, j1, j2, j3, j4⟩ := id hJ
  exact mr_ret 6 (fun f => rfl)
set_option maxRecDepth 100000 in
theorem om_count_17 (he ke ki fi fa or : List Nat) (mi a g l w s : Nat) (xm xi xw : List Int32) (im : Nat) (le nu rf : List Nat) (ln nn : Nat) (vp : Int32) (xn xc : List Int32) (vs : Int32) (c : cC) (n m kk : kG) (hA : iA (he, ke, ki, fi, fa, or, mi, a, g, l, w, s)) (hB : iB le ln) (hC : iC nu nn) (hD : iD rf) (hR : iR xm xw xn xc) (k1 : xi.length = 52) : mm_R 211 0 [some (.ref 138), some (.int 7)] [] (mk_M c n m kk (rT (he, ke, ki, fi, fa, or, mi, a, g, l, w, s) xm xi xw im le nu rf ln nn vp xn xc vs)) (some (.int (nI ln)), (mk_M c n m kk (rT (he, ke, ki, fi, fa, or, mi, a, g, l, w, s) xm xi xw im le nu rf ln nn vp xn xc vs))) := by
  obtain ⟨hV, hst⟩ := id hA
  have hst2 : s ≤ 999 := hst
  obtain ⟨v1, v2, v3, v4, v5, v6, v7, v8, v9, v10, v11, v12, v13, v14, v15, v16⟩ := id hV
  have v6l := kO_len mi v7 or v6
  obtain ⟨b1, b2, b3⟩ := id hB
  obtain ⟨c1, c2, c3⟩ := id hC
  have d1 : rf.length = 7 := hD
  obtain ⟨r1, r2, r3, r4⟩ := id hR
  refine mr_seg 3 (pc1 := 5) (ls1 := [some (.ref 138), some (.int 7)]) (st1 := [.int 16, .int 11, .int 7]) (M1 := (mk_M c n m kk (rT (he, ke, ki, fi, fa, or, mi, a, g, l, w, s) xm xi xw im le nu rf ln nn vp xn xc vs))) (fun f => rfl) ?_
  refine mr_call (y := 135) (y0 := 8) (L := [some (.int 7), some (.int 11), some (.int 16)]) (rest := []) (rr := some (.int 0)) (M1 := (mk_M c n m kk (rT (he, ke, ki, fi, fa, or, mi, a, g, l, w, s) xm xi xw im le nu rf ln nn vp xn xc vs))) (fun f => rfl) (by
      exact mr_ret 5 (fun f => rfl)) ?_
  exact mr_ret 6 (fun f => rfl)
theorem oe_count_17 (he ke ki fi fa or : List Nat) (mi a g l w s : Nat) (m : kG) (kk : kG) (im : Nat) (le : List Nat) (ln : Nat) (ys : List Int32) (vt : Int32) (nu : List Nat) (nn : Nat) (rf : List Nat) (vw : Int32) (vq : Int32) (yc : List Int32) (yh : List Int32) (yg : List Int32) (xm : List Int32) (xi : List Int32) (xw : List Int32) (vp : Int32) (xn : List Int32) (xc : List Int32) (vs : Int32) (hA : iA (he, ke, ki, fi, fa, or, mi, a, g, l, w, s)) (hB : iB le ln) (hC : iC nu nn) (hD : iD rf) (hJ : iJ m ys yc yh yg) (hR : iR xm xw xn xc) (hK : iK im kk xi) : oI 127 211 [some (.ref 100), some (.int 7)] [some (.ref 138), some (.int 7)] (mk_M (cT im le ln ys vt nu nn rf vw vq yc yh yg) (kr (he, ke, ki, fi, fa, or, mi, a, g, l, w, s)) m kk (rT (he, ke, ki, fi, fa, or, mi, a, g, l, w, s) xm xi xw im le nu rf ln nn vp xn xc vs)) := by
  exact ⟨(nI ln), _, _, oc_count_17 he ke ki fi fa or mi a g l w s im le ln ys vt nu nn rf vw vq yc yh yg m kk _ hA hB hC hD hJ hK.1, om_count_17 he ke ki fi fa or mi a g l w s xm xi xw im le nu rf ln nn vp xn xc vs _ _ _ _ hA hB hC hD hR hK.2.1, (he, ke, ki, fi, fa, or, mi, a, g, l, w, s), m, kk, im, le, ln, ys, vt, nu, nn, rf, vw, vq, yc, yh, yg, xm, xi, xw, vp, xn, xc, vs, rfl, hA, hB, hC, hD, hJ, hR, hK⟩
set_option maxRecDepth 100000 in
theorem oc_count_21 (he ke ki fi fa or : List Nat) (mi a g l w s : Nat) (im : Nat) (le : List Nat) (ln : Nat) (ys : List Int32) (vt : Int32) (nu : List Nat) (nn : Nat) (rf : List Nat) (vw vq : Int32) (yc yh yg : List Int32) (m kk : kG) (q : cR) (hA : iA (he, ke, ki, fi, fa, or, mi, a, g, l, w, s)) (hB : iB le ln) (hC : iC nu nn) (hD : iD rf) (hJ : iJ m ys yc yh yg) (k0 : kSh kk) : mm_R 127 0 [some (.ref 100), some (.int 11)] [] (mk_M (cT im le ln ys vt nu nn rf vw vq yc yh yg) (kr (he, ke, ki, fi, fa, or, mi, a, g, l, w, s)) m kk q) (some (.int (nI (kg rf 1))), (mk_M (cT im le ln ys vt nu nn rf vw vq yc yh yg) (kr (he, ke, ki, fi, fa, or, mi, a, g, l, w, s)) m kk q)) := by
  obtain ⟨hV, hst⟩ := id hA
  have hst2 : s ≤ 999 := hst
  obtain ⟨v1, v2, v3, v4, v5, v6, v7, v8, v9, v10, v11, v12, v13, v14, v15, v16⟩ := id hV
  have v6l := kO_len mi v7 or v6
  obtain ⟨b1, b2, b3⟩ := id hB
  obtain ⟨c1, c2, c3⟩ := id hC
  have d1 : rf.length = 7 := hD
  obtain ⟨j0, j1, j2, j3, j4⟩ := id hJ
  refine mr_seg 13 (pc1 := 129) (ls1 := [some (.ref 100), some (.int 11)]) (st1 := [.int (11 - 10), .ref 105]) (M1 := (mk_M (cT im le ln ys vt nu nn rf vw vq yc yh yg) (kr (he, ke, ki, fi, fa, or, mi, a, g, l, w, s)) m kk q)) (fun f => rfl) ?_
  refine mr_v (show (11 : Int32) - 10 = 1 by decide) ?_
  refine mr_ldk (l0 := rf) rfl rfl (k := 1) (by omega) ?_
  exact mr_ret 2 (fun f => rfl)
set_option maxRecDepth 100000 in
theorem om_count_21 (he ke ki fi fa or : List Nat) (mi a g l w s : Nat) (xm xi xw : List Int32) (im : Nat) (le nu rf : List Nat) (ln nn : Nat) (vp : Int32) (xn xc : List Int32) (vs : Int32) (c : cC) (n m kk : kG) (hA : iA (he, ke, ki, fi, fa, or, mi, a, g, l, w, s)) (hB : iB le ln) (hC : iC nu nn) (hD : iD rf) (hR : iR xm xw xn xc) (k1 : xi.length = 52) : mm_R 211 0 [some (.ref 138), some (.int 11)] [] (mk_M c n m kk (rT (he, ke, ki, fi, fa, or, mi, a, g, l, w, s) xm xi xw im le nu rf ln nn vp xn xc vs)) (some (.int (nI (kg rf 1))), (mk_M c n m kk (rT (he, ke, ki, fi, fa, or, mi, a, g, l, w, s) xm xi xw im le nu rf ln nn vp xn xc vs))) := by
  obtain ⟨hV, hst⟩ := id hA
  have hst2 : s ≤ 999 := hst
  obtain ⟨v1, v2, v3, v4, v5, v6, v7, v8, v9, v10, v11, v12, v13, v14, v15, v16⟩ := id hV
  have v6l := kO_len mi v7 or v6
  obtain ⟨b1, b2, b3⟩ := id hB
  obtain ⟨c1, c2, c3⟩ := id hC
  have d1 : rf.length = 7 := hD
  obtain ⟨r1, r2, r3, r4⟩ := id hR
  refine mr_seg 3 (pc1 := 5) (ls1 := [some (.ref 138), some (.int 11)]) (st1 := [.int 16, .int 11, .int 11]) (M1 := (mk_M c n m kk (rT (he, ke, ki, fi, fa, or, mi, a, g, l, w, s) xm xi xw im le nu rf ln nn vp xn xc vs))) (fun f => rfl) ?_
  refine mr_call (y := 135) (y0 := 8) (L := [some (.int 11), some (.int 11), some (.int 16)]) (rest := []) (rr := some (.int 1)) (M1 := (mk_M c n m kk (rT (he, ke, ki, fi, fa, or, mi, a, g, l, w, s) xm xi xw im le nu rf ln nn vp xn xc vs))) (fun f => rfl) (by
      exact mr_ret 9 (fun f => rfl)) ?_
  refine mr_seg 6 (pc1 := 19) (ls1 := [some (.ref 138), some (.int 11)]) (st1 := [.int (11 - 10), .ref 145]) (M1 := (mk_M c n m kk (rT (he, ke, ki, fi, fa, or, mi, a, g, l, w, s) xm xi xw im le nu rf ln nn vp xn xc vs))) (fun f => rfl) ?_
  refine mr_v (show (11 : Int32) - 10 = 1 by decide) ?_
  refine mr_ldk (l0 := rf) rfl rfl (k := 1) (by omega) ?_
  exact mr_ret 1 (fun f => rfl)
theorem oe_count_21 (he ke ki fi fa or : List Nat) (mi a g l w s : Nat) (m : kG) (kk : kG) (im : Nat) (le : List Nat) (ln : Nat) (ys : List Int32) (vt : Int32) (nu : List Nat) (nn : Nat) (rf : List Nat) (vw : Int32) (vq : Int32) (yc : List Int32) (yh : List Int32) (yg : List Int32) (xm : List Int32) (xi : List Int32) (xw : List Int32) (vp : Int32) (xn : List Int32) (xc : List Int32) (vs : Int32) (hA : iA (he, ke, ki, fi, fa, or, mi, a, g, l, w, s)) (hB : iB le ln) (hC : iC nu nn) (hD : iD rf) (hJ : iJ m ys yc yh yg) (hR : iR xm xw xn xc) (hK : iK im kk xi) : oI 127 211 [some (.ref 100), some (.int 11)] [some (.ref 138), some (.int 11)] (mk_M (cT im le ln ys vt nu nn rf vw vq yc yh yg) (kr (he, ke, ki, fi, fa, or, mi, a, g, l, w, s)) m kk (rT (he, ke, ki, fi, fa, or, mi, a, g, l, w, s) xm xi xw im le nu rf ln nn vp xn xc vs)) := by
  exact ⟨(nI (kg rf 1)), _, _, oc_count_21 he ke ki fi fa or mi a g l w s im le ln ys vt nu nn rf vw vq yc yh yg m kk _ hA hB hC hD hJ hK.1, om_count_21 he ke ki fi fa or mi a g l w s xm xi xw im le nu rf ln nn vp xn xc vs _ _ _ _ hA hB hC hD hR hK.2.1, (he, ke, ki, fi, fa, or, mi, a, g, l, w, s), m, kk, im, le, ln, ys, vt, nu, nn, rf, vw, vq, yc, yh, yg, xm, xi, xw, vp, xn, xc, vs, rfl, hA, hB, hC, hD, hJ, hR, hK⟩
set_option maxRecDepth 100000 in
theorem oc_count_22 (he ke ki fi fa or : List Nat) (mi a g l w s : Nat) (im : Nat) (le : List Nat) (ln : Nat) (ys : List Int32) (vt : Int32) (nu : List Nat) (nn : Nat) (rf : List Nat) (vw vq : Int32) (yc yh yg : List Int32) (m kk : kG) (q : cR) (hA : iA (he, ke, ki, fi, fa, or, mi, a, g, l, w, s)) (hB : iB le ln) (hC : iC nu nn) (hD : iD rf) (hJ : iJ m ys yc yh yg) (k0 : kSh kk) : mm_R 127 0 [some (.ref 100), some (.int 12)] [] (mk_M (cT im le ln ys vt nu nn rf vw vq yc yh yg) (kr (he, ke, ki, fi, fa, or, mi, a, g, l, w, s)) m kk q) (some (.int (nI (kg rf 2))), (mk_M (cT im le ln ys vt nu nn rf vw vq yc yh yg) (kr (he, ke, ki, fi, fa, or, mi, a, g, l, w, s)) m kk q)) := by
  obtain ⟨hV, hst⟩ := id hA
  have hst2 : s ≤ 999 := hst
  obtain ⟨v1, v2, v3, v4, v5, v6, v7, v8, v9, v10, v11, v12, v13, v14, v15, v16⟩ := id hV
  have v6l := kO_len mi v7 or v6
  obtain ⟨b1, b2, b3⟩ := id hB
  obtain ⟨c1, c2, c3⟩ := id hC
  have d1 : rf.length = 7 := hD
  obtain ⟨j0, j1, j2, j3, j4⟩ := id hJ
  refine mr_seg 13 (pc1 := 129) (ls1 := [some (.ref 100), some (.int 12)]) (st1 := [.int (12 - 10), .ref 105]) (M1 := (mk_M (cT im le ln ys vt nu nn rf vw vq yc yh yg) (kr (he, ke, ki, fi, fa, or, mi, a, g, l, w, s)) m kk q)) (fun f => rfl) ?_
  refine mr_v (show (12 : Int32) - 10 = 2 by decide) ?_
  refine mr_ldk (l0 := rf) rfl rfl (k := 2) (by omega) ?_
  exact mr_ret 2 (fun f => rfl)
set_option maxRecDepth 100000 in
theorem om_count_22 (he ke ki fi fa or : List Nat) (mi a g l w s : Nat) (xm xi xw : List Int32) (im : Nat) (le nu rf : List Nat) (ln nn : Nat) (vp : Int32) (xn xc : List Int32) (vs : Int32) (c : cC) (n m kk : kG) (hA : iA (he, ke, ki, fi, fa, or, mi, a, g, l, w, s)) (hB : iB le ln) (hC : iC nu nn) (hD : iD rf) (hR : iR xm xw xn xc) (k1 : xi.length = 52) : mm_R 211 0 [some (.ref 138), some (.int 12)] [] (mk_M c n m kk (rT (he, ke, ki, fi, fa, or, mi, a, g, l, w, s) xm xi xw im le nu rf ln nn vp xn xc vs)) (some (.int (nI (kg rf 2))), (mk_M c n m kk (rT (he, ke, ki, fi, fa, or, mi, a, g, l, w, s) xm xi xw im le nu rf ln nn vp xn xc vs))) := by
  obtain ⟨hV, hst⟩ := id hA
  have hst2 : s ≤ 999 := hst
  obtain ⟨v1, v2, v3, v4, v5, v6, v7, v8, v9, v10, v11, v12, v13, v14, v15, v16⟩ := id hV
  have v6l := kO_len mi v7 or v6
  obtain ⟨b1, b2, b3⟩ := id hB
  obtain ⟨c1, c2, c3⟩ := id hC
  have d1 : rf.length = 7 := hD
  obtain ⟨r1, r2, r3, r4⟩ := id hR
  refine mr_seg 3 (pc1 := 5) (ls1 := [some (.ref 138), some (.int 12)]) (st1 := [.int 16, .int 11, .int 12]) (M1 := (mk_M c n m kk (rT (he, ke, ki, fi, fa, or, mi, a, g, l, w, s) xm xi xw im le nu rf ln nn vp xn xc vs))) (fun f => rfl) ?_
  refine mr_call (y := 135) (y0 := 8) (L := [some (.int 12), some (.int 11), some (.int 16)]) (rest := []) (rr := some (.int 1)) (M1 := (mk_M c n m kk (rT (he, ke, ki, fi, fa, or, mi, a, g, l, w, s) xm xi xw im le nu rf ln nn vp xn xc vs))) (fun f => rfl) (by
      exact mr_ret 9 (fun f => rfl)) ?_
  refine mr_seg 6 (pc1 := 19) (ls1 := [some (.ref 138), some (.int 12)]) (st1 := [.int (12 - 10), .ref 145]) (M1 := (mk_M c n m kk (rT (he, ke, ki, fi, fa, or, mi, a, g, l, w, s) xm xi xw im le nu rf ln nn vp xn xc vs))) (fun f => rfl) ?_
  refine mr_v (show (12 : Int32) - 10 = 2 by decide) ?_
  refine mr_ldk (l0 := rf) rfl rfl (k := 2) (by omega) ?_
  exact mr_ret 1 (fun f => rfl)
theorem oe_count_22 (he ke ki fi fa or : List Nat) (mi a g l w s : Nat) (m : kG) (kk : kG) (im : Nat) (le : List Nat) (ln : Nat) (ys : List Int32) (vt : Int32) (nu : List Nat) (nn : Nat) (rf : List Nat) (vw : Int32) (vq : Int32) (yc : List Int32) (yh : List Int32) (yg : List Int32) (xm : List Int32) (xi : List Int32) (xw : List Int32) (vp : Int32) (xn : List Int32) (xc : List Int32) (vs : Int32) (hA : iA (he, ke, ki, fi, fa, or, mi, a, g, l, w, s)) (hB : iB le ln) (hC : iC nu nn) (hD : iD rf) (hJ : iJ m ys yc yh yg) (hR : iR xm xw xn xc) (hK : iK im kk xi) : oI 127 211 [some (.ref 100), some (.int 12)] [some (.ref 138), some (.int 12)] (mk_M (cT im le ln ys vt nu nn rf vw vq yc yh yg) (kr (he, ke, ki, fi, fa, or, mi, a, g, l, w, s)) m kk (rT (he, ke, ki, fi, fa, or, mi, a, g, l, w, s) xm xi xw im le nu rf ln nn vp xn xc vs)) := by
  exact ⟨(nI (kg rf 2)), _, _, oc_count_22 he ke ki fi fa or mi a g l w s im le ln ys vt nu nn rf vw vq yc yh yg m kk _ hA hB hC hD hJ hK.1, om_count_22 he ke ki fi fa or mi a g l w s xm xi xw im le nu rf ln nn vp xn xc vs _ _ _ _ hA hB hC hD hR hK.2.1, (he, ke, ki, fi, fa, or, mi, a, g, l, w, s), m, kk, im, le, ln, ys, vt, nu, nn, rf, vw, vq, yc, yh, yg, xm, xi, xw, vp, xn, xc, vs, rfl, hA, hB, hC, hD, hJ, hR, hK⟩
set_option maxRecDepth 100000 in
theorem oc_count_23 (he ke ki fi fa or : List Nat) (mi a g l w s : Nat) (im : Nat) (le : List Nat) (ln : Nat) (ys : List Int32) (vt : Int32) (nu : List Nat) (nn : Nat) (rf : List Nat) (vw vq : Int32) (yc yh yg : List Int32) (m kk : kG) (q : cR) (hA : iA (he, ke, ki, fi, fa, or, mi, a, g, l, w, s)) (hB : iB le ln) (hC : iC nu nn) (hD : iD rf) (hJ : iJ m ys yc yh yg) (k0 : kSh kk) : mm_R 127 0 [some (.ref 100), some (.int 13)] [] (mk_M (cT im le ln ys vt nu nn rf vw vq yc yh yg) (kr (he, ke, ki, fi, fa, or, mi, a, g, l, w, s)) m kk q) (some (.int (nI (kg rf 3))), (mk_M (cT im le ln ys vt nu nn rf vw vq yc yh yg) (kr (he, ke, ki, fi, fa, or, mi, a, g, l, w, s)) m kk q)) := by
  obtain ⟨hV, hst⟩ := id hA
  have hst2 : s ≤ 999 := hst
  obtain ⟨v1, v2, v3, v4, v5, v6, v7, v8, v9, v10, v11, v12, v13, v14, v15, v16⟩ := id hV
  have v6l := kO_len mi v7 or v6
  obtain ⟨b1, b2, b3⟩ := id hB
  obtain ⟨c1, c2, c3⟩ := id hC
  have d1 : rf.length = 7 := hD
  obtain ⟨j0, j1, j2, j3, j4⟩ := id hJ
  refine mr_seg 13 (pc1 := 129) (ls1 := [some (.ref 100), some (.int 13)]) (st1 := [.int (13 - 10), .ref 105]) (M1 := (mk_M (cT im le ln ys vt nu nn rf vw vq yc yh yg) (kr (he, ke, ki, fi, fa, or, mi, a, g, l, w, s)) m kk q)) (fun f => rfl) ?_
  refine mr_v (show (13 : Int32) - 10 = 3 by decide) ?_
  refine mr_ldk (l0 := rf) rfl rfl (k := 3) (by omega) ?_
  exact mr_ret 2 (fun f => rfl)
set_option maxRecDepth 100000 in
theorem om_count_23 (he ke ki fi fa or : List Nat) (mi a g l w s : Nat) (xm xi xw : List Int32) (im : Nat) (le nu rf : List Nat) (ln nn : Nat) (vp : Int32) (xn xc : List Int32) (vs : Int32) (c : cC) (n m kk : kG) (hA : iA (he, ke, ki, fi, fa, or, mi, a, g, l, w, s)) (hB : iB le ln) (hC : iC nu nn) (hD : iD rf) (hR : iR xm xw xn xc) (k1 : xi.length = 52) : mm_R 211 0 [some (.ref 138), some (.int 13)] [] (mk_M c n m kk (rT (he, ke, ki, fi, fa, or, mi, a, g, l, w, s) xm xi xw im le nu rf ln nn vp xn xc vs)) (some (.int (nI (kg rf 3))), (mk_M c n m kk (rT (he, ke, ki, fi, fa, or, mi, a, g, l, w, s) xm xi xw im le nu rf ln nn vp xn xc vs))) := by
  obtain ⟨hV, hst⟩ := id hA
  have hst2 : s ≤ 999 := hst
  obtain ⟨v1, v2, v3, v4, v5, v6, v7, v8, v9, v10, v11, v12, v13, v14, v15, v16⟩ := id hV
  have v6l := kO_len mi v7 or v6
  obtain ⟨b1, b2, b3⟩ := id hB
  obtain ⟨c1, c2, c3⟩ := id hC
  have d1 : rf.length = 7 := hD
  obtain ⟨r1, r2, r3, r4⟩ := id hR
  refine mr_seg 3 (pc1 := 5) (ls1 := [some (.ref 138), some (.int 13)]) (st1 := [.int 16, .int 11, .int 13]) (M1 := (mk_M c n m kk (rT (he, ke, ki, fi, fa, or, mi, a, g, l, w, s) xm xi xw im le nu rf ln nn vp xn xc vs))) (fun f => rfl) ?_
  refine mr_call (y := 135) (y0 := 8) (L := [some (.int 13), some (.int 11), some (.int 16)]) (rest := []) (rr := some (.int 1)) (M1 := (mk_M c n m kk (rT (he, ke, ki, fi, fa, or, mi, a, g, l, w, s) xm xi xw im le nu rf ln nn vp xn xc vs))) (fun f => rfl) (by
      exact mr_ret 9 (fun f => rfl)) ?_
  refine mr_seg 6 (pc1 := 19) (ls1 := [some (.ref 138), some (.int 13)]) (st1 := [.int (13 - 10), .ref 145]) (M1 := (mk_M c n m kk (rT (he, ke, ki, fi, fa, or, mi, a, g, l, w, s) xm xi xw im le nu rf ln nn vp xn xc vs))) (fun f => rfl) ?_
  refine mr_v (show (13 : Int32) - 10 = 3 by decide) ?_
  refine mr_ldk (l0 := rf) rfl rfl (k := 3) (by omega) ?_
  exact mr_ret 1 (fun f => rfl)
theorem oe_count_23 (he ke ki fi fa or : List Nat) (mi a g l w s : Nat) (m : kG) (kk : kG) (im : Nat) (le : List Nat) (ln : Nat) (ys : List Int32) (vt : Int32) (nu : List Nat) (nn : Nat) (rf : List Nat) (vw : Int32) (vq : Int32) (yc : List Int32) (yh : List Int32) (yg : List Int32) (xm : List Int32) (xi : List Int32) (xw : List Int32) (vp : Int32) (xn : List Int32) (xc : List Int32) (vs : Int32) (hA : iA (he, ke, ki, fi, fa, or, mi, a, g, l, w, s)) (hB : iB le ln) (hC : iC nu nn) (hD : iD rf) (hJ : iJ m ys yc yh yg) (hR : iR xm xw xn xc) (hK : iK im kk xi) : oI 127 211 [some (.ref 100), some (.int 13)] [some (.ref 138), some (.int 13)] (mk_M (cT im le ln ys vt nu nn rf vw vq yc yh yg) (kr (he, ke, ki, fi, fa, or, mi, a, g, l, w, s)) m kk (rT (he, ke, ki, fi, fa, or, mi, a, g, l, w, s) xm xi xw im le nu rf ln nn vp xn xc vs)) := by
  exact ⟨(nI (kg rf 3)), _, _, oc_count_23 he ke ki fi fa or mi a g l w s im le ln ys vt nu nn rf vw vq yc yh yg m kk _ hA hB hC hD hJ hK.1, om_count_23 he ke ki fi fa or mi a g l w s xm xi xw im le nu rf ln nn vp xn xc vs _ _ _ _ hA hB hC hD hR hK.2.1, (he, ke, ki, fi, fa, or, mi, a, g, l, w, s), m, kk, im, le, ln, ys, vt, nu, nn, rf, vw, vq, yc, yh, yg, xm, xi, xw, vp, xn, xc, vs, rfl, hA, hB, hC, hD, hJ, hR, hK⟩
set_option maxRecDepth 100000 in
theorem oc_count_24 (he ke ki fi fa or : List Nat) (mi a g l w s : Nat) (im : Nat) (le : List Nat) (ln : Nat) (ys : List Int32) (vt : Int32) (nu : List Nat) (nn : Nat) (rf : List Nat) (vw vq : Int32) (yc yh yg : List Int32) (m kk : kG) (q : cR) (hA : iA (he, ke, ki, fi, fa, or, mi, a, g, l, w, s)) (hB : iB le ln) (hC : iC nu nn) (hD : iD rf) (hJ : iJ m ys yc yh yg) (k0 : kSh kk) : mm_R 127 0 [some (.ref 100), some (.int 14)] [] (mk_M (cT im le ln ys vt nu nn rf vw vq yc yh yg) (kr (he, ke, ki, fi, fa, or, mi, a, g, l, w, s)) m kk q) (some (.int (nI (kg rf 4))), (mk_M (cT im le ln ys vt nu nn rf vw vq yc yh yg) (kr (he, ke, ki, fi, fa, or, mi, a, g, l, w, s)) m kk q)) := by
  obtain ⟨hV, hst⟩ := id hA
  have hst2 : s ≤ 999 := hst
  obtain ⟨v1, v2, v3, v4, v5, v6, v7, v8, v9, v10, v11, v12, v13, v14, v15, v16⟩ := id hV
  have v6l := kO_len mi v7 or v6
  obtain ⟨b1, b2, b3⟩ := id hB
  obtain ⟨c1, c2, c3⟩ := id hC
  have d1 : rf.length = 7 := hD
  obtain ⟨j0, j1, j2, j3, j4⟩ := id hJ
  refine mr_seg 13 (pc1 := 129) (ls1 := [some (.ref 100), some (.int 14)]) (st1 := [.int (14 - 10), .ref 105]) (M1 := (mk_M (cT im le ln ys vt nu nn rf vw vq yc yh yg) (kr (he, ke, ki, fi, fa, or, mi, a, g, l, w, s)) m kk q)) (fun f => rfl) ?_
  refine mr_v (show (14 : Int32) - 10 = 4 by decide) ?_
  refine mr_ldk (l0 := rf) rfl rfl (k := 4) (by omega) ?_
  exact mr_ret 2 (fun f => rfl)
set_option maxRecDepth 100000 in
theorem om_count_24 (he ke ki fi fa or : List Nat) (mi a g l w s : Nat) (xm xi xw : List Int32) (im : Nat) (le nu rf : List Nat) (ln nn : Nat) (vp : Int32) (xn xc : List Int32) (vs : Int32) (c : cC) (n m kk : kG) (hA : iA (he, ke, ki, fi, fa, or, mi, a, g, l, w, s)) (hB : iB le ln) (hC : iC nu nn) (hD : iD rf) (hR : iR xm xw xn xc) (k1 : xi.length = 52) : mm_R 211 0 [some (.ref 138), some (.int 14)] [] (mk_M c n m kk (rT (he, ke, ki, fi, fa, or, mi, a, g, l, w, s) xm xi xw im le nu rf ln nn vp xn xc vs)) (some (.int (nI (kg rf 4))), (mk_M c n m kk (rT (he, ke, ki, fi, fa, or, mi, a, g, l, w, s) xm xi xw im le nu rf ln nn vp xn xc vs))) := by
  obtain ⟨hV, hst⟩ := id hA
  have hst2 : s ≤ 999 := hst
  obtain ⟨v1, v2, v3, v4, v5, v6, v7, v8, v9, v10, v11, v12, v13, v14, v15, v16⟩ := id hV
  have v6l := kO_len mi v7 or v6
  obtain ⟨b1, b2, b3⟩ := id hB
  obtain ⟨c1, c2, c3⟩ := id hC
  have d1 : rf.length = 7 := hD
  obtain ⟨r1, r2, r3, r4⟩ := id hR
  refine mr_seg 3 (pc1 := 5) (ls1 := [some (.ref 138), some (.int 14)]) (st1 := [.int 16, .int 11, .int 14]) (M1 := (mk_M c n m kk (rT (he, ke, ki, fi, fa, or, mi, a, g, l, w, s) xm xi xw im le nu rf ln nn vp xn xc vs))) (fun f => rfl) ?_
  refine mr_call (y := 135) (y0 := 8) (L := [some (.int 14), some (.int 11), some (.int 16)]) (rest := []) (rr := some (.int 1)) (M1 := (mk_M c n m kk (rT (he, ke, ki, fi, fa, or, mi, a, g, l, w, s) xm xi xw im le nu rf ln nn vp xn xc vs))) (fun f => rfl) (by
      exact mr_ret 9 (fun f => rfl)) ?_
  refine mr_seg 6 (pc1 := 19) (ls1 := [some (.ref 138), some (.int 14)]) (st1 := [.int (14 - 10), .ref 145]) (M1 := (mk_M c n m kk (rT (he, ke, ki, fi, fa, or, mi, a, g, l, w, s) xm xi xw im le nu rf ln nn vp xn xc vs))) (fun f => rfl) ?_
  refine mr_v (show (14 : Int32) - 10 = 4 by decide) ?_
  refine mr_ldk (l0 := rf) rfl rfl (k := 4) (by omega) ?_
  exact mr_ret 1 (fun f => rfl)
theorem oe_count_24 (he ke ki fi fa or : List Nat) (mi a g l w s : Nat) (m : kG) (kk : kG) (im : Nat) (le : List Nat) (ln : Nat) (ys : List Int32) (vt : Int32) (nu : List Nat) (nn : Nat) (rf : List Nat) (vw : Int32) (vq : Int32) (yc : List Int32) (yh : List Int32) (yg : List Int32) (xm : List Int32) (xi : List Int32) (xw : List Int32) (vp : Int32) (xn : List Int32) (xc : List Int32) (vs : Int32) (hA : iA (he, ke, ki, fi, fa, or, mi, a, g, l, w, s)) (hB : iB le ln) (hC : iC nu nn) (hD : iD rf) (hJ : iJ m ys yc yh yg) (hR : iR xm xw xn xc) (hK : iK im kk xi) : oI 127 211 [some (.ref 100), some (.int 14)] [some (.ref 138), some (.int 14)] (mk_M (cT im le ln ys vt nu nn rf vw vq yc yh yg) (kr (he, ke, ki, fi, fa, or, mi, a, g, l, w, s)) m kk (rT (he, ke, ki, fi, fa, or, mi, a, g, l, w, s) xm xi xw im le nu rf ln nn vp xn xc vs)) := by
  exact ⟨(nI (kg rf 4)), _, _, oc_count_24 he ke ki fi fa or mi a g l w s im le ln ys vt nu nn rf vw vq yc yh yg m kk _ hA hB hC hD hJ hK.1, om_count_24 he ke ki fi fa or mi a g l w s xm xi xw im le nu rf ln nn vp xn xc vs _ _ _ _ hA hB hC hD hR hK.2.1, (he, ke, ki, fi, fa, or, mi, a, g, l, w, s), m, kk, im, le, ln, ys, vt, nu, nn, rf, vw, vq, yc, yh, yg, xm, xi, xw, vp, xn, xc, vs, rfl, hA, hB, hC, hD, hJ, hR, hK⟩
set_option maxRecDepth 100000 in
theorem oc_count_25 (he ke ki fi fa or : List Nat) (mi a g l w s : Nat) (im : Nat) (le : List Nat) (ln : Nat) (ys : List Int32) (vt : Int32) (nu : List Nat) (nn : Nat) (rf : List Nat) (vw vq : Int32) (yc yh yg : List Int32) (m kk : kG) (q : cR) (hA : iA (he, ke, ki, fi, fa, or, mi, a, g, l, w, s)) (hB : iB le ln) (hC : iC nu nn) (hD : iD rf) (hJ : iJ m ys yc yh yg) (k0 : kSh kk) : mm_R 127 0 [some (.ref 100), some (.int 15)] [] (mk_M (cT im le ln ys vt nu nn rf vw vq yc yh yg) (kr (he, ke, ki, fi, fa, or, mi, a, g, l, w, s)) m kk q) (some (.int (nI (kg rf 5))), (mk_M (cT im le ln ys vt nu nn rf vw vq yc yh yg) (kr (he, ke, ki, fi, fa, or, mi, a, g, l, w, s)) m kk q)) := by
  obtain ⟨hV, hst⟩ := id hA
  have hst2 : s ≤ 999 := hst
  obtain ⟨v1, v2, v3, v4, v5, v6, v7, v8, v9, v10, v11, v12, v13, v14, v15, v16⟩ := id hV
  have v6l := kO_len mi v7 or v6
  obtain ⟨b1, b2, b3⟩ := id hB
  obtain ⟨c1, c2, c3⟩ := id hC
  have d1 : rf.length = 7 := hD
  obtain ⟨j0, j1, j2, j3, j4⟩ := id hJ
  refine mr_seg 13 (pc1 := 129) (ls1 := [some (.ref 100), some (.int 15)]) (st1 := [.int (15 - 10), .ref 105]) (M1 := (mk_M (cT im le ln ys vt nu nn rf vw vq yc yh yg) (kr (he, ke, ki, fi, fa, or, mi, a, g, l, w, s)) m kk q)) (fun f => rfl) ?_
  refine mr_v (show (15 : Int32) - 10 = 5 by decide) ?_
  refine mr_ldk (l0 := rf) rfl rfl (k := 5) (by omega) ?_
  exact mr_ret 2 (fun f => rfl)
set_option maxRecDepth 100000 in
theorem om_count_25 (he ke ki fi fa or : List Nat) (mi a g l w s : Nat) (xm xi xw : List Int32) (im : Nat) (le nu rf : List Nat) (ln nn : Nat) (vp : Int32) (xn xc : List Int32) (vs : Int32) (c : cC) (n m kk : kG) (hA : iA (he, ke, ki, fi, fa, or, mi, a, g, l, w, s)) (hB : iB le ln) (hC : iC nu nn) (hD : iD rf) (hR : iR xm xw xn xc) (k1 : xi.length = 52) : mm_R 211 0 [some (.ref 138), some (.int 15)] [] (mk_M c n m kk (rT (he, ke, ki, fi, fa, or, mi, a, g, l, w, s) xm xi xw im le nu rf ln nn vp xn xc vs)) (some (.int (nI (kg rf 5))), (mk_M c n m kk (rT (he, ke, ki, fi, fa, or, mi, a, g, l, w, s) xm xi xw im le nu rf ln nn vp xn xc vs))) := by
  obtain ⟨hV, hst⟩ := id hA
  have hst2 : s ≤ 999 := hst
  obtain ⟨v1, v2, v3, v4, v5, v6, v7, v8, v9, v10, v11, v12, v13, v14, v15, v16⟩ := id hV
  have v6l := kO_len mi v7 or v6
  obtain ⟨b1, b2, b3⟩ := id hB
  obtain ⟨c1, c2, c3⟩ := id hC
  have d1 : rf.length = 7 := hD
  obtain ⟨r1, r2, r3, r4⟩ := id hR
  refine mr_seg 3 (pc1 := 5) (ls1 := [some (.ref 138), some (.int 15)]) (st1 := [.int 16, .int 11, .int 15]) (M1 := (mk_M c n m kk (rT (he, ke, ki, fi, fa, or, mi, a, g, l, w, s) xm xi xw im le nu rf ln nn vp xn xc vs))) (fun f => rfl) ?_
  refine mr_call (y := 135) (y0 := 8) (L := [some (.int 15), some (.int 11), some (.int 16)]) (rest := []) (rr := some (.int 1)) (M1 := (mk_M c n m kk (rT (he, ke, ki, fi, fa, or, mi, a, g, l, w, s) xm xi xw im le nu rf ln nn vp xn xc vs))) (fun f => rfl) (by
      exact mr_ret 9 (fun f => rfl)) ?_
  refine mr_seg 6 (pc1 := 19) (ls1 := [some (.ref 138), some (.int 15)]) (st1 := [.int (15 - 10), .ref 145]) (M1 := (mk_M c n m kk (rT (he, ke, ki, fi, fa, or, mi, a, g, l, w, s) xm xi xw im le nu rf ln nn vp xn xc vs))) (fun f => rfl) ?_
  refine mr_v (show (15 : Int32) - 10 = 5 by decide) ?_
  refine mr_ldk (l0 := rf) rfl rfl (k := 5) (by omega) ?_
  exact mr_ret 1 (fun f => rfl)
theorem oe_count_25 (he ke ki fi fa or : List Nat) (mi a g l w s : Nat) (m : kG) (kk : kG) (im : Nat) (le : List Nat) (ln : Nat) (ys : List Int32) (vt : Int32) (nu : List Nat) (nn : Nat) (rf : List Nat) (vw : Int32) (vq : Int32) (yc : List Int32) (yh : List Int32) (yg : List Int32) (xm : List Int32) (xi : List Int32) (xw : List Int32) (vp : Int32) (xn : List Int32) (xc : List Int32) (vs : Int32) (hA : iA (he, ke, ki, fi, fa, or, mi, a, g, l, w, s)) (hB : iB le ln) (hC : iC nu nn) (hD : iD rf) (hJ : iJ m ys yc yh yg) (hR : iR xm xw xn xc) (hK : iK im kk xi) : oI 127 211 [some (.ref 100), some (.int 15)] [some (.ref 138), some (.int 15)] (mk_M (cT im le ln ys vt nu nn rf vw vq yc yh yg) (kr (he, ke, ki, fi, fa, or, mi, a, g, l, w, s)) m kk (rT (he, ke, ki, fi, fa, or, mi, a, g, l, w, s) xm xi xw im le nu rf ln nn vp xn xc vs)) := by
  exact ⟨(nI (kg rf 5)), _, _, oc_count_25 he ke ki fi fa or mi a g l w s im le ln ys vt nu nn rf vw vq yc yh yg m kk _ hA hB hC hD hJ hK.1, om_count_25 he ke ki fi fa or mi a g l w s xm xi xw im le nu rf ln nn vp xn xc vs _ _ _ _ hA hB hC hD hR hK.2.1, (he, ke, ki, fi, fa, or, mi, a, g, l, w, s), m, kk, im, le, ln, ys, vt, nu, nn, rf, vw, vq, yc, yh, yg, xm, xi, xw, vp, xn, xc, vs, rfl, hA, hB, hC, hD, hJ, hR, hK⟩
set_option maxRecDepth 100000 in
theorem oc_count_26 (he ke ki fi fa or : List Nat) (mi a g l w s : Nat) (im : Nat) (le : List Nat) (ln : Nat) (ys : List Int32) (vt : Int32) (nu : List Nat) (nn : Nat) (rf : List Nat) (vw vq : Int32) (yc yh yg : List Int32) (m kk : kG) (q : cR) (hA : iA (he, ke, ki, fi, fa, or, mi, a, g, l, w, s)) (hB : iB le ln) (hC : iC nu nn) (hD : iD rf) (hJ : iJ m ys yc yh yg) (k0 : kSh kk) : mm_R 127 0 [some (.ref 100), some (.int 16)] [] (mk_M (cT im le ln ys vt nu nn rf vw vq yc yh yg) (kr (he, ke, ki, fi, fa, or, mi, a, g, l, w, s)) m kk q) (some (.int (nI (kg rf 6))), (mk_M (cT im le ln ys vt nu nn rf vw vq yc yh yg) (kr (he, ke, ki, fi, fa, or, mi, a, g, l, w, s)) m kk q)) := by
  obtain ⟨hV, hst⟩ := id hA
  have hst2 : s ≤ 999 := hst
  obtain ⟨v1, v2, v3, v4, v5, v6, v7, v8, v9, v10, v11, v12, v13, v14, v15, v16⟩ := id hV
  have v6l := kO_len mi v7 or v6
  obtain ⟨b1, b2, b3⟩ := id hB
  obtain ⟨c1, c2, c3⟩ := id hC
  have d1 : rf.length = 7 := hD
  obtain ⟨j0, j1, j2, j3, j4⟩ := id hJ
  refine mr_seg 13 (pc1 := 129) (ls1 := [some (.ref 100), some (.int 16)]) (st1 := [.int (16 - 10), .ref 105]) (M1 := (mk_M (cT im le ln ys vt nu nn rf vw vq yc yh yg) (kr (he, ke, ki, fi, fa, or, mi, a, g, l, w, s)) m kk q)) (fun f => rfl) ?_
  refine mr_v (show (16 : Int32) - 10 = 6 by decide) ?_
  refine mr_ldk (l0 := rf) rfl rfl (k := 6) (by omega) ?_
  exact mr_ret 2 (fun f => rfl)
set_option maxRecDepth 100000 in
theorem om_count_26 (he ke ki fi fa or : List Nat) (mi a g l w s : Nat) (xm xi xw : List Int32) (im : Nat) (le nu rf : List Nat) (ln nn : Nat) (vp : Int32) (xn xc : List Int32) (vs : Int32) (c : cC) (n m kk : kG) (hA : iA (he, ke, ki, fi, fa, or, mi, a, g, l, w, s)) (hB : iB le ln) (hC : iC nu nn) (hD : iD rf) (hR : iR xm xw xn xc) (k1 : xi.length = 52) : mm_R 211 0 [some (.ref 138), some (.int 16)] [] (mk_M c n m kk (rT (he, ke, ki, fi, fa, or, mi, a, g, l, w, s) xm xi xw im le nu rf ln nn vp xn xc vs)) (some (.int (nI (kg rf 6))), (mk_M c n m kk (rT (he, ke, ki, fi, fa, or, mi, a, g, l, w, s) xm xi xw im le nu rf ln nn vp xn xc vs))) := by
  obtain ⟨hV, hst⟩ := id hA
  have hst2 : s ≤ 999 := hst
  obtain ⟨v1, v2, v3, v4, v5, v6, v7, v8, v9, v10, v11, v12, v13, v14, v15, v16⟩ := id hV
  have v6l := kO_len mi v7 or v6
  obtain ⟨b1, b2, b3⟩ := id hB
  obtain ⟨c1, c2, c3⟩ := id hC
  have d1 : rf.length = 7 := hD
  obtain ⟨r1, r2, r3, r4⟩ := id hR
  refine mr_seg 3 (pc1 := 5) (ls1 := [some (.ref 138), some (.int 16)]) (st1 := [.int 16, .int 11, .int 16]) (M1 := (mk_M c n m kk (rT (he, ke, ki, fi, fa, or, mi, a, g, l, w, s) xm xi xw im le nu rf ln nn vp xn xc vs))) (fun f => rfl) ?_
  refine mr_call (y := 135) (y0 := 8) (L := [some (.int 16), some (.int 11), some (.int 16)]) (rest := []) (rr := some (.int 1)) (M1 := (mk_M c n m kk (rT (he, ke, ki, fi, fa, or, mi, a, g, l, w, s) xm xi xw im le nu rf ln nn vp xn xc vs))) (fun f => rfl) (by
      exact mr_ret 9 (fun f => rfl)) ?_
  refine mr_seg 6 (pc1 := 19) (ls1 := [some (.ref 138), some (.int 16)]) (st1 := [.int (16 - 10), .ref 145]) (M1 := (mk_M c n m kk (rT (he, ke, ki, fi, fa, or, mi, a, g, l, w, s) xm xi xw im le nu rf ln nn vp xn xc vs))) (fun f => rfl) ?_
  refine mr_v (show (16 : Int32) - 10 = 6 by decide) ?_
  refine mr_ldk (l0 := rf) rfl rfl (k := 6) (by omega) ?_
  exact mr_ret 1 (fun f => rfl)
theorem oe_count_26 (he ke ki fi fa or : List Nat) (mi a g l w s : Nat) (m : kG) (kk : kG) (im : Nat) (le : List Nat) (ln : Nat) (ys : List Int32) (vt : Int32) (nu : List Nat) (nn : Nat) (rf : List Nat) (vw : Int32) (vq : Int32) (yc : List Int32) (yh : List Int32) (yg : List Int32) (xm : List Int32) (xi : List Int32) (xw : List Int32) (vp : Int32) (xn : List Int32) (xc : List Int32) (vs : Int32) (hA : iA (he, ke, ki, fi, fa, or, mi, a, g, l, w, s)) (hB : iB le ln) (hC : iC nu nn) (hD : iD rf) (hJ : iJ m ys yc yh yg) (hR : iR xm xw xn xc) (hK : iK im kk xi) : oI 127 211 [some (.ref 100), some (.int 16)] [some (.ref 138), some (.int 16)] (mk_M (cT im le ln ys vt nu nn rf vw vq yc yh yg) (kr (he, ke, ki, fi, fa, or, mi, a, g, l, w, s)) m kk (rT (he, ke, ki, fi, fa, or, mi, a, g, l, w, s) xm xi xw im le nu rf ln nn vp xn xc vs)) := by
  exact ⟨(nI (kg rf 6)), _, _, oc_count_26 he ke ki fi fa or mi a g l w s im le ln ys vt nu nn rf vw vq yc yh yg m kk _ hA hB hC hD hJ hK.1, om_count_26 he ke ki fi fa or mi a g l w s xm xi xw im le nu rf ln nn vp xn xc vs _ _ _ _ hA hB hC hD hR hK.2.1, (he, ke, ki, fi, fa, or, mi, a, g, l, w, s), m, kk, im, le, ln, ys, vt, nu, nn, rf, vw, vq, yc, yh, yg, xm, xi, xw, vp, xn, xc, vs, rfl, hA, hB, hC, hD, hJ, hR, hK⟩
set_option maxRecDepth 100000 in
theorem oc_fallsThen_0 (he ke ki fi fa or : List Nat) (mi a g l w s : Nat) (im : Nat) (le : List Nat) (ln : Nat) (ys : List Int32) (vt : Int32) (nu : List Nat) (nn : Nat) (rf : List Nat) (vw vq : Int32) (yc yh yg : List Int32) (m kk : kG) (q : cR) (hA : iA (he, ke, ki, fi, fa, or, mi, a, g, l, w, s)) (hB : iB le ln) (hC : iC nu nn) (hD : iD rf) (hJ : iJ m ys yc yh yg) (k0 : kSh kk) (x : Int32) (hxu : x.toInt ≤ -1) (y : Int32) : mm_R 78 0 [some (.ref 100), some (.int x), some (.int y), none] [] (mk_M (cT im le ln ys vt nu nn rf vw vq yc yh yg) (kr (he, ke, ki, fi, fa, or, mi, a, g, l, w, s)) m kk q) (some (.int (-1)), (mk_M (cT im le ln ys vt nu nn (rf.set 1 (kg rf 1 + 1)) vw vq yc yh yg) (kr (he, ke, ki, fi, fa, or, mi, a, g, l, w, s)) m kk q)) := by
  have hst2 : s ≤ 999 := hA.2
  have v7 : mi ≤ 5 := hA.1.2.2.2.2.2.2.1
  have b3 : ln ≤ 96 := hB.2.2
  have c3 : nn ≤ 16 := hC.2.2
  refine mr_seg 2 (pc1 := 2) (ls1 := [some (.ref 100), some (.int x), some (.int y), none]) (st1 := [.int x, .ref 100]) (M1 := (mk_M (cT im le ln ys vt nu nn rf vw vq yc yh yg) (kr (he, ke, ki, fi, fa, or, mi, a, g, l, w, s)) m kk q)) (fun f => rfl) ?_
  refine mr_call (y := 61) (y0 := 5) (L := [some (.ref 100), some (.int x)]) (rest := []) (rr := some (.int 0)) (M1 := (mk_M (cT im le ln ys vt nu nn rf vw vq yc yh yg) (kr (he, ke, ki, fi, fa, or, mi, a, g, l, w, s)) m kk q)) (fun f => rfl) (ms_m1_lo (x := x) (mz_lt_t 0 (by decide) (by omega))) ?_
  refine mr_seg 3 (pc1 := 10) (ls1 := [some (.ref 100), some (.int x), some (.int y), none]) (st1 := [.int (-1), .ref 100]) (M1 := (mk_M (cT im le ln ys vt nu nn rf vw vq yc yh yg) (kr (he, ke, ki, fi, fa, or, mi, a, g, l, w, s)) m kk q)) (fun f => rfl) ?_
  refine mr_call (y := 12) (y0 := 13) (L := [some (.ref 100), some (.int (-1))]) (rest := []) (rr := some (.int (-1))) (M1 := (mk_M (cT im le ln ys vt nu nn (rf.set 1 (kg rf 1 + 1)) vw vq yc yh yg) (kr (he, ke, ki, fi, fa, or, mi, a, g, l, w, s)) m kk q)) (fun f => rfl) (ms_re1 hD) ?_
  exact mr_ret 1 (fun f => rfl)
set_option maxRecDepth 100000 in
theorem om_fallsThen_0 (he ke ki fi fa or : List Nat) (mi a g l w s : Nat) (xm xi xw : List Int32) (im : Nat) (le nu rf : List Nat) (ln nn : Nat) (vp : Int32) (xn xc : List Int32) (vs : Int32) (c : cC) (n m kk : kG) (hA : iA (he, ke, ki, fi, fa, or, mi, a, g, l, w, s)) (hB : iB le ln) (hC : iC nu nn) (hD : iD rf) (hR : iR xm xw xn xc) (k1 : xi.length = 52) (x : Int32) (hxu : x.toInt ≤ -1) (y : Int32) : mm_R 171 0 [some (.ref 138), some (.int x), some (.int y), none] [] (mk_M c n m kk (rT (he, ke, ki, fi, fa, or, mi, a, g, l, w, s) xm xi xw im le nu rf ln nn vp xn xc vs)) (some (.int (-1)), (mk_M c n m kk (rT (he, ke, ki, fi, fa, or, mi, a, g, l, w, s) xm xi xw im le nu (rf.set 1 (kg rf 1 + 1)) ln nn vp xn xc vs))) := by
  have hst2 : s ≤ 999 := hA.2
  have v7 : mi ≤ 5 := hA.1.2.2.2.2.2.2.1
  have b3 : ln ≤ 96 := hB.2.2
  have c3 : nn ≤ 16 := hC.2.2
  refine mr_seg 2 (pc1 := 2) (ls1 := [some (.ref 138), some (.int x), some (.int y), none]) (st1 := [.int x, .ref 138]) (M1 := (mk_M c n m kk (rT (he, ke, ki, fi, fa, or, mi, a, g, l, w, s) xm xi xw im le nu rf ln nn vp xn xc vs))) (fun f => rfl) ?_
  refine mr_call (y := 142) (y0 := 5) (L := [some (.ref 138), some (.int x)]) (rest := []) (rr := some (.int 0)) (M1 := (mk_M c n m kk (rT (he, ke, ki, fi, fa, or, mi, a, g, l, w, s) xm xi xw im le nu rf ln nn vp xn xc vs))) (fun f => rfl) (ms_m2_lo (x := x) (mz_lt_t 0 (by decide) (by omega))) ?_
  refine mr_seg 7 (pc1 := 26) (ls1 := [some (.ref 138), some (.int x), some (.int y), some (.int (-1))]) (st1 := [.int (-1), .ref 138]) (M1 := (mk_M c n m kk (rT (he, ke, ki, fi, fa, or, mi, a, g, l, w, s) xm xi xw im le nu rf ln nn vp xn xc vs))) (fun f => rfl) ?_
  refine mr_call (y := 130) (y0 := 29) (L := [some (.ref 138), some (.int (-1))]) (rest := []) (rr := some (.int (-1))) (M1 := (mk_M c n m kk (rT (he, ke, ki, fi, fa, or, mi, a, g, l, w, s) xm xi xw im le nu (rf.set 1 (kg rf 1 + 1)) ln nn vp xn xc vs))) (fun f => rfl) (ms_no1 hD) ?_
  exact mr_ret 1 (fun f => rfl)
theorem oe_fallsThen_0 (he ke ki fi fa or : List Nat) (mi a g l w s : Nat) (m : kG) (kk : kG) (im : Nat) (le : List Nat) (ln : Nat) (ys : List Int32) (vt : Int32) (nu : List Nat) (nn : Nat) (rf : List Nat) (vw : Int32) (vq : Int32) (yc : List Int32) (yh : List Int32) (yg : List Int32) (xm : List Int32) (xi : List Int32) (xw : List Int32) (vp : Int32) (xn : List Int32) (xc : List Int32) (vs : Int32) (hA : iA (he, ke, ki, fi, fa, or, mi, a, g, l, w, s)) (hB : iB le ln) (hC : iC nu nn) (hD : iD rf) (hJ : iJ m ys yc yh yg) (hR : iR xm xw xn xc) (hK : iK im kk xi) (x : Int32) (hxu : x.toInt ≤ -1) (y : Int32) : oI 78 171 [some (.ref 100), some (.int x), some (.int y), none] [some (.ref 138), some (.int x), some (.int y), none] (mk_M (cT im le ln ys vt nu nn rf vw vq yc yh yg) (kr (he, ke, ki, fi, fa, or, mi, a, g, l, w, s)) m kk (rT (he, ke, ki, fi, fa, or, mi, a, g, l, w, s) xm xi xw im le nu rf ln nn vp xn xc vs)) := by
  exact ⟨(-1), _, _, oc_fallsThen_0 he ke ki fi fa or mi a g l w s im le ln ys vt nu nn rf vw vq yc yh yg m kk _ hA hB hC hD hJ hK.1 x hxu y, om_fallsThen_0 he ke ki fi fa or mi a g l w s xm xi xw im le nu rf ln nn vp xn xc vs _ _ _ _ hA hB hC hD hR hK.2.1 x hxu y, (he, ke, ki, fi, fa, or, mi, a, g, l, w, s), m, kk, im, le, ln, ys, vt, nu, nn, (rf.set 1 (kg rf 1 + 1)), vw, vq, yc, yh, yg, xm, xi, xw, vp, xn, xc, vs, rfl, hA, hB, hC, iD_s hD, hJ, hR, hK⟩
set_option maxRecDepth 100000 in
theorem oc_fallsThen_1 (he ke ki fi fa or : List Nat) (mi a g l w s : Nat) (im : Nat) (le : List Nat) (ln : Nat) (ys : List Int32) (vt : Int32) (nu : List Nat) (nn : Nat) (rf : List Nat) (vw vq : Int32) (yc yh yg : List Int32) (m kk : kG) (q : cR) (hA : iA (he, ke, ki, fi, fa, or, mi, a, g, l, w, s)) (hB : iB le ln) (hC : iC nu nn) (hD : iD rf) (hJ : iJ m ys yc yh yg) (k0 : kSh kk) (x : Int32) (hx : nI mi ≤ x) (y : Int32) : mm_R 78 0 [some (.ref 100), some (.int x), some (.int y), none] [] (mk_M (cT im le ln ys vt nu nn rf vw vq yc yh yg) (kr (he, ke, ki, fi, fa, or, mi, a, g, l, w, s)) m kk q) (some (.int (-1)), (mk_M (cT im le ln ys vt nu nn (rf.set 1 (kg rf 1 + 1)) vw vq yc yh yg) (kr (he, ke, ki, fi, fa, or, mi, a, g, l, w, s)) m kk q)) := by
  have hst2 : s ≤ 999 := hA.2
  have v7 : mi ≤ 5 := hA.1.2.2.2.2.2.2.1
  have b3 : ln ≤ 96 := hB.2.2
  have c3 : nn ≤ 16 := hC.2.2
  refine mr_seg 2 (pc1 := 2) (ls1 := [some (.ref 100), some (.int x), some (.int y), none]) (st1 := [.int x, .ref 100]) (M1 := (mk_M (cT im le ln ys vt nu nn rf vw vq yc yh yg) (kr (he, ke, ki, fi, fa, or, mi, a, g, l, w, s)) m kk q)) (fun f => rfl) ?_
  refine mr_call (y := 61) (y0 := 5) (L := [some (.ref 100), some (.int x)]) (rest := []) (rr := some (.int 0)) (M1 := (mk_M (cT im le ln ys vt nu nn rf vw vq yc yh yg) (kr (he, ke, ki, fi, fa, or, mi, a, g, l, w, s)) m kk q)) (fun f => rfl) (ms_m1_hi (x := x) (k_nneg v7 hx) (hx)) ?_
  refine mr_seg 3 (pc1 := 10) (ls1 := [some (.ref 100), some (.int x), some (.int y), none]) (st1 := [.int (-1), .ref 100]) (M1 := (mk_M (cT im le ln ys vt nu nn rf vw vq yc yh yg) (kr (he, ke, ki, fi, fa, or, mi, a, g, l, w, s)) m kk q)) (fun f => rfl) ?_
  refine mr_call (y := 12) (y0 := 13) (L := [some (.ref 100), some (.int (-1))]) (rest := []) (rr := some (.int (-1))) (M1 := (mk_M (cT im le ln ys vt nu nn (rf.set 1 (kg rf 1 + 1)) vw vq yc yh yg) (kr (he, ke, ki, fi, fa, or, mi, a, g, l, w, s)) m kk q)) (fun f => rfl) (ms_re1 hD) ?_
  exact mr_ret 1 (fun f => rfl)
set_option maxRecDepth 100000 in
theorem om_fallsThen_1 (he ke ki fi fa or : List Nat) (mi a g l w s : Nat) (xm xi xw : List Int32) (im : Nat) (le nu rf : List Nat) (ln nn : Nat) (vp : Int32) (xn xc : List Int32) (vs : Int32) (c : cC) (n m kk : kG) (hA : iA (he, ke, ki, fi, fa, or, mi, a, g, l, w, s)) (hB : iB le ln) (hC : iC nu nn) (hD : iD rf) (hR : iR xm xw xn xc) (k1 : xi.length = 52) (x : Int32) (hx : nI mi ≤ x) (y : Int32) : mm_R 171 0 [some (.ref 138), some (.int x), some (.int y), none] [] (mk_M c n m kk (rT (he, ke, ki, fi, fa, or, mi, a, g, l, w, s) xm xi xw im le nu rf ln nn vp xn xc vs)) (some (.int (-1)), (mk_M c n m kk (rT (he, ke, ki, fi, fa, or, mi, a, g, l, w, s) xm xi xw im le nu (rf.set 1 (kg rf 1 + 1)) ln nn vp xn xc vs))) := by
  have hst2 : s ≤ 999 := hA.2
  have v7 : mi ≤ 5 := hA.1.2.2.2.2.2.2.1
  have b3 : ln ≤ 96 := hB.2.2
  have c3 : nn ≤ 16 := hC.2.2
  refine mr_seg 2 (pc1 := 2) (ls1 := [some (.ref 138), some (.int x), some (.int y), none]) (st1 := [.int x, .ref 138]) (M1 := (mk_M c n m kk (rT (he, ke, ki, fi, fa, or, mi, a, g, l, w, s) xm xi xw im le nu rf ln nn vp xn xc vs))) (fun f => rfl) ?_
  refine mr_call (y := 142) (y0 := 5) (L := [some (.ref 138), some (.int x)]) (rest := []) (rr := some (.int 0)) (M1 := (mk_M c n m kk (rT (he, ke, ki, fi, fa, or, mi, a, g, l, w, s) xm xi xw im le nu rf ln nn vp xn xc vs))) (fun f => rfl) (ms_m2_hi (x := x) (b := (nI mi) - 1) rfl (k_nneg v7 hx) (k_gem v7 hx)) ?_
  refine mr_seg 7 (pc1 := 26) (ls1 := [some (.ref 138), some (.int x), some (.int y), some (.int (-1))]) (st1 := [.int (-1), .ref 138]) (M1 := (mk_M c n m kk (rT (he, ke, ki, fi, fa, or, mi, a, g, l, w, s) xm xi xw im le nu rf ln nn vp xn xc vs))) (fun f => rfl) ?_
  refine mr_call (y := 130) (y0 := 29) (L := [some (.ref 138), some (.int (-1))]) (rest := []) (rr := some (.int (-1))) (M1 := (mk_M c n m kk (rT (he, ke, ki, fi, fa, or, mi, a, g, l, w, s) xm xi xw im le nu (rf.set 1 (kg rf 1 + 1)) ln nn vp xn xc vs))) (fun f => rfl) (ms_no1 hD) ?_
  exact mr_ret 1 (fun f => rfl)
theorem oe_fallsThen_1 (he ke ki fi fa or : List Nat) (mi a g l w s : Nat) (m : kG) (kk : kG) (im : Nat) (le : List Nat) (ln : Nat) (ys : List Int32) (vt : Int32) (nu : List Nat) (nn : Nat) (rf : List Nat) (vw : Int32) (vq : Int32) (yc : List Int32) (yh : List Int32) (yg : List Int32) (xm : List Int32) (xi : List Int32) (xw : List Int32) (vp : Int32) (xn : List Int32) (xc : List Int32) (vs : Int32) (hA : iA (he, ke, ki, fi, fa, or, mi, a, g, l, w, s)) (hB : iB le ln) (hC : iC nu nn) (hD : iD rf) (hJ : iJ m ys yc yh yg) (hR : iR xm xw xn xc) (hK : iK im kk xi) (x : Int32) (hx : nI mi ≤ x) (y : Int32) : oI 78 171 [some (.ref 100), some (.int x), some (.int y), none] [some (.ref 138), some (.int x), some (.int y), none] (mk_M (cT im le ln ys vt nu nn rf vw vq yc yh yg) (kr (he, ke, ki, fi, fa, or, mi, a, g, l, w, s)) m kk (rT (he, ke, ki, fi, fa, or, mi, a, g, l, w, s) xm xi xw im le nu rf ln nn vp xn xc vs)) := by
  exact ⟨(-1), _, _, oc_fallsThen_1 he ke ki fi fa or mi a g l w s im le ln ys vt nu nn rf vw vq yc yh yg m kk _ hA hB hC hD hJ hK.1 x hx y, om_fallsThen_1 he ke ki fi fa or mi a g l w s xm xi xw im le nu rf ln nn vp xn xc vs _ _ _ _ hA hB hC hD hR hK.2.1 x hx y, (he, ke, ki, fi, fa, or, mi, a, g, l, w, s), m, kk, im, le, ln, ys, vt, nu, nn, (rf.set 1 (kg rf 1 + 1)), vw, vq, yc, yh, yg, xm, xi, xw, vp, xn, xc, vs, rfl, hA, hB, hC, iD_s hD, hJ, hR, hK⟩
set_option maxRecDepth 100000 in
theorem oc_fallsThen_2 (he ke ki fi fa or : List Nat) (mi a g l w s : Nat) (im : Nat) (le : List Nat) (ln : Nat) (ys : List Int32) (vt : Int32) (nu : List Nat) (nn : Nat) (rf : List Nat) (vw vq : Int32) (yc yh yg : List Int32) (m kk : kG) (q : cR) (hA : iA (he, ke, ki, fi, fa, or, mi, a, g, l, w, s)) (hB : iB le ln) (hC : iC nu nn) (hD : iD rf) (hJ : iJ m ys yc yh yg) (k0 : kSh kk) (p : Nat) (hp : p < mi) (y : Int32) (hyu : y.toInt ≤ -1) : mm_R 78 0 [some (.ref 100), some (.int (nI p)), some (.int y), none] [] (mk_M (cT im le ln ys vt nu nn rf vw vq yc yh yg) (kr (he, ke, ki, fi, fa, or, mi, a, g, l, w, s)) m kk q) (some (.int (-4)), (mk_M (cT im le ln ys vt nu nn (rf.set 4 (kg rf 4 + 1)) vw vq yc yh yg) (kr (he, ke, ki, fi, fa, or, mi, a, g, l, w, s)) m kk q)) := by
  have hst2 : s ≤ 999 := hA.2
  have v7 : mi ≤ 5 := hA.1.2.2.2.2.2.2.1
  have b3 : ln ≤ 96 := hB.2.2
  have c3 : nn ≤ 16 := hC.2.2
  refine mr_seg 2 (pc1 := 2) (ls1 := [some (.ref 100), some (.int (nI p)), some (.int y), none]) (st1 := [.int (nI p), .ref 100]) (M1 := (mk_M (cT im le ln ys vt nu nn rf vw vq yc yh yg) (kr (he, ke, ki, fi, fa, or, mi, a, g, l, w, s)) m kk q)) (fun f => rfl) ?_
  refine mr_call (y := 61) (y0 := 5) (L := [some (.ref 100), some (.int (nI p))]) (rest := []) (rr := some (.int 1)) (M1 := (mk_M (cT im le ln ys vt nu nn rf vw vq yc yh yg) (kr (he, ke, ki, fi, fa, or, mi, a, g, l, w, s)) m kk q)) (fun f => rfl) (ms_m1_ok (x := (nI p)) (nI_ltf (a := p) (b := 0) (by omega)) (nI_lef (a := mi) (b := p) (by omega))) ?_
  refine mr_seg 2 (pc1 := 15) (ls1 := [some (.ref 100), some (.int (nI p)), some (.int y), none]) (st1 := [.int y]) (M1 := (mk_M (cT im le ln ys vt nu nn rf vw vq yc yh yg) (kr (he, ke, ki, fi, fa, or, mi, a, g, l, w, s)) m kk q)) (fun f => rfl) ?_
  refine mr_f (C := 0 ≤ y) (mz_ge_f 0 (by decide) (by omega)) (fun f => rfl) ?_
  refine mr_seg 2 (pc1 := 21) (ls1 := [some (.ref 100), some (.int (nI p)), some (.int y), none]) (st1 := [.int (-4), .ref 100]) (M1 := (mk_M (cT im le ln ys vt nu nn rf vw vq yc yh yg) (kr (he, ke, ki, fi, fa, or, mi, a, g, l, w, s)) m kk q)) (fun f => rfl) ?_
  refine mr_call (y := 12) (y0 := 24) (L := [some (.ref 100), some (.int (-4))]) (rest := []) (rr := some (.int (-4))) (M1 := (mk_M (cT im le ln ys vt nu nn (rf.set 4 (kg rf 4 + 1)) vw vq yc yh yg) (kr (he, ke, ki, fi, fa, or, mi, a, g, l, w, s)) m kk q)) (fun f => rfl) (ms_re4 hD) ?_
  exact mr_ret 1 (fun f => rfl)
set_option maxRecDepth 100000 in
theorem om_fallsThen_2 (he ke ki fi fa or : List Nat) (mi a g l w s : Nat) (xm xi xw : List Int32) (im : Nat) (le nu rf : List Nat) (ln nn : Nat) (vp : Int32) (xn xc : List Int32) (vs : Int32) (c : cC) (n m kk : kG) (hA : iA (he, ke, ki, fi, fa, or, mi, a, g, l, w, s)) (hB : iB le ln) (hC : iC nu nn) (hD : iD rf) (hR : iR xm xw xn xc) (k1 : xi.length = 52) (p : Nat) (hp : p < mi) (y : Int32) (hyu : y.toInt ≤ -1) : mm_R 171 0 [some (.ref 138), some (.int (nI p)), some (.int y), none] [] (mk_M c n m kk (rT (he, ke, ki, fi, fa, or, mi, a, g, l, w, s) xm xi xw im le nu rf ln nn vp xn xc vs)) (some (.int (-4)), (mk_M c n m kk (rT (he, ke, ki, fi, fa, or, mi, a, g, l, w, s) xm xi xw im le nu (rf.set 4 (kg rf 4 + 1)) ln nn vp xn xc vs))) := by
  have hst2 : s ≤ 999 := hA.2
  have v7 : mi ≤ 5 := hA.1.2.2.2.2.2.2.1
  have b3 : ln ≤ 96 := hB.2.2
  have c3 : nn ≤ 16 := hC.2.2
  refine mr_seg 2 (pc1 := 2) (ls1 := [some (.ref 138), some (.int (nI p)), some (.int y), none]) (st1 := [.int (nI p), .ref 138]) (M1 := (mk_M c n m kk (rT (he, ke, ki, fi, fa, or, mi, a, g, l, w, s) xm xi xw im le nu rf ln nn vp xn xc vs))) (fun f => rfl) ?_
  refine mr_call (y := 142) (y0 := 5) (L := [some (.ref 138), some (.int (nI p))]) (rest := []) (rr := some (.int 1)) (M1 := (mk_M c n m kk (rT (he, ke, ki, fi, fa, or, mi, a, g, l, w, s) xm xi xw im le nu rf ln nn vp xn xc vs))) (fun f => rfl) (ms_m2_ok (x := (nI p)) (b := (nI (mi - 1))) (pk_sub (a := mi) (b := 1) (by omega)) (nI_ltf (a := p) (b := 0) (by omega)) (nI_ltf (a := mi - 1) (b := p) (by omega))) ?_
  refine mr_seg 4 (pc1 := 12) (ls1 := [some (.ref 138), some (.int (nI p)), some (.int y), none]) (st1 := [.int 60, .int 0, .int y]) (M1 := (mk_M c n m kk (rT (he, ke, ki, fi, fa, or, mi, a, g, l, w, s) xm xi xw im le nu rf ln nn vp xn xc vs))) (fun f => rfl) ?_
  refine mr_call (y := 159) (y0 := 15) (L := [some (.int y), some (.int 0), some (.int 60)]) (rest := []) (rr := some (.int (-4))) (M1 := (mk_M c n m kk (rT (he, ke, ki, fi, fa, or, mi, a, g, l, w, s) xm xi xw im le nu rf ln nn vp xn xc vs))) (fun f => rfl) (ms_wb_lo (x := y) (a := 0) (b := 60) (mz_ge_f 0 (by decide) (by omega))) ?_
  refine mr_seg 6 (pc1 := 26) (ls1 := [some (.ref 138), some (.int (nI p)), some (.int y), some (.int (-4))]) (st1 := [.int (-4), .ref 138]) (M1 := (mk_M c n m kk (rT (he, ke, ki, fi, fa, or, mi, a, g, l, w, s) xm xi xw im le nu rf ln nn vp xn xc vs))) (fun f => rfl) ?_
  refine mr_call (y := 130) (y0 := 29) (L := [some (.ref 138), some (.int (-4))]) (rest := []) (rr := some (.int (-4))) (M1 := (mk_M c n m kk (rT (he, ke, ki, fi, fa, or, mi, a, g, l, w, s) xm xi xw im le nu (rf.set 4 (kg rf 4 + 1)) ln nn vp xn xc vs))) (fun f => rfl) (ms_no4 hD) ?_
  exact mr_ret 1 (fun f => rfl)
theorem oe_fallsThen_2 (he ke ki fi fa or : List Nat) (mi a g l w s : Nat) (m : kG) (kk : kG) (im : Nat) (le : List Nat) (ln : Nat) (ys : List Int32) (vt : Int32) (nu : List Nat) (nn : Nat) (rf : List Nat) (vw : Int32) (vq : Int32) (yc : List Int32) (yh : List Int32) (yg : List Int32) (xm : List Int32) (xi : List Int32) (xw : List Int32) (vp : Int32) (xn : List Int32) (xc : List Int32) (vs : Int32) (hA : iA (he, ke, ki, fi, fa, or, mi, a, g, l, w, s)) (hB : iB le ln) (hC : iC nu nn) (hD : iD rf) (hJ : iJ m ys yc yh yg) (hR : iR xm xw xn xc) (hK : iK im kk xi) (p : Nat) (hp : p < mi) (y : Int32) (hyu : y.toInt ≤ -1) : oI 78 171 [some (.ref 100), some (.int (nI p)), some (.int y), none] [some (.ref 138), some (.int (nI p)), some (.int y), none] (mk_M (cT im le ln ys vt nu nn rf vw vq yc yh yg) (kr (he, ke, ki, fi, fa, or, mi, a, g, l, w, s)) m kk (rT (he, ke, ki, fi, fa, or, mi, a, g, l, w, s) xm xi xw im le nu rf ln nn vp xn xc vs)) := by
  exact ⟨(-4), _, _, oc_fallsThen_2 he ke ki fi fa or mi a g l w s im le ln ys vt nu nn rf vw vq yc yh yg m kk _ hA hB hC hD hJ hK.1 p hp y hyu, om_fallsThen_2 he ke ki fi fa or mi a g l w s xm xi xw im le nu rf ln nn vp xn xc vs _ _ _ _ hA hB hC hD hR hK.2.1 p hp y hyu, (he, ke, ki, fi, fa, or, mi, a, g, l, w, s), m, kk, im, le, ln, ys, vt, nu, nn, (rf.set 4 (kg rf 4 + 1)), vw, vq, yc, yh, yg, xm, xi, xw, vp, xn, xc, vs, rfl, hA, hB, hC, iD_s hD, hJ, hR, hK⟩
set_option maxRecDepth 100000 in
theorem oc_fallsThen_3 (he ke ki fi fa or : List Nat) (mi a g l w s : Nat) (im : Nat) (le : List Nat) (ln : Nat) (ys : List Int32) (vt : Int32) (nu : List Nat) (nn : Nat) (rf : List Nat) (vw vq : Int32) (yc yh yg : List Int32) (m kk : kG) (q : cR) (hA : iA (he, ke, ki, fi, fa, or, mi, a, g, l, w, s)) (hB : iB le ln) (hC : iC nu nn) (hD : iD rf) (hJ : iJ m ys yc yh yg) (k0 : kSh kk) (p : Nat) (hp : p < mi) (y : Int32) (hyl : 61 ≤ y.toInt) : mm_R 78 0 [some (.ref 100), some (.int (nI p)), some (.int y), none] [] (mk_M (cT im le ln ys vt nu nn rf vw vq yc yh yg) (kr (he, ke, ki, fi, fa, or, mi, a, g, l, w, s)) m kk q) (some (.int (-6)), (mk_M (cT im le ln ys vt nu nn (rf.set 6 (kg rf 6 + 1)) vw vq yc yh yg) (kr (he, ke, ki, fi, fa, or, mi, a, g, l, w, s)) m kk q)) := by
  have hst2 : s ≤ 999 := hA.2
  have v7 : mi ≤ 5 := hA.1.2.2.2.2.2.2.1
  have b3 : ln ≤ 96 := hB.2.2
  have c3 : nn ≤ 16 := hC.2.2
  refine mr_seg 2 (pc1 := 2) (ls1 := [some (.ref 100), some (.int (nI p)), some (.int y), none]) (st1 := [.int (nI p), .ref 100]) (M1 := (mk_M (cT im le ln ys vt nu nn rf vw vq yc yh yg) (kr (he, ke, ki, fi, fa, or, mi, a, g, l, w, s)) m kk q)) (fun f => rfl) ?_
  refine mr_call (y := 61) (y0 := 5) (L := [some (.ref 100), some (.int (nI p))]) (rest := []) (rr := some (.int 1)) (M1 := (mk_M (cT im le ln ys vt nu nn rf vw vq yc yh yg) (kr (he, ke, ki, fi, fa, or, mi, a, g, l, w, s)) m kk q)) (fun f => rfl) (ms_m1_ok (x := (nI p)) (nI_ltf (a := p) (b := 0) (by omega)) (nI_lef (a := mi) (b := p) (by omega))) ?_
  refine mr_seg 2 (pc1 := 15) (ls1 := [some (.ref 100), some (.int (nI p)), some (.int y), none]) (st1 := [.int y]) (M1 := (mk_M (cT im le ln ys vt nu nn rf vw vq yc yh yg) (kr (he, ke, ki, fi, fa, or, mi, a, g, l, w, s)) m kk q)) (fun f => rfl) ?_
  refine mr_t (C := 0 ≤ y) (mz_ge_t 0 (by decide) (by omega)) (fun f => rfl) ?_
  refine mr_seg 2 (pc1 := 28) (ls1 := [some (.ref 100), some (.int (nI p)), some (.int y), none]) (st1 := [.int 60, .int y]) (M1 := (mk_M (cT im le ln ys vt nu nn rf vw vq yc yh yg) (kr (he, ke, ki, fi, fa, or, mi, a, g, l, w, s)) m kk q)) (fun f => rfl) ?_
  refine mr_f (C := y ≤ 60) (mz_le_f 60 (by decide) (by omega)) (fun f => rfl) ?_
  refine mr_seg 2 (pc1 := 34) (ls1 := [some (.ref 100), some (.int (nI p)), some (.int y), none]) (st1 := [.int (-6), .ref 100]) (M1 := (mk_M (cT im le ln ys vt nu nn rf vw vq yc yh yg) (kr (he, ke, ki, fi, fa, or, mi, a, g, l, w, s)) m kk q)) (fun f => rfl) ?_
  refine mr_call (y := 12) (y0 := 37) (L := [some (.ref 100), some (.int (-6))]) (rest := []) (rr := some (.int (-6))) (M1 := (mk_M (cT im le ln ys vt nu nn (rf.set 6 (kg rf 6 + 1)) vw vq yc yh yg) (kr (he, ke, ki, fi, fa, or, mi, a, g, l, w, s)) m kk q)) (fun f => rfl) (ms_re6 hD) ?_
  exact mr_ret 1 (fun f => rfl)
set_option maxRecDepth 100000 in
theorem om_fallsThen_3 (he ke ki fi fa or : List Nat) (mi a g l w s : Nat) (xm xi xw : List Int32) (im : Nat) (le nu rf : List Nat) (ln nn : Nat) (vp : Int32) (xn xc : List Int32) (vs : Int32) (c : cC) (n m kk : kG) (hA : iA (he, ke, ki, fi, fa, or, mi, a, g, l, w, s)) (hB : iB le ln) (hC : iC nu nn) (hD : iD rf) (hR : iR xm xw xn xc) (k1 : xi.length = 52) (p : Nat) (hp : p < mi) (y : Int32) (hyl : 61 ≤ y.toInt) : mm_R 171 0 [some (.ref 138), some (.int (nI p)), some (.int y), none] [] (mk_M c n m kk (rT (he, ke, ki, fi, fa, or, mi, a, g, l, w, s) xm xi xw im le nu rf ln nn vp xn xc vs)) (some (.int (-6)), (mk_M c n m kk (rT (he, ke, ki, fi, fa, or, mi, a, g, l, w, s) xm xi xw im le nu (rf.set 6 (kg rf 6 + 1)) ln nn vp xn xc vs))) := by
  have hst2 : s ≤ 999 := hA.2
  have v7 : mi ≤ 5 := hA.1.2.2.2.2.2.2.1
  have b3 : ln ≤ 96 := hB.2.2
  have c3 : nn ≤ 16 := hC.2.2
  refine mr_seg 2 (pc1 := 2) (ls1 := [some (.ref 138), some (.int (nI p)), some (.int y), none]) (st1 := [.int (nI p), .ref 138]) (M1 := (mk_M c n m kk (rT (he, ke, ki, fi, fa, or, mi, a, g, l, w, s) xm xi xw im le nu rf ln nn vp xn xc vs))) (fun f => rfl) ?_
  refine mr_call (y := 142) (y0 := 5) (L := [some (.ref 138), some (.int (nI p))]) (rest := []) (rr := some (.int 1)) (M1 := (mk_M c n m kk (rT (he, ke, ki, fi, fa, or, mi, a, g, l, w, s) xm xi xw im le nu rf ln nn vp xn xc vs))) (fun f => rfl) (ms_m2_ok (x := (nI p)) (b := (nI (mi - 1))) (pk_sub (a := mi) (b := 1) (by omega)) (nI_ltf (a := p) (b := 0) (by omega)) (nI_ltf (a := mi - 1) (b := p) (by omega))) ?_
  refine mr_seg 4 (pc1 := 12) (ls1 := [some (.ref 138), some (.int (nI p)), some (.int y), none]) (st1 := [.int 60, .int 0, .int y]) (M1 := (mk_M c n m kk (rT (he, ke, ki, fi, fa, or, mi, a, g, l, w, s) xm xi xw im le nu rf ln nn vp xn xc vs))) (fun f => rfl) ?_
  refine mr_call (y := 159) (y0 := 15) (L := [some (.int y), some (.int 0), some (.int 60)]) (rest := []) (rr := some (.int (-6))) (M1 := (mk_M c n m kk (rT (he, ke, ki, fi, fa, or, mi, a, g, l, w, s) xm xi xw im le nu rf ln nn vp xn xc vs))) (fun f => rfl) (ms_wb_hi (x := y) (a := 0) (b := 60) (mz_ge_t 0 (by decide) (by omega)) (mz_le_f 60 (by decide) (by omega))) ?_
  refine mr_seg 6 (pc1 := 26) (ls1 := [some (.ref 138), some (.int (nI p)), some (.int y), some (.int (-6))]) (st1 := [.int (-6), .ref 138]) (M1 := (mk_M c n m kk (rT (he, ke, ki, fi, fa, or, mi, a, g, l, w, s) xm xi xw im le nu rf ln nn vp xn xc vs))) (fun f => rfl) ?_
  refine mr_call (y := 130) (y0 := 29) (L := [some (.ref 138), some (.int (-6))]) (rest := []) (rr := some (.int (-6))) (M1 := (mk_M c n m kk (rT (he, ke, ki, fi, fa, or, mi, a, g, l, w, s) xm xi xw im le nu (rf.set 6 (kg rf 6 + 1)) ln nn vp xn xc vs))) (fun f => rfl) (ms_no6 hD) ?_
  exact mr_ret 1 (fun f => rfl)
theorem oe_fallsThen_3 (he ke ki fi fa or : List Nat) (mi a g l w s : Nat) (m : kG) (kk : kG) (im : Nat) (le : List Nat) (ln : Nat) (ys : List Int32) (vt : Int32) (nu : List Nat) (nn : Nat) (rf : List Nat) (vw : Int32) (vq : Int32) (yc : List Int32) (yh : List Int32) (yg : List Int32) (xm : List Int32) (xi : List Int32) (xw : List Int32) (vp : Int32) (xn : List Int32) (xc : List Int32) (vs : Int32) (hA : iA (he, ke, ki, fi, fa, or, mi, a, g, l, w, s)) (hB : iB le ln) (hC : iC nu nn) (hD : iD rf) (hJ : iJ m ys yc yh yg) (hR : iR xm xw xn xc) (hK : iK im kk xi) (p : Nat) (hp : p < mi) (y : Int32) (hyl : 61 ≤ y.toInt) : oI 78 171 [some (.ref 100), some (.int (nI p)), some (.int y), none] [some (.ref 138), some (.int (nI p)), some (.int y), none] (mk_M (cT im le ln ys vt nu nn rf vw vq yc yh yg) (kr (he, ke, ki, fi, fa, or, mi, a, g, l, w, s)) m kk (rT (he, ke, ki, fi, fa, or, mi, a, g, l, w, s) xm xi xw im le nu rf ln nn vp xn xc vs)) := by
  exact ⟨(-6), _, _, oc_fallsThen_3 he ke ki fi fa or mi a g l w s im le ln ys vt nu nn rf vw vq yc yh yg m kk _ hA hB hC hD hJ hK.1 p hp y hyl, om_fallsThen_3 he ke ki fi fa or mi a g l w s xm xi xw im le nu rf ln nn vp xn xc vs _ _ _ _ hA hB hC hD hR hK.2.1 p hp y hyl, (he, ke, ki, fi, fa, or, mi, a, g, l, w, s), m, kk, im, le, ln, ys, vt, nu, nn, (rf.set 6 (kg rf 6 + 1)), vw, vq, yc, yh, yg, xm, xi, xw, vp, xn, xc, vs, rfl, hA, hB, hC, iD_s hD, hJ, hR, hK⟩
set_option maxRecDepth 100000 in
theorem oc_fallsThen_4 (he ke ki fi fa or : List Nat) (mi a g l w s : Nat) (im : Nat) (le : List Nat) (ln : Nat) (ys : List Int32) (vt : Int32) (nu : List Nat) (nn : Nat) (rf : List Nat) (vw vq : Int32) (yc yh yg : List Int32) (m kk : kG) (q : cR) (hA : iA (he, ke, ki, fi, fa, or, mi, a, g, l, w, s)) (hB : iB le ln) (hC : iC nu nn) (hD : iD rf) (hJ : iJ m ys yc yh yg) (k0 : kSh kk) (p : Nat) (hp : p < mi) (y : Nat) (hy1 : 0 ≤ y) (hy : y ≤ 60) : mm_R 78 0 [some (.ref 100), some (.int (nI p)), some (.int (nI y)), none] [] (mk_M (cT im le ln ys vt nu nn rf vw vq yc yh yg) (kr (he, ke, ki, fi, fa, or, mi, a, g, l, w, s)) m kk q) (some (.int (nI (kg (k_fa (ksteps y (he, ke, ki, fi, fa, or, mi, a, g, l, w, s))) p))), (mk_M (cT im le ln ys vt nu nn rf vw vq yc yh yg) (kr (he, ke, ki, fi, fa, or, mi, a, g, l, w, s)) (kr (ksteps y (he, ke, ki, fi, fa, or, mi, a, g, l, w, s))) kk q)) := by
  obtain ⟨hV, hst⟩ := id hA
  have hst2 : s ≤ 999 := hst
  obtain ⟨v1, v2, v3, v4, v5, v6, v7, v8, v9, v10, v11, v12, v13, v14, v15, v16⟩ := id hV
  have v6l := kO_len mi v7 or v6
  obtain ⟨b1, b2, b3⟩ := id hB
  obtain ⟨c1, c2, c3⟩ := id hC
  have d1 : rf.length = 7 := hD
  obtain ⟨j0, j1, j2, j3, j4⟩ := id hJ
  have e5 := kV_fa (kV_steps y hV)
  refine mr_seg 2 (pc1 := 2) (ls1 := [some (.ref 100), some (.int (nI p)), some (.int (nI y)), none]) (st1 := [.int (nI p), .ref 100]) (M1 := (mk_M (cT im le ln ys vt nu nn rf vw vq yc yh yg) (kr (he, ke, ki, fi, fa, or, mi, a, g, l, w, s)) m kk q)) (fun f => rfl) ?_
  refine mr_call (y := 61) (y0 := 5) (L := [some (.ref 100), some (.int (nI p))]) (rest := []) (rr := some (.int 1)) (M1 := (mk_M (cT im le ln ys vt nu nn rf vw vq yc yh yg) (kr (he, ke, ki, fi, fa, or, mi, a, g, l, w, s)) m kk q)) (fun f => rfl) (ms_m1_ok (x := (nI p)) (nI_ltf (a := p) (b := 0) (by omega)) (nI_lef (a := mi) (b := p) (by omega))) ?_
  refine mr_seg 2 (pc1 := 15) (ls1 := [some (.ref 100), some (.int (nI p)), some (.int (nI y)), none]) (st1 := [.int (nI y)]) (M1 := (mk_M (cT im le ln ys vt nu nn rf vw vq yc yh yg) (kr (he, ke, ki, fi, fa, or, mi, a, g, l, w, s)) m kk q)) (fun f => rfl) ?_
  refine mr_t (C := 0 ≤ (nI y)) (nI_let (a := 0) (b := y) (by omega)) (fun f => rfl) ?_
  refine mr_seg 2 (pc1 := 28) (ls1 := [some (.ref 100), some (.int (nI p)), some (.int (nI y)), none]) (st1 := [.int 60, .int (nI y)]) (M1 := (mk_M (cT im le ln ys vt nu nn rf vw vq yc yh yg) (kr (he, ke, ki, fi, fa, or, mi, a, g, l, w, s)) m kk q)) (fun f => rfl) ?_
  refine mr_t (C := (nI y) ≤ 60) (nI_let (a := y) (b := 60) (by omega)) (fun f => rfl) ?_
  refine mr_seg 1 (pc1 := 39) (ls1 := [some (.ref 100), some (.int (nI p)), some (.int (nI y)), none]) (st1 := [.ref 100]) (M1 := (mk_M (cT im le ln ys vt nu nn rf vw vq yc yh yg) (kr (he, ke, ki, fi, fa, or, mi, a, g, l, w, s)) m kk q)) (fun f => rfl) ?_
  refine mr_call (y := 75) (y0 := 42) (L := [some (.ref 100)]) (rest := []) (rr := some (.ref 124)) (M1 := (mk_M (cT im le ln ys vt nu nn rf vw vq yc yh yg) (kr (he, ke, ki, fi, fa, or, mi, a, g, l, w, s)) (kr (he, ke, ki, fi, fa, or, mi, a, g, l, w, s)) kk q)) (fun f => rfl) (cc_now (he, ke, ki, fi, fa, or, mi, a, g, l, w, s) (cT im le ln ys vt nu nn rf vw vq yc yh yg) m kk q hV j0) ?_
  refine mr_seg 3 (pc1 := 45) (ls1 := [some (.ref 100), some (.int (nI p)), some (.int (nI y)), some (.ref 124)]) (st1 := [.int (nI y), .ref 124]) (M1 := (mk_M (cT im le ln ys vt nu nn rf vw vq yc yh yg) (kr (he, ke, ki, fi, fa, or, mi, a, g, l, w, s)) (kr (he, ke, ki, fi, fa, or, mi, a, g, l, w, s)) kk q)) (fun f => rfl) ?_
  refine mr_call (y := 43) (y0 := 48) (L := [some (.ref 124), some (.int (nI y)), none]) (rest := []) (rr := none) (M1 := (mk_M (cT im le ln ys vt nu nn rf vw vq yc yh yg) (kr (he, ke, ki, fi, fa, or, mi, a, g, l, w, s)) (kr (ksteps y (he, ke, ki, fi, fa, or, mi, a, g, l, w, s))) kk q)) (fun f => rfl) (kl_m (cT im le ln ys vt nu nn rf vw vq yc yh yg) (kr (he, ke, ki, fi, fa, or, mi, a, g, l, w, s)) kk q (kc_by_m y (by omega) (he, ke, ki, fi, fa, or, mi, a, g, l, w, s) hV (show s < 2 ^ 20 by omega))) ?_
  refine mr_seg 3 (pc1 := 53) (ls1 := [some (.ref 100), some (.int (nI p)), some (.int (nI y)), some (.ref 124)]) (st1 := [.int (nI p), .ref 129]) (M1 := (mk_M (cT im le ln ys vt nu nn rf vw vq yc yh yg) (kr (he, ke, ki, fi, fa, or, mi, a, g, l, w, s)) (kr (ksteps y (he, ke, ki, fi, fa, or, mi, a, g, l, w, s))) kk q)) (fun f => rfl) ?_
  refine mr_ldk (l0 := (k_fa (ksteps y (he, ke, ki, fi, fa, or, mi, a, g, l, w, s)))) rfl rfl (k := p) (by omega) ?_
  exact mr_ret 1 (fun f => rfl)
set_option maxRecDepth 100000 in
theorem om_fallsThen_4 (he ke ki fi fa or : List Nat) (mi a g l w s : Nat) (xm xi xw : List Int32) (im : Nat) (le nu rf : List Nat) (ln nn : Nat) (vp : Int32) (xn xc : List Int32) (vs : Int32) (c : cC) (n m kk : kG) (hA : iA (he, ke, ki, fi, fa, or, mi, a, g, l, w, s)) (hB : iB le ln) (hC : iC nu nn) (hD : iD rf) (hR : iR xm xw xn xc) (k1 : xi.length = 52) (p : Nat) (hp : p < mi) (y : Nat) (hy1 : 0 ≤ y) (hy : y ≤ 60) : mm_R 171 0 [some (.ref 138), some (.int (nI p)), some (.int (nI y)), none] [] (mk_M c n m kk (rT (he, ke, ki, fi, fa, or, mi, a, g, l, w, s) xm xi xw im le nu rf ln nn vp xn xc vs)) (some (.int (nI (kg (k_fa (ksteps y (he, ke, ki, fi, fa, or, mi, a, g, l, w, s))) p))), (mk_M c n m kk (rT (he, ke, ki, fi, fa, or, mi, a, g, l, w, s) (er (ksteps y (he, ke, ki, fi, fa, or, mi, a, g, l, w, s))) xi xw im le nu rf ln nn vp xn xc vs))) := by
  obtain ⟨hV, hst⟩ := id hA
  have hst2 : s ≤ 999 := hst
  obtain ⟨v1, v2, v3, v4, v5, v6, v7, v8, v9, v10, v11, v12, v13, v14, v15, v16⟩ := id hV
  have v6l := kO_len mi v7 or v6
  obtain ⟨b1, b2, b3⟩ := id hB
  obtain ⟨c1, c2, c3⟩ := id hC
  have d1 : rf.length = 7 := hD
  obtain ⟨r1, r2, r3, r4⟩ := id hR
  have e5 := kV_fa (kV_steps y hV)
  refine mr_seg 2 (pc1 := 2) (ls1 := [some (.ref 138), some (.int (nI p)), some (.int (nI y)), none]) (st1 := [.int (nI p), .ref 138]) (M1 := (mk_M c n m kk (rT (he, ke, ki, fi, fa, or, mi, a, g, l, w, s) xm xi xw im le nu rf ln nn vp xn xc vs))) (fun f => rfl) ?_
  refine mr_call (y := 142) (y0 := 5) (L := [some (.ref 138), some (.int (nI p))]) (rest := []) (rr := some (.int 1)) (M1 := (mk_M c n m kk (rT (he, ke, ki, fi, fa, or, mi, a, g, l, w, s) xm xi xw im le nu rf ln nn vp xn xc vs))) (fun f => rfl) (ms_m2_ok (x := (nI p)) (b := (nI (mi - 1))) (pk_sub (a := mi) (b := 1) (by omega)) (nI_ltf (a := p) (b := 0) (by omega)) (nI_ltf (a := mi - 1) (b := p) (by omega))) ?_
  refine mr_seg 4 (pc1 := 12) (ls1 := [some (.ref 138), some (.int (nI p)), some (.int (nI y)), none]) (st1 := [.int 60, .int 0, .int (nI y)]) (M1 := (mk_M c n m kk (rT (he, ke, ki, fi, fa, or, mi, a, g, l, w, s) xm xi xw im le nu rf ln nn vp xn xc vs))) (fun f => rfl) ?_
  refine mr_call (y := 159) (y0 := 15) (L := [some (.int (nI y)), some (.int 0), some (.int 60)]) (rest := []) (rr := some (.int 0)) (M1 := (mk_M c n m kk (rT (he, ke, ki, fi, fa, or, mi, a, g, l, w, s) xm xi xw im le nu rf ln nn vp xn xc vs))) (fun f => rfl) (ms_wb_ok (x := (nI y)) (a := 0) (b := 60) (nI_let (a := 0) (b := y) (by omega)) (nI_let (a := y) (b := 60) (by omega))) ?_
  refine mr_seg 6 (pc1 := 32) (ls1 := [some (.ref 138), some (.int (nI p)), some (.int (nI y)), some (.int 0)]) (st1 := [.int (nI y), .ref 138]) (M1 := (mk_M c n m kk (rT (he, ke, ki, fi, fa, or, mi, a, g, l, w, s) xm xi xw im le nu rf ln nn vp xn xc vs))) (fun f => rfl) ?_
  refine mr_call (y := 169) (y0 := 35) (L := [some (.ref 138), some (.int (nI y))]) (rest := []) (rr := none) (M1 := (mk_M c n m kk (rT (he, ke, ki, fi, fa, or, mi, a, g, l, w, s) (er (ksteps y (he, ke, ki, fi, fa, or, mi, a, g, l, w, s))) xi xw im le nu rf ln nn vp xn xc vs))) (fun f => rfl) (by
      refine mr_seg 4 (pc1 := 8) (ls1 := [some (.ref 138), some (.int (nI y))]) (st1 := [.ref 140, .ref 139]) (M1 := (mk_M c n m kk (rT (he, ke, ki, fi, fa, or, mi, a, g, l, w, s) xm xi xw im le nu rf ln nn vp xn xc vs))) (fun f => rfl) ?_
      refine mr_call (y := 138) (y0 := 11) (L := [some (.ref 139), some (.ref 140), none]) (rest := []) (rr := none) (M1 := (mk_M c n m kk (rT (he, ke, ki, fi, fa, or, mi, a, g, l, w, s) (er (he, ke, ki, fi, fa, or, mi, a, g, l, w, s)) xi xw im le nu rf ln nn vp xn xc vs))) (fun f => rfl) (rc_copies (a := 140) (b := 139) (by decide) rfl rfl (er_len hV) r1) ?_
      refine mr_seg 3 (pc1 := 16) (ls1 := [some (.ref 138), some (.int (nI y))]) (st1 := [.int (nI y), .ref 140]) (M1 := (mk_M c n m kk (rT (he, ke, ki, fi, fa, or, mi, a, g, l, w, s) (er (he, ke, ki, fi, fa, or, mi, a, g, l, w, s)) xi xw im le nu rf ln nn vp xn xc vs))) (fun f => rfl) ?_
      refine mr_call (y := 145) (y0 := 19) (L := [some (.ref 140), some (.int (nI y)), none]) (rest := []) (rr := none) (M1 := (mk_M c n m kk (rT (he, ke, ki, fi, fa, or, mi, a, g, l, w, s) (er (ksteps y (he, ke, ki, fi, fa, or, mi, a, g, l, w, s))) xi xw im le nu rf ln nn vp xn xc vs))) (fun f => rfl) (rl_m c n m kk (rT (he, ke, ki, fi, fa, or, mi, a, g, l, w, s) (er (he, ke, ki, fi, fa, or, mi, a, g, l, w, s)) xi xw im le nu rf ln nn vp xn xc vs) (rc_by_m y (by omega) (he, ke, ki, fi, fa, or, mi, a, g, l, w, s) hV (show s < 2 ^ 20 by omega)) rfl) ?_
      exact mr_ret 1 (fun f => rfl)) ?_
  refine mr_seg 4 (pc1 := 41) (ls1 := [some (.ref 138), some (.int (nI p)), some (.int (nI y)), some (.int 0)]) (st1 := [.int 2, .int (nI p), .ref 140]) (M1 := (mk_M c n m kk (rT (he, ke, ki, fi, fa, or, mi, a, g, l, w, s) (er (ksteps y (he, ke, ki, fi, fa, or, mi, a, g, l, w, s))) xi xw im le nu rf ln nn vp xn xc vs))) (fun f => rfl) ?_
  refine mr_call (y := 141) (y0 := 44) (L := [some (.int (nI p)), some (.int 2)]) (rest := [.ref 140]) (rr := some (.int (nI (32 + 3 * p + 2)))) (M1 := (mk_M c n m kk (rT (he, ke, ki, fi, fa, or, mi, a, g, l, w, s) (er (ksteps y (he, ke, ki, fi, fa, or, mi, a, g, l, w, s))) xi xw im le nu rf ln nn vp xn xc vs))) (fun f => rfl) (rc_of p 2 (by omega) (by decide) _) ?_
  refine mr_ldn (xs := (er (ksteps y (he, ke, ki, fi, fa, or, mi, a, g, l, w, s)))) rfl rfl (k := 32 + 3 * p + 2) (by omega) (er_fa (K := ksteps y (he, ke, ki, fi, fa, or, mi, a, g, l, w, s)) (kV_he (kV_steps y hV)) (by omega)) ?_
  exact mr_ret 1 (fun f => rfl)
theorem oe_fallsThen_4 (he ke ki fi fa or : List Nat) (mi a g l w s : Nat) (m : kG) (kk : kG) (im : Nat) (le : List Nat) (ln : Nat) (ys : List Int32) (vt : Int32) (nu : List Nat) (nn : Nat) (rf : List Nat) (vw : Int32) (vq : Int32) (yc : List Int32) (yh : List Int32) (yg : List Int32) (xm : List Int32) (xi : List Int32) (xw : List Int32) (vp : Int32) (xn : List Int32) (xc : List Int32) (vs : Int32) (hA : iA (he, ke, ki, fi, fa, or, mi, a, g, l, w, s)) (hB : iB le ln) (hC : iC nu nn) (hD : iD rf) (hJ : iJ m ys yc yh yg) (hR : iR xm xw xn xc) (hK : iK im kk xi) (p : Nat) (hp : p < mi) (y : Nat) (hy1 : 0 ≤ y) (hy : y ≤ 60) : oI 78 171 [some (.ref 100), some (.int (nI p)), some (.int (nI y)), none] [some (.ref 138), some (.int (nI p)), some (.int (nI y)), none] (mk_M (cT im le ln ys vt nu nn rf vw vq yc yh yg) (kr (he, ke, ki, fi, fa, or, mi, a, g, l, w, s)) m kk (rT (he, ke, ki, fi, fa, or, mi, a, g, l, w, s) xm xi xw im le nu rf ln nn vp xn xc vs)) := by
  obtain ⟨hV, hst⟩ := id hA
  have hst2 : s ≤ 999 := hst
  obtain ⟨v1, v2, v3, v4, v5, v6, v7, v8, v9, v10, v11, v12, v13, v14, v15, v16⟩ := id hV
  have v6l := kO_len mi v7 or v6
  obtain ⟨b1, b2, b3⟩ := id hB
  obtain ⟨c1, c2, c3⟩ := id hC
  have d1 : rf.length = 7 := hD
  obtain ⟨j0, j1, j2, j3, j4⟩ := id hJ
  obtain ⟨r1, r2, r3, r4⟩ := id hR
  obtain ⟨k0, k1, k2, k3⟩ := id hK
  have e5 := kV_fa (kV_steps y hV)
  exact ⟨(nI (kg (k_fa (ksteps y (he, ke, ki, fi, fa, or, mi, a, g, l, w, s))) p)), _, _, oc_fallsThen_4 he ke ki fi fa or mi a g l w s im le ln ys vt nu nn rf vw vq yc yh yg m kk _ hA hB hC hD hJ hK.1 p hp y hy1 hy, om_fallsThen_4 he ke ki fi fa or mi a g l w s xm xi xw im le nu rf ln nn vp xn xc vs _ _ _ _ hA hB hC hD hR hK.2.1 p hp y hy1 hy, (he, ke, ki, fi, fa, or, mi, a, g, l, w, s), (kr (ksteps y (he, ke, ki, fi, fa, or, mi, a, g, l, w, s))), kk, im, le, ln, ys, vt, nu, nn, rf, vw, vq, yc, yh, yg, (er (ksteps y (he, ke, ki, fi, fa, or, mi, a, g, l, w, s))), xi, xw, vp, xn, xc, vs, rfl, hA, hB, hC, hD, ⟨kSh_r (kV_steps y hV), j1, j2, j3, j4⟩, ⟨er_len (kV_steps y hV), r2, r3, r4⟩, hK⟩
