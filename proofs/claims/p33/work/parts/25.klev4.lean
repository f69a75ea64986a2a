theorem mm_s_same {M : mm_H} {a : Nat} {c : mm_C} (h : mm_g M a = some c) : mm_s M (a - 100) c = M := by
  obtain ⟨h1, h2⟩ := mm_glt h
  rw [mm_s_eq]
  apply List.ext_getElem?
  intro i
  rw [List.getElem?_set]
  by_cases e : a - 100 = i
  · subst e
    rw [if_pos rfl, if_pos (List.getElem?_eq_some_iff.mp h2).1, h2]
  · rw [if_neg e]
theorem mm_s_s {M : mm_H} {k : Nat} {c d : mm_C} : mm_s (mm_s M k c) k d = mm_s M k d := by
  rw [mm_s_eq, mm_s_eq, mm_s_eq, List.set_set]
theorem mm_g_s {M : mm_H} {a : Nat} {c0 c : mm_C} (h : mm_g M a = some c0) : mm_g (mm_s M (a - 100) c) a = some c := by
  obtain ⟨h1, h2⟩ := mm_glt h
  refine mm_Kp.gi h1 ?_
  rw [mm_s_eq, List.getElem?_set_self (List.getElem?_eq_some_iff.mp h2).1]
theorem mm_g_sn {M : mm_H} {a b : Nat} {c0 c1 c : mm_C} (ha : mm_g M a = some c1) (h : mm_g M b = some c0) (hab : ¬ a = b) : mm_g (mm_s M (a - 100) c) b = some c0 := by
  obtain ⟨h1, h2⟩ := mm_glt h
  obtain ⟨h3, -⟩ := mm_glt ha
  refine mm_Kp.gi h1 ?_
  rw [mm_s_eq, List.getElem?_set_ne (by omega)]
  exact h2
theorem mm_ia_g {M : mm_H} {b : Nat} {xs : List Int32} (h : mm_g M b = some (.inr (.inl xs))) : mm_ia none M b = some xs := by
  obtain ⟨h1, -⟩ := mm_glt h
  unfold mm_ia
  have hb : Nat.beq b 0 = false := by
    cases hq : Nat.beq b 0 with
    | false => rfl
    | true => have := Nat.eq_of_beq_eq_true hq; omega
  rw [hb, h]
  rfl
theorem rc_copies0 {a b : Nat} {xs : List Int32} (hab : ¬ a = b) (hx : xs.length = 52) (k : Nat) : ∀ (j : Nat) (M : mm_H) (zs : List Int32), j + k = 52 → mm_g M a = some (.inr (.inl zs)) → mm_g M b = some (.inr (.inl xs)) → zs.length = 52 → (∀ i, i < j → zs[i]? = xs[i]?) → mm_R 138 2 [some (.ref b), some (.ref a), some (.int (nI j))] [] M (none, mm_s M (a - 100) (.inr (.inl xs))) := by
  induction k with
  | zero =>
    intro j M zs hj hga hgb hz ht
    have e : zs = xs := by
      apply List.ext_getElem?
      intro i
      by_cases hi : i < j
      · exact ht i hi
      · rw [List.getElem?_eq_none (by omega), List.getElem?_eq_none (by omega)]
    subst e
    refine mr_seg 2 (pc1 := 5) (ls1 := [some (.ref b), some (.ref a), some (.int (nI j))]) (st1 := [.int 52, .int (nI j)]) (M1 := M) (fun f => rfl) ?_
    refine mr_t (C := (52 : Int32) ≤ nI j) ((nI_leI (a := 52) (b := j) (by omega) (by omega)).mpr (by omega)) (fun f => rfl) ?_
    refine mr_eq (mr_ret 1 (o := (none, M)) (fun f => rfl)) ?_
    rw [mm_s_same hga]
  | succ k IH =>
    intro j M zs hj hga hgb hz ht
    refine mr_seg 2 (pc1 := 5) (ls1 := [some (.ref b), some (.ref a), some (.int (nI j))]) (st1 := [.int 52, .int (nI j)]) (M1 := M) (fun f => rfl) ?_
    refine mr_f (C := (52 : Int32) ≤ nI j) (fun e => absurd ((nI_leI (a := 52) (b := j) (by omega) (by omega)).mp e) (by omega)) (fun f => rfl) ?_
    refine mr_seg 4 (pc1 := 12) (ls1 := [some (.ref b), some (.ref a), some (.int (nI j))]) (st1 := [.int (nI j), .ref b, .int (nI j), .ref a]) (M1 := M) (fun f => rfl) ?_
    have hjx : j < xs.length := by omega
    refine mr_ldn (k := j) (v := xs[j]) rfl (mm_ia_g hgb) (by omega) (List.getElem?_eq_getElem hjx) ?_
    refine mr_stn (k := j) (ys := zs.set j xs[j]) (M2 := mm_s M (a - 100) (.inr (.inl (zs.set j xs[j])))) rfl hga (by omega) (by omega) rfl rfl ?_
    refine mr_seg 1 (pc1 := 17) (ls1 := [some (.ref b), some (.ref a), some (.int (nI j + 1))]) (st1 := []) (M1 := mm_s M (a - 100) (.inr (.inl (zs.set j xs[j])))) (fun f => rfl) ?_
    refine mr_l (fun q_ => [some (.ref b), some (.ref a), some (.int q_)]) (nI_add j 1) ?_
    refine mr_seg 1 (pc1 := 2) (ls1 := [some (.ref b), some (.ref a), some (.int (nI (j + 1)))]) (st1 := []) (M1 := mm_s M (a - 100) (.inr (.inl (zs.set j xs[j])))) (fun f => rfl) ?_
    have := IH (j + 1) (mm_s M (a - 100) (.inr (.inl (zs.set j xs[j])))) (zs.set j xs[j]) (by omega) (mm_g_s hga) (mm_g_sn hga hgb hab) (by rw [List.length_set]; exact hz) (fun i hi => ?_)
    · rw [mm_s_s] at this
      exact this
    · rw [List.getElem?_set]
      by_cases e : j = i
      · subst e
        rw [if_pos rfl, if_pos (by omega), List.getElem?_eq_getElem hjx]
      · rw [if_neg e]
        exact ht i (by omega)
theorem rc_copies {a b : Nat} {M : mm_H} {xs ys : List Int32} (hab : ¬ a = b) (hga : mm_g M a = some (.inr (.inl ys))) (hgb : mm_g M b = some (.inr (.inl xs))) (hx : xs.length = 52) (hy : ys.length = 52) : mm_R 138 0 [some (.ref b), some (.ref a), none] [] M (none, mm_s M (a - 100) (.inr (.inl xs))) := by
  refine mr_seg 2 (pc1 := 2) (ls1 := [some (.ref b), some (.ref a), some (.int 0)]) (st1 := []) (M1 := M) (fun f => rfl) ?_
  exact rc_copies0 hab hx 52 0 M ys (by omega) hga hgb hy (fun i hi => absurd hi (Nat.not_lt_zero i))
set_option maxRecDepth 100000 in
theorem cc_be_mn (he ke ki fi fa or : List Nat) (mi a g l w s : Nat) (c : cC) (m kk : kG) (q : cR) (hV : kV (he, ke, ki, fi, fa, or, mi, a, g, l, w, s)) (hm : kSh m) : mm_R 76 0 [some (.ref 124), some (.ref 117)] [] (mk_M c (kr (he, ke, ki, fi, fa, or, mi, a, g, l, w, s)) m kk q) (none, mk_M c (kr (he, ke, ki, fi, fa, or, mi, a, g, l, w, s)) (kr (he, ke, ki, fi, fa, or, mi, a, g, l, w, s)) kk q) := by
  obtain ⟨v1, v2, v3, v4, v5, v6, v7, v8, v9, v10, v11, v12, v13, v14, v15, v16⟩ := id hV
  have v6l := kO_len mi v7 or v6
  obtain ⟨hm1, hm2, hm3, hm4, hm5, hm6⟩ := id hm
  refine mr_seg 7 (pc1 := 12) (ls1 := [some (.ref 124), some (.ref 117)]) (st1 := [.int 25, .int 0, .ref 125, .int 0, .ref 118]) (M1 := (mk_M c (kr (he, ke, ki, fi, fa, or, mi, a, g, l, w, s)) m kk q)) (fun f => rfl) ?_
  refine mr_acp (xs := (he.map nI)) (M2 := (mk_M c (kr (he, ke, ki, fi, fa, or, mi, a, g, l, w, s)) ((he.map nI), m.2.1, m.2.2.1, m.2.2.2.1, m.2.2.2.2.1, m.2.2.2.2.2.1, m.2.2.2.2.2.2.1, m.2.2.2.2.2.2.2.1, m.2.2.2.2.2.2.2.2.1, m.2.2.2.2.2.2.2.2.2.1, m.2.2.2.2.2.2.2.2.2.2.1, m.2.2.2.2.2.2.2.2.2.2.2) kk q)) rfl rfl rfl (by decide) (by rw [List.length_map]; first | (rw [v1]; rfl) | (rw [v2]; rfl) | (rw [v3]; rfl) | (rw [v4]; rfl) | (rw [v5]; rfl) | (rw [v6l]; rfl)) (by rw [hm1]; rfl) rfl ?_
  refine mr_seg 7 (pc1 := 27) (ls1 := [some (.ref 124), some (.ref 117)]) (st1 := [.int 25, .int 0, .ref 126, .int 0, .ref 119]) (M1 := (mk_M c (kr (he, ke, ki, fi, fa, or, mi, a, g, l, w, s)) ((he.map nI), m.2.1, m.2.2.1, m.2.2.2.1, m.2.2.2.2.1, m.2.2.2.2.2.1, m.2.2.2.2.2.2.1, m.2.2.2.2.2.2.2.1, m.2.2.2.2.2.2.2.2.1, m.2.2.2.2.2.2.2.2.2.1, m.2.2.2.2.2.2.2.2.2.2.1, m.2.2.2.2.2.2.2.2.2.2.2) kk q)) (fun f => rfl) ?_
  refine mr_acp (xs := (ke.map nI)) (M2 := (mk_M c (kr (he, ke, ki, fi, fa, or, mi, a, g, l, w, s)) ((he.map nI), (ke.map nI), m.2.2.1, m.2.2.2.1, m.2.2.2.2.1, m.2.2.2.2.2.1, m.2.2.2.2.2.2.1, m.2.2.2.2.2.2.2.1, m.2.2.2.2.2.2.2.2.1, m.2.2.2.2.2.2.2.2.2.1, m.2.2.2.2.2.2.2.2.2.2.1, m.2.2.2.2.2.2.2.2.2.2.2) kk q)) rfl rfl rfl (by decide) (by rw [List.length_map]; first | (rw [v1]; rfl) | (rw [v2]; rfl) | (rw [v3]; rfl) | (rw [v4]; rfl) | (rw [v5]; rfl) | (rw [v6l]; rfl)) (by rw [hm2]; rfl) rfl ?_
  refine mr_seg 7 (pc1 := 41) (ls1 := [some (.ref 124), some (.ref 117)]) (st1 := [.int 5, .int 0, .ref 127, .int 0, .ref 120]) (M1 := (mk_M c (kr (he, ke, ki, fi, fa, or, mi, a, g, l, w, s)) ((he.map nI), (ke.map nI), m.2.2.1, m.2.2.2.1, m.2.2.2.2.1, m.2.2.2.2.2.1, m.2.2.2.2.2.2.1, m.2.2.2.2.2.2.2.1, m.2.2.2.2.2.2.2.2.1, m.2.2.2.2.2.2.2.2.2.1, m.2.2.2.2.2.2.2.2.2.2.1, m.2.2.2.2.2.2.2.2.2.2.2) kk q)) (fun f => rfl) ?_
  refine mr_acp (xs := (ki.map nI)) (M2 := (mk_M c (kr (he, ke, ki, fi, fa, or, mi, a, g, l, w, s)) ((he.map nI), (ke.map nI), (ki.map nI), m.2.2.2.1, m.2.2.2.2.1, m.2.2.2.2.2.1, m.2.2.2.2.2.2.1, m.2.2.2.2.2.2.2.1, m.2.2.2.2.2.2.2.2.1, m.2.2.2.2.2.2.2.2.2.1, m.2.2.2.2.2.2.2.2.2.2.1, m.2.2.2.2.2.2.2.2.2.2.2) kk q)) rfl rfl rfl (by decide) (by rw [List.length_map]; first | (rw [v1]; rfl) | (rw [v2]; rfl) | (rw [v3]; rfl) | (rw [v4]; rfl) | (rw [v5]; rfl) | (rw [v6l]; rfl)) (by rw [hm3]; rfl) rfl ?_
  refine mr_seg 7 (pc1 := 55) (ls1 := [some (.ref 124), some (.ref 117)]) (st1 := [.int 5, .int 0, .ref 128, .int 0, .ref 121]) (M1 := (mk_M c (kr (he, ke, ki, fi, fa, or, mi, a, g, l, w, s)) ((he.map nI), (ke.map nI), (ki.map nI), m.2.2.2.1, m.2.2.2.2.1, m.2.2.2.2.2.1, m.2.2.2.2.2.2.1, m.2.2.2.2.2.2.2.1, m.2.2.2.2.2.2.2.2.1, m.2.2.2.2.2.2.2.2.2.1, m.2.2.2.2.2.2.2.2.2.2.1, m.2.2.2.2.2.2.2.2.2.2.2) kk q)) (fun f => rfl) ?_
  refine mr_acp (xs := (fi.map nI)) (M2 := (mk_M c (kr (he, ke, ki, fi, fa, or, mi, a, g, l, w, s)) ((he.map nI), (ke.map nI), (ki.map nI), (fi.map nI), m.2.2.2.2.1, m.2.2.2.2.2.1, m.2.2.2.2.2.2.1, m.2.2.2.2.2.2.2.1, m.2.2.2.2.2.2.2.2.1, m.2.2.2.2.2.2.2.2.2.1, m.2.2.2.2.2.2.2.2.2.2.1, m.2.2.2.2.2.2.2.2.2.2.2) kk q)) rfl rfl rfl (by decide) (by rw [List.length_map]; first | (rw [v1]; rfl) | (rw [v2]; rfl) | (rw [v3]; rfl) | (rw [v4]; rfl) | (rw [v5]; rfl) | (rw [v6l]; rfl)) (by rw [hm4]; rfl) rfl ?_
  refine mr_seg 7 (pc1 := 69) (ls1 := [some (.ref 124), some (.ref 117)]) (st1 := [.int 5, .int 0, .ref 129, .int 0, .ref 122]) (M1 := (mk_M c (kr (he, ke, ki, fi, fa, or, mi, a, g, l, w, s)) ((he.map nI), (ke.map nI), (ki.map nI), (fi.map nI), m.2.2.2.2.1, m.2.2.2.2.2.1, m.2.2.2.2.2.2.1, m.2.2.2.2.2.2.2.1, m.2.2.2.2.2.2.2.2.1, m.2.2.2.2.2.2.2.2.2.1, m.2.2.2.2.2.2.2.2.2.2.1, m.2.2.2.2.2.2.2.2.2.2.2) kk q)) (fun f => rfl) ?_
  refine mr_acp (xs := (fa.map nI)) (M2 := (mk_M c (kr (he, ke, ki, fi, fa, or, mi, a, g, l, w, s)) ((he.map nI), (ke.map nI), (ki.map nI), (fi.map nI), (fa.map nI), m.2.2.2.2.2.1, m.2.2.2.2.2.2.1, m.2.2.2.2.2.2.2.1, m.2.2.2.2.2.2.2.2.1, m.2.2.2.2.2.2.2.2.2.1, m.2.2.2.2.2.2.2.2.2.2.1, m.2.2.2.2.2.2.2.2.2.2.2) kk q)) rfl rfl rfl (by decide) (by rw [List.length_map]; first | (rw [v1]; rfl) | (rw [v2]; rfl) | (rw [v3]; rfl) | (rw [v4]; rfl) | (rw [v5]; rfl) | (rw [v6l]; rfl)) (by rw [hm5]; rfl) rfl ?_
  refine mr_seg 7 (pc1 := 83) (ls1 := [some (.ref 124), some (.ref 117)]) (st1 := [.int 5, .int 0, .ref 130, .int 0, .ref 123]) (M1 := (mk_M c (kr (he, ke, ki, fi, fa, or, mi, a, g, l, w, s)) ((he.map nI), (ke.map nI), (ki.map nI), (fi.map nI), (fa.map nI), m.2.2.2.2.2.1, m.2.2.2.2.2.2.1, m.2.2.2.2.2.2.2.1, m.2.2.2.2.2.2.2.2.1, m.2.2.2.2.2.2.2.2.2.1, m.2.2.2.2.2.2.2.2.2.2.1, m.2.2.2.2.2.2.2.2.2.2.2) kk q)) (fun f => rfl) ?_
  refine mr_acp (xs := (or.map nI)) (M2 := (mk_M c (kr (he, ke, ki, fi, fa, or, mi, a, g, l, w, s)) ((he.map nI), (ke.map nI), (ki.map nI), (fi.map nI), (fa.map nI), (or.map nI), m.2.2.2.2.2.2.1, m.2.2.2.2.2.2.2.1, m.2.2.2.2.2.2.2.2.1, m.2.2.2.2.2.2.2.2.2.1, m.2.2.2.2.2.2.2.2.2.2.1, m.2.2.2.2.2.2.2.2.2.2.2) kk q)) rfl rfl rfl (by decide) (by rw [List.length_map]; first | (rw [v1]; rfl) | (rw [v2]; rfl) | (rw [v3]; rfl) | (rw [v4]; rfl) | (rw [v5]; rfl) | (rw [v6l]; rfl)) (by rw [hm6]; rfl) rfl ?_
  exact mr_ret 25 (fun f => rfl)
set_option maxRecDepth 100000 in
theorem cc_be_kn (he ke ki fi fa or : List Nat) (mi a g l w s : Nat) (c : cC) (m kk : kG) (q : cR) (hV : kV (he, ke, ki, fi, fa, or, mi, a, g, l, w, s)) (hkk : kSh kk) : mm_R 76 0 [some (.ref 131), some (.ref 117)] [] (mk_M c (kr (he, ke, ki, fi, fa, or, mi, a, g, l, w, s)) m kk q) (none, mk_M c (kr (he, ke, ki, fi, fa, or, mi, a, g, l, w, s)) m (kr (he, ke, ki, fi, fa, or, mi, a, g, l, w, s)) q) := by
  obtain ⟨v1, v2, v3, v4, v5, v6, v7, v8, v9, v10, v11, v12, v13, v14, v15, v16⟩ := id hV
  have v6l := kO_len mi v7 or v6
  obtain ⟨hkk1, hkk2, hkk3, hkk4, hkk5, hkk6⟩ := id hkk
  refine mr_seg 7 (pc1 := 12) (ls1 := [some (.ref 131), some (.ref 117)]) (st1 := [.int 25, .int 0, .ref 132, .int 0, .ref 118]) (M1 := (mk_M c (kr (he, ke, ki, fi, fa, or, mi, a, g, l, w, s)) m kk q)) (fun f => rfl) ?_
  refine mr_acp (xs := (he.map nI)) (M2 := (mk_M c (kr (he, ke, ki, fi, fa, or, mi, a, g, l, w, s)) m ((he.map nI), kk.2.1, kk.2.2.1, kk.2.2.2.1, kk.2.2.2.2.1, kk.2.2.2.2.2.1, kk.2.2.2.2.2.2.1, kk.2.2.2.2.2.2.2.1, kk.2.2.2.2.2.2.2.2.1, kk.2.2.2.2.2.2.2.2.2.1, kk.2.2.2.2.2.2.2.2.2.2.1, kk.2.2.2.2.2.2.2.2.2.2.2) q)) rfl rfl rfl (by decide) (by rw [List.length_map]; first | (rw [v1]; rfl) | (rw [v2]; rfl) | (rw [v3]; rfl) | (rw [v4]; rfl) | (rw [v5]; rfl) | (rw [v6l]; rfl)) (by rw [hkk1]; rfl) rfl ?_
  refine mr_seg 7 (pc1 := 27) (ls1 := [some (.ref 131), some (.ref 117)]) (st1 := [.int 25, .int 0, .ref 133, .int 0, .ref 119]) (M1 := (mk_M c (kr (he, ke, ki, fi, fa, or, mi, a, g, l, w, s)) m ((he.map nI), kk.2.1, kk.2.2.1, kk.2.2.2.1, kk.2.2.2.2.1, kk.2.2.2.2.2.1, kk.2.2.2.2.2.2.1, kk.2.2.2.2.2.2.2.1, kk.2.2.2.2.2.2.2.2.1, kk.2.2.2.2.2.2.2.2.2.1, kk.2.2.2.2.2.2.2.2.2.2.1, kk.2.2.2.2.2.2.2.2.2.2.2) q)) (fun f => rfl) ?_
  refine mr_acp (xs := (ke.map nI)) (M2 := (mk_M c (kr (he, ke, ki, fi, fa, or, mi, a, g, l, w, s)) m ((he.map nI), (ke.map nI), kk.2.2.1, kk.2.2.2.1, kk.2.2.2.2.1, kk.2.2.2.2.2.1, kk.2.2.2.2.2.2.1, kk.2.2.2.2.2.2.2.1, kk.2.2.2.2.2.2.2.2.1, kk.2.2.2.2.2.2.2.2.2.1, kk.2.2.2.2.2.2.2.2.2.2.1, kk.2.2.2.2.2.2.2.2.2.2.2) q)) rfl rfl rfl (by decide) (by rw [List.length_map]; first | (rw [v1]; rfl) | (rw [v2]; rfl) | (rw [v3]; rfl) | (rw [v4]; rfl) | (rw [v5]; rfl) | (rw [v6l]; rfl)) (by rw [hkk2]; rfl) rfl ?_
  refine mr_seg 7 (pc1 := 41) (ls1 := [some (.ref 131), some (.ref 117)]) (st1 := [.int 5, .int 0, .ref 134, .int 0, .ref 120]) (M1 := (mk_M c (kr (he, ke, ki, fi, fa, or, mi, a, g, l, w, s)) m ((he.map nI), (ke.map nI), kk.2.2.1, kk.2.2.2.1, kk.2.2.2.2.1, kk.2.2.2.2.2.1, kk.2.2.2.2.2.2.1, kk.2.2.2.2.2.2.2.1, kk.2.2.2.2.2.2.2.2.1, kk.2.2.2.2.2.2.2.2.2.1, kk.2.2.2.2.2.2.2.2.2.2.1, kk.2.2.2.2.2.2.2.2.2.2.2) q)) (fun f => rfl) ?_
  refine mr_acp (xs := (ki.map nI)) (M2 := (mk_M c (kr (he, ke, ki, fi, fa, or, mi, a, g, l, w, s)) m ((he.map nI), (ke.map nI), (ki.map nI), kk.2.2.2.1, kk.2.2.2.2.1, kk.2.2.2.2.2.1, kk.2.2.2.2.2.2.1, kk.2.2.2.2.2.2.2.1, kk.2.2.2.2.2.2.2.2.1, kk.2.2.2.2.2.2.2.2.2.1, kk.2.2.2.2.2.2.2.2.2.2.1, kk.2.2.2.2.2.2.2.2.2.2.2) q)) rfl rfl rfl (by decide) (by rw [List.length_map]; first | (rw [v1]; rfl) | (rw [v2]; rfl) | (rw [v3]; rfl) | (rw [v4]; rfl) | (rw [v5]; rfl) | (rw [v6l]; rfl)) (by rw [hkk3]; rfl) rfl ?_
  refine mr_seg 7 (pc1 := 55) (ls1 := [some (.ref 131), some (.ref 117)]) (st1 := [.int 5, .int 0, .ref 135, .int 0, .ref 121]) (M1 := (mk_M c (kr (he, ke, ki, fi, fa, or, mi, a, g, l, w, s)) m ((he.map nI), (ke.map nI), (ki.map nI), kk.2.2.2.1, kk.2.2.2.2.1, kk.2.2.2.2.2.1, kk.2.2.2.2.2.2.1, kk.2.2.2.2.2.2.2.1, kk.2.2.2.2.2.2.2.2.1, kk.2.2.2.2.2.2.2.2.2.1, kk.2.2.2.2.2.2.2.2.2.2.1, kk.2.2.2.2.2.2.2.2.2.2.2) q)) (fun f => rfl) ?_
  refine mr_acp (xs := (fi.map nI)) (M2 := (mk_M c (kr (he, ke, ki, fi, fa, or, mi, a, g, l, w, s)) m ((he.map nI), (ke.map nI), (ki.map nI), (fi.map nI), kk.2.2.2.2.1, kk.2.2.2.2.2.1, kk.2.2.2.2.2.2.1, kk.2.2.2.2.2.2.2.1, kk.2.2.2.2.2.2.2.2.1, kk.2.2.2.2.2.2.2.2.2.1, kk.2.2.2.2.2.2.2.2.2.2.1, kk.2.2.2.2.2.2.2.2.2.2.2) q)) rfl rfl rfl (by decide) (by rw [List.length_map]; first | (rw [v1]; rfl) | (rw [v2]; rfl) | (rw [v3]; rfl) | (rw [v4]; rfl) | (rw [v5]; rfl) | (rw [v6l]; rfl)) (by rw [hkk4]; rfl) rfl ?_
  refine mr_seg 7 (pc1 := 69) (ls1 := [some (.ref 131), some (.ref 117)]) (st1 := [.int 5, .int 0, .ref 136, .int 0, .ref 122]) (M1 := (mk_M c (kr (he, ke, ki, fi, fa, or, mi, a, g, l, w, s)) m ((he.map nI), (ke.map nI), (ki.map nI), (fi.map nI), kk.2.2.2.2.1, kk.2.2.2.2.2.1, kk.2.2.2.2.2.2.1, kk.2.2.2.2.2.2.2.1, kk.2.2.2.2.2.2.2.2.1, kk.2.2.2.2.2.2.2.2.2.1, kk.2.2.2.2.2.2.2.2.2.2.1, kk.2.2.2.2.2.2.2.2.2.2.2) q)) (fun f => rfl) ?_
  refine mr_acp (xs := (fa.map nI)) (M2 := (mk_M c (kr (he, ke, ki, fi, fa, or, mi, a, g, l, w, s)) m ((he.map nI), (ke.map nI), (ki.map nI), (fi.map nI), (fa.map nI), kk.2.2.2.2.2.1, kk.2.2.2.2.2.2.1, kk.2.2.2.2.2.2.2.1, kk.2.2.2.2.2.2.2.2.1, kk.2.2.2.2.2.2.2.2.2.1, kk.2.2.2.2.2.2.2.2.2.2.1, kk.2.2.2.2.2.2.2.2.2.2.2) q)) rfl rfl rfl (by decide) (by rw [List.length_map]; first | (rw [v1]; rfl) | (rw [v2]; rfl) | (rw [v3]; rfl) | (rw [v4]; rfl) | (rw [v5]; rfl) | (rw [v6l]; rfl)) (by rw [hkk5]; rfl) rfl ?_
  refine mr_seg 7 (pc1 := 83) (ls1 := [some (.ref 131), some (.ref 117)]) (st1 := [.int 5, .int 0, .ref 137, .int 0, .ref 123]) (M1 := (mk_M c (kr (he, ke, ki, fi, fa, or, mi, a, g, l, w, s)) m ((he.map nI), (ke.map nI), (ki.map nI), (fi.map nI), (fa.map nI), kk.2.2.2.2.2.1, kk.2.2.2.2.2.2.1, kk.2.2.2.2.2.2.2.1, kk.2.2.2.2.2.2.2.2.1, kk.2.2.2.2.2.2.2.2.2.1, kk.2.2.2.2.2.2.2.2.2.2.1, kk.2.2.2.2.2.2.2.2.2.2.2) q)) (fun f => rfl) ?_
  refine mr_acp (xs := (or.map nI)) (M2 := (mk_M c (kr (he, ke, ki, fi, fa, or, mi, a, g, l, w, s)) m ((he.map nI), (ke.map nI), (ki.map nI), (fi.map nI), (fa.map nI), (or.map nI), kk.2.2.2.2.2.2.1, kk.2.2.2.2.2.2.2.1, kk.2.2.2.2.2.2.2.2.1, kk.2.2.2.2.2.2.2.2.2.1, kk.2.2.2.2.2.2.2.2.2.2.1, kk.2.2.2.2.2.2.2.2.2.2.2) q)) rfl rfl rfl (by decide) (by rw [List.length_map]; first | (rw [v1]; rfl) | (rw [v2]; rfl) | (rw [v3]; rfl) | (rw [v4]; rfl) | (rw [v5]; rfl) | (rw [v6l]; rfl)) (by rw [hkk6]; rfl) rfl ?_
  exact mr_ret 25 (fun f => rfl)
set_option maxRecDepth 100000 in
theorem cc_be_nk (he ke ki fi fa or : List Nat) (mi a g l w s : Nat) (c : cC) (n m : kG) (q : cR) (hV : kV (he, ke, ki, fi, fa, or, mi, a, g, l, w, s)) (hn : kSh n) : mm_R 76 0 [some (.ref 117), some (.ref 131)] [] (mk_M c n m (kr (he, ke, ki, fi, fa, or, mi, a, g, l, w, s)) q) (none, mk_M c (kr (he, ke, ki, fi, fa, or, mi, a, g, l, w, s)) m (kr (he, ke, ki, fi, fa, or, mi, a, g, l, w, s)) q) := by
  obtain ⟨v1, v2, v3, v4, v5, v6, v7, v8, v9, v10, v11, v12, v13, v14, v15, v16⟩ := id hV
  have v6l := kO_len mi v7 or v6
  obtain ⟨hn1, hn2, hn3, hn4, hn5, hn6⟩ := id hn
  refine mr_seg 7 (pc1 := 12) (ls1 := [some (.ref 117), some (.ref 131)]) (st1 := [.int 25, .int 0, .ref 118, .int 0, .ref 132]) (M1 := (mk_M c n m (kr (he, ke, ki, fi, fa, or, mi, a, g, l, w, s)) q)) (fun f => rfl) ?_
  refine mr_acp (xs := (he.map nI)) (M2 := (mk_M c ((he.map nI), n.2.1, n.2.2.1, n.2.2.2.1, n.2.2.2.2.1, n.2.2.2.2.2.1, n.2.2.2.2.2.2.1, n.2.2.2.2.2.2.2.1, n.2.2.2.2.2.2.2.2.1, n.2.2.2.2.2.2.2.2.2.1, n.2.2.2.2.2.2.2.2.2.2.1, n.2.2.2.2.2.2.2.2.2.2.2) m (kr (he, ke, ki, fi, fa, or, mi, a, g, l, w, s)) q)) rfl rfl rfl (by decide) (by rw [List.length_map]; first | (rw [v1]; rfl) | (rw [v2]; rfl) | (rw [v3]; rfl) | (rw [v4]; rfl) | (rw [v5]; rfl) | (rw [v6l]; rfl)) (by rw [hn1]; rfl) rfl ?_
  refine mr_seg 7 (pc1 := 27) (ls1 := [some (.ref 117), some (.ref 131)]) (st1 := [.int 25, .int 0, .ref 119, .int 0, .ref 133]) (M1 := (mk_M c ((he.map nI), n.2.1, n.2.2.1, n.2.2.2.1, n.2.2.2.2.1, n.2.2.2.2.2.1, n.2.2.2.2.2.2.1, n.2.2.2.2.2.2.2.1, n.2.2.2.2.2.2.2.2.1, n.2.2.2.2.2.2.2.2.2.1, n.2.2.2.2.2.2.2.2.2.2.1, n.2.2.2.2.2.2.2.2.2.2.2) m (kr (he, ke, ki, fi, fa, or, mi, a, g, l, w, s)) q)) (fun f => rfl) ?_
  refine mr_acp (xs := (ke.map nI)) (M2 := (mk_M c ((he.map nI), (ke.map nI), n.2.2.1, n.2.2.2.1, n.2.2.2.2.1, n.2.2.2.2.2.1, n.2.2.2.2.2.2.1, n.2.2.2.2.2.2.2.1, n.2.2.2.2.2.2.2.2.1, n.2.2.2.2.2.2.2.2.2.1, n.2.2.2.2.2.2.2.2.2.2.1, n.2.2.2.2.2.2.2.2.2.2.2) m (kr (he, ke, ki, fi, fa, or, mi, a, g, l, w, s)) q)) rfl rfl rfl (by decide) (by rw [List.length_map]; first | (rw [v1]; rfl) | (rw [v2]; rfl) | (rw [v3]; rfl) | (rw [v4]; rfl) | (rw [v5]; rfl) | (rw [v6l]; rfl)) (by rw [hn2]; rfl) rfl ?_
  refine mr_seg 7 (pc1 := 41) (ls1 := [some (.ref 117), some (.ref 131)]) (st1 := [.int 5, .int 0, .ref 120, .int 0, .ref 134]) (M1 := (mk_M c ((he.map nI), (ke.map nI), n.2.2.1, n.2.2.2.1, n.2.2.2.2.1, n.2.2.2.2.2.1, n.2.2.2.2.2.2.1, n.2.2.2.2.2.2.2.1, n.2.2.2.2.2.2.2.2.1, n.2.2.2.2.2.2.2.2.2.1, n.2.2.2.2.2.2.2.2.2.2.1, n.2.2.2.2.2.2.2.2.2.2.2) m (kr (he, ke, ki, fi, fa, or, mi, a, g, l, w, s)) q)) (fun f => rfl) ?_
  refine mr_acp (xs := (ki.map nI)) (M2 := (mk_M c ((he.map nI), (ke.map nI), (ki.map nI), n.2.2.2.1, n.2.2.2.2.1, n.2.2.2.2.2.1, n.2.2.2.2.2.2.1, n.2.2.2.2.2.2.2.1, n.2.2.2.2.2.2.2.2.1, n.2.2.2.2.2.2.2.2.2.1, n.2.2.2.2.2.2.2.2.2.2.1, n.2.2.2.2.2.2.2.2.2.2.2) m (kr (he, ke, ki, fi, fa, or, mi, a, g, l, w, s)) q)) rfl rfl rfl (by decide) (by rw [List.length_map]; first | (rw [v1]; rfl) | (rw [v2]; rfl) | (rw [v3]; rfl) | (rw [v4]; rfl) | (rw [v5]; rfl) | (rw [v6l]; rfl)) (by rw [hn3]; rfl) rfl ?_
  refine mr_seg 7 (pc1 := 55) (ls1 := [some (.ref 117), some (.ref 131)]) (st1 := [.int 5, .int 0, .ref 121, .int 0, .ref 135]) (M1 := (mk_M c ((he.map nI), (ke.map nI), (ki.map nI), n.2.2.2.1, n.2.2.2.2.1, n.2.2.2.2.2.1, n.2.2.2.2.2.2.1, n.2.2.2.2.2.2.2.1, n.2.2.2.2.2.2.2.2.1, n.2.2.2.2.2.2.2.2.2.1, n.2.2.2.2.2.2.2.2.2.2.1, n.2.2.2.2.2.2.2.2.2.2.2) m (kr (he, ke, ki, fi, fa, or, mi, a, g, l, w, s)) q)) (fun f => rfl) ?_
  refine mr_acp (xs := (fi.map nI)) (M2 := (mk_M c ((he.map nI), (ke.map nI), (ki.map nI), (fi.map nI), n.2.2.2.2.1, n.2.2.2.2.2.1, n.2.2.2.2.2.2.1, n.2.2.2.2.2.2.2.1, n.2.2.2.2.2.2.2.2.1, n.2.2.2.2.2.2.2.2.2.1, n.2.2.2.2.2.2.2.2.2.2.1, n.2.2.2.2.2.2.2.2.2.2.2) m (kr (he, ke, ki, fi, fa, or, mi, a, g, l, w, s)) q)) rfl rfl rfl (by decide) (by rw [List.length_map]; first | (rw [v1]; rfl) | (rw [v2]; rfl) | (rw [v3]; rfl) | (rw [v4]; rfl) | (rw [v5]; rfl) | (rw [v6l]; rfl)) (by rw [hn4]; rfl) rfl ?_
  refine mr_seg 7 (pc1 := 69) (ls1 := [some (.ref 117), some (.ref 131)]) (st1 := [.int 5, .int 0, .ref 122, .int 0, .ref 136]) (M1 := (mk_M c ((he.map nI), (ke.map nI), (ki.map nI), (fi.map nI), n.2.2.2.2.1, n.2.2.2.2.2.1, n.2.2.2.2.2.2.1, n.2.2.2.2.2.2.2.1, n.2.2.2.2.2.2.2.2.1, n.2.2.2.2.2.2.2.2.2.1, n.2.2.2.2.2.2.2.2.2.2.1, n.2.2.2.2.2.2.2.2.2.2.2) m (kr (he, ke, ki, fi, fa, or, mi, a, g, l, w, s)) q)) (fun f => rfl) ?_
  refine mr_acp (xs := (fa.map nI)) (M2 := (mk_M c ((he.map nI), (ke.map nI), (ki.map nI), (fi.map nI), (fa.map nI), n.2.2.2.2.2.1, n.2.2.2.2.2.2.1, n.2.2.2.2.2.2.2.1, n.2.2.2.2.2.2.2.2.1, n.2.2.2.2.2.2.2.2.2.1, n.2.2.2.2.2.2.2.2.2.2.1, n.2.2.2.2.2.2.2.2.2.2.2) m (kr (he, ke, ki, fi, fa, or, mi, a, g, l, w, s)) q)) rfl rfl rfl (by decide) (by rw [List.length_map]; first | (rw [v1]; rfl) | (rw [v2]; rfl) | (rw [v3]; rfl) | (rw [v4]; rfl) | (rw [v5]; rfl) | (rw [v6l]; rfl)) (by rw [hn5]; rfl) rfl ?_
  refine mr_seg 7 (pc1 := 83) (ls1 := [some (.ref 117), some (.ref 131)]) (st1 := [.int 5, .int 0, .ref 123, .int 0, .ref 137]) (M1 := (mk_M c ((he.map nI), (ke.map nI), (ki.map nI), (fi.map nI), (fa.map nI), n.2.2.2.2.2.1, n.2.2.2.2.2.2.1, n.2.2.2.2.2.2.2.1, n.2.2.2.2.2.2.2.2.1, n.2.2.2.2.2.2.2.2.2.1, n.2.2.2.2.2.2.2.2.2.2.1, n.2.2.2.2.2.2.2.2.2.2.2) m (kr (he, ke, ki, fi, fa, or, mi, a, g, l, w, s)) q)) (fun f => rfl) ?_
  refine mr_acp (xs := (or.map nI)) (M2 := (mk_M c ((he.map nI), (ke.map nI), (ki.map nI), (fi.map nI), (fa.map nI), (or.map nI), n.2.2.2.2.2.2.1, n.2.2.2.2.2.2.2.1, n.2.2.2.2.2.2.2.2.1, n.2.2.2.2.2.2.2.2.2.1, n.2.2.2.2.2.2.2.2.2.2.1, n.2.2.2.2.2.2.2.2.2.2.2) m (kr (he, ke, ki, fi, fa, or, mi, a, g, l, w, s)) q)) rfl rfl rfl (by decide) (by rw [List.length_map]; first | (rw [v1]; rfl) | (rw [v2]; rfl) | (rw [v3]; rfl) | (rw [v4]; rfl) | (rw [v5]; rfl) | (rw [v6l]; rfl)) (by rw [hn6]; rfl) rfl ?_
  exact mr_ret 25 (fun f => rfl)
set_option maxRecDepth 100000 in
theorem cc_now0 (he ke ki fi fa or : List Nat) (mi a g l w s : Nat) (c : cC) (m kk : kG) (q : cR) (hV : kV (he, ke, ki, fi, fa, or, mi, a, g, l, w, s)) (hm : kSh m) : mm_R 75 0 [some (.ref 100)] [] (mk_M c (kr (he, ke, ki, fi, fa, or, mi, a, g, l, w, s)) m kk q) (some (.ref 124), mk_M c (kr (he, ke, ki, fi, fa, or, mi, a, g, l, w, s)) (kr (he, ke, ki, fi, fa, or, mi, a, g, l, w, s)) kk q) := by
  refine mr_seg 4 (pc1 := 8) (ls1 := [some (.ref 100)]) (st1 := [.ref 117, .ref 124]) (M1 := (mk_M c (kr (he, ke, ki, fi, fa, or, mi, a, g, l, w, s)) m kk q)) (fun f => rfl) ?_
  refine mr_call (y := 76) (y0 := 11) (L := [some (.ref 124), some (.ref 117)]) (rest := []) (rr := none) (M1 := (mk_M c (kr (he, ke, ki, fi, fa, or, mi, a, g, l, w, s)) (kr (he, ke, ki, fi, fa, or, mi, a, g, l, w, s)) kk q)) (fun f => rfl) (cc_be_mn he ke ki fi fa or mi a g l w s c m kk q hV hm) ?_
  exact mr_ret 3 (fun f => rfl)
theorem cc_now (K : kK) (c : cC) (m kk : kG) (q : cR) (hV : kV K) (hm : kSh m) : mm_R 75 0 [some (.ref 100)] [] (mk_M c (kr K) m kk q) (some (.ref 124), mk_M c (kr K) (kr K) kk q) := by
  obtain ⟨he, ke, ki, fi, fa, or, mi, a, g, l, w, s⟩ := K
  exact cc_now0 he ke ki fi fa or mi a g l w s c m kk q hV hm
