theorem mm_s_same {M : mm_H} {a : Nat} {c : mm_C} (h : mm_g M a = some c) : mm_s M (a - 100) c = M := by
  obtain ⟨h1, h2⟩ := mm_glt h
  rw [mm_s_eq]
  apply List.ext_getElem?
  intro i
  rw [List.getElem?_set]
  by_cases e : a - 100 = i
  · subst e
    rw [if_pos rfl, if_pos (List.getElem?_eq_some_iff.mp h2).1, h2]
  · rw [if_neg e]
theorem mm_s_s {M : mm_H} {k : Nat} {c d : mm_C} : mm_s (mm_s M k c) k d = mm_s M k d := by
  rw [mm_s_eq, mm_s_eq, mm_s_eq, List.set_set]
theorem mm_g_s {M : mm_H} {a : Nat} {c0 c : mm_C} (h : mm_g M a = some c0) : mm_g (mm_s M (a - 100) c) a = some c := by
  obtain ⟨h1, h2⟩ := mm_glt h
  refine mm_Kp.gi h1 ?_
  rw [mm_s_eq, List.getElem?_set_self (List.getElem?_eq_some_iff.mp h2).1]
theorem mm_g_sn {M : mm_H} {a b : Nat} {c0 c1 c : mm_C} (ha : mm_g M a = some c1) (h : mm_g M b = some c0) (hab : ¬ a = b) : mm_g (mm_s M (a - 100) c) b = some c0 := by
  obtain ⟨h1, h2⟩ := mm_glt h
  obtain ⟨h3, -⟩ := mm_glt ha
  refine mm_Kp.gi h1 ?_
  rw [mm_s_eq, List.getElem?_set_ne (by omega)]
  exact h2
theorem mm_ia_g {M : mm_H} {b : Nat} {xs : List Int32} (h : mm_g M b = some (.inr (.inl xs))) : mm_ia none M b = some xs := by
  obtain ⟨h1, -⟩ := mm_glt h
  unfold mm_ia
  have hb : Nat.beq b 0 = false := by
    cases hq : Nat.beq b 0 with
    | false => rfl
    | true => have := Nat.eq_of_beq_eq_true hq; omega
  rw [hb, h]
  rfl
theorem rc_copies0 {a b : Nat} {xs : List Int32} (hab : ¬ a = b) (hx : xs.length = 52) (k : Nat) : ∀ (j : Nat) (M : mm_H) (zs : List Int32), j + k = 52 → mm_g M a = some (.inr (.inl zs)) → mm_g M b = some (.inr (.inl xs)) → zs.length = 52 → (∀ i, i < j → zs[i]? = xs[i]?) → mm_R 138 2 [some (.ref b), some (.ref a), some (.int (nI j))] [] M (none, mm_s M (a - 100) (.inr (.inl xs))) := by
  induction k with
  | zero =>
    intro j M zs hj hga hgb hz ht
    have e : zs = xs := by
      apply List.ext_getElem?
      intro i
      by_cases hi : i < j
      · exact ht i hi
      · rw [List.getElem?_eq_none (by omega), List.getElem?_eq_none (by omega)]
    subst e
    refine mr_seg 2 (pc1 := 5) (ls1 := [some (.ref b), some (.ref a), some (.int (nI j))]) (st1 := [.int 52, .int (nI j)]) (M1 := M) (fun f => rfl) ?_
    refine mr_t (C := (52 : Int32) ≤ nI j) ((nI_leI (a := 52) (b := j) (by omega) (by omega)).mpr (by omega)) (fun f => rfl) ?_
    refine mr_eq (mr_ret 1 (o := (none, M)) (fun f => rfl)) ?_
    rw [mm_s_same hga]
  | succ k IH =>
    intro j M zs hj hga hgb hz ht
    refine mr_seg 2 (pc1 := 5) (ls1 := [some (.ref b), some (.ref a), some (.int (nI j))]) (st1 := [.int 52, .int (nI j)]) (M1 := M) (fun f => rfl) ?_
    refine mr_f (C := (52 : Int32) ≤ nI j) (fun e => absurd ((nI_leI (a := 52) (b := j) (by omega) (by omega)).mp e) (by omega)) (fun f => rfl) ?_
    refine mr_seg 4 (pc1 := 12) (ls1 := [some (.ref b), some (.ref a), some (.int (nI j))]) (st1 := [.int (nI j), .ref b, .int (nI j), .ref a]) (M1 := M) (fun f => rfl) ?_
    have hjx : j < xs.length := by omega
    refine mr_ldn (k := j) (v := xs[j]) rfl (mm_ia_g hgb) (by omega) (List.getElem?_eq_getElem hjx) ?_
    refine mr_stn (k := j) (ys := zs.set j xs[j]) (M2 := mm_s M (a - 100) (.inr (.inl (zs.set j xs[j])))) rfl hga (by omega) (by omega) rfl rfl ?_
    refine mr_seg 1 (pc1 := 17) (ls1 := [some (.ref b), some (.ref a), some (.int (nI j + 1))]) (st1 := []) (M1 := mm_s M (a - 100) (.inr (.inl (zs.set j xs[j])))) (fun f => rfl) ?_
    refine mr_l (fun q_ => [some (.ref b), some (.ref a), some (.int q_)]) (nI_add j 1) ?_
    refine mr_seg 1 (pc1 := 2) (ls1 := [some (.ref b), some (.ref a), some (.int (nI (j + 1)))]) (st1 := []) (M1 := mm_s M (a - 100) (.inr (.inl (zs.set j xs[j])))) (fun f => rfl) ?_
    have := IH (j + 1) (mm_s M (a - 100) (.inr (.inl (zs.set j xs[j])))) (zs.set j xs[j]) (by omega) (mm_g_s hga) (mm_g_sn hga hgb hab) (by rw [List.length_set]; exact hz) (fun i hi => ?_)
    · rw [mm_s_s] at this
      exact this
    · rw [List.getElem?_set]
      by_cases e : j = i
      · subst e
        rw [if_pos rfl, if_pos (by omega), List.getElem?_eq_getElem hjx]
      · rw [if_neg e]
        exact ht i (by omega)
theorem rc_copies {a b : Nat} {M : mm_H} {xs ys : List Int32} (hab : ¬ a = b) (hga : mm_g M a = some (.inr (.inl ys))) (hgb : mm_g M b = some (.inr (.inl xs))) (hx : xs.length = 52) (hy : ys.length = 52) : mm_R 138 0 [some (.ref b), some (.ref a), none] [] M (none, mm_s M (a - 100) (.inr (.inl xs))) := by
  refine mr_seg 2 (pc1 := 2) (ls1 := [some (.ref b), some (.ref a), some (.int 0)]) (st1 := []) (M1 := M) (fun f => rfl) ?_
  exact rc_copies0 hab hx 52 0 M ys (by omega) hga hgb hy (fun i hi => absurd hi (Nat.not_lt_zero i))
set_option maxRecDepth 100000 in
theorem cc_be_mn (he ke ki fi fa or : List Nat) (mi a g l w s : Nat) (c : cC) (m kk : kG) (q : cR) (hV : kV (he, ke, ki, fi, fa, or, mi, a, g, l, w, s)) (hm : kSh m) : mm_R 76 0 [some (.ref 124), some (.ref 117)] [] (mk_M c (kr (he, ke, ki, fi, fa, or, mi, a, g, l, w, s)) m kk q) (none, mk_M c (kr (he, ke, ki, fi, fa, or, mi, a, g, l, w, s)) (kr (he, ke, ki, fi, fa, or, mi, a, g, l, w, s)) kk q) := by
  obtain ⟨v1, v2, v3, v4, v5, v6, v7, v8, v9, v10, v11, v12, v13, v14, v15, v16⟩ := id hV
  have v6l := kO_len mi v7 or v6
  obtain ⟨hm1, hm2, hm3, hm4, hm5, hm6⟩ := id hm
  refine mr_seg 7 (pc1 := 12) (ls1 := [some (.ref 124), some (.ref 117)]) (st1 := [.int 25, .int 0, .ref 125, .int 0, .ref 118]) (M1 := (mk_M c (kr (he, ke, ki, fi, fa, or, mi, a, g, l, w, s)) m kk q)) (fun f => rfl) ?_
  refine mr_acp (xs := (he.map nI)) (M2 := (mk_M c (kr (he, ke, ki, fi, fa, or, mi, a, g, l, w, s)) ((he.map nI), m.2.1, m.2.2.1, m.2.2.2.1, m.2.2.2.2.1, m.2.2.2.2.2.1, m.2.2.2.2.2.2.1, m.2.2.2.2.2.2.2.1, m.2.2.2.2.2.2.2.2.1, m.2.2.2.2.2.2.2.2.2.1, m.2.2.2.2.2.2.2.2.2.2.1, m.2.2.2.2.2.2.2.2.2.2.2) kk q)) rfl rfl rfl (by decide) (by rw [List.length_map]; first | (rw [v1]; rfl) | (rw [v2]; rfl) | (rw [v3]; rfl) | (rw [v4]; rfl) | (rw [v5]; rfl) | (rw [v6l]; rfl)) (by rw [hm1]; rfl) rfl ?_
  refine mr_seg 7 (pc1 := 27) (ls1 := [some (.ref 124), some (.ref 117)]) (st1 := [.int 25, .int 0, .ref 126, .int 0, .ref 119]) (M1 := (mk_M c (kr (he, ke, ki, fi, fa, or, mi, a, g, l, w, s)) ((he.map nI), m.2.1, m.2.2.1, m.2.2.2.1, m.2.2.2.2.1, m.2.2.2.2.2.1, m.2.2.2.2.2.2.1, m.2.2.2.2.2.2.2.1, m.2.2.2.2.2.2.2.2.1, m.2.2.2.2.2.2.2.2.2.1, m.2.2.2.2.2.2.2.2.2.2.1, m.2.2.2.2.2.2.2.2.2.2.2) kk q)) (fun f => rfl) ?_
  refine mr_acp (xs := (ke.map nI)) (M2 := (mk_M c (kr (he, ke, ki, fi, fa, or, mi, a, g, l, w, s)) ((he.map nI), (ke.map nI), m.2.2.1, m.2.2.2.1, m.2.2.2.2.1, m.2.2.2.2.2.1, m.2.2.2.2.2.2.1, m.2.2.2.2.2.2.2.1, m.2.2.2.2.2.2.2.2.1, m.2.2.2.2.2.2.2.2.2.1, m.2.2.2.2.2.2.2.2.2.2.1, m.2.2.2.2.2.2.2.2.2.2.2) kk q)) rfl rfl rfl (by decide) (by rw [List.length_map]; first | (rw [v1]; rfl) | (rw [v2]; rfl) | (rw [v3]; rfl) | (rw [v4]; rfl) | (rw [v5]; rfl) | (rw [v6l]; rfl)) (by rw [hm2]; rfl) rfl ?_
  refine mr_seg 7 (pc1 := 41) (ls1 := [some (.ref 124), some (.ref 117)]) (st1 := [.int 5, .int 0, .ref 127, .int 0, .ref 120]) (M1 := (mk_M c (kr (he, ke, ki, fi, fa, or, mi, a, g, l, w, s)) ((he.map nI), (ke.map nI), m.2.2.1, m.2.2.2.1, m.2.2.2.2.1, m.2.2.2.2.2.1, m.2.2.2.2.2.2.1, m.2.2.2.2.2.2.2.1, m.2.2.2.2.2.2.2.2.1, m.2.2.2.2.2.2.2.2.2.1, m.2.2.2.2.2.2.2.2.2.2.1, m.2.2.2.2.2.2.2.2.2.2.2) kk q)) (fun f => rfl) ?_
  refine mr_acp (xs := (ki.map nI)) (M2 := (mk_M c (kr (he, ke, ki, fi, fa, or, mi, a, g, l, w, s)) ((he.map nI), (ke.map nI), (ki.map nI), m.2.2.2.1, m.2.2.2.2.1, m.2.2.2.2.2.1, m.2.2.2.2.2.2.1, m.2.2.2.2.2.2.2.1, m.2.2.2.2.2.2.2.2.1, m.2.2.2.2.2.2.2.2.2.1, m.2.2.2.2.2.2.2.2.2.2.1, m.2.2.2.2.2.2.2.2.2.2.2) kk q)) rfl rfl rfl (by decide) (by rw [List.length_map]; first | (rw [v1]; rfl) | (rw [v2]; rfl) | (rw [v3]; rfl) | (rw [v4]; rfl) | (rw [v5]; rfl) | (rw [v6l]; rfl)) (by rw [hm3]; rfl) rfl ?_
  refine mr_seg 7 (pc1 := 55) (ls1 := [some (.ref 124), some (.ref 117)]) (st1 := [.int 5, .int 0, .ref 128, .int 0, .ref 121]) (M1 := (mk_M c (kr (he, ke, ki, fi, fa, or, mi, a, g, l, w, s)) ((he.map nI), (ke.map nI), (ki.map nI), m.2.2.2.1, m.2.2.2.2.1, m.2.2.2.2.2.1, m.2.2.2.2.2.2.1, m.2.2.2.2.2.2.2.1, m.2.2.2.2.2.2.2.2.1, m.2.2.2.2.2.2.2.2.2.1, m.2.2.2.2.2.2.2.2.2.2.1, m.2.2.2.2.2.2.2.2.2.2.2) kk q)) (fun f => rfl) ?_
  refine mr_acp (xs := (fi.map nI)) (M2 := (mk_M c (kr (he, ke, ki, fi, fa, or, mi, a, g, l, w, s)) ((he.map nI), (ke.map nI), (ki.map nI), (fi.map nI), m.2.2.2.2.1, m.2.2.2.2.2.1, m.2.2.2.2.2.2.1, m.2.2.2.2.2.2.2.1, m.2.2.2.2.2.2.2.2.1, m.2.2.2.2.2.2.2.2.2.1, m.2.2.2.2.2.2.2.2.2.2.1, m.2.2.2.2.2.2.2.2.2.2.2) kk q)) rfl rfl rfl (by decide) (by rw [List.length_map]; first | (rw [v1]; rfl) | (rw [v2]; rfl) | (rw [v3]; rfl) | (rw [v4]; rfl) | (rw [v5]; rfl) | (rw [v6l]; rfl)) (by rw [hm4]; rfl) rfl ?_
  refine mr_seg 7 (pc1 := 69) (ls1 := [some (.ref 124), some (.ref 117)]) (st1 := [.int 5, .int 0, .ref 129, .int 0, .ref 122]) (M1 := (mk_M c (kr (he, ke, ki, fi, fa, or, mi, a, g, l, w, s)) ((he.map nI), (ke.map nI), (ki.map nI), (fi.map nI), m.2.2.2.2.1, m.2.2.2.2.2.1, m.2.2.2.2.2.2.1, m.2.2.2.2.2.2.2.1, m.2.2.2.2.2.2.2.2.1, m.2.2.2.2.2.2.2.2.2.1, m.2.2.2.2.2.2.2.2.2.2.1, m.2.2.2.2.2.2.2.2.2.2.2) kk q)) (fun f => rfl) ?_
  refine mr_acp (xs := (fa.map nI)) (M2 := (mk_M c (kr (he, ke, ki, fi, fa, or, mi, a, g, l, w, s)) ((he.map nI), (ke.map nI), (ki.map nI), (fi.map nI), (fa.map nI), m.2.2.2.2.2.1, m.2.2.2.2.2.2.1, m.2.2.2.2.2.2.2.1, m.2.2.2.2.2.2.2.2.1, m.2.2.2.2.2.2.2.2.2.1, m.2.2.2.2.2.2.2.2.2.2.1, m.2.2.2.2.2.2.2.2.2.2.2) kk q)) rfl rfl rfl (by decide) (by rw [List.length_map]; first | (rw [v1]; rfl) | (rw [v2]; rfl) | (rw [v3]; rfl) | (rw [v4]; rfl) | (rw [v5]; rfl) | (rw [v6l]; rfl)) (by rw [hm5]; rfl) rfl ?_
  refine mr_seg 7 (pc1 := 83) (ls1 := [some (.ref 124), some (.ref 117)]) (st1 := [.int 5, .int 0, .ref 130, .int 0, .ref 123]) (M1 := (mk_M c (kr (he, ke, ki, fi, fa, or, mi, a, g, l, w, s)) ((he.map nI), (ke.map nI), (ki.map nI), (fi.map nI), (fa.map nI), m.2.2.2.2.2.1, m.2.2.2.2.2.2.1, m.2.2.2.2.2.2.2.1, m.2.2.2.2.2.2.2.2.1, m.2.2.2.2.2.2.2.2.2.1, m.2.2.2.2.2.2.2.2.2.2.1, m.2.2.2.2.2.2.2.2.2.2.2) kk q)) (fun f => rfl) ?_
  refine mr_acp (xs := (or.map nI)) (M2 := (mk_M c (kr (he, ke, ki, fi, fa, or, mi, a, g, l, w, s)) ((he.map nI), (ke.map nI), (ki.map nI), (fi.map nI), (fa.map nI), (or.map nI), m.2.2.2.2.2.2.1, m.2.2.2.2.2.2.2.1, m.2.2.2.2.2.2.2.2.1, m.2.2.2.2.2.2.2.2.2.1, m.2.2.2.2.2.2.2.2.2.2.1, m.2.2.2.2.2.2.2.2.2.2.2) kk q)) rfl rfl rfl (by decide) (by rw [List.length_map]; first | (rw [v1]; rfl) | (rw [v2]; rfl) | (rw [v3]; rfl) | (rw [v4]; rfl) | (rw [v5]; rfl) | (rw [v6l]; rfl)) (by rw [hm6]; rfl) rfl ?_
  exact mr_ret 25 (fun f => rfl)
set_option maxRecDepth 100000 in
theorem cc_be_kn (he ke ki fi fa or : List Nat) (mi a g l w s : Nat) (c : cC) (m kk : kG) (q : cR) (hV : kV (he, ke, ki, fi, fa, or, mi, a, g, l, w, s)) (hkk : kSh kk) : mm_R 76 0 [some (.ref 131), some (.ref 117)] [] (mk_M c (kr (he, ke, ki, fi, fa, or, mi, a, g, l, w, s)) m kk q) (none, mk_M c (kr (he, ke, ki, fi, fa, or, mi, a, g, l, w, s)) m (kr (he, ke, ki, fi, fa, or, mi, a, g, l, w, s)) q) := by
  obtain ⟨v1, v2, v3, v4, v5, v6, v7, v8, v9, v10, v11, v12, v13, v14, v15, v16⟩ := id hV
  have v6l := kO_len mi v7 or v6
  obtain ⟨hkk1, hkk2, hkk3, hkk4, hkk5, hkk6⟩ := id hkk
  refine mr_seg 7 (pc1 := 12) (ls1 := [some (.ref 131), some (.ref 117)]) (st1 := [.int 25, .int 0, .ref 132, .int 0, .ref 118]) (M1 := (mk_M c (kr (he, ke, ki, fi, fa, or, mi, a, g, l, w, s)) m kk q)) (fun f => rfl) ?_
  refine mr_acp (xs := (he.map nI)) (M2 := (mk_M c (kr (he, ke, ki, fi, fa, or, mi, a, g, l, w, s)) m ((he.map nI), kk.2.1, kk.2.2.1, kk.2.2.2.1, kk.2.2.2.2.1, kk.2.2.2.2.2.1, kk.2.2.2.2.2.2.1, kk.2.2.2.2.2.2.2.1, kk.2.2.2.2.2.2.2.2.1, kk.2.2.2.2.2.2.2.2.2.1, kk.2.2.2.2.2.2.2.2.2.2.1, kk.2.2.2.2.2.2.2.2.2.2.2) q)) rfl rfl rfl (by decide) (by rw [List.length_map]; first | (rw [v1]; rfl) | (rw [v2]; rfl) | (rw [v3]; rfl) | (rw [v4]; rfl) | (rw [v5]; rfl) | (rw [v6l]; rfl)) (by rw [hkk1]; rfl) rfl ?_
  refine mr_seg 7 (pc1 := 27) (ls1 := [some (.ref 131), some (.ref 117)]) (st1 := [.int 25, .int 0, .ref 133, .int 0, .ref 119]) (M1 := (mk_M c (kr (he, ke, ki, fi, fa, or, mi, a, g, l, w, s)) m ((he.map nI), kk.2.1, kk.2.2.1, kk.2.2.2.1, kk.2.2.2.2.1, kk.2.2.2.2.2.1, kk.2.2.2.2.2.2.1, kk.2.2.2.2.2.2.2.1, kk.2.2.2.2.2.2.2.2.1, kk.2.2.2.2.2.2.2.2.2.1, kk.2.2.2.2.2.2.2.2.2.2.1, kk.2.2.2.2.2.2.2.2.2.2.2) q)) (fun f => rfl) ?_
  refine mr_acp (xs := (ke.map nI)) (M2 := (mk_M c (kr (he, ke, ki, fi, fa, or, mi, a, g, l, w, s)) m ((he.map nI), (ke.map nI), kk.2.2.1, kk.2.2.2.1, kk.2.2.2.2.1, kk.2.2.2.2.2.1, kk.2.2.2.2.2.2.1, kk.2.2.2.2.2.2.2.1, kk.2.2.2.2.2.2.2.2.1, kk.2.2.2.2.2.2.2.2.2.1, kk.2.2.2.2.2.2.2.2.2.2.1, kk.2.2.2.2.2.2.2.2.2.2.2) q)) rfl rfl rfl (by decide) (by rw [List.length_map]; first | (rw [v1]; rfl) | (rw [v2]; rfl) | (rw [v3]; rfl) | (rw [v4]; rfl) | (rw [v5]; rfl) | (rw [v6l]; rfl)) (by rw [hkk2]; rfl) rfl ?_
  refine mr_seg 7 (pc1 := 41) (ls1 := [some (.ref 131), some (.ref 117)]) (st1 := [.int 5, .int 0, .ref 134, .int 0, .ref 120]) (M1 := (mk_M c (kr (he, ke, ki, fi, fa, or, mi, a, g, l, w, s)) m ((he.map nI), (ke.map nI), kk.2.2.1, kk.2.2.2.1, kk.2.2.2.2.1, kk.2.2.2.2.2.1, kk.2.2.2.2.2.2.1, kk.2.2.2.2.2.2.2.1, kk.2.2.2.2.2.2.2.2.1, kk.2.2.2.2.2.2.2.2.2.1, kk.2.2.2.2.2.2.2.2.2.2.1, kk.2.2.2.2.2.2.2.2.2.2.2) q)) (fun f => rfl) ?_
  refine mr_acp (xs := (ki.map nI)) (M2 := (mk_M c (kr (he, ke, ki, fi, fa, or, mi, a, g, l, w, s)) m ((he.map nI), (ke.map nI), (ki.map nI), kk.2.2.2.1, kk.2.2.2.2.1, kk.2.2.2.2.2.1, kk.2.2.2.2.2.2.1, kk.2.2.2.2.2.2.2.1, kk.2.2.2.2.2.2.2.2.1, kk.2.2.2.2.2.2.2.2.2.1, kk.2.2.2.2.2.2.2.2.2.2.1, kk.2.2.2.2.2.2.2.2.2.2.2) q)) rfl rfl rfl (by decide) (by rw [List.length_map]; first | (rw [v1]; rfl) | (rw [v2]; rfl) | (rw [v3]; rfl) | (rw [v4]; rfl) | (rw [v5]; rfl) | (rw [v6l]; rfl)) (by rw [hkk3]; rfl) rfl ?_
  refine mr_seg 7 (pc1 := 55) (ls1 := [some (.ref 131), some (.ref 117)]) (st1 := [.int 5, .int 0, .ref 135, .int 0, .ref 121]) (M1 := (mk_M c (kr (he, ke, ki, fi, fa, or, mi, a, g, l, w, s)) m ((he.map nI), (ke.map nI), (ki.map nI), kk.2.2.2.1, kk.2.2.2.2.1, kk.2.2.2.2.2.1, kk.2.2.2.2.2.2.1, kk.2.2.2.2.2.2.2.1, kk.2.2.2.2.2.2.2.2.1, kk.2.2.2.2.2.2.2.2.2.1, kk.2.2.2.2.2.2.2.2.2.2.1, kk.2.2.2.2.2.2.2.2.2.2.2) q)) (fun f => rfl) ?_
  refine mr_acp (xs := (fi.map nI)) (M2 := (mk_M c (kr (he, ke, ki, fi, fa, or, mi, a, g, l, w, s)) m ((he.map nI), (ke.map nI), (ki.map nI), (fi.map nI), kk.2.2.2.2.1, kk.2.2.2.2.2.1, kk.2.2.2.2.2.2.1, kk.2.2.2.2.2.2.2.1, kk.2.2.2.2.2.2.2.2.1, kk.2.2.2.2.2.2.2.2.2.1, kk.2.2.2.2.2.2.2.2.2.2.1, kk.2.2.2.2.2.2.2.2.2.2.2) q)) rfl rfl rfl (by decide) (by rw [List.length_map]; first | (rw [v1]; rfl) | (rw [v2]; rfl) | (rw [v3]; rfl) | (rw [v4]; rfl) | (rw [v5]; rfl) | (rw [v6l]; rfl)) (by rw [hkk4]; rfl) rfl ?_
  refine mr_seg 7 (pc1 := 69) (ls1 := [some (.ref 131), some (.ref 117)]) (st1 := [.int 5, .int 0, .ref 136, .int 0, .ref 122]) (M1 := (mk_M c (kr (he, ke, ki, fi, fa, or, mi, a, g, l, w, s)) m ((he.map nI), (ke.map nI), (ki.map nI), (fi.map nI), kk.2.2.2.2.1, kk.2.2.2.2.2.1, kk.2.2.2.2.2.2.1, kk.2.2.2.2.2.2.2.1, kk.2.2.2.2.2.2.2.2.1, kk.2.2.2.2.2.2.2.2.2.1, kk.2.2.2.2.2.2.2.2.2.2.1, kk.2.2.2.2.2.2.2.2.2.2.2) q)) (fun f => rfl) ?_
  refine mr_acp (xs := (fa.map nI)) (M2 := (mk_M c (kr (he, ke, ki, fi, fa, or, mi, a, g, l, w, s)) m ((he.map nI), (ke.map nI), (ki.map nI), (fi.map nI), (fa.map nI), kk.2.2.2.2.2.1, kk.2.2.2.2.2.2.1, kk.2.2.2.2.2.2.2.1, kk.2.2.2.2.2.2.2.2.1, kk.2.2.2.2.2.2.2.2.2.1, kk.2.2.2.2.2.2.2.2.2.2.1, kk.2.2.2.2.2.2.2.2.2.2.2) q)) rfl rfl rfl (by decide) (by rw [List.length_map]; first | (rw [v1]; rfl) | (rw [v2]; rfl) | (rw [v3]; rfl) | (rw [v4]; rfl) | (rw [v5]; rfl) | (rw [v6l]; rfl)) (by rw [hkk5]; rfl) rfl ?_
  refine mr_seg 7 (pc1 := 83) (ls1 := [some (.ref 131), some (.ref 117)]) (st1 := [.int 5, .int 0, .ref 137, .int 0, .ref 123]) (M1 := (mk_M c (kr (he, ke, ki, fi, fa, or, mi, a, g, l, w, s)) m ((he.map nI), (ke.map nI), (ki.map nI), (fi.map nI), (fa.map nI), kk.2.2.2.2.2.1, kk.2.2.2.2.2.2.1, kk.2.2.2.2.2.2.2.1, kk.2.2.2.2.2.2.2.2.1, kk.2.2.2.2.2.2.2.2.2.1, kk.2.2.2.2.2.2.2.2.2.2.1, kk.2.2.2.2.2.2.2.2.2.2.2) q)) (fun f => rfl) ?_
  refine mr_acp (xs := (or.map nI)) (M2 := (mk_M c (kr (he, ke, ki, fi, fa, or, mi, a, g, l, w, s)) m ((he.map nI), (ke.map nI), (ki.map nI), (fi.map nI), (fa.map nI), (or.map nI), kk.2.2.2.2.2.2.1, kk.2.2.2.2.2.2.2.1, kk.2.2.2.2.2.2.2.2.1, kk.2.2.2.2.2.2.2.2.2.1, kk.2.2.2.2.2.2.2.2.2.2.1, kk.2.2.2.2.2.2.2.2.2.2.2) q)) rfl rfl rfl (by decide) (by rw [List.length_map]; first | (rw [v1]; rfl) | (rw [v2]; rfl) | (rw [v3]; rfl) | (rw [v4]; rfl) | (rw [v5]; rfl) | (rw [v6l]; rfl)) (by rw [hkk6]; rfl) rfl ?_
  exact mr_ret 25 (fun f => rfl)
set_option maxRecDepth 100000 in
theorem cc_be_nk (he ke ki fi fa or : List Nat) (mi a g l w s : Nat) (c : cC) (n m : kG) (q : cR) (hV : kV (he, ke, ki, fi, fa, or, mi, a, g, l, w, s)) (hn : kSh n) : mm_R 76 0 [some (.ref 117), some (.ref 131)] [] (mk_M c n m (kr (he, ke, ki, fi, fa, or, mi, a, g, l, w, s)) q) (none, mk_M c (kr (he, ke, ki, fi, fa, or, mi, a, g, l, w, s)) m (kr (he, ke, ki, fi, fa, or, mi, a, g, l, w, s)) q) := by
  obtain ⟨v1, v2, v3, v4, v5, v6, v7, v8, v9, v10, v11, v12, v13, v14, v15, v16⟩ := id hV
  have v6l := kO_len mi v7 or v6
  obtain ⟨hn1, hn2, hn3, hn4, hn5, hn6⟩ := id hn
  refine mr_seg 7 (pc1 := 12) (ls1 := [some (.ref 117), some (.ref 131)]) (st1 := [.int 25, .int 0, .ref 118, .int 0, .ref 132]) (M1 := (mk_M c n m (kr (he, ke, ki, fi, fa, or, mi, a, g, l, w, s)) q)) (fun f => rfl) ?_
  refine mr_acp (xs := (he.map nI)) (M2 := (mk_M c ((he.map nI), n.2.1, n.2.2.1, n.2.2.2.1, n.2.2.2.2.1, n.2.2.2.2.2.1, n.2.2.2.2.2.2.1, n.2.2.2.2.2.2.2.1, n.2.2.2.2.2.2.2.2.1, n.2.2.2.2.2.2.2.2.2.1, n.2.2.2.2.2.2.2.2.2.2.1, n.2.2.2.2.2.2.2.2.2.2.2) m (kr (he, ke, ki, fi, fa, or, mi, a, g, l, w, s)) q)) rfl rfl rfl (by decide) (by rw [List.length_map]; first | (rw [v1]; rfl) | (rw [v2]; rfl) | (rw [v3]; rfl) | (rw [v4]; rfl) | (rw [v5]; rfl) | (rw [v6l]; rfl)) (by rw [hn1]; rfl) rfl ?_
  refine mr_seg 7 (pc1 := 27) (ls1 := [some (.ref 117), some (.ref 131)]) (st1 := [.int 25, .int 0, .ref 119, .int 0, .ref 133]) (M1 := (mk_M c ((he.map nI), n.2.1, n.2.2.1, n.2.2.2.1, n.2.2.2.2.1, n.2.2.2.2.2.1, n.2.2.2.2.2.2.1, n.2.2.2.2.2.2.2.1, n.2.2.2.2.2.2.2.2.1, n.2.2.2.2.2.2.2.2.2.1, n.2.2.2.2.2.2.2.2.2.2.1, n.2.2.2.2.2.2.2.2.2.2.2) m (kr (he, ke, ki, fi, fa, or, mi, a, g, l, w, s)) q)) (fun f => rfl) ?_
  refine mr_acp (xs := (ke.map nI)) (M2 := (mk_M c ((he.map nI), (ke.map nI), n.2.2.1, n.2.2.2.1, n.2.2.2.2.1, n.2.2.2.2.2.1, n.2.2.2.2.2.2.1, n.2.2.2.2.2.2.2.1, n.2.2.2.2.2.2.2.2.1, n.2.2.2.2.2.2.2.2.2.1, n.2.2.2.2.2.2.2.2.2.2.1, n.2.2.2.2.2.2.2.2.2.2.2) m (kr (he, ke, ki, fi, fa, or, mi, a, g, l, w, s)) q)) rfl rfl rfl (by decide) (by rw [List.length_map]; first | (rw [v1]; rfl) | (rw [v2]; rfl) | (rw [v3]; rfl) | (rw [v4]; rfl) | (rw [v5]; rfl) | (rw [v6l]; rfl)) (by rw [hn2]; rfl) rfl ?_
  refine mr_seg 7 (pc1 := 41) (ls1 := [some (.ref 117), some (.ref 131)]) (st1 := [.int 5, .int 0, .ref 120, .int 0, .ref 134]) (M1 := (mk_M c ((he.map nI), (ke.map nI), n.2.2.1, n.2.2.2.1, n.2.2.2.2.1, n.2.2.2.2.2.1, n.2.2.2.2.2.2.1, n.2.2.2.2.2.2.2.1, n.2.2.2.2.2.2.2.2.1, n.2.2.2.2.2.2.2.2.2.1, n.2.2.2.2.2.2.2.2.2.2.1, n.2.2.2.2.2.2.2.2.2.2.2) m (kr (he, ke, ki, fi, fa, or, mi, a, g, l, w, s)) q)) (fun f => rfl) ?_
  refine mr_acp (xs := (ki.map nI)) (M2 := (mk_M c ((he.map nI), (ke.map nI), (ki.map nI), n.2.2.2.1, n.2.2.2.2.1, n.2.2.2.2.2.1, n.2.2.2.2.2.2.1, n.2.2.2.2.2.2.2.1, n.2.2.2.2.2.2.2.2.1, n.2.2.2.2.2.2.2.2.2.1, n.2.2.2.2.2.2.2.2.2.2.1, n.2.2.2.2.2.2.2.2.2.2.2) m (kr (he, ke, ki, fi, fa, or, mi, a, g, l, w, s)) q)) rfl rfl rfl (by decide) (by rw [List.length_map]; first | (rw [v1]; rfl) | (rw [v2]; rfl) | (rw [v3]; rfl) | (rw [v4]; rfl) | (rw [v5]; rfl) | (rw [v6l]; rfl)) (by rw [hn3]; rfl) rfl ?_
  refine mr_seg 7 (pc1 := 55) (ls1 := [some (.ref 117), some (.ref 131)]) (st1 := [.int 5, .int 0, .ref 121, .int 0, .ref 135]) (M1 := (mk_M c ((he.map nI), (ke.map nI), (ki.map nI), n.2.2.2.1, n.2.2.2.2.1, n.2.2.2.2.2.1, n.2.2.2.2.2.2.1, n.2.2.2.2.2.2.2.1, n.2.2.2.2.2.2.2.2.1, n.2.2.2.2.2.2.2.2.2.1, n.2.2.2.2.2.2.2.2.2.2.1, n.2.2.2.2.2.2.2.2.2.2.2) m (kr (he, ke, ki, fi, fa, or, mi, a, g, l, w, s)) q)) (fun f => rfl) ?_
  refine mr_acp (xs := (fi.map nI)) (M2 := (mk_M c ((he.map nI), (ke.map nI), (ki.map nI), (fi.map nI), n.2.2.2.2.1, n.2.2.2.2.2.1, n.2.2.2.2.2.2.1, n.2.2.2.2.2.2.2.1, n.2.2.2.2.2.2.2.2.1, n.2.2.2.2.2.2.2.2.2.1, n.2.2.2.2.2.2.2.2.2.2.1, n.2.2.2.2.2.2.2.2.2.2.2) m (kr (he, ke, ki, fi, fa, or, mi, a, g, l, w, s)) q)) rfl rfl rfl (by decide) (by rw [List.length_map]; first | (rw [v1]; rfl) | (rw [v2]; rfl) | (rw [v3]; rfl) | (rw [v4]; rfl) | (rw [v5]; rfl) | (rw [v6l]; rfl)) (by rw [hn4]; rfl) rfl ?_
  refine mr_seg 7 (pc1 := 69) (ls1 := [some (.ref 117), some (.ref 131)]) (st1 := [.int 5, .int 0, .ref 122, .int 0, .ref 136]) (M1 := (mk_M c ((he.map nI), (ke.map nI), (ki.map nI), (fi.map nI), n.2.2.2.2.1, n.2.2.2.2.2.1, n.2.2.2.2.2.2.1, n.2.2.2.2.2.2.2.1, n.2.2.2.2.2.2.2.2.1, n.2.2.2.2.2.2.2.2.2.1, n.2.2.2.2.2.2.2.2.2.2.1, n.2.2.2.2.2.2.2.2.2.2.2) m (kr (he, ke, ki, fi, fa, or, mi, a, g, l, w, s)) q)) (fun f => rfl) ?_
  refine mr_acp (xs := (fa.map nI)) (M2 := (mk_M c ((he.map nI), (ke.map nI), (ki.map nI), (fi.map nI), (fa.map nI), n.2.2.2.2.2.1, n.2.2.2.2.2.2.1, n.2.2.2.2.2.2.2.1, n.2.2.2.2.2.2.2.2.1, n.2.2.2.2.2.2.2.2.2.1, n.2.2.2.2.2.2.2.2.2.2.1, n.2.2.2.2.2.2.2.2.2.2.2) m (kr (he, ke, ki, fi, fa, or, mi, a, g, l, w, s)) q)) rfl rfl rfl (by decide) (by rw [List.length_map]; first | (rw [v1]; rfl) | (rw [v2]; rfl) | (rw [v3]; rfl) | (rw [v4]; rfl) | (rw [v5]; rfl) | (rw [v6l]; rfl)) (by rw [hn5]; rfl) rfl ?_
  refine mr_seg 7 (pc1 := 83) (ls1 := [some (.ref 117), some (.ref 131)]) (st1 := [.int 5, .int 0, .ref 123, .int 0, .ref 137]) (M1 := (mk_M c ((he.map nI), (ke.map nI), (ki.map nI), (fi.map nI), (fa.map nI), n.2.2.2.2.2.1, n.2.2.2.2.2.2.1, n.2.2.2.2.2.2.2.1, n.2.2.2.2.2.2.2.2.1, n.2.2.2.2.2.2.2.2.2.1, n.2.2.2.2.2.2.2.2.2.2.1, n.2.2.2.2.2.2.2.2.2.2.2) m (kr (he, ke, ki, fi, fa, or, mi, a, g, l, w, s)) q)) (fun f => rfl) ?_
  refine mr_acp (xs := (or.map nI)) (M2 := (mk_M c ((he.map nI), (ke.map nI), (ki.map nI), (fi.map nI), (fa.map nI), (or.map nI), n.2.2.2.2.2.2.1, n.2.2.2.2.2.2.2.1, n.2.2.2.2.2.2.2.2.1, n.2.2.2.2.2.2.2.2.2.1, n.2.2.2.2.2.2.2.2.2.2.1, n.2.2.2.2.2.2.2.2.2.2.2) m (kr (he, ke, ki, fi, fa, or, mi, a, g, l, w, s)) q)) rfl rfl rfl (by decide) (by rw [List.length_map]; first | (rw [v1]; rfl) | (rw [v2]; rfl) | (rw [v3]; rfl) | (rw [v4]; rfl) | (rw [v5]; rfl) | (rw [v6l]; rfl)) (by rw [hn6]; rfl) rfl ?_
  exact mr_ret 25 (fun f => rfl)
set_option maxRecDepth 100000 in
theorem cc_now0 (he ke ki fi fa or : List Nat) (mi a g l w s : Nat) (c : cC) (m kk : kG) (q : cR) (hV : kV (he, ke, ki, fi, fa, or, mi, a, g, l, w, s)) (hm : kSh m) : mm_R 75 0 [some (.ref 100)] [] (mk_M c (kr (he, ke, ki, fi, fa, or, mi, a, g, l, w, s)) m kk q) (some (.ref 124), mk_M c (kr (he, ke, ki, fi, fa, or, mi, a, g, l, w, s)) (kr (he, ke, ki, fi, fa, or, mi, a, g, l, w, s)) kk q) := by
  refine mr_seg 4 (pc1 := 8) (ls1 := [some (.ref 100)]) (st1 := [.ref 117, .ref 124]) (M1 := (mk_M c (kr (he, ke, ki, fi, fa, or, mi, a, g, l, w, s)) m kk q)) (fun f => rfl) ?_
  refine mr_call (y := 76) (y0 := 11) (L := [some (.ref 124), some (.ref 117)]) (rest := []) (rr := none) (M1 := (mk_M c (kr (he, ke, ki, fi, fa, or, mi, a, g, l, w, s)) (kr (he, ke, ki, fi, fa, or, mi, a, g, l, w, s)) kk q)) (fun f => rfl) (cc_be_mn he ke ki fi fa or mi a g l w s c m kk q hV hm) ?_
  exact mr_ret 3 (fun f => rfl)
theorem cc_now (K : kK) (c : cC) (m kk : kG) (q : cR) (hV : kV K) (hm : kSh m) : mm_R 75 0 [some (.ref 100)] [] (mk_M c (kr K) m kk q) (some (.ref 124), mk_M c (kr K) (kr K) kk q) := by
  obtain ⟨he, ke, ki, fi, fa, or, mi, a, g, l, w, s⟩ := K
  exact cc_now0 he ke ki fi fa or mi a g l w s c m kk q hV hm
set_option maxRecDepth 100000 in
theorem oc_goes_0 (he ke ki fi fa or : List Nat) (mi a g l w s : Nat) (im : Nat) (le : List Nat) (ln : Nat) (ys : List Int32) (vt : Int32) (nu : List Nat) (nn : Nat) (rf : List Nat) (vw vq : Int32) (yc yh yg : List Int32) (m kk : kG) (q : cR) (hA : iA (he, ke, ki, fi, fa, or, mi, a, g, l, w, s)) (hB : iB le ln) (hC : iC nu nn) (hD : iD rf) (hJ : iJ m ys yc yh yg) (k0 : kSh kk) (x : Int32) (hxu : x.toInt ≤ 0) : mm_R 73 0 [some (.ref 100), some (.int x)] [] (mk_M (cT im le ln ys vt nu nn rf vw vq yc yh yg) (kr (he, ke, ki, fi, fa, or, mi, a, g, l, w, s)) m kk q) (some (.int (-4)), (mk_M (cT im le ln ys vt nu nn (rf.set 4 (kg rf 4 + 1)) vw vq yc yh yg) (kr (he, ke, ki, fi, fa, or, mi, a, g, l, w, s)) m kk q)) := by
  obtain ⟨hV, hst⟩ := id hA
  have hst2 : s ≤ 999 := hst
  obtain ⟨v1, v2, v3, v4, v5, v6, v7, v8, v9, v10, v11, v12, v13, v14, v15, v16⟩ := id hV
  have v6l := kO_len mi v7 or v6
  obtain ⟨b1, b2, b3⟩ := id hB
  obtain ⟨c1, c2, c3⟩ := id hC
  have d1 : rf.length = 7 := hD
  obtain ⟨j0, j1, j2, j3, j4⟩ := id hJ
  refine mr_seg 2 (pc1 := 2) (ls1 := [some (.ref 100), some (.int x)]) (st1 := [.int 1, .int x]) (M1 := (mk_M (cT im le ln ys vt nu nn rf vw vq yc yh yg) (kr (he, ke, ki, fi, fa, or, mi, a, g, l, w, s)) m kk q)) (fun f => rfl) ?_
  refine mr_f (C := 1 ≤ x) (mz_ge_f 1 (by decide) (by omega)) (fun f => rfl) ?_
  refine mr_seg 2 (pc1 := 8) (ls1 := [some (.ref 100), some (.int x)]) (st1 := [.int (-4), .ref 100]) (M1 := (mk_M (cT im le ln ys vt nu nn rf vw vq yc yh yg) (kr (he, ke, ki, fi, fa, or, mi, a, g, l, w, s)) m kk q)) (fun f => rfl) ?_
  refine mr_call (y := 12) (y0 := 11) (L := [some (.ref 100), some (.int (-4))]) (rest := []) (rr := some (.int (-4))) (M1 := (mk_M (cT im le ln ys vt nu nn (rf.set 4 (kg rf 4 + 1)) vw vq yc yh yg) (kr (he, ke, ki, fi, fa, or, mi, a, g, l, w, s)) m kk q)) (fun f => rfl) (by
      refine mr_seg 5 (pc1 := 7) (ls1 := [some (.ref 100), some (.int (-4))]) (st1 := [.int 4, .ref 105, .int 4, .ref 105]) (M1 := (mk_M (cT im le ln ys vt nu nn rf vw vq yc yh yg) (kr (he, ke, ki, fi, fa, or, mi, a, g, l, w, s)) m kk q)) (fun f => rfl) ?_
      refine mr_ldn rfl rfl (k := 4) (by omega) (kg_ok (by omega)) ?_
      refine mr_seg 2 (pc1 := 10) (ls1 := [some (.ref 100), some (.int (-4))]) (st1 := [.int ((nI (kg rf 4)) + 1), .int 4, .ref 105]) (M1 := (mk_M (cT im le ln ys vt nu nn rf vw vq yc yh yg) (kr (he, ke, ki, fi, fa, or, mi, a, g, l, w, s)) m kk q)) (fun f => rfl) ?_
      refine mr_v (nI_add (kg rf 4) 1) ?_
      refine mr_stn (ys := ((rf.set 4 (kg rf 4 + 1)).map nI)) (M2 := (mk_M (cT im le ln ys vt nu nn (rf.set 4 (kg rf 4 + 1)) vw vq yc yh yg) (kr (he, ke, ki, fi, fa, or, mi, a, g, l, w, s)) m kk q)) rfl rfl (k := 4) (by omega) (by simp only [List.length_map, List.length_set]; omega) ks_ok rfl ?_
      exact mr_ret 2 (fun f => rfl)) ?_
  exact mr_ret 1 (fun f => rfl)
set_option maxRecDepth 100000 in
theorem om_goes_0 (he ke ki fi fa or : List Nat) (mi a g l w s : Nat) (xm xi xw : List Int32) (im : Nat) (le nu rf : List Nat) (ln nn : Nat) (vp : Int32) (xn xc : List Int32) (vs : Int32) (c : cC) (n m kk : kG) (hA : iA (he, ke, ki, fi, fa, or, mi, a, g, l, w, s)) (hB : iB le ln) (hC : iC nu nn) (hD : iD rf) (hR : iR xm xw xn xc) (k1 : xi.length = 52) (x : Int32) (hxu : x.toInt ≤ 0) : mm_R 167 0 [some (.ref 138), some (.int x)] [] (mk_M c n m kk (rT (he, ke, ki, fi, fa, or, mi, a, g, l, w, s) xm xi xw im le nu rf ln nn vp xn xc vs)) (some (.int (-4)), (mk_M c n m kk (rT (he, ke, ki, fi, fa, or, mi, a, g, l, w, s) xm xi xw im le nu (rf.set 4 (kg rf 4 + 1)) ln nn vp xn xc vs))) := by
  obtain ⟨hV, hst⟩ := id hA
  have hst2 : s ≤ 999 := hst
  obtain ⟨v1, v2, v3, v4, v5, v6, v7, v8, v9, v10, v11, v12, v13, v14, v15, v16⟩ := id hV
  have v6l := kO_len mi v7 or v6
  obtain ⟨b1, b2, b3⟩ := id hB
  obtain ⟨c1, c2, c3⟩ := id hC
  have d1 : rf.length = 7 := hD
  obtain ⟨r1, r2, r3, r4⟩ := id hR
  refine mr_seg 2 (pc1 := 2) (ls1 := [some (.ref 138), some (.int x)]) (st1 := [.int 1, .int x]) (M1 := (mk_M c n m kk (rT (he, ke, ki, fi, fa, or, mi, a, g, l, w, s) xm xi xw im le nu rf ln nn vp xn xc vs))) (fun f => rfl) ?_
  refine mr_f (C := 1 ≤ x) (mz_ge_f 1 (by decide) (by omega)) (fun f => rfl) ?_
  refine mr_seg 2 (pc1 := 8) (ls1 := [some (.ref 138), some (.int x)]) (st1 := [.int (-4), .ref 138]) (M1 := (mk_M c n m kk (rT (he, ke, ki, fi, fa, or, mi, a, g, l, w, s) xm xi xw im le nu rf ln nn vp xn xc vs))) (fun f => rfl) ?_
  refine mr_call (y := 130) (y0 := 11) (L := [some (.ref 138), some (.int (-4))]) (rest := []) (rr := some (.int (-4))) (M1 := (mk_M c n m kk (rT (he, ke, ki, fi, fa, or, mi, a, g, l, w, s) xm xi xw im le nu (rf.set 4 (kg rf 4 + 1)) ln nn vp xn xc vs))) (fun f => rfl) (by
      refine mr_seg 5 (pc1 := 7) (ls1 := [some (.ref 138), some (.int (-4))]) (st1 := [.int 4, .ref 145, .int 4, .ref 145]) (M1 := (mk_M c n m kk (rT (he, ke, ki, fi, fa, or, mi, a, g, l, w, s) xm xi xw im le nu rf ln nn vp xn xc vs))) (fun f => rfl) ?_
      refine mr_ldn rfl rfl (k := 4) (by omega) (kg_ok (by omega)) ?_
      refine mr_seg 2 (pc1 := 10) (ls1 := [some (.ref 138), some (.int (-4))]) (st1 := [.int ((nI (kg rf 4)) + 1), .int 4, .ref 145]) (M1 := (mk_M c n m kk (rT (he, ke, ki, fi, fa, or, mi, a, g, l, w, s) xm xi xw im le nu rf ln nn vp xn xc vs))) (fun f => rfl) ?_
      refine mr_v (nI_add (kg rf 4) 1) ?_
      refine mr_stn (ys := ((rf.set 4 (kg rf 4 + 1)).map nI)) (M2 := (mk_M c n m kk (rT (he, ke, ki, fi, fa, or, mi, a, g, l, w, s) xm xi xw im le nu (rf.set 4 (kg rf 4 + 1)) ln nn vp xn xc vs))) rfl rfl (k := 4) (by omega) (by simp only [List.length_map, List.length_set]; omega) ks_ok rfl ?_
      exact mr_ret 2 (fun f => rfl)) ?_
  exact mr_ret 1 (fun f => rfl)
theorem oe_goes_0 (he ke ki fi fa or : List Nat) (mi a g l w s : Nat) (m : kG) (kk : kG) (im : Nat) (le : List Nat) (ln : Nat) (ys : List Int32) (vt : Int32) (nu : List Nat) (nn : Nat) (rf : List Nat) (vw : Int32) (vq : Int32) (yc : List Int32) (yh : List Int32) (yg : List Int32) (xm : List Int32) (xi : List Int32) (xw : List Int32) (vp : Int32) (xn : List Int32) (xc : List Int32) (vs : Int32) (hA : iA (he, ke, ki, fi, fa, or, mi, a, g, l, w, s)) (hB : iB le ln) (hC : iC nu nn) (hD : iD rf) (hJ : iJ m ys yc yh yg) (hR : iR xm xw xn xc) (hK : iK im kk xi) (x : Int32) (hxu : x.toInt ≤ 0) : oI 73 167 [some (.ref 100), some (.int x)] [some (.ref 138), some (.int x)] (mk_M (cT im le ln ys vt nu nn rf vw vq yc yh yg) (kr (he, ke, ki, fi, fa, or, mi, a, g, l, w, s)) m kk (rT (he, ke, ki, fi, fa, or, mi, a, g, l, w, s) xm xi xw im le nu rf ln nn vp xn xc vs)) := by
  exact ⟨(-4), _, _, oc_goes_0 he ke ki fi fa or mi a g l w s im le ln ys vt nu nn rf vw vq yc yh yg m kk _ hA hB hC hD hJ hK.1 x hxu, om_goes_0 he ke ki fi fa or mi a g l w s xm xi xw im le nu rf ln nn vp xn xc vs _ _ _ _ hA hB hC hD hR hK.2.1 x hxu, (he, ke, ki, fi, fa, or, mi, a, g, l, w, s), m, kk, im, le, ln, ys, vt, nu, nn, (rf.set 4 (kg rf 4 + 1)), vw, vq, yc, yh, yg, xm, xi, xw, vp, xn, xc, vs, rfl, hA, hB, hC, iD_s hD, hJ, hR, hK⟩
set_option maxRecDepth 100000 in
theorem oc_goes_1 (he ke ki fi fa or : List Nat) (mi a g l w s : Nat) (im : Nat) (le : List Nat) (ln : Nat) (ys : List Int32) (vt : Int32) (nu : List Nat) (nn : Nat) (rf : List Nat) (vw vq : Int32) (yc yh yg : List Int32) (m kk : kG) (q : cR) (hA : iA (he, ke, ki, fi, fa, or, mi, a, g, l, w, s)) (hB : iB le ln) (hC : iC nu nn) (hD : iD rf) (hJ : iJ m ys yc yh yg) (k0 : kSh kk) (x : Int32) (hxl : 61 ≤ x.toInt) : mm_R 73 0 [some (.ref 100), some (.int x)] [] (mk_M (cT im le ln ys vt nu nn rf vw vq yc yh yg) (kr (he, ke, ki, fi, fa, or, mi, a, g, l, w, s)) m kk q) (some (.int (-6)), (mk_M (cT im le ln ys vt nu nn (rf.set 6 (kg rf 6 + 1)) vw vq yc yh yg) (kr (he, ke, ki, fi, fa, or, mi, a, g, l, w, s)) m kk q)) := by
  obtain ⟨hV, hst⟩ := id hA
  have hst2 : s ≤ 999 := hst
  obtain ⟨v1, v2, v3, v4, v5, v6, v7, v8, v9, v10, v11, v12, v13, v14, v15, v16⟩ := id hV
  have v6l := kO_len mi v7 or v6
  obtain ⟨b1, b2, b3⟩ := id hB
  obtain ⟨c1, c2, c3⟩ := id hC
  have d1 : rf.length = 7 := hD
  obtain ⟨j0, j1, j2, j3, j4⟩ := id hJ
  refine mr_seg 2 (pc1 := 2) (ls1 := [some (.ref 100), some (.int x)]) (st1 := [.int 1, .int x]) (M1 := (mk_M (cT im le ln ys vt nu nn rf vw vq yc yh yg) (kr (he, ke, ki, fi, fa, or, mi, a, g, l, w, s)) m kk q)) (fun f => rfl) ?_
  refine mr_t (C := 1 ≤ x) (mz_ge_t 1 (by decide) (by omega)) (fun f => rfl) ?_
  refine mr_seg 2 (pc1 := 15) (ls1 := [some (.ref 100), some (.int x)]) (st1 := [.int 60, .int x]) (M1 := (mk_M (cT im le ln ys vt nu nn rf vw vq yc yh yg) (kr (he, ke, ki, fi, fa, or, mi, a, g, l, w, s)) m kk q)) (fun f => rfl) ?_
  refine mr_t (C := 60 < x) (mz_gt_t 60 (by decide) (by omega)) (fun f => rfl) ?_
  refine mr_seg 2 (pc1 := 36) (ls1 := [some (.ref 100), some (.int x)]) (st1 := [.int (-6), .ref 100]) (M1 := (mk_M (cT im le ln ys vt nu nn rf vw vq yc yh yg) (kr (he, ke, ki, fi, fa, or, mi, a, g, l, w, s)) m kk q)) (fun f => rfl) ?_
  refine mr_call (y := 12) (y0 := 39) (L := [some (.ref 100), some (.int (-6))]) (rest := []) (rr := some (.int (-6))) (M1 := (mk_M (cT im le ln ys vt nu nn (rf.set 6 (kg rf 6 + 1)) vw vq yc yh yg) (kr (he, ke, ki, fi, fa, or, mi, a, g, l, w, s)) m kk q)) (fun f => rfl) (by
      refine mr_seg 5 (pc1 := 7) (ls1 := [some (.ref 100), some (.int (-6))]) (st1 := [.int 6, .ref 105, .int 6, .ref 105]) (M1 := (mk_M (cT im le ln ys vt nu nn rf vw vq yc yh yg) (kr (he, ke, ki, fi, fa, or, mi, a, g, l, w, s)) m kk q)) (fun f => rfl) ?_
      refine mr_ldn rfl rfl (k := 6) (by omega) (kg_ok (by omega)) ?_
      refine mr_seg 2 (pc1 := 10) (ls1 := [some (.ref 100), some (.int (-6))]) (st1 := [.int ((nI (kg rf 6)) + 1), .int 6, .ref 105]) (M1 := (mk_M (cT im le ln ys vt nu nn rf vw vq yc yh yg) (kr (he, ke, ki, fi, fa, or, mi, a, g, l, w, s)) m kk q)) (fun f => rfl) ?_
      refine mr_v (nI_add (kg rf 6) 1) ?_
      refine mr_stn (ys := ((rf.set 6 (kg rf 6 + 1)).map nI)) (M2 := (mk_M (cT im le ln ys vt nu nn (rf.set 6 (kg rf 6 + 1)) vw vq yc yh yg) (kr (he, ke, ki, fi, fa, or, mi, a, g, l, w, s)) m kk q)) rfl rfl (k := 6) (by omega) (by simp only [List.length_map, List.length_set]; omega) ks_ok rfl ?_
      exact mr_ret 2 (fun f => rfl)) ?_
  exact mr_ret 1 (fun f => rfl)
set_option maxRecDepth 100000 in
theorem om_goes_1 (he ke ki fi fa or : List Nat) (mi a g l w s : Nat) (xm xi xw : List Int32) (im : Nat) (le nu rf : List Nat) (ln nn : Nat) (vp : Int32) (xn xc : List Int32) (vs : Int32) (c : cC) (n m kk : kG) (hA : iA (he, ke, ki, fi, fa, or, mi, a, g, l, w, s)) (hB : iB le ln) (hC : iC nu nn) (hD : iD rf) (hR : iR xm xw xn xc) (k1 : xi.length = 52) (x : Int32) (hxl : 61 ≤ x.toInt) : mm_R 167 0 [some (.ref 138), some (.int x)] [] (mk_M c n m kk (rT (he, ke, ki, fi, fa, or, mi, a, g, l, w, s) xm xi xw im le nu rf ln nn vp xn xc vs)) (some (.int (-6)), (mk_M c n m kk (rT (he, ke, ki, fi, fa, or, mi, a, g, l, w, s) xm xi xw im le nu (rf.set 6 (kg rf 6 + 1)) ln nn vp xn xc vs))) := by
  obtain ⟨hV, hst⟩ := id hA
  have hst2 : s ≤ 999 := hst
  obtain ⟨v1, v2, v3, v4, v5, v6, v7, v8, v9, v10, v11, v12, v13, v14, v15, v16⟩ := id hV
  have v6l := kO_len mi v7 or v6
  obtain ⟨b1, b2, b3⟩ := id hB
  obtain ⟨c1, c2, c3⟩ := id hC
  have d1 : rf.length = 7 := hD
  obtain ⟨r1, r2, r3, r4⟩ := id hR
  refine mr_seg 2 (pc1 := 2) (ls1 := [some (.ref 138), some (.int x)]) (st1 := [.int 1, .int x]) (M1 := (mk_M c n m kk (rT (he, ke, ki, fi, fa, or, mi, a, g, l, w, s) xm xi xw im le nu rf ln nn vp xn xc vs))) (fun f => rfl) ?_
  refine mr_t (C := 1 ≤ x) (mz_ge_t 1 (by decide) (by omega)) (fun f => rfl) ?_
  refine mr_seg 2 (pc1 := 15) (ls1 := [some (.ref 138), some (.int x)]) (st1 := [.int 60, .int x]) (M1 := (mk_M c n m kk (rT (he, ke, ki, fi, fa, or, mi, a, g, l, w, s) xm xi xw im le nu rf ln nn vp xn xc vs))) (fun f => rfl) ?_
  refine mr_t (C := 60 < x) (mz_gt_t 60 (by decide) (by omega)) (fun f => rfl) ?_
  refine mr_seg 2 (pc1 := 35) (ls1 := [some (.ref 138), some (.int x)]) (st1 := [.int (-6), .ref 138]) (M1 := (mk_M c n m kk (rT (he, ke, ki, fi, fa, or, mi, a, g, l, w, s) xm xi xw im le nu rf ln nn vp xn xc vs))) (fun f => rfl) ?_
  refine mr_call (y := 130) (y0 := 38) (L := [some (.ref 138), some (.int (-6))]) (rest := []) (rr := some (.int (-6))) (M1 := (mk_M c n m kk (rT (he, ke, ki, fi, fa, or, mi, a, g, l, w, s) xm xi xw im le nu (rf.set 6 (kg rf 6 + 1)) ln nn vp xn xc vs))) (fun f => rfl) (by
      refine mr_seg 5 (pc1 := 7) (ls1 := [some (.ref 138), some (.int (-6))]) (st1 := [.int 6, .ref 145, .int 6, .ref 145]) (M1 := (mk_M c n m kk (rT (he, ke, ki, fi, fa, or, mi, a, g, l, w, s) xm xi xw im le nu rf ln nn vp xn xc vs))) (fun f => rfl) ?_
      refine mr_ldn rfl rfl (k := 6) (by omega) (kg_ok (by omega)) ?_
      refine mr_seg 2 (pc1 := 10) (ls1 := [some (.ref 138), some (.int (-6))]) (st1 := [.int ((nI (kg rf 6)) + 1), .int 6, .ref 145]) (M1 := (mk_M c n m kk (rT (he, ke, ki, fi, fa, or, mi, a, g, l, w, s) xm xi xw im le nu rf ln nn vp xn xc vs))) (fun f => rfl) ?_
      refine mr_v (nI_add (kg rf 6) 1) ?_
      refine mr_stn (ys := ((rf.set 6 (kg rf 6 + 1)).map nI)) (M2 := (mk_M c n m kk (rT (he, ke, ki, fi, fa, or, mi, a, g, l, w, s) xm xi xw im le nu (rf.set 6 (kg rf 6 + 1)) ln nn vp xn xc vs))) rfl rfl (k := 6) (by omega) (by simp only [List.length_map, List.length_set]; omega) ks_ok rfl ?_
      exact mr_ret 2 (fun f => rfl)) ?_
  exact mr_ret 1 (fun f => rfl)
theorem oe_goes_1 (he ke ki fi fa or : List Nat) (mi a g l w s : Nat) (m : kG) (kk : kG) (im : Nat) (le : List Nat) (ln : Nat) (ys : List Int32) (vt : Int32) (nu : List Nat) (nn : Nat) (rf : List Nat) (vw : Int32) (vq : Int32) (yc : List Int32) (yh : List Int32) (yg : List Int32) (xm : List Int32) (xi : List Int32) (xw : List Int32) (vp : Int32) (xn : List Int32) (xc : List Int32) (vs : Int32) (hA : iA (he, ke, ki, fi, fa, or, mi, a, g, l, w, s)) (hB : iB le ln) (hC : iC nu nn) (hD : iD rf) (hJ : iJ m ys yc yh yg) (hR : iR xm xw xn xc) (hK : iK im kk xi) (x : Int32) (hxl : 61 ≤ x.toInt) : oI 73 167 [some (.ref 100), some (.int x)] [some (.ref 138), some (.int x)] (mk_M (cT im le ln ys vt nu nn rf vw vq yc yh yg) (kr (he, ke, ki, fi, fa, or, mi, a, g, l, w, s)) m kk (rT (he, ke, ki, fi, fa, or, mi, a, g, l, w, s) xm xi xw im le nu rf ln nn vp xn xc vs)) := by
  exact ⟨(-6), _, _, oc_goes_1 he ke ki fi fa or mi a g l w s im le ln ys vt nu nn rf vw vq yc yh yg m kk _ hA hB hC hD hJ hK.1 x hxl, om_goes_1 he ke ki fi fa or mi a g l w s xm xi xw im le nu rf ln nn vp xn xc vs _ _ _ _ hA hB hC hD hR hK.2.1 x hxl, (he, ke, ki, fi, fa, or, mi, a, g, l, w, s), m, kk, im, le, ln, ys, vt, nu, nn, (rf.set 6 (kg rf 6 + 1)), vw, vq, yc, yh, yg, xm, xi, xw, vp, xn, xc, vs, rfl, hA, hB, hC, iD_s hD, hJ, hR, hK⟩
set_option maxRecDepth 100000 in
theorem oc_goes_2 (he ke ki fi fa or : List Nat) (mi a g l w s : Nat) (im : Nat) (le : List Nat) (ln : Nat) (ys : List Int32) (vt : Int32) (nu : List Nat) (nn : Nat) (rf : List Nat) (vw vq : Int32) (yc yh yg : List Int32) (m kk : kG) (q : cR) (hA : iA (he, ke, ki, fi, fa, or, mi, a, g, l, w, s)) (hB : iB le ln) (hC : iC nu nn) (hD : iD rf) (hJ : iJ m ys yc yh yg) (k0 : kSh kk) (x : Nat) (hx1 : 1 ≤ x) (hx : x ≤ 60) (hq : 999 < s + x) : mm_R 73 0 [some (.ref 100), some (.int (nI x))] [] (mk_M (cT im le ln ys vt nu nn rf vw vq yc yh yg) (kr (he, ke, ki, fi, fa, or, mi, a, g, l, w, s)) m kk q) (some (.int (-6)), (mk_M (cT im le ln ys vt nu nn (rf.set 6 (kg rf 6 + 1)) vw vq yc yh yg) (kr (he, ke, ki, fi, fa, or, mi, a, g, l, w, s)) m kk q)) := by
  obtain ⟨hV, hst⟩ := id hA
  have hst2 : s ≤ 999 := hst
  obtain ⟨v1, v2, v3, v4, v5, v6, v7, v8, v9, v10, v11, v12, v13, v14, v15, v16⟩ := id hV
  have v6l := kO_len mi v7 or v6
  obtain ⟨b1, b2, b3⟩ := id hB
  obtain ⟨c1, c2, c3⟩ := id hC
  have d1 : rf.length = 7 := hD
  obtain ⟨j0, j1, j2, j3, j4⟩ := id hJ
  refine mr_seg 2 (pc1 := 2) (ls1 := [some (.ref 100), some (.int (nI x))]) (st1 := [.int 1, .int (nI x)]) (M1 := (mk_M (cT im le ln ys vt nu nn rf vw vq yc yh yg) (kr (he, ke, ki, fi, fa, or, mi, a, g, l, w, s)) m kk q)) (fun f => rfl) ?_
  refine mr_t (C := 1 ≤ (nI x)) ((nI_leI (a := 1) (b := x) (by omega) (by omega)).mpr (by omega)) (fun f => rfl) ?_
  refine mr_seg 2 (pc1 := 15) (ls1 := [some (.ref 100), some (.int (nI x))]) (st1 := [.int 60, .int (nI x)]) (M1 := (mk_M (cT im le ln ys vt nu nn rf vw vq yc yh yg) (kr (he, ke, ki, fi, fa, or, mi, a, g, l, w, s)) m kk q)) (fun f => rfl) ?_
  refine mr_f (C := 60 < (nI x)) (fun e_ => absurd ((nI_ltI (a := 60) (b := x) (by omega) (by omega)).mp e_) (by omega)) (fun f => rfl) ?_
  refine mr_seg 5 (pc1 := 27) (ls1 := [some (.ref 100), some (.int (nI x))]) (st1 := [.int ((nI s) + (nI x))]) (M1 := (mk_M (cT im le ln ys vt nu nn rf vw vq yc yh yg) (kr (he, ke, ki, fi, fa, or, mi, a, g, l, w, s)) m kk q)) (fun f => rfl) ?_
  refine mr_v (nI_add s x) ?_
  refine mr_seg 1 (pc1 := 30) (ls1 := [some (.ref 100), some (.int (nI x))]) (st1 := [.int 999, .int (nI (s + x))]) (M1 := (mk_M (cT im le ln ys vt nu nn rf vw vq yc yh yg) (kr (he, ke, ki, fi, fa, or, mi, a, g, l, w, s)) m kk q)) (fun f => rfl) ?_
  refine mr_f (C := (nI (s + x)) ≤ 999) (fun e_ => absurd ((nI_leI (a := s + x) (b := 999) (by omega) (by omega)).mp e_) (by omega)) (fun f => rfl) ?_
  refine mr_seg 2 (pc1 := 36) (ls1 := [some (.ref 100), some (.int (nI x))]) (st1 := [.int (-6), .ref 100]) (M1 := (mk_M (cT im le ln ys vt nu nn rf vw vq yc yh yg) (kr (he, ke, ki, fi, fa, or, mi, a, g, l, w, s)) m kk q)) (fun f => rfl) ?_
  refine mr_call (y := 12) (y0 := 39) (L := [some (.ref 100), some (.int (-6))]) (rest := []) (rr := some (.int (-6))) (M1 := (mk_M (cT im le ln ys vt nu nn (rf.set 6 (kg rf 6 + 1)) vw vq yc yh yg) (kr (he, ke, ki, fi, fa, or, mi, a, g, l, w, s)) m kk q)) (fun f => rfl) (by
      refine mr_seg 5 (pc1 := 7) (ls1 := [some (.ref 100), some (.int (-6))]) (st1 := [.int 6, .ref 105, .int 6, .ref 105]) (M1 := (mk_M (cT im le ln ys vt nu nn rf vw vq yc yh yg) (kr (he, ke, ki, fi, fa, or, mi, a, g, l, w, s)) m kk q)) (fun f => rfl) ?_
      refine mr_ldn rfl rfl (k := 6) (by omega) (kg_ok (by omega)) ?_
      refine mr_seg 2 (pc1 := 10) (ls1 := [some (.ref 100), some (.int (-6))]) (st1 := [.int ((nI (kg rf 6)) + 1), .int 6, .ref 105]) (M1 := (mk_M (cT im le ln ys vt nu nn rf vw vq yc yh yg) (kr (he, ke, ki, fi, fa, or, mi, a, g, l, w, s)) m kk q)) (fun f => rfl) ?_
      refine mr_v (nI_add (kg rf 6) 1) ?_
      refine mr_stn (ys := ((rf.set 6 (kg rf 6 + 1)).map nI)) (M2 := (mk_M (cT im le ln ys vt nu nn (rf.set 6 (kg rf 6 + 1)) vw vq yc yh yg) (kr (he, ke, ki, fi, fa, or, mi, a, g, l, w, s)) m kk q)) rfl rfl (k := 6) (by omega) (by simp only [List.length_map, List.length_set]; omega) ks_ok rfl ?_
      exact mr_ret 2 (fun f => rfl)) ?_
  exact mr_ret 1 (fun f => rfl)
set_option maxRecDepth 100000 in
theorem om_goes_2 (he ke ki fi fa or : List Nat) (mi a g l w s : Nat) (xm xi xw : List Int32) (im : Nat) (le nu rf : List Nat) (ln nn : Nat) (vp : Int32) (xn xc : List Int32) (vs : Int32) (c : cC) (n m kk : kG) (hA : iA (he, ke, ki, fi, fa, or, mi, a, g, l, w, s)) (hB : iB le ln) (hC : iC nu nn) (hD : iD rf) (hR : iR xm xw xn xc) (k1 : xi.length = 52) (x : Nat) (hx1 : 1 ≤ x) (hx : x ≤ 60) (hq : 999 < s + x) : mm_R 167 0 [some (.ref 138), some (.int (nI x))] [] (mk_M c n m kk (rT (he, ke, ki, fi, fa, or, mi, a, g, l, w, s) xm xi xw im le nu rf ln nn vp xn xc vs)) (some (.int (-6)), (mk_M c n m kk (rT (he, ke, ki, fi, fa, or, mi, a, g, l, w, s) xm xi xw im le nu (rf.set 6 (kg rf 6 + 1)) ln nn vp xn xc vs))) := by
  obtain ⟨hV, hst⟩ := id hA
  have hst2 : s ≤ 999 := hst
  obtain ⟨v1, v2, v3, v4, v5, v6, v7, v8, v9, v10, v11, v12, v13, v14, v15, v16⟩ := id hV
  have v6l := kO_len mi v7 or v6
  obtain ⟨b1, b2, b3⟩ := id hB
  obtain ⟨c1, c2, c3⟩ := id hC
  have d1 : rf.length = 7 := hD
  obtain ⟨r1, r2, r3, r4⟩ := id hR
  refine mr_seg 2 (pc1 := 2) (ls1 := [some (.ref 138), some (.int (nI x))]) (st1 := [.int 1, .int (nI x)]) (M1 := (mk_M c n m kk (rT (he, ke, ki, fi, fa, or, mi, a, g, l, w, s) xm xi xw im le nu rf ln nn vp xn xc vs))) (fun f => rfl) ?_
  refine mr_t (C := 1 ≤ (nI x)) ((nI_leI (a := 1) (b := x) (by omega) (by omega)).mpr (by omega)) (fun f => rfl) ?_
  refine mr_seg 2 (pc1 := 15) (ls1 := [some (.ref 138), some (.int (nI x))]) (st1 := [.int 60, .int (nI x)]) (M1 := (mk_M c n m kk (rT (he, ke, ki, fi, fa, or, mi, a, g, l, w, s) xm xi xw im le nu rf ln nn vp xn xc vs))) (fun f => rfl) ?_
  refine mr_f (C := 60 < (nI x)) (fun e_ => absurd ((nI_ltI (a := 60) (b := x) (by omega) (by omega)).mp e_) (by omega)) (fun f => rfl) ?_
  refine mr_seg 3 (pc1 := 23) (ls1 := [some (.ref 138), some (.int (nI x))]) (st1 := [.int 1, .ref 139]) (M1 := (mk_M c n m kk (rT (he, ke, ki, fi, fa, or, mi, a, g, l, w, s) xm xi xw im le nu rf ln nn vp xn xc vs))) (fun f => rfl) ?_
  refine mr_ldn rfl rfl (k := 1) (by decide) rfl ?_
  refine mr_seg 2 (pc1 := 26) (ls1 := [some (.ref 138), some (.int (nI x))]) (st1 := [.int ((nI s) + (nI x))]) (M1 := (mk_M c n m kk (rT (he, ke, ki, fi, fa, or, mi, a, g, l, w, s) xm xi xw im le nu rf ln nn vp xn xc vs))) (fun f => rfl) ?_
  refine mr_v (nI_add s x) ?_
  refine mr_seg 1 (pc1 := 29) (ls1 := [some (.ref 138), some (.int (nI x))]) (st1 := [.int 999, .int (nI (s + x))]) (M1 := (mk_M c n m kk (rT (he, ke, ki, fi, fa, or, mi, a, g, l, w, s) xm xi xw im le nu rf ln nn vp xn xc vs))) (fun f => rfl) ?_
  refine mr_f (C := (nI (s + x)) ≤ 999) (fun e_ => absurd ((nI_leI (a := s + x) (b := 999) (by omega) (by omega)).mp e_) (by omega)) (fun f => rfl) ?_
  refine mr_seg 2 (pc1 := 35) (ls1 := [some (.ref 138), some (.int (nI x))]) (st1 := [.int (-6), .ref 138]) (M1 := (mk_M c n m kk (rT (he, ke, ki, fi, fa, or, mi, a, g, l, w, s) xm xi xw im le nu rf ln nn vp xn xc vs))) (fun f => rfl) ?_
  refine mr_call (y := 130) (y0 := 38) (L := [some (.ref 138), some (.int (-6))]) (rest := []) (rr := some (.int (-6))) (M1 := (mk_M c n m kk (rT (he, ke, ki, fi, fa, or, mi, a, g, l, w, s) xm xi xw im le nu (rf.set 6 (kg rf 6 + 1)) ln nn vp xn xc vs))) (fun f => rfl) (by
      refine mr_seg 5 (pc1 := 7) (ls1 := [some (.ref 138), some (.int (-6))]) (st1 := [.int 6, .ref 145, .int 6, .ref 145]) (M1 := (mk_M c n m kk (rT (he, ke, ki, fi, fa, or, mi, a, g, l, w, s) xm xi xw im le nu rf ln nn vp xn xc vs))) (fun f => rfl) ?_
      refine mr_ldn rfl rfl (k := 6) (by omega) (kg_ok (by omega)) ?_
      refine mr_seg 2 (pc1 := 10) (ls1 := [some (.ref 138), some (.int (-6))]) (st1 := [.int ((nI (kg rf 6)) + 1), .int 6, .ref 145]) (M1 := (mk_M c n m kk (rT (he, ke, ki, fi, fa, or, mi, a, g, l, w, s) xm xi xw im le nu rf ln nn vp xn xc vs))) (fun f => rfl) ?_
      refine mr_v (nI_add (kg rf 6) 1) ?_
      refine mr_stn (ys := ((rf.set 6 (kg rf 6 + 1)).map nI)) (M2 := (mk_M c n m kk (rT (he, ke, ki, fi, fa, or, mi, a, g, l, w, s) xm xi xw im le nu (rf.set 6 (kg rf 6 + 1)) ln nn vp xn xc vs))) rfl rfl (k := 6) (by omega) (by simp only [List.length_map, List.length_set]; omega) ks_ok rfl ?_
      exact mr_ret 2 (fun f => rfl)) ?_
  exact mr_ret 1 (fun f => rfl)
theorem oe_goes_2 (he ke ki fi fa or : List Nat) (mi a g l w s : Nat) (m : kG) (kk : kG) (im : Nat) (le : List Nat) (ln : Nat) (ys : List Int32) (vt : Int32) (nu : List Nat) (nn : Nat) (rf : List Nat) (vw : Int32) (vq : Int32) (yc : List Int32) (yh : List Int32) (yg : List Int32) (xm : List Int32) (xi : List Int32) (xw : List Int32) (vp : Int32) (xn : List Int32) (xc : List Int32) (vs : Int32) (hA : iA (he, ke, ki, fi, fa, or, mi, a, g, l, w, s)) (hB : iB le ln) (hC : iC nu nn) (hD : iD rf) (hJ : iJ m ys yc yh yg) (hR : iR xm xw xn xc) (hK : iK im kk xi) (x : Nat) (hx1 : 1 ≤ x) (hx : x ≤ 60) (hq : 999 < s + x) : oI 73 167 [some (.ref 100), some (.int (nI x))] [some (.ref 138), some (.int (nI x))] (mk_M (cT im le ln ys vt nu nn rf vw vq yc yh yg) (kr (he, ke, ki, fi, fa, or, mi, a, g, l, w, s)) m kk (rT (he, ke, ki, fi, fa, or, mi, a, g, l, w, s) xm xi xw im le nu rf ln nn vp xn xc vs)) := by
  exact ⟨(-6), _, _, oc_goes_2 he ke ki fi fa or mi a g l w s im le ln ys vt nu nn rf vw vq yc yh yg m kk _ hA hB hC hD hJ hK.1 x hx1 hx hq, om_goes_2 he ke ki fi fa or mi a g l w s xm xi xw im le nu rf ln nn vp xn xc vs _ _ _ _ hA hB hC hD hR hK.2.1 x hx1 hx hq, (he, ke, ki, fi, fa, or, mi, a, g, l, w, s), m, kk, im, le, ln, ys, vt, nu, nn, (rf.set 6 (kg rf 6 + 1)), vw, vq, yc, yh, yg, xm, xi, xw, vp, xn, xc, vs, rfl, hA, hB, hC, iD_s hD, hJ, hR, hK⟩
set_option maxRecDepth 100000 in
theorem oc_goes_3 (he ke ki fi fa or : List Nat) (mi a g l w s : Nat) (im : Nat) (le : List Nat) (ln : Nat) (ys : List Int32) (vt : Int32) (nu : List Nat) (nn : Nat) (rf : List Nat) (vw vq : Int32) (yc yh yg : List Int32) (m kk : kG) (q : cR) (hA : iA (he, ke, ki, fi, fa, or, mi, a, g, l, w, s)) (hB : iB le ln) (hC : iC nu nn) (hD : iD rf) (hJ : iJ m ys yc yh yg) (k0 : kSh kk) (x : Nat) (hx1 : 1 ≤ x) (hx : x ≤ 60) (hq : s + x ≤ 999) : mm_R 73 0 [some (.ref 100), some (.int (nI x))] [] (mk_M (cT im le ln ys vt nu nn rf vw vq yc yh yg) (kr (he, ke, ki, fi, fa, or, mi, a, g, l, w, s)) m kk q) (some (.int (nI (k_at (ksteps x (he, ke, ki, fi, fa, or, mi, a, g, l, w, s))))), (mk_M (cT im le ln ys vt nu nn rf vw vq yc yh yg) (kr (ksteps x (he, ke, ki, fi, fa, or, mi, a, g, l, w, s))) m kk q)) := by
  obtain ⟨hV, hst⟩ := id hA
  have hst2 : s ≤ 999 := hst
  obtain ⟨v1, v2, v3, v4, v5, v6, v7, v8, v9, v10, v11, v12, v13, v14, v15, v16⟩ := id hV
  have v6l := kO_len mi v7 or v6
  obtain ⟨b1, b2, b3⟩ := id hB
  obtain ⟨c1, c2, c3⟩ := id hC
  have d1 : rf.length = 7 := hD
  obtain ⟨j0, j1, j2, j3, j4⟩ := id hJ
  refine mr_seg 2 (pc1 := 2) (ls1 := [some (.ref 100), some (.int (nI x))]) (st1 := [.int 1, .int (nI x)]) (M1 := (mk_M (cT im le ln ys vt nu nn rf vw vq yc yh yg) (kr (he, ke, ki, fi, fa, or, mi, a, g, l, w, s)) m kk q)) (fun f => rfl) ?_
  refine mr_t (C := 1 ≤ (nI x)) ((nI_leI (a := 1) (b := x) (by omega) (by omega)).mpr (by omega)) (fun f => rfl) ?_
  refine mr_seg 2 (pc1 := 15) (ls1 := [some (.ref 100), some (.int (nI x))]) (st1 := [.int 60, .int (nI x)]) (M1 := (mk_M (cT im le ln ys vt nu nn rf vw vq yc yh yg) (kr (he, ke, ki, fi, fa, or, mi, a, g, l, w, s)) m kk q)) (fun f => rfl) ?_
  refine mr_f (C := 60 < (nI x)) (fun e_ => absurd ((nI_ltI (a := 60) (b := x) (by omega) (by omega)).mp e_) (by omega)) (fun f => rfl) ?_
  refine mr_seg 5 (pc1 := 27) (ls1 := [some (.ref 100), some (.int (nI x))]) (st1 := [.int ((nI s) + (nI x))]) (M1 := (mk_M (cT im le ln ys vt nu nn rf vw vq yc yh yg) (kr (he, ke, ki, fi, fa, or, mi, a, g, l, w, s)) m kk q)) (fun f => rfl) ?_
  refine mr_v (nI_add s x) ?_
  refine mr_seg 1 (pc1 := 30) (ls1 := [some (.ref 100), some (.int (nI x))]) (st1 := [.int 999, .int (nI (s + x))]) (M1 := (mk_M (cT im le ln ys vt nu nn rf vw vq yc yh yg) (kr (he, ke, ki, fi, fa, or, mi, a, g, l, w, s)) m kk q)) (fun f => rfl) ?_
  refine mr_t (C := (nI (s + x)) ≤ 999) ((nI_leI (a := s + x) (b := 999) (by omega) (by omega)).mpr (by omega)) (fun f => rfl) ?_
  refine mr_seg 3 (pc1 := 45) (ls1 := [some (.ref 100), some (.int (nI x))]) (st1 := [.int (nI x), .ref 117]) (M1 := (mk_M (cT im le ln ys vt nu nn rf vw vq yc yh yg) (kr (he, ke, ki, fi, fa, or, mi, a, g, l, w, s)) m kk q)) (fun f => rfl) ?_
  refine mr_call (y := 43) (y0 := 48) (L := [some (.ref 117), some (.int (nI x)), none]) (rest := []) (rr := none) (M1 := (mk_M (cT im le ln ys vt nu nn rf vw vq yc yh yg) (kr (ksteps x (he, ke, ki, fi, fa, or, mi, a, g, l, w, s))) m kk q)) (fun f => rfl) (kl_n (cT im le ln ys vt nu nn rf vw vq yc yh yg) m kk q (kc_by_n x (by omega) (he, ke, ki, fi, fa, or, mi, a, g, l, w, s) hV (show s < 2 ^ 20 by omega))) ?_
  exact mr_ret 4 (fun f => rfl)
set_option maxRecDepth 100000 in
theorem om_goes_3 (he ke ki fi fa or : List Nat) (mi a g l w s : Nat) (xm xi xw : List Int32) (im : Nat) (le nu rf : List Nat) (ln nn : Nat) (vp : Int32) (xn xc : List Int32) (vs : Int32) (c : cC) (n m kk : kG) (hA : iA (he, ke, ki, fi, fa, or, mi, a, g, l, w, s)) (hB : iB le ln) (hC : iC nu nn) (hD : iD rf) (hR : iR xm xw xn xc) (k1 : xi.length = 52) (x : Nat) (hx1 : 1 ≤ x) (hx : x ≤ 60) (hq : s + x ≤ 999) : mm_R 167 0 [some (.ref 138), some (.int (nI x))] [] (mk_M c n m kk (rT (he, ke, ki, fi, fa, or, mi, a, g, l, w, s) xm xi xw im le nu rf ln nn vp xn xc vs)) (some (.int (nI (k_at (ksteps x (he, ke, ki, fi, fa, or, mi, a, g, l, w, s))))), (mk_M c n m kk (rT (ksteps x (he, ke, ki, fi, fa, or, mi, a, g, l, w, s)) xm xi xw im le nu rf ln nn vp xn xc vs))) := by
  obtain ⟨hV, hst⟩ := id hA
  have hst2 : s ≤ 999 := hst
  obtain ⟨v1, v2, v3, v4, v5, v6, v7, v8, v9, v10, v11, v12, v13, v14, v15, v16⟩ := id hV
  have v6l := kO_len mi v7 or v6
  obtain ⟨b1, b2, b3⟩ := id hB
  obtain ⟨c1, c2, c3⟩ := id hC
  have d1 : rf.length = 7 := hD
  obtain ⟨r1, r2, r3, r4⟩ := id hR
  refine mr_seg 2 (pc1 := 2) (ls1 := [some (.ref 138), some (.int (nI x))]) (st1 := [.int 1, .int (nI x)]) (M1 := (mk_M c n m kk (rT (he, ke, ki, fi, fa, or, mi, a, g, l, w, s) xm xi xw im le nu rf ln nn vp xn xc vs))) (fun f => rfl) ?_
  refine mr_t (C := 1 ≤ (nI x)) ((nI_leI (a := 1) (b := x) (by omega) (by omega)).mpr (by omega)) (fun f => rfl) ?_
  refine mr_seg 2 (pc1 := 15) (ls1 := [some (.ref 138), some (.int (nI x))]) (st1 := [.int 60, .int (nI x)]) (M1 := (mk_M c n m kk (rT (he, ke, ki, fi, fa, or, mi, a, g, l, w, s) xm xi xw im le nu rf ln nn vp xn xc vs))) (fun f => rfl) ?_
  refine mr_f (C := 60 < (nI x)) (fun e_ => absurd ((nI_ltI (a := 60) (b := x) (by omega) (by omega)).mp e_) (by omega)) (fun f => rfl) ?_
  refine mr_seg 3 (pc1 := 23) (ls1 := [some (.ref 138), some (.int (nI x))]) (st1 := [.int 1, .ref 139]) (M1 := (mk_M c n m kk (rT (he, ke, ki, fi, fa, or, mi, a, g, l, w, s) xm xi xw im le nu rf ln nn vp xn xc vs))) (fun f => rfl) ?_
  refine mr_ldn rfl rfl (k := 1) (by decide) rfl ?_
  refine mr_seg 2 (pc1 := 26) (ls1 := [some (.ref 138), some (.int (nI x))]) (st1 := [.int ((nI s) + (nI x))]) (M1 := (mk_M c n m kk (rT (he, ke, ki, fi, fa, or, mi, a, g, l, w, s) xm xi xw im le nu rf ln nn vp xn xc vs))) (fun f => rfl) ?_
  refine mr_v (nI_add s x) ?_
  refine mr_seg 1 (pc1 := 29) (ls1 := [some (.ref 138), some (.int (nI x))]) (st1 := [.int 999, .int (nI (s + x))]) (M1 := (mk_M c n m kk (rT (he, ke, ki, fi, fa, or, mi, a, g, l, w, s) xm xi xw im le nu rf ln nn vp xn xc vs))) (fun f => rfl) ?_
  refine mr_t (C := (nI (s + x)) ≤ 999) ((nI_leI (a := s + x) (b := 999) (by omega) (by omega)).mpr (by omega)) (fun f => rfl) ?_
  refine mr_seg 3 (pc1 := 44) (ls1 := [some (.ref 138), some (.int (nI x))]) (st1 := [.int (nI x), .ref 139]) (M1 := (mk_M c n m kk (rT (he, ke, ki, fi, fa, or, mi, a, g, l, w, s) xm xi xw im le nu rf ln nn vp xn xc vs))) (fun f => rfl) ?_
  refine mr_call (y := 145) (y0 := 47) (L := [some (.ref 139), some (.int (nI x)), none]) (rest := []) (rr := none) (M1 := (mk_M c n m kk (rT (ksteps x (he, ke, ki, fi, fa, or, mi, a, g, l, w, s)) xm xi xw im le nu rf ln nn vp xn xc vs))) (fun f => rfl) (rl_s c n m kk (rT (he, ke, ki, fi, fa, or, mi, a, g, l, w, s) xm xi xw im le nu rf ln nn vp xn xc vs) (rc_by_s x (by omega) (he, ke, ki, fi, fa, or, mi, a, g, l, w, s) hV (show s < 2 ^ 20 by omega)) rfl) ?_
  refine mr_seg 3 (pc1 := 52) (ls1 := [some (.ref 138), some (.int (nI x))]) (st1 := [.int 2, .ref 139]) (M1 := (mk_M c n m kk (rT (ksteps x (he, ke, ki, fi, fa, or, mi, a, g, l, w, s)) xm xi xw im le nu rf ln nn vp xn xc vs))) (fun f => rfl) ?_
  refine mr_ldn rfl rfl (k := 2) (by decide) rfl ?_
  exact mr_ret 1 (fun f => rfl)
theorem oe_goes_3 (he ke ki fi fa or : List Nat) (mi a g l w s : Nat) (m : kG) (kk : kG) (im : Nat) (le : List Nat) (ln : Nat) (ys : List Int32) (vt : Int32) (nu : List Nat) (nn : Nat) (rf : List Nat) (vw : Int32) (vq : Int32) (yc : List Int32) (yh : List Int32) (yg : List Int32) (xm : List Int32) (xi : List Int32) (xw : List Int32) (vp : Int32) (xn : List Int32) (xc : List Int32) (vs : Int32) (hA : iA (he, ke, ki, fi, fa, or, mi, a, g, l, w, s)) (hB : iB le ln) (hC : iC nu nn) (hD : iD rf) (hJ : iJ m ys yc yh yg) (hR : iR xm xw xn xc) (hK : iK im kk xi) (x : Nat) (hx1 : 1 ≤ x) (hx : x ≤ 60) (hq : s + x ≤ 999) : oI 73 167 [some (.ref 100), some (.int (nI x))] [some (.ref 138), some (.int (nI x))] (mk_M (cT im le ln ys vt nu nn rf vw vq yc yh yg) (kr (he, ke, ki, fi, fa, or, mi, a, g, l, w, s)) m kk (rT (he, ke, ki, fi, fa, or, mi, a, g, l, w, s) xm xi xw im le nu rf ln nn vp xn xc vs)) := by
  obtain ⟨hV, hst⟩ := id hA
  have hst2 : s ≤ 999 := hst
  obtain ⟨v1, v2, v3, v4, v5, v6, v7, v8, v9, v10, v11, v12, v13, v14, v15, v16⟩ := id hV
  have v6l := kO_len mi v7 or v6
  obtain ⟨b1, b2, b3⟩ := id hB
  obtain ⟨c1, c2, c3⟩ := id hC
  have d1 : rf.length = 7 := hD
  obtain ⟨j0, j1, j2, j3, j4⟩ := id hJ
  obtain ⟨r1, r2, r3, r4⟩ := id hR
  obtain ⟨k0, k1, k2, k3⟩ := id hK
  exact ⟨(nI (k_at (ksteps x (he, ke, ki, fi, fa, or, mi, a, g, l, w, s)))), _, _, oc_goes_3 he ke ki fi fa or mi a g l w s im le ln ys vt nu nn rf vw vq yc yh yg m kk _ hA hB hC hD hJ hK.1 x hx1 hx hq, om_goes_3 he ke ki fi fa or mi a g l w s xm xi xw im le nu rf ln nn vp xn xc vs _ _ _ _ hA hB hC hD hR hK.2.1 x hx1 hx hq, (ksteps x (he, ke, ki, fi, fa, or, mi, a, g, l, w, s)), m, kk, im, le, ln, ys, vt, nu, nn, rf, vw, vq, yc, yh, yg, xm, xi, xw, vp, xn, xc, vs, rfl, ⟨kV_steps x hV, by rw [kst_steps]; show s + x ≤ 999; exact hq⟩, hB, hC, hD, hJ, hR, hK⟩
set_option maxRecDepth 100000 in
theorem oc_then_0 (he ke ki fi fa or : List Nat) (mi a g l w s : Nat) (im : Nat) (le : List Nat) (ln : Nat) (ys : List Int32) (vt : Int32) (nu : List Nat) (nn : Nat) (rf : List Nat) (vw vq : Int32) (yc yh yg : List Int32) (m kk : kG) (q : cR) (hA : iA (he, ke, ki, fi, fa, or, mi, a, g, l, w, s)) (hB : iB le ln) (hC : iC nu nn) (hD : iD rf) (hJ : iJ m ys yc yh yg) (k0 : kSh kk) (x : Int32) (hxu : x.toInt ≤ -1) (y : Int32) : mm_R 74 0 [some (.ref 100), some (.int x), some (.int y), none] [] (mk_M (cT im le ln ys vt nu nn rf vw vq yc yh yg) (kr (he, ke, ki, fi, fa, or, mi, a, g, l, w, s)) m kk q) (some (.int (-4)), (mk_M (cT im le ln ys vt nu nn (rf.set 4 (kg rf 4 + 1)) vw vq yc yh yg) (kr (he, ke, ki, fi, fa, or, mi, a, g, l, w, s)) m kk q)) := by
  obtain ⟨hV, hst⟩ := id hA
  have hst2 : s ≤ 999 := hst
  obtain ⟨v1, v2, v3, v4, v5, v6, v7, v8, v9, v10, v11, v12, v13, v14, v15, v16⟩ := id hV
  have v6l := kO_len mi v7 or v6
  obtain ⟨b1, b2, b3⟩ := id hB
  obtain ⟨c1, c2, c3⟩ := id hC
  have d1 : rf.length = 7 := hD
  obtain ⟨j0, j1, j2, j3, j4⟩ := id hJ
  refine mr_seg 1 (pc1 := 1) (ls1 := [some (.ref 100), some (.int x), some (.int y), none]) (st1 := [.int x]) (M1 := (mk_M (cT im le ln ys vt nu nn rf vw vq yc yh yg) (kr (he, ke, ki, fi, fa, or, mi, a, g, l, w, s)) m kk q)) (fun f => rfl) ?_
  refine mr_f (C := 0 ≤ x) (mz_ge_f 0 (by decide) (by omega)) (fun f => rfl) ?_
  refine mr_seg 2 (pc1 := 7) (ls1 := [some (.ref 100), some (.int x), some (.int y), none]) (st1 := [.int (-4), .ref 100]) (M1 := (mk_M (cT im le ln ys vt nu nn rf vw vq yc yh yg) (kr (he, ke, ki, fi, fa, or, mi, a, g, l, w, s)) m kk q)) (fun f => rfl) ?_
  refine mr_call (y := 12) (y0 := 10) (L := [some (.ref 100), some (.int (-4))]) (rest := []) (rr := some (.int (-4))) (M1 := (mk_M (cT im le ln ys vt nu nn (rf.set 4 (kg rf 4 + 1)) vw vq yc yh yg) (kr (he, ke, ki, fi, fa, or, mi, a, g, l, w, s)) m kk q)) (fun f => rfl) (by
      refine mr_seg 5 (pc1 := 7) (ls1 := [some (.ref 100), some (.int (-4))]) (st1 := [.int 4, .ref 105, .int 4, .ref 105]) (M1 := (mk_M (cT im le ln ys vt nu nn rf vw vq yc yh yg) (kr (he, ke, ki, fi, fa, or, mi, a, g, l, w, s)) m kk q)) (fun f => rfl) ?_
      refine mr_ldn rfl rfl (k := 4) (by omega) (kg_ok (by omega)) ?_
      refine mr_seg 2 (pc1 := 10) (ls1 := [some (.ref 100), some (.int (-4))]) (st1 := [.int ((nI (kg rf 4)) + 1), .int 4, .ref 105]) (M1 := (mk_M (cT im le ln ys vt nu nn rf vw vq yc yh yg) (kr (he, ke, ki, fi, fa, or, mi, a, g, l, w, s)) m kk q)) (fun f => rfl) ?_
      refine mr_v (nI_add (kg rf 4) 1) ?_
      refine mr_stn (ys := ((rf.set 4 (kg rf 4 + 1)).map nI)) (M2 := (mk_M (cT im le ln ys vt nu nn (rf.set 4 (kg rf 4 + 1)) vw vq yc yh yg) (kr (he, ke, ki, fi, fa, or, mi, a, g, l, w, s)) m kk q)) rfl rfl (k := 4) (by omega) (by simp only [List.length_map, List.length_set]; omega) ks_ok rfl ?_
      exact mr_ret 2 (fun f => rfl)) ?_
  exact mr_ret 1 (fun f => rfl)
set_option maxRecDepth 100000 in
theorem om_then_0 (he ke ki fi fa or : List Nat) (mi a g l w s : Nat) (xm xi xw : List Int32) (im : Nat) (le nu rf : List Nat) (ln nn : Nat) (vp : Int32) (xn xc : List Int32) (vs : Int32) (c : cC) (n m kk : kG) (hA : iA (he, ke, ki, fi, fa, or, mi, a, g, l, w, s)) (hB : iB le ln) (hC : iC nu nn) (hD : iD rf) (hR : iR xm xw xn xc) (k1 : xi.length = 52) (x : Int32) (hxu : x.toInt ≤ -1) (y : Int32) : mm_R 168 0 [some (.ref 138), some (.int x), some (.int y), none] [] (mk_M c n m kk (rT (he, ke, ki, fi, fa, or, mi, a, g, l, w, s) xm xi xw im le nu rf ln nn vp xn xc vs)) (some (.int (-4)), (mk_M c n m kk (rT (he, ke, ki, fi, fa, or, mi, a, g, l, w, s) xm xi xw im le nu (rf.set 4 (kg rf 4 + 1)) ln nn vp xn xc vs))) := by
  obtain ⟨hV, hst⟩ := id hA
  have hst2 : s ≤ 999 := hst
  obtain ⟨v1, v2, v3, v4, v5, v6, v7, v8, v9, v10, v11, v12, v13, v14, v15, v16⟩ := id hV
  have v6l := kO_len mi v7 or v6
  obtain ⟨b1, b2, b3⟩ := id hB
  obtain ⟨c1, c2, c3⟩ := id hC
  have d1 : rf.length = 7 := hD
  obtain ⟨r1, r2, r3, r4⟩ := id hR
  refine mr_seg 3 (pc1 := 4) (ls1 := [some (.ref 138), some (.int x), some (.int y), none]) (st1 := [.int 60, .int 0, .int x]) (M1 := (mk_M c n m kk (rT (he, ke, ki, fi, fa, or, mi, a, g, l, w, s) xm xi xw im le nu rf ln nn vp xn xc vs))) (fun f => rfl) ?_
  refine mr_call (y := 159) (y0 := 7) (L := [some (.int x), some (.int 0), some (.int 60)]) (rest := []) (rr := some (.int (-4))) (M1 := (mk_M c n m kk (rT (he, ke, ki, fi, fa, or, mi, a, g, l, w, s) xm xi xw im le nu rf ln nn vp xn xc vs))) (fun f => rfl) (by
      refine mr_seg 2 (pc1 := 2) (ls1 := [some (.int x), some (.int 0), some (.int 60)]) (st1 := [.int 0, .int x]) (M1 := (mk_M c n m kk (rT (he, ke, ki, fi, fa, or, mi, a, g, l, w, s) xm xi xw im le nu rf ln nn vp xn xc vs))) (fun f => rfl) ?_
      refine mr_f (C := 0 ≤ x) (mz_ge_f 0 (by decide) (by omega)) (fun f => rfl) ?_
      exact mr_ret 3 (fun f => rfl)) ?_
  refine mr_seg 7 (pc1 := 30) (ls1 := [some (.ref 138), some (.int x), some (.int y), some (.int (-4))]) (st1 := [.int (-4), .ref 138]) (M1 := (mk_M c n m kk (rT (he, ke, ki, fi, fa, or, mi, a, g, l, w, s) xm xi xw im le nu rf ln nn vp xn xc vs))) (fun f => rfl) ?_
  refine mr_call (y := 130) (y0 := 33) (L := [some (.ref 138), some (.int (-4))]) (rest := []) (rr := some (.int (-4))) (M1 := (mk_M c n m kk (rT (he, ke, ki, fi, fa, or, mi, a, g, l, w, s) xm xi xw im le nu (rf.set 4 (kg rf 4 + 1)) ln nn vp xn xc vs))) (fun f => rfl) (by
      refine mr_seg 5 (pc1 := 7) (ls1 := [some (.ref 138), some (.int (-4))]) (st1 := [.int 4, .ref 145, .int 4, .ref 145]) (M1 := (mk_M c n m kk (rT (he, ke, ki, fi, fa, or, mi, a, g, l, w, s) xm xi xw im le nu rf ln nn vp xn xc vs))) (fun f => rfl) ?_
      refine mr_ldn rfl rfl (k := 4) (by omega) (kg_ok (by omega)) ?_
      refine mr_seg 2 (pc1 := 10) (ls1 := [some (.ref 138), some (.int (-4))]) (st1 := [.int ((nI (kg rf 4)) + 1), .int 4, .ref 145]) (M1 := (mk_M c n m kk (rT (he, ke, ki, fi, fa, or, mi, a, g, l, w, s) xm xi xw im le nu rf ln nn vp xn xc vs))) (fun f => rfl) ?_
      refine mr_v (nI_add (kg rf 4) 1) ?_
      refine mr_stn (ys := ((rf.set 4 (kg rf 4 + 1)).map nI)) (M2 := (mk_M c n m kk (rT (he, ke, ki, fi, fa, or, mi, a, g, l, w, s) xm xi xw im le nu (rf.set 4 (kg rf 4 + 1)) ln nn vp xn xc vs))) rfl rfl (k := 4) (by omega) (by simp only [List.length_map, List.length_set]; omega) ks_ok rfl ?_
      exact mr_ret 2 (fun f => rfl)) ?_
  exact mr_ret 1 (fun f => rfl)
theorem oe_then_0 (he ke ki fi fa or : List Nat) (mi a g l w s : Nat) (m : kG) (kk : kG) (im : Nat) (le : List Nat) (ln : Nat) (ys : List Int32) (vt : Int32) (nu : List Nat) (nn : Nat) (rf : List Nat) (vw : Int32) (vq : Int32) (yc : List Int32) (yh : List Int32) (yg : List Int32) (xm : List Int32) (xi : List Int32) (xw : List Int32) (vp : Int32) (xn : List Int32) (xc : List Int32) (vs : Int32) (hA : iA (he, ke, ki, fi, fa, or, mi, a, g, l, w, s)) (hB : iB le ln) (hC : iC nu nn) (hD : iD rf) (hJ : iJ m ys yc yh yg) (hR : iR xm xw xn xc) (hK : iK im kk xi) (x : Int32) (hxu : x.toInt ≤ -1) (y : Int32) : oI 74 168 [some (.ref 100), some (.int x), some (.int y), none] [some (.ref 138), some (.int x), some (.int y), none] (mk_M (cT im le ln ys vt nu nn rf vw vq yc yh yg) (kr (he, ke, ki, fi, fa, or, mi, a, g, l, w, s)) m kk (rT (he, ke, ki, fi, fa, or, mi, a, g, l, w, s) xm xi xw im le nu rf ln nn vp xn xc vs)) := by
  exact ⟨(-4), _, _, oc_then_0 he ke ki fi fa or mi a g l w s im le ln ys vt nu nn rf vw vq yc yh yg m kk _ hA hB hC hD hJ hK.1 x hxu y, om_then_0 he ke ki fi fa or mi a g l w s xm xi xw im le nu rf ln nn vp xn xc vs _ _ _ _ hA hB hC hD hR hK.2.1 x hxu y, (he, ke, ki, fi, fa, or, mi, a, g, l, w, s), m, kk, im, le, ln, ys, vt, nu, nn, (rf.set 4 (kg rf 4 + 1)), vw, vq, yc, yh, yg, xm, xi, xw, vp, xn, xc, vs, rfl, hA, hB, hC, iD_s hD, hJ, hR, hK⟩
set_option maxRecDepth 100000 in
theorem oc_then_1 (he ke ki fi fa or : List Nat) (mi a g l w s : Nat) (im : Nat) (le : List Nat) (ln : Nat) (ys : List Int32) (vt : Int32) (nu : List Nat) (nn : Nat) (rf : List Nat) (vw vq : Int32) (yc yh yg : List Int32) (m kk : kG) (q : cR) (hA : iA (he, ke, ki, fi, fa, or, mi, a, g, l, w, s)) (hB : iB le ln) (hC : iC nu nn) (hD : iD rf) (hJ : iJ m ys yc yh yg) (k0 : kSh kk) (x : Int32) (hxl : 61 ≤ x.toInt) (y : Int32) : mm_R 74 0 [some (.ref 100), some (.int x), some (.int y), none] [] (mk_M (cT im le ln ys vt nu nn rf vw vq yc yh yg) (kr (he, ke, ki, fi, fa, or, mi, a, g, l, w, s)) m kk q) (some (.int (-6)), (mk_M (cT im le ln ys vt nu nn (rf.set 6 (kg rf 6 + 1)) vw vq yc yh yg) (kr (he, ke, ki, fi, fa, or, mi, a, g, l, w, s)) m kk q)) := by
  obtain ⟨hV, hst⟩ := id hA
  have hst2 : s ≤ 999 := hst
  obtain ⟨v1, v2, v3, v4, v5, v6, v7, v8, v9, v10, v11, v12, v13, v14, v15, v16⟩ := id hV
  have v6l := kO_len mi v7 or v6
  obtain ⟨b1, b2, b3⟩ := id hB
  obtain ⟨c1, c2, c3⟩ := id hC
  have d1 : rf.length = 7 := hD
  obtain ⟨j0, j1, j2, j3, j4⟩ := id hJ
  refine mr_seg 1 (pc1 := 1) (ls1 := [some (.ref 100), some (.int x), some (.int y), none]) (st1 := [.int x]) (M1 := (mk_M (cT im le ln ys vt nu nn rf vw vq yc yh yg) (kr (he, ke, ki, fi, fa, or, mi, a, g, l, w, s)) m kk q)) (fun f => rfl) ?_
  refine mr_t (C := 0 ≤ x) (mz_ge_t 0 (by decide) (by omega)) (fun f => rfl) ?_
  refine mr_seg 2 (pc1 := 14) (ls1 := [some (.ref 100), some (.int x), some (.int y), none]) (st1 := [.int 60, .int x]) (M1 := (mk_M (cT im le ln ys vt nu nn rf vw vq yc yh yg) (kr (he, ke, ki, fi, fa, or, mi, a, g, l, w, s)) m kk q)) (fun f => rfl) ?_
  refine mr_f (C := x ≤ 60) (mz_le_f 60 (by decide) (by omega)) (fun f => rfl) ?_
  refine mr_seg 2 (pc1 := 20) (ls1 := [some (.ref 100), some (.int x), some (.int y), none]) (st1 := [.int (-6), .ref 100]) (M1 := (mk_M (cT im le ln ys vt nu nn rf vw vq yc yh yg) (kr (he, ke, ki, fi, fa, or, mi, a, g, l, w, s)) m kk q)) (fun f => rfl) ?_
  refine mr_call (y := 12) (y0 := 23) (L := [some (.ref 100), some (.int (-6))]) (rest := []) (rr := some (.int (-6))) (M1 := (mk_M (cT im le ln ys vt nu nn (rf.set 6 (kg rf 6 + 1)) vw vq yc yh yg) (kr (he, ke, ki, fi, fa, or, mi, a, g, l, w, s)) m kk q)) (fun f => rfl) (by
      refine mr_seg 5 (pc1 := 7) (ls1 := [some (.ref 100), some (.int (-6))]) (st1 := [.int 6, .ref 105, .int 6, .ref 105]) (M1 := (mk_M (cT im le ln ys vt nu nn rf vw vq yc yh yg) (kr (he, ke, ki, fi, fa, or, mi, a, g, l, w, s)) m kk q)) (fun f => rfl) ?_
      refine mr_ldn rfl rfl (k := 6) (by omega) (kg_ok (by omega)) ?_
      refine mr_seg 2 (pc1 := 10) (ls1 := [some (.ref 100), some (.int (-6))]) (st1 := [.int ((nI (kg rf 6)) + 1), .int 6, .ref 105]) (M1 := (mk_M (cT im le ln ys vt nu nn rf vw vq yc yh yg) (kr (he, ke, ki, fi, fa, or, mi, a, g, l, w, s)) m kk q)) (fun f => rfl) ?_
      refine mr_v (nI_add (kg rf 6) 1) ?_
      refine mr_stn (ys := ((rf.set 6 (kg rf 6 + 1)).map nI)) (M2 := (mk_M (cT im le ln ys vt nu nn (rf.set 6 (kg rf 6 + 1)) vw vq yc yh yg) (kr (he, ke, ki, fi, fa, or, mi, a, g, l, w, s)) m kk q)) rfl rfl (k := 6) (by omega) (by simp only [List.length_map, List.length_set]; omega) ks_ok rfl ?_
      exact mr_ret 2 (fun f => rfl)) ?_
  exact mr_ret 1 (fun f => rfl)
set_option maxRecDepth 100000 in
theorem om_then_1 (he ke ki fi fa or : List Nat) (mi a g l w s : Nat) (xm xi xw : List Int32) (im : Nat) (le nu rf : List Nat) (ln nn : Nat) (vp : Int32) (xn xc : List Int32) (vs : Int32) (c : cC) (n m kk : kG) (hA : iA (he, ke, ki, fi, fa, or, mi, a, g, l, w, s)) (hB : iB le ln) (hC : iC nu nn) (hD : iD rf) (hR : iR xm xw xn xc) (k1 : xi.length = 52) (x : Int32) (hxl : 61 ≤ x.toInt) (y : Int32) : mm_R 168 0 [some (.ref 138), some (.int x), some (.int y), none] [] (mk_M c n m kk (rT (he, ke, ki, fi, fa, or, mi, a, g, l, w, s) xm xi xw im le nu rf ln nn vp xn xc vs)) (some (.int (-6)), (mk_M c n m kk (rT (he, ke, ki, fi, fa, or, mi, a, g, l, w, s) xm xi xw im le nu (rf.set 6 (kg rf 6 + 1)) ln nn vp xn xc vs))) := by
  obtain ⟨hV, hst⟩ := id hA
  have hst2 : s ≤ 999 := hst
  obtain ⟨v1, v2, v3, v4, v5, v6, v7, v8, v9, v10, v11, v12, v13, v14, v15, v16⟩ := id hV
  have v6l := kO_len mi v7 or v6
  obtain ⟨b1, b2, b3⟩ := id hB
  obtain ⟨c1, c2, c3⟩ := id hC
  have d1 : rf.length = 7 := hD
  obtain ⟨r1, r2, r3, r4⟩ := id hR
  refine mr_seg 3 (pc1 := 4) (ls1 := [some (.ref 138), some (.int x), some (.int y), none]) (st1 := [.int 60, .int 0, .int x]) (M1 := (mk_M c n m kk (rT (he, ke, ki, fi, fa, or, mi, a, g, l, w, s) xm xi xw im le nu rf ln nn vp xn xc vs))) (fun f => rfl) ?_
  refine mr_call (y := 159) (y0 := 7) (L := [some (.int x), some (.int 0), some (.int 60)]) (rest := []) (rr := some (.int (-6))) (M1 := (mk_M c n m kk (rT (he, ke, ki, fi, fa, or, mi, a, g, l, w, s) xm xi xw im le nu rf ln nn vp xn xc vs))) (fun f => rfl) (by
      refine mr_seg 2 (pc1 := 2) (ls1 := [some (.int x), some (.int 0), some (.int 60)]) (st1 := [.int 0, .int x]) (M1 := (mk_M c n m kk (rT (he, ke, ki, fi, fa, or, mi, a, g, l, w, s) xm xi xw im le nu rf ln nn vp xn xc vs))) (fun f => rfl) ?_
      refine mr_t (C := 0 ≤ x) (mz_ge_t 0 (by decide) (by omega)) (fun f => rfl) ?_
      refine mr_seg 2 (pc1 := 12) (ls1 := [some (.int x), some (.int 0), some (.int 60)]) (st1 := [.int 60, .int x]) (M1 := (mk_M c n m kk (rT (he, ke, ki, fi, fa, or, mi, a, g, l, w, s) xm xi xw im le nu rf ln nn vp xn xc vs))) (fun f => rfl) ?_
      refine mr_f (C := x ≤ 60) (mz_le_f 60 (by decide) (by omega)) (fun f => rfl) ?_
      exact mr_ret 3 (fun f => rfl)) ?_
  refine mr_seg 7 (pc1 := 30) (ls1 := [some (.ref 138), some (.int x), some (.int y), some (.int (-6))]) (st1 := [.int (-6), .ref 138]) (M1 := (mk_M c n m kk (rT (he, ke, ki, fi, fa, or, mi, a, g, l, w, s) xm xi xw im le nu rf ln nn vp xn xc vs))) (fun f => rfl) ?_
  refine mr_call (y := 130) (y0 := 33) (L := [some (.ref 138), some (.int (-6))]) (rest := []) (rr := some (.int (-6))) (M1 := (mk_M c n m kk (rT (he, ke, ki, fi, fa, or, mi, a, g, l, w, s) xm xi xw im le nu (rf.set 6 (kg rf 6 + 1)) ln nn vp xn xc vs))) (fun f => rfl) (by
      refine mr_seg 5 (pc1 := 7) (ls1 := [some (.ref 138), some (.int (-6))]) (st1 := [.int 6, .ref 145, .int 6, .ref 145]) (M1 := (mk_M c n m kk (rT (he, ke, ki, fi, fa, or, mi, a, g, l, w, s) xm xi xw im le nu rf ln nn vp xn xc vs))) (fun f => rfl) ?_
      refine mr_ldn rfl rfl (k := 6) (by omega) (kg_ok (by omega)) ?_
      refine mr_seg 2 (pc1 := 10) (ls1 := [some (.ref 138), some (.int (-6))]) (st1 := [.int ((nI (kg rf 6)) + 1), .int 6, .ref 145]) (M1 := (mk_M c n m kk (rT (he, ke, ki, fi, fa, or, mi, a, g, l, w, s) xm xi xw im le nu rf ln nn vp xn xc vs))) (fun f => rfl) ?_
      refine mr_v (nI_add (kg rf 6) 1) ?_
      refine mr_stn (ys := ((rf.set 6 (kg rf 6 + 1)).map nI)) (M2 := (mk_M c n m kk (rT (he, ke, ki, fi, fa, or, mi, a, g, l, w, s) xm xi xw im le nu (rf.set 6 (kg rf 6 + 1)) ln nn vp xn xc vs))) rfl rfl (k := 6) (by omega) (by simp only [List.length_map, List.length_set]; omega) ks_ok rfl ?_
      exact mr_ret 2 (fun f => rfl)) ?_
  exact mr_ret 1 (fun f => rfl)
theorem oe_then_1 (he ke ki fi fa or : List Nat) (mi a g l w s : Nat) (m : kG) (kk : kG) (im : Nat) (le : List Nat) (ln : Nat) (ys : List Int32) (vt : Int32) (nu : List Nat) (nn : Nat) (rf : List Nat) (vw : Int32) (vq : Int32) (yc : List Int32) (yh : List Int32) (yg : List Int32) (xm : List Int32) (xi : List Int32) (xw : List Int32) (vp : Int32) (xn : List Int32) (xc : List Int32) (vs : Int32) (hA : iA (he, ke, ki, fi, fa, or, mi, a, g, l, w, s)) (hB : iB le ln) (hC : iC nu nn) (hD : iD rf) (hJ : iJ m ys yc yh yg) (hR : iR xm xw xn xc) (hK : iK im kk xi) (x : Int32) (hxl : 61 ≤ x.toInt) (y : Int32) : oI 74 168 [some (.ref 100), some (.int x), some (.int y), none] [some (.ref 138), some (.int x), some (.int y), none] (mk_M (cT im le ln ys vt nu nn rf vw vq yc yh yg) (kr (he, ke, ki, fi, fa, or, mi, a, g, l, w, s)) m kk (rT (he, ke, ki, fi, fa, or, mi, a, g, l, w, s) xm xi xw im le nu rf ln nn vp xn xc vs)) := by
  exact ⟨(-6), _, _, oc_then_1 he ke ki fi fa or mi a g l w s im le ln ys vt nu nn rf vw vq yc yh yg m kk _ hA hB hC hD hJ hK.1 x hxl y, om_then_1 he ke ki fi fa or mi a g l w s xm xi xw im le nu rf ln nn vp xn xc vs _ _ _ _ hA hB hC hD hR hK.2.1 x hxl y, (he, ke, ki, fi, fa, or, mi, a, g, l, w, s), m, kk, im, le, ln, ys, vt, nu, nn, (rf.set 6 (kg rf 6 + 1)), vw, vq, yc, yh, yg, xm, xi, xw, vp, xn, xc, vs, rfl, hA, hB, hC, iD_s hD, hJ, hR, hK⟩
set_option maxRecDepth 100000 in
theorem oc_then_2 (he ke ki fi fa or : List Nat) (mi a g l w s : Nat) (im : Nat) (le : List Nat) (ln : Nat) (ys : List Int32) (vt : Int32) (nu : List Nat) (nn : Nat) (rf : List Nat) (vw vq : Int32) (yc yh yg : List Int32) (m kk : kG) (q : cR) (hA : iA (he, ke, ki, fi, fa, or, mi, a, g, l, w, s)) (hB : iB le ln) (hC : iC nu nn) (hD : iD rf) (hJ : iJ m ys yc yh yg) (k0 : kSh kk) (x : Nat) (hx1 : 0 ≤ x) (hx : x ≤ 60) (y : Int32) (hyu : y.toInt ≤ -1) : mm_R 74 0 [some (.ref 100), some (.int (nI x)), some (.int y), none] [] (mk_M (cT im le ln ys vt nu nn rf vw vq yc yh yg) (kr (he, ke, ki, fi, fa, or, mi, a, g, l, w, s)) m kk q) (some (.int (-2)), (mk_M (cT im le ln ys vt nu nn (rf.set 2 (kg rf 2 + 1)) vw vq yc yh yg) (kr (he, ke, ki, fi, fa, or, mi, a, g, l, w, s)) m kk q)) := by
  obtain ⟨hV, hst⟩ := id hA
  have hst2 : s ≤ 999 := hst
  obtain ⟨v1, v2, v3, v4, v5, v6, v7, v8, v9, v10, v11, v12, v13, v14, v15, v16⟩ := id hV
  have v6l := kO_len mi v7 or v6
  obtain ⟨b1, b2, b3⟩ := id hB
  obtain ⟨c1, c2, c3⟩ := id hC
  have d1 : rf.length = 7 := hD
  obtain ⟨j0, j1, j2, j3, j4⟩ := id hJ
  refine mr_seg 1 (pc1 := 1) (ls1 := [some (.ref 100), some (.int (nI x)), some (.int y), none]) (st1 := [.int (nI x)]) (M1 := (mk_M (cT im le ln ys vt nu nn rf vw vq yc yh yg) (kr (he, ke, ki, fi, fa, or, mi, a, g, l, w, s)) m kk q)) (fun f => rfl) ?_
  refine mr_t (C := 0 ≤ (nI x)) ((nI_leI (a := 0) (b := x) (by omega) (by omega)).mpr (by omega)) (fun f => rfl) ?_
  refine mr_seg 2 (pc1 := 14) (ls1 := [some (.ref 100), some (.int (nI x)), some (.int y), none]) (st1 := [.int 60, .int (nI x)]) (M1 := (mk_M (cT im le ln ys vt nu nn rf vw vq yc yh yg) (kr (he, ke, ki, fi, fa, or, mi, a, g, l, w, s)) m kk q)) (fun f => rfl) ?_
  refine mr_t (C := (nI x) ≤ 60) ((nI_leI (a := x) (b := 60) (by omega) (by omega)).mpr (by omega)) (fun f => rfl) ?_
  refine mr_seg 1 (pc1 := 25) (ls1 := [some (.ref 100), some (.int (nI x)), some (.int y), none]) (st1 := [.int y]) (M1 := (mk_M (cT im le ln ys vt nu nn rf vw vq yc yh yg) (kr (he, ke, ki, fi, fa, or, mi, a, g, l, w, s)) m kk q)) (fun f => rfl) ?_
  refine mr_t (C := y < 0) (mz_lt_t 0 (by decide) (by omega)) (fun f => rfl) ?_
  refine mr_seg 2 (pc1 := 36) (ls1 := [some (.ref 100), some (.int (nI x)), some (.int y), none]) (st1 := [.int (-2), .ref 100]) (M1 := (mk_M (cT im le ln ys vt nu nn rf vw vq yc yh yg) (kr (he, ke, ki, fi, fa, or, mi, a, g, l, w, s)) m kk q)) (fun f => rfl) ?_
  refine mr_call (y := 12) (y0 := 39) (L := [some (.ref 100), some (.int (-2))]) (rest := []) (rr := some (.int (-2))) (M1 := (mk_M (cT im le ln ys vt nu nn (rf.set 2 (kg rf 2 + 1)) vw vq yc yh yg) (kr (he, ke, ki, fi, fa, or, mi, a, g, l, w, s)) m kk q)) (fun f => rfl) (by
      refine mr_seg 5 (pc1 := 7) (ls1 := [some (.ref 100), some (.int (-2))]) (st1 := [.int 2, .ref 105, .int 2, .ref 105]) (M1 := (mk_M (cT im le ln ys vt nu nn rf vw vq yc yh yg) (kr (he, ke, ki, fi, fa, or, mi, a, g, l, w, s)) m kk q)) (fun f => rfl) ?_
      refine mr_ldn rfl rfl (k := 2) (by omega) (kg_ok (by omega)) ?_
      refine mr_seg 2 (pc1 := 10) (ls1 := [some (.ref 100), some (.int (-2))]) (st1 := [.int ((nI (kg rf 2)) + 1), .int 2, .ref 105]) (M1 := (mk_M (cT im le ln ys vt nu nn rf vw vq yc yh yg) (kr (he, ke, ki, fi, fa, or, mi, a, g, l, w, s)) m kk q)) (fun f => rfl) ?_
      refine mr_v (nI_add (kg rf 2) 1) ?_
      refine mr_stn (ys := ((rf.set 2 (kg rf 2 + 1)).map nI)) (M2 := (mk_M (cT im le ln ys vt nu nn (rf.set 2 (kg rf 2 + 1)) vw vq yc yh yg) (kr (he, ke, ki, fi, fa, or, mi, a, g, l, w, s)) m kk q)) rfl rfl (k := 2) (by omega) (by simp only [List.length_map, List.length_set]; omega) ks_ok rfl ?_
      exact mr_ret 2 (fun f => rfl)) ?_
  exact mr_ret 1 (fun f => rfl)
set_option maxRecDepth 100000 in
theorem om_then_2 (he ke ki fi fa or : List Nat) (mi a g l w s : Nat) (xm xi xw : List Int32) (im : Nat) (le nu rf : List Nat) (ln nn : Nat) (vp : Int32) (xn xc : List Int32) (vs : Int32) (c : cC) (n m kk : kG) (hA : iA (he, ke, ki, fi, fa, or, mi, a, g, l, w, s)) (hB : iB le ln) (hC : iC nu nn) (hD : iD rf) (hR : iR xm xw xn xc) (k1 : xi.length = 52) (x : Nat) (hx1 : 0 ≤ x) (hx : x ≤ 60) (y : Int32) (hyu : y.toInt ≤ -1) : mm_R 168 0 [some (.ref 138), some (.int (nI x)), some (.int y), none] [] (mk_M c n m kk (rT (he, ke, ki, fi, fa, or, mi, a, g, l, w, s) xm xi xw im le nu rf ln nn vp xn xc vs)) (some (.int (-2)), (mk_M c n m kk (rT (he, ke, ki, fi, fa, or, mi, a, g, l, w, s) xm xi xw im le nu (rf.set 2 (kg rf 2 + 1)) ln nn vp xn xc vs))) := by
  obtain ⟨hV, hst⟩ := id hA
  have hst2 : s ≤ 999 := hst
  obtain ⟨v1, v2, v3, v4, v5, v6, v7, v8, v9, v10, v11, v12, v13, v14, v15, v16⟩ := id hV
  have v6l := kO_len mi v7 or v6
  obtain ⟨b1, b2, b3⟩ := id hB
  obtain ⟨c1, c2, c3⟩ := id hC
  have d1 : rf.length = 7 := hD
  obtain ⟨r1, r2, r3, r4⟩ := id hR
  refine mr_seg 3 (pc1 := 4) (ls1 := [some (.ref 138), some (.int (nI x)), some (.int y), none]) (st1 := [.int 60, .int 0, .int (nI x)]) (M1 := (mk_M c n m kk (rT (he, ke, ki, fi, fa, or, mi, a, g, l, w, s) xm xi xw im le nu rf ln nn vp xn xc vs))) (fun f => rfl) ?_
  refine mr_call (y := 159) (y0 := 7) (L := [some (.int (nI x)), some (.int 0), some (.int 60)]) (rest := []) (rr := some (.int 0)) (M1 := (mk_M c n m kk (rT (he, ke, ki, fi, fa, or, mi, a, g, l, w, s) xm xi xw im le nu rf ln nn vp xn xc vs))) (fun f => rfl) (by
      refine mr_seg 2 (pc1 := 2) (ls1 := [some (.int (nI x)), some (.int 0), some (.int 60)]) (st1 := [.int 0, .int (nI x)]) (M1 := (mk_M c n m kk (rT (he, ke, ki, fi, fa, or, mi, a, g, l, w, s) xm xi xw im le nu rf ln nn vp xn xc vs))) (fun f => rfl) ?_
      refine mr_t (C := 0 ≤ (nI x)) ((nI_leI (a := 0) (b := x) (by omega) (by omega)).mpr (by omega)) (fun f => rfl) ?_
      refine mr_seg 2 (pc1 := 12) (ls1 := [some (.int (nI x)), some (.int 0), some (.int 60)]) (st1 := [.int 60, .int (nI x)]) (M1 := (mk_M c n m kk (rT (he, ke, ki, fi, fa, or, mi, a, g, l, w, s) xm xi xw im le nu rf ln nn vp xn xc vs))) (fun f => rfl) ?_
      refine mr_t (C := (nI x) ≤ 60) ((nI_leI (a := x) (b := 60) (by omega) (by omega)).mpr (by omega)) (fun f => rfl) ?_
      exact mr_ret 2 (fun f => rfl)) ?_
  refine mr_seg 6 (pc1 := 15) (ls1 := [some (.ref 138), some (.int (nI x)), some (.int y), some (.int 0)]) (st1 := [.int 2, .int 0, .int y]) (M1 := (mk_M c n m kk (rT (he, ke, ki, fi, fa, or, mi, a, g, l, w, s) xm xi xw im le nu rf ln nn vp xn xc vs))) (fun f => rfl) ?_
  refine mr_call (y := 135) (y0 := 18) (L := [some (.int y), some (.int 0), some (.int 2)]) (rest := []) (rr := some (.int 0)) (M1 := (mk_M c n m kk (rT (he, ke, ki, fi, fa, or, mi, a, g, l, w, s) xm xi xw im le nu rf ln nn vp xn xc vs))) (fun f => rfl) (by
      refine mr_seg 2 (pc1 := 2) (ls1 := [some (.int y), some (.int 0), some (.int 2)]) (st1 := [.int 0, .int y]) (M1 := (mk_M c n m kk (rT (he, ke, ki, fi, fa, or, mi, a, g, l, w, s) xm xi xw im le nu rf ln nn vp xn xc vs))) (fun f => rfl) ?_
      refine mr_t (C := y < 0) (mz_lt_t 0 (by decide) (by omega)) (fun f => rfl) ?_
      exact mr_ret 2 (fun f => rfl)) ?_
  refine mr_seg 7 (pc1 := 30) (ls1 := [some (.ref 138), some (.int (nI x)), some (.int y), some (.int (-2))]) (st1 := [.int (-2), .ref 138]) (M1 := (mk_M c n m kk (rT (he, ke, ki, fi, fa, or, mi, a, g, l, w, s) xm xi xw im le nu rf ln nn vp xn xc vs))) (fun f => rfl) ?_
  refine mr_call (y := 130) (y0 := 33) (L := [some (.ref 138), some (.int (-2))]) (rest := []) (rr := some (.int (-2))) (M1 := (mk_M c n m kk (rT (he, ke, ki, fi, fa, or, mi, a, g, l, w, s) xm xi xw im le nu (rf.set 2 (kg rf 2 + 1)) ln nn vp xn xc vs))) (fun f => rfl) (by
      refine mr_seg 5 (pc1 := 7) (ls1 := [some (.ref 138), some (.int (-2))]) (st1 := [.int 2, .ref 145, .int 2, .ref 145]) (M1 := (mk_M c n m kk (rT (he, ke, ki, fi, fa, or, mi, a, g, l, w, s) xm xi xw im le nu rf ln nn vp xn xc vs))) (fun f => rfl) ?_
      refine mr_ldn rfl rfl (k := 2) (by omega) (kg_ok (by omega)) ?_
      refine mr_seg 2 (pc1 := 10) (ls1 := [some (.ref 138), some (.int (-2))]) (st1 := [.int ((nI (kg rf 2)) + 1), .int 2, .ref 145]) (M1 := (mk_M c n m kk (rT (he, ke, ki, fi, fa, or, mi, a, g, l, w, s) xm xi xw im le nu rf ln nn vp xn xc vs))) (fun f => rfl) ?_
      refine mr_v (nI_add (kg rf 2) 1) ?_
      refine mr_stn (ys := ((rf.set 2 (kg rf 2 + 1)).map nI)) (M2 := (mk_M c n m kk (rT (he, ke, ki, fi, fa, or, mi, a, g, l, w, s) xm xi xw im le nu (rf.set 2 (kg rf 2 + 1)) ln nn vp xn xc vs))) rfl rfl (k := 2) (by omega) (by simp only [List.length_map, List.length_set]; omega) ks_ok rfl ?_
      exact mr_ret 2 (fun f => rfl)) ?_
  exact mr_ret 1 (fun f => rfl)
theorem oe_then_2 (he ke ki fi fa or : List Nat) (mi a g l w s : Nat) (m : kG) (kk : kG) (im : Nat) (le : List Nat) (ln : Nat) (ys : List Int32) (vt : Int32) (nu : List Nat) (nn : Nat) (rf : List Nat) (vw : Int32) (vq : Int32) (yc : List Int32) (yh : List Int32) (yg : List Int32) (xm : List Int32) (xi : List Int32) (xw : List Int32) (vp : Int32) (xn : List Int32) (xc : List Int32) (vs : Int32) (hA : iA (he, ke, ki, fi, fa, or, mi, a, g, l, w, s)) (hB : iB le ln) (hC : iC nu nn) (hD : iD rf) (hJ : iJ m ys yc yh yg) (hR : iR xm xw xn xc) (hK : iK im kk xi) (x : Nat) (hx1 : 0 ≤ x) (hx : x ≤ 60) (y : Int32) (hyu : y.toInt ≤ -1) : oI 74 168 [some (.ref 100), some (.int (nI x)), some (.int y), none] [some (.ref 138), some (.int (nI x)), some (.int y), none] (mk_M (cT im le ln ys vt nu nn rf vw vq yc yh yg) (kr (he, ke, ki, fi, fa, or, mi, a, g, l, w, s)) m kk (rT (he, ke, ki, fi, fa, or, mi, a, g, l, w, s) xm xi xw im le nu rf ln nn vp xn xc vs)) := by
  exact ⟨(-2), _, _, oc_then_2 he ke ki fi fa or mi a g l w s im le ln ys vt nu nn rf vw vq yc yh yg m kk _ hA hB hC hD hJ hK.1 x hx1 hx y hyu, om_then_2 he ke ki fi fa or mi a g l w s xm xi xw im le nu rf ln nn vp xn xc vs _ _ _ _ hA hB hC hD hR hK.2.1 x hx1 hx y hyu, (he, ke, ki, fi, fa, or, mi, a, g, l, w, s), m, kk, im, le, ln, ys, vt, nu, nn, (rf.set 2 (kg rf 2 + 1)), vw, vq, yc, yh, yg, xm, xi, xw, vp, xn, xc, vs, rfl, hA, hB, hC, iD_s hD, hJ, hR, hK⟩
set_option maxRecDepth 100000 in
theorem oc_then_3 (he ke ki fi fa or : List Nat) (mi a g l w s : Nat) (im : Nat) (le : List Nat) (ln : Nat) (ys : List Int32) (vt : Int32) (nu : List Nat) (nn : Nat) (rf : List Nat) (vw vq : Int32) (yc yh yg : List Int32) (m kk : kG) (q : cR) (hA : iA (he, ke, ki, fi, fa, or, mi, a, g, l, w, s)) (hB : iB le ln) (hC : iC nu nn) (hD : iD rf) (hJ : iJ m ys yc yh yg) (k0 : kSh kk) (x : Nat) (hx1 : 0 ≤ x) (hx : x ≤ 60) (y : Int32) (hyl : 3 ≤ y.toInt) : mm_R 74 0 [some (.ref 100), some (.int (nI x)), some (.int y), none] [] (mk_M (cT im le ln ys vt nu nn rf vw vq yc yh yg) (kr (he, ke, ki, fi, fa, or, mi, a, g, l, w, s)) m kk q) (some (.int (-2)), (mk_M (cT im le ln ys vt nu nn (rf.set 2 (kg rf 2 + 1)) vw vq yc yh yg) (kr (he, ke, ki, fi, fa, or, mi, a, g, l, w, s)) m kk q)) := by
  obtain ⟨hV, hst⟩ := id hA
  have hst2 : s ≤ 999 := hst
  obtain ⟨v1, v2, v3, v4, v5, v6, v7, v8, v9, v10, v11, v12, v13, v14, v15, v16⟩ := id hV
  have v6l := kO_len mi v7 or v6
  obtain ⟨b1, b2, b3⟩ := id hB
  obtain ⟨c1, c2, c3⟩ := id hC
  have d1 : rf.length = 7 := hD
  obtain ⟨j0, j1, j2, j3, j4⟩ := id hJ
  refine mr_seg 1 (pc1 := 1) (ls1 := [some (.ref 100), some (.int (nI x)), some (.int y), none]) (st1 := [.int (nI x)]) (M1 := (mk_M (cT im le ln ys vt nu nn rf vw vq yc yh yg) (kr (he, ke, ki, fi, fa, or, mi, a, g, l, w, s)) m kk q)) (fun f => rfl) ?_
  refine mr_t (C := 0 ≤ (nI x)) ((nI_leI (a := 0) (b := x) (by omega) (by omega)).mpr (by omega)) (fun f => rfl) ?_
  refine mr_seg 2 (pc1 := 14) (ls1 := [some (.ref 100), some (.int (nI x)), some (.int y), none]) (st1 := [.int 60, .int (nI x)]) (M1 := (mk_M (cT im le ln ys vt nu nn rf vw vq yc yh yg) (kr (he, ke, ki, fi, fa, or, mi, a, g, l, w, s)) m kk q)) (fun f => rfl) ?_
  refine mr_t (C := (nI x) ≤ 60) ((nI_leI (a := x) (b := 60) (by omega) (by omega)).mpr (by omega)) (fun f => rfl) ?_
  refine mr_seg 1 (pc1 := 25) (ls1 := [some (.ref 100), some (.int (nI x)), some (.int y), none]) (st1 := [.int y]) (M1 := (mk_M (cT im le ln ys vt nu nn rf vw vq yc yh yg) (kr (he, ke, ki, fi, fa, or, mi, a, g, l, w, s)) m kk q)) (fun f => rfl) ?_
  refine mr_f (C := y < 0) (mz_lt_f 0 (by decide) (by omega)) (fun f => rfl) ?_
  refine mr_seg 2 (pc1 := 30) (ls1 := [some (.ref 100), some (.int (nI x)), some (.int y), none]) (st1 := [.int 2, .int y]) (M1 := (mk_M (cT im le ln ys vt nu nn rf vw vq yc yh yg) (kr (he, ke, ki, fi, fa, or, mi, a, g, l, w, s)) m kk q)) (fun f => rfl) ?_
  refine mr_f (C := y ≤ 2) (mz_le_f 2 (by decide) (by omega)) (fun f => rfl) ?_
  refine mr_seg 2 (pc1 := 36) (ls1 := [some (.ref 100), some (.int (nI x)), some (.int y), none]) (st1 := [.int (-2), .ref 100]) (M1 := (mk_M (cT im le ln ys vt nu nn rf vw vq yc yh yg) (kr (he, ke, ki, fi, fa, or, mi, a, g, l, w, s)) m kk q)) (fun f => rfl) ?_
  refine mr_call (y := 12) (y0 := 39) (L := [some (.ref 100), some (.int (-2))]) (rest := []) (rr := some (.int (-2))) (M1 := (mk_M (cT im le ln ys vt nu nn (rf.set 2 (kg rf 2 + 1)) vw vq yc yh yg) (kr (he, ke, ki, fi, fa, or, mi, a, g, l, w, s)) m kk q)) (fun f => rfl) (by
      refine mr_seg 5 (pc1 := 7) (ls1 := [some (.ref 100), some (.int (-2))]) (st1 := [.int 2, .ref 105, .int 2, .ref 105]) (M1 := (mk_M (cT im le ln ys vt nu nn rf vw vq yc yh yg) (kr (he, ke, ki, fi, fa, or, mi, a, g, l, w, s)) m kk q)) (fun f => rfl) ?_
      refine mr_ldn rfl rfl (k := 2) (by omega) (kg_ok (by omega)) ?_
      refine mr_seg 2 (pc1 := 10) (ls1 := [some (.ref 100), some (.int (-2))]) (st1 := [.int ((nI (kg rf 2)) + 1), .int 2, .ref 105]) (M1 := (mk_M (cT im le ln ys vt nu nn rf vw vq yc yh yg) (kr (he, ke, ki, fi, fa, or, mi, a, g, l, w, s)) m kk q)) (fun f => rfl) ?_
      refine mr_v (nI_add (kg rf 2) 1) ?_
      refine mr_stn (ys := ((rf.set 2 (kg rf 2 + 1)).map nI)) (M2 := (mk_M (cT im le ln ys vt nu nn (rf.set 2 (kg rf 2 + 1)) vw vq yc yh yg) (kr (he, ke, ki, fi, fa, or, mi, a, g, l, w, s)) m kk q)) rfl rfl (k := 2) (by omega) (by simp only [List.length_map, List.length_set]; omega) ks_ok rfl ?_
      exact mr_ret 2 (fun f => rfl)) ?_
  exact mr_ret 1 (fun f => rfl)
set_option maxRecDepth 100000 in
theorem om_then_3 (he ke ki fi fa or : List Nat) (mi a g l w s : Nat) (xm xi xw : List Int32) (im : Nat) (le nu rf : List Nat) (ln nn : Nat) (vp : Int32) (xn xc : List Int32) (vs : Int32) (c : cC) (n m kk : kG) (hA : iA (he, ke, ki, fi, fa, or, mi, a, g, l, w, s)) (hB : iB le ln) (hC : iC nu nn) (hD : iD rf) (hR : iR xm xw xn xc) (k1 : xi.length = 52) (x : Nat) (hx1 : 0 ≤ x) (hx : x ≤ 60) (y : Int32) (hyl : 3 ≤ y.toInt) : mm_R 168 0 [some (.ref 138), some (.int (nI x)), some (.int y), none] [] (mk_M c n m kk (rT (he, ke, ki, fi, fa, or, mi, a, g, l, w, s) xm xi xw im le nu rf ln nn vp xn xc vs)) (some (.int (-2)), (mk_M c n m kk (rT (he, ke, ki, fi, fa, or, mi, a, g, l, w, s) xm xi xw im le nu (rf.set 2 (kg rf 2 + 1)) ln nn vp xn xc vs))) := by
  obtain ⟨hV, hst⟩ := id hA
  have hst2 : s ≤ 999 := hst
  obtain ⟨v1, v2, v3, v4, v5, v6, v7, v8, v9, v10, v11, v12, v13, v14, v15, v16⟩ := id hV
  have v6l := kO_len mi v7 or v6
  obtain ⟨b1, b2, b3⟩ := id hB
  obtain ⟨c1, c2, c3⟩ := id hC
  have d1 : rf.length = 7 := hD
  obtain ⟨r1, r2, r3, r4⟩ := id hR
  refine mr_seg 3 (pc1 := 4) (ls1 := [some (.ref 138), some (.int (nI x)), some (.int y), none]) (st1 := [.int 60, .int 0, .int (nI x)]) (M1 := (mk_M c n m kk (rT (he, ke, ki, fi, fa, or, mi, a, g, l, w, s) xm xi xw im le nu rf ln nn vp xn xc vs))) (fun f => rfl) ?_
  refine mr_call (y := 159) (y0 := 7) (L := [some (.int (nI x)), some (.int 0), some (.int 60)]) (rest := []) (rr := some (.int 0)) (M1 := (mk_M c n m kk (rT (he, ke, ki, fi, fa, or, mi, a, g, l, w, s) xm xi xw im le nu rf ln nn vp xn xc vs))) (fun f => rfl) (by
      refine mr_seg 2 (pc1 := 2) (ls1 := [some (.int (nI x)), some (.int 0), some (.int 60)]) (st1 := [.int 0, .int (nI x)]) (M1 := (mk_M c n m kk (rT (he, ke, ki, fi, fa, or, mi, a, g, l, w, s) xm xi xw im le nu rf ln nn vp xn xc vs))) (fun f => rfl) ?_
      refine mr_t (C := 0 ≤ (nI x)) ((nI_leI (a := 0) (b := x) (by omega) (by omega)).mpr (by omega)) (fun f => rfl) ?_
      refine mr_seg 2 (pc1 := 12) (ls1 := [some (.int (nI x)), some (.int 0), some (.int 60)]) (st1 := [.int 60, .int (nI x)]) (M1 := (mk_M c n m kk (rT (he, ke, ki, fi, fa, or, mi, a, g, l, w, s) xm xi xw im le nu rf ln nn vp xn xc vs))) (fun f => rfl) ?_
      refine mr_t (C := (nI x) ≤ 60) ((nI_leI (a := x) (b := 60) (by omega) (by omega)).mpr (by omega)) (fun f => rfl) ?_
      exact mr_ret 2 (fun f => rfl)) ?_
  refine mr_seg 6 (pc1 := 15) (ls1 := [some (.ref 138), some (.int (nI x)), some (.int y), some (.int 0)]) (st1 := [.int 2, .int 0, .int y]) (M1 := (mk_M c n m kk (rT (he, ke, ki, fi, fa, or, mi, a, g, l, w, s) xm xi xw im le nu rf ln nn vp xn xc vs))) (fun f => rfl) ?_
  refine mr_call (y := 135) (y0 := 18) (L := [some (.int y), some (.int 0), some (.int 2)]) (rest := []) (rr := some (.int 0)) (M1 := (mk_M c n m kk (rT (he, ke, ki, fi, fa, or, mi, a, g, l, w, s) xm xi xw im le nu rf ln nn vp xn xc vs))) (fun f => rfl) (by
      refine mr_seg 2 (pc1 := 2) (ls1 := [some (.int y), some (.int 0), some (.int 2)]) (st1 := [.int 0, .int y]) (M1 := (mk_M c n m kk (rT (he, ke, ki, fi, fa, or, mi, a, g, l, w, s) xm xi xw im le nu rf ln nn vp xn xc vs))) (fun f => rfl) ?_
      refine mr_f (C := y < 0) (mz_lt_f 0 (by decide) (by omega)) (fun f => rfl) ?_
      refine mr_seg 2 (pc1 := 7) (ls1 := [some (.int y), some (.int 0), some (.int 2)]) (st1 := [.int 2, .int y]) (M1 := (mk_M c n m kk (rT (he, ke, ki, fi, fa, or, mi, a, g, l, w, s) xm xi xw im le nu rf ln nn vp xn xc vs))) (fun f => rfl) ?_
      refine mr_t (C := 2 < y) (mz_gt_t 2 (by decide) (by omega)) (fun f => rfl) ?_
      exact mr_ret 2 (fun f => rfl)) ?_
  refine mr_seg 7 (pc1 := 30) (ls1 := [some (.ref 138), some (.int (nI x)), some (.int y), some (.int (-2))]) (st1 := [.int (-2), .ref 138]) (M1 := (mk_M c n m kk (rT (he, ke, ki, fi, fa, or, mi, a, g, l, w, s) xm xi xw im le nu rf ln nn vp xn xc vs))) (fun f => rfl) ?_
  refine mr_call (y := 130) (y0 := 33) (L := [some (.ref 138), some (.int (-2))]) (rest := []) (rr := some (.int (-2))) (M1 := (mk_M c n m kk (rT (he, ke, ki, fi, fa, or, mi, a, g, l, w, s) xm xi xw im le nu (rf.set 2 (kg rf 2 + 1)) ln nn vp xn xc vs))) (fun f => rfl) (by
      refine mr_seg 5 (pc1 := 7) (ls1 := [some (.ref 138), some (.int (-2))]) (st1 := [.int 2, .ref 145, .int 2, .ref 145]) (M1 := (mk_M c n m kk (rT (he, ke, ki, fi, fa, or, mi, a, g, l, w, s) xm xi xw im le nu rf ln nn vp xn xc vs))) (fun f => rfl) ?_
      refine mr_ldn rfl rfl (k := 2) (by omega) (kg_ok (by omega)) ?_
      refine mr_seg 2 (pc1 := 10) (ls1 := [some (.ref 138), some (.int (-2))]) (st1 := [.int ((nI (kg rf 2)) + 1), .int 2, .ref 145]) (M1 := (mk_M c n m kk (rT (he, ke, ki, fi, fa, or, mi, a, g, l, w, s) xm xi xw im le nu rf ln nn vp xn xc vs))) (fun f => rfl) ?_
      refine mr_v (nI_add (kg rf 2) 1) ?_
      refine mr_stn (ys := ((rf.set 2 (kg rf 2 + 1)).map nI)) (M2 := (mk_M c n m kk (rT (he, ke, ki, fi, fa, or, mi, a, g, l, w, s) xm xi xw im le nu (rf.set 2 (kg rf 2 + 1)) ln nn vp xn xc vs))) rfl rfl (k := 2) (by omega) (by simp only [List.length_map, List.length_set]; omega) ks_ok rfl ?_
      exact mr_ret 2 (fun f => rfl)) ?_
  exact mr_ret 1 (fun f => rfl)
theorem oe_then_3 (he ke ki fi fa or : List Nat) (mi a g l w s : Nat) (m : kG) (kk : kG) (im : Nat) (le : List Nat) (ln : Nat) (ys : List Int32) (vt : Int32) (nu : List Nat) (nn : Nat) (rf : List Nat) (vw : Int32) (vq : Int32) (yc : List Int32) (yh : List Int32) (yg : List Int32) (xm : List Int32) (xi : List Int32) (xw : List Int32) (vp : Int32) (xn : List Int32) (xc : List Int32) (vs : Int32) (hA : iA (he, ke, ki, fi, fa, or, mi, a, g, l, w, s)) (hB : iB le ln) (hC : iC nu nn) (hD : iD rf) (hJ : iJ m ys yc yh yg) (hR : iR xm xw xn xc) (hK : iK im kk xi) (x : Nat) (hx1 : 0 ≤ x) (hx : x ≤ 60) (y : Int32) (hyl : 3 ≤ y.toInt) : oI 74 168 [some (.ref 100), some (.int (nI x)), some (.int y), none] [some (.ref 138), some (.int (nI x)), some (.int y), none] (mk_M (cT im le ln ys vt nu nn rf vw vq yc yh yg) (kr (he, ke, ki, fi, fa, or, mi, a, g, l, w, s)) m kk (rT (he, ke, ki, fi, fa, or, mi, a, g, l, w, s) xm xi xw im le nu rf ln nn vp xn xc vs)) := by
  exact ⟨(-2), _, _, oc_then_3 he ke ki fi fa or mi a g l w s im le ln ys vt nu nn rf vw vq yc yh yg m kk _ hA hB hC hD hJ hK.1 x hx1 hx y hyl, om_then_3 he ke ki fi fa or mi a g l w s xm xi xw im le nu rf ln nn vp xn xc vs _ _ _ _ hA hB hC hD hR hK.2.1 x hx1 hx y hyl, (he, ke, ki, fi, fa, or, mi, a, g, l, w, s), m, kk, im, le, ln, ys, vt, nu, nn, (rf.set 2 (kg rf 2 + 1)), vw, vq, yc, yh, yg, xm, xi, xw, vp, xn, xc, vs, rfl, hA, hB, hC, iD_s hD, hJ, hR, hK⟩
set_option maxRecDepth 100000 in
theorem oc_then_4 (he ke ki fi fa or : List Nat) (mi a g l w s : Nat) (im : Nat) (le : List Nat) (ln : Nat) (ys : List Int32) (vt : Int32) (nu : List Nat) (nn : Nat) (rf : List Nat) (vw vq : Int32) (yc yh yg : List Int32) (m kk : kG) (q : cR) (hA : iA (he, ke, ki, fi, fa, or, mi, a, g, l, w, s)) (hB : iB le ln) (hC : iC nu nn) (hD : iD rf) (hJ : iJ m ys yc yh yg) (k0 : kSh kk) (x : Nat) (hx1 : 0 ≤ x) (hx : x ≤ 60) : mm_R 74 0 [some (.ref 100), some (.int (nI x)), some (.int 0), none] [] (mk_M (cT im le ln ys vt nu nn rf vw vq yc yh yg) (kr (he, ke, ki, fi, fa, or, mi, a, g, l, w, s)) m kk q) (some (.int (nI (k_at (ksteps x (he, ke, ki, fi, fa, or, mi, a, g, l, w, s))))), (mk_M (cT im le ln ys vt nu nn rf vw vq yc yh yg) (kr (he, ke, ki, fi, fa, or, mi, a, g, l, w, s)) (kr (ksteps x (he, ke, ki, fi, fa, or, mi, a, g, l, w, s))) kk q)) := by
  obtain ⟨hV, hst⟩ := id hA
  have hst2 : s ≤ 999 := hst
  obtain ⟨v1, v2, v3, v4, v5, v6, v7, v8, v9, v10, v11, v12, v13, v14, v15, v16⟩ := id hV
  have v6l := kO_len mi v7 or v6
  obtain ⟨b1, b2, b3⟩ := id hB
  obtain ⟨c1, c2, c3⟩ := id hC
  have d1 : rf.length = 7 := hD
  obtain ⟨j0, j1, j2, j3, j4⟩ := id hJ
  refine mr_seg 1 (pc1 := 1) (ls1 := [some (.ref 100), some (.int (nI x)), some (.int 0), none]) (st1 := [.int (nI x)]) (M1 := (mk_M (cT im le ln ys vt nu nn rf vw vq yc yh yg) (kr (he, ke, ki, fi, fa, or, mi, a, g, l, w, s)) m kk q)) (fun f => rfl) ?_
  refine mr_t (C := 0 ≤ (nI x)) ((nI_leI (a := 0) (b := x) (by omega) (by omega)).mpr (by omega)) (fun f => rfl) ?_
  refine mr_seg 2 (pc1 := 14) (ls1 := [some (.ref 100), some (.int (nI x)), some (.int 0), none]) (st1 := [.int 60, .int (nI x)]) (M1 := (mk_M (cT im le ln ys vt nu nn rf vw vq yc yh yg) (kr (he, ke, ki, fi, fa, or, mi, a, g, l, w, s)) m kk q)) (fun f => rfl) ?_
  refine mr_t (C := (nI x) ≤ 60) ((nI_leI (a := x) (b := 60) (by omega) (by omega)).mpr (by omega)) (fun f => rfl) ?_
  refine mr_seg 6 (pc1 := 41) (ls1 := [some (.ref 100), some (.int (nI x)), some (.int 0), none]) (st1 := [.ref 100]) (M1 := (mk_M (cT im le ln ys vt nu nn rf vw vq yc yh yg) (kr (he, ke, ki, fi, fa, or, mi, a, g, l, w, s)) m kk q)) (fun f => rfl) ?_
  refine mr_call (y := 75) (y0 := 44) (L := [some (.ref 100)]) (rest := []) (rr := some (.ref 124)) (M1 := (mk_M (cT im le ln ys vt nu nn rf vw vq yc yh yg) (kr (he, ke, ki, fi, fa, or, mi, a, g, l, w, s)) (kr (he, ke, ki, fi, fa, or, mi, a, g, l, w, s)) kk q)) (fun f => rfl) (cc_now (he, ke, ki, fi, fa, or, mi, a, g, l, w, s) (cT im le ln ys vt nu nn rf vw vq yc yh yg) m kk q hV j0) ?_
  refine mr_seg 3 (pc1 := 47) (ls1 := [some (.ref 100), some (.int (nI x)), some (.int 0), some (.ref 124)]) (st1 := [.int (nI x), .ref 124]) (M1 := (mk_M (cT im le ln ys vt nu nn rf vw vq yc yh yg) (kr (he, ke, ki, fi, fa, or, mi, a, g, l, w, s)) (kr (he, ke, ki, fi, fa, or, mi, a, g, l, w, s)) kk q)) (fun f => rfl) ?_
  refine mr_call (y := 43) (y0 := 50) (L := [some (.ref 124), some (.int (nI x)), none]) (rest := []) (rr := none) (M1 := (mk_M (cT im le ln ys vt nu nn rf vw vq yc yh yg) (kr (he, ke, ki, fi, fa, or, mi, a, g, l, w, s)) (kr (ksteps x (he, ke, ki, fi, fa, or, mi, a, g, l, w, s))) kk q)) (fun f => rfl) (kl_m (cT im le ln ys vt nu nn rf vw vq yc yh yg) (kr (he, ke, ki, fi, fa, or, mi, a, g, l, w, s)) kk q (kc_by_m x (by omega) (he, ke, ki, fi, fa, or, mi, a, g, l, w, s) hV (show s < 2 ^ 20 by omega))) ?_
  exact mr_ret 5 (fun f => rfl)
set_option maxRecDepth 100000 in
theorem om_then_4 (he ke ki fi fa or : List Nat) (mi a g l w s : Nat) (xm xi xw : List Int32) (im : Nat) (le nu rf : List Nat) (ln nn : Nat) (vp : Int32) (xn xc : List Int32) (vs : Int32) (c : cC) (n m kk : kG) (hA : iA (he, ke, ki, fi, fa, or, mi, a, g, l, w, s)) (hB : iB le ln) (hC : iC nu nn) (hD : iD rf) (hR : iR xm xw xn xc) (k1 : xi.length = 52) (x : Nat) (hx1 : 0 ≤ x) (hx : x ≤ 60) : mm_R 168 0 [some (.ref 138), some (.int (nI x)), some (.int 0), none] [] (mk_M c n m kk (rT (he, ke, ki, fi, fa, or, mi, a, g, l, w, s) xm xi xw im le nu rf ln nn vp xn xc vs)) (some (.int (nI (k_at (ksteps x (he, ke, ki, fi, fa, or, mi, a, g, l, w, s))))), (mk_M c n m kk (rT (he, ke, ki, fi, fa, or, mi, a, g, l, w, s) (er (ksteps x (he, ke, ki, fi, fa, or, mi, a, g, l, w, s))) xi xw im le nu rf ln nn vp xn xc vs))) := by
  obtain ⟨hV, hst⟩ := id hA
  have hst2 : s ≤ 999 := hst
  obtain ⟨v1, v2, v3, v4, v5, v6, v7, v8, v9, v10, v11, v12, v13, v14, v15, v16⟩ := id hV
  have v6l := kO_len mi v7 or v6
  obtain ⟨b1, b2, b3⟩ := id hB
  obtain ⟨c1, c2, c3⟩ := id hC
  have d1 : rf.length = 7 := hD
  obtain ⟨r1, r2, r3, r4⟩ := id hR
  refine mr_seg 3 (pc1 := 4) (ls1 := [some (.ref 138), some (.int (nI x)), some (.int 0), none]) (st1 := [.int 60, .int 0, .int (nI x)]) (M1 := (mk_M c n m kk (rT (he, ke, ki, fi, fa, or, mi, a, g, l, w, s) xm xi xw im le nu rf ln nn vp xn xc vs))) (fun f => rfl) ?_
  refine mr_call (y := 159) (y0 := 7) (L := [some (.int (nI x)), some (.int 0), some (.int 60)]) (rest := []) (rr := some (.int 0)) (M1 := (mk_M c n m kk (rT (he, ke, ki, fi, fa, or, mi, a, g, l, w, s) xm xi xw im le nu rf ln nn vp xn xc vs))) (fun f => rfl) (by
      refine mr_seg 2 (pc1 := 2) (ls1 := [some (.int (nI x)), some (.int 0), some (.int 60)]) (st1 := [.int 0, .int (nI x)]) (M1 := (mk_M c n m kk (rT (he, ke, ki, fi, fa, or, mi, a, g, l, w, s) xm xi xw im le nu rf ln nn vp xn xc vs))) (fun f => rfl) ?_
      refine mr_t (C := 0 ≤ (nI x)) ((nI_leI (a := 0) (b := x) (by omega) (by omega)).mpr (by omega)) (fun f => rfl) ?_
      refine mr_seg 2 (pc1 := 12) (ls1 := [some (.int (nI x)), some (.int 0), some (.int 60)]) (st1 := [.int 60, .int (nI x)]) (M1 := (mk_M c n m kk (rT (he, ke, ki, fi, fa, or, mi, a, g, l, w, s) xm xi xw im le nu rf ln nn vp xn xc vs))) (fun f => rfl) ?_
      refine mr_t (C := (nI x) ≤ 60) ((nI_leI (a := x) (b := 60) (by omega) (by omega)).mpr (by omega)) (fun f => rfl) ?_
      exact mr_ret 2 (fun f => rfl)) ?_
  refine mr_seg 6 (pc1 := 15) (ls1 := [some (.ref 138), some (.int (nI x)), some (.int 0), some (.int 0)]) (st1 := [.int 2, .int 0, .int 0]) (M1 := (mk_M c n m kk (rT (he, ke, ki, fi, fa, or, mi, a, g, l, w, s) xm xi xw im le nu rf ln nn vp xn xc vs))) (fun f => rfl) ?_
  refine mr_call (y := 135) (y0 := 18) (L := [some (.int 0), some (.int 0), some (.int 2)]) (rest := []) (rr := some (.int 1)) (M1 := (mk_M c n m kk (rT (he, ke, ki, fi, fa, or, mi, a, g, l, w, s) xm xi xw im le nu rf ln nn vp xn xc vs))) (fun f => rfl) (by
      exact mr_ret 9 (fun f => rfl)) ?_
  refine mr_seg 5 (pc1 := 36) (ls1 := [some (.ref 138), some (.int (nI x)), some (.int 0), some (.int 0)]) (st1 := [.int (nI x), .ref 138]) (M1 := (mk_M c n m kk (rT (he, ke, ki, fi, fa, or, mi, a, g, l, w, s) xm xi xw im le nu rf ln nn vp xn xc vs))) (fun f => rfl) ?_
  refine mr_call (y := 169) (y0 := 39) (L := [some (.ref 138), some (.int (nI x))]) (rest := []) (rr := none) (M1 := (mk_M c n m kk (rT (he, ke, ki, fi, fa, or, mi, a, g, l, w, s) (er (ksteps x (he, ke, ki, fi, fa, or, mi, a, g, l, w, s))) xi xw im le nu rf ln nn vp xn xc vs))) (fun f => rfl) (by
      refine mr_seg 4 (pc1 := 8) (ls1 := [some (.ref 138), some (.int (nI x))]) (st1 := [.ref 140, .ref 139]) (M1 := (mk_M c n m kk (rT (he, ke, ki, fi, fa, or, mi, a, g, l, w, s) xm xi xw im le nu rf ln nn vp xn xc vs))) (fun f => rfl) ?_
      refine mr_call (y := 138) (y0 := 11) (L := [some (.ref 139), some (.ref 140), none]) (rest := []) (rr := none) (M1 := (mk_M c n m kk (rT (he, ke, ki, fi, fa, or, mi, a, g, l, w, s) (er (he, ke, ki, fi, fa, or, mi, a, g, l, w, s)) xi xw im le nu rf ln nn vp xn xc vs))) (fun f => rfl) (rc_copies (a := 140) (b := 139) (by decide) rfl rfl (er_len hV) r1) ?_
      refine mr_seg 3 (pc1 := 16) (ls1 := [some (.ref 138), some (.int (nI x))]) (st1 := [.int (nI x), .ref 140]) (M1 := (mk_M c n m kk (rT (he, ke, ki, fi, fa, or, mi, a, g, l, w, s) (er (he, ke, ki, fi, fa, or, mi, a, g, l, w, s)) xi xw im le nu rf ln nn vp xn xc vs))) (fun f => rfl) ?_
      refine mr_call (y := 145) (y0 := 19) (L := [some (.ref 140), some (.int (nI x)), none]) (rest := []) (rr := none) (M1 := (mk_M c n m kk (rT (he, ke, ki, fi, fa, or, mi, a, g, l, w, s) (er (ksteps x (he, ke, ki, fi, fa, or, mi, a, g, l, w, s))) xi xw im le nu rf ln nn vp xn xc vs))) (fun f => rfl) (rl_m c n m kk (rT (he, ke, ki, fi, fa, or, mi, a, g, l, w, s) (er (he, ke, ki, fi, fa, or, mi, a, g, l, w, s)) xi xw im le nu rf ln nn vp xn xc vs) (rc_by_m x (by omega) (he, ke, ki, fi, fa, or, mi, a, g, l, w, s) hV (show s < 2 ^ 20 by omega)) rfl) ?_
      exact mr_ret 1 (fun f => rfl)) ?_
  refine mr_seg 5 (pc1 := 48) (ls1 := [some (.ref 138), some (.int (nI x)), some (.int 0), some (.int 0)]) (st1 := [.int 2, .ref 140]) (M1 := (mk_M c n m kk (rT (he, ke, ki, fi, fa, or, mi, a, g, l, w, s) (er (ksteps x (he, ke, ki, fi, fa, or, mi, a, g, l, w, s))) xi xw im le nu rf ln nn vp xn xc vs))) (fun f => rfl) ?_
  refine mr_ldn rfl rfl (k := 2) (by decide) rfl ?_
  exact mr_ret 2 (fun f => rfl)
theorem oe_then_4 (he ke ki fi fa or : List Nat) (mi a g l w s : Nat) (m : kG) (kk : kG) (im : Nat) (le : List Nat) (ln : Nat) (ys : List Int32) (vt : Int32) (nu : List Nat) (nn : Nat) (rf : List Nat) (vw : Int32) (vq : Int32) (yc : List Int32) (yh : List Int32) (yg : List Int32) (xm : List Int32) (xi : List Int32) (xw : List Int32) (vp : Int32) (xn : List Int32) (xc : List Int32) (vs : Int32) (hA : iA (he, ke, ki, fi, fa, or, mi, a, g, l, w, s)) (hB : iB le ln) (hC : iC nu nn) (hD : iD rf) (hJ : iJ m ys yc yh yg) (hR : iR xm xw xn xc) (hK : iK im kk xi) (x : Nat) (hx1 : 0 ≤ x) (hx : x ≤ 60) : oI 74 168 [some (.ref 100), some (.int (nI x)), some (.int 0), none] [some (.ref 138), some (.int (nI x)), some (.int 0), none] (mk_M (cT im le ln ys vt nu nn rf vw vq yc yh yg) (kr (he, ke, ki, fi, fa, or, mi, a, g, l, w, s)) m kk (rT (he, ke, ki, fi, fa, or, mi, a, g, l, w, s) xm xi xw im le nu rf ln nn vp xn xc vs)) := by
  obtain ⟨hV, hst⟩ := id hA
  have hst2 : s ≤ 999 := hst
  obtain ⟨v1, v2, v3, v4, v5, v6, v7, v8, v9, v10, v11, v12, v13, v14, v15, v16⟩ := id hV
  have v6l := kO_len mi v7 or v6
  obtain ⟨b1, b2, b3⟩ := id hB
  obtain ⟨c1, c2, c3⟩ := id hC
  have d1 : rf.length = 7 := hD
  obtain ⟨j0, j1, j2, j3, j4⟩ := id hJ
  obtain ⟨r1, r2, r3, r4⟩ := id hR
  obtain ⟨k0, k1, k2, k3⟩ := id hK
  exact ⟨(nI (k_at (ksteps x (he, ke, ki, fi, fa, or, mi, a, g, l, w, s)))), _, _, oc_then_4 he ke ki fi fa or mi a g l w s im le ln ys vt nu nn rf vw vq yc yh yg m kk _ hA hB hC hD hJ hK.1 x hx1 hx, om_then_4 he ke ki fi fa or mi a g l w s xm xi xw im le nu rf ln nn vp xn xc vs _ _ _ _ hA hB hC hD hR hK.2.1 x hx1 hx, (he, ke, ki, fi, fa, or, mi, a, g, l, w, s), (kr (ksteps x (he, ke, ki, fi, fa, or, mi, a, g, l, w, s))), kk, im, le, ln, ys, vt, nu, nn, rf, vw, vq, yc, yh, yg, (er (ksteps x (he, ke, ki, fi, fa, or, mi, a, g, l, w, s))), xi, xw, vp, xn, xc, vs, rfl, hA, hB, hC, hD, ⟨kSh_r (kV_steps x hV), j1, j2, j3, j4⟩, ⟨er_len (kV_steps x hV), r2, r3, r4⟩, hK⟩
set_option maxRecDepth 100000 in
theorem oc_then_6 (he ke ki fi fa or : List Nat) (mi a g l w s : Nat) (im : Nat) (le : List Nat) (ln : Nat) (ys : List Int32) (vt : Int32) (nu : List Nat) (nn : Nat) (rf : List Nat) (vw vq : Int32) (yc yh yg : List Int32) (m kk : kG) (q : cR) (hA : iA (he, ke, ki, fi, fa, or, mi, a, g, l, w, s)) (hB : iB le ln) (hC : iC nu nn) (hD : iD rf) (hJ : iJ m ys yc yh yg) (k0 : kSh kk) (x : Nat) (hx1 : 0 ≤ x) (hx : x ≤ 60) : mm_R 74 0 [some (.ref 100), some (.int (nI x)), some (.int 2), none] [] (mk_M (cT im le ln ys vt nu nn rf vw vq yc yh yg) (kr (he, ke, ki, fi, fa, or, mi, a, g, l, w, s)) m kk q) (some (.int (nI (ksum (k_fa (ksteps x (he, ke, ki, fi, fa, or, mi, a, g, l, w, s))) (k_mi (ksteps x (he, ke, ki, fi, fa, or, mi, a, g, l, w, s)))))), (mk_M (cT im le ln ys vt nu nn rf vw vq yc yh yg) (kr (he, ke, ki, fi, fa, or, mi, a, g, l, w, s)) (kr (ksteps x (he, ke, ki, fi, fa, or, mi, a, g, l, w, s))) kk q)) := by
  obtain ⟨hV, hst⟩ := id hA
  have hst2 : s ≤ 999 := hst
  obtain ⟨v1, v2, v3, v4, v5, v6, v7, v8, v9, v10, v11, v12, v13, v14, v15, v16⟩ := id hV
  have v6l := kO_len mi v7 or v6
  obtain ⟨b1, b2, b3⟩ := id hB
  obtain ⟨c1, c2, c3⟩ := id hC
  have d1 : rf.length = 7 := hD
  obtain ⟨j0, j1, j2, j3, j4⟩ := id hJ
  refine mr_seg 1 (pc1 := 1) (ls1 := [some (.ref 100), some (.int (nI x)), some (.int 2), none]) (st1 := [.int (nI x)]) (M1 := (mk_M (cT im le ln ys vt nu nn rf vw vq yc yh yg) (kr (he, ke, ki, fi, fa, or, mi, a, g, l, w, s)) m kk q)) (fun f => rfl) ?_
  refine mr_t (C := 0 ≤ (nI x)) ((nI_leI (a := 0) (b := x) (by omega) (by omega)).mpr (by omega)) (fun f => rfl) ?_
  refine mr_seg 2 (pc1 := 14) (ls1 := [some (.ref 100), some (.int (nI x)), some (.int 2), none]) (st1 := [.int 60, .int (nI x)]) (M1 := (mk_M (cT im le ln ys vt nu nn rf vw vq yc yh yg) (kr (he, ke, ki, fi, fa, or, mi, a, g, l, w, s)) m kk q)) (fun f => rfl) ?_
  refine mr_t (C := (nI x) ≤ 60) ((nI_leI (a := x) (b := 60) (by omega) (by omega)).mpr (by omega)) (fun f => rfl) ?_
  refine mr_seg 6 (pc1 := 41) (ls1 := [some (.ref 100), some (.int (nI x)), some (.int 2), none]) (st1 := [.ref 100]) (M1 := (mk_M (cT im le ln ys vt nu nn rf vw vq yc yh yg) (kr (he, ke, ki, fi, fa, or, mi, a, g, l, w, s)) m kk q)) (fun f => rfl) ?_
  refine mr_call (y := 75) (y0 := 44) (L := [some (.ref 100)]) (rest := []) (rr := some (.ref 124)) (M1 := (mk_M (cT im le ln ys vt nu nn rf vw vq yc yh yg) (kr (he, ke, ki, fi, fa, or, mi, a, g, l, w, s)) (kr (he, ke, ki, fi, fa, or, mi, a, g, l, w, s)) kk q)) (fun f => rfl) (cc_now (he, ke, ki, fi, fa, or, mi, a, g, l, w, s) (cT im le ln ys vt nu nn rf vw vq yc yh yg) m kk q hV j0) ?_
  refine mr_seg 3 (pc1 := 47) (ls1 := [some (.ref 100), some (.int (nI x)), some (.int 2), some (.ref 124)]) (st1 := [.int (nI x), .ref 124]) (M1 := (mk_M (cT im le ln ys vt nu nn rf vw vq yc yh yg) (kr (he, ke, ki, fi, fa, or, mi, a, g, l, w, s)) (kr (he, ke, ki, fi, fa, or, mi, a, g, l, w, s)) kk q)) (fun f => rfl) ?_
  refine mr_call (y := 43) (y0 := 50) (L := [some (.ref 124), some (.int (nI x)), none]) (rest := []) (rr := none) (M1 := (mk_M (cT im le ln ys vt nu nn rf vw vq yc yh yg) (kr (he, ke, ki, fi, fa, or, mi, a, g, l, w, s)) (kr (ksteps x (he, ke, ki, fi, fa, or, mi, a, g, l, w, s))) kk q)) (fun f => rfl) (kl_m (cT im le ln ys vt nu nn rf vw vq yc yh yg) (kr (he, ke, ki, fi, fa, or, mi, a, g, l, w, s)) kk q (kc_by_m x (by omega) (he, ke, ki, fi, fa, or, mi, a, g, l, w, s) hV (show s < 2 ^ 20 by omega))) ?_
  refine mr_seg 6 (pc1 := 72) (ls1 := [some (.ref 100), some (.int (nI x)), some (.int 2), some (.ref 124)]) (st1 := [.ref 124]) (M1 := (mk_M (cT im le ln ys vt nu nn rf vw vq yc yh yg) (kr (he, ke, ki, fi, fa, or, mi, a, g, l, w, s)) (kr (ksteps x (he, ke, ki, fi, fa, or, mi, a, g, l, w, s))) kk q)) (fun f => rfl) ?_
  refine mr_call (y := 77) (y0 := 75) (L := [some (.ref 124), none, none]) (rest := []) (rr := some (.int (nI (ksum (k_fa (ksteps x (he, ke, ki, fi, fa, or, mi, a, g, l, w, s))) (k_mi (ksteps x (he, ke, ki, fi, fa, or, mi, a, g, l, w, s))))))) (M1 := (mk_M (cT im le ln ys vt nu nn rf vw vq yc yh yg) (kr (he, ke, ki, fi, fa, or, mi, a, g, l, w, s)) (kr (ksteps x (he, ke, ki, fi, fa, or, mi, a, g, l, w, s))) kk q)) (fun f => rfl) (kl_m (cT im le ln ys vt nu nn rf vw vq yc yh yg) (kr (he, ke, ki, fi, fa, or, mi, a, g, l, w, s)) kk q (kc_af_m (ksteps x (he, ke, ki, fi, fa, or, mi, a, g, l, w, s)) (kV_steps x hV))) ?_
  exact mr_ret 1 (fun f => rfl)
set_option maxRecDepth 100000 in
theorem om_then_6 (he ke ki fi fa or : List Nat) (mi a g l w s : Nat) (xm xi xw : List Int32) (im : Nat) (le nu rf : List Nat) (ln nn : Nat) (vp : Int32) (xn xc : List Int32) (vs : Int32) (c : cC) (n m kk : kG) (hA : iA (he, ke, ki, fi, fa, or, mi, a, g, l, w, s)) (hB : iB le ln) (hC : iC nu nn) (hD : iD rf) (hR : iR xm xw xn xc) (k1 : xi.length = 52) (x : Nat) (hx1 : 0 ≤ x) (hx : x ≤ 60) : mm_R 168 0 [some (.ref 138), some (.int (nI x)), some (.int 2), none] [] (mk_M c n m kk (rT (he, ke, ki, fi, fa, or, mi, a, g, l, w, s) xm xi xw im le nu rf ln nn vp xn xc vs)) (some (.int (nI (ksum (k_fa (ksteps x (he, ke, ki, fi, fa, or, mi, a, g, l, w, s))) (k_mi (ksteps x (he, ke, ki, fi, fa, or, mi, a, g, l, w, s)))))), (mk_M c n m kk (rT (he, ke, ki, fi, fa, or, mi, a, g, l, w, s) (er (ksteps x (he, ke, ki, fi, fa, or, mi, a, g, l, w, s))) xi xw im le nu rf ln nn vp xn xc vs))) := by
  obtain ⟨hV, hst⟩ := id hA
  have hst2 : s ≤ 999 := hst
  obtain ⟨v1, v2, v3, v4, v5, v6, v7, v8, v9, v10, v11, v12, v13, v14, v15, v16⟩ := id hV
  have v6l := kO_len mi v7 or v6
  obtain ⟨b1, b2, b3⟩ := id hB
  obtain ⟨c1, c2, c3⟩ := id hC
  have d1 : rf.length = 7 := hD
  obtain ⟨r1, r2, r3, r4⟩ := id hR
  refine mr_seg 3 (pc1 := 4) (ls1 := [some (.ref 138), some (.int (nI x)), some (.int 2), none]) (st1 := [.int 60, .int 0, .int (nI x)]) (M1 := (mk_M c n m kk (rT (he, ke, ki, fi, fa, or, mi, a, g, l, w, s) xm xi xw im le nu rf ln nn vp xn xc vs))) (fun f => rfl) ?_
  refine mr_call (y := 159) (y0 := 7) (L := [some (.int (nI x)), some (.int 0), some (.int 60)]) (rest := []) (rr := some (.int 0)) (M1 := (mk_M c n m kk (rT (he, ke, ki, fi, fa, or, mi, a, g, l, w, s) xm xi xw im le nu rf ln nn vp xn xc vs))) (fun f => rfl) (by
      refine mr_seg 2 (pc1 := 2) (ls1 := [some (.int (nI x)), some (.int 0), some (.int 60)]) (st1 := [.int 0, .int (nI x)]) (M1 := (mk_M c n m kk (rT (he, ke, ki, fi, fa, or, mi, a, g, l, w, s) xm xi xw im le nu rf ln nn vp xn xc vs))) (fun f => rfl) ?_
      refine mr_t (C := 0 ≤ (nI x)) ((nI_leI (a := 0) (b := x) (by omega) (by omega)).mpr (by omega)) (fun f => rfl) ?_
      refine mr_seg 2 (pc1 := 12) (ls1 := [some (.int (nI x)), some (.int 0), some (.int 60)]) (st1 := [.int 60, .int (nI x)]) (M1 := (mk_M c n m kk (rT (he, ke, ki, fi, fa, or, mi, a, g, l, w, s) xm xi xw im le nu rf ln nn vp xn xc vs))) (fun f => rfl) ?_
      refine mr_t (C := (nI x) ≤ 60) ((nI_leI (a := x) (b := 60) (by omega) (by omega)).mpr (by omega)) (fun f => rfl) ?_
      exact mr_ret 2 (fun f => rfl)) ?_
  refine mr_seg 6 (pc1 := 15) (ls1 := [some (.ref 138), some (.int (nI x)), some (.int 2), some (.int 0)]) (st1 := [.int 2, .int 0, .int 2]) (M1 := (mk_M c n m kk (rT (he, ke, ki, fi, fa, or, mi, a, g, l, w, s) xm xi xw im le nu rf ln nn vp xn xc vs))) (fun f => rfl) ?_
  refine mr_call (y := 135) (y0 := 18) (L := [some (.int 2), some (.int 0), some (.int 2)]) (rest := []) (rr := some (.int 1)) (M1 := (mk_M c n m kk (rT (he, ke, ki, fi, fa, or, mi, a, g, l, w, s) xm xi xw im le nu rf ln nn vp xn xc vs))) (fun f => rfl) (by
      exact mr_ret 9 (fun f => rfl)) ?_
  refine mr_seg 5 (pc1 := 36) (ls1 := [some (.ref 138), some (.int (nI x)), some (.int 2), some (.int 0)]) (st1 := [.int (nI x), .ref 138]) (M1 := (mk_M c n m kk (rT (he, ke, ki, fi, fa, or, mi, a, g, l, w, s) xm xi xw im le nu rf ln nn vp xn xc vs))) (fun f => rfl) ?_
  refine mr_call (y := 169) (y0 := 39) (L := [some (.ref 138), some (.int (nI x))]) (rest := []) (rr := none) (M1 := (mk_M c n m kk (rT (he, ke, ki, fi, fa, or, mi, a, g, l, w, s) (er (ksteps x (he, ke, ki, fi, fa, or, mi, a, g, l, w, s))) xi xw im le nu rf ln nn vp xn xc vs))) (fun f => rfl) (by
      refine mr_seg 4 (pc1 := 8) (ls1 := [some (.ref 138), some (.int (nI x))]) (st1 := [.ref 140, .ref 139]) (M1 := (mk_M c n m kk (rT (he, ke, ki, fi, fa, or, mi, a, g, l, w, s) xm xi xw im le nu rf ln nn vp xn xc vs))) (fun f => rfl) ?_
      refine mr_call (y := 138) (y0 := 11) (L := [some (.ref 139), some (.ref 140), none]) (rest := []) (rr := none) (M1 := (mk_M c n m kk (rT (he, ke, ki, fi, fa, or, mi, a, g, l, w, s) (er (he, ke, ki, fi, fa, or, mi, a, g, l, w, s)) xi xw im le nu rf ln nn vp xn xc vs))) (fun f => rfl) (rc_copies (a := 140) (b := 139) (by decide) rfl rfl (er_len hV) r1) ?_
      refine mr_seg 3 (pc1 := 16) (ls1 := [some (.ref 138), some (.int (nI x))]) (st1 := [.int (nI x), .ref 140]) (M1 := (mk_M c n m kk (rT (he, ke, ki, fi, fa, or, mi, a, g, l, w, s) (er (he, ke, ki, fi, fa, or, mi, a, g, l, w, s)) xi xw im le nu rf ln nn vp xn xc vs))) (fun f => rfl) ?_
      refine mr_call (y := 145) (y0 := 19) (L := [some (.ref 140), some (.int (nI x)), none]) (rest := []) (rr := none) (M1 := (mk_M c n m kk (rT (he, ke, ki, fi, fa, or, mi, a, g, l, w, s) (er (ksteps x (he, ke, ki, fi, fa, or, mi, a, g, l, w, s))) xi xw im le nu rf ln nn vp xn xc vs))) (fun f => rfl) (rl_m c n m kk (rT (he, ke, ki, fi, fa, or, mi, a, g, l, w, s) (er (he, ke, ki, fi, fa, or, mi, a, g, l, w, s)) xi xw im le nu rf ln nn vp xn xc vs) (rc_by_m x (by omega) (he, ke, ki, fi, fa, or, mi, a, g, l, w, s) hV (show s < 2 ^ 20 by omega)) rfl) ?_
      exact mr_ret 1 (fun f => rfl)) ?_
  refine mr_seg 7 (pc1 := 61) (ls1 := [some (.ref 138), some (.int (nI x)), some (.int 2), some (.int 0)]) (st1 := [.ref 140]) (M1 := (mk_M c n m kk (rT (he, ke, ki, fi, fa, or, mi, a, g, l, w, s) (er (ksteps x (he, ke, ki, fi, fa, or, mi, a, g, l, w, s))) xi xw im le nu rf ln nn vp xn xc vs))) (fun f => rfl) ?_
  refine mr_call (y := 170) (y0 := 64) (L := [some (.ref 140), none, none]) (rest := []) (rr := some (.int (nI (ksum (k_fa (ksteps x (he, ke, ki, fi, fa, or, mi, a, g, l, w, s))) (k_mi (ksteps x (he, ke, ki, fi, fa, or, mi, a, g, l, w, s))))))) (M1 := (mk_M c n m kk (rT (he, ke, ki, fi, fa, or, mi, a, g, l, w, s) (er (ksteps x (he, ke, ki, fi, fa, or, mi, a, g, l, w, s))) xi xw im le nu rf ln nn vp xn xc vs))) (fun f => rfl) (rl_m c n m kk (rT (he, ke, ki, fi, fa, or, mi, a, g, l, w, s) (er (ksteps x (he, ke, ki, fi, fa, or, mi, a, g, l, w, s))) xi xw im le nu rf ln nn vp xn xc vs) (rc_af_m (ksteps x (he, ke, ki, fi, fa, or, mi, a, g, l, w, s)) (kV_steps x hV)) rfl) ?_
  exact mr_ret 2 (fun f => rfl)
theorem oe_then_6 (he ke ki fi fa or : List Nat) (mi a g l w s : Nat) (m : kG) (kk : kG) (im : Nat) (le : List Nat) (ln : Nat) (ys : List Int32) (vt : Int32) (nu : List Nat) (nn : Nat) (rf : List Nat) (vw : Int32) (vq : Int32) (yc : List Int32) (yh : List Int32) (yg : List Int32) (xm : List Int32) (xi : List Int32) (xw : List Int32) (vp : Int32) (xn : List Int32) (xc : List Int32) (vs : Int32) (hA : iA (he, ke, ki, fi, fa, or, mi, a, g, l, w, s)) (hB : iB le ln) (hC : iC nu nn) (hD : iD rf) (hJ : iJ m ys yc yh yg) (hR : iR xm xw xn xc) (hK : iK im kk xi) (x : Nat) (hx1 : 0 ≤ x) (hx : x ≤ 60) : oI 74 168 [some (.ref 100), some (.int (nI x)), some (.int 2), none] [some (.ref 138), some (.int (nI x)), some (.int 2), none] (mk_M (cT im le ln ys vt nu nn rf vw vq yc yh yg) (kr (he, ke, ki, fi, fa, or, mi, a, g, l, w, s)) m kk (rT (he, ke, ki, fi, fa, or, mi, a, g, l, w, s) xm xi xw im le nu rf ln nn vp xn xc vs)) := by
  obtain ⟨hV, hst⟩ := id hA
  have hst2 : s ≤ 999 := hst
  obtain ⟨v1, v2, v3, v4, v5, v6, v7, v8, v9, v10, v11, v12, v13, v14, v15, v16⟩ := id hV
  have v6l := kO_len mi v7 or v6
  obtain ⟨b1, b2, b3⟩ := id hB
  obtain ⟨c1, c2, c3⟩ := id hC
  have d1 : rf.length = 7 := hD
  obtain ⟨j0, j1, j2, j3, j4⟩ := id hJ
  obtain ⟨r1, r2, r3, r4⟩ := id hR
  obtain ⟨k0, k1, k2, k3⟩ := id hK
  exact ⟨(nI (ksum (k_fa (ksteps x (he, ke, ki, fi, fa, or, mi, a, g, l, w, s))) (k_mi (ksteps x (he, ke, ki, fi, fa, or, mi, a, g, l, w, s))))), _, _, oc_then_6 he ke ki fi fa or mi a g l w s im le ln ys vt nu nn rf vw vq yc yh yg m kk _ hA hB hC hD hJ hK.1 x hx1 hx, om_then_6 he ke ki fi fa or mi a g l w s xm xi xw im le nu rf ln nn vp xn xc vs _ _ _ _ hA hB hC hD hR hK.2.1 x hx1 hx, (he, ke, ki, fi, fa, or, mi, a, g, l, w, s), (kr (ksteps x (he, ke, ki, fi, fa, or, mi, a, g, l, w, s))), kk, im, le, ln, ys, vt, nu, nn, rf, vw, vq, yc, yh, yg, (er (ksteps x (he, ke, ki, fi, fa, or, mi, a, g, l, w, s))), xi, xw, vp, xn, xc, vs, rfl, hA, hB, hC, hD, ⟨kSh_r (kV_steps x hV), j1, j2, j3, j4⟩, ⟨er_len (kV_steps x hV), r2, r3, r4⟩, hK⟩
set_option maxRecDepth 100000 in
theorem oc_image_0 (he ke ki fi fa or : List Nat) (mi a g l w s : Nat) (im : Nat) (le : List Nat) (ln : Nat) (ys : List Int32) (vt : Int32) (nu : List Nat) (nn : Nat) (rf : List Nat) (vw vq : Int32) (yc yh yg : List Int32) (m kk : kG) (q : cR) (hA : iA (he, ke, ki, fi, fa, or, mi, a, g, l, w, s)) (hB : iB le ln) (hC : iC nu nn) (hD : iD rf) (hJ : iJ m ys yc yh yg) (k0 : kSh kk) : mm_R 125 0 [some (.ref 100)] [] (mk_M (cT im le ln ys vt nu nn rf vw vq yc yh yg) (kr (he, ke, ki, fi, fa, or, mi, a, g, l, w, s)) m kk q) (some (.int (nI s)), (mk_M (cT 1 le ln ys vt nu nn rf vw vq yc yh yg) (kr (he, ke, ki, fi, fa, or, mi, a, g, l, w, s)) m (kr (he, ke, ki, fi, fa, or, mi, a, g, l, w, s)) q)) := by
  obtain ⟨hV, hst⟩ := id hA
  have hst2 : s ≤ 999 := hst
  obtain ⟨v1, v2, v3, v4, v5, v6, v7, v8, v9, v10, v11, v12, v13, v14, v15, v16⟩ := id hV
  have v6l := kO_len mi v7 or v6
  obtain ⟨b1, b2, b3⟩ := id hB
  obtain ⟨c1, c2, c3⟩ := id hC
  have d1 : rf.length = 7 := hD
  obtain ⟨j0, j1, j2, j3, j4⟩ := id hJ
  refine mr_seg 4 (pc1 := 8) (ls1 := [some (.ref 100)]) (st1 := [.ref 117, .ref 131]) (M1 := (mk_M (cT im le ln ys vt nu nn rf vw vq yc yh yg) (kr (he, ke, ki, fi, fa, or, mi, a, g, l, w, s)) m kk q)) (fun f => rfl) ?_
  refine mr_call (y := 76) (y0 := 11) (L := [some (.ref 131), some (.ref 117)]) (rest := []) (rr := none) (M1 := (mk_M (cT im le ln ys vt nu nn rf vw vq yc yh yg) (kr (he, ke, ki, fi, fa, or, mi, a, g, l, w, s)) m (kr (he, ke, ki, fi, fa, or, mi, a, g, l, w, s)) q)) (fun f => rfl) (cc_be_kn he ke ki fi fa or mi a g l w s (cT im le ln ys vt nu nn rf vw vq yc yh yg) m kk q hV k0) ?_
  exact mr_ret 7 (fun f => rfl)
set_option maxRecDepth 100000 in
theorem om_image_0 (he ke ki fi fa or : List Nat) (mi a g l w s : Nat) (xm xi xw : List Int32) (im : Nat) (le nu rf : List Nat) (ln nn : Nat) (vp : Int32) (xn xc : List Int32) (vs : Int32) (c : cC) (n m kk : kG) (hA : iA (he, ke, ki, fi, fa, or, mi, a, g, l, w, s)) (hB : iB le ln) (hC : iC nu nn) (hD : iD rf) (hR : iR xm xw xn xc) (k1 : xi.length = 52) : mm_R 209 0 [some (.ref 138)] [] (mk_M c n m kk (rT (he, ke, ki, fi, fa, or, mi, a, g, l, w, s) xm xi xw im le nu rf ln nn vp xn xc vs)) (some (.int (nI s)), (mk_M c n m kk (rT (he, ke, ki, fi, fa, or, mi, a, g, l, w, s) xm (er (he, ke, ki, fi, fa, or, mi, a, g, l, w, s)) xw 1 le nu rf ln nn vp xn xc vs))) := by
  obtain ⟨hV, hst⟩ := id hA
  have hst2 : s ≤ 999 := hst
  obtain ⟨v1, v2, v3, v4, v5, v6, v7, v8, v9, v10, v11, v12, v13, v14, v15, v16⟩ := id hV
  have v6l := kO_len mi v7 or v6
  obtain ⟨b1, b2, b3⟩ := id hB
  obtain ⟨c1, c2, c3⟩ := id hC
  have d1 : rf.length = 7 := hD
  obtain ⟨r1, r2, r3, r4⟩ := id hR
  refine mr_seg 4 (pc1 := 8) (ls1 := [some (.ref 138)]) (st1 := [.ref 141, .ref 139]) (M1 := (mk_M c n m kk (rT (he, ke, ki, fi, fa, or, mi, a, g, l, w, s) xm xi xw im le nu rf ln nn vp xn xc vs))) (fun f => rfl) ?_
  refine mr_call (y := 138) (y0 := 11) (L := [some (.ref 139), some (.ref 141), none]) (rest := []) (rr := none) (M1 := (mk_M c n m kk (rT (he, ke, ki, fi, fa, or, mi, a, g, l, w, s) xm (er (he, ke, ki, fi, fa, or, mi, a, g, l, w, s)) xw im le nu rf ln nn vp xn xc vs))) (fun f => rfl) (rc_copies (a := 141) (b := 139) (by decide) rfl rfl (er_len hV) k1) ?_
  refine mr_seg 6 (pc1 := 21) (ls1 := [some (.ref 138)]) (st1 := [.int 1, .ref 139]) (M1 := (mk_M c n m kk (rT (he, ke, ki, fi, fa, or, mi, a, g, l, w, s) xm (er (he, ke, ki, fi, fa, or, mi, a, g, l, w, s)) xw 1 le nu rf ln nn vp xn xc vs))) (fun f => rfl) ?_
  refine mr_ldn rfl rfl (k := 1) (by decide) rfl ?_
  exact mr_ret 1 (fun f => rfl)
theorem oe_image_0 (he ke ki fi fa or : List Nat) (mi a g l w s : Nat) (m : kG) (kk : kG) (im : Nat) (le : List Nat) (ln : Nat) (ys : List Int32) (vt : Int32) (nu : List Nat) (nn : Nat) (rf : List Nat) (vw : Int32) (vq : Int32) (yc : List Int32) (yh : List Int32) (yg : List Int32) (xm : List Int32) (xi : List Int32) (xw : List Int32) (vp : Int32) (xn : List Int32) (xc : List Int32) (vs : Int32) (hA : iA (he, ke, ki, fi, fa, or, mi, a, g, l, w, s)) (hB : iB le ln) (hC : iC nu nn) (hD : iD rf) (hJ : iJ m ys yc yh yg) (hR : iR xm xw xn xc) (hK : iK im kk xi) : oI 125 209 [some (.ref 100)] [some (.ref 138)] (mk_M (cT im le ln ys vt nu nn rf vw vq yc yh yg) (kr (he, ke, ki, fi, fa, or, mi, a, g, l, w, s)) m kk (rT (he, ke, ki, fi, fa, or, mi, a, g, l, w, s) xm xi xw im le nu rf ln nn vp xn xc vs)) := by
  obtain ⟨hV, hst⟩ := id hA
  have hst2 : s ≤ 999 := hst
  obtain ⟨v1, v2, v3, v4, v5, v6, v7, v8, v9, v10, v11, v12, v13, v14, v15, v16⟩ := id hV
  have v6l := kO_len mi v7 or v6
  obtain ⟨b1, b2, b3⟩ := id hB
  obtain ⟨c1, c2, c3⟩ := id hC
  have d1 : rf.length = 7 := hD
  obtain ⟨j0, j1, j2, j3, j4⟩ := id hJ
  obtain ⟨r1, r2, r3, r4⟩ := id hR
  obtain ⟨k0, k1, k2, k3⟩ := id hK
  exact ⟨(nI s), _, _, oc_image_0 he ke ki fi fa or mi a g l w s im le ln ys vt nu nn rf vw vq yc yh yg m kk _ hA hB hC hD hJ hK.1, om_image_0 he ke ki fi fa or mi a g l w s xm xi xw im le nu rf ln nn vp xn xc vs _ _ _ _ hA hB hC hD hR hK.2.1, (he, ke, ki, fi, fa, or, mi, a, g, l, w, s), m, (kr (he, ke, ki, fi, fa, or, mi, a, g, l, w, s)), 1, le, ln, ys, vt, nu, nn, rf, vw, vq, yc, yh, yg, xm, (er (he, ke, ki, fi, fa, or, mi, a, g, l, w, s)), xw, vp, xn, xc, vs, rfl, hA, hB, hC, hD, hJ, hR, ⟨kSh_r hV, er_len hV, by omega, fun _ => ⟨_, hA, rfl, rfl⟩⟩⟩
