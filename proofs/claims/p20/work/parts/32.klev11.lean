def khere (le : List Nat) (ln t : Nat) : Int32 := if t < ln then nI (kg le t) else -1
theorem khere_t {le : List Nat} {ln t : Nat} (h : t < ln) : khere le ln t = nI (kg le t) := if_pos h
theorem khere_f {le : List Nat} {ln t : Nat} (h : ¬ t < ln) : khere le ln t = -1 := if_neg h
def kn0 (le : List Nat) (p : Nat) : Nat := if kg le p = 109 then (kkind (kg le (p + 1))).getD 0 else if kg le p = 120 then kg le (p + 1) - 48 else knum le p
def kn1 (le : List Nat) (p : Nat) : Nat := if kg le p = 99 then kg le (p + 3) - 48 else kg le (p + 2) - 48
theorem kshr_n {c : Nat} (h : kshr c = 5) : ¬ c = 99 ∧ ¬ c = 107 ∧ ¬ c = 98 ∧ ¬ c = 103 ∧ ¬ c = 119 ∧ ¬ c = 115 ∧ ¬ c = 109 ∧ ¬ c = 120 := by
  refine ⟨?_, ?_, ?_, ?_, ?_, ?_, ?_, ?_⟩ <;> (intro e; subst e; exact absurd h (by decide))
theorem k_two {l : List Int32} (h : l.length = 2) : ∃ x0 x1, l = [x0, x1] := by
  match l, h with
  | [x0, x1], _ => exact ⟨x0, x1, rfl⟩
set_option maxRecDepth 100000 in
theorem kd_here (t : Nat) (xn : List Int32) (K : kK) (xm xi xw : List Int32) (im : Nat) (le nu rf : List Nat) (ln nn : Nat) (xc : List Int32) (vs : Int32) (c : cC) (n m kk : kG) (hB : iB le ln) (ht : t < 2 ^ 20) : mm_R 133 0 [some (.ref 138)] [] (mk_M c n m kk (rT K xm xi xw im le nu rf ln nn (nI t) xn xc vs)) (some (.int (khere le ln t)), (mk_M c n m kk (rT K xm xi xw im le nu rf ln nn (nI t) xn xc vs))) := by
  obtain ⟨b1, b2, b3⟩ := id hB
  refine mr_seg 4 (pc1 := 8) (ls1 := [some (.ref 138)]) (st1 := [.int (nI ln), .int (nI t)]) (M1 := (mk_M c n m kk (rT K xm xi xw im le nu rf ln nn (nI t) xn xc vs))) (fun f => rfl) ?_
  refine mr_ifN (C := (nI ln) ≤ (nI t)) (nI_lei (a := ln) (b := t) (by omega)) (fun f => rfl) (fun h1 => ?_) (fun h1 => ?_)
  · refine mr_eq (mr_ret 2 (o := (some (.int (-1)), (mk_M c n m kk (rT K xm xi xw im le nu rf ln nn (nI t) xn xc vs)))) (fun f => rfl)) ?_
    rw [khere_f (Nat.not_lt.mpr h1)]
  · refine mr_seg 4 (pc1 := 19) (ls1 := [some (.ref 138)]) (st1 := [.int (nI t), .ref 143]) (M1 := (mk_M c n m kk (rT K xm xi xw im le nu rf ln nn (nI t) xn xc vs))) (fun f => rfl) ?_
    refine mr_ldk (l0 := le) rfl rfl (k := t) (by omega) ?_
    refine mr_eq (mr_ret 2 (o := (some (.int (nI (kg le t))), (mk_M c n m kk (rT K xm xi xw im le nu rf ln nn (nI t) xn xc vs)))) (fun f => rfl)) ?_
    rw [khere_t (Nat.lt_of_not_le h1)]
set_option maxRecDepth 100000 in
theorem rn_021_ff (K : kK) (xm xi xw : List Int32) (im : Nat) (le nu rf : List Nat) (ln nn : Nat) (xc : List Int32) (vs : Int32) (c : cC) (n m kk : kG) (p : Nat) (x0 x1 : Int32) (hB : iB le ln) (hp : p < 1000) (u1 : p + 1 < ln) (w1 : kfit 57 (kg le (p + 1)) = true) (u2 : p + 2 < ln) (w2 : kfit 57 (kg le (p + 2)) = true) : mm_R 134 0 [some (.ref 138), some (.int 0), some (.int 2), none] [] (mk_M c n m kk (rT K xm xi xw im le nu rf ln nn (nI (p + 1)) [x0, x1] xc vs)) (some (.int 1), (mk_M c n m kk (rT K xm xi xw im le nu rf ln nn (nI (p + 3)) [(nI ((10 * ((kg le (p + 1)) - 48) + (kg le (p + 2))) - 48)), x1] xc vs))) := by
  obtain ⟨b1, b2, b3⟩ := id hB
  have e1 := b2 (p + 1)
  have f1 := kfit_9.mp w1
  have e2 := b2 (p + 2)
  have f2 := kfit_9.mp w2
  refine mr_seg 4 (pc1 := 6) (ls1 := [some (.ref 138), some (.int 0), some (.int 2), none]) (st1 := [.int 0, .int 0, .ref 146]) (M1 := (mk_M c n m kk (rT K xm xi xw im le nu rf ln nn (nI (p + 1)) [x0, x1] xc vs))) (fun f => rfl) ?_
  refine mr_stn (xs := [x0, x1]) (ys := [0, x1]) (M2 := (mk_MR c n m kk (er K) xm xi xw (nI im) (le.map nI) (nu.map nI) (rf.map nI) (nI ln) (nI nn) (nI (p + 1)) [0, x1] xc vs)) rfl rfl (k := 0) (by decide) (show 0 < 2 by decide) rfl rfl ?_
  refine mr_M (mk_MRk c n m kk K xm xi xw im le nu rf ln nn (nI (p + 1)) [0, x1] xc vs) ?_
  refine mr_seg 6 (pc1 := 15) (ls1 := [some (.ref 138), some (.int 0), some (.int 2), some (.int 0)]) (st1 := [.ref 138]) (M1 := (mk_M c n m kk (rT K xm xi xw im le nu rf ln nn (nI (p + 1)) [0, x1] xc vs))) (fun f => rfl) ?_
  refine mr_call (y := 133) (y0 := 18) (L := [some (.ref 138)]) (rest := []) (rr := some (.int (nI (kg le (p + 1))))) (M1 := (mk_M c n m kk (rT K xm xi xw im le nu rf ln nn (nI (p + 1)) [0, x1] xc vs))) (fun f => rfl) (mr_eq (kd_here (p + 1) [0, x1] K xm xi xw im le nu rf ln nn xc vs c n m kk hB (by omega)) (by rw [khere_t u1])) ?_
  refine mr_seg 2 (pc1 := 22) (ls1 := [some (.ref 138), some (.int 0), some (.int 2), some (.int 0)]) (st1 := [.int 57, .int 48, .int (nI (kg le (p + 1)))]) (M1 := (mk_M c n m kk (rT K xm xi xw im le nu rf ln nn (nI (p + 1)) [0, x1] xc vs))) (fun f => rfl) ?_
  refine mr_call (y := 135) (y0 := 25) (L := [some (.int (nI (kg le (p + 1)))), some (.int 48), some (.int 57)]) (rest := []) (rr := some (.int 1)) (M1 := (mk_M c n m kk (rT K xm xi xw im le nu rf ln nn (nI (p + 1)) [0, x1] xc vs))) (fun f => rfl) (mr_eq (kd_ii (c := kg le (p + 1)) (b2 _) _) (by rw [w1] <;> rfl)) ?_
  refine mr_seg 8 (pc1 := 42) (ls1 := [some (.ref 138), some (.int 0), some (.int 2), some (.int 0)]) (st1 := [.int 0, .ref 146, .int 10, .int 0, .ref 146]) (M1 := (mk_M c n m kk (rT K xm xi xw im le nu rf ln nn (nI (p + 1)) [0, x1] xc vs))) (fun f => rfl) ?_
  refine mr_ldn (xs := [0, x1]) rfl rfl (k := 0) (by decide) rfl ?_
  refine mr_seg 2 (pc1 := 45) (ls1 := [some (.ref 138), some (.int 0), some (.int 2), some (.int 0)]) (st1 := [.ref 138, .int 0, .int 0, .ref 146]) (M1 := (mk_M c n m kk (rT K xm xi xw im le nu rf ln nn (nI (p + 1)) [0, x1] xc vs))) (fun f => rfl) ?_
  refine mr_call (y := 133) (y0 := 48) (L := [some (.ref 138)]) (rest := [.int 0, .int 0, .ref 146]) (rr := some (.int (nI (kg le (p + 1))))) (M1 := (mk_M c n m kk (rT K xm xi xw im le nu rf ln nn (nI (p + 1)) [0, x1] xc vs))) (fun f => rfl) (mr_eq (kd_here (p + 1) [0, x1] K xm xi xw im le nu rf ln nn xc vs c n m kk hB (by omega)) (by rw [khere_t u1])) ?_
  refine mr_seg 1 (pc1 := 49) (ls1 := [some (.ref 138), some (.int 0), some (.int 2), some (.int 0)]) (st1 := [.int ((0 : Int32) + (nI (kg le (p + 1)))), .int 0, .ref 146]) (M1 := (mk_M c n m kk (rT K xm xi xw im le nu rf ln nn (nI (p + 1)) [0, x1] xc vs))) (fun f => rfl) ?_
  refine mr_v (Int32.zero_add _) ?_
  refine mr_seg 2 (pc1 := 52) (ls1 := [some (.ref 138), some (.int 0), some (.int 2), some (.int 0)]) (st1 := [.int ((nI (kg le (p + 1))) - (48 : Int32)), .int 0, .ref 146]) (M1 := (mk_M c n m kk (rT K xm xi xw im le nu rf ln nn (nI (p + 1)) [0, x1] xc vs))) (fun f => rfl) ?_
  refine mr_v (pk_sub (a := kg le (p + 1)) (b := 48) (by omega)) ?_
  refine mr_stn (xs := [0, x1]) (ys := [(nI ((kg le (p + 1)) - 48)), x1]) (M2 := (mk_MR c n m kk (er K) xm xi xw (nI im) (le.map nI) (nu.map nI) (rf.map nI) (nI ln) (nI nn) (nI (p + 1)) [(nI ((kg le (p + 1)) - 48)), x1] xc vs)) rfl rfl (k := 0) (by decide) (show 0 < 2 by decide) rfl rfl ?_
  refine mr_M (mk_MRk c n m kk K xm xi xw im le nu rf ln nn (nI (p + 1)) [(nI ((kg le (p + 1)) - 48)), x1] xc vs) ?_
  refine mr_seg 5 (pc1 := 60) (ls1 := [some (.ref 138), some (.int 0), some (.int 2), some (.int 0)]) (st1 := [.int ((nI (p + 1)) + (1 : Int32)), .ref 138]) (M1 := (mk_M c n m kk (rT K xm xi xw im le nu rf ln nn (nI (p + 1)) [(nI ((kg le (p + 1)) - 48)), x1] xc vs))) (fun f => rfl) ?_
  refine mr_v (show nI (p + 1) + nI 1 = nI (p + 2) from nI_add (p + 1) 1) ?_
  refine mr_seg 1 (pc1 := 63) (ls1 := [some (.ref 138), some (.int 0), some (.int 2), some (.int 0)]) (st1 := []) (M1 := (mk_MR c n m kk (er K) xm xi xw (nI im) (le.map nI) (nu.map nI) (rf.map nI) (nI ln) (nI nn) (nI (p + 2)) [(nI ((kg le (p + 1)) - 48)), x1] xc vs)) (fun f => rfl) ?_
  refine mr_M (mk_MRk c n m kk K xm xi xw im le nu rf ln nn (nI (p + 2)) [(nI ((kg le (p + 1)) - 48)), x1] xc vs) ?_
  refine mr_seg 6 (pc1 := 15) (ls1 := [some (.ref 138), some (.int 0), some (.int 2), some (.int 1)]) (st1 := [.ref 138]) (M1 := (mk_M c n m kk (rT K xm xi xw im le nu rf ln nn (nI (p + 2)) [(nI ((kg le (p + 1)) - 48)), x1] xc vs))) (fun f => rfl) ?_
  refine mr_call (y := 133) (y0 := 18) (L := [some (.ref 138)]) (rest := []) (rr := some (.int (nI (kg le (p + 2))))) (M1 := (mk_M c n m kk (rT K xm xi xw im le nu rf ln nn (nI (p + 2)) [(nI ((kg le (p + 1)) - 48)), x1] xc vs))) (fun f => rfl) (mr_eq (kd_here (p + 2) [(nI ((kg le (p + 1)) - 48)), x1] K xm xi xw im le nu rf ln nn xc vs c n m kk hB (by omega)) (by rw [khere_t u2])) ?_
  refine mr_seg 2 (pc1 := 22) (ls1 := [some (.ref 138), some (.int 0), some (.int 2), some (.int 1)]) (st1 := [.int 57, .int 48, .int (nI (kg le (p + 2)))]) (M1 := (mk_M c n m kk (rT K xm xi xw im le nu rf ln nn (nI (p + 2)) [(nI ((kg le (p + 1)) - 48)), x1] xc vs))) (fun f => rfl) ?_
  refine mr_call (y := 135) (y0 := 25) (L := [some (.int (nI (kg le (p + 2)))), some (.int 48), some (.int 57)]) (rest := []) (rr := some (.int 1)) (M1 := (mk_M c n m kk (rT K xm xi xw im le nu rf ln nn (nI (p + 2)) [(nI ((kg le (p + 1)) - 48)), x1] xc vs))) (fun f => rfl) (mr_eq (kd_ii (c := kg le (p + 2)) (b2 _) _) (by rw [w2] <;> rfl)) ?_
  refine mr_seg 8 (pc1 := 42) (ls1 := [some (.ref 138), some (.int 0), some (.int 2), some (.int 1)]) (st1 := [.int 0, .ref 146, .int 10, .int 0, .ref 146]) (M1 := (mk_M c n m kk (rT K xm xi xw im le nu rf ln nn (nI (p + 2)) [(nI ((kg le (p + 1)) - 48)), x1] xc vs))) (fun f => rfl) ?_
  refine mr_ldn (xs := [(nI ((kg le (p + 1)) - 48)), x1]) rfl rfl (k := 0) (by decide) rfl ?_
  refine mr_seg 1 (pc1 := 44) (ls1 := [some (.ref 138), some (.int 0), some (.int 2), some (.int 1)]) (st1 := [.int ((10 : Int32) * (nI ((kg le (p + 1)) - 48))), .int 0, .ref 146]) (M1 := (mk_M c n m kk (rT K xm xi xw im le nu rf ln nn (nI (p + 2)) [(nI ((kg le (p + 1)) - 48)), x1] xc vs))) (fun f => rfl) ?_
  refine mr_v (pk_mul 10 ((kg le (p + 1)) - 48)) ?_
  refine mr_seg 1 (pc1 := 45) (ls1 := [some (.ref 138), some (.int 0), some (.int 2), some (.int 1)]) (st1 := [.ref 138, .int (nI (10 * ((kg le (p + 1)) - 48))), .int 0, .ref 146]) (M1 := (mk_M c n m kk (rT K xm xi xw im le nu rf ln nn (nI (p + 2)) [(nI ((kg le (p + 1)) - 48)), x1] xc vs))) (fun f => rfl) ?_
  refine mr_call (y := 133) (y0 := 48) (L := [some (.ref 138)]) (rest := [.int (nI (10 * ((kg le (p + 1)) - 48))), .int 0, .ref 146]) (rr := some (.int (nI (kg le (p + 2))))) (M1 := (mk_M c n m kk (rT K xm xi xw im le nu rf ln nn (nI (p + 2)) [(nI ((kg le (p + 1)) - 48)), x1] xc vs))) (fun f => rfl) (mr_eq (kd_here (p + 2) [(nI ((kg le (p + 1)) - 48)), x1] K xm xi xw im le nu rf ln nn xc vs c n m kk hB (by omega)) (by rw [khere_t u2])) ?_
  refine mr_seg 1 (pc1 := 49) (ls1 := [some (.ref 138), some (.int 0), some (.int 2), some (.int 1)]) (st1 := [.int ((nI (10 * ((kg le (p + 1)) - 48))) + (nI (kg le (p + 2)))), .int 0, .ref 146]) (M1 := (mk_M c n m kk (rT K xm xi xw im le nu rf ln nn (nI (p + 2)) [(nI ((kg le (p + 1)) - 48)), x1] xc vs))) (fun f => rfl) ?_
  refine mr_v (nI_add (10 * ((kg le (p + 1)) - 48)) (kg le (p + 2))) ?_
  refine mr_seg 2 (pc1 := 52) (ls1 := [some (.ref 138), some (.int 0), some (.int 2), some (.int 1)]) (st1 := [.int ((nI (10 * ((kg le (p + 1)) - 48) + (kg le (p + 2)))) - (48 : Int32)), .int 0, .ref 146]) (M1 := (mk_M c n m kk (rT K xm xi xw im le nu rf ln nn (nI (p + 2)) [(nI ((kg le (p + 1)) - 48)), x1] xc vs))) (fun f => rfl) ?_
  refine mr_v (pk_sub (a := 10 * ((kg le (p + 1)) - 48) + (kg le (p + 2))) (b := 48) (by omega)) ?_
  refine mr_stn (xs := [(nI ((kg le (p + 1)) - 48)), x1]) (ys := [(nI ((10 * ((kg le (p + 1)) - 48) + (kg le (p + 2))) - 48)), x1]) (M2 := (mk_MR c n m kk (er K) xm xi xw (nI im) (le.map nI) (nu.map nI) (rf.map nI) (nI ln) (nI nn) (nI (p + 2)) [(nI ((10 * ((kg le (p + 1)) - 48) + (kg le (p + 2))) - 48)), x1] xc vs)) rfl rfl (k := 0) (by decide) (show 0 < 2 by decide) rfl rfl ?_
  refine mr_M (mk_MRk c n m kk K xm xi xw im le nu rf ln nn (nI (p + 2)) [(nI ((10 * ((kg le (p + 1)) - 48) + (kg le (p + 2))) - 48)), x1] xc vs) ?_
  refine mr_seg 5 (pc1 := 60) (ls1 := [some (.ref 138), some (.int 0), some (.int 2), some (.int 1)]) (st1 := [.int ((nI (p + 2)) + (1 : Int32)), .ref 138]) (M1 := (mk_M c n m kk (rT K xm xi xw im le nu rf ln nn (nI (p + 2)) [(nI ((10 * ((kg le (p + 1)) - 48) + (kg le (p + 2))) - 48)), x1] xc vs))) (fun f => rfl) ?_
  refine mr_v (show nI (p + 2) + nI 1 = nI (p + 3) from nI_add (p + 2) 1) ?_
  refine mr_seg 1 (pc1 := 63) (ls1 := [some (.ref 138), some (.int 0), some (.int 2), some (.int 1)]) (st1 := []) (M1 := (mk_MR c n m kk (er K) xm xi xw (nI im) (le.map nI) (nu.map nI) (rf.map nI) (nI ln) (nI nn) (nI (p + 3)) [(nI ((10 * ((kg le (p + 1)) - 48) + (kg le (p + 2))) - 48)), x1] xc vs)) (fun f => rfl) ?_
  refine mr_M (mk_MRk c n m kk K xm xi xw im le nu rf ln nn (nI (p + 3)) [(nI ((10 * ((kg le (p + 1)) - 48) + (kg le (p + 2))) - 48)), x1] xc vs) ?_
  exact mr_ret 7 (fun f => rfl)
set_option maxRecDepth 100000 in
theorem rn_021_e (K : kK) (xm xi xw : List Int32) (im : Nat) (le nu rf : List Nat) (ln nn : Nat) (xc : List Int32) (vs : Int32) (c : cC) (n m kk : kG) (p : Nat) (x0 x1 : Int32) (hB : iB le ln) (hp : p < 1000) (u1 : ¬ p + 1 < ln) : mm_R 134 0 [some (.ref 138), some (.int 0), some (.int 2), none] [] (mk_M c n m kk (rT K xm xi xw im le nu rf ln nn (nI (p + 1)) [x0, x1] xc vs)) (some (.int 0), (mk_M c n m kk (rT K xm xi xw im le nu rf ln nn (nI (p + 1)) [0, x1] xc vs))) := by
  obtain ⟨b1, b2, b3⟩ := id hB
  refine mr_seg 4 (pc1 := 6) (ls1 := [some (.ref 138), some (.int 0), some (.int 2), none]) (st1 := [.int 0, .int 0, .ref 146]) (M1 := (mk_M c n m kk (rT K xm xi xw im le nu rf ln nn (nI (p + 1)) [x0, x1] xc vs))) (fun f => rfl) ?_
  refine mr_stn (xs := [x0, x1]) (ys := [0, x1]) (M2 := (mk_MR c n m kk (er K) xm xi xw (nI im) (le.map nI) (nu.map nI) (rf.map nI) (nI ln) (nI nn) (nI (p + 1)) [0, x1] xc vs)) rfl rfl (k := 0) (by decide) (show 0 < 2 by decide) rfl rfl ?_
  refine mr_M (mk_MRk c n m kk K xm xi xw im le nu rf ln nn (nI (p + 1)) [0, x1] xc vs) ?_
  refine mr_seg 6 (pc1 := 15) (ls1 := [some (.ref 138), some (.int 0), some (.int 2), some (.int 0)]) (st1 := [.ref 138]) (M1 := (mk_M c n m kk (rT K xm xi xw im le nu rf ln nn (nI (p + 1)) [0, x1] xc vs))) (fun f => rfl) ?_
  refine mr_call (y := 133) (y0 := 18) (L := [some (.ref 138)]) (rest := []) (rr := some (.int (-1))) (M1 := (mk_M c n m kk (rT K xm xi xw im le nu rf ln nn (nI (p + 1)) [0, x1] xc vs))) (fun f => rfl) (mr_eq (kd_here (p + 1) [0, x1] K xm xi xw im le nu rf ln nn xc vs c n m kk hB (by omega)) (by rw [khere_f u1])) ?_
  refine mr_seg 2 (pc1 := 22) (ls1 := [some (.ref 138), some (.int 0), some (.int 2), some (.int 0)]) (st1 := [.int 57, .int 48, .int (-1)]) (M1 := (mk_M c n m kk (rT K xm xi xw im le nu rf ln nn (nI (p + 1)) [0, x1] xc vs))) (fun f => rfl) ?_
  refine mr_call (y := 135) (y0 := 25) (L := [some (.int (-1)), some (.int 48), some (.int 57)]) (rest := []) (rr := some (.int 0)) (M1 := (mk_M c n m kk (rT K xm xi xw im le nu rf ln nn (nI (p + 1)) [0, x1] xc vs))) (fun f => rfl) (by
      exact mr_ret 5 (fun f => rfl)) ?_
  exact mr_ret 3 (fun f => rfl)
set_option maxRecDepth 100000 in
theorem rn_021_b (K : kK) (xm xi xw : List Int32) (im : Nat) (le nu rf : List Nat) (ln nn : Nat) (xc : List Int32) (vs : Int32) (c : cC) (n m kk : kG) (p : Nat) (x0 x1 : Int32) (hB : iB le ln) (hp : p < 1000) (u1 : p + 1 < ln) (w1 : kfit 57 (kg le (p + 1)) = false) : mm_R 134 0 [some (.ref 138), some (.int 0), some (.int 2), none] [] (mk_M c n m kk (rT K xm xi xw im le nu rf ln nn (nI (p + 1)) [x0, x1] xc vs)) (some (.int 0), (mk_M c n m kk (rT K xm xi xw im le nu rf ln nn (nI (p + 1)) [0, x1] xc vs))) := by
  obtain ⟨b1, b2, b3⟩ := id hB
  have e1 := b2 (p + 1)
  refine mr_seg 4 (pc1 := 6) (ls1 := [some (.ref 138), some (.int 0), some (.int 2), none]) (st1 := [.int 0, .int 0, .ref 146]) (M1 := (mk_M c n m kk (rT K xm xi xw im le nu rf ln nn (nI (p + 1)) [x0, x1] xc vs))) (fun f => rfl) ?_
  refine mr_stn (xs := [x0, x1]) (ys := [0, x1]) (M2 := (mk_MR c n m kk (er K) xm xi xw (nI im) (le.map nI) (nu.map nI) (rf.map nI) (nI ln) (nI nn) (nI (p + 1)) [0, x1] xc vs)) rfl rfl (k := 0) (by decide) (show 0 < 2 by decide) rfl rfl ?_
  refine mr_M (mk_MRk c n m kk K xm xi xw im le nu rf ln nn (nI (p + 1)) [0, x1] xc vs) ?_
  refine mr_seg 6 (pc1 := 15) (ls1 := [some (.ref 138), some (.int 0), some (.int 2), some (.int 0)]) (st1 := [.ref 138]) (M1 := (mk_M c n m kk (rT K xm xi xw im le nu rf ln nn (nI (p + 1)) [0, x1] xc vs))) (fun f => rfl) ?_
  refine mr_call (y := 133) (y0 := 18) (L := [some (.ref 138)]) (rest := []) (rr := some (.int (nI (kg le (p + 1))))) (M1 := (mk_M c n m kk (rT K xm xi xw im le nu rf ln nn (nI (p + 1)) [0, x1] xc vs))) (fun f => rfl) (mr_eq (kd_here (p + 1) [0, x1] K xm xi xw im le nu rf ln nn xc vs c n m kk hB (by omega)) (by rw [khere_t u1])) ?_
  refine mr_seg 2 (pc1 := 22) (ls1 := [some (.ref 138), some (.int 0), some (.int 2), some (.int 0)]) (st1 := [.int 57, .int 48, .int (nI (kg le (p + 1)))]) (M1 := (mk_M c n m kk (rT K xm xi xw im le nu rf ln nn (nI (p + 1)) [0, x1] xc vs))) (fun f => rfl) ?_
  refine mr_call (y := 135) (y0 := 25) (L := [some (.int (nI (kg le (p + 1)))), some (.int 48), some (.int 57)]) (rest := []) (rr := some (.int 0)) (M1 := (mk_M c n m kk (rT K xm xi xw im le nu rf ln nn (nI (p + 1)) [0, x1] xc vs))) (fun f => rfl) (mr_eq (kd_ii (c := kg le (p + 1)) (b2 _) _) (by rw [w1] <;> rfl)) ?_
  exact mr_ret 3 (fun f => rfl)
set_option maxRecDepth 100000 in
theorem rn_021_fe (K : kK) (xm xi xw : List Int32) (im : Nat) (le nu rf : List Nat) (ln nn : Nat) (xc : List Int32) (vs : Int32) (c : cC) (n m kk : kG) (p : Nat) (x0 x1 : Int32) (hB : iB le ln) (hp : p < 1000) (u1 : p + 1 < ln) (w1 : kfit 57 (kg le (p + 1)) = true) (u2 : ¬ p + 2 < ln) : mm_R 134 0 [some (.ref 138), some (.int 0), some (.int 2), none] [] (mk_M c n m kk (rT K xm xi xw im le nu rf ln nn (nI (p + 1)) [x0, x1] xc vs)) (some (.int 0), (mk_M c n m kk (rT K xm xi xw im le nu rf ln nn (nI (p + 2)) [(nI ((kg le (p + 1)) - 48)), x1] xc vs))) := by
  obtain ⟨b1, b2, b3⟩ := id hB
  have e1 := b2 (p + 1)
  have f1 := kfit_9.mp w1
  refine mr_seg 4 (pc1 := 6) (ls1 := [some (.ref 138), some (.int 0), some (.int 2), none]) (st1 := [.int 0, .int 0, .ref 146]) (M1 := (mk_M c n m kk (rT K xm xi xw im le nu rf ln nn (nI (p + 1)) [x0, x1] xc vs))) (fun f => rfl) ?_
  refine mr_stn (xs := [x0, x1]) (ys := [0, x1]) (M2 := (mk_MR c n m kk (er K) xm xi xw (nI im) (le.map nI) (nu.map nI) (rf.map nI) (nI ln) (nI nn) (nI (p + 1)) [0, x1] xc vs)) rfl rfl (k := 0) (by decide) (show 0 < 2 by decide) rfl rfl ?_
  refine mr_M (mk_MRk c n m kk K xm xi xw im le nu rf ln nn (nI (p + 1)) [0, x1] xc vs) ?_
  refine mr_seg 6 (pc1 := 15) (ls1 := [some (.ref 138), some (.int 0), some (.int 2), some (.int 0)]) (st1 := [.ref 138]) (M1 := (mk_M c n m kk (rT K xm xi xw im le nu rf ln nn (nI (p + 1)) [0, x1] xc vs))) (fun f => rfl) ?_
  refine mr_call (y := 133) (y0 := 18) (L := [some (.ref 138)]) (rest := []) (rr := some (.int (nI (kg le (p + 1))))) (M1 := (mk_M c n m kk (rT K xm xi xw im le nu rf ln nn (nI (p + 1)) [0, x1] xc vs))) (fun f => rfl) (mr_eq (kd_here (p + 1) [0, x1] K xm xi xw im le nu rf ln nn xc vs c n m kk hB (by omega)) (by rw [khere_t u1])) ?_
  refine mr_seg 2 (pc1 := 22) (ls1 := [some (.ref 138), some (.int 0), some (.int 2), some (.int 0)]) (st1 := [.int 57, .int 48, .int (nI (kg le (p + 1)))]) (M1 := (mk_M c n m kk (rT K xm xi xw im le nu rf ln nn (nI (p + 1)) [0, x1] xc vs))) (fun f => rfl) ?_
  refine mr_call (y := 135) (y0 := 25) (L := [some (.int (nI (kg le (p + 1)))), some (.int 48), some (.int 57)]) (rest := []) (rr := some (.int 1)) (M1 := (mk_M c n m kk (rT K xm xi xw im le nu rf ln nn (nI (p + 1)) [0, x1] xc vs))) (fun f => rfl) (mr_eq (kd_ii (c := kg le (p + 1)) (b2 _) _) (by rw [w1] <;> rfl)) ?_
  refine mr_seg 8 (pc1 := 42) (ls1 := [some (.ref 138), some (.int 0), some (.int 2), some (.int 0)]) (st1 := [.int 0, .ref 146, .int 10, .int 0, .ref 146]) (M1 := (mk_M c n m kk (rT K xm xi xw im le nu rf ln nn (nI (p + 1)) [0, x1] xc vs))) (fun f => rfl) ?_
  refine mr_ldn (xs := [0, x1]) rfl rfl (k := 0) (by decide) rfl ?_
  refine mr_seg 2 (pc1 := 45) (ls1 := [some (.ref 138), some (.int 0), some (.int 2), some (.int 0)]) (st1 := [.ref 138, .int 0, .int 0, .ref 146]) (M1 := (mk_M c n m kk (rT K xm xi xw im le nu rf ln nn (nI (p + 1)) [0, x1] xc vs))) (fun f => rfl) ?_
  refine mr_call (y := 133) (y0 := 48) (L := [some (.ref 138)]) (rest := [.int 0, .int 0, .ref 146]) (rr := some (.int (nI (kg le (p + 1))))) (M1 := (mk_M c n m kk (rT K xm xi xw im le nu rf ln nn (nI (p + 1)) [0, x1] xc vs))) (fun f => rfl) (mr_eq (kd_here (p + 1) [0, x1] K xm xi xw im le nu rf ln nn xc vs c n m kk hB (by omega)) (by rw [khere_t u1])) ?_
  refine mr_seg 1 (pc1 := 49) (ls1 := [some (.ref 138), some (.int 0), some (.int 2), some (.int 0)]) (st1 := [.int ((0 : Int32) + (nI (kg le (p + 1)))), .int 0, .ref 146]) (M1 := (mk_M c n m kk (rT K xm xi xw im le nu rf ln nn (nI (p + 1)) [0, x1] xc vs))) (fun f => rfl) ?_
  refine mr_v (Int32.zero_add _) ?_
  refine mr_seg 2 (pc1 := 52) (ls1 := [some (.ref 138), some (.int 0), some (.int 2), some (.int 0)]) (st1 := [.int ((nI (kg le (p + 1))) - (48 : Int32)), .int 0, .ref 146]) (M1 := (mk_M c n m kk (rT K xm xi xw im le nu rf ln nn (nI (p + 1)) [0, x1] xc vs))) (fun f => rfl) ?_
  refine mr_v (pk_sub (a := kg le (p + 1)) (b := 48) (by omega)) ?_
  refine mr_stn (xs := [0, x1]) (ys := [(nI ((kg le (p + 1)) - 48)), x1]) (M2 := (mk_MR c n m kk (er K) xm xi xw (nI im) (le.map nI) (nu.map nI) (rf.map nI) (nI ln) (nI nn) (nI (p + 1)) [(nI ((kg le (p + 1)) - 48)), x1] xc vs)) rfl rfl (k := 0) (by decide) (show 0 < 2 by decide) rfl rfl ?_
  refine mr_M (mk_MRk c n m kk K xm xi xw im le nu rf ln nn (nI (p + 1)) [(nI ((kg le (p + 1)) - 48)), x1] xc vs) ?_
  refine mr_seg 5 (pc1 := 60) (ls1 := [some (.ref 138), some (.int 0), some (.int 2), some (.int 0)]) (st1 := [.int ((nI (p + 1)) + (1 : Int32)), .ref 138]) (M1 := (mk_M c n m kk (rT K xm xi xw im le nu rf ln nn (nI (p + 1)) [(nI ((kg le (p + 1)) - 48)), x1] xc vs))) (fun f => rfl) ?_
  refine mr_v (show nI (p + 1) + nI 1 = nI (p + 2) from nI_add (p + 1) 1) ?_
  refine mr_seg 1 (pc1 := 63) (ls1 := [some (.ref 138), some (.int 0), some (.int 2), some (.int 0)]) (st1 := []) (M1 := (mk_MR c n m kk (er K) xm xi xw (nI im) (le.map nI) (nu.map nI) (rf.map nI) (nI ln) (nI nn) (nI (p + 2)) [(nI ((kg le (p + 1)) - 48)), x1] xc vs)) (fun f => rfl) ?_
  refine mr_M (mk_MRk c n m kk K xm xi xw im le nu rf ln nn (nI (p + 2)) [(nI ((kg le (p + 1)) - 48)), x1] xc vs) ?_
  refine mr_seg 6 (pc1 := 15) (ls1 := [some (.ref 138), some (.int 0), some (.int 2), some (.int 1)]) (st1 := [.ref 138]) (M1 := (mk_M c n m kk (rT K xm xi xw im le nu rf ln nn (nI (p + 2)) [(nI ((kg le (p + 1)) - 48)), x1] xc vs))) (fun f => rfl) ?_
  refine mr_call (y := 133) (y0 := 18) (L := [some (.ref 138)]) (rest := []) (rr := some (.int (-1))) (M1 := (mk_M c n m kk (rT K xm xi xw im le nu rf ln nn (nI (p + 2)) [(nI ((kg le (p + 1)) - 48)), x1] xc vs))) (fun f => rfl) (mr_eq (kd_here (p + 2) [(nI ((kg le (p + 1)) - 48)), x1] K xm xi xw im le nu rf ln nn xc vs c n m kk hB (by omega)) (by rw [khere_f u2])) ?_
  refine mr_seg 2 (pc1 := 22) (ls1 := [some (.ref 138), some (.int 0), some (.int 2), some (.int 1)]) (st1 := [.int 57, .int 48, .int (-1)]) (M1 := (mk_M c n m kk (rT K xm xi xw im le nu rf ln nn (nI (p + 2)) [(nI ((kg le (p + 1)) - 48)), x1] xc vs))) (fun f => rfl) ?_
  refine mr_call (y := 135) (y0 := 25) (L := [some (.int (-1)), some (.int 48), some (.int 57)]) (rest := []) (rr := some (.int 0)) (M1 := (mk_M c n m kk (rT K xm xi xw im le nu rf ln nn (nI (p + 2)) [(nI ((kg le (p + 1)) - 48)), x1] xc vs))) (fun f => rfl) (by
      exact mr_ret 5 (fun f => rfl)) ?_
  exact mr_ret 3 (fun f => rfl)
set_option maxRecDepth 100000 in
theorem rn_021_fb (K : kK) (xm xi xw : List Int32) (im : Nat) (le nu rf : List Nat) (ln nn : Nat) (xc : List Int32) (vs : Int32) (c : cC) (n m kk : kG) (p : Nat) (x0 x1 : Int32) (hB : iB le ln) (hp : p < 1000) (u1 : p + 1 < ln) (w1 : kfit 57 (kg le (p + 1)) = true) (u2 : p + 2 < ln) (w2 : kfit 57 (kg le (p + 2)) = false) : mm_R 134 0 [some (.ref 138), some (.int 0), some (.int 2), none] [] (mk_M c n m kk (rT K xm xi xw im le nu rf ln nn (nI (p + 1)) [x0, x1] xc vs)) (some (.int 0), (mk_M c n m kk (rT K xm xi xw im le nu rf ln nn (nI (p + 2)) [(nI ((kg le (p + 1)) - 48)), x1] xc vs))) := by
  obtain ⟨b1, b2, b3⟩ := id hB
  have e1 := b2 (p + 1)
  have f1 := kfit_9.mp w1
  have e2 := b2 (p + 2)
  refine mr_seg 4 (pc1 := 6) (ls1 := [some (.ref 138), some (.int 0), some (.int 2), none]) (st1 := [.int 0, .int 0, .ref 146]) (M1 := (mk_M c n m kk (rT K xm xi xw im le nu rf ln nn (nI (p + 1)) [x0, x1] xc vs))) (fun f => rfl) ?_
  refine mr_stn (xs := [x0, x1]) (ys := [0, x1]) (M2 := (mk_MR c n m kk (er K) xm xi xw (nI im) (le.map nI) (nu.map nI) (rf.map nI) (nI ln) (nI nn) (nI (p + 1)) [0, x1] xc vs)) rfl rfl (k := 0) (by decide) (show 0 < 2 by decide) rfl rfl ?_
  refine mr_M (mk_MRk c n m kk K xm xi xw im le nu rf ln nn (nI (p + 1)) [0, x1] xc vs) ?_
  refine mr_seg 6 (pc1 := 15) (ls1 := [some (.ref 138), some (.int 0), some (.int 2), some (.int 0)]) (st1 := [.ref 138]) (M1 := (mk_M c n m kk (rT K xm xi xw im le nu rf ln nn (nI (p + 1)) [0, x1] xc vs))) (fun f => rfl) ?_
  refine mr_call (y := 133) (y0 := 18) (L := [some (.ref 138)]) (rest := []) (rr := some (.int (nI (kg le (p + 1))))) (M1 := (mk_M c n m kk (rT K xm xi xw im le nu rf ln nn (nI (p + 1)) [0, x1] xc vs))) (fun f => rfl) (mr_eq (kd_here (p + 1) [0, x1] K xm xi xw im le nu rf ln nn xc vs c n m kk hB (by omega)) (by rw [khere_t u1])) ?_
  refine mr_seg 2 (pc1 := 22) (ls1 := [some (.ref 138), some (.int 0), some (.int 2), some (.int 0)]) (st1 := [.int 57, .int 48, .int (nI (kg le (p + 1)))]) (M1 := (mk_M c n m kk (rT K xm xi xw im le nu rf ln nn (nI (p + 1)) [0, x1] xc vs))) (fun f => rfl) ?_
  refine mr_call (y := 135) (y0 := 25) (L := [some (.int (nI (kg le (p + 1)))), some (.int 48), some (.int 57)]) (rest := []) (rr := some (.int 1)) (M1 := (mk_M c n m kk (rT K xm xi xw im le nu rf ln nn (nI (p + 1)) [0, x1] xc vs))) (fun f => rfl) (mr_eq (kd_ii (c := kg le (p + 1)) (b2 _) _) (by rw [w1] <;> rfl)) ?_
  refine mr_seg 8 (pc1 := 42) (ls1 := [some (.ref 138), some (.int 0), some (.int 2), some (.int 0)]) (st1 := [.int 0, .ref 146, .int 10, .int 0, .ref 146]) (M1 := (mk_M c n m kk (rT K xm xi xw im le nu rf ln nn (nI (p + 1)) [0, x1] xc vs))) (fun f => rfl) ?_
  refine mr_ldn (xs := [0, x1]) rfl rfl (k := 0) (by decide) rfl ?_
  refine mr_seg 2 (pc1 := 45) (ls1 := [some (.ref 138), some (.int 0), some (.int 2), some (.int 0)]) (st1 := [.ref 138, .int 0, .int 0, .ref 146]) (M1 := (mk_M c n m kk (rT K xm xi xw im le nu rf ln nn (nI (p + 1)) [0, x1] xc vs))) (fun f => rfl) ?_
  refine mr_call (y := 133) (y0 := 48) (L := [some (.ref 138)]) (rest := [.int 0, .int 0, .ref 146]) (rr := some (.int (nI (kg le (p + 1))))) (M1 := (mk_M c n m kk (rT K xm xi xw im le nu rf ln nn (nI (p + 1)) [0, x1] xc vs))) (fun f => rfl) (mr_eq (kd_here (p + 1) [0, x1] K xm xi xw im le nu rf ln nn xc vs c n m kk hB (by omega)) (by rw [khere_t u1])) ?_
  refine mr_seg 1 (pc1 := 49) (ls1 := [some (.ref 138), some (.int 0), some (.int 2), some (.int 0)]) (st1 := [.int ((0 : Int32) + (nI (kg le (p + 1)))), .int 0, .ref 146]) (M1 := (mk_M c n m kk (rT K xm xi xw im le nu rf ln nn (nI (p + 1)) [0, x1] xc vs))) (fun f => rfl) ?_
  refine mr_v (Int32.zero_add _) ?_
  refine mr_seg 2 (pc1 := 52) (ls1 := [some (.ref 138), some (.int 0), some (.int 2), some (.int 0)]) (st1 := [.int ((nI (kg le (p + 1))) - (48 : Int32)), .int 0, .ref 146]) (M1 := (mk_M c n m kk (rT K xm xi xw im le nu rf ln nn (nI (p + 1)) [0, x1] xc vs))) (fun f => rfl) ?_
  refine mr_v (pk_sub (a := kg le (p + 1)) (b := 48) (by omega)) ?_
  refine mr_stn (xs := [0, x1]) (ys := [(nI ((kg le (p + 1)) - 48)), x1]) (M2 := (mk_MR c n m kk (er K) xm xi xw (nI im) (le.map nI) (nu.map nI) (rf.map nI) (nI ln) (nI nn) (nI (p + 1)) [(nI ((kg le (p + 1)) - 48)), x1] xc vs)) rfl rfl (k := 0) (by decide) (show 0 < 2 by decide) rfl rfl ?_
  refine mr_M (mk_MRk c n m kk K xm xi xw im le nu rf ln nn (nI (p + 1)) [(nI ((kg le (p + 1)) - 48)), x1] xc vs) ?_
  refine mr_seg 5 (pc1 := 60) (ls1 := [some (.ref 138), some (.int 0), some (.int 2), some (.int 0)]) (st1 := [.int ((nI (p + 1)) + (1 : Int32)), .ref 138]) (M1 := (mk_M c n m kk (rT K xm xi xw im le nu rf ln nn (nI (p + 1)) [(nI ((kg le (p + 1)) - 48)), x1] xc vs))) (fun f => rfl) ?_
  refine mr_v (show nI (p + 1) + nI 1 = nI (p + 2) from nI_add (p + 1) 1) ?_
  refine mr_seg 1 (pc1 := 63) (ls1 := [some (.ref 138), some (.int 0), some (.int 2), some (.int 0)]) (st1 := []) (M1 := (mk_MR c n m kk (er K) xm xi xw (nI im) (le.map nI) (nu.map nI) (rf.map nI) (nI ln) (nI nn) (nI (p + 2)) [(nI ((kg le (p + 1)) - 48)), x1] xc vs)) (fun f => rfl) ?_
  refine mr_M (mk_MRk c n m kk K xm xi xw im le nu rf ln nn (nI (p + 2)) [(nI ((kg le (p + 1)) - 48)), x1] xc vs) ?_
  refine mr_seg 6 (pc1 := 15) (ls1 := [some (.ref 138), some (.int 0), some (.int 2), some (.int 1)]) (st1 := [.ref 138]) (M1 := (mk_M c n m kk (rT K xm xi xw im le nu rf ln nn (nI (p + 2)) [(nI ((kg le (p + 1)) - 48)), x1] xc vs))) (fun f => rfl) ?_
  refine mr_call (y := 133) (y0 := 18) (L := [some (.ref 138)]) (rest := []) (rr := some (.int (nI (kg le (p + 2))))) (M1 := (mk_M c n m kk (rT K xm xi xw im le nu rf ln nn (nI (p + 2)) [(nI ((kg le (p + 1)) - 48)), x1] xc vs))) (fun f => rfl) (mr_eq (kd_here (p + 2) [(nI ((kg le (p + 1)) - 48)), x1] K xm xi xw im le nu rf ln nn xc vs c n m kk hB (by omega)) (by rw [khere_t u2])) ?_
  refine mr_seg 2 (pc1 := 22) (ls1 := [some (.ref 138), some (.int 0), some (.int 2), some (.int 1)]) (st1 := [.int 57, .int 48, .int (nI (kg le (p + 2)))]) (M1 := (mk_M c n m kk (rT K xm xi xw im le nu rf ln nn (nI (p + 2)) [(nI ((kg le (p + 1)) - 48)), x1] xc vs))) (fun f => rfl) ?_
  refine mr_call (y := 135) (y0 := 25) (L := [some (.int (nI (kg le (p + 2)))), some (.int 48), some (.int 57)]) (rest := []) (rr := some (.int 0)) (M1 := (mk_M c n m kk (rT K xm xi xw im le nu rf ln nn (nI (p + 2)) [(nI ((kg le (p + 1)) - 48)), x1] xc vs))) (fun f => rfl) (mr_eq (kd_ii (c := kg le (p + 2)) (b2 _) _) (by rw [w2] <;> rfl)) ?_
  exact mr_ret 3 (fun f => rfl)
set_option maxRecDepth 100000 in
theorem rn_113_f (K : kK) (xm xi xw : List Int32) (im : Nat) (le nu rf : List Nat) (ln nn : Nat) (xc : List Int32) (vs : Int32) (c : cC) (n m kk : kG) (p : Nat) (x0 x1 : Int32) (hB : iB le ln) (hp : p < 1000) (u3 : p + 3 < ln) (w3 : kfit 57 (kg le (p + 3)) = true) : mm_R 134 0 [some (.ref 138), some (.int 1), some (.int 1), none] [] (mk_M c n m kk (rT K xm xi xw im le nu rf ln nn (nI (p + 3)) [x0, x1] xc vs)) (some (.int 1), (mk_M c n m kk (rT K xm xi xw im le nu rf ln nn (nI (p + 4)) [x0, (nI ((kg le (p + 3)) - 48))] xc vs))) := by
  obtain ⟨b1, b2, b3⟩ := id hB
  have e3 := b2 (p + 3)
  have f3 := kfit_9.mp w3
  refine mr_seg 4 (pc1 := 6) (ls1 := [some (.ref 138), some (.int 1), some (.int 1), none]) (st1 := [.int 0, .int 1, .ref 146]) (M1 := (mk_M c n m kk (rT K xm xi xw im le nu rf ln nn (nI (p + 3)) [x0, x1] xc vs))) (fun f => rfl) ?_
  refine mr_stn (xs := [x0, x1]) (ys := [x0, 0]) (M2 := (mk_MR c n m kk (er K) xm xi xw (nI im) (le.map nI) (nu.map nI) (rf.map nI) (nI ln) (nI nn) (nI (p + 3)) [x0, 0] xc vs)) rfl rfl (k := 1) (by decide) (show 1 < 2 by decide) rfl rfl ?_
  refine mr_M (mk_MRk c n m kk K xm xi xw im le nu rf ln nn (nI (p + 3)) [x0, 0] xc vs) ?_
  refine mr_seg 6 (pc1 := 15) (ls1 := [some (.ref 138), some (.int 1), some (.int 1), some (.int 0)]) (st1 := [.ref 138]) (M1 := (mk_M c n m kk (rT K xm xi xw im le nu rf ln nn (nI (p + 3)) [x0, 0] xc vs))) (fun f => rfl) ?_
  refine mr_call (y := 133) (y0 := 18) (L := [some (.ref 138)]) (rest := []) (rr := some (.int (nI (kg le (p + 3))))) (M1 := (mk_M c n m kk (rT K xm xi xw im le nu rf ln nn (nI (p + 3)) [x0, 0] xc vs))) (fun f => rfl) (mr_eq (kd_here (p + 3) [x0, 0] K xm xi xw im le nu rf ln nn xc vs c n m kk hB (by omega)) (by rw [khere_t u3])) ?_
  refine mr_seg 2 (pc1 := 22) (ls1 := [some (.ref 138), some (.int 1), some (.int 1), some (.int 0)]) (st1 := [.int 57, .int 48, .int (nI (kg le (p + 3)))]) (M1 := (mk_M c n m kk (rT K xm xi xw im le nu rf ln nn (nI (p + 3)) [x0, 0] xc vs))) (fun f => rfl) ?_
  refine mr_call (y := 135) (y0 := 25) (L := [some (.int (nI (kg le (p + 3)))), some (.int 48), some (.int 57)]) (rest := []) (rr := some (.int 1)) (M1 := (mk_M c n m kk (rT K xm xi xw im le nu rf ln nn (nI (p + 3)) [x0, 0] xc vs))) (fun f => rfl) (mr_eq (kd_ii (c := kg le (p + 3)) (b2 _) _) (by rw [w3] <;> rfl)) ?_
  refine mr_seg 8 (pc1 := 42) (ls1 := [some (.ref 138), some (.int 1), some (.int 1), some (.int 0)]) (st1 := [.int 1, .ref 146, .int 10, .int 1, .ref 146]) (M1 := (mk_M c n m kk (rT K xm xi xw im le nu rf ln nn (nI (p + 3)) [x0, 0] xc vs))) (fun f => rfl) ?_
  refine mr_ldn (xs := [x0, 0]) rfl rfl (k := 1) (by decide) rfl ?_
  refine mr_seg 2 (pc1 := 45) (ls1 := [some (.ref 138), some (.int 1), some (.int 1), some (.int 0)]) (st1 := [.ref 138, .int 0, .int 1, .ref 146]) (M1 := (mk_M c n m kk (rT K xm xi xw im le nu rf ln nn (nI (p + 3)) [x0, 0] xc vs))) (fun f => rfl) ?_
  refine mr_call (y := 133) (y0 := 48) (L := [some (.ref 138)]) (rest := [.int 0, .int 1, .ref 146]) (rr := some (.int (nI (kg le (p + 3))))) (M1 := (mk_M c n m kk (rT K xm xi xw im le nu rf ln nn (nI (p + 3)) [x0, 0] xc vs))) (fun f => rfl) (mr_eq (kd_here (p + 3) [x0, 0] K xm xi xw im le nu rf ln nn xc vs c n m kk hB (by omega)) (by rw [khere_t u3])) ?_
  refine mr_seg 1 (pc1 := 49) (ls1 := [some (.ref 138), some (.int 1), some (.int 1), some (.int 0)]) (st1 := [.int ((0 : Int32) + (nI (kg le (p + 3)))), .int 1, .ref 146]) (M1 := (mk_M c n m kk (rT K xm xi xw im le nu rf ln nn (nI (p + 3)) [x0, 0] xc vs))) (fun f => rfl) ?_
  refine mr_v (Int32.zero_add _) ?_
  refine mr_seg 2 (pc1 := 52) (ls1 := [some (.ref 138), some (.int 1), some (.int 1), some (.int 0)]) (st1 := [.int ((nI (kg le (p + 3))) - (48 : Int32)), .int 1, .ref 146]) (M1 := (mk_M c n m kk (rT K xm xi xw im le nu rf ln nn (nI (p + 3)) [x0, 0] xc vs))) (fun f => rfl) ?_
  refine mr_v (pk_sub (a := kg le (p + 3)) (b := 48) (by omega)) ?_
  refine mr_stn (xs := [x0, 0]) (ys := [x0, (nI ((kg le (p + 3)) - 48))]) (M2 := (mk_MR c n m kk (er K) xm xi xw (nI im) (le.map nI) (nu.map nI) (rf.map nI) (nI ln) (nI nn) (nI (p + 3)) [x0, (nI ((kg le (p + 3)) - 48))] xc vs)) rfl rfl (k := 1) (by decide) (show 1 < 2 by decide) rfl rfl ?_
  refine mr_M (mk_MRk c n m kk K xm xi xw im le nu rf ln nn (nI (p + 3)) [x0, (nI ((kg le (p + 3)) - 48))] xc vs) ?_
  refine mr_seg 5 (pc1 := 60) (ls1 := [some (.ref 138), some (.int 1), some (.int 1), some (.int 0)]) (st1 := [.int ((nI (p + 3)) + (1 : Int32)), .ref 138]) (M1 := (mk_M c n m kk (rT K xm xi xw im le nu rf ln nn (nI (p + 3)) [x0, (nI ((kg le (p + 3)) - 48))] xc vs))) (fun f => rfl) ?_
  refine mr_v (show nI (p + 3) + nI 1 = nI (p + 4) from nI_add (p + 3) 1) ?_
  refine mr_seg 1 (pc1 := 63) (ls1 := [some (.ref 138), some (.int 1), some (.int 1), some (.int 0)]) (st1 := []) (M1 := (mk_MR c n m kk (er K) xm xi xw (nI im) (le.map nI) (nu.map nI) (rf.map nI) (nI ln) (nI nn) (nI (p + 4)) [x0, (nI ((kg le (p + 3)) - 48))] xc vs)) (fun f => rfl) ?_
  refine mr_M (mk_MRk c n m kk K xm xi xw im le nu rf ln nn (nI (p + 4)) [x0, (nI ((kg le (p + 3)) - 48))] xc vs) ?_
  exact mr_ret 7 (fun f => rfl)
set_option maxRecDepth 100000 in
theorem rn_113_e (K : kK) (xm xi xw : List Int32) (im : Nat) (le nu rf : List Nat) (ln nn : Nat) (xc : List Int32) (vs : Int32) (c : cC) (n m kk : kG) (p : Nat) (x0 x1 : Int32) (hB : iB le ln) (hp : p < 1000) (u3 : ¬ p + 3 < ln) : mm_R 134 0 [some (.ref 138), some (.int 1), some (.int 1), none] [] (mk_M c n m kk (rT K xm xi xw im le nu rf ln nn (nI (p + 3)) [x0, x1] xc vs)) (some (.int 0), (mk_M c n m kk (rT K xm xi xw im le nu rf ln nn (nI (p + 3)) [x0, 0] xc vs))) := by
  obtain ⟨b1, b2, b3⟩ := id hB
  refine mr_seg 4 (pc1 := 6) (ls1 := [some (.ref 138), some (.int 1), some (.int 1), none]) (st1 := [.int 0, .int 1, .ref 146]) (M1 := (mk_M c n m kk (rT K xm xi xw im le nu rf ln nn (nI (p + 3)) [x0, x1] xc vs))) (fun f => rfl) ?_
  refine mr_stn (xs := [x0, x1]) (ys := [x0, 0]) (M2 := (mk_MR c n m kk (er K) xm xi xw (nI im) (le.map nI) (nu.map nI) (rf.map nI) (nI ln) (nI nn) (nI (p + 3)) [x0, 0] xc vs)) rfl rfl (k := 1) (by decide) (show 1 < 2 by decide) rfl rfl ?_
  refine mr_M (mk_MRk c n m kk K xm xi xw im le nu rf ln nn (nI (p + 3)) [x0, 0] xc vs) ?_
  refine mr_seg 6 (pc1 := 15) (ls1 := [some (.ref 138), some (.int 1), some (.int 1), some (.int 0)]) (st1 := [.ref 138]) (M1 := (mk_M c n m kk (rT K xm xi xw im le nu rf ln nn (nI (p + 3)) [x0, 0] xc vs))) (fun f => rfl) ?_
  refine mr_call (y := 133) (y0 := 18) (L := [some (.ref 138)]) (rest := []) (rr := some (.int (-1))) (M1 := (mk_M c n m kk (rT K xm xi xw im le nu rf ln nn (nI (p + 3)) [x0, 0] xc vs))) (fun f => rfl) (mr_eq (kd_here (p + 3) [x0, 0] K xm xi xw im le nu rf ln nn xc vs c n m kk hB (by omega)) (by rw [khere_f u3])) ?_
  refine mr_seg 2 (pc1 := 22) (ls1 := [some (.ref 138), some (.int 1), some (.int 1), some (.int 0)]) (st1 := [.int 57, .int 48, .int (-1)]) (M1 := (mk_M c n m kk (rT K xm xi xw im le nu rf ln nn (nI (p + 3)) [x0, 0] xc vs))) (fun f => rfl) ?_
  refine mr_call (y := 135) (y0 := 25) (L := [some (.int (-1)), some (.int 48), some (.int 57)]) (rest := []) (rr := some (.int 0)) (M1 := (mk_M c n m kk (rT K xm xi xw im le nu rf ln nn (nI (p + 3)) [x0, 0] xc vs))) (fun f => rfl) (by
      exact mr_ret 5 (fun f => rfl)) ?_
  exact mr_ret 3 (fun f => rfl)
set_option maxRecDepth 100000 in
theorem rn_113_b (K : kK) (xm xi xw : List Int32) (im : Nat) (le nu rf : List Nat) (ln nn : Nat) (xc : List Int32) (vs : Int32) (c : cC) (n m kk : kG) (p : Nat) (x0 x1 : Int32) (hB : iB le ln) (hp : p < 1000) (u3 : p + 3 < ln) (w3 : kfit 57 (kg le (p + 3)) = false) : mm_R 134 0 [some (.ref 138), some (.int 1), some (.int 1), none] [] (mk_M c n m kk (rT K xm xi xw im le nu rf ln nn (nI (p + 3)) [x0, x1] xc vs)) (some (.int 0), (mk_M c n m kk (rT K xm xi xw im le nu rf ln nn (nI (p + 3)) [x0, 0] xc vs))) := by
  obtain ⟨b1, b2, b3⟩ := id hB
  have e3 := b2 (p + 3)
  refine mr_seg 4 (pc1 := 6) (ls1 := [some (.ref 138), some (.int 1), some (.int 1), none]) (st1 := [.int 0, .int 1, .ref 146]) (M1 := (mk_M c n m kk (rT K xm xi xw im le nu rf ln nn (nI (p + 3)) [x0, x1] xc vs))) (fun f => rfl) ?_
  refine mr_stn (xs := [x0, x1]) (ys := [x0, 0]) (M2 := (mk_MR c n m kk (er K) xm xi xw (nI im) (le.map nI) (nu.map nI) (rf.map nI) (nI ln) (nI nn) (nI (p + 3)) [x0, 0] xc vs)) rfl rfl (k := 1) (by decide) (show 1 < 2 by decide) rfl rfl ?_
  refine mr_M (mk_MRk c n m kk K xm xi xw im le nu rf ln nn (nI (p + 3)) [x0, 0] xc vs) ?_
  refine mr_seg 6 (pc1 := 15) (ls1 := [some (.ref 138), some (.int 1), some (.int 1), some (.int 0)]) (st1 := [.ref 138]) (M1 := (mk_M c n m kk (rT K xm xi xw im le nu rf ln nn (nI (p + 3)) [x0, 0] xc vs))) (fun f => rfl) ?_
  refine mr_call (y := 133) (y0 := 18) (L := [some (.ref 138)]) (rest := []) (rr := some (.int (nI (kg le (p + 3))))) (M1 := (mk_M c n m kk (rT K xm xi xw im le nu rf ln nn (nI (p + 3)) [x0, 0] xc vs))) (fun f => rfl) (mr_eq (kd_here (p + 3) [x0, 0] K xm xi xw im le nu rf ln nn xc vs c n m kk hB (by omega)) (by rw [khere_t u3])) ?_
  refine mr_seg 2 (pc1 := 22) (ls1 := [some (.ref 138), some (.int 1), some (.int 1), some (.int 0)]) (st1 := [.int 57, .int 48, .int (nI (kg le (p + 3)))]) (M1 := (mk_M c n m kk (rT K xm xi xw im le nu rf ln nn (nI (p + 3)) [x0, 0] xc vs))) (fun f => rfl) ?_
  refine mr_call (y := 135) (y0 := 25) (L := [some (.int (nI (kg le (p + 3)))), some (.int 48), some (.int 57)]) (rest := []) (rr := some (.int 0)) (M1 := (mk_M c n m kk (rT K xm xi xw im le nu rf ln nn (nI (p + 3)) [x0, 0] xc vs))) (fun f => rfl) (mr_eq (kd_ii (c := kg le (p + 3)) (b2 _) _) (by rw [w3] <;> rfl)) ?_
  exact mr_ret 3 (fun f => rfl)
set_option maxRecDepth 100000 in
theorem rn_112_f (K : kK) (xm xi xw : List Int32) (im : Nat) (le nu rf : List Nat) (ln nn : Nat) (xc : List Int32) (vs : Int32) (c : cC) (n m kk : kG) (p : Nat) (x0 x1 : Int32) (hB : iB le ln) (hp : p < 1000) (u2 : p + 2 < ln) (w2 : kfit 57 (kg le (p + 2)) = true) : mm_R 134 0 [some (.ref 138), some (.int 1), some (.int 1), none] [] (mk_M c n m kk (rT K xm xi xw im le nu rf ln nn (nI (p + 2)) [x0, x1] xc vs)) (some (.int 1), (mk_M c n m kk (rT K xm xi xw im le nu rf ln nn (nI (p + 3)) [x0, (nI ((kg le (p + 2)) - 48))] xc vs))) := by
  obtain ⟨b1, b2, b3⟩ := id hB
  have e2 := b2 (p + 2)
  have f2 := kfit_9.mp w2
  refine mr_seg 4 (pc1 := 6) (ls1 := [some (.ref 138), some (.int 1), some (.int 1), none]) (st1 := [.int 0, .int 1, .ref 146]) (M1 := (mk_M c n m kk (rT K xm xi xw im le nu rf ln nn (nI (p + 2)) [x0, x1] xc vs))) (fun f => rfl) ?_
  refine mr_stn (xs := [x0, x1]) (ys := [x0, 0]) (M2 := (mk_MR c n m kk (er K) xm xi xw (nI im) (le.map nI) (nu.map nI) (rf.map nI) (nI ln) (nI nn) (nI (p + 2)) [x0, 0] xc vs)) rfl rfl (k := 1) (by decide) (show 1 < 2 by decide) rfl rfl ?_
  refine mr_M (mk_MRk c n m kk K xm xi xw im le nu rf ln nn (nI (p + 2)) [x0, 0] xc vs) ?_
  refine mr_seg 6 (pc1 := 15) (ls1 := [some (.ref 138), some (.int 1), some (.int 1), some (.int 0)]) (st1 := [.ref 138]) (M1 := (mk_M c n m kk (rT K xm xi xw im le nu rf ln nn (nI (p + 2)) [x0, 0] xc vs))) (fun f => rfl) ?_
  refine mr_call (y := 133) (y0 := 18) (L := [some (.ref 138)]) (rest := []) (rr := some (.int (nI (kg le (p + 2))))) (M1 := (mk_M c n m kk (rT K xm xi xw im le nu rf ln nn (nI (p + 2)) [x0, 0] xc vs))) (fun f => rfl) (mr_eq (kd_here (p + 2) [x0, 0] K xm xi xw im le nu rf ln nn xc vs c n m kk hB (by omega)) (by rw [khere_t u2])) ?_
  refine mr_seg 2 (pc1 := 22) (ls1 := [some (.ref 138), some (.int 1), some (.int 1), some (.int 0)]) (st1 := [.int 57, .int 48, .int (nI (kg le (p + 2)))]) (M1 := (mk_M c n m kk (rT K xm xi xw im le nu rf ln nn (nI (p + 2)) [x0, 0] xc vs))) (fun f => rfl) ?_
  refine mr_call (y := 135) (y0 := 25) (L := [some (.int (nI (kg le (p + 2)))), some (.int 48), some (.int 57)]) (rest := []) (rr := some (.int 1)) (M1 := (mk_M c n m kk (rT K xm xi xw im le nu rf ln nn (nI (p + 2)) [x0, 0] xc vs))) (fun f => rfl) (mr_eq (kd_ii (c := kg le (p + 2)) (b2 _) _) (by rw [w2] <;> rfl)) ?_
  refine mr_seg 8 (pc1 := 42) (ls1 := [some (.ref 138), some (.int 1), some (.int 1), some (.int 0)]) (st1 := [.int 1, .ref 146, .int 10, .int 1, .ref 146]) (M1 := (mk_M c n m kk (rT K xm xi xw im le nu rf ln nn (nI (p + 2)) [x0, 0] xc vs))) (fun f => rfl) ?_
  refine mr_ldn (xs := [x0, 0]) rfl rfl (k := 1) (by decide) rfl ?_
  refine mr_seg 2 (pc1 := 45) (ls1 := [some (.ref 138), some (.int 1), some (.int 1), some (.int 0)]) (st1 := [.ref 138, .int 0, .int 1, .ref 146]) (M1 := (mk_M c n m kk (rT K xm xi xw im le nu rf ln nn (nI (p + 2)) [x0, 0] xc vs))) (fun f => rfl) ?_
  refine mr_call (y := 133) (y0 := 48) (L := [some (.ref 138)]) (rest := [.int 0, .int 1, .ref 146]) (rr := some (.int (nI (kg le (p + 2))))) (M1 := (mk_M c n m kk (rT K xm xi xw im le nu rf ln nn (nI (p + 2)) [x0, 0] xc vs))) (fun f => rfl) (mr_eq (kd_here (p + 2) [x0, 0] K xm xi xw im le nu rf ln nn xc vs c n m kk hB (by omega)) (by rw [khere_t u2])) ?_
  refine mr_seg 1 (pc1 := 49) (ls1 := [some (.ref 138), some (.int 1), some (.int 1), some (.int 0)]) (st1 := [.int ((0 : Int32) + (nI (kg le (p + 2)))), .int 1, .ref 146]) (M1 := (mk_M c n m kk (rT K xm xi xw im le nu rf ln nn (nI (p + 2)) [x0, 0] xc vs))) (fun f => rfl) ?_
  refine mr_v (Int32.zero_add _) ?_
  refine mr_seg 2 (pc1 := 52) (ls1 := [some (.ref 138), some (.int 1), some (.int 1), some (.int 0)]) (st1 := [.int ((nI (kg le (p + 2))) - (48 : Int32)), .int 1, .ref 146]) (M1 := (mk_M c n m kk (rT K xm xi xw im le nu rf ln nn (nI (p + 2)) [x0, 0] xc vs))) (fun f => rfl) ?_
  refine mr_v (pk_sub (a := kg le (p + 2)) (b := 48) (by omega)) ?_
  refine mr_stn (xs := [x0, 0]) (ys := [x0, (nI ((kg le (p + 2)) - 48))]) (M2 := (mk_MR c n m kk (er K) xm xi xw (nI im) (le.map nI) (nu.map nI) (rf.map nI) (nI ln) (nI nn) (nI (p + 2)) [x0, (nI ((kg le (p + 2)) - 48))] xc vs)) rfl rfl (k := 1) (by decide) (show 1 < 2 by decide) rfl rfl ?_
  refine mr_M (mk_MRk c n m kk K xm xi xw im le nu rf ln nn (nI (p + 2)) [x0, (nI ((kg le (p + 2)) - 48))] xc vs) ?_
  refine mr_seg 5 (pc1 := 60) (ls1 := [some (.ref 138), some (.int 1), some (.int 1), some (.int 0)]) (st1 := [.int ((nI (p + 2)) + (1 : Int32)), .ref 138]) (M1 := (mk_M c n m kk (rT K xm xi xw im le nu rf ln nn (nI (p + 2)) [x0, (nI ((kg le (p + 2)) - 48))] xc vs))) (fun f => rfl) ?_
  refine mr_v (show nI (p + 2) + nI 1 = nI (p + 3) from nI_add (p + 2) 1) ?_
  refine mr_seg 1 (pc1 := 63) (ls1 := [some (.ref 138), some (.int 1), some (.int 1), some (.int 0)]) (st1 := []) (M1 := (mk_MR c n m kk (er K) xm xi xw (nI im) (le.map nI) (nu.map nI) (rf.map nI) (nI ln) (nI nn) (nI (p + 3)) [x0, (nI ((kg le (p + 2)) - 48))] xc vs)) (fun f => rfl) ?_
  refine mr_M (mk_MRk c n m kk K xm xi xw im le nu rf ln nn (nI (p + 3)) [x0, (nI ((kg le (p + 2)) - 48))] xc vs) ?_
  exact mr_ret 7 (fun f => rfl)
set_option maxRecDepth 100000 in
theorem rn_112_e (K : kK) (xm xi xw : List Int32) (im : Nat) (le nu rf : List Nat) (ln nn : Nat) (xc : List Int32) (vs : Int32) (c : cC) (n m kk : kG) (p : Nat) (x0 x1 : Int32) (hB : iB le ln) (hp : p < 1000) (u2 : ¬ p + 2 < ln) : mm_R 134 0 [some (.ref 138), some (.int 1), some (.int 1), none] [] (mk_M c n m kk (rT K xm xi xw im le nu rf ln nn (nI (p + 2)) [x0, x1] xc vs)) (some (.int 0), (mk_M c n m kk (rT K xm xi xw im le nu rf ln nn (nI (p + 2)) [x0, 0] xc vs))) := by
  obtain ⟨b1, b2, b3⟩ := id hB
  refine mr_seg 4 (pc1 := 6) (ls1 := [some (.ref 138), some (.int 1), some (.int 1), none]) (st1 := [.int 0, .int 1, .ref 146]) (M1 := (mk_M c n m kk (rT K xm xi xw im le nu rf ln nn (nI (p + 2)) [x0, x1] xc vs))) (fun f => rfl) ?_
  refine mr_stn (xs := [x0, x1]) (ys := [x0, 0]) (M2 := (mk_MR c n m kk (er K) xm xi xw (nI im) (le.map nI) (nu.map nI) (rf.map nI) (nI ln) (nI nn) (nI (p + 2)) [x0, 0] xc vs)) rfl rfl (k := 1) (by decide) (show 1 < 2 by decide) rfl rfl ?_
  refine mr_M (mk_MRk c n m kk K xm xi xw im le nu rf ln nn (nI (p + 2)) [x0, 0] xc vs) ?_
  refine mr_seg 6 (pc1 := 15) (ls1 := [some (.ref 138), some (.int 1), some (.int 1), some (.int 0)]) (st1 := [.ref 138]) (M1 := (mk_M c n m kk (rT K xm xi xw im le nu rf ln nn (nI (p + 2)) [x0, 0] xc vs))) (fun f => rfl) ?_
  refine mr_call (y := 133) (y0 := 18) (L := [some (.ref 138)]) (rest := []) (rr := some (.int (-1))) (M1 := (mk_M c n m kk (rT K xm xi xw im le nu rf ln nn (nI (p + 2)) [x0, 0] xc vs))) (fun f => rfl) (mr_eq (kd_here (p + 2) [x0, 0] K xm xi xw im le nu rf ln nn xc vs c n m kk hB (by omega)) (by rw [khere_f u2])) ?_
  refine mr_seg 2 (pc1 := 22) (ls1 := [some (.ref 138), some (.int 1), some (.int 1), some (.int 0)]) (st1 := [.int 57, .int 48, .int (-1)]) (M1 := (mk_M c n m kk (rT K xm xi xw im le nu rf ln nn (nI (p + 2)) [x0, 0] xc vs))) (fun f => rfl) ?_
  refine mr_call (y := 135) (y0 := 25) (L := [some (.int (-1)), some (.int 48), some (.int 57)]) (rest := []) (rr := some (.int 0)) (M1 := (mk_M c n m kk (rT K xm xi xw im le nu rf ln nn (nI (p + 2)) [x0, 0] xc vs))) (fun f => rfl) (by
      exact mr_ret 5 (fun f => rfl)) ?_
  exact mr_ret 3 (fun f => rfl)
set_option maxRecDepth 100000 in
theorem rn_112_b (K : kK) (xm xi xw : List Int32) (im : Nat) (le nu rf : List Nat) (ln nn : Nat) (xc : List Int32) (vs : Int32) (c : cC) (n m kk : kG) (p : Nat) (x0 x1 : Int32) (hB : iB le ln) (hp : p < 1000) (u2 : p + 2 < ln) (w2 : kfit 57 (kg le (p + 2)) = false) : mm_R 134 0 [some (.ref 138), some (.int 1), some (.int 1), none] [] (mk_M c n m kk (rT K xm xi xw im le nu rf ln nn (nI (p + 2)) [x0, x1] xc vs)) (some (.int 0), (mk_M c n m kk (rT K xm xi xw im le nu rf ln nn (nI (p + 2)) [x0, 0] xc vs))) := by
  obtain ⟨b1, b2, b3⟩ := id hB
  have e2 := b2 (p + 2)
  refine mr_seg 4 (pc1 := 6) (ls1 := [some (.ref 138), some (.int 1), some (.int 1), none]) (st1 := [.int 0, .int 1, .ref 146]) (M1 := (mk_M c n m kk (rT K xm xi xw im le nu rf ln nn (nI (p + 2)) [x0, x1] xc vs))) (fun f => rfl) ?_
  refine mr_stn (xs := [x0, x1]) (ys := [x0, 0]) (M2 := (mk_MR c n m kk (er K) xm xi xw (nI im) (le.map nI) (nu.map nI) (rf.map nI) (nI ln) (nI nn) (nI (p + 2)) [x0, 0] xc vs)) rfl rfl (k := 1) (by decide) (show 1 < 2 by decide) rfl rfl ?_
  refine mr_M (mk_MRk c n m kk K xm xi xw im le nu rf ln nn (nI (p + 2)) [x0, 0] xc vs) ?_
  refine mr_seg 6 (pc1 := 15) (ls1 := [some (.ref 138), some (.int 1), some (.int 1), some (.int 0)]) (st1 := [.ref 138]) (M1 := (mk_M c n m kk (rT K xm xi xw im le nu rf ln nn (nI (p + 2)) [x0, 0] xc vs))) (fun f => rfl) ?_
  refine mr_call (y := 133) (y0 := 18) (L := [some (.ref 138)]) (rest := []) (rr := some (.int (nI (kg le (p + 2))))) (M1 := (mk_M c n m kk (rT K xm xi xw im le nu rf ln nn (nI (p + 2)) [x0, 0] xc vs))) (fun f => rfl) (mr_eq (kd_here (p + 2) [x0, 0] K xm xi xw im le nu rf ln nn xc vs c n m kk hB (by omega)) (by rw [khere_t u2])) ?_
  refine mr_seg 2 (pc1 := 22) (ls1 := [some (.ref 138), some (.int 1), some (.int 1), some (.int 0)]) (st1 := [.int 57, .int 48, .int (nI (kg le (p + 2)))]) (M1 := (mk_M c n m kk (rT K xm xi xw im le nu rf ln nn (nI (p + 2)) [x0, 0] xc vs))) (fun f => rfl) ?_
  refine mr_call (y := 135) (y0 := 25) (L := [some (.int (nI (kg le (p + 2)))), some (.int 48), some (.int 57)]) (rest := []) (rr := some (.int 0)) (M1 := (mk_M c n m kk (rT K xm xi xw im le nu rf ln nn (nI (p + 2)) [x0, 0] xc vs))) (fun f => rfl) (mr_eq (kd_ii (c := kg le (p + 2)) (b2 _) _) (by rw [w2] <;> rfl)) ?_
  exact mr_ret 3 (fun f => rfl)
set_option maxRecDepth 100000 in
theorem rn_011_f (K : kK) (xm xi xw : List Int32) (im : Nat) (le nu rf : List Nat) (ln nn : Nat) (xc : List Int32) (vs : Int32) (c : cC) (n m kk : kG) (p : Nat) (x0 x1 : Int32) (hB : iB le ln) (hp : p < 1000) (u1 : p + 1 < ln) (w1 : kfit 57 (kg le (p + 1)) = true) : mm_R 134 0 [some (.ref 138), some (.int 0), some (.int 1), none] [] (mk_M c n m kk (rT K xm xi xw im le nu rf ln nn (nI (p + 1)) [x0, x1] xc vs)) (some (.int 1), (mk_M c n m kk (rT K xm xi xw im le nu rf ln nn (nI (p + 2)) [(nI ((kg le (p + 1)) - 48)), x1] xc vs))) := by
  obtain ⟨b1, b2, b3⟩ := id hB
  have e1 := b2 (p + 1)
  have f1 := kfit_9.mp w1
  refine mr_seg 4 (pc1 := 6) (ls1 := [some (.ref 138), some (.int 0), some (.int 1), none]) (st1 := [.int 0, .int 0, .ref 146]) (M1 := (mk_M c n m kk (rT K xm xi xw im le nu rf ln nn (nI (p + 1)) [x0, x1] xc vs))) (fun f => rfl) ?_
  refine mr_stn (xs := [x0, x1]) (ys := [0, x1]) (M2 := (mk_MR c n m kk (er K) xm xi xw (nI im) (le.map nI) (nu.map nI) (rf.map nI) (nI ln) (nI nn) (nI (p + 1)) [0, x1] xc vs)) rfl rfl (k := 0) (by decide) (show 0 < 2 by decide) rfl rfl ?_
  refine mr_M (mk_MRk c n m kk K xm xi xw im le nu rf ln nn (nI (p + 1)) [0, x1] xc vs) ?_
  refine mr_seg 6 (pc1 := 15) (ls1 := [some (.ref 138), some (.int 0), some (.int 1), some (.int 0)]) (st1 := [.ref 138]) (M1 := (mk_M c n m kk (rT K xm xi xw im le nu rf ln nn (nI (p + 1)) [0, x1] xc vs))) (fun f => rfl) ?_
  refine mr_call (y := 133) (y0 := 18) (L := [some (.ref 138)]) (rest := []) (rr := some (.int (nI (kg le (p + 1))))) (M1 := (mk_M c n m kk (rT K xm xi xw im le nu rf ln nn (nI (p + 1)) [0, x1] xc vs))) (fun f => rfl) (mr_eq (kd_here (p + 1) [0, x1] K xm xi xw im le nu rf ln nn xc vs c n m kk hB (by omega)) (by rw [khere_t u1])) ?_
  refine mr_seg 2 (pc1 := 22) (ls1 := [some (.ref 138), some (.int 0), some (.int 1), some (.int 0)]) (st1 := [.int 57, .int 48, .int (nI (kg le (p + 1)))]) (M1 := (mk_M c n m kk (rT K xm xi xw im le nu rf ln nn (nI (p + 1)) [0, x1] xc vs))) (fun f => rfl) ?_
  refine mr_call (y := 135) (y0 := 25) (L := [some (.int (nI (kg le (p + 1)))), some (.int 48), some (.int 57)]) (rest := []) (rr := some (.int 1)) (M1 := (mk_M c n m kk (rT K xm xi xw im le nu rf ln nn (nI (p + 1)) [0, x1] xc vs))) (fun f => rfl) (mr_eq (kd_ii (c := kg le (p + 1)) (b2 _) _) (by rw [w1] <;> rfl)) ?_
  refine mr_seg 8 (pc1 := 42) (ls1 := [some (.ref 138), some (.int 0), some (.int 1), some (.int 0)]) (st1 := [.int 0, .ref 146, .int 10, .int 0, .ref 146]) (M1 := (mk_M c n m kk (rT K xm xi xw im le nu rf ln nn (nI (p + 1)) [0, x1] xc vs))) (fun f => rfl) ?_
  refine mr_ldn (xs := [0, x1]) rfl rfl (k := 0) (by decide) rfl ?_
  refine mr_seg 2 (pc1 := 45) (ls1 := [some (.ref 138), some (.int 0), some (.int 1), some (.int 0)]) (st1 := [.ref 138, .int 0, .int 0, .ref 146]) (M1 := (mk_M c n m kk (rT K xm xi xw im le nu rf ln nn (nI (p + 1)) [0, x1] xc vs))) (fun f => rfl) ?_
  refine mr_call (y := 133) (y0 := 48) (L := [some (.ref 138)]) (rest := [.int 0, .int 0, .ref 146]) (rr := some (.int (nI (kg le (p + 1))))) (M1 := (mk_M c n m kk (rT K xm xi xw im le nu rf ln nn (nI (p + 1)) [0, x1] xc vs))) (fun f => rfl) (mr_eq (kd_here (p + 1) [0, x1] K xm xi xw im le nu rf ln nn xc vs c n m kk hB (by omega)) (by rw [khere_t u1])) ?_
  refine mr_seg 1 (pc1 := 49) (ls1 := [some (.ref 138), some (.int 0), some (.int 1), some (.int 0)]) (st1 := [.int ((0 : Int32) + (nI (kg le (p + 1)))), .int 0, .ref 146]) (M1 := (mk_M c n m kk (rT K xm xi xw im le nu rf ln nn (nI (p + 1)) [0, x1] xc vs))) (fun f => rfl) ?_
  refine mr_v (Int32.zero_add _) ?_
  refine mr_seg 2 (pc1 := 52) (ls1 := [some (.ref 138), some (.int 0), some (.int 1), some (.int 0)]) (st1 := [.int ((nI (kg le (p + 1))) - (48 : Int32)), .int 0, .ref 146]) (M1 := (mk_M c n m kk (rT K xm xi xw im le nu rf ln nn (nI (p + 1)) [0, x1] xc vs))) (fun f => rfl) ?_
  refine mr_v (pk_sub (a := kg le (p + 1)) (b := 48) (by omega)) ?_
  refine mr_stn (xs := [0, x1]) (ys := [(nI ((kg le (p + 1)) - 48)), x1]) (M2 := (mk_MR c n m kk (er K) xm xi xw (nI im) (le.map nI) (nu.map nI) (rf.map nI) (nI ln) (nI nn) (nI (p + 1)) [(nI ((kg le (p + 1)) - 48)), x1] xc vs)) rfl rfl (k := 0) (by decide) (show 0 < 2 by decide) rfl rfl ?_
  refine mr_M (mk_MRk c n m kk K xm xi xw im le nu rf ln nn (nI (p + 1)) [(nI ((kg le (p + 1)) - 48)), x1] xc vs) ?_
  refine mr_seg 5 (pc1 := 60) (ls1 := [some (.ref 138), some (.int 0), some (.int 1), some (.int 0)]) (st1 := [.int ((nI (p + 1)) + (1 : Int32)), .ref 138]) (M1 := (mk_M c n m kk (rT K xm xi xw im le nu rf ln nn (nI (p + 1)) [(nI ((kg le (p + 1)) - 48)), x1] xc vs))) (fun f => rfl) ?_
  refine mr_v (show nI (p + 1) + nI 1 = nI (p + 2) from nI_add (p + 1) 1) ?_
  refine mr_seg 1 (pc1 := 63) (ls1 := [some (.ref 138), some (.int 0), some (.int 1), some (.int 0)]) (st1 := []) (M1 := (mk_MR c n m kk (er K) xm xi xw (nI im) (le.map nI) (nu.map nI) (rf.map nI) (nI ln) (nI nn) (nI (p + 2)) [(nI ((kg le (p + 1)) - 48)), x1] xc vs)) (fun f => rfl) ?_
  refine mr_M (mk_MRk c n m kk K xm xi xw im le nu rf ln nn (nI (p + 2)) [(nI ((kg le (p + 1)) - 48)), x1] xc vs) ?_
  exact mr_ret 7 (fun f => rfl)
set_option maxRecDepth 100000 in
theorem rn_011_e (K : kK) (xm xi xw : List Int32) (im : Nat) (le nu rf : List Nat) (ln nn : Nat) (xc : List Int32) (vs : Int32) (c : cC) (n m kk : kG) (p : Nat) (x0 x1 : Int32) (hB : iB le ln) (hp : p < 1000) (u1 : ¬ p + 1 < ln) : mm_R 134 0 [some (.ref 138), some (.int 0), some (.int 1), none] [] (mk_M c n m kk (rT K xm xi xw im le nu rf ln nn (nI (p + 1)) [x0, x1] xc vs)) (some (.int 0), (mk_M c n m kk (rT K xm xi xw im le nu rf ln nn (nI (p + 1)) [0, x1] xc vs))) := by
  obtain ⟨b1, b2, b3⟩ := id hB
  refine mr_seg 4 (pc1 := 6) (ls1 := [some (.ref 138), some (.int 0), some (.int 1), none]) (st1 := [.int 0, .int 0, .ref 146]) (M1 := (mk_M c n m kk (rT K xm xi xw im le nu rf ln nn (nI (p + 1)) [x0, x1] xc vs))) (fun f => rfl) ?_
  refine mr_stn (xs := [x0, x1]) (ys := [0, x1]) (M2 := (mk_MR c n m kk (er K) xm xi xw (nI im) (le.map nI) (nu.map nI) (rf.map nI) (nI ln) (nI nn) (nI (p + 1)) [0, x1] xc vs)) rfl rfl (k := 0) (by decide) (show 0 < 2 by decide) rfl rfl ?_
  refine mr_M (mk_MRk c n m kk K xm xi xw im le nu rf ln nn (nI (p + 1)) [0, x1] xc vs) ?_
  refine mr_seg 6 (pc1 := 15) (ls1 := [some (.ref 138), some (.int 0), some (.int 1), some (.int 0)]) (st1 := [.ref 138]) (M1 := (mk_M c n m kk (rT K xm xi xw im le nu rf ln nn (nI (p + 1)) [0, x1] xc vs))) (fun f => rfl) ?_
  refine mr_call (y := 133) (y0 := 18) (L := [some (.ref 138)]) (rest := []) (rr := some (.int (-1))) (M1 := (mk_M c n m kk (rT K xm xi xw im le nu rf ln nn (nI (p + 1)) [0, x1] xc vs))) (fun f => rfl) (mr_eq (kd_here (p + 1) [0, x1] K xm xi xw im le nu rf ln nn xc vs c n m kk hB (by omega)) (by rw [khere_f u1])) ?_
  refine mr_seg 2 (pc1 := 22) (ls1 := [some (.ref 138), some (.int 0), some (.int 1), some (.int 0)]) (st1 := [.int 57, .int 48, .int (-1)]) (M1 := (mk_M c n m kk (rT K xm xi xw im le nu rf ln nn (nI (p + 1)) [0, x1] xc vs))) (fun f => rfl) ?_
  refine mr_call (y := 135) (y0 := 25) (L := [some (.int (-1)), some (.int 48), some (.int 57)]) (rest := []) (rr := some (.int 0)) (M1 := (mk_M c n m kk (rT K xm xi xw im le nu rf ln nn (nI (p + 1)) [0, x1] xc vs))) (fun f => rfl) (by
      exact mr_ret 5 (fun f => rfl)) ?_
  exact mr_ret 3 (fun f => rfl)
set_option maxRecDepth 100000 in
theorem rn_011_b (K : kK) (xm xi xw : List Int32) (im : Nat) (le nu rf : List Nat) (ln nn : Nat) (xc : List Int32) (vs : Int32) (c : cC) (n m kk : kG) (p : Nat) (x0 x1 : Int32) (hB : iB le ln) (hp : p < 1000) (u1 : p + 1 < ln) (w1 : kfit 57 (kg le (p + 1)) = false) : mm_R 134 0 [some (.ref 138), some (.int 0), some (.int 1), none] [] (mk_M c n m kk (rT K xm xi xw im le nu rf ln nn (nI (p + 1)) [x0, x1] xc vs)) (some (.int 0), (mk_M c n m kk (rT K xm xi xw im le nu rf ln nn (nI (p + 1)) [0, x1] xc vs))) := by
  obtain ⟨b1, b2, b3⟩ := id hB
  have e1 := b2 (p + 1)
  refine mr_seg 4 (pc1 := 6) (ls1 := [some (.ref 138), some (.int 0), some (.int 1), none]) (st1 := [.int 0, .int 0, .ref 146]) (M1 := (mk_M c n m kk (rT K xm xi xw im le nu rf ln nn (nI (p + 1)) [x0, x1] xc vs))) (fun f => rfl) ?_
  refine mr_stn (xs := [x0, x1]) (ys := [0, x1]) (M2 := (mk_MR c n m kk (er K) xm xi xw (nI im) (le.map nI) (nu.map nI) (rf.map nI) (nI ln) (nI nn) (nI (p + 1)) [0, x1] xc vs)) rfl rfl (k := 0) (by decide) (show 0 < 2 by decide) rfl rfl ?_
  refine mr_M (mk_MRk c n m kk K xm xi xw im le nu rf ln nn (nI (p + 1)) [0, x1] xc vs) ?_
  refine mr_seg 6 (pc1 := 15) (ls1 := [some (.ref 138), some (.int 0), some (.int 1), some (.int 0)]) (st1 := [.ref 138]) (M1 := (mk_M c n m kk (rT K xm xi xw im le nu rf ln nn (nI (p + 1)) [0, x1] xc vs))) (fun f => rfl) ?_
  refine mr_call (y := 133) (y0 := 18) (L := [some (.ref 138)]) (rest := []) (rr := some (.int (nI (kg le (p + 1))))) (M1 := (mk_M c n m kk (rT K xm xi xw im le nu rf ln nn (nI (p + 1)) [0, x1] xc vs))) (fun f => rfl) (mr_eq (kd_here (p + 1) [0, x1] K xm xi xw im le nu rf ln nn xc vs c n m kk hB (by omega)) (by rw [khere_t u1])) ?_
  refine mr_seg 2 (pc1 := 22) (ls1 := [some (.ref 138), some (.int 0), some (.int 1), some (.int 0)]) (st1 := [.int 57, .int 48, .int (nI (kg le (p + 1)))]) (M1 := (mk_M c n m kk (rT K xm xi xw im le nu rf ln nn (nI (p + 1)) [0, x1] xc vs))) (fun f => rfl) ?_
  refine mr_call (y := 135) (y0 := 25) (L := [some (.int (nI (kg le (p + 1)))), some (.int 48), some (.int 57)]) (rest := []) (rr := some (.int 0)) (M1 := (mk_M c n m kk (rT K xm xi xw im le nu rf ln nn (nI (p + 1)) [0, x1] xc vs))) (fun f => rfl) (mr_eq (kd_ii (c := kg le (p + 1)) (b2 _) _) (by rw [w1] <;> rfl)) ?_
  exact mr_ret 3 (fun f => rfl)
set_option maxRecDepth 100000 in
theorem rs_1_ok (K : kK) (xm xi xw : List Int32) (im : Nat) (le nu rf : List Nat) (ln nn : Nat) (xc : List Int32) (vs : Int32) (c : cC) (n m kk : kG) (p : Nat) (x0 x1 : Int32) (c0 : Int32) (hB : iB le ln) (hp : p < 1000) (u1 : p + 1 < ln) (w1 : kfit 57 (kg le (p + 1)) = true) (u2 : p + 2 < ln) (w2 : kfit 57 (kg le (p + 2)) = true) (u3 : p + 3 < ln) (w3 : kfit 57 (kg le (p + 3)) = true) (u4 : p + 4 < ln) (w4 : kfit 59 (kg le (p + 4)) = true) : mm_R 132 124 [some (.ref 138), some (.int c0), none] [] (mk_M c n m kk (rT K xm xi xw im le nu rf ln nn (nI (p + 1)) [x0, x1] xc vs)) (some (.int 1), (mk_M c n m kk (rT K xm xi xw im le nu rf ln nn (nI (p + 5)) [(nI ((10 * ((kg le (p + 1)) - 48) + (kg le (p + 2))) - 48)), (nI ((kg le (p + 3)) - 48))] xc vs))) := by
  obtain ⟨b1, b2, b3⟩ := id hB
  have e1 := b2 (p + 1)
  have f1 := kfit_9.mp w1
  have e2 := b2 (p + 2)
  have f2 := kfit_9.mp w2
  have e3 := b2 (p + 3)
  have f3 := kfit_9.mp w3
  have e4 := b2 (p + 4)
  have f4 : kg le (p + 4) = 59 := kfit_s.mp w4
  refine mr_seg 3 (pc1 := 127) (ls1 := [some (.ref 138), some (.int c0), none]) (st1 := [.int 2, .int 0, .ref 138]) (M1 := (mk_M c n m kk (rT K xm xi xw im le nu rf ln nn (nI (p + 1)) [x0, x1] xc vs))) (fun f => rfl) ?_
  refine mr_call (y := 134) (y0 := 130) (L := [some (.ref 138), some (.int 0), some (.int 2), none]) (rest := []) (rr := some (.int 1)) (M1 := (mk_M c n m kk (rT K xm xi xw im le nu rf ln nn (nI (p + 3)) [(nI ((10 * ((kg le (p + 1)) - 48) + (kg le (p + 2))) - 48)), x1] xc vs))) (fun f => rfl) (rn_021_ff K xm xi xw im le nu rf ln nn xc vs c n m kk p x0 x1 hB hp u1 w1 u2 w2) ?_
  refine mr_seg 4 (pc1 := 136) (ls1 := [some (.ref 138), some (.int c0), none]) (st1 := [.int 1, .int 1, .ref 138]) (M1 := (mk_M c n m kk (rT K xm xi xw im le nu rf ln nn (nI (p + 3)) [(nI ((10 * ((kg le (p + 1)) - 48) + (kg le (p + 2))) - 48)), x1] xc vs))) (fun f => rfl) ?_
  refine mr_call (y := 134) (y0 := 139) (L := [some (.ref 138), some (.int 1), some (.int 1), none]) (rest := []) (rr := some (.int 1)) (M1 := (mk_M c n m kk (rT K xm xi xw im le nu rf ln nn (nI (p + 4)) [(nI ((10 * ((kg le (p + 1)) - 48) + (kg le (p + 2))) - 48)), (nI ((kg le (p + 3)) - 48))] xc vs))) (fun f => rfl) (rn_113_f K xm xi xw im le nu rf ln nn xc vs c n m kk p (nI ((10 * ((kg le (p + 1)) - 48) + (kg le (p + 2))) - 48)) x1 hB hp u3 w3) ?_
  refine mr_seg 8 (pc1 := 213) (ls1 := [some (.ref 138), some (.int c0), some (.int 1)]) (st1 := [.ref 138]) (M1 := (mk_M c n m kk (rT K xm xi xw im le nu rf ln nn (nI (p + 4)) [(nI ((10 * ((kg le (p + 1)) - 48) + (kg le (p + 2))) - 48)), (nI ((kg le (p + 3)) - 48))] xc vs))) (fun f => rfl) ?_
  refine mr_call (y := 133) (y0 := 216) (L := [some (.ref 138)]) (rest := []) (rr := some (.int (nI (kg le (p + 4))))) (M1 := (mk_M c n m kk (rT K xm xi xw im le nu rf ln nn (nI (p + 4)) [(nI ((10 * ((kg le (p + 1)) - 48) + (kg le (p + 2))) - 48)), (nI ((kg le (p + 3)) - 48))] xc vs))) (fun f => rfl) (mr_eq (kd_here (p + 4) [(nI ((10 * ((kg le (p + 1)) - 48) + (kg le (p + 2))) - 48)), (nI ((kg le (p + 3)) - 48))] K xm xi xw im le nu rf ln nn xc vs c n m kk hB (by omega)) (by rw [khere_t u4])) ?_
  refine mr_seg 1 (pc1 := 218) (ls1 := [some (.ref 138), some (.int c0), some (.int 1)]) (st1 := [.int 59, .int (nI (kg le (p + 4)))]) (M1 := (mk_M c n m kk (rT K xm xi xw im le nu rf ln nn (nI (p + 4)) [(nI ((10 * ((kg le (p + 1)) - 48) + (kg le (p + 2))) - 48)), (nI ((kg le (p + 3)) - 48))] xc vs))) (fun f => rfl) ?_
  refine mr_t (C := (nI (kg le (p + 4))) = 59) (nI_eqt (a := kg le (p + 4)) (b := 59) (by omega)) (fun f => rfl) ?_
  refine mr_seg 5 (pc1 := 230) (ls1 := [some (.ref 138), some (.int c0), some (.int 1)]) (st1 := [.int ((nI (p + 4)) + (1 : Int32)), .ref 138]) (M1 := (mk_M c n m kk (rT K xm xi xw im le nu rf ln nn (nI (p + 4)) [(nI ((10 * ((kg le (p + 1)) - 48) + (kg le (p + 2))) - 48)), (nI ((kg le (p + 3)) - 48))] xc vs))) (fun f => rfl) ?_
  refine mr_v (show nI (p + 4) + nI 1 = nI (p + 5) from nI_add (p + 4) 1) ?_
  refine mr_seg 1 (pc1 := 233) (ls1 := [some (.ref 138), some (.int c0), some (.int 1)]) (st1 := []) (M1 := (mk_MR c n m kk (er K) xm xi xw (nI im) (le.map nI) (nu.map nI) (rf.map nI) (nI ln) (nI nn) (nI (p + 5)) [(nI ((10 * ((kg le (p + 1)) - 48) + (kg le (p + 2))) - 48)), (nI ((kg le (p + 3)) - 48))] xc vs)) (fun f => rfl) ?_
  refine mr_M (mk_MRk c n m kk K xm xi xw im le nu rf ln nn (nI (p + 5)) [(nI ((10 * ((kg le (p + 1)) - 48) + (kg le (p + 2))) - 48)), (nI ((kg le (p + 3)) - 48))] xc vs) ?_
  exact mr_ret 2 (fun f => rfl)
set_option maxRecDepth 100000 in
theorem rs_1_1e (K : kK) (xm xi xw : List Int32) (im : Nat) (le nu rf : List Nat) (ln nn : Nat) (xc : List Int32) (vs : Int32) (c : cC) (n m kk : kG) (p : Nat) (x0 x1 : Int32) (c0 : Int32) (hB : iB le ln) (hp : p < 1000) (u1 : ¬ p + 1 < ln) : mm_R 132 124 [some (.ref 138), some (.int c0), none] [] (mk_M c n m kk (rT K xm xi xw im le nu rf ln nn (nI (p + 1)) [x0, x1] xc vs)) (some (.int 0), (mk_M c n m kk (rT K xm xi xw im le nu rf ln nn (nI (p + 1)) [0, x1] xc vs))) := by
  obtain ⟨b1, b2, b3⟩ := id hB
  refine mr_seg 3 (pc1 := 127) (ls1 := [some (.ref 138), some (.int c0), none]) (st1 := [.int 2, .int 0, .ref 138]) (M1 := (mk_M c n m kk (rT K xm xi xw im le nu rf ln nn (nI (p + 1)) [x0, x1] xc vs))) (fun f => rfl) ?_
  refine mr_call (y := 134) (y0 := 130) (L := [some (.ref 138), some (.int 0), some (.int 2), none]) (rest := []) (rr := some (.int 0)) (M1 := (mk_M c n m kk (rT K xm xi xw im le nu rf ln nn (nI (p + 1)) [0, x1] xc vs))) (fun f => rfl) (rn_021_e K xm xi xw im le nu rf ln nn xc vs c n m kk p x0 x1 hB hp u1) ?_
  exact mr_ret 8 (fun f => rfl)
set_option maxRecDepth 100000 in
theorem rs_1_1b (K : kK) (xm xi xw : List Int32) (im : Nat) (le nu rf : List Nat) (ln nn : Nat) (xc : List Int32) (vs : Int32) (c : cC) (n m kk : kG) (p : Nat) (x0 x1 : Int32) (c0 : Int32) (hB : iB le ln) (hp : p < 1000) (u1 : p + 1 < ln) (w1 : kfit 57 (kg le (p + 1)) = false) : mm_R 132 124 [some (.ref 138), some (.int c0), none] [] (mk_M c n m kk (rT K xm xi xw im le nu rf ln nn (nI (p + 1)) [x0, x1] xc vs)) (some (.int 0), (mk_M c n m kk (rT K xm xi xw im le nu rf ln nn (nI (p + 1)) [0, x1] xc vs))) := by
  obtain ⟨b1, b2, b3⟩ := id hB
  have e1 := b2 (p + 1)
  refine mr_seg 3 (pc1 := 127) (ls1 := [some (.ref 138), some (.int c0), none]) (st1 := [.int 2, .int 0, .ref 138]) (M1 := (mk_M c n m kk (rT K xm xi xw im le nu rf ln nn (nI (p + 1)) [x0, x1] xc vs))) (fun f => rfl) ?_
  refine mr_call (y := 134) (y0 := 130) (L := [some (.ref 138), some (.int 0), some (.int 2), none]) (rest := []) (rr := some (.int 0)) (M1 := (mk_M c n m kk (rT K xm xi xw im le nu rf ln nn (nI (p + 1)) [0, x1] xc vs))) (fun f => rfl) (rn_021_b K xm xi xw im le nu rf ln nn xc vs c n m kk p x0 x1 hB hp u1 w1) ?_
  exact mr_ret 8 (fun f => rfl)
set_option maxRecDepth 100000 in
theorem rs_1_2e (K : kK) (xm xi xw : List Int32) (im : Nat) (le nu rf : List Nat) (ln nn : Nat) (xc : List Int32) (vs : Int32) (c : cC) (n m kk : kG) (p : Nat) (x0 x1 : Int32) (c0 : Int32) (hB : iB le ln) (hp : p < 1000) (u1 : p + 1 < ln) (w1 : kfit 57 (kg le (p + 1)) = true) (u2 : ¬ p + 2 < ln) : mm_R 132 124 [some (.ref 138), some (.int c0), none] [] (mk_M c n m kk (rT K xm xi xw im le nu rf ln nn (nI (p + 1)) [x0, x1] xc vs)) (some (.int 0), (mk_M c n m kk (rT K xm xi xw im le nu rf ln nn (nI (p + 2)) [(nI ((kg le (p + 1)) - 48)), x1] xc vs))) := by
  obtain ⟨b1, b2, b3⟩ := id hB
  have e1 := b2 (p + 1)
  have f1 := kfit_9.mp w1
  refine mr_seg 3 (pc1 := 127) (ls1 := [some (.ref 138), some (.int c0), none]) (st1 := [.int 2, .int 0, .ref 138]) (M1 := (mk_M c n m kk (rT K xm xi xw im le nu rf ln nn (nI (p + 1)) [x0, x1] xc vs))) (fun f => rfl) ?_
  refine mr_call (y := 134) (y0 := 130) (L := [some (.ref 138), some (.int 0), some (.int 2), none]) (rest := []) (rr := some (.int 0)) (M1 := (mk_M c n m kk (rT K xm xi xw im le nu rf ln nn (nI (p + 2)) [(nI ((kg le (p + 1)) - 48)), x1] xc vs))) (fun f => rfl) (rn_021_fe K xm xi xw im le nu rf ln nn xc vs c n m kk p x0 x1 hB hp u1 w1 u2) ?_
  exact mr_ret 8 (fun f => rfl)
set_option maxRecDepth 100000 in
theorem rs_1_2b (K : kK) (xm xi xw : List Int32) (im : Nat) (le nu rf : List Nat) (ln nn : Nat) (xc : List Int32) (vs : Int32) (c : cC) (n m kk : kG) (p : Nat) (x0 x1 : Int32) (c0 : Int32) (hB : iB le ln) (hp : p < 1000) (u1 : p + 1 < ln) (w1 : kfit 57 (kg le (p + 1)) = true) (u2 : p + 2 < ln) (w2 : kfit 57 (kg le (p + 2)) = false) : mm_R 132 124 [some (.ref 138), some (.int c0), none] [] (mk_M c n m kk (rT K xm xi xw im le nu rf ln nn (nI (p + 1)) [x0, x1] xc vs)) (some (.int 0), (mk_M c n m kk (rT K xm xi xw im le nu rf ln nn (nI (p + 2)) [(nI ((kg le (p + 1)) - 48)), x1] xc vs))) := by
  obtain ⟨b1, b2, b3⟩ := id hB
  have e1 := b2 (p + 1)
  have f1 := kfit_9.mp w1
  have e2 := b2 (p + 2)
  refine mr_seg 3 (pc1 := 127) (ls1 := [some (.ref 138), some (.int c0), none]) (st1 := [.int 2, .int 0, .ref 138]) (M1 := (mk_M c n m kk (rT K xm xi xw im le nu rf ln nn (nI (p + 1)) [x0, x1] xc vs))) (fun f => rfl) ?_
  refine mr_call (y := 134) (y0 := 130) (L := [some (.ref 138), some (.int 0), some (.int 2), none]) (rest := []) (rr := some (.int 0)) (M1 := (mk_M c n m kk (rT K xm xi xw im le nu rf ln nn (nI (p + 2)) [(nI ((kg le (p + 1)) - 48)), x1] xc vs))) (fun f => rfl) (rn_021_fb K xm xi xw im le nu rf ln nn xc vs c n m kk p x0 x1 hB hp u1 w1 u2 w2) ?_
  exact mr_ret 8 (fun f => rfl)
set_option maxRecDepth 100000 in
theorem rs_1_3e (K : kK) (xm xi xw : List Int32) (im : Nat) (le nu rf : List Nat) (ln nn : Nat) (xc : List Int32) (vs : Int32) (c : cC) (n m kk : kG) (p : Nat) (x0 x1 : Int32) (c0 : Int32) (hB : iB le ln) (hp : p < 1000) (u1 : p + 1 < ln) (w1 : kfit 57 (kg le (p + 1)) = true) (u2 : p + 2 < ln) (w2 : kfit 57 (kg le (p + 2)) = true) (u3 : ¬ p + 3 < ln) : mm_R 132 124 [some (.ref 138), some (.int c0), none] [] (mk_M c n m kk (rT K xm xi xw im le nu rf ln nn (nI (p + 1)) [x0, x1] xc vs)) (some (.int 0), (mk_M c n m kk (rT K xm xi xw im le nu rf ln nn (nI (p + 3)) [(nI ((10 * ((kg le (p + 1)) - 48) + (kg le (p + 2))) - 48)), 0] xc vs))) := by
  obtain ⟨b1, b2, b3⟩ := id hB
  have e1 := b2 (p + 1)
  have f1 := kfit_9.mp w1
  have e2 := b2 (p + 2)
  have f2 := kfit_9.mp w2
  refine mr_seg 3 (pc1 := 127) (ls1 := [some (.ref 138), some (.int c0), none]) (st1 := [.int 2, .int 0, .ref 138]) (M1 := (mk_M c n m kk (rT K xm xi xw im le nu rf ln nn (nI (p + 1)) [x0, x1] xc vs))) (fun f => rfl) ?_
  refine mr_call (y := 134) (y0 := 130) (L := [some (.ref 138), some (.int 0), some (.int 2), none]) (rest := []) (rr := some (.int 1)) (M1 := (mk_M c n m kk (rT K xm xi xw im le nu rf ln nn (nI (p + 3)) [(nI ((10 * ((kg le (p + 1)) - 48) + (kg le (p + 2))) - 48)), x1] xc vs))) (fun f => rfl) (rn_021_ff K xm xi xw im le nu rf ln nn xc vs c n m kk p x0 x1 hB hp u1 w1 u2 w2) ?_
  refine mr_seg 4 (pc1 := 136) (ls1 := [some (.ref 138), some (.int c0), none]) (st1 := [.int 1, .int 1, .ref 138]) (M1 := (mk_M c n m kk (rT K xm xi xw im le nu rf ln nn (nI (p + 3)) [(nI ((10 * ((kg le (p + 1)) - 48) + (kg le (p + 2))) - 48)), x1] xc vs))) (fun f => rfl) ?_
  refine mr_call (y := 134) (y0 := 139) (L := [some (.ref 138), some (.int 1), some (.int 1), none]) (rest := []) (rr := some (.int 0)) (M1 := (mk_M c n m kk (rT K xm xi xw im le nu rf ln nn (nI (p + 3)) [(nI ((10 * ((kg le (p + 1)) - 48) + (kg le (p + 2))) - 48)), 0] xc vs))) (fun f => rfl) (rn_113_e K xm xi xw im le nu rf ln nn xc vs c n m kk p (nI ((10 * ((kg le (p + 1)) - 48) + (kg le (p + 2))) - 48)) x1 hB hp u3) ?_
  exact mr_ret 8 (fun f => rfl)
set_option maxRecDepth 100000 in
theorem rs_1_3b (K : kK) (xm xi xw : List Int32) (im : Nat) (le nu rf : List Nat) (ln nn : Nat) (xc : List Int32) (vs : Int32) (c : cC) (n m kk : kG) (p : Nat) (x0 x1 : Int32) (c0 : Int32) (hB : iB le ln) (hp : p < 1000) (u1 : p + 1 < ln) (w1 : kfit 57 (kg le (p + 1)) = true) (u2 : p + 2 < ln) (w2 : kfit 57 (kg le (p + 2)) = true) (u3 : p + 3 < ln) (w3 : kfit 57 (kg le (p + 3)) = false) : mm_R 132 124 [some (.ref 138), some (.int c0), none] [] (mk_M c n m kk (rT K xm xi xw im le nu rf ln nn (nI (p + 1)) [x0, x1] xc vs)) (some (.int 0), (mk_M c n m kk (rT K xm xi xw im le nu rf ln nn (nI (p + 3)) [(nI ((10 * ((kg le (p + 1)) - 48) + (kg le (p + 2))) - 48)), 0] xc vs))) := by
  obtain ⟨b1, b2, b3⟩ := id hB
  have e1 := b2 (p + 1)
  have f1 := kfit_9.mp w1
  have e2 := b2 (p + 2)
  have f2 := kfit_9.mp w2
  have e3 := b2 (p + 3)
  refine mr_seg 3 (pc1 := 127) (ls1 := [some (.ref 138), some (.int c0), none]) (st1 := [.int 2, .int 0, .ref 138]) (M1 := (mk_M c n m kk (rT K xm xi xw im le nu rf ln nn (nI (p + 1)) [x0, x1] xc vs))) (fun f => rfl) ?_
  refine mr_call (y := 134) (y0 := 130) (L := [some (.ref 138), some (.int 0), some (.int 2), none]) (rest := []) (rr := some (.int 1)) (M1 := (mk_M c n m kk (rT K xm xi xw im le nu rf ln nn (nI (p + 3)) [(nI ((10 * ((kg le (p + 1)) - 48) + (kg le (p + 2))) - 48)), x1] xc vs))) (fun f => rfl) (rn_021_ff K xm xi xw im le nu rf ln nn xc vs c n m kk p x0 x1 hB hp u1 w1 u2 w2) ?_
  refine mr_seg 4 (pc1 := 136) (ls1 := [some (.ref 138), some (.int c0), none]) (st1 := [.int 1, .int 1, .ref 138]) (M1 := (mk_M c n m kk (rT K xm xi xw im le nu rf ln nn (nI (p + 3)) [(nI ((10 * ((kg le (p + 1)) - 48) + (kg le (p + 2))) - 48)), x1] xc vs))) (fun f => rfl) ?_
  refine mr_call (y := 134) (y0 := 139) (L := [some (.ref 138), some (.int 1), some (.int 1), none]) (rest := []) (rr := some (.int 0)) (M1 := (mk_M c n m kk (rT K xm xi xw im le nu rf ln nn (nI (p + 3)) [(nI ((10 * ((kg le (p + 1)) - 48) + (kg le (p + 2))) - 48)), 0] xc vs))) (fun f => rfl) (rn_113_b K xm xi xw im le nu rf ln nn xc vs c n m kk p (nI ((10 * ((kg le (p + 1)) - 48) + (kg le (p + 2))) - 48)) x1 hB hp u3 w3) ?_
  exact mr_ret 8 (fun f => rfl)
set_option maxRecDepth 100000 in
theorem rs_1_4e (K : kK) (xm xi xw : List Int32) (im : Nat) (le nu rf : List Nat) (ln nn : Nat) (xc : List Int32) (vs : Int32) (c : cC) (n m kk : kG) (p : Nat) (x0 x1 : Int32) (c0 : Int32) (hB : iB le ln) (hp : p < 1000) (u1 : p + 1 < ln) (w1 : kfit 57 (kg le (p + 1)) = true) (u2 : p + 2 < ln) (w2 : kfit 57 (kg le (p + 2)) = true) (u3 : p + 3 < ln) (w3 : kfit 57 (kg le (p + 3)) = true) (u4 : ¬ p + 4 < ln) : mm_R 132 124 [some (.ref 138), some (.int c0), none] [] (mk_M c n m kk (rT K xm xi xw im le nu rf ln nn (nI (p + 1)) [x0, x1] xc vs)) (some (.int 0), (mk_M c n m kk (rT K xm xi xw im le nu rf ln nn (nI (p + 4)) [(nI ((10 * ((kg le (p + 1)) - 48) + (kg le (p + 2))) - 48)), (nI ((kg le (p + 3)) - 48))] xc vs))) := by
  obtain ⟨b1, b2, b3⟩ := id hB
  have e1 := b2 (p + 1)
  have f1 := kfit_9.mp w1
  have e2 := b2 (p + 2)
  have f2 := kfit_9.mp w2
  have e3 := b2 (p + 3)
  have f3 := kfit_9.mp w3
  refine mr_seg 3 (pc1 := 127) (ls1 := [some (.ref 138), some (.int c0), none]) (st1 := [.int 2, .int 0, .ref 138]) (M1 := (mk_M c n m kk (rT K xm xi xw im le nu rf ln nn (nI (p + 1)) [x0, x1] xc vs))) (fun f => rfl) ?_
  refine mr_call (y := 134) (y0 := 130) (L := [some (.ref 138), some (.int 0), some (.int 2), none]) (rest := []) (rr := some (.int 1)) (M1 := (mk_M c n m kk (rT K xm xi xw im le nu rf ln nn (nI (p + 3)) [(nI ((10 * ((kg le (p + 1)) - 48) + (kg le (p + 2))) - 48)), x1] xc vs))) (fun f => rfl) (rn_021_ff K xm xi xw im le nu rf ln nn xc vs c n m kk p x0 x1 hB hp u1 w1 u2 w2) ?_
  refine mr_seg 4 (pc1 := 136) (ls1 := [some (.ref 138), some (.int c0), none]) (st1 := [.int 1, .int 1, .ref 138]) (M1 := (mk_M c n m kk (rT K xm xi xw im le nu rf ln nn (nI (p + 3)) [(nI ((10 * ((kg le (p + 1)) - 48) + (kg le (p + 2))) - 48)), x1] xc vs))) (fun f => rfl) ?_
  refine mr_call (y := 134) (y0 := 139) (L := [some (.ref 138), some (.int 1), some (.int 1), none]) (rest := []) (rr := some (.int 1)) (M1 := (mk_M c n m kk (rT K xm xi xw im le nu rf ln nn (nI (p + 4)) [(nI ((10 * ((kg le (p + 1)) - 48) + (kg le (p + 2))) - 48)), (nI ((kg le (p + 3)) - 48))] xc vs))) (fun f => rfl) (rn_113_f K xm xi xw im le nu rf ln nn xc vs c n m kk p (nI ((10 * ((kg le (p + 1)) - 48) + (kg le (p + 2))) - 48)) x1 hB hp u3 w3) ?_
  refine mr_seg 8 (pc1 := 213) (ls1 := [some (.ref 138), some (.int c0), some (.int 1)]) (st1 := [.ref 138]) (M1 := (mk_M c n m kk (rT K xm xi xw im le nu rf ln nn (nI (p + 4)) [(nI ((10 * ((kg le (p + 1)) - 48) + (kg le (p + 2))) - 48)), (nI ((kg le (p + 3)) - 48))] xc vs))) (fun f => rfl) ?_
  refine mr_call (y := 133) (y0 := 216) (L := [some (.ref 138)]) (rest := []) (rr := some (.int (-1))) (M1 := (mk_M c n m kk (rT K xm xi xw im le nu rf ln nn (nI (p + 4)) [(nI ((10 * ((kg le (p + 1)) - 48) + (kg le (p + 2))) - 48)), (nI ((kg le (p + 3)) - 48))] xc vs))) (fun f => rfl) (mr_eq (kd_here (p + 4) [(nI ((10 * ((kg le (p + 1)) - 48) + (kg le (p + 2))) - 48)), (nI ((kg le (p + 3)) - 48))] K xm xi xw im le nu rf ln nn xc vs c n m kk hB (by omega)) (by rw [khere_f u4])) ?_
  exact mr_ret 4 (fun f => rfl)
set_option maxRecDepth 100000 in
theorem rs_1_4b (K : kK) (xm xi xw : List Int32) (im : Nat) (le nu rf : List Nat) (ln nn : Nat) (xc : List Int32) (vs : Int32) (c : cC) (n m kk : kG) (p : Nat) (x0 x1 : Int32) (c0 : Int32) (hB : iB le ln) (hp : p < 1000) (u1 : p + 1 < ln) (w1 : kfit 57 (kg le (p + 1)) = true) (u2 : p + 2 < ln) (w2 : kfit 57 (kg le (p + 2)) = true) (u3 : p + 3 < ln) (w3 : kfit 57 (kg le (p + 3)) = true) (u4 : p + 4 < ln) (w4 : kfit 59 (kg le (p + 4)) = false) : mm_R 132 124 [some (.ref 138), some (.int c0), none] [] (mk_M c n m kk (rT K xm xi xw im le nu rf ln nn (nI (p + 1)) [x0, x1] xc vs)) (some (.int 0), (mk_M c n m kk (rT K xm xi xw im le nu rf ln nn (nI (p + 4)) [(nI ((10 * ((kg le (p + 1)) - 48) + (kg le (p + 2))) - 48)), (nI ((kg le (p + 3)) - 48))] xc vs))) := by
  obtain ⟨b1, b2, b3⟩ := id hB
  have e1 := b2 (p + 1)
  have f1 := kfit_9.mp w1
  have e2 := b2 (p + 2)
  have f2 := kfit_9.mp w2
  have e3 := b2 (p + 3)
  have f3 := kfit_9.mp w3
  have e4 := b2 (p + 4)
  have f4 : ¬ kg le (p + 4) = 59 := fun q => by rw [kfit_s.mpr q] at w4; cases w4
  refine mr_seg 3 (pc1 := 127) (ls1 := [some (.ref 138), some (.int c0), none]) (st1 := [.int 2, .int 0, .ref 138]) (M1 := (mk_M c n m kk (rT K xm xi xw im le nu rf ln nn (nI (p + 1)) [x0, x1] xc vs))) (fun f => rfl) ?_
  refine mr_call (y := 134) (y0 := 130) (L := [some (.ref 138), some (.int 0), some (.int 2), none]) (rest := []) (rr := some (.int 1)) (M1 := (mk_M c n m kk (rT K xm xi xw im le nu rf ln nn (nI (p + 3)) [(nI ((10 * ((kg le (p + 1)) - 48) + (kg le (p + 2))) - 48)), x1] xc vs))) (fun f => rfl) (rn_021_ff K xm xi xw im le nu rf ln nn xc vs c n m kk p x0 x1 hB hp u1 w1 u2 w2) ?_
  refine mr_seg 4 (pc1 := 136) (ls1 := [some (.ref 138), some (.int c0), none]) (st1 := [.int 1, .int 1, .ref 138]) (M1 := (mk_M c n m kk (rT K xm xi xw im le nu rf ln nn (nI (p + 3)) [(nI ((10 * ((kg le (p + 1)) - 48) + (kg le (p + 2))) - 48)), x1] xc vs))) (fun f => rfl) ?_
  refine mr_call (y := 134) (y0 := 139) (L := [some (.ref 138), some (.int 1), some (.int 1), none]) (rest := []) (rr := some (.int 1)) (M1 := (mk_M c n m kk (rT K xm xi xw im le nu rf ln nn (nI (p + 4)) [(nI ((10 * ((kg le (p + 1)) - 48) + (kg le (p + 2))) - 48)), (nI ((kg le (p + 3)) - 48))] xc vs))) (fun f => rfl) (rn_113_f K xm xi xw im le nu rf ln nn xc vs c n m kk p (nI ((10 * ((kg le (p + 1)) - 48) + (kg le (p + 2))) - 48)) x1 hB hp u3 w3) ?_
  refine mr_seg 8 (pc1 := 213) (ls1 := [some (.ref 138), some (.int c0), some (.int 1)]) (st1 := [.ref 138]) (M1 := (mk_M c n m kk (rT K xm xi xw im le nu rf ln nn (nI (p + 4)) [(nI ((10 * ((kg le (p + 1)) - 48) + (kg le (p + 2))) - 48)), (nI ((kg le (p + 3)) - 48))] xc vs))) (fun f => rfl) ?_
  refine mr_call (y := 133) (y0 := 216) (L := [some (.ref 138)]) (rest := []) (rr := some (.int (nI (kg le (p + 4))))) (M1 := (mk_M c n m kk (rT K xm xi xw im le nu rf ln nn (nI (p + 4)) [(nI ((10 * ((kg le (p + 1)) - 48) + (kg le (p + 2))) - 48)), (nI ((kg le (p + 3)) - 48))] xc vs))) (fun f => rfl) (mr_eq (kd_here (p + 4) [(nI ((10 * ((kg le (p + 1)) - 48) + (kg le (p + 2))) - 48)), (nI ((kg le (p + 3)) - 48))] K xm xi xw im le nu rf ln nn xc vs c n m kk hB (by omega)) (by rw [khere_t u4])) ?_
  refine mr_seg 1 (pc1 := 218) (ls1 := [some (.ref 138), some (.int c0), some (.int 1)]) (st1 := [.int 59, .int (nI (kg le (p + 4)))]) (M1 := (mk_M c n m kk (rT K xm xi xw im le nu rf ln nn (nI (p + 4)) [(nI ((10 * ((kg le (p + 1)) - 48) + (kg le (p + 2))) - 48)), (nI ((kg le (p + 3)) - 48))] xc vs))) (fun f => rfl) ?_
  refine mr_f (C := (nI (kg le (p + 4))) = 59) (nI_eqf (a := kg le (p + 4)) (b := 59) (by omega)) (fun f => rfl) ?_
  exact mr_ret 2 (fun f => rfl)
set_option maxRecDepth 100000 in
theorem rs_2_ok (K : kK) (xm xi xw : List Int32) (im : Nat) (le nu rf : List Nat) (ln nn : Nat) (xc : List Int32) (vs : Int32) (c : cC) (n m kk : kG) (p : Nat) (x0 x1 : Int32) (c0 : Int32) (hB : iB le ln) (hp : p < 1000) (u1 : p + 1 < ln) (kd : Nat) (hkd : kkind (kg le (p + 1)) = some kd) (u2 : p + 2 < ln) (w2 : kfit 57 (kg le (p + 2)) = true) (u3 : p + 3 < ln) (w3 : kfit 59 (kg le (p + 3)) = true) : mm_R 132 161 [some (.ref 138), some (.int c0), none] [] (mk_M c n m kk (rT K xm xi xw im le nu rf ln nn (nI (p + 1)) [x0, x1] xc vs)) (some (.int 1), (mk_M c n m kk (rT K xm xi xw im le nu rf ln nn (nI (p + 4)) [(nI kd), (nI ((kg le (p + 2)) - 48))] xc vs))) := by
  obtain ⟨b1, b2, b3⟩ := id hB
  have e1 := b2 (p + 1)
  have f1 := kkind_le hkd
  have e2 := b2 (p + 2)
  have f2 := kfit_9.mp w2
  have e3 := b2 (p + 3)
  have f3 : kg le (p + 3) = 59 := kfit_s.mp w3
  refine mr_seg 1 (pc1 := 162) (ls1 := [some (.ref 138), some (.int c0), none]) (st1 := [.ref 138]) (M1 := (mk_M c n m kk (rT K xm xi xw im le nu rf ln nn (nI (p + 1)) [x0, x1] xc vs))) (fun f => rfl) ?_
  refine mr_call (y := 136) (y0 := 165) (L := [some (.ref 138)]) (rest := []) (rr := some (.int 1)) (M1 := (mk_M c n m kk (rT K xm xi xw im le nu rf ln nn (nI (p + 2)) [(nI kd), x1] xc vs))) (fun f => rfl) (by
      refine mr_seg 4 (pc1 := 6) (ls1 := [some (.ref 138)]) (st1 := [.ref 138, .int 0, .ref 146]) (M1 := (mk_M c n m kk (rT K xm xi xw im le nu rf ln nn (nI (p + 1)) [x0, x1] xc vs))) (fun f => rfl) ?_
      refine mr_call (y := 133) (y0 := 9) (L := [some (.ref 138)]) (rest := [.int 0, .ref 146]) (rr := some (.int (nI (kg le (p + 1))))) (M1 := (mk_M c n m kk (rT K xm xi xw im le nu rf ln nn (nI (p + 1)) [x0, x1] xc vs))) (fun f => rfl) (mr_eq (kd_here (p + 1) [x0, x1] K xm xi xw im le nu rf ln nn xc vs c n m kk hB (by omega)) (by rw [khere_t u1])) ?_
      refine mr_call (y := 137) (y0 := 12) (L := [some (.int (nI (kg le (p + 1))))]) (rest := [.int 0, .ref 146]) (rr := some (.int (nI kd))) (M1 := (mk_M c n m kk (rT K xm xi xw im le nu rf ln nn (nI (p + 1)) [x0, x1] xc vs))) (fun f => rfl) (mr_eq (kd_kb (c := kg le (p + 1)) (b2 _) _) (by rw [hkd] <;> rfl)) ?_
      refine mr_stn (xs := [x0, x1]) (ys := [(nI kd), x1]) (M2 := (mk_MR c n m kk (er K) xm xi xw (nI im) (le.map nI) (nu.map nI) (rf.map nI) (nI ln) (nI nn) (nI (p + 1)) [(nI kd), x1] xc vs)) rfl rfl (k := 0) (by decide) (show 0 < 2 by decide) rfl rfl ?_
      refine mr_M (mk_MRk c n m kk K xm xi xw im le nu rf ln nn (nI (p + 1)) [(nI kd), x1] xc vs) ?_
      refine mr_seg 6 (pc1 := 23) (ls1 := [some (.ref 138)]) (st1 := [.int 0, .ref 146, .int (nI (p + 1)), .ref 138]) (M1 := (mk_M c n m kk (rT K xm xi xw im le nu rf ln nn (nI (p + 1)) [(nI kd), x1] xc vs))) (fun f => rfl) ?_
      refine mr_ldn (xs := [(nI kd), x1]) rfl rfl (k := 0) (by decide) rfl ?_
      refine mr_t (C := 0 ≤ (nI kd)) (nI_let (a := 0) (b := kd) (by omega)) (fun f => rfl) ?_
      refine mr_seg 2 (pc1 := 33) (ls1 := [some (.ref 138)]) (st1 := [.int ((nI (p + 1)) + (1 : Int32)), .ref 138]) (M1 := (mk_M c n m kk (rT K xm xi xw im le nu rf ln nn (nI (p + 1)) [(nI kd), x1] xc vs))) (fun f => rfl) ?_
      refine mr_v (show nI (p + 1) + nI 1 = nI (p + 2) from nI_add (p + 1) 1) ?_
      refine mr_seg 1 (pc1 := 36) (ls1 := [some (.ref 138)]) (st1 := []) (M1 := (mk_MR c n m kk (er K) xm xi xw (nI im) (le.map nI) (nu.map nI) (rf.map nI) (nI ln) (nI nn) (nI (p + 2)) [(nI kd), x1] xc vs)) (fun f => rfl) ?_
      refine mr_M (mk_MRk c n m kk K xm xi xw im le nu rf ln nn (nI (p + 2)) [(nI kd), x1] xc vs) ?_
      refine mr_seg 3 (pc1 := 41) (ls1 := [some (.ref 138)]) (st1 := [.int 0, .ref 146]) (M1 := (mk_M c n m kk (rT K xm xi xw im le nu rf ln nn (nI (p + 2)) [(nI kd), x1] xc vs))) (fun f => rfl) ?_
      refine mr_ldn (xs := [(nI kd), x1]) rfl rfl (k := 0) (by decide) rfl ?_
      refine mr_f (C := (nI kd) < 0) (nI_ltf (a := kd) (b := 0) (by omega)) (fun f => rfl) ?_
      exact mr_ret 3 (fun f => rfl)) ?_
  refine mr_seg 4 (pc1 := 171) (ls1 := [some (.ref 138), some (.int c0), none]) (st1 := [.int 1, .int 1, .ref 138]) (M1 := (mk_M c n m kk (rT K xm xi xw im le nu rf ln nn (nI (p + 2)) [(nI kd), x1] xc vs))) (fun f => rfl) ?_
  refine mr_call (y := 134) (y0 := 174) (L := [some (.ref 138), some (.int 1), some (.int 1), none]) (rest := []) (rr := some (.int 1)) (M1 := (mk_M c n m kk (rT K xm xi xw im le nu rf ln nn (nI (p + 3)) [(nI kd), (nI ((kg le (p + 2)) - 48))] xc vs))) (fun f => rfl) (rn_112_f K xm xi xw im le nu rf ln nn xc vs c n m kk p (nI kd) x1 hB hp u2 w2) ?_
  refine mr_seg 8 (pc1 := 213) (ls1 := [some (.ref 138), some (.int c0), some (.int 1)]) (st1 := [.ref 138]) (M1 := (mk_M c n m kk (rT K xm xi xw im le nu rf ln nn (nI (p + 3)) [(nI kd), (nI ((kg le (p + 2)) - 48))] xc vs))) (fun f => rfl) ?_
  refine mr_call (y := 133) (y0 := 216) (L := [some (.ref 138)]) (rest := []) (rr := some (.int (nI (kg le (p + 3))))) (M1 := (mk_M c n m kk (rT K xm xi xw im le nu rf ln nn (nI (p + 3)) [(nI kd), (nI ((kg le (p + 2)) - 48))] xc vs))) (fun f => rfl) (mr_eq (kd_here (p + 3) [(nI kd), (nI ((kg le (p + 2)) - 48))] K xm xi xw im le nu rf ln nn xc vs c n m kk hB (by omega)) (by rw [khere_t u3])) ?_
  refine mr_seg 1 (pc1 := 218) (ls1 := [some (.ref 138), some (.int c0), some (.int 1)]) (st1 := [.int 59, .int (nI (kg le (p + 3)))]) (M1 := (mk_M c n m kk (rT K xm xi xw im le nu rf ln nn (nI (p + 3)) [(nI kd), (nI ((kg le (p + 2)) - 48))] xc vs))) (fun f => rfl) ?_
  refine mr_t (C := (nI (kg le (p + 3))) = 59) (nI_eqt (a := kg le (p + 3)) (b := 59) (by omega)) (fun f => rfl) ?_
  refine mr_seg 5 (pc1 := 230) (ls1 := [some (.ref 138), some (.int c0), some (.int 1)]) (st1 := [.int ((nI (p + 3)) + (1 : Int32)), .ref 138]) (M1 := (mk_M c n m kk (rT K xm xi xw im le nu rf ln nn (nI (p + 3)) [(nI kd), (nI ((kg le (p + 2)) - 48))] xc vs))) (fun f => rfl) ?_
  refine mr_v (show nI (p + 3) + nI 1 = nI (p + 4) from nI_add (p + 3) 1) ?_
  refine mr_seg 1 (pc1 := 233) (ls1 := [some (.ref 138), some (.int c0), some (.int 1)]) (st1 := []) (M1 := (mk_MR c n m kk (er K) xm xi xw (nI im) (le.map nI) (nu.map nI) (rf.map nI) (nI ln) (nI nn) (nI (p + 4)) [(nI kd), (nI ((kg le (p + 2)) - 48))] xc vs)) (fun f => rfl) ?_
  refine mr_M (mk_MRk c n m kk K xm xi xw im le nu rf ln nn (nI (p + 4)) [(nI kd), (nI ((kg le (p + 2)) - 48))] xc vs) ?_
  exact mr_ret 2 (fun f => rfl)
set_option maxRecDepth 100000 in
theorem rs_2_1e (K : kK) (xm xi xw : List Int32) (im : Nat) (le nu rf : List Nat) (ln nn : Nat) (xc : List Int32) (vs : Int32) (c : cC) (n m kk : kG) (p : Nat) (x0 x1 : Int32) (c0 : Int32) (hB : iB le ln) (hp : p < 1000) (u1 : ¬ p + 1 < ln) : mm_R 132 161 [some (.ref 138), some (.int c0), none] [] (mk_M c n m kk (rT K xm xi xw im le nu rf ln nn (nI (p + 1)) [x0, x1] xc vs)) (some (.int 0), (mk_M c n m kk (rT K xm xi xw im le nu rf ln nn (nI (p + 1)) [(-9), x1] xc vs))) := by
  obtain ⟨b1, b2, b3⟩ := id hB
  refine mr_seg 1 (pc1 := 162) (ls1 := [some (.ref 138), some (.int c0), none]) (st1 := [.ref 138]) (M1 := (mk_M c n m kk (rT K xm xi xw im le nu rf ln nn (nI (p + 1)) [x0, x1] xc vs))) (fun f => rfl) ?_
  refine mr_call (y := 136) (y0 := 165) (L := [some (.ref 138)]) (rest := []) (rr := some (.int 0)) (M1 := (mk_M c n m kk (rT K xm xi xw im le nu rf ln nn (nI (p + 1)) [(-9), x1] xc vs))) (fun f => rfl) (by
      refine mr_seg 4 (pc1 := 6) (ls1 := [some (.ref 138)]) (st1 := [.ref 138, .int 0, .ref 146]) (M1 := (mk_M c n m kk (rT K xm xi xw im le nu rf ln nn (nI (p + 1)) [x0, x1] xc vs))) (fun f => rfl) ?_
      refine mr_call (y := 133) (y0 := 9) (L := [some (.ref 138)]) (rest := [.int 0, .ref 146]) (rr := some (.int (-1))) (M1 := (mk_M c n m kk (rT K xm xi xw im le nu rf ln nn (nI (p + 1)) [x0, x1] xc vs))) (fun f => rfl) (mr_eq (kd_here (p + 1) [x0, x1] K xm xi xw im le nu rf ln nn xc vs c n m kk hB (by omega)) (by rw [khere_f u1])) ?_
      refine mr_call (y := 137) (y0 := 12) (L := [some (.int (-1))]) (rest := [.int 0, .ref 146]) (rr := some (.int (-9))) (M1 := (mk_M c n m kk (rT K xm xi xw im le nu rf ln nn (nI (p + 1)) [x0, x1] xc vs))) (fun f => rfl) (by
          exact mr_ret 4 (fun f => rfl)) ?_
      refine mr_stn (xs := [x0, x1]) (ys := [(-9), x1]) (M2 := (mk_MR c n m kk (er K) xm xi xw (nI im) (le.map nI) (nu.map nI) (rf.map nI) (nI ln) (nI nn) (nI (p + 1)) [(-9), x1] xc vs)) rfl rfl (k := 0) (by decide) (show 0 < 2 by decide) rfl rfl ?_
      refine mr_M (mk_MRk c n m kk K xm xi xw im le nu rf ln nn (nI (p + 1)) [(-9), x1] xc vs) ?_
      refine mr_seg 6 (pc1 := 23) (ls1 := [some (.ref 138)]) (st1 := [.int 0, .ref 146, .int (nI (p + 1)), .ref 138]) (M1 := (mk_M c n m kk (rT K xm xi xw im le nu rf ln nn (nI (p + 1)) [(-9), x1] xc vs))) (fun f => rfl) ?_
      refine mr_ldn (xs := [(-9), x1]) rfl rfl (k := 0) (by decide) rfl ?_
      refine mr_seg 4 (pc1 := 33) (ls1 := [some (.ref 138)]) (st1 := [.int ((nI (p + 1)) + (0 : Int32)), .ref 138]) (M1 := (mk_M c n m kk (rT K xm xi xw im le nu rf ln nn (nI (p + 1)) [(-9), x1] xc vs))) (fun f => rfl) ?_
      refine mr_v (show nI (p + 1) + nI 0 = nI (p + 1) from nI_add (p + 1) 0) ?_
      refine mr_seg 1 (pc1 := 36) (ls1 := [some (.ref 138)]) (st1 := []) (M1 := (mk_MR c n m kk (er K) xm xi xw (nI im) (le.map nI) (nu.map nI) (rf.map nI) (nI ln) (nI nn) (nI (p + 1)) [(-9), x1] xc vs)) (fun f => rfl) ?_
      refine mr_M (mk_MRk c n m kk K xm xi xw im le nu rf ln nn (nI (p + 1)) [(-9), x1] xc vs) ?_
      refine mr_seg 3 (pc1 := 41) (ls1 := [some (.ref 138)]) (st1 := [.int 0, .ref 146]) (M1 := (mk_M c n m kk (rT K xm xi xw im le nu rf ln nn (nI (p + 1)) [(-9), x1] xc vs))) (fun f => rfl) ?_
      refine mr_ldn (xs := [(-9), x1]) rfl rfl (k := 0) (by decide) rfl ?_
      exact mr_ret 3 (fun f => rfl)) ?_
  exact mr_ret 8 (fun f => rfl)
set_option maxRecDepth 100000 in
theorem rs_2_1b (K : kK) (xm xi xw : List Int32) (im : Nat) (le nu rf : List Nat) (ln nn : Nat) (xc : List Int32) (vs : Int32) (c : cC) (n m kk : kG) (p : Nat) (x0 x1 : Int32) (c0 : Int32) (hB : iB le ln) (hp : p < 1000) (u1 : p + 1 < ln) (hkd : kkind (kg le (p + 1)) = none) : mm_R 132 161 [some (.ref 138), some (.int c0), none] [] (mk_M c n m kk (rT K xm xi xw im le nu rf ln nn (nI (p + 1)) [x0, x1] xc vs)) (some (.int 0), (mk_M c n m kk (rT K xm xi xw im le nu rf ln nn (nI (p + 1)) [(-9), x1] xc vs))) := by
  obtain ⟨b1, b2, b3⟩ := id hB
  have e1 := b2 (p + 1)
  refine mr_seg 1 (pc1 := 162) (ls1 := [some (.ref 138), some (.int c0), none]) (st1 := [.ref 138]) (M1 := (mk_M c n m kk (rT K xm xi xw im le nu rf ln nn (nI (p + 1)) [x0, x1] xc vs))) (fun f => rfl) ?_
  refine mr_call (y := 136) (y0 := 165) (L := [some (.ref 138)]) (rest := []) (rr := some (.int 0)) (M1 := (mk_M c n m kk (rT K xm xi xw im le nu rf ln nn (nI (p + 1)) [(-9), x1] xc vs))) (fun f => rfl) (by
      refine mr_seg 4 (pc1 := 6) (ls1 := [some (.ref 138)]) (st1 := [.ref 138, .int 0, .ref 146]) (M1 := (mk_M c n m kk (rT K xm xi xw im le nu rf ln nn (nI (p + 1)) [x0, x1] xc vs))) (fun f => rfl) ?_
      refine mr_call (y := 133) (y0 := 9) (L := [some (.ref 138)]) (rest := [.int 0, .ref 146]) (rr := some (.int (nI (kg le (p + 1))))) (M1 := (mk_M c n m kk (rT K xm xi xw im le nu rf ln nn (nI (p + 1)) [x0, x1] xc vs))) (fun f => rfl) (mr_eq (kd_here (p + 1) [x0, x1] K xm xi xw im le nu rf ln nn xc vs c n m kk hB (by omega)) (by rw [khere_t u1])) ?_
      refine mr_call (y := 137) (y0 := 12) (L := [some (.int (nI (kg le (p + 1))))]) (rest := [.int 0, .ref 146]) (rr := some (.int (-9))) (M1 := (mk_M c n m kk (rT K xm xi xw im le nu rf ln nn (nI (p + 1)) [x0, x1] xc vs))) (fun f => rfl) (mr_eq (kd_kb (c := kg le (p + 1)) (b2 _) _) (by rw [hkd] <;> rfl)) ?_
      refine mr_stn (xs := [x0, x1]) (ys := [(-9), x1]) (M2 := (mk_MR c n m kk (er K) xm xi xw (nI im) (le.map nI) (nu.map nI) (rf.map nI) (nI ln) (nI nn) (nI (p + 1)) [(-9), x1] xc vs)) rfl rfl (k := 0) (by decide) (show 0 < 2 by decide) rfl rfl ?_
      refine mr_M (mk_MRk c n m kk K xm xi xw im le nu rf ln nn (nI (p + 1)) [(-9), x1] xc vs) ?_
      refine mr_seg 6 (pc1 := 23) (ls1 := [some (.ref 138)]) (st1 := [.int 0, .ref 146, .int (nI (p + 1)), .ref 138]) (M1 := (mk_M c n m kk (rT K xm xi xw im le nu rf ln nn (nI (p + 1)) [(-9), x1] xc vs))) (fun f => rfl) ?_
      refine mr_ldn (xs := [(-9), x1]) rfl rfl (k := 0) (by decide) rfl ?_
      refine mr_seg 4 (pc1 := 33) (ls1 := [some (.ref 138)]) (st1 := [.int ((nI (p + 1)) + (0 : Int32)), .ref 138]) (M1 := (mk_M c n m kk (rT K xm xi xw im le nu rf ln nn (nI (p + 1)) [(-9), x1] xc vs))) (fun f => rfl) ?_
      refine mr_v (show nI (p + 1) + nI 0 = nI (p + 1) from nI_add (p + 1) 0) ?_
      refine mr_seg 1 (pc1 := 36) (ls1 := [some (.ref 138)]) (st1 := []) (M1 := (mk_MR c n m kk (er K) xm xi xw (nI im) (le.map nI) (nu.map nI) (rf.map nI) (nI ln) (nI nn) (nI (p + 1)) [(-9), x1] xc vs)) (fun f => rfl) ?_
      refine mr_M (mk_MRk c n m kk K xm xi xw im le nu rf ln nn (nI (p + 1)) [(-9), x1] xc vs) ?_
      refine mr_seg 3 (pc1 := 41) (ls1 := [some (.ref 138)]) (st1 := [.int 0, .ref 146]) (M1 := (mk_M c n m kk (rT K xm xi xw im le nu rf ln nn (nI (p + 1)) [(-9), x1] xc vs))) (fun f => rfl) ?_
      refine mr_ldn (xs := [(-9), x1]) rfl rfl (k := 0) (by decide) rfl ?_
      exact mr_ret 3 (fun f => rfl)) ?_
  exact mr_ret 8 (fun f => rfl)
set_option maxRecDepth 100000 in
theorem rs_2_2e (K : kK) (xm xi xw : List Int32) (im : Nat) (le nu rf : List Nat) (ln nn : Nat) (xc : List Int32) (vs : Int32) (c : cC) (n m kk : kG) (p : Nat) (x0 x1 : Int32) (c0 : Int32) (hB : iB le ln) (hp : p < 1000) (u1 : p + 1 < ln) (kd : Nat) (hkd : kkind (kg le (p + 1)) = some kd) (u2 : ¬ p + 2 < ln) : mm_R 132 161 [some (.ref 138), some (.int c0), none] [] (mk_M c n m kk (rT K xm xi xw im le nu rf ln nn (nI (p + 1)) [x0, x1] xc vs)) (some (.int 0), (mk_M c n m kk (rT K xm xi xw im le nu rf ln nn (nI (p + 2)) [(nI kd), 0] xc vs))) := by
  obtain ⟨b1, b2, b3⟩ := id hB
  have e1 := b2 (p + 1)
  have f1 := kkind_le hkd
  refine mr_seg 1 (pc1 := 162) (ls1 := [some (.ref 138), some (.int c0), none]) (st1 := [.ref 138]) (M1 := (mk_M c n m kk (rT K xm xi xw im le nu rf ln nn (nI (p + 1)) [x0, x1] xc vs))) (fun f => rfl) ?_
  refine mr_call (y := 136) (y0 := 165) (L := [some (.ref 138)]) (rest := []) (rr := some (.int 1)) (M1 := (mk_M c n m kk (rT K xm xi xw im le nu rf ln nn (nI (p + 2)) [(nI kd), x1] xc vs))) (fun f => rfl) (by
      refine mr_seg 4 (pc1 := 6) (ls1 := [some (.ref 138)]) (st1 := [.ref 138, .int 0, .ref 146]) (M1 := (mk_M c n m kk (rT K xm xi xw im le nu rf ln nn (nI (p + 1)) [x0, x1] xc vs))) (fun f => rfl) ?_
      refine mr_call (y := 133) (y0 := 9) (L := [some (.ref 138)]) (rest := [.int 0, .ref 146]) (rr := some (.int (nI (kg le (p + 1))))) (M1 := (mk_M c n m kk (rT K xm xi xw im le nu rf ln nn (nI (p + 1)) [x0, x1] xc vs))) (fun f => rfl) (mr_eq (kd_here (p + 1) [x0, x1] K xm xi xw im le nu rf ln nn xc vs c n m kk hB (by omega)) (by rw [khere_t u1])) ?_
      refine mr_call (y := 137) (y0 := 12) (L := [some (.int (nI (kg le (p + 1))))]) (rest := [.int 0, .ref 146]) (rr := some (.int (nI kd))) (M1 := (mk_M c n m kk (rT K xm xi xw im le nu rf ln nn (nI (p + 1)) [x0, x1] xc vs))) (fun f => rfl) (mr_eq (kd_kb (c := kg le (p + 1)) (b2 _) _) (by rw [hkd] <;> rfl)) ?_
      refine mr_stn (xs := [x0, x1]) (ys := [(nI kd), x1]) (M2 := (mk_MR c n m kk (er K) xm xi xw (nI im) (le.map nI) (nu.map nI) (rf.map nI) (nI ln) (nI nn) (nI (p + 1)) [(nI kd), x1] xc vs)) rfl rfl (k := 0) (by decide) (show 0 < 2 by decide) rfl rfl ?_
      refine mr_M (mk_MRk c n m kk K xm xi xw im le nu rf ln nn (nI (p + 1)) [(nI kd), x1] xc vs) ?_
      refine mr_seg 6 (pc1 := 23) (ls1 := [some (.ref 138)]) (st1 := [.int 0, .ref 146, .int (nI (p + 1)), .ref 138]) (M1 := (mk_M c n m kk (rT K xm xi xw im le nu rf ln nn (nI (p + 1)) [(nI kd), x1] xc vs))) (fun f => rfl) ?_
      refine mr_ldn (xs := [(nI kd), x1]) rfl rfl (k := 0) (by decide) rfl ?_
      refine mr_t (C := 0 ≤ (nI kd)) (nI_let (a := 0) (b := kd) (by omega)) (fun f => rfl) ?_
      refine mr_seg 2 (pc1 := 33) (ls1 := [some (.ref 138)]) (st1 := [.int ((nI (p + 1)) + (1 : Int32)), .ref 138]) (M1 := (mk_M c n m kk (rT K xm xi xw im le nu rf ln nn (nI (p + 1)) [(nI kd), x1] xc vs))) (fun f => rfl) ?_
      refine mr_v (show nI (p + 1) + nI 1 = nI (p + 2) from nI_add (p + 1) 1) ?_
      refine mr_seg 1 (pc1 := 36) (ls1 := [some (.ref 138)]) (st1 := []) (M1 := (mk_MR c n m kk (er K) xm xi xw (nI im) (le.map nI) (nu.map nI) (rf.map nI) (nI ln) (nI nn) (nI (p + 2)) [(nI kd), x1] xc vs)) (fun f => rfl) ?_
      refine mr_M (mk_MRk c n m kk K xm xi xw im le nu rf ln nn (nI (p + 2)) [(nI kd), x1] xc vs) ?_
      refine mr_seg 3 (pc1 := 41) (ls1 := [some (.ref 138)]) (st1 := [.int 0, .ref 146]) (M1 := (mk_M c n m kk (rT K xm xi xw im le nu rf ln nn (nI (p + 2)) [(nI kd), x1] xc vs))) (fun f => rfl) ?_
      refine mr_ldn (xs := [(nI kd), x1]) rfl rfl (k := 0) (by decide) rfl ?_
      refine mr_f (C := (nI kd) < 0) (nI_ltf (a := kd) (b := 0) (by omega)) (fun f => rfl) ?_
      exact mr_ret 3 (fun f => rfl)) ?_
  refine mr_seg 4 (pc1 := 171) (ls1 := [some (.ref 138), some (.int c0), none]) (st1 := [.int 1, .int 1, .ref 138]) (M1 := (mk_M c n m kk (rT K xm xi xw im le nu rf ln nn (nI (p + 2)) [(nI kd), x1] xc vs))) (fun f => rfl) ?_
  refine mr_call (y := 134) (y0 := 174) (L := [some (.ref 138), some (.int 1), some (.int 1), none]) (rest := []) (rr := some (.int 0)) (M1 := (mk_M c n m kk (rT K xm xi xw im le nu rf ln nn (nI (p + 2)) [(nI kd), 0] xc vs))) (fun f => rfl) (rn_112_e K xm xi xw im le nu rf ln nn xc vs c n m kk p (nI kd) x1 hB hp u2) ?_
  exact mr_ret 8 (fun f => rfl)
set_option maxRecDepth 100000 in
theorem rs_2_2b (K : kK) (xm xi xw : List Int32) (im : Nat) (le nu rf : List Nat) (ln nn : Nat) (xc : List Int32) (vs : Int32) (c : cC) (n m kk : kG) (p : Nat) (x0 x1 : Int32) (c0 : Int32) (hB : iB le ln) (hp : p < 1000) (u1 : p + 1 < ln) (kd : Nat) (hkd : kkind (kg le (p + 1)) = some kd) (u2 : p + 2 < ln) (w2 : kfit 57 (kg le (p + 2)) = false) : mm_R 132 161 [some (.ref 138), some (.int c0), none] [] (mk_M c n m kk (rT K xm xi xw im le nu rf ln nn (nI (p + 1)) [x0, x1] xc vs)) (some (.int 0), (mk_M c n m kk (rT K xm xi xw im le nu rf ln nn (nI (p + 2)) [(nI kd), 0] xc vs))) := by
  obtain ⟨b1, b2, b3⟩ := id hB
  have e1 := b2 (p + 1)
  have f1 := kkind_le hkd
  have e2 := b2 (p + 2)
  refine mr_seg 1 (pc1 := 162) (ls1 := [some (.ref 138), some (.int c0), none]) (st1 := [.ref 138]) (M1 := (mk_M c n m kk (rT K xm xi xw im le nu rf ln nn (nI (p + 1)) [x0, x1] xc vs))) (fun f => rfl) ?_
  refine mr_call (y := 136) (y0 := 165) (L := [some (.ref 138)]) (rest := []) (rr := some (.int 1)) (M1 := (mk_M c n m kk (rT K xm xi xw im le nu rf ln nn (nI (p + 2)) [(nI kd), x1] xc vs))) (fun f => rfl) (by
      refine mr_seg 4 (pc1 := 6) (ls1 := [some (.ref 138)]) (st1 := [.ref 138, .int 0, .ref 146]) (M1 := (mk_M c n m kk (rT K xm xi xw im le nu rf ln nn (nI (p + 1)) [x0, x1] xc vs))) (fun f => rfl) ?_
      refine mr_call (y := 133) (y0 := 9) (L := [some (.ref 138)]) (rest := [.int 0, .ref 146]) (rr := some (.int (nI (kg le (p + 1))))) (M1 := (mk_M c n m kk (rT K xm xi xw im le nu rf ln nn (nI (p + 1)) [x0, x1] xc vs))) (fun f => rfl) (mr_eq (kd_here (p + 1) [x0, x1] K xm xi xw im le nu rf ln nn xc vs c n m kk hB (by omega)) (by rw [khere_t u1])) ?_
      refine mr_call (y := 137) (y0 := 12) (L := [some (.int (nI (kg le (p + 1))))]) (rest := [.int 0, .ref 146]) (rr := some (.int (nI kd))) (M1 := (mk_M c n m kk (rT K xm xi xw im le nu rf ln nn (nI (p + 1)) [x0, x1] xc vs))) (fun f => rfl) (mr_eq (kd_kb (c := kg le (p + 1)) (b2 _) _) (by rw [hkd] <;> rfl)) ?_
      refine mr_stn (xs := [x0, x1]) (ys := [(nI kd), x1]) (M2 := (mk_MR c n m kk (er K) xm xi xw (nI im) (le.map nI) (nu.map nI) (rf.map nI) (nI ln) (nI nn) (nI (p + 1)) [(nI kd), x1] xc vs)) rfl rfl (k := 0) (by decide) (show 0 < 2 by decide) rfl rfl ?_
      refine mr_M (mk_MRk c n m kk K xm xi xw im le nu rf ln nn (nI (p + 1)) [(nI kd), x1] xc vs) ?_
      refine mr_seg 6 (pc1 := 23) (ls1 := [some (.ref 138)]) (st1 := [.int 0, .ref 146, .int (nI (p + 1)), .ref 138]) (M1 := (mk_M c n m kk (rT K xm xi xw im le nu rf ln nn (nI (p + 1)) [(nI kd), x1] xc vs))) (fun f => rfl) ?_
      refine mr_ldn (xs := [(nI kd), x1]) rfl rfl (k := 0) (by decide) rfl ?_
      refine mr_t (C := 0 ≤ (nI kd)) (nI_let (a := 0) (b := kd) (by omega)) (fun f => rfl) ?_
      refine mr_seg 2 (pc1 := 33) (ls1 := [some (.ref 138)]) (st1 := [.int ((nI (p + 1)) + (1 : Int32)), .ref 138]) (M1 := (mk_M c n m kk (rT K xm xi xw im le nu rf ln nn (nI (p + 1)) [(nI kd), x1] xc vs))) (fun f => rfl) ?_
      refine mr_v (show nI (p + 1) + nI 1 = nI (p + 2) from nI_add (p + 1) 1) ?_
      refine mr_seg 1 (pc1 := 36) (ls1 := [some (.ref 138)]) (st1 := []) (M1 := (mk_MR c n m kk (er K) xm xi xw (nI im) (le.map nI) (nu.map nI) (rf.map nI) (nI ln) (nI nn) (nI (p + 2)) [(nI kd), x1] xc vs)) (fun f => rfl) ?_
      refine mr_M (mk_MRk c n m kk K xm xi xw im le nu rf ln nn (nI (p + 2)) [(nI kd), x1] xc vs) ?_
      refine mr_seg 3 (pc1 := 41) (ls1 := [some (.ref 138)]) (st1 := [.int 0, .ref 146]) (M1 := (mk_M c n m kk (rT K xm xi xw im le nu rf ln nn (nI (p + 2)) [(nI kd), x1] xc vs))) (fun f => rfl) ?_
      refine mr_ldn (xs := [(nI kd), x1]) rfl rfl (k := 0) (by decide) rfl ?_
      refine mr_f (C := (nI kd) < 0) (nI_ltf (a := kd) (b := 0) (by omega)) (fun f => rfl) ?_
      exact mr_ret 3 (fun f => rfl)) ?_
  refine mr_seg 4 (pc1 := 171) (ls1 := [some (.ref 138), some (.int c0), none]) (st1 := [.int 1, .int 1, .ref 138]) (M1 := (mk_M c n m kk (rT K xm xi xw im le nu rf ln nn (nI (p + 2)) [(nI kd), x1] xc vs))) (fun f => rfl) ?_
  refine mr_call (y := 134) (y0 := 174) (L := [some (.ref 138), some (.int 1), some (.int 1), none]) (rest := []) (rr := some (.int 0)) (M1 := (mk_M c n m kk (rT K xm xi xw im le nu rf ln nn (nI (p + 2)) [(nI kd), 0] xc vs))) (fun f => rfl) (rn_112_b K xm xi xw im le nu rf ln nn xc vs c n m kk p (nI kd) x1 hB hp u2 w2) ?_
  exact mr_ret 8 (fun f => rfl)
set_option maxRecDepth 100000 in
theorem rs_2_3e (K : kK) (xm xi xw : List Int32) (im : Nat) (le nu rf : List Nat) (ln nn : Nat) (xc : List Int32) (vs : Int32) (c : cC) (n m kk : kG) (p : Nat) (x0 x1 : Int32) (c0 : Int32) (hB : iB le ln) (hp : p < 1000) (u1 : p + 1 < ln) (kd : Nat) (hkd : kkind (kg le (p + 1)) = some kd) (u2 : p + 2 < ln) (w2 : kfit 57 (kg le (p + 2)) = true) (u3 : ¬ p + 3 < ln) : mm_R 132 161 [some (.ref 138), some (.int c0), none] [] (mk_M c n m kk (rT K xm xi xw im le nu rf ln nn (nI (p + 1)) [x0, x1] xc vs)) (some (.int 0), (mk_M c n m kk (rT K xm xi xw im le nu rf ln nn (nI (p + 3)) [(nI kd), (nI ((kg le (p + 2)) - 48))] xc vs))) := by
  obtain ⟨b1, b2, b3⟩ := id hB
  have e1 := b2 (p + 1)
  have f1 := kkind_le hkd
  have e2 := b2 (p + 2)
  have f2 := kfit_9.mp w2
  refine mr_seg 1 (pc1 := 162) (ls1 := [some (.ref 138), some (.int c0), none]) (st1 := [.ref 138]) (M1 := (mk_M c n m kk (rT K xm xi xw im le nu rf ln nn (nI (p + 1)) [x0, x1] xc vs))) (fun f => rfl) ?_
  refine mr_call (y := 136) (y0 := 165) (L := [some (.ref 138)]) (rest := []) (rr := some (.int 1)) (M1 := (mk_M c n m kk (rT K xm xi xw im le nu rf ln nn (nI (p + 2)) [(nI kd), x1] xc vs))) (fun f => rfl) (by
      refine mr_seg 4 (pc1 := 6) (ls1 := [some (.ref 138)]) (st1 := [.ref 138, .int 0, .ref 146]) (M1 := (mk_M c n m kk (rT K xm xi xw im le nu rf ln nn (nI (p + 1)) [x0, x1] xc vs))) (fun f => rfl) ?_
      refine mr_call (y := 133) (y0 := 9) (L := [some (.ref 138)]) (rest := [.int 0, .ref 146]) (rr := some (.int (nI (kg le (p + 1))))) (M1 := (mk_M c n m kk (rT K xm xi xw im le nu rf ln nn (nI (p + 1)) [x0, x1] xc vs))) (fun f => rfl) (mr_eq (kd_here (p + 1) [x0, x1] K xm xi xw im le nu rf ln nn xc vs c n m kk hB (by omega)) (by rw [khere_t u1])) ?_
      refine mr_call (y := 137) (y0 := 12) (L := [some (.int (nI (kg le (p + 1))))]) (rest := [.int 0, .ref 146]) (rr := some (.int (nI kd))) (M1 := (mk_M c n m kk (rT K xm xi xw im le nu rf ln nn (nI (p + 1)) [x0, x1] xc vs))) (fun f => rfl) (mr_eq (kd_kb (c := kg le (p + 1)) (b2 _) _) (by rw [hkd] <;> rfl)) ?_
      refine mr_stn (xs := [x0, x1]) (ys := [(nI kd), x1]) (M2 := (mk_MR c n m kk (er K) xm xi xw (nI im) (le.map nI) (nu.map nI) (rf.map nI) (nI ln) (nI nn) (nI (p + 1)) [(nI kd), x1] xc vs)) rfl rfl (k := 0) (by decide) (show 0 < 2 by decide) rfl rfl ?_
      refine mr_M (mk_MRk c n m kk K xm xi xw im le nu rf ln nn (nI (p + 1)) [(nI kd), x1] xc vs) ?_
      refine mr_seg 6 (pc1 := 23) (ls1 := [some (.ref 138)]) (st1 := [.int 0, .ref 146, .int (nI (p + 1)), .ref 138]) (M1 := (mk_M c n m kk (rT K xm xi xw im le nu rf ln nn (nI (p + 1)) [(nI kd), x1] xc vs))) (fun f => rfl) ?_
      refine mr_ldn (xs := [(nI kd), x1]) rfl rfl (k := 0) (by decide) rfl ?_
      refine mr_t (C := 0 ≤ (nI kd)) (nI_let (a := 0) (b := kd) (by omega)) (fun f => rfl) ?_
      refine mr_seg 2 (pc1 := 33) (ls1 := [some (.ref 138)]) (st1 := [.int ((nI (p + 1)) + (1 : Int32)), .ref 138]) (M1 := (mk_M c n m kk (rT K xm xi xw im le nu rf ln nn (nI (p + 1)) [(nI kd), x1] xc vs))) (fun f => rfl) ?_
      refine mr_v (show nI (p + 1) + nI 1 = nI (p + 2) from nI_add (p + 1) 1) ?_
      refine mr_seg 1 (pc1 := 36) (ls1 := [some (.ref 138)]) (st1 := []) (M1 := (mk_MR c n m kk (er K) xm xi xw (nI im) (le.map nI) (nu.map nI) (rf.map nI) (nI ln) (nI nn) (nI (p + 2)) [(nI kd), x1] xc vs)) (fun f => rfl) ?_
      refine mr_M (mk_MRk c n m kk K xm xi xw im le nu rf ln nn (nI (p + 2)) [(nI kd), x1] xc vs) ?_
      refine mr_seg 3 (pc1 := 41) (ls1 := [some (.ref 138)]) (st1 := [.int 0, .ref 146]) (M1 := (mk_M c n m kk (rT K xm xi xw im le nu rf ln nn (nI (p + 2)) [(nI kd), x1] xc vs))) (fun f => rfl) ?_
      refine mr_ldn (xs := [(nI kd), x1]) rfl rfl (k := 0) (by decide) rfl ?_
      refine mr_f (C := (nI kd) < 0) (nI_ltf (a := kd) (b := 0) (by omega)) (fun f => rfl) ?_
      exact mr_ret 3 (fun f => rfl)) ?_
  refine mr_seg 4 (pc1 := 171) (ls1 := [some (.ref 138), some (.int c0), none]) (st1 := [.int 1, .int 1, .ref 138]) (M1 := (mk_M c n m kk (rT K xm xi xw im le nu rf ln nn (nI (p + 2)) [(nI kd), x1] xc vs))) (fun f => rfl) ?_
  refine mr_call (y := 134) (y0 := 174) (L := [some (.ref 138), some (.int 1), some (.int 1), none]) (rest := []) (rr := some (.int 1)) (M1 := (mk_M c n m kk (rT K xm xi xw im le nu rf ln nn (nI (p + 3)) [(nI kd), (nI ((kg le (p + 2)) - 48))] xc vs))) (fun f => rfl) (rn_112_f K xm xi xw im le nu rf ln nn xc vs c n m kk p (nI kd) x1 hB hp u2 w2) ?_
  refine mr_seg 8 (pc1 := 213) (ls1 := [some (.ref 138), some (.int c0), some (.int 1)]) (st1 := [.ref 138]) (M1 := (mk_M c n m kk (rT K xm xi xw im le nu rf ln nn (nI (p + 3)) [(nI kd), (nI ((kg le (p + 2)) - 48))] xc vs))) (fun f => rfl) ?_
  refine mr_call (y := 133) (y0 := 216) (L := [some (.ref 138)]) (rest := []) (rr := some (.int (-1))) (M1 := (mk_M c n m kk (rT K xm xi xw im le nu rf ln nn (nI (p + 3)) [(nI kd), (nI ((kg le (p + 2)) - 48))] xc vs))) (fun f => rfl) (mr_eq (kd_here (p + 3) [(nI kd), (nI ((kg le (p + 2)) - 48))] K xm xi xw im le nu rf ln nn xc vs c n m kk hB (by omega)) (by rw [khere_f u3])) ?_
  exact mr_ret 4 (fun f => rfl)
set_option maxRecDepth 100000 in
theorem rs_2_3b (K : kK) (xm xi xw : List Int32) (im : Nat) (le nu rf : List Nat) (ln nn : Nat) (xc : List Int32) (vs : Int32) (c : cC) (n m kk : kG) (p : Nat) (x0 x1 : Int32) (c0 : Int32) (hB : iB le ln) (hp : p < 1000) (u1 : p + 1 < ln) (kd : Nat) (hkd : kkind (kg le (p + 1)) = some kd) (u2 : p + 2 < ln) (w2 : kfit 57 (kg le (p + 2)) = true) (u3 : p + 3 < ln) (w3 : kfit 59 (kg le (p + 3)) = false) : mm_R 132 161 [some (.ref 138), some (.int c0), none] [] (mk_M c n m kk (rT K xm xi xw im le nu rf ln nn (nI (p + 1)) [x0, x1] xc vs)) (some (.int 0), (mk_M c n m kk (rT K xm xi xw im le nu rf ln nn (nI (p + 3)) [(nI kd), (nI ((kg le (p + 2)) - 48))] xc vs))) := by
  obtain ⟨b1, b2, b3⟩ := id hB
  have e1 := b2 (p + 1)
  have f1 := kkind_le hkd
  have e2 := b2 (p + 2)
  have f2 := kfit_9.mp w2
  have e3 := b2 (p + 3)
  have f3 : ¬ kg le (p + 3) = 59 := fun q => by rw [kfit_s.mpr q] at w3; cases w3
  refine mr_seg 1 (pc1 := 162) (ls1 := [some (.ref 138), some (.int c0), none]) (st1 := [.ref 138]) (M1 := (mk_M c n m kk (rT K xm xi xw im le nu rf ln nn (nI (p + 1)) [x0, x1] xc vs))) (fun f => rfl) ?_
  refine mr_call (y := 136) (y0 := 165) (L := [some (.ref 138)]) (rest := []) (rr := some (.int 1)) (M1 := (mk_M c n m kk (rT K xm xi xw im le nu rf ln nn (nI (p + 2)) [(nI kd), x1] xc vs))) (fun f => rfl) (by
      refine mr_seg 4 (pc1 := 6) (ls1 := [some (.ref 138)]) (st1 := [.ref 138, .int 0, .ref 146]) (M1 := (mk_M c n m kk (rT K xm xi xw im le nu rf ln nn (nI (p + 1)) [x0, x1] xc vs))) (fun f => rfl) ?_
      refine mr_call (y := 133) (y0 := 9) (L := [some (.ref 138)]) (rest := [.int 0, .ref 146]) (rr := some (.int (nI (kg le (p + 1))))) (M1 := (mk_M c n m kk (rT K xm xi xw im le nu rf ln nn (nI (p + 1)) [x0, x1] xc vs))) (fun f => rfl) (mr_eq (kd_here (p + 1) [x0, x1] K xm xi xw im le nu rf ln nn xc vs c n m kk hB (by omega)) (by rw [khere_t u1])) ?_
      refine mr_call (y := 137) (y0 := 12) (L := [some (.int (nI (kg le (p + 1))))]) (rest := [.int 0, .ref 146]) (rr := some (.int (nI kd))) (M1 := (mk_M c n m kk (rT K xm xi xw im le nu rf ln nn (nI (p + 1)) [x0, x1] xc vs))) (fun f => rfl) (mr_eq (kd_kb (c := kg le (p + 1)) (b2 _) _) (by rw [hkd] <;> rfl)) ?_
      refine mr_stn (xs := [x0, x1]) (ys := [(nI kd), x1]) (M2 := (mk_MR c n m kk (er K) xm xi xw (nI im) (le.map nI) (nu.map nI) (rf.map nI) (nI ln) (nI nn) (nI (p + 1)) [(nI kd), x1] xc vs)) rfl rfl (k := 0) (by decide) (show 0 < 2 by decide) rfl rfl ?_
      refine mr_M (mk_MRk c n m kk K xm xi xw im le nu rf ln nn (nI (p + 1)) [(nI kd), x1] xc vs) ?_
      refine mr_seg 6 (pc1 := 23) (ls1 := [some (.ref 138)]) (st1 := [.int 0, .ref 146, .int (nI (p + 1)), .ref 138]) (M1 := (mk_M c n m kk (rT K xm xi xw im le nu rf ln nn (nI (p + 1)) [(nI kd), x1] xc vs))) (fun f => rfl) ?_
      refine mr_ldn (xs := [(nI kd), x1]) rfl rfl (k := 0) (by decide) rfl ?_
      refine mr_t (C := 0 ≤ (nI kd)) (nI_let (a := 0) (b := kd) (by omega)) (fun f => rfl) ?_
      refine mr_seg 2 (pc1 := 33) (ls1 := [some (.ref 138)]) (st1 := [.int ((nI (p + 1)) + (1 : Int32)), .ref 138]) (M1 := (mk_M c n m kk (rT K xm xi xw im le nu rf ln nn (nI (p + 1)) [(nI kd), x1] xc vs))) (fun f => rfl) ?_
      refine mr_v (show nI (p + 1) + nI 1 = nI (p + 2) from nI_add (p + 1) 1) ?_
      refine mr_seg 1 (pc1 := 36) (ls1 := [some (.ref 138)]) (st1 := []) (M1 := (mk_MR c n m kk (er K) xm xi xw (nI im) (le.map nI) (nu.map nI) (rf.map nI) (nI ln) (nI nn) (nI (p + 2)) [(nI kd), x1] xc vs)) (fun f => rfl) ?_
      refine mr_M (mk_MRk c n m kk K xm xi xw im le nu rf ln nn (nI (p + 2)) [(nI kd), x1] xc vs) ?_
      refine mr_seg 3 (pc1 := 41) (ls1 := [some (.ref 138)]) (st1 := [.int 0, .ref 146]) (M1 := (mk_M c n m kk (rT K xm xi xw im le nu rf ln nn (nI (p + 2)) [(nI kd), x1] xc vs))) (fun f => rfl) ?_
      refine mr_ldn (xs := [(nI kd), x1]) rfl rfl (k := 0) (by decide) rfl ?_
      refine mr_f (C := (nI kd) < 0) (nI_ltf (a := kd) (b := 0) (by omega)) (fun f => rfl) ?_
      exact mr_ret 3 (fun f => rfl)) ?_
  refine mr_seg 4 (pc1 := 171) (ls1 := [some (.ref 138), some (.int c0), none]) (st1 := [.int 1, .int 1, .ref 138]) (M1 := (mk_M c n m kk (rT K xm xi xw im le nu rf ln nn (nI (p + 2)) [(nI kd), x1] xc vs))) (fun f => rfl) ?_
  refine mr_call (y := 134) (y0 := 174) (L := [some (.ref 138), some (.int 1), some (.int 1), none]) (rest := []) (rr := some (.int 1)) (M1 := (mk_M c n m kk (rT K xm xi xw im le nu rf ln nn (nI (p + 3)) [(nI kd), (nI ((kg le (p + 2)) - 48))] xc vs))) (fun f => rfl) (rn_112_f K xm xi xw im le nu rf ln nn xc vs c n m kk p (nI kd) x1 hB hp u2 w2) ?_
  refine mr_seg 8 (pc1 := 213) (ls1 := [some (.ref 138), some (.int c0), some (.int 1)]) (st1 := [.ref 138]) (M1 := (mk_M c n m kk (rT K xm xi xw im le nu rf ln nn (nI (p + 3)) [(nI kd), (nI ((kg le (p + 2)) - 48))] xc vs))) (fun f => rfl) ?_
  refine mr_call (y := 133) (y0 := 216) (L := [some (.ref 138)]) (rest := []) (rr := some (.int (nI (kg le (p + 3))))) (M1 := (mk_M c n m kk (rT K xm xi xw im le nu rf ln nn (nI (p + 3)) [(nI kd), (nI ((kg le (p + 2)) - 48))] xc vs))) (fun f => rfl) (mr_eq (kd_here (p + 3) [(nI kd), (nI ((kg le (p + 2)) - 48))] K xm xi xw im le nu rf ln nn xc vs c n m kk hB (by omega)) (by rw [khere_t u3])) ?_
  refine mr_seg 1 (pc1 := 218) (ls1 := [some (.ref 138), some (.int c0), some (.int 1)]) (st1 := [.int 59, .int (nI (kg le (p + 3)))]) (M1 := (mk_M c n m kk (rT K xm xi xw im le nu rf ln nn (nI (p + 3)) [(nI kd), (nI ((kg le (p + 2)) - 48))] xc vs))) (fun f => rfl) ?_
  refine mr_f (C := (nI (kg le (p + 3))) = 59) (nI_eqf (a := kg le (p + 3)) (b := 59) (by omega)) (fun f => rfl) ?_
  exact mr_ret 2 (fun f => rfl)
set_option maxRecDepth 100000 in
theorem rs_3_ok (K : kK) (xm xi xw : List Int32) (im : Nat) (le nu rf : List Nat) (ln nn : Nat) (xc : List Int32) (vs : Int32) (c : cC) (n m kk : kG) (p : Nat) (x0 x1 : Int32) (c0 : Int32) (hB : iB le ln) (hp : p < 1000) (u1 : p + 1 < ln) (w1 : kfit 57 (kg le (p + 1)) = true) (u2 : p + 2 < ln) (w2 : kfit 59 (kg le (p + 2)) = true) : mm_R 132 186 [some (.ref 138), some (.int c0), none] [] (mk_M c n m kk (rT K xm xi xw im le nu rf ln nn (nI (p + 1)) [x0, x1] xc vs)) (some (.int 1), (mk_M c n m kk (rT K xm xi xw im le nu rf ln nn (nI (p + 3)) [(nI ((kg le (p + 1)) - 48)), x1] xc vs))) := by
  obtain ⟨b1, b2, b3⟩ := id hB
  have e1 := b2 (p + 1)
  have f1 := kfit_9.mp w1
  have e2 := b2 (p + 2)
  have f2 : kg le (p + 2) = 59 := kfit_s.mp w2
  refine mr_seg 3 (pc1 := 189) (ls1 := [some (.ref 138), some (.int c0), none]) (st1 := [.int 1, .int 0, .ref 138]) (M1 := (mk_M c n m kk (rT K xm xi xw im le nu rf ln nn (nI (p + 1)) [x0, x1] xc vs))) (fun f => rfl) ?_
  refine mr_call (y := 134) (y0 := 192) (L := [some (.ref 138), some (.int 0), some (.int 1), none]) (rest := []) (rr := some (.int 1)) (M1 := (mk_M c n m kk (rT K xm xi xw im le nu rf ln nn (nI (p + 2)) [(nI ((kg le (p + 1)) - 48)), x1] xc vs))) (fun f => rfl) (rn_011_f K xm xi xw im le nu rf ln nn xc vs c n m kk p x0 x1 hB hp u1 w1) ?_
  refine mr_seg 5 (pc1 := 213) (ls1 := [some (.ref 138), some (.int c0), some (.int 1)]) (st1 := [.ref 138]) (M1 := (mk_M c n m kk (rT K xm xi xw im le nu rf ln nn (nI (p + 2)) [(nI ((kg le (p + 1)) - 48)), x1] xc vs))) (fun f => rfl) ?_
  refine mr_call (y := 133) (y0 := 216) (L := [some (.ref 138)]) (rest := []) (rr := some (.int (nI (kg le (p + 2))))) (M1 := (mk_M c n m kk (rT K xm xi xw im le nu rf ln nn (nI (p + 2)) [(nI ((kg le (p + 1)) - 48)), x1] xc vs))) (fun f => rfl) (mr_eq (kd_here (p + 2) [(nI ((kg le (p + 1)) - 48)), x1] K xm xi xw im le nu rf ln nn xc vs c n m kk hB (by omega)) (by rw [khere_t u2])) ?_
  refine mr_seg 1 (pc1 := 218) (ls1 := [some (.ref 138), some (.int c0), some (.int 1)]) (st1 := [.int 59, .int (nI (kg le (p + 2)))]) (M1 := (mk_M c n m kk (rT K xm xi xw im le nu rf ln nn (nI (p + 2)) [(nI ((kg le (p + 1)) - 48)), x1] xc vs))) (fun f => rfl) ?_
  refine mr_t (C := (nI (kg le (p + 2))) = 59) (nI_eqt (a := kg le (p + 2)) (b := 59) (by omega)) (fun f => rfl) ?_
  refine mr_seg 5 (pc1 := 230) (ls1 := [some (.ref 138), some (.int c0), some (.int 1)]) (st1 := [.int ((nI (p + 2)) + (1 : Int32)), .ref 138]) (M1 := (mk_M c n m kk (rT K xm xi xw im le nu rf ln nn (nI (p + 2)) [(nI ((kg le (p + 1)) - 48)), x1] xc vs))) (fun f => rfl) ?_
  refine mr_v (show nI (p + 2) + nI 1 = nI (p + 3) from nI_add (p + 2) 1) ?_
  refine mr_seg 1 (pc1 := 233) (ls1 := [some (.ref 138), some (.int c0), some (.int 1)]) (st1 := []) (M1 := (mk_MR c n m kk (er K) xm xi xw (nI im) (le.map nI) (nu.map nI) (rf.map nI) (nI ln) (nI nn) (nI (p + 3)) [(nI ((kg le (p + 1)) - 48)), x1] xc vs)) (fun f => rfl) ?_
  refine mr_M (mk_MRk c n m kk K xm xi xw im le nu rf ln nn (nI (p + 3)) [(nI ((kg le (p + 1)) - 48)), x1] xc vs) ?_
  exact mr_ret 2 (fun f => rfl)
set_option maxRecDepth 100000 in
theorem rs_3_1e (K : kK) (xm xi xw : List Int32) (im : Nat) (le nu rf : List Nat) (ln nn : Nat) (xc : List Int32) (vs : Int32) (c : cC) (n m kk : kG) (p : Nat) (x0 x1 : Int32) (c0 : Int32) (hB : iB le ln) (hp : p < 1000) (u1 : ¬ p + 1 < ln) : mm_R 132 186 [some (.ref 138), some (.int c0), none] [] (mk_M c n m kk (rT K xm xi xw im le nu rf ln nn (nI (p + 1)) [x0, x1] xc vs)) (some (.int 0), (mk_M c n m kk (rT K xm xi xw im le nu rf ln nn (nI (p + 1)) [0, x1] xc vs))) := by
  obtain ⟨b1, b2, b3⟩ := id hB
  refine mr_seg 3 (pc1 := 189) (ls1 := [some (.ref 138), some (.int c0), none]) (st1 := [.int 1, .int 0, .ref 138]) (M1 := (mk_M c n m kk (rT K xm xi xw im le nu rf ln nn (nI (p + 1)) [x0, x1] xc vs))) (fun f => rfl) ?_
  refine mr_call (y := 134) (y0 := 192) (L := [some (.ref 138), some (.int 0), some (.int 1), none]) (rest := []) (rr := some (.int 0)) (M1 := (mk_M c n m kk (rT K xm xi xw im le nu rf ln nn (nI (p + 1)) [0, x1] xc vs))) (fun f => rfl) (rn_011_e K xm xi xw im le nu rf ln nn xc vs c n m kk p x0 x1 hB hp u1) ?_
  exact mr_ret 6 (fun f => rfl)
set_option maxRecDepth 100000 in
theorem rs_3_1b (K : kK) (xm xi xw : List Int32) (im : Nat) (le nu rf : List Nat) (ln nn : Nat) (xc : List Int32) (vs : Int32) (c : cC) (n m kk : kG) (p : Nat) (x0 x1 : Int32) (c0 : Int32) (hB : iB le ln) (hp : p < 1000) (u1 : p + 1 < ln) (w1 : kfit 57 (kg le (p + 1)) = false) : mm_R 132 186 [some (.ref 138), some (.int c0), none] [] (mk_M c n m kk (rT K xm xi xw im le nu rf ln nn (nI (p + 1)) [x0, x1] xc vs)) (some (.int 0), (mk_M c n m kk (rT K xm xi xw im le nu rf ln nn (nI (p + 1)) [0, x1] xc vs))) := by
  obtain ⟨b1, b2, b3⟩ := id hB
  have e1 := b2 (p + 1)
  refine mr_seg 3 (pc1 := 189) (ls1 := [some (.ref 138), some (.int c0), none]) (st1 := [.int 1, .int 0, .ref 138]) (M1 := (mk_M c n m kk (rT K xm xi xw im le nu rf ln nn (nI (p + 1)) [x0, x1] xc vs))) (fun f => rfl) ?_
  refine mr_call (y := 134) (y0 := 192) (L := [some (.ref 138), some (.int 0), some (.int 1), none]) (rest := []) (rr := some (.int 0)) (M1 := (mk_M c n m kk (rT K xm xi xw im le nu rf ln nn (nI (p + 1)) [0, x1] xc vs))) (fun f => rfl) (rn_011_b K xm xi xw im le nu rf ln nn xc vs c n m kk p x0 x1 hB hp u1 w1) ?_
  exact mr_ret 6 (fun f => rfl)
set_option maxRecDepth 100000 in
theorem rs_3_2e (K : kK) (xm xi xw : List Int32) (im : Nat) (le nu rf : List Nat) (ln nn : Nat) (xc : List Int32) (vs : Int32) (c : cC) (n m kk : kG) (p : Nat) (x0 x1 : Int32) (c0 : Int32) (hB : iB le ln) (hp : p < 1000) (u1 : p + 1 < ln) (w1 : kfit 57 (kg le (p + 1)) = true) (u2 : ¬ p + 2 < ln) : mm_R 132 186 [some (.ref 138), some (.int c0), none] [] (mk_M c n m kk (rT K xm xi xw im le nu rf ln nn (nI (p + 1)) [x0, x1] xc vs)) (some (.int 0), (mk_M c n m kk (rT K xm xi xw im le nu rf ln nn (nI (p + 2)) [(nI ((kg le (p + 1)) - 48)), x1] xc vs))) := by
  obtain ⟨b1, b2, b3⟩ := id hB
  have e1 := b2 (p + 1)
  have f1 := kfit_9.mp w1
  refine mr_seg 3 (pc1 := 189) (ls1 := [some (.ref 138), some (.int c0), none]) (st1 := [.int 1, .int 0, .ref 138]) (M1 := (mk_M c n m kk (rT K xm xi xw im le nu rf ln nn (nI (p + 1)) [x0, x1] xc vs))) (fun f => rfl) ?_
  refine mr_call (y := 134) (y0 := 192) (L := [some (.ref 138), some (.int 0), some (.int 1), none]) (rest := []) (rr := some (.int 1)) (M1 := (mk_M c n m kk (rT K xm xi xw im le nu rf ln nn (nI (p + 2)) [(nI ((kg le (p + 1)) - 48)), x1] xc vs))) (fun f => rfl) (rn_011_f K xm xi xw im le nu rf ln nn xc vs c n m kk p x0 x1 hB hp u1 w1) ?_
  refine mr_seg 5 (pc1 := 213) (ls1 := [some (.ref 138), some (.int c0), some (.int 1)]) (st1 := [.ref 138]) (M1 := (mk_M c n m kk (rT K xm xi xw im le nu rf ln nn (nI (p + 2)) [(nI ((kg le (p + 1)) - 48)), x1] xc vs))) (fun f => rfl) ?_
  refine mr_call (y := 133) (y0 := 216) (L := [some (.ref 138)]) (rest := []) (rr := some (.int (-1))) (M1 := (mk_M c n m kk (rT K xm xi xw im le nu rf ln nn (nI (p + 2)) [(nI ((kg le (p + 1)) - 48)), x1] xc vs))) (fun f => rfl) (mr_eq (kd_here (p + 2) [(nI ((kg le (p + 1)) - 48)), x1] K xm xi xw im le nu rf ln nn xc vs c n m kk hB (by omega)) (by rw [khere_f u2])) ?_
  exact mr_ret 4 (fun f => rfl)
set_option maxRecDepth 100000 in
theorem rs_3_2b (K : kK) (xm xi xw : List Int32) (im : Nat) (le nu rf : List Nat) (ln nn : Nat) (xc : List Int32) (vs : Int32) (c : cC) (n m kk : kG) (p : Nat) (x0 x1 : Int32) (c0 : Int32) (hB : iB le ln) (hp : p < 1000) (u1 : p + 1 < ln) (w1 : kfit 57 (kg le (p + 1)) = true) (u2 : p + 2 < ln) (w2 : kfit 59 (kg le (p + 2)) = false) : mm_R 132 186 [some (.ref 138), some (.int c0), none] [] (mk_M c n m kk (rT K xm xi xw im le nu rf ln nn (nI (p + 1)) [x0, x1] xc vs)) (some (.int 0), (mk_M c n m kk (rT K xm xi xw im le nu rf ln nn (nI (p + 2)) [(nI ((kg le (p + 1)) - 48)), x1] xc vs))) := by
  obtain ⟨b1, b2, b3⟩ := id hB
  have e1 := b2 (p + 1)
  have f1 := kfit_9.mp w1
  have e2 := b2 (p + 2)
  have f2 : ¬ kg le (p + 2) = 59 := fun q => by rw [kfit_s.mpr q] at w2; cases w2
  refine mr_seg 3 (pc1 := 189) (ls1 := [some (.ref 138), some (.int c0), none]) (st1 := [.int 1, .int 0, .ref 138]) (M1 := (mk_M c n m kk (rT K xm xi xw im le nu rf ln nn (nI (p + 1)) [x0, x1] xc vs))) (fun f => rfl) ?_
  refine mr_call (y := 134) (y0 := 192) (L := [some (.ref 138), some (.int 0), some (.int 1), none]) (rest := []) (rr := some (.int 1)) (M1 := (mk_M c n m kk (rT K xm xi xw im le nu rf ln nn (nI (p + 2)) [(nI ((kg le (p + 1)) - 48)), x1] xc vs))) (fun f => rfl) (rn_011_f K xm xi xw im le nu rf ln nn xc vs c n m kk p x0 x1 hB hp u1 w1) ?_
  refine mr_seg 5 (pc1 := 213) (ls1 := [some (.ref 138), some (.int c0), some (.int 1)]) (st1 := [.ref 138]) (M1 := (mk_M c n m kk (rT K xm xi xw im le nu rf ln nn (nI (p + 2)) [(nI ((kg le (p + 1)) - 48)), x1] xc vs))) (fun f => rfl) ?_
  refine mr_call (y := 133) (y0 := 216) (L := [some (.ref 138)]) (rest := []) (rr := some (.int (nI (kg le (p + 2))))) (M1 := (mk_M c n m kk (rT K xm xi xw im le nu rf ln nn (nI (p + 2)) [(nI ((kg le (p + 1)) - 48)), x1] xc vs))) (fun f => rfl) (mr_eq (kd_here (p + 2) [(nI ((kg le (p + 1)) - 48)), x1] K xm xi xw im le nu rf ln nn xc vs c n m kk hB (by omega)) (by rw [khere_t u2])) ?_
  refine mr_seg 1 (pc1 := 218) (ls1 := [some (.ref 138), some (.int c0), some (.int 1)]) (st1 := [.int 59, .int (nI (kg le (p + 2)))]) (M1 := (mk_M c n m kk (rT K xm xi xw im le nu rf ln nn (nI (p + 2)) [(nI ((kg le (p + 1)) - 48)), x1] xc vs))) (fun f => rfl) ?_
  refine mr_f (C := (nI (kg le (p + 2))) = 59) (nI_eqf (a := kg le (p + 2)) (b := 59) (by omega)) (fun f => rfl) ?_
  exact mr_ret 2 (fun f => rfl)
set_option maxRecDepth 100000 in
theorem rs_4_ok (K : kK) (xm xi xw : List Int32) (im : Nat) (le nu rf : List Nat) (ln nn : Nat) (xc : List Int32) (vs : Int32) (c : cC) (n m kk : kG) (p : Nat) (x0 x1 : Int32) (c0 : Int32) (hB : iB le ln) (hp : p < 1000) (u1 : p + 1 < ln) (w1 : kfit 57 (kg le (p + 1)) = true) (u2 : p + 2 < ln) (w2 : kfit 57 (kg le (p + 2)) = true) (u3 : p + 3 < ln) (w3 : kfit 59 (kg le (p + 3)) = true) : mm_R 132 151 [some (.ref 138), some (.int c0), none] [] (mk_M c n m kk (rT K xm xi xw im le nu rf ln nn (nI (p + 1)) [x0, x1] xc vs)) (some (.int 1), (mk_M c n m kk (rT K xm xi xw im le nu rf ln nn (nI (p + 4)) [(nI ((10 * ((kg le (p + 1)) - 48) + (kg le (p + 2))) - 48)), x1] xc vs))) := by
  obtain ⟨b1, b2, b3⟩ := id hB
  have e1 := b2 (p + 1)
  have f1 := kfit_9.mp w1
  have e2 := b2 (p + 2)
  have f2 := kfit_9.mp w2
  have e3 := b2 (p + 3)
  have f3 : kg le (p + 3) = 59 := kfit_s.mp w3
  refine mr_seg 3 (pc1 := 154) (ls1 := [some (.ref 138), some (.int c0), none]) (st1 := [.int 2, .int 0, .ref 138]) (M1 := (mk_M c n m kk (rT K xm xi xw im le nu rf ln nn (nI (p + 1)) [x0, x1] xc vs))) (fun f => rfl) ?_
  refine mr_call (y := 134) (y0 := 157) (L := [some (.ref 138), some (.int 0), some (.int 2), none]) (rest := []) (rr := some (.int 1)) (M1 := (mk_M c n m kk (rT K xm xi xw im le nu rf ln nn (nI (p + 3)) [(nI ((10 * ((kg le (p + 1)) - 48) + (kg le (p + 2))) - 48)), x1] xc vs))) (fun f => rfl) (rn_021_ff K xm xi xw im le nu rf ln nn xc vs c n m kk p x0 x1 hB hp u1 w1 u2 w2) ?_
  refine mr_seg 5 (pc1 := 213) (ls1 := [some (.ref 138), some (.int c0), some (.int 1)]) (st1 := [.ref 138]) (M1 := (mk_M c n m kk (rT K xm xi xw im le nu rf ln nn (nI (p + 3)) [(nI ((10 * ((kg le (p + 1)) - 48) + (kg le (p + 2))) - 48)), x1] xc vs))) (fun f => rfl) ?_
  refine mr_call (y := 133) (y0 := 216) (L := [some (.ref 138)]) (rest := []) (rr := some (.int (nI (kg le (p + 3))))) (M1 := (mk_M c n m kk (rT K xm xi xw im le nu rf ln nn (nI (p + 3)) [(nI ((10 * ((kg le (p + 1)) - 48) + (kg le (p + 2))) - 48)), x1] xc vs))) (fun f => rfl) (mr_eq (kd_here (p + 3) [(nI ((10 * ((kg le (p + 1)) - 48) + (kg le (p + 2))) - 48)), x1] K xm xi xw im le nu rf ln nn xc vs c n m kk hB (by omega)) (by rw [khere_t u3])) ?_
  refine mr_seg 1 (pc1 := 218) (ls1 := [some (.ref 138), some (.int c0), some (.int 1)]) (st1 := [.int 59, .int (nI (kg le (p + 3)))]) (M1 := (mk_M c n m kk (rT K xm xi xw im le nu rf ln nn (nI (p + 3)) [(nI ((10 * ((kg le (p + 1)) - 48) + (kg le (p + 2))) - 48)), x1] xc vs))) (fun f => rfl) ?_
  refine mr_t (C := (nI (kg le (p + 3))) = 59) (nI_eqt (a := kg le (p + 3)) (b := 59) (by omega)) (fun f => rfl) ?_
  refine mr_seg 5 (pc1 := 230) (ls1 := [some (.ref 138), some (.int c0), some (.int 1)]) (st1 := [.int ((nI (p + 3)) + (1 : Int32)), .ref 138]) (M1 := (mk_M c n m kk (rT K xm xi xw im le nu rf ln nn (nI (p + 3)) [(nI ((10 * ((kg le (p + 1)) - 48) + (kg le (p + 2))) - 48)), x1] xc vs))) (fun f => rfl) ?_
  refine mr_v (show nI (p + 3) + nI 1 = nI (p + 4) from nI_add (p + 3) 1) ?_
  refine mr_seg 1 (pc1 := 233) (ls1 := [some (.ref 138), some (.int c0), some (.int 1)]) (st1 := []) (M1 := (mk_MR c n m kk (er K) xm xi xw (nI im) (le.map nI) (nu.map nI) (rf.map nI) (nI ln) (nI nn) (nI (p + 4)) [(nI ((10 * ((kg le (p + 1)) - 48) + (kg le (p + 2))) - 48)), x1] xc vs)) (fun f => rfl) ?_
  refine mr_M (mk_MRk c n m kk K xm xi xw im le nu rf ln nn (nI (p + 4)) [(nI ((10 * ((kg le (p + 1)) - 48) + (kg le (p + 2))) - 48)), x1] xc vs) ?_
  exact mr_ret 2 (fun f => rfl)
set_option maxRecDepth 100000 in
theorem rs_4_1e (K : kK) (xm xi xw : List Int32) (im : Nat) (le nu rf : List Nat) (ln nn : Nat) (xc : List Int32) (vs : Int32) (c : cC) (n m kk : kG) (p : Nat) (x0 x1 : Int32) (c0 : Int32) (hB : iB le ln) (hp : p < 1000) (u1 : ¬ p + 1 < ln) : mm_R 132 151 [some (.ref 138), some (.int c0), none] [] (mk_M c n m kk (rT K xm xi xw im le nu rf ln nn (nI (p + 1)) [x0, x1] xc vs)) (some (.int 0), (mk_M c n m kk (rT K xm xi xw im le nu rf ln nn (nI (p + 1)) [0, x1] xc vs))) := by
  obtain ⟨b1, b2, b3⟩ := id hB
  refine mr_seg 3 (pc1 := 154) (ls1 := [some (.ref 138), some (.int c0), none]) (st1 := [.int 2, .int 0, .ref 138]) (M1 := (mk_M c n m kk (rT K xm xi xw im le nu rf ln nn (nI (p + 1)) [x0, x1] xc vs))) (fun f => rfl) ?_
  refine mr_call (y := 134) (y0 := 157) (L := [some (.ref 138), some (.int 0), some (.int 2), none]) (rest := []) (rr := some (.int 0)) (M1 := (mk_M c n m kk (rT K xm xi xw im le nu rf ln nn (nI (p + 1)) [0, x1] xc vs))) (fun f => rfl) (rn_021_e K xm xi xw im le nu rf ln nn xc vs c n m kk p x0 x1 hB hp u1) ?_
  exact mr_ret 6 (fun f => rfl)
set_option maxRecDepth 100000 in
theorem rs_4_1b (K : kK) (xm xi xw : List Int32) (im : Nat) (le nu rf : List Nat) (ln nn : Nat) (xc : List Int32) (vs : Int32) (c : cC) (n m kk : kG) (p : Nat) (x0 x1 : Int32) (c0 : Int32) (hB : iB le ln) (hp : p < 1000) (u1 : p + 1 < ln) (w1 : kfit 57 (kg le (p + 1)) = false) : mm_R 132 151 [some (.ref 138), some (.int c0), none] [] (mk_M c n m kk (rT K xm xi xw im le nu rf ln nn (nI (p + 1)) [x0, x1] xc vs)) (some (.int 0), (mk_M c n m kk (rT K xm xi xw im le nu rf ln nn (nI (p + 1)) [0, x1] xc vs))) := by
  obtain ⟨b1, b2, b3⟩ := id hB
  have e1 := b2 (p + 1)
  refine mr_seg 3 (pc1 := 154) (ls1 := [some (.ref 138), some (.int c0), none]) (st1 := [.int 2, .int 0, .ref 138]) (M1 := (mk_M c n m kk (rT K xm xi xw im le nu rf ln nn (nI (p + 1)) [x0, x1] xc vs))) (fun f => rfl) ?_
  refine mr_call (y := 134) (y0 := 157) (L := [some (.ref 138), some (.int 0), some (.int 2), none]) (rest := []) (rr := some (.int 0)) (M1 := (mk_M c n m kk (rT K xm xi xw im le nu rf ln nn (nI (p + 1)) [0, x1] xc vs))) (fun f => rfl) (rn_021_b K xm xi xw im le nu rf ln nn xc vs c n m kk p x0 x1 hB hp u1 w1) ?_
  exact mr_ret 6 (fun f => rfl)
set_option maxRecDepth 100000 in
theorem rs_4_2e (K : kK) (xm xi xw : List Int32) (im : Nat) (le nu rf : List Nat) (ln nn : Nat) (xc : List Int32) (vs : Int32) (c : cC) (n m kk : kG) (p : Nat) (x0 x1 : Int32) (c0 : Int32) (hB : iB le ln) (hp : p < 1000) (u1 : p + 1 < ln) (w1 : kfit 57 (kg le (p + 1)) = true) (u2 : ¬ p + 2 < ln) : mm_R 132 151 [some (.ref 138), some (.int c0), none] [] (mk_M c n m kk (rT K xm xi xw im le nu rf ln nn (nI (p + 1)) [x0, x1] xc vs)) (some (.int 0), (mk_M c n m kk (rT K xm xi xw im le nu rf ln nn (nI (p + 2)) [(nI ((kg le (p + 1)) - 48)), x1] xc vs))) := by
  obtain ⟨b1, b2, b3⟩ := id hB
  have e1 := b2 (p + 1)
  have f1 := kfit_9.mp w1
  refine mr_seg 3 (pc1 := 154) (ls1 := [some (.ref 138), some (.int c0), none]) (st1 := [.int 2, .int 0, .ref 138]) (M1 := (mk_M c n m kk (rT K xm xi xw im le nu rf ln nn (nI (p + 1)) [x0, x1] xc vs))) (fun f => rfl) ?_
  refine mr_call (y := 134) (y0 := 157) (L := [some (.ref 138), some (.int 0), some (.int 2), none]) (rest := []) (rr := some (.int 0)) (M1 := (mk_M c n m kk (rT K xm xi xw im le nu rf ln nn (nI (p + 2)) [(nI ((kg le (p + 1)) - 48)), x1] xc vs))) (fun f => rfl) (rn_021_fe K xm xi xw im le nu rf ln nn xc vs c n m kk p x0 x1 hB hp u1 w1 u2) ?_
  exact mr_ret 6 (fun f => rfl)
set_option maxRecDepth 100000 in
theorem rs_4_2b (K : kK) (xm xi xw : List Int32) (im : Nat) (le nu rf : List Nat) (ln nn : Nat) (xc : List Int32) (vs : Int32) (c : cC) (n m kk : kG) (p : Nat) (x0 x1 : Int32) (c0 : Int32) (hB : iB le ln) (hp : p < 1000) (u1 : p + 1 < ln) (w1 : kfit 57 (kg le (p + 1)) = true) (u2 : p + 2 < ln) (w2 : kfit 57 (kg le (p + 2)) = false) : mm_R 132 151 [some (.ref 138), some (.int c0), none] [] (mk_M c n m kk (rT K xm xi xw im le nu rf ln nn (nI (p + 1)) [x0, x1] xc vs)) (some (.int 0), (mk_M c n m kk (rT K xm xi xw im le nu rf ln nn (nI (p + 2)) [(nI ((kg le (p + 1)) - 48)), x1] xc vs))) := by
  obtain ⟨b1, b2, b3⟩ := id hB
  have e1 := b2 (p + 1)
  have f1 := kfit_9.mp w1
  have e2 := b2 (p + 2)
  refine mr_seg 3 (pc1 := 154) (ls1 := [some (.ref 138), some (.int c0), none]) (st1 := [.int 2, .int 0, .ref 138]) (M1 := (mk_M c n m kk (rT K xm xi xw im le nu rf ln nn (nI (p + 1)) [x0, x1] xc vs))) (fun f => rfl) ?_
  refine mr_call (y := 134) (y0 := 157) (L := [some (.ref 138), some (.int 0), some (.int 2), none]) (rest := []) (rr := some (.int 0)) (M1 := (mk_M c n m kk (rT K xm xi xw im le nu rf ln nn (nI (p + 2)) [(nI ((kg le (p + 1)) - 48)), x1] xc vs))) (fun f => rfl) (rn_021_fb K xm xi xw im le nu rf ln nn xc vs c n m kk p x0 x1 hB hp u1 w1 u2 w2) ?_
  exact mr_ret 6 (fun f => rfl)
set_option maxRecDepth 100000 in
theorem rs_4_3e (K : kK) (xm xi xw : List Int32) (im : Nat) (le nu rf : List Nat) (ln nn : Nat) (xc : List Int32) (vs : Int32) (c : cC) (n m kk : kG) (p : Nat) (x0 x1 : Int32) (c0 : Int32) (hB : iB le ln) (hp : p < 1000) (u1 : p + 1 < ln) (w1 : kfit 57 (kg le (p + 1)) = true) (u2 : p + 2 < ln) (w2 : kfit 57 (kg le (p + 2)) = true) (u3 : ¬ p + 3 < ln) : mm_R 132 151 [some (.ref 138), some (.int c0), none] [] (mk_M c n m kk (rT K xm xi xw im le nu rf ln nn (nI (p + 1)) [x0, x1] xc vs)) (some (.int 0), (mk_M c n m kk (rT K xm xi xw im le nu rf ln nn (nI (p + 3)) [(nI ((10 * ((kg le (p + 1)) - 48) + (kg le (p + 2))) - 48)), x1] xc vs))) := by
  obtain ⟨b1, b2, b3⟩ := id hB
  have e1 := b2 (p + 1)
  have f1 := kfit_9.mp w1
  have e2 := b2 (p + 2)
  have f2 := kfit_9.mp w2
  refine mr_seg 3 (pc1 := 154) (ls1 := [some (.ref 138), some (.int c0), none]) (st1 := [.int 2, .int 0, .ref 138]) (M1 := (mk_M c n m kk (rT K xm xi xw im le nu rf ln nn (nI (p + 1)) [x0, x1] xc vs))) (fun f => rfl) ?_
  refine mr_call (y := 134) (y0 := 157) (L := [some (.ref 138), some (.int 0), some (.int 2), none]) (rest := []) (rr := some (.int 1)) (M1 := (mk_M c n m kk (rT K xm xi xw im le nu rf ln nn (nI (p + 3)) [(nI ((10 * ((kg le (p + 1)) - 48) + (kg le (p + 2))) - 48)), x1] xc vs))) (fun f => rfl) (rn_021_ff K xm xi xw im le nu rf ln nn xc vs c n m kk p x0 x1 hB hp u1 w1 u2 w2) ?_
  refine mr_seg 5 (pc1 := 213) (ls1 := [some (.ref 138), some (.int c0), some (.int 1)]) (st1 := [.ref 138]) (M1 := (mk_M c n m kk (rT K xm xi xw im le nu rf ln nn (nI (p + 3)) [(nI ((10 * ((kg le (p + 1)) - 48) + (kg le (p + 2))) - 48)), x1] xc vs))) (fun f => rfl) ?_
  refine mr_call (y := 133) (y0 := 216) (L := [some (.ref 138)]) (rest := []) (rr := some (.int (-1))) (M1 := (mk_M c n m kk (rT K xm xi xw im le nu rf ln nn (nI (p + 3)) [(nI ((10 * ((kg le (p + 1)) - 48) + (kg le (p + 2))) - 48)), x1] xc vs))) (fun f => rfl) (mr_eq (kd_here (p + 3) [(nI ((10 * ((kg le (p + 1)) - 48) + (kg le (p + 2))) - 48)), x1] K xm xi xw im le nu rf ln nn xc vs c n m kk hB (by omega)) (by rw [khere_f u3])) ?_
  exact mr_ret 4 (fun f => rfl)
set_option maxRecDepth 100000 in
theorem rs_4_3b (K : kK) (xm xi xw : List Int32) (im : Nat) (le nu rf : List Nat) (ln nn : Nat) (xc : List Int32) (vs : Int32) (c : cC) (n m kk : kG) (p : Nat) (x0 x1 : Int32) (c0 : Int32) (hB : iB le ln) (hp : p < 1000) (u1 : p + 1 < ln) (w1 : kfit 57 (kg le (p + 1)) = true) (u2 : p + 2 < ln) (w2 : kfit 57 (kg le (p + 2)) = true) (u3 : p + 3 < ln) (w3 : kfit 59 (kg le (p + 3)) = false) : mm_R 132 151 [some (.ref 138), some (.int c0), none] [] (mk_M c n m kk (rT K xm xi xw im le nu rf ln nn (nI (p + 1)) [x0, x1] xc vs)) (some (.int 0), (mk_M c n m kk (rT K xm xi xw im le nu rf ln nn (nI (p + 3)) [(nI ((10 * ((kg le (p + 1)) - 48) + (kg le (p + 2))) - 48)), x1] xc vs))) := by
  obtain ⟨b1, b2, b3⟩ := id hB
  have e1 := b2 (p + 1)
  have f1 := kfit_9.mp w1
  have e2 := b2 (p + 2)
  have f2 := kfit_9.mp w2
  have e3 := b2 (p + 3)
  have f3 : ¬ kg le (p + 3) = 59 := fun q => by rw [kfit_s.mpr q] at w3; cases w3
  refine mr_seg 3 (pc1 := 154) (ls1 := [some (.ref 138), some (.int c0), none]) (st1 := [.int 2, .int 0, .ref 138]) (M1 := (mk_M c n m kk (rT K xm xi xw im le nu rf ln nn (nI (p + 1)) [x0, x1] xc vs))) (fun f => rfl) ?_
  refine mr_call (y := 134) (y0 := 157) (L := [some (.ref 138), some (.int 0), some (.int 2), none]) (rest := []) (rr := some (.int 1)) (M1 := (mk_M c n m kk (rT K xm xi xw im le nu rf ln nn (nI (p + 3)) [(nI ((10 * ((kg le (p + 1)) - 48) + (kg le (p + 2))) - 48)), x1] xc vs))) (fun f => rfl) (rn_021_ff K xm xi xw im le nu rf ln nn xc vs c n m kk p x0 x1 hB hp u1 w1 u2 w2) ?_
  refine mr_seg 5 (pc1 := 213) (ls1 := [some (.ref 138), some (.int c0), some (.int 1)]) (st1 := [.ref 138]) (M1 := (mk_M c n m kk (rT K xm xi xw im le nu rf ln nn (nI (p + 3)) [(nI ((10 * ((kg le (p + 1)) - 48) + (kg le (p + 2))) - 48)), x1] xc vs))) (fun f => rfl) ?_
  refine mr_call (y := 133) (y0 := 216) (L := [some (.ref 138)]) (rest := []) (rr := some (.int (nI (kg le (p + 3))))) (M1 := (mk_M c n m kk (rT K xm xi xw im le nu rf ln nn (nI (p + 3)) [(nI ((10 * ((kg le (p + 1)) - 48) + (kg le (p + 2))) - 48)), x1] xc vs))) (fun f => rfl) (mr_eq (kd_here (p + 3) [(nI ((10 * ((kg le (p + 1)) - 48) + (kg le (p + 2))) - 48)), x1] K xm xi xw im le nu rf ln nn xc vs c n m kk hB (by omega)) (by rw [khere_t u3])) ?_
  refine mr_seg 1 (pc1 := 218) (ls1 := [some (.ref 138), some (.int c0), some (.int 1)]) (st1 := [.int 59, .int (nI (kg le (p + 3)))]) (M1 := (mk_M c n m kk (rT K xm xi xw im le nu rf ln nn (nI (p + 3)) [(nI ((10 * ((kg le (p + 1)) - 48) + (kg le (p + 2))) - 48)), x1] xc vs))) (fun f => rfl) ?_
  refine mr_f (C := (nI (kg le (p + 3))) = 59) (nI_eqf (a := kg le (p + 3)) (b := 59) (by omega)) (fun f => rfl) ?_
  exact mr_ret 2 (fun f => rfl)
set_option maxRecDepth 100000 in
theorem rs_hd_99 (K : kK) (xm xi xw : List Int32) (im : Nat) (le nu rf : List Nat) (ln nn : Nat) (xc : List Int32) (vs : Int32) (c : cC) (n m kk : kG) (p : Nat) (x0 x1 : Int32) (hB : iB le ln) (hp : p < 1000) (h0 : p < ln) (hc : kg le p = 99) (F : Option Value → mm_H → Prop) (hF : mm_E 132 124 [some (.ref 138), some (.int 99), none] [] (mk_M c n m kk (rT K xm xi xw im le nu rf ln nn (nI (p + 1)) [x0, x1] xc vs)) F) : mm_E 132 0 [some (.ref 138), none, none] [] (mk_M c n m kk (rT K xm xi xw im le nu rf ln nn (nI p) [x0, x1] xc vs)) F := by
  obtain ⟨b1, b2, b3⟩ := id hB
  refine me_seg 1 (pc1 := 1) (ls1 := [some (.ref 138), none, none]) (st1 := [.ref 138]) (M1 := (mk_M c n m kk (rT K xm xi xw im le nu rf ln nn (nI p) [x0, x1] xc vs))) (fun f => rfl) ?_
  refine me_call (y := 133) (y0 := 4) (L := [some (.ref 138)]) (rest := []) (rr := some (.int 99)) (M1 := (mk_M c n m kk (rT K xm xi xw im le nu rf ln nn (nI p) [x0, x1] xc vs))) (fun f => rfl) (mr_eq (kd_here p [x0, x1] K xm xi xw im le nu rf ln nn xc vs c n m kk hB (by omega)) (by rw [khere_t h0, hc] <;> rfl)) ?_
  refine me_seg 6 (pc1 := 12) (ls1 := [some (.ref 138), some (.int 99), none]) (st1 := [.int ((nI p) + (1 : Int32)), .ref 138]) (M1 := (mk_M c n m kk (rT K xm xi xw im le nu rf ln nn (nI p) [x0, x1] xc vs))) (fun f => rfl) ?_
  refine me_v (nI_add p 1) ?_
  refine me_seg 1 (pc1 := 15) (ls1 := [some (.ref 138), some (.int 99), none]) (st1 := []) (M1 := (mk_MR c n m kk (er K) xm xi xw (nI im) (le.map nI) (nu.map nI) (rf.map nI) (nI ln) (nI nn) (nI (p + 1)) [x0, x1] xc vs)) (fun f => rfl) ?_
  refine me_M (mk_MRk c n m kk K xm xi xw im le nu rf ln nn (nI (p + 1)) [x0, x1] xc vs) ?_
  refine me_seg 2 (pc1 := 124) (ls1 := [some (.ref 138), some (.int 99), none]) (st1 := []) (M1 := (mk_M c n m kk (rT K xm xi xw im le nu rf ln nn (nI (p + 1)) [x0, x1] xc vs))) (fun f => rfl) ?_
  exact hF
set_option maxRecDepth 100000 in
theorem rs_hd_107 (K : kK) (xm xi xw : List Int32) (im : Nat) (le nu rf : List Nat) (ln nn : Nat) (xc : List Int32) (vs : Int32) (c : cC) (n m kk : kG) (p : Nat) (x0 x1 : Int32) (hB : iB le ln) (hp : p < 1000) (h0 : p < ln) (hc : kg le p = 107) (F : Option Value → mm_H → Prop) (hF : mm_E 132 151 [some (.ref 138), some (.int 107), none] [] (mk_M c n m kk (rT K xm xi xw im le nu rf ln nn (nI (p + 1)) [x0, x1] xc vs)) F) : mm_E 132 0 [some (.ref 138), none, none] [] (mk_M c n m kk (rT K xm xi xw im le nu rf ln nn (nI p) [x0, x1] xc vs)) F := by
  obtain ⟨b1, b2, b3⟩ := id hB
  refine me_seg 1 (pc1 := 1) (ls1 := [some (.ref 138), none, none]) (st1 := [.ref 138]) (M1 := (mk_M c n m kk (rT K xm xi xw im le nu rf ln nn (nI p) [x0, x1] xc vs))) (fun f => rfl) ?_
  refine me_call (y := 133) (y0 := 4) (L := [some (.ref 138)]) (rest := []) (rr := some (.int 107)) (M1 := (mk_M c n m kk (rT K xm xi xw im le nu rf ln nn (nI p) [x0, x1] xc vs))) (fun f => rfl) (mr_eq (kd_here p [x0, x1] K xm xi xw im le nu rf ln nn xc vs c n m kk hB (by omega)) (by rw [khere_t h0, hc] <;> rfl)) ?_
  refine me_seg 6 (pc1 := 12) (ls1 := [some (.ref 138), some (.int 107), none]) (st1 := [.int ((nI p) + (1 : Int32)), .ref 138]) (M1 := (mk_M c n m kk (rT K xm xi xw im le nu rf ln nn (nI p) [x0, x1] xc vs))) (fun f => rfl) ?_
  refine me_v (nI_add p 1) ?_
  refine me_seg 1 (pc1 := 15) (ls1 := [some (.ref 138), some (.int 107), none]) (st1 := []) (M1 := (mk_MR c n m kk (er K) xm xi xw (nI im) (le.map nI) (nu.map nI) (rf.map nI) (nI ln) (nI nn) (nI (p + 1)) [x0, x1] xc vs)) (fun f => rfl) ?_
  refine me_M (mk_MRk c n m kk K xm xi xw im le nu rf ln nn (nI (p + 1)) [x0, x1] xc vs) ?_
  refine me_seg 2 (pc1 := 151) (ls1 := [some (.ref 138), some (.int 107), none]) (st1 := []) (M1 := (mk_M c n m kk (rT K xm xi xw im le nu rf ln nn (nI (p + 1)) [x0, x1] xc vs))) (fun f => rfl) ?_
  exact hF
set_option maxRecDepth 100000 in
theorem rs_hd_98 (K : kK) (xm xi xw : List Int32) (im : Nat) (le nu rf : List Nat) (ln nn : Nat) (xc : List Int32) (vs : Int32) (c : cC) (n m kk : kG) (p : Nat) (x0 x1 : Int32) (hB : iB le ln) (hp : p < 1000) (h0 : p < ln) (hc : kg le p = 98) (F : Option Value → mm_H → Prop) (hF : mm_E 132 151 [some (.ref 138), some (.int 98), none] [] (mk_M c n m kk (rT K xm xi xw im le nu rf ln nn (nI (p + 1)) [x0, x1] xc vs)) F) : mm_E 132 0 [some (.ref 138), none, none] [] (mk_M c n m kk (rT K xm xi xw im le nu rf ln nn (nI p) [x0, x1] xc vs)) F := by
  obtain ⟨b1, b2, b3⟩ := id hB
  refine me_seg 1 (pc1 := 1) (ls1 := [some (.ref 138), none, none]) (st1 := [.ref 138]) (M1 := (mk_M c n m kk (rT K xm xi xw im le nu rf ln nn (nI p) [x0, x1] xc vs))) (fun f => rfl) ?_
  refine me_call (y := 133) (y0 := 4) (L := [some (.ref 138)]) (rest := []) (rr := some (.int 98)) (M1 := (mk_M c n m kk (rT K xm xi xw im le nu rf ln nn (nI p) [x0, x1] xc vs))) (fun f => rfl) (mr_eq (kd_here p [x0, x1] K xm xi xw im le nu rf ln nn xc vs c n m kk hB (by omega)) (by rw [khere_t h0, hc] <;> rfl)) ?_
  refine me_seg 6 (pc1 := 12) (ls1 := [some (.ref 138), some (.int 98), none]) (st1 := [.int ((nI p) + (1 : Int32)), .ref 138]) (M1 := (mk_M c n m kk (rT K xm xi xw im le nu rf ln nn (nI p) [x0, x1] xc vs))) (fun f => rfl) ?_
  refine me_v (nI_add p 1) ?_
  refine me_seg 1 (pc1 := 15) (ls1 := [some (.ref 138), some (.int 98), none]) (st1 := []) (M1 := (mk_MR c n m kk (er K) xm xi xw (nI im) (le.map nI) (nu.map nI) (rf.map nI) (nI ln) (nI nn) (nI (p + 1)) [x0, x1] xc vs)) (fun f => rfl) ?_
  refine me_M (mk_MRk c n m kk K xm xi xw im le nu rf ln nn (nI (p + 1)) [x0, x1] xc vs) ?_
  refine me_seg 2 (pc1 := 151) (ls1 := [some (.ref 138), some (.int 98), none]) (st1 := []) (M1 := (mk_M c n m kk (rT K xm xi xw im le nu rf ln nn (nI (p + 1)) [x0, x1] xc vs))) (fun f => rfl) ?_
  exact hF
set_option maxRecDepth 100000 in
theorem rs_hd_103 (K : kK) (xm xi xw : List Int32) (im : Nat) (le nu rf : List Nat) (ln nn : Nat) (xc : List Int32) (vs : Int32) (c : cC) (n m kk : kG) (p : Nat) (x0 x1 : Int32) (hB : iB le ln) (hp : p < 1000) (h0 : p < ln) (hc : kg le p = 103) (F : Option Value → mm_H → Prop) (hF : mm_E 132 151 [some (.ref 138), some (.int 103), none] [] (mk_M c n m kk (rT K xm xi xw im le nu rf ln nn (nI (p + 1)) [x0, x1] xc vs)) F) : mm_E 132 0 [some (.ref 138), none, none] [] (mk_M c n m kk (rT K xm xi xw im le nu rf ln nn (nI p) [x0, x1] xc vs)) F := by
  obtain ⟨b1, b2, b3⟩ := id hB
  refine me_seg 1 (pc1 := 1) (ls1 := [some (.ref 138), none, none]) (st1 := [.ref 138]) (M1 := (mk_M c n m kk (rT K xm xi xw im le nu rf ln nn (nI p) [x0, x1] xc vs))) (fun f => rfl) ?_
  refine me_call (y := 133) (y0 := 4) (L := [some (.ref 138)]) (rest := []) (rr := some (.int 103)) (M1 := (mk_M c n m kk (rT K xm xi xw im le nu rf ln nn (nI p) [x0, x1] xc vs))) (fun f => rfl) (mr_eq (kd_here p [x0, x1] K xm xi xw im le nu rf ln nn xc vs c n m kk hB (by omega)) (by rw [khere_t h0, hc] <;> rfl)) ?_
  refine me_seg 6 (pc1 := 12) (ls1 := [some (.ref 138), some (.int 103), none]) (st1 := [.int ((nI p) + (1 : Int32)), .ref 138]) (M1 := (mk_M c n m kk (rT K xm xi xw im le nu rf ln nn (nI p) [x0, x1] xc vs))) (fun f => rfl) ?_
  refine me_v (nI_add p 1) ?_
  refine me_seg 1 (pc1 := 15) (ls1 := [some (.ref 138), some (.int 103), none]) (st1 := []) (M1 := (mk_MR c n m kk (er K) xm xi xw (nI im) (le.map nI) (nu.map nI) (rf.map nI) (nI ln) (nI nn) (nI (p + 1)) [x0, x1] xc vs)) (fun f => rfl) ?_
  refine me_M (mk_MRk c n m kk K xm xi xw im le nu rf ln nn (nI (p + 1)) [x0, x1] xc vs) ?_
  refine me_seg 2 (pc1 := 151) (ls1 := [some (.ref 138), some (.int 103), none]) (st1 := []) (M1 := (mk_M c n m kk (rT K xm xi xw im le nu rf ln nn (nI (p + 1)) [x0, x1] xc vs))) (fun f => rfl) ?_
  exact hF
set_option maxRecDepth 100000 in
theorem rs_hd_119 (K : kK) (xm xi xw : List Int32) (im : Nat) (le nu rf : List Nat) (ln nn : Nat) (xc : List Int32) (vs : Int32) (c : cC) (n m kk : kG) (p : Nat) (x0 x1 : Int32) (hB : iB le ln) (hp : p < 1000) (h0 : p < ln) (hc : kg le p = 119) (F : Option Value → mm_H → Prop) (hF : mm_E 132 151 [some (.ref 138), some (.int 119), none] [] (mk_M c n m kk (rT K xm xi xw im le nu rf ln nn (nI (p + 1)) [x0, x1] xc vs)) F) : mm_E 132 0 [some (.ref 138), none, none] [] (mk_M c n m kk (rT K xm xi xw im le nu rf ln nn (nI p) [x0, x1] xc vs)) F := by
  obtain ⟨b1, b2, b3⟩ := id hB
  refine me_seg 1 (pc1 := 1) (ls1 := [some (.ref 138), none, none]) (st1 := [.ref 138]) (M1 := (mk_M c n m kk (rT K xm xi xw im le nu rf ln nn (nI p) [x0, x1] xc vs))) (fun f => rfl) ?_
  refine me_call (y := 133) (y0 := 4) (L := [some (.ref 138)]) (rest := []) (rr := some (.int 119)) (M1 := (mk_M c n m kk (rT K xm xi xw im le nu rf ln nn (nI p) [x0, x1] xc vs))) (fun f => rfl) (mr_eq (kd_here p [x0, x1] K xm xi xw im le nu rf ln nn xc vs c n m kk hB (by omega)) (by rw [khere_t h0, hc] <;> rfl)) ?_
  refine me_seg 6 (pc1 := 12) (ls1 := [some (.ref 138), some (.int 119), none]) (st1 := [.int ((nI p) + (1 : Int32)), .ref 138]) (M1 := (mk_M c n m kk (rT K xm xi xw im le nu rf ln nn (nI p) [x0, x1] xc vs))) (fun f => rfl) ?_
  refine me_v (nI_add p 1) ?_
  refine me_seg 1 (pc1 := 15) (ls1 := [some (.ref 138), some (.int 119), none]) (st1 := []) (M1 := (mk_MR c n m kk (er K) xm xi xw (nI im) (le.map nI) (nu.map nI) (rf.map nI) (nI ln) (nI nn) (nI (p + 1)) [x0, x1] xc vs)) (fun f => rfl) ?_
  refine me_M (mk_MRk c n m kk K xm xi xw im le nu rf ln nn (nI (p + 1)) [x0, x1] xc vs) ?_
  refine me_seg 2 (pc1 := 151) (ls1 := [some (.ref 138), some (.int 119), none]) (st1 := []) (M1 := (mk_M c n m kk (rT K xm xi xw im le nu rf ln nn (nI (p + 1)) [x0, x1] xc vs))) (fun f => rfl) ?_
  exact hF
set_option maxRecDepth 100000 in
theorem rs_hd_115 (K : kK) (xm xi xw : List Int32) (im : Nat) (le nu rf : List Nat) (ln nn : Nat) (xc : List Int32) (vs : Int32) (c : cC) (n m kk : kG) (p : Nat) (x0 x1 : Int32) (hB : iB le ln) (hp : p < 1000) (h0 : p < ln) (hc : kg le p = 115) (F : Option Value → mm_H → Prop) (hF : mm_E 132 151 [some (.ref 138), some (.int 115), none] [] (mk_M c n m kk (rT K xm xi xw im le nu rf ln nn (nI (p + 1)) [x0, x1] xc vs)) F) : mm_E 132 0 [some (.ref 138), none, none] [] (mk_M c n m kk (rT K xm xi xw im le nu rf ln nn (nI p) [x0, x1] xc vs)) F := by
  obtain ⟨b1, b2, b3⟩ := id hB
  refine me_seg 1 (pc1 := 1) (ls1 := [some (.ref 138), none, none]) (st1 := [.ref 138]) (M1 := (mk_M c n m kk (rT K xm xi xw im le nu rf ln nn (nI p) [x0, x1] xc vs))) (fun f => rfl) ?_
  refine me_call (y := 133) (y0 := 4) (L := [some (.ref 138)]) (rest := []) (rr := some (.int 115)) (M1 := (mk_M c n m kk (rT K xm xi xw im le nu rf ln nn (nI p) [x0, x1] xc vs))) (fun f => rfl) (mr_eq (kd_here p [x0, x1] K xm xi xw im le nu rf ln nn xc vs c n m kk hB (by omega)) (by rw [khere_t h0, hc] <;> rfl)) ?_
  refine me_seg 6 (pc1 := 12) (ls1 := [some (.ref 138), some (.int 115), none]) (st1 := [.int ((nI p) + (1 : Int32)), .ref 138]) (M1 := (mk_M c n m kk (rT K xm xi xw im le nu rf ln nn (nI p) [x0, x1] xc vs))) (fun f => rfl) ?_
  refine me_v (nI_add p 1) ?_
  refine me_seg 1 (pc1 := 15) (ls1 := [some (.ref 138), some (.int 115), none]) (st1 := []) (M1 := (mk_MR c n m kk (er K) xm xi xw (nI im) (le.map nI) (nu.map nI) (rf.map nI) (nI ln) (nI nn) (nI (p + 1)) [x0, x1] xc vs)) (fun f => rfl) ?_
  refine me_M (mk_MRk c n m kk K xm xi xw im le nu rf ln nn (nI (p + 1)) [x0, x1] xc vs) ?_
  refine me_seg 2 (pc1 := 151) (ls1 := [some (.ref 138), some (.int 115), none]) (st1 := []) (M1 := (mk_M c n m kk (rT K xm xi xw im le nu rf ln nn (nI (p + 1)) [x0, x1] xc vs))) (fun f => rfl) ?_
  exact hF
set_option maxRecDepth 100000 in
theorem rs_hd_109 (K : kK) (xm xi xw : List Int32) (im : Nat) (le nu rf : List Nat) (ln nn : Nat) (xc : List Int32) (vs : Int32) (c : cC) (n m kk : kG) (p : Nat) (x0 x1 : Int32) (hB : iB le ln) (hp : p < 1000) (h0 : p < ln) (hc : kg le p = 109) (F : Option Value → mm_H → Prop) (hF : mm_E 132 161 [some (.ref 138), some (.int 109), none] [] (mk_M c n m kk (rT K xm xi xw im le nu rf ln nn (nI (p + 1)) [x0, x1] xc vs)) F) : mm_E 132 0 [some (.ref 138), none, none] [] (mk_M c n m kk (rT K xm xi xw im le nu rf ln nn (nI p) [x0, x1] xc vs)) F := by
  obtain ⟨b1, b2, b3⟩ := id hB
  refine me_seg 1 (pc1 := 1) (ls1 := [some (.ref 138), none, none]) (st1 := [.ref 138]) (M1 := (mk_M c n m kk (rT K xm xi xw im le nu rf ln nn (nI p) [x0, x1] xc vs))) (fun f => rfl) ?_
  refine me_call (y := 133) (y0 := 4) (L := [some (.ref 138)]) (rest := []) (rr := some (.int 109)) (M1 := (mk_M c n m kk (rT K xm xi xw im le nu rf ln nn (nI p) [x0, x1] xc vs))) (fun f => rfl) (mr_eq (kd_here p [x0, x1] K xm xi xw im le nu rf ln nn xc vs c n m kk hB (by omega)) (by rw [khere_t h0, hc] <;> rfl)) ?_
  refine me_seg 6 (pc1 := 12) (ls1 := [some (.ref 138), some (.int 109), none]) (st1 := [.int ((nI p) + (1 : Int32)), .ref 138]) (M1 := (mk_M c n m kk (rT K xm xi xw im le nu rf ln nn (nI p) [x0, x1] xc vs))) (fun f => rfl) ?_
  refine me_v (nI_add p 1) ?_
  refine me_seg 1 (pc1 := 15) (ls1 := [some (.ref 138), some (.int 109), none]) (st1 := []) (M1 := (mk_MR c n m kk (er K) xm xi xw (nI im) (le.map nI) (nu.map nI) (rf.map nI) (nI ln) (nI nn) (nI (p + 1)) [x0, x1] xc vs)) (fun f => rfl) ?_
  refine me_M (mk_MRk c n m kk K xm xi xw im le nu rf ln nn (nI (p + 1)) [x0, x1] xc vs) ?_
  refine me_seg 2 (pc1 := 161) (ls1 := [some (.ref 138), some (.int 109), none]) (st1 := []) (M1 := (mk_M c n m kk (rT K xm xi xw im le nu rf ln nn (nI (p + 1)) [x0, x1] xc vs))) (fun f => rfl) ?_
  exact hF
set_option maxRecDepth 100000 in
theorem rs_hd_120 (K : kK) (xm xi xw : List Int32) (im : Nat) (le nu rf : List Nat) (ln nn : Nat) (xc : List Int32) (vs : Int32) (c : cC) (n m kk : kG) (p : Nat) (x0 x1 : Int32) (hB : iB le ln) (hp : p < 1000) (h0 : p < ln) (hc : kg le p = 120) (F : Option Value → mm_H → Prop) (hF : mm_E 132 186 [some (.ref 138), some (.int 120), none] [] (mk_M c n m kk (rT K xm xi xw im le nu rf ln nn (nI (p + 1)) [x0, x1] xc vs)) F) : mm_E 132 0 [some (.ref 138), none, none] [] (mk_M c n m kk (rT K xm xi xw im le nu rf ln nn (nI p) [x0, x1] xc vs)) F := by
  obtain ⟨b1, b2, b3⟩ := id hB
  refine me_seg 1 (pc1 := 1) (ls1 := [some (.ref 138), none, none]) (st1 := [.ref 138]) (M1 := (mk_M c n m kk (rT K xm xi xw im le nu rf ln nn (nI p) [x0, x1] xc vs))) (fun f => rfl) ?_
  refine me_call (y := 133) (y0 := 4) (L := [some (.ref 138)]) (rest := []) (rr := some (.int 120)) (M1 := (mk_M c n m kk (rT K xm xi xw im le nu rf ln nn (nI p) [x0, x1] xc vs))) (fun f => rfl) (mr_eq (kd_here p [x0, x1] K xm xi xw im le nu rf ln nn xc vs c n m kk hB (by omega)) (by rw [khere_t h0, hc] <;> rfl)) ?_
  refine me_seg 6 (pc1 := 12) (ls1 := [some (.ref 138), some (.int 120), none]) (st1 := [.int ((nI p) + (1 : Int32)), .ref 138]) (M1 := (mk_M c n m kk (rT K xm xi xw im le nu rf ln nn (nI p) [x0, x1] xc vs))) (fun f => rfl) ?_
  refine me_v (nI_add p 1) ?_
  refine me_seg 1 (pc1 := 15) (ls1 := [some (.ref 138), some (.int 120), none]) (st1 := []) (M1 := (mk_MR c n m kk (er K) xm xi xw (nI im) (le.map nI) (nu.map nI) (rf.map nI) (nI ln) (nI nn) (nI (p + 1)) [x0, x1] xc vs)) (fun f => rfl) ?_
  refine me_M (mk_MRk c n m kk K xm xi xw im le nu rf ln nn (nI (p + 1)) [x0, x1] xc vs) ?_
  refine me_seg 2 (pc1 := 186) (ls1 := [some (.ref 138), some (.int 120), none]) (st1 := []) (M1 := (mk_M c n m kk (rT K xm xi xw im le nu rf ln nn (nI (p + 1)) [x0, x1] xc vs))) (fun f => rfl) ?_
  exact hF
set_option maxRecDepth 100000 in
theorem rs_no_0 (K : kK) (xm xi xw : List Int32) (im : Nat) (le nu rf : List Nat) (ln nn : Nat) (xc : List Int32) (vs : Int32) (c : cC) (n m kk : kG) (p : Nat) (x0 x1 : Int32) (hB : iB le ln) (hp : p < 1000) (h0 : ¬ p < ln) : mm_E 132 0 [some (.ref 138), none, none] [] (mk_M c n m kk (rT K xm xi xw im le nu rf ln nn (nI p) [x0, x1] xc vs)) (fun r M1 => r = some (.int 0) ∧ ∃ xn2 : List Int32, xn2.length = 2 ∧ M1 = mk_M c n m kk (rT K xm xi xw im le nu rf ln nn (nI p) xn2 xc vs)) := by
  obtain ⟨b1, b2, b3⟩ := id hB
  have e0 := b2 p
  refine me_seg 1 (pc1 := 1) (ls1 := [some (.ref 138), none, none]) (st1 := [.ref 138]) (M1 := (mk_M c n m kk (rT K xm xi xw im le nu rf ln nn (nI p) [x0, x1] xc vs))) (fun f => rfl) ?_
  refine me_call (y := 133) (y0 := 4) (L := [some (.ref 138)]) (rest := []) (rr := some (.int (-1))) (M1 := (mk_M c n m kk (rT K xm xi xw im le nu rf ln nn (nI p) [x0, x1] xc vs))) (fun f => rfl) (mr_eq (kd_here p [x0, x1] K xm xi xw im le nu rf ln nn xc vs c n m kk hB (by omega)) (by rw [khere_f h0])) ?_
  refine me_seg 6 (pc1 := 12) (ls1 := [some (.ref 138), some (.int (-1)), none]) (st1 := [.int ((nI p) + (1 : Int32)), .ref 138]) (M1 := (mk_M c n m kk (rT K xm xi xw im le nu rf ln nn (nI p) [x0, x1] xc vs))) (fun f => rfl) ?_
  refine me_v (nI_add p 1) ?_
  refine me_seg 1 (pc1 := 15) (ls1 := [some (.ref 138), some (.int (-1)), none]) (st1 := []) (M1 := (mk_MR c n m kk (er K) xm xi xw (nI im) (le.map nI) (nu.map nI) (rf.map nI) (nI ln) (nI nn) (nI (p + 1)) [x0, x1] xc vs)) (fun f => rfl) ?_
  refine me_M (mk_MRk c n m kk K xm xi xw im le nu rf ln nn (nI (p + 1)) [x0, x1] xc vs) ?_
  refine me_seg 7 (pc1 := 203) (ls1 := [some (.ref 138), some (.int (-1)), none]) (st1 := [.int ((nI (p + 1)) - (1 : Int32)), .ref 138]) (M1 := (mk_M c n m kk (rT K xm xi xw im le nu rf ln nn (nI (p + 1)) [x0, x1] xc vs))) (fun f => rfl) ?_
  refine me_v (pk_sub (a := p + 1) (b := 1) (by omega)) ?_
  refine me_seg 1 (pc1 := 206) (ls1 := [some (.ref 138), some (.int (-1)), none]) (st1 := []) (M1 := (mk_MR c n m kk (er K) xm xi xw (nI im) (le.map nI) (nu.map nI) (rf.map nI) (nI ln) (nI nn) (nI ((p + 1) - 1)) [x0, x1] xc vs)) (fun f => rfl) ?_
  refine me_M (mk_MRk c n m kk K xm xi xw im le nu rf ln nn (nI ((p + 1) - 1)) [x0, x1] xc vs) ?_
  refine me_ret 2 (r := some (.int 0)) (M1 := (mk_M c n m kk (rT K xm xi xw im le nu rf ln nn (nI ((p + 1) - 1)) [x0, x1] xc vs))) (fun f => rfl) ?_
  exact ⟨rfl, _, rfl, by rw [Nat.add_sub_cancel] <;> rfl⟩
set_option maxRecDepth 100000 in
theorem rs_no_x (K : kK) (xm xi xw : List Int32) (im : Nat) (le nu rf : List Nat) (ln nn : Nat) (xc : List Int32) (vs : Int32) (c : cC) (n m kk : kG) (p : Nat) (x0 x1 : Int32) (hB : iB le ln) (hp : p < 1000) (h0 : p < ln) (hr : kg le p < 98 ∨ 120 < kg le p) : mm_E 132 0 [some (.ref 138), none, none] [] (mk_M c n m kk (rT K xm xi xw im le nu rf ln nn (nI p) [x0, x1] xc vs)) (fun r M1 => r = some (.int 0) ∧ ∃ xn2 : List Int32, xn2.length = 2 ∧ M1 = mk_M c n m kk (rT K xm xi xw im le nu rf ln nn (nI p) xn2 xc vs)) := by
  obtain ⟨b1, b2, b3⟩ := id hB
  have e0 := b2 p
  refine me_seg 1 (pc1 := 1) (ls1 := [some (.ref 138), none, none]) (st1 := [.ref 138]) (M1 := (mk_M c n m kk (rT K xm xi xw im le nu rf ln nn (nI p) [x0, x1] xc vs))) (fun f => rfl) ?_
  refine me_call (y := 133) (y0 := 4) (L := [some (.ref 138)]) (rest := []) (rr := some (.int (nI (kg le p)))) (M1 := (mk_M c n m kk (rT K xm xi xw im le nu rf ln nn (nI p) [x0, x1] xc vs))) (fun f => rfl) (mr_eq (kd_here p [x0, x1] K xm xi xw im le nu rf ln nn xc vs c n m kk hB (by omega)) (by rw [khere_t h0])) ?_
  refine me_seg 6 (pc1 := 12) (ls1 := [some (.ref 138), some (.int (nI (kg le p))), none]) (st1 := [.int ((nI p) + (1 : Int32)), .ref 138]) (M1 := (mk_M c n m kk (rT K xm xi xw im le nu rf ln nn (nI p) [x0, x1] xc vs))) (fun f => rfl) ?_
  refine me_v (nI_add p 1) ?_
  refine me_seg 1 (pc1 := 15) (ls1 := [some (.ref 138), some (.int (nI (kg le p))), none]) (st1 := []) (M1 := (mk_MR c n m kk (er K) xm xi xw (nI im) (le.map nI) (nu.map nI) (rf.map nI) (nI ln) (nI nn) (nI (p + 1)) [x0, x1] xc vs)) (fun f => rfl) ?_
  refine me_M (mk_MRk c n m kk K xm xi xw im le nu rf ln nn (nI (p + 1)) [x0, x1] xc vs) ?_
  refine me_seg 1 (pc1 := 16) (ls1 := [some (.ref 138), some (.int (nI (kg le p))), none]) (st1 := [.int (nI (kg le p))]) (M1 := (mk_M c n m kk (rT K xm xi xw im le nu rf ln nn (nI (p + 1)) [x0, x1] xc vs))) (fun f => rfl) ?_
  refine me_tsw (t1 := 196) rfl (by rw [nI_toInt (by omega)]; omega) (by decide) ?_
  refine me_seg 5 (pc1 := 203) (ls1 := [some (.ref 138), some (.int (nI (kg le p))), none]) (st1 := [.int ((nI (p + 1)) - (1 : Int32)), .ref 138]) (M1 := (mk_M c n m kk (rT K xm xi xw im le nu rf ln nn (nI (p + 1)) [x0, x1] xc vs))) (fun f => rfl) ?_
  refine me_v (pk_sub (a := p + 1) (b := 1) (by omega)) ?_
  refine me_seg 1 (pc1 := 206) (ls1 := [some (.ref 138), some (.int (nI (kg le p))), none]) (st1 := []) (M1 := (mk_MR c n m kk (er K) xm xi xw (nI im) (le.map nI) (nu.map nI) (rf.map nI) (nI ln) (nI nn) (nI ((p + 1) - 1)) [x0, x1] xc vs)) (fun f => rfl) ?_
  refine me_M (mk_MRk c n m kk K xm xi xw im le nu rf ln nn (nI ((p + 1) - 1)) [x0, x1] xc vs) ?_
  refine me_ret 2 (r := some (.int 0)) (M1 := (mk_M c n m kk (rT K xm xi xw im le nu rf ln nn (nI ((p + 1) - 1)) [x0, x1] xc vs))) (fun f => rfl) ?_
  exact ⟨rfl, _, rfl, by rw [Nat.add_sub_cancel] <;> rfl⟩
set_option maxRecDepth 100000 in
theorem rs_no_100 (K : kK) (xm xi xw : List Int32) (im : Nat) (le nu rf : List Nat) (ln nn : Nat) (xc : List Int32) (vs : Int32) (c : cC) (n m kk : kG) (p : Nat) (x0 x1 : Int32) (hB : iB le ln) (hp : p < 1000) (h0 : p < ln) (hc : kg le p = 100) : mm_E 132 0 [some (.ref 138), none, none] [] (mk_M c n m kk (rT K xm xi xw im le nu rf ln nn (nI p) [x0, x1] xc vs)) (fun r M1 => r = some (.int 0) ∧ ∃ xn2 : List Int32, xn2.length = 2 ∧ M1 = mk_M c n m kk (rT K xm xi xw im le nu rf ln nn (nI p) xn2 xc vs)) := by
  obtain ⟨b1, b2, b3⟩ := id hB
  have e0 := b2 p
  refine me_seg 1 (pc1 := 1) (ls1 := [some (.ref 138), none, none]) (st1 := [.ref 138]) (M1 := (mk_M c n m kk (rT K xm xi xw im le nu rf ln nn (nI p) [x0, x1] xc vs))) (fun f => rfl) ?_
  refine me_call (y := 133) (y0 := 4) (L := [some (.ref 138)]) (rest := []) (rr := some (.int 100)) (M1 := (mk_M c n m kk (rT K xm xi xw im le nu rf ln nn (nI p) [x0, x1] xc vs))) (fun f => rfl) (mr_eq (kd_here p [x0, x1] K xm xi xw im le nu rf ln nn xc vs c n m kk hB (by omega)) (by rw [khere_t h0, hc] <;> rfl)) ?_
  refine me_seg 6 (pc1 := 12) (ls1 := [some (.ref 138), some (.int 100), none]) (st1 := [.int ((nI p) + (1 : Int32)), .ref 138]) (M1 := (mk_M c n m kk (rT K xm xi xw im le nu rf ln nn (nI p) [x0, x1] xc vs))) (fun f => rfl) ?_
  refine me_v (nI_add p 1) ?_
  refine me_seg 1 (pc1 := 15) (ls1 := [some (.ref 138), some (.int 100), none]) (st1 := []) (M1 := (mk_MR c n m kk (er K) xm xi xw (nI im) (le.map nI) (nu.map nI) (rf.map nI) (nI ln) (nI nn) (nI (p + 1)) [x0, x1] xc vs)) (fun f => rfl) ?_
  refine me_M (mk_MRk c n m kk K xm xi xw im le nu rf ln nn (nI (p + 1)) [x0, x1] xc vs) ?_
  refine me_seg 7 (pc1 := 203) (ls1 := [some (.ref 138), some (.int 100), none]) (st1 := [.int ((nI (p + 1)) - (1 : Int32)), .ref 138]) (M1 := (mk_M c n m kk (rT K xm xi xw im le nu rf ln nn (nI (p + 1)) [x0, x1] xc vs))) (fun f => rfl) ?_
  refine me_v (pk_sub (a := p + 1) (b := 1) (by omega)) ?_
  refine me_seg 1 (pc1 := 206) (ls1 := [some (.ref 138), some (.int 100), none]) (st1 := []) (M1 := (mk_MR c n m kk (er K) xm xi xw (nI im) (le.map nI) (nu.map nI) (rf.map nI) (nI ln) (nI nn) (nI ((p + 1) - 1)) [x0, x1] xc vs)) (fun f => rfl) ?_
  refine me_M (mk_MRk c n m kk K xm xi xw im le nu rf ln nn (nI ((p + 1) - 1)) [x0, x1] xc vs) ?_
  refine me_ret 2 (r := some (.int 0)) (M1 := (mk_M c n m kk (rT K xm xi xw im le nu rf ln nn (nI ((p + 1) - 1)) [x0, x1] xc vs))) (fun f => rfl) ?_
  exact ⟨rfl, _, rfl, by rw [Nat.add_sub_cancel] <;> rfl⟩
set_option maxRecDepth 100000 in
theorem rs_no_101 (K : kK) (xm xi xw : List Int32) (im : Nat) (le nu rf : List Nat) (ln nn : Nat) (xc : List Int32) (vs : Int32) (c : cC) (n m kk : kG) (p : Nat) (x0 x1 : Int32) (hB : iB le ln) (hp : p < 1000) (h0 : p < ln) (hc : kg le p = 101) : mm_E 132 0 [some (.ref 138), none, none] [] (mk_M c n m kk (rT K xm xi xw im le nu rf ln nn (nI p) [x0, x1] xc vs)) (fun r M1 => r = some (.int 0) ∧ ∃ xn2 : List Int32, xn2.length = 2 ∧ M1 = mk_M c n m kk (rT K xm xi xw im le nu rf ln nn (nI p) xn2 xc vs)) := by
  obtain ⟨b1, b2, b3⟩ := id hB
  have e0 := b2 p
  refine me_seg 1 (pc1 := 1) (ls1 := [some (.ref 138), none, none]) (st1 := [.ref 138]) (M1 := (mk_M c n m kk (rT K xm xi xw im le nu rf ln nn (nI p) [x0, x1] xc vs))) (fun f => rfl) ?_
  refine me_call (y := 133) (y0 := 4) (L := [some (.ref 138)]) (rest := []) (rr := some (.int 101)) (M1 := (mk_M c n m kk (rT K xm xi xw im le nu rf ln nn (nI p) [x0, x1] xc vs))) (fun f => rfl) (mr_eq (kd_here p [x0, x1] K xm xi xw im le nu rf ln nn xc vs c n m kk hB (by omega)) (by rw [khere_t h0, hc] <;> rfl)) ?_
  refine me_seg 6 (pc1 := 12) (ls1 := [some (.ref 138), some (.int 101), none]) (st1 := [.int ((nI p) + (1 : Int32)), .ref 138]) (M1 := (mk_M c n m kk (rT K xm xi xw im le nu rf ln nn (nI p) [x0, x1] xc vs))) (fun f => rfl) ?_
  refine me_v (nI_add p 1) ?_
  refine me_seg 1 (pc1 := 15) (ls1 := [some (.ref 138), some (.int 101), none]) (st1 := []) (M1 := (mk_MR c n m kk (er K) xm xi xw (nI im) (le.map nI) (nu.map nI) (rf.map nI) (nI ln) (nI nn) (nI (p + 1)) [x0, x1] xc vs)) (fun f => rfl) ?_
  refine me_M (mk_MRk c n m kk K xm xi xw im le nu rf ln nn (nI (p + 1)) [x0, x1] xc vs) ?_
  refine me_seg 7 (pc1 := 203) (ls1 := [some (.ref 138), some (.int 101), none]) (st1 := [.int ((nI (p + 1)) - (1 : Int32)), .ref 138]) (M1 := (mk_M c n m kk (rT K xm xi xw im le nu rf ln nn (nI (p + 1)) [x0, x1] xc vs))) (fun f => rfl) ?_
  refine me_v (pk_sub (a := p + 1) (b := 1) (by omega)) ?_
  refine me_seg 1 (pc1 := 206) (ls1 := [some (.ref 138), some (.int 101), none]) (st1 := []) (M1 := (mk_MR c n m kk (er K) xm xi xw (nI im) (le.map nI) (nu.map nI) (rf.map nI) (nI ln) (nI nn) (nI ((p + 1) - 1)) [x0, x1] xc vs)) (fun f => rfl) ?_
  refine me_M (mk_MRk c n m kk K xm xi xw im le nu rf ln nn (nI ((p + 1) - 1)) [x0, x1] xc vs) ?_
  refine me_ret 2 (r := some (.int 0)) (M1 := (mk_M c n m kk (rT K xm xi xw im le nu rf ln nn (nI ((p + 1) - 1)) [x0, x1] xc vs))) (fun f => rfl) ?_
  exact ⟨rfl, _, rfl, by rw [Nat.add_sub_cancel] <;> rfl⟩
set_option maxRecDepth 100000 in
theorem rs_no_102 (K : kK) (xm xi xw : List Int32) (im : Nat) (le nu rf : List Nat) (ln nn : Nat) (xc : List Int32) (vs : Int32) (c : cC) (n m kk : kG) (p : Nat) (x0 x1 : Int32) (hB : iB le ln) (hp : p < 1000) (h0 : p < ln) (hc : kg le p = 102) : mm_E 132 0 [some (.ref 138), none, none] [] (mk_M c n m kk (rT K xm xi xw im le nu rf ln nn (nI p) [x0, x1] xc vs)) (fun r M1 => r = some (.int 0) ∧ ∃ xn2 : List Int32, xn2.length = 2 ∧ M1 = mk_M c n m kk (rT K xm xi xw im le nu rf ln nn (nI p) xn2 xc vs)) := by
  obtain ⟨b1, b2, b3⟩ := id hB
  have e0 := b2 p
  refine me_seg 1 (pc1 := 1) (ls1 := [some (.ref 138), none, none]) (st1 := [.ref 138]) (M1 := (mk_M c n m kk (rT K xm xi xw im le nu rf ln nn (nI p) [x0, x1] xc vs))) (fun f => rfl) ?_
  refine me_call (y := 133) (y0 := 4) (L := [some (.ref 138)]) (rest := []) (rr := some (.int 102)) (M1 := (mk_M c n m kk (rT K xm xi xw im le nu rf ln nn (nI p) [x0, x1] xc vs))) (fun f => rfl) (mr_eq (kd_here p [x0, x1] K xm xi xw im le nu rf ln nn xc vs c n m kk hB (by omega)) (by rw [khere_t h0, hc] <;> rfl)) ?_
  refine me_seg 6 (pc1 := 12) (ls1 := [some (.ref 138), some (.int 102), none]) (st1 := [.int ((nI p) + (1 : Int32)), .ref 138]) (M1 := (mk_M c n m kk (rT K xm xi xw im le nu rf ln nn (nI p) [x0, x1] xc vs))) (fun f => rfl) ?_
  refine me_v (nI_add p 1) ?_
  refine me_seg 1 (pc1 := 15) (ls1 := [some (.ref 138), some (.int 102), none]) (st1 := []) (M1 := (mk_MR c n m kk (er K) xm xi xw (nI im) (le.map nI) (nu.map nI) (rf.map nI) (nI ln) (nI nn) (nI (p + 1)) [x0, x1] xc vs)) (fun f => rfl) ?_
  refine me_M (mk_MRk c n m kk K xm xi xw im le nu rf ln nn (nI (p + 1)) [x0, x1] xc vs) ?_
  refine me_seg 7 (pc1 := 203) (ls1 := [some (.ref 138), some (.int 102), none]) (st1 := [.int ((nI (p + 1)) - (1 : Int32)), .ref 138]) (M1 := (mk_M c n m kk (rT K xm xi xw im le nu rf ln nn (nI (p + 1)) [x0, x1] xc vs))) (fun f => rfl) ?_
  refine me_v (pk_sub (a := p + 1) (b := 1) (by omega)) ?_
  refine me_seg 1 (pc1 := 206) (ls1 := [some (.ref 138), some (.int 102), none]) (st1 := []) (M1 := (mk_MR c n m kk (er K) xm xi xw (nI im) (le.map nI) (nu.map nI) (rf.map nI) (nI ln) (nI nn) (nI ((p + 1) - 1)) [x0, x1] xc vs)) (fun f => rfl) ?_
  refine me_M (mk_MRk c n m kk K xm xi xw im le nu rf ln nn (nI ((p + 1) - 1)) [x0, x1] xc vs) ?_
  refine me_ret 2 (r := some (.int 0)) (M1 := (mk_M c n m kk (rT K xm xi xw im le nu rf ln nn (nI ((p + 1) - 1)) [x0, x1] xc vs))) (fun f => rfl) ?_
  exact ⟨rfl, _, rfl, by rw [Nat.add_sub_cancel] <;> rfl⟩
set_option maxRecDepth 100000 in
theorem rs_no_104 (K : kK) (xm xi xw : List Int32) (im : Nat) (le nu rf : List Nat) (ln nn : Nat) (xc : List Int32) (vs : Int32) (c : cC) (n m kk : kG) (p : Nat) (x0 x1 : Int32) (hB : iB le ln) (hp : p < 1000) (h0 : p < ln) (hc : kg le p = 104) : mm_E 132 0 [some (.ref 138), none, none] [] (mk_M c n m kk (rT K xm xi xw im le nu rf ln nn (nI p) [x0, x1] xc vs)) (fun r M1 => r = some (.int 0) ∧ ∃ xn2 : List Int32, xn2.length = 2 ∧ M1 = mk_M c n m kk (rT K xm xi xw im le nu rf ln nn (nI p) xn2 xc vs)) := by
  obtain ⟨b1, b2, b3⟩ := id hB
  have e0 := b2 p
  refine me_seg 1 (pc1 := 1) (ls1 := [some (.ref 138), none, none]) (st1 := [.ref 138]) (M1 := (mk_M c n m kk (rT K xm xi xw im le nu rf ln nn (nI p) [x0, x1] xc vs))) (fun f => rfl) ?_
  refine me_call (y := 133) (y0 := 4) (L := [some (.ref 138)]) (rest := []) (rr := some (.int 104)) (M1 := (mk_M c n m kk (rT K xm xi xw im le nu rf ln nn (nI p) [x0, x1] xc vs))) (fun f => rfl) (mr_eq (kd_here p [x0, x1] K xm xi xw im le nu rf ln nn xc vs c n m kk hB (by omega)) (by rw [khere_t h0, hc] <;> rfl)) ?_
  refine me_seg 6 (pc1 := 12) (ls1 := [some (.ref 138), some (.int 104), none]) (st1 := [.int ((nI p) + (1 : Int32)), .ref 138]) (M1 := (mk_M c n m kk (rT K xm xi xw im le nu rf ln nn (nI p) [x0, x1] xc vs))) (fun f => rfl) ?_
  refine me_v (nI_add p 1) ?_
  refine me_seg 1 (pc1 := 15) (ls1 := [some (.ref 138), some (.int 104), none]) (st1 := []) (M1 := (mk_MR c n m kk (er K) xm xi xw (nI im) (le.map nI) (nu.map nI) (rf.map nI) (nI ln) (nI nn) (nI (p + 1)) [x0, x1] xc vs)) (fun f => rfl) ?_
  refine me_M (mk_MRk c n m kk K xm xi xw im le nu rf ln nn (nI (p + 1)) [x0, x1] xc vs) ?_
  refine me_seg 7 (pc1 := 203) (ls1 := [some (.ref 138), some (.int 104), none]) (st1 := [.int ((nI (p + 1)) - (1 : Int32)), .ref 138]) (M1 := (mk_M c n m kk (rT K xm xi xw im le nu rf ln nn (nI (p + 1)) [x0, x1] xc vs))) (fun f => rfl) ?_
  refine me_v (pk_sub (a := p + 1) (b := 1) (by omega)) ?_
  refine me_seg 1 (pc1 := 206) (ls1 := [some (.ref 138), some (.int 104), none]) (st1 := []) (M1 := (mk_MR c n m kk (er K) xm xi xw (nI im) (le.map nI) (nu.map nI) (rf.map nI) (nI ln) (nI nn) (nI ((p + 1) - 1)) [x0, x1] xc vs)) (fun f => rfl) ?_
  refine me_M (mk_MRk c n m kk K xm xi xw im le nu rf ln nn (nI ((p + 1) - 1)) [x0, x1] xc vs) ?_
  refine me_ret 2 (r := some (.int 0)) (M1 := (mk_M c n m kk (rT K xm xi xw im le nu rf ln nn (nI ((p + 1) - 1)) [x0, x1] xc vs))) (fun f => rfl) ?_
  exact ⟨rfl, _, rfl, by rw [Nat.add_sub_cancel] <;> rfl⟩
set_option maxRecDepth 100000 in
theorem rs_no_105 (K : kK) (xm xi xw : List Int32) (im : Nat) (le nu rf : List Nat) (ln nn : Nat) (xc : List Int32) (vs : Int32) (c : cC) (n m kk : kG) (p : Nat) (x0 x1 : Int32) (hB : iB le ln) (hp : p < 1000) (h0 : p < ln) (hc : kg le p = 105) : mm_E 132 0 [some (.ref 138), none, none] [] (mk_M c n m kk (rT K xm xi xw im le nu rf ln nn (nI p) [x0, x1] xc vs)) (fun r M1 => r = some (.int 0) ∧ ∃ xn2 : List Int32, xn2.length = 2 ∧ M1 = mk_M c n m kk (rT K xm xi xw im le nu rf ln nn (nI p) xn2 xc vs)) := by
  obtain ⟨b1, b2, b3⟩ := id hB
  have e0 := b2 p
  refine me_seg 1 (pc1 := 1) (ls1 := [some (.ref 138), none, none]) (st1 := [.ref 138]) (M1 := (mk_M c n m kk (rT K xm xi xw im le nu rf ln nn (nI p) [x0, x1] xc vs))) (fun f => rfl) ?_
  refine me_call (y := 133) (y0 := 4) (L := [some (.ref 138)]) (rest := []) (rr := some (.int 105)) (M1 := (mk_M c n m kk (rT K xm xi xw im le nu rf ln nn (nI p) [x0, x1] xc vs))) (fun f => rfl) (mr_eq (kd_here p [x0, x1] K xm xi xw im le nu rf ln nn xc vs c n m kk hB (by omega)) (by rw [khere_t h0, hc] <;> rfl)) ?_
  refine me_seg 6 (pc1 := 12) (ls1 := [some (.ref 138), some (.int 105), none]) (st1 := [.int ((nI p) + (1 : Int32)), .ref 138]) (M1 := (mk_M c n m kk (rT K xm xi xw im le nu rf ln nn (nI p) [x0, x1] xc vs))) (fun f => rfl) ?_
  refine me_v (nI_add p 1) ?_
  refine me_seg 1 (pc1 := 15) (ls1 := [some (.ref 138), some (.int 105), none]) (st1 := []) (M1 := (mk_MR c n m kk (er K) xm xi xw (nI im) (le.map nI) (nu.map nI) (rf.map nI) (nI ln) (nI nn) (nI (p + 1)) [x0, x1] xc vs)) (fun f => rfl) ?_
  refine me_M (mk_MRk c n m kk K xm xi xw im le nu rf ln nn (nI (p + 1)) [x0, x1] xc vs) ?_
  refine me_seg 7 (pc1 := 203) (ls1 := [some (.ref 138), some (.int 105), none]) (st1 := [.int ((nI (p + 1)) - (1 : Int32)), .ref 138]) (M1 := (mk_M c n m kk (rT K xm xi xw im le nu rf ln nn (nI (p + 1)) [x0, x1] xc vs))) (fun f => rfl) ?_
  refine me_v (pk_sub (a := p + 1) (b := 1) (by omega)) ?_
  refine me_seg 1 (pc1 := 206) (ls1 := [some (.ref 138), some (.int 105), none]) (st1 := []) (M1 := (mk_MR c n m kk (er K) xm xi xw (nI im) (le.map nI) (nu.map nI) (rf.map nI) (nI ln) (nI nn) (nI ((p + 1) - 1)) [x0, x1] xc vs)) (fun f => rfl) ?_
  refine me_M (mk_MRk c n m kk K xm xi xw im le nu rf ln nn (nI ((p + 1) - 1)) [x0, x1] xc vs) ?_
  refine me_ret 2 (r := some (.int 0)) (M1 := (mk_M c n m kk (rT K xm xi xw im le nu rf ln nn (nI ((p + 1) - 1)) [x0, x1] xc vs))) (fun f => rfl) ?_
  exact ⟨rfl, _, rfl, by rw [Nat.add_sub_cancel] <;> rfl⟩
set_option maxRecDepth 100000 in
theorem rs_no_106 (K : kK) (xm xi xw : List Int32) (im : Nat) (le nu rf : List Nat) (ln nn : Nat) (xc : List Int32) (vs : Int32) (c : cC) (n m kk : kG) (p : Nat) (x0 x1 : Int32) (hB : iB le ln) (hp : p < 1000) (h0 : p < ln) (hc : kg le p = 106) : mm_E 132 0 [some (.ref 138), none, none] [] (mk_M c n m kk (rT K xm xi xw im le nu rf ln nn (nI p) [x0, x1] xc vs)) (fun r M1 => r = some (.int 0) ∧ ∃ xn2 : List Int32, xn2.length = 2 ∧ M1 = mk_M c n m kk (rT K xm xi xw im le nu rf ln nn (nI p) xn2 xc vs)) := by
  obtain ⟨b1, b2, b3⟩ := id hB
  have e0 := b2 p
  refine me_seg 1 (pc1 := 1) (ls1 := [some (.ref 138), none, none]) (st1 := [.ref 138]) (M1 := (mk_M c n m kk (rT K xm xi xw im le nu rf ln nn (nI p) [x0, x1] xc vs))) (fun f => rfl) ?_
  refine me_call (y := 133) (y0 := 4) (L := [some (.ref 138)]) (rest := []) (rr := some (.int 106)) (M1 := (mk_M c n m kk (rT K xm xi xw im le nu rf ln nn (nI p) [x0, x1] xc vs))) (fun f => rfl) (mr_eq (kd_here p [x0, x1] K xm xi xw im le nu rf ln nn xc vs c n m kk hB (by omega)) (by rw [khere_t h0, hc] <;> rfl)) ?_
  refine me_seg 6 (pc1 := 12) (ls1 := [some (.ref 138), some (.int 106), none]) (st1 := [.int ((nI p) + (1 : Int32)), .ref 138]) (M1 := (mk_M c n m kk (rT K xm xi xw im le nu rf ln nn (nI p) [x0, x1] xc vs))) (fun f => rfl) ?_
  refine me_v (nI_add p 1) ?_
  refine me_seg 1 (pc1 := 15) (ls1 := [some (.ref 138), some (.int 106), none]) (st1 := []) (M1 := (mk_MR c n m kk (er K) xm xi xw (nI im) (le.map nI) (nu.map nI) (rf.map nI) (nI ln) (nI nn) (nI (p + 1)) [x0, x1] xc vs)) (fun f => rfl) ?_
  refine me_M (mk_MRk c n m kk K xm xi xw im le nu rf ln nn (nI (p + 1)) [x0, x1] xc vs) ?_
  refine me_seg 7 (pc1 := 203) (ls1 := [some (.ref 138), some (.int 106), none]) (st1 := [.int ((nI (p + 1)) - (1 : Int32)), .ref 138]) (M1 := (mk_M c n m kk (rT K xm xi xw im le nu rf ln nn (nI (p + 1)) [x0, x1] xc vs))) (fun f => rfl) ?_
  refine me_v (pk_sub (a := p + 1) (b := 1) (by omega)) ?_
  refine me_seg 1 (pc1 := 206) (ls1 := [some (.ref 138), some (.int 106), none]) (st1 := []) (M1 := (mk_MR c n m kk (er K) xm xi xw (nI im) (le.map nI) (nu.map nI) (rf.map nI) (nI ln) (nI nn) (nI ((p + 1) - 1)) [x0, x1] xc vs)) (fun f => rfl) ?_
  refine me_M (mk_MRk c n m kk K xm xi xw im le nu rf ln nn (nI ((p + 1) - 1)) [x0, x1] xc vs) ?_
  refine me_ret 2 (r := some (.int 0)) (M1 := (mk_M c n m kk (rT K xm xi xw im le nu rf ln nn (nI ((p + 1) - 1)) [x0, x1] xc vs))) (fun f => rfl) ?_
  exact ⟨rfl, _, rfl, by rw [Nat.add_sub_cancel] <;> rfl⟩
set_option maxRecDepth 100000 in
theorem rs_no_108 (K : kK) (xm xi xw : List Int32) (im : Nat) (le nu rf : List Nat) (ln nn : Nat) (xc : List Int32) (vs : Int32) (c : cC) (n m kk : kG) (p : Nat) (x0 x1 : Int32) (hB : iB le ln) (hp : p < 1000) (h0 : p < ln) (hc : kg le p = 108) : mm_E 132 0 [some (.ref 138), none, none] [] (mk_M c n m kk (rT K xm xi xw im le nu rf ln nn (nI p) [x0, x1] xc vs)) (fun r M1 => r = some (.int 0) ∧ ∃ xn2 : List Int32, xn2.length = 2 ∧ M1 = mk_M c n m kk (rT K xm xi xw im le nu rf ln nn (nI p) xn2 xc vs)) := by
  obtain ⟨b1, b2, b3⟩ := id hB
  have e0 := b2 p
  refine me_seg 1 (pc1 := 1) (ls1 := [some (.ref 138), none, none]) (st1 := [.ref 138]) (M1 := (mk_M c n m kk (rT K xm xi xw im le nu rf ln nn (nI p) [x0, x1] xc vs))) (fun f => rfl) ?_
  refine me_call (y := 133) (y0 := 4) (L := [some (.ref 138)]) (rest := []) (rr := some (.int 108)) (M1 := (mk_M c n m kk (rT K xm xi xw im le nu rf ln nn (nI p) [x0, x1] xc vs))) (fun f => rfl) (mr_eq (kd_here p [x0, x1] K xm xi xw im le nu rf ln nn xc vs c n m kk hB (by omega)) (by rw [khere_t h0, hc] <;> rfl)) ?_
  refine me_seg 6 (pc1 := 12) (ls1 := [some (.ref 138), some (.int 108), none]) (st1 := [.int ((nI p) + (1 : Int32)), .ref 138]) (M1 := (mk_M c n m kk (rT K xm xi xw im le nu rf ln nn (nI p) [x0, x1] xc vs))) (fun f => rfl) ?_
  refine me_v (nI_add p 1) ?_
  refine me_seg 1 (pc1 := 15) (ls1 := [some (.ref 138), some (.int 108), none]) (st1 := []) (M1 := (mk_MR c n m kk (er K) xm xi xw (nI im) (le.map nI) (nu.map nI) (rf.map nI) (nI ln) (nI nn) (nI (p + 1)) [x0, x1] xc vs)) (fun f => rfl) ?_
  refine me_M (mk_MRk c n m kk K xm xi xw im le nu rf ln nn (nI (p + 1)) [x0, x1] xc vs) ?_
  refine me_seg 7 (pc1 := 203) (ls1 := [some (.ref 138), some (.int 108), none]) (st1 := [.int ((nI (p + 1)) - (1 : Int32)), .ref 138]) (M1 := (mk_M c n m kk (rT K xm xi xw im le nu rf ln nn (nI (p + 1)) [x0, x1] xc vs))) (fun f => rfl) ?_
  refine me_v (pk_sub (a := p + 1) (b := 1) (by omega)) ?_
  refine me_seg 1 (pc1 := 206) (ls1 := [some (.ref 138), some (.int 108), none]) (st1 := []) (M1 := (mk_MR c n m kk (er K) xm xi xw (nI im) (le.map nI) (nu.map nI) (rf.map nI) (nI ln) (nI nn) (nI ((p + 1) - 1)) [x0, x1] xc vs)) (fun f => rfl) ?_
  refine me_M (mk_MRk c n m kk K xm xi xw im le nu rf ln nn (nI ((p + 1) - 1)) [x0, x1] xc vs) ?_
  refine me_ret 2 (r := some (.int 0)) (M1 := (mk_M c n m kk (rT K xm xi xw im le nu rf ln nn (nI ((p + 1) - 1)) [x0, x1] xc vs))) (fun f => rfl) ?_
  exact ⟨rfl, _, rfl, by rw [Nat.add_sub_cancel] <;> rfl⟩
set_option maxRecDepth 100000 in
theorem rs_no_110 (K : kK) (xm xi xw : List Int32) (im : Nat) (le nu rf : List Nat) (ln nn : Nat) (xc : List Int32) (vs : Int32) (c : cC) (n m kk : kG) (p : Nat) (x0 x1 : Int32) (hB : iB le ln) (hp : p < 1000) (h0 : p < ln) (hc : kg le p = 110) : mm_E 132 0 [some (.ref 138), none, none] [] (mk_M c n m kk (rT K xm xi xw im le nu rf ln nn (nI p) [x0, x1] xc vs)) (fun r M1 => r = some (.int 0) ∧ ∃ xn2 : List Int32, xn2.length = 2 ∧ M1 = mk_M c n m kk (rT K xm xi xw im le nu rf ln nn (nI p) xn2 xc vs)) := by
  obtain ⟨b1, b2, b3⟩ := id hB
  have e0 := b2 p
  refine me_seg 1 (pc1 := 1) (ls1 := [some (.ref 138), none, none]) (st1 := [.ref 138]) (M1 := (mk_M c n m kk (rT K xm xi xw im le nu rf ln nn (nI p) [x0, x1] xc vs))) (fun f => rfl) ?_
  refine me_call (y := 133) (y0 := 4) (L := [some (.ref 138)]) (rest := []) (rr := some (.int 110)) (M1 := (mk_M c n m kk (rT K xm xi xw im le nu rf ln nn (nI p) [x0, x1] xc vs))) (fun f => rfl) (mr_eq (kd_here p [x0, x1] K xm xi xw im le nu rf ln nn xc vs c n m kk hB (by omega)) (by rw [khere_t h0, hc] <;> rfl)) ?_
  refine me_seg 6 (pc1 := 12) (ls1 := [some (.ref 138), some (.int 110), none]) (st1 := [.int ((nI p) + (1 : Int32)), .ref 138]) (M1 := (mk_M c n m kk (rT K xm xi xw im le nu rf ln nn (nI p) [x0, x1] xc vs))) (fun f => rfl) ?_
  refine me_v (nI_add p 1) ?_
  refine me_seg 1 (pc1 := 15) (ls1 := [some (.ref 138), some (.int 110), none]) (st1 := []) (M1 := (mk_MR c n m kk (er K) xm xi xw (nI im) (le.map nI) (nu.map nI) (rf.map nI) (nI ln) (nI nn) (nI (p + 1)) [x0, x1] xc vs)) (fun f => rfl) ?_
  refine me_M (mk_MRk c n m kk K xm xi xw im le nu rf ln nn (nI (p + 1)) [x0, x1] xc vs) ?_
  refine me_seg 7 (pc1 := 203) (ls1 := [some (.ref 138), some (.int 110), none]) (st1 := [.int ((nI (p + 1)) - (1 : Int32)), .ref 138]) (M1 := (mk_M c n m kk (rT K xm xi xw im le nu rf ln nn (nI (p + 1)) [x0, x1] xc vs))) (fun f => rfl) ?_
  refine me_v (pk_sub (a := p + 1) (b := 1) (by omega)) ?_
  refine me_seg 1 (pc1 := 206) (ls1 := [some (.ref 138), some (.int 110), none]) (st1 := []) (M1 := (mk_MR c n m kk (er K) xm xi xw (nI im) (le.map nI) (nu.map nI) (rf.map nI) (nI ln) (nI nn) (nI ((p + 1) - 1)) [x0, x1] xc vs)) (fun f => rfl) ?_
  refine me_M (mk_MRk c n m kk K xm xi xw im le nu rf ln nn (nI ((p + 1) - 1)) [x0, x1] xc vs) ?_
  refine me_ret 2 (r := some (.int 0)) (M1 := (mk_M c n m kk (rT K xm xi xw im le nu rf ln nn (nI ((p + 1) - 1)) [x0, x1] xc vs))) (fun f => rfl) ?_
  exact ⟨rfl, _, rfl, by rw [Nat.add_sub_cancel] <;> rfl⟩
set_option maxRecDepth 100000 in
theorem rs_no_111 (K : kK) (xm xi xw : List Int32) (im : Nat) (le nu rf : List Nat) (ln nn : Nat) (xc : List Int32) (vs : Int32) (c : cC) (n m kk : kG) (p : Nat) (x0 x1 : Int32) (hB : iB le ln) (hp : p < 1000) (h0 : p < ln) (hc : kg le p = 111) : mm_E 132 0 [some (.ref 138), none, none] [] (mk_M c n m kk (rT K xm xi xw im le nu rf ln nn (nI p) [x0, x1] xc vs)) (fun r M1 => r = some (.int 0) ∧ ∃ xn2 : List Int32, xn2.length = 2 ∧ M1 = mk_M c n m kk (rT K xm xi xw im le nu rf ln nn (nI p) xn2 xc vs)) := by
  obtain ⟨b1, b2, b3⟩ := id hB
  have e0 := b2 p
  refine me_seg 1 (pc1 := 1) (ls1 := [some (.ref 138), none, none]) (st1 := [.ref 138]) (M1 := (mk_M c n m kk (rT K xm xi xw im le nu rf ln nn (nI p) [x0, x1] xc vs))) (fun f => rfl) ?_
  refine me_call (y := 133) (y0 := 4) (L := [some (.ref 138)]) (rest := []) (rr := some (.int 111)) (M1 := (mk_M c n m kk (rT K xm xi xw im le nu rf ln nn (nI p) [x0, x1] xc vs))) (fun f => rfl) (mr_eq (kd_here p [x0, x1] K xm xi xw im le nu rf ln nn xc vs c n m kk hB (by omega)) (by rw [khere_t h0, hc] <;> rfl)) ?_
  refine me_seg 6 (pc1 := 12) (ls1 := [some (.ref 138), some (.int 111), none]) (st1 := [.int ((nI p) + (1 : Int32)), .ref 138]) (M1 := (mk_M c n m kk (rT K xm xi xw im le nu rf ln nn (nI p) [x0, x1] xc vs))) (fun f => rfl) ?_
  refine me_v (nI_add p 1) ?_
  refine me_seg 1 (pc1 := 15) (ls1 := [some (.ref 138), some (.int 111), none]) (st1 := []) (M1 := (mk_MR c n m kk (er K) xm xi xw (nI im) (le.map nI) (nu.map nI) (rf.map nI) (nI ln) (nI nn) (nI (p + 1)) [x0, x1] xc vs)) (fun f => rfl) ?_
  refine me_M (mk_MRk c n m kk K xm xi xw im le nu rf ln nn (nI (p + 1)) [x0, x1] xc vs) ?_
  refine me_seg 7 (pc1 := 203) (ls1 := [some (.ref 138), some (.int 111), none]) (st1 := [.int ((nI (p + 1)) - (1 : Int32)), .ref 138]) (M1 := (mk_M c n m kk (rT K xm xi xw im le nu rf ln nn (nI (p + 1)) [x0, x1] xc vs))) (fun f => rfl) ?_
  refine me_v (pk_sub (a := p + 1) (b := 1) (by omega)) ?_
  refine me_seg 1 (pc1 := 206) (ls1 := [some (.ref 138), some (.int 111), none]) (st1 := []) (M1 := (mk_MR c n m kk (er K) xm xi xw (nI im) (le.map nI) (nu.map nI) (rf.map nI) (nI ln) (nI nn) (nI ((p + 1) - 1)) [x0, x1] xc vs)) (fun f => rfl) ?_
  refine me_M (mk_MRk c n m kk K xm xi xw im le nu rf ln nn (nI ((p + 1) - 1)) [x0, x1] xc vs) ?_
  refine me_ret 2 (r := some (.int 0)) (M1 := (mk_M c n m kk (rT K xm xi xw im le nu rf ln nn (nI ((p + 1) - 1)) [x0, x1] xc vs))) (fun f => rfl) ?_
  exact ⟨rfl, _, rfl, by rw [Nat.add_sub_cancel] <;> rfl⟩
set_option maxRecDepth 100000 in
theorem rs_no_112 (K : kK) (xm xi xw : List Int32) (im : Nat) (le nu rf : List Nat) (ln nn : Nat) (xc : List Int32) (vs : Int32) (c : cC) (n m kk : kG) (p : Nat) (x0 x1 : Int32) (hB : iB le ln) (hp : p < 1000) (h0 : p < ln) (hc : kg le p = 112) : mm_E 132 0 [some (.ref 138), none, none] [] (mk_M c n m kk (rT K xm xi xw im le nu rf ln nn (nI p) [x0, x1] xc vs)) (fun r M1 => r = some (.int 0) ∧ ∃ xn2 : List Int32, xn2.length = 2 ∧ M1 = mk_M c n m kk (rT K xm xi xw im le nu rf ln nn (nI p) xn2 xc vs)) := by
  obtain ⟨b1, b2, b3⟩ := id hB
  have e0 := b2 p
  refine me_seg 1 (pc1 := 1) (ls1 := [some (.ref 138), none, none]) (st1 := [.ref 138]) (M1 := (mk_M c n m kk (rT K xm xi xw im le nu rf ln nn (nI p) [x0, x1] xc vs))) (fun f => rfl) ?_
  refine me_call (y := 133) (y0 := 4) (L := [some (.ref 138)]) (rest := []) (rr := some (.int 112)) (M1 := (mk_M c n m kk (rT K xm xi xw im le nu rf ln nn (nI p) [x0, x1] xc vs))) (fun f => rfl) (mr_eq (kd_here p [x0, x1] K xm xi xw im le nu rf ln nn xc vs c n m kk hB (by omega)) (by rw [khere_t h0, hc] <;> rfl)) ?_
  refine me_seg 6 (pc1 := 12) (ls1 := [some (.ref 138), some (.int 112), none]) (st1 := [.int ((nI p) + (1 : Int32)), .ref 138]) (M1 := (mk_M c n m kk (rT K xm xi xw im le nu rf ln nn (nI p) [x0, x1] xc vs))) (fun f => rfl) ?_
  refine me_v (nI_add p 1) ?_
  refine me_seg 1 (pc1 := 15) (ls1 := [some (.ref 138), some (.int 112), none]) (st1 := []) (M1 := (mk_MR c n m kk (er K) xm xi xw (nI im) (le.map nI) (nu.map nI) (rf.map nI) (nI ln) (nI nn) (nI (p + 1)) [x0, x1] xc vs)) (fun f => rfl) ?_
  refine me_M (mk_MRk c n m kk K xm xi xw im le nu rf ln nn (nI (p + 1)) [x0, x1] xc vs) ?_
  refine me_seg 7 (pc1 := 203) (ls1 := [some (.ref 138), some (.int 112), none]) (st1 := [.int ((nI (p + 1)) - (1 : Int32)), .ref 138]) (M1 := (mk_M c n m kk (rT K xm xi xw im le nu rf ln nn (nI (p + 1)) [x0, x1] xc vs))) (fun f => rfl) ?_
  refine me_v (pk_sub (a := p + 1) (b := 1) (by omega)) ?_
  refine me_seg 1 (pc1 := 206) (ls1 := [some (.ref 138), some (.int 112), none]) (st1 := []) (M1 := (mk_MR c n m kk (er K) xm xi xw (nI im) (le.map nI) (nu.map nI) (rf.map nI) (nI ln) (nI nn) (nI ((p + 1) - 1)) [x0, x1] xc vs)) (fun f => rfl) ?_
  refine me_M (mk_MRk c n m kk K xm xi xw im le nu rf ln nn (nI ((p + 1) - 1)) [x0, x1] xc vs) ?_
  refine me_ret 2 (r := some (.int 0)) (M1 := (mk_M c n m kk (rT K xm xi xw im le nu rf ln nn (nI ((p + 1) - 1)) [x0, x1] xc vs))) (fun f => rfl) ?_
  exact ⟨rfl, _, rfl, by rw [Nat.add_sub_cancel] <;> rfl⟩
set_option maxRecDepth 100000 in
theorem rs_no_113 (K : kK) (xm xi xw : List Int32) (im : Nat) (le nu rf : List Nat) (ln nn : Nat) (xc : List Int32) (vs : Int32) (c : cC) (n m kk : kG) (p : Nat) (x0 x1 : Int32) (hB : iB le ln) (hp : p < 1000) (h0 : p < ln) (hc : kg le p = 113) : mm_E 132 0 [some (.ref 138), none, none] [] (mk_M c n m kk (rT K xm xi xw im le nu rf ln nn (nI p) [x0, x1] xc vs)) (fun r M1 => r = some (.int 0) ∧ ∃ xn2 : List Int32, xn2.length = 2 ∧ M1 = mk_M c n m kk (rT K xm xi xw im le nu rf ln nn (nI p) xn2 xc vs)) := by
  obtain ⟨b1, b2, b3⟩ := id hB
  have e0 := b2 p
  refine me_seg 1 (pc1 := 1) (ls1 := [some (.ref 138), none, none]) (st1 := [.ref 138]) (M1 := (mk_M c n m kk (rT K xm xi xw im le nu rf ln nn (nI p) [x0, x1] xc vs))) (fun f => rfl) ?_
  refine me_call (y := 133) (y0 := 4) (L := [some (.ref 138)]) (rest := []) (rr := some (.int 113)) (M1 := (mk_M c n m kk (rT K xm xi xw im le nu rf ln nn (nI p) [x0, x1] xc vs))) (fun f => rfl) (mr_eq (kd_here p [x0, x1] K xm xi xw im le nu rf ln nn xc vs c n m kk hB (by omega)) (by rw [khere_t h0, hc] <;> rfl)) ?_
  refine me_seg 6 (pc1 := 12) (ls1 := [some (.ref 138), some (.int 113), none]) (st1 := [.int ((nI p) + (1 : Int32)), .ref 138]) (M1 := (mk_M c n m kk (rT K xm xi xw im le nu rf ln nn (nI p) [x0, x1] xc vs))) (fun f => rfl) ?_
  refine me_v (nI_add p 1) ?_
  refine me_seg 1 (pc1 := 15) (ls1 := [some (.ref 138), some (.int 113), none]) (st1 := []) (M1 := (mk_MR c n m kk (er K) xm xi xw (nI im) (le.map nI) (nu.map nI) (rf.map nI) (nI ln) (nI nn) (nI (p + 1)) [x0, x1] xc vs)) (fun f => rfl) ?_
  refine me_M (mk_MRk c n m kk K xm xi xw im le nu rf ln nn (nI (p + 1)) [x0, x1] xc vs) ?_
  refine me_seg 7 (pc1 := 203) (ls1 := [some (.ref 138), some (.int 113), none]) (st1 := [.int ((nI (p + 1)) - (1 : Int32)), .ref 138]) (M1 := (mk_M c n m kk (rT K xm xi xw im le nu rf ln nn (nI (p + 1)) [x0, x1] xc vs))) (fun f => rfl) ?_
  refine me_v (pk_sub (a := p + 1) (b := 1) (by omega)) ?_
  refine me_seg 1 (pc1 := 206) (ls1 := [some (.ref 138), some (.int 113), none]) (st1 := []) (M1 := (mk_MR c n m kk (er K) xm xi xw (nI im) (le.map nI) (nu.map nI) (rf.map nI) (nI ln) (nI nn) (nI ((p + 1) - 1)) [x0, x1] xc vs)) (fun f => rfl) ?_
  refine me_M (mk_MRk c n m kk K xm xi xw im le nu rf ln nn (nI ((p + 1) - 1)) [x0, x1] xc vs) ?_
  refine me_ret 2 (r := some (.int 0)) (M1 := (mk_M c n m kk (rT K xm xi xw im le nu rf ln nn (nI ((p + 1) - 1)) [x0, x1] xc vs))) (fun f => rfl) ?_
  exact ⟨rfl, _, rfl, by rw [Nat.add_sub_cancel] <;> rfl⟩
set_option maxRecDepth 100000 in
theorem rs_no_114 (K : kK) (xm xi xw : List Int32) (im : Nat) (le nu rf : List Nat) (ln nn : Nat) (xc : List Int32) (vs : Int32) (c : cC) (n m kk : kG) (p : Nat) (x0 x1 : Int32) (hB : iB le ln) (hp : p < 1000) (h0 : p < ln) (hc : kg le p = 114) : mm_E 132 0 [some (.ref 138), none, none] [] (mk_M c n m kk (rT K xm xi xw im le nu rf ln nn (nI p) [x0, x1] xc vs)) (fun r M1 => r = some (.int 0) ∧ ∃ xn2 : List Int32, xn2.length = 2 ∧ M1 = mk_M c n m kk (rT K xm xi xw im le nu rf ln nn (nI p) xn2 xc vs)) := by
  obtain ⟨b1, b2, b3⟩ := id hB
  have e0 := b2 p
  refine me_seg 1 (pc1 := 1) (ls1 := [some (.ref 138), none, none]) (st1 := [.ref 138]) (M1 := (mk_M c n m kk (rT K xm xi xw im le nu rf ln nn (nI p) [x0, x1] xc vs))) (fun f => rfl) ?_
  refine me_call (y := 133) (y0 := 4) (L := [some (.ref 138)]) (rest := []) (rr := some (.int 114)) (M1 := (mk_M c n m kk (rT K xm xi xw im le nu rf ln nn (nI p) [x0, x1] xc vs))) (fun f => rfl) (mr_eq (kd_here p [x0, x1] K xm xi xw im le nu rf ln nn xc vs c n m kk hB (by omega)) (by rw [khere_t h0, hc] <;> rfl)) ?_
  refine me_seg 6 (pc1 := 12) (ls1 := [some (.ref 138), some (.int 114), none]) (st1 := [.int ((nI p) + (1 : Int32)), .ref 138]) (M1 := (mk_M c n m kk (rT K xm xi xw im le nu rf ln nn (nI p) [x0, x1] xc vs))) (fun f => rfl) ?_
  refine me_v (nI_add p 1) ?_
  refine me_seg 1 (pc1 := 15) (ls1 := [some (.ref 138), some (.int 114), none]) (st1 := []) (M1 := (mk_MR c n m kk (er K) xm xi xw (nI im) (le.map nI) (nu.map nI) (rf.map nI) (nI ln) (nI nn) (nI (p + 1)) [x0, x1] xc vs)) (fun f => rfl) ?_
  refine me_M (mk_MRk c n m kk K xm xi xw im le nu rf ln nn (nI (p + 1)) [x0, x1] xc vs) ?_
  refine me_seg 7 (pc1 := 203) (ls1 := [some (.ref 138), some (.int 114), none]) (st1 := [.int ((nI (p + 1)) - (1 : Int32)), .ref 138]) (M1 := (mk_M c n m kk (rT K xm xi xw im le nu rf ln nn (nI (p + 1)) [x0, x1] xc vs))) (fun f => rfl) ?_
  refine me_v (pk_sub (a := p + 1) (b := 1) (by omega)) ?_
  refine me_seg 1 (pc1 := 206) (ls1 := [some (.ref 138), some (.int 114), none]) (st1 := []) (M1 := (mk_MR c n m kk (er K) xm xi xw (nI im) (le.map nI) (nu.map nI) (rf.map nI) (nI ln) (nI nn) (nI ((p + 1) - 1)) [x0, x1] xc vs)) (fun f => rfl) ?_
  refine me_M (mk_MRk c n m kk K xm xi xw im le nu rf ln nn (nI ((p + 1) - 1)) [x0, x1] xc vs) ?_
  refine me_ret 2 (r := some (.int 0)) (M1 := (mk_M c n m kk (rT K xm xi xw im le nu rf ln nn (nI ((p + 1) - 1)) [x0, x1] xc vs))) (fun f => rfl) ?_
  exact ⟨rfl, _, rfl, by rw [Nat.add_sub_cancel] <;> rfl⟩
set_option maxRecDepth 100000 in
theorem rs_no_116 (K : kK) (xm xi xw : List Int32) (im : Nat) (le nu rf : List Nat) (ln nn : Nat) (xc : List Int32) (vs : Int32) (c : cC) (n m kk : kG) (p : Nat) (x0 x1 : Int32) (hB : iB le ln) (hp : p < 1000) (h0 : p < ln) (hc : kg le p = 116) : mm_E 132 0 [some (.ref 138), none, none] [] (mk_M c n m kk (rT K xm xi xw im le nu rf ln nn (nI p) [x0, x1] xc vs)) (fun r M1 => r = some (.int 0) ∧ ∃ xn2 : List Int32, xn2.length = 2 ∧ M1 = mk_M c n m kk (rT K xm xi xw im le nu rf ln nn (nI p) xn2 xc vs)) := by
  obtain ⟨b1, b2, b3⟩ := id hB
  have e0 := b2 p
  refine me_seg 1 (pc1 := 1) (ls1 := [some (.ref 138), none, none]) (st1 := [.ref 138]) (M1 := (mk_M c n m kk (rT K xm xi xw im le nu rf ln nn (nI p) [x0, x1] xc vs))) (fun f => rfl) ?_
  refine me_call (y := 133) (y0 := 4) (L := [some (.ref 138)]) (rest := []) (rr := some (.int 116)) (M1 := (mk_M c n m kk (rT K xm xi xw im le nu rf ln nn (nI p) [x0, x1] xc vs))) (fun f => rfl) (mr_eq (kd_here p [x0, x1] K xm xi xw im le nu rf ln nn xc vs c n m kk hB (by omega)) (by rw [khere_t h0, hc] <;> rfl)) ?_
  refine me_seg 6 (pc1 := 12) (ls1 := [some (.ref 138), some (.int 116), none]) (st1 := [.int ((nI p) + (1 : Int32)), .ref 138]) (M1 := (mk_M c n m kk (rT K xm xi xw im le nu rf ln nn (nI p) [x0, x1] xc vs))) (fun f => rfl) ?_
  refine me_v (nI_add p 1) ?_
  refine me_seg 1 (pc1 := 15) (ls1 := [some (.ref 138), some (.int 116), none]) (st1 := []) (M1 := (mk_MR c n m kk (er K) xm xi xw (nI im) (le.map nI) (nu.map nI) (rf.map nI) (nI ln) (nI nn) (nI (p + 1)) [x0, x1] xc vs)) (fun f => rfl) ?_
  refine me_M (mk_MRk c n m kk K xm xi xw im le nu rf ln nn (nI (p + 1)) [x0, x1] xc vs) ?_
  refine me_seg 7 (pc1 := 203) (ls1 := [some (.ref 138), some (.int 116), none]) (st1 := [.int ((nI (p + 1)) - (1 : Int32)), .ref 138]) (M1 := (mk_M c n m kk (rT K xm xi xw im le nu rf ln nn (nI (p + 1)) [x0, x1] xc vs))) (fun f => rfl) ?_
  refine me_v (pk_sub (a := p + 1) (b := 1) (by omega)) ?_
  refine me_seg 1 (pc1 := 206) (ls1 := [some (.ref 138), some (.int 116), none]) (st1 := []) (M1 := (mk_MR c n m kk (er K) xm xi xw (nI im) (le.map nI) (nu.map nI) (rf.map nI) (nI ln) (nI nn) (nI ((p + 1) - 1)) [x0, x1] xc vs)) (fun f => rfl) ?_
  refine me_M (mk_MRk c n m kk K xm xi xw im le nu rf ln nn (nI ((p + 1) - 1)) [x0, x1] xc vs) ?_
  refine me_ret 2 (r := some (.int 0)) (M1 := (mk_M c n m kk (rT K xm xi xw im le nu rf ln nn (nI ((p + 1) - 1)) [x0, x1] xc vs))) (fun f => rfl) ?_
  exact ⟨rfl, _, rfl, by rw [Nat.add_sub_cancel] <;> rfl⟩
set_option maxRecDepth 100000 in
theorem rs_no_117 (K : kK) (xm xi xw : List Int32) (im : Nat) (le nu rf : List Nat) (ln nn : Nat) (xc : List Int32) (vs : Int32) (c : cC) (n m kk : kG) (p : Nat) (x0 x1 : Int32) (hB : iB le ln) (hp : p < 1000) (h0 : p < ln) (hc : kg le p = 117) : mm_E 132 0 [some (.ref 138), none, none] [] (mk_M c n m kk (rT K xm xi xw im le nu rf ln nn (nI p) [x0, x1] xc vs)) (fun r M1 => r = some (.int 0) ∧ ∃ xn2 : List Int32, xn2.length = 2 ∧ M1 = mk_M c n m kk (rT K xm xi xw im le nu rf ln nn (nI p) xn2 xc vs)) := by
  obtain ⟨b1, b2, b3⟩ := id hB
  have e0 := b2 p
  refine me_seg 1 (pc1 := 1) (ls1 := [some (.ref 138), none, none]) (st1 := [.ref 138]) (M1 := (mk_M c n m kk (rT K xm xi xw im le nu rf ln nn (nI p) [x0, x1] xc vs))) (fun f => rfl) ?_
  refine me_call (y := 133) (y0 := 4) (L := [some (.ref 138)]) (rest := []) (rr := some (.int 117)) (M1 := (mk_M c n m kk (rT K xm xi xw im le nu rf ln nn (nI p) [x0, x1] xc vs))) (fun f => rfl) (mr_eq (kd_here p [x0, x1] K xm xi xw im le nu rf ln nn xc vs c n m kk hB (by omega)) (by rw [khere_t h0, hc] <;> rfl)) ?_
  refine me_seg 6 (pc1 := 12) (ls1 := [some (.ref 138), some (.int 117), none]) (st1 := [.int ((nI p) + (1 : Int32)), .ref 138]) (M1 := (mk_M c n m kk (rT K xm xi xw im le nu rf ln nn (nI p) [x0, x1] xc vs))) (fun f => rfl) ?_
  refine me_v (nI_add p 1) ?_
  refine me_seg 1 (pc1 := 15) (ls1 := [some (.ref 138), some (.int 117), none]) (st1 := []) (M1 := (mk_MR c n m kk (er K) xm xi xw (nI im) (le.map nI) (nu.map nI) (rf.map nI) (nI ln) (nI nn) (nI (p + 1)) [x0, x1] xc vs)) (fun f => rfl) ?_
  refine me_M (mk_MRk c n m kk K xm xi xw im le nu rf ln nn (nI (p + 1)) [x0, x1] xc vs) ?_
  refine me_seg 7 (pc1 := 203) (ls1 := [some (.ref 138), some (.int 117), none]) (st1 := [.int ((nI (p + 1)) - (1 : Int32)), .ref 138]) (M1 := (mk_M c n m kk (rT K xm xi xw im le nu rf ln nn (nI (p + 1)) [x0, x1] xc vs))) (fun f => rfl) ?_
  refine me_v (pk_sub (a := p + 1) (b := 1) (by omega)) ?_
  refine me_seg 1 (pc1 := 206) (ls1 := [some (.ref 138), some (.int 117), none]) (st1 := []) (M1 := (mk_MR c n m kk (er K) xm xi xw (nI im) (le.map nI) (nu.map nI) (rf.map nI) (nI ln) (nI nn) (nI ((p + 1) - 1)) [x0, x1] xc vs)) (fun f => rfl) ?_
  refine me_M (mk_MRk c n m kk K xm xi xw im le nu rf ln nn (nI ((p + 1) - 1)) [x0, x1] xc vs) ?_
  refine me_ret 2 (r := some (.int 0)) (M1 := (mk_M c n m kk (rT K xm xi xw im le nu rf ln nn (nI ((p + 1) - 1)) [x0, x1] xc vs))) (fun f => rfl) ?_
  exact ⟨rfl, _, rfl, by rw [Nat.add_sub_cancel] <;> rfl⟩
set_option maxRecDepth 100000 in
theorem rs_no_118 (K : kK) (xm xi xw : List Int32) (im : Nat) (le nu rf : List Nat) (ln nn : Nat) (xc : List Int32) (vs : Int32) (c : cC) (n m kk : kG) (p : Nat) (x0 x1 : Int32) (hB : iB le ln) (hp : p < 1000) (h0 : p < ln) (hc : kg le p = 118) : mm_E 132 0 [some (.ref 138), none, none] [] (mk_M c n m kk (rT K xm xi xw im le nu rf ln nn (nI p) [x0, x1] xc vs)) (fun r M1 => r = some (.int 0) ∧ ∃ xn2 : List Int32, xn2.length = 2 ∧ M1 = mk_M c n m kk (rT K xm xi xw im le nu rf ln nn (nI p) xn2 xc vs)) := by
  obtain ⟨b1, b2, b3⟩ := id hB
  have e0 := b2 p
  refine me_seg 1 (pc1 := 1) (ls1 := [some (.ref 138), none, none]) (st1 := [.ref 138]) (M1 := (mk_M c n m kk (rT K xm xi xw im le nu rf ln nn (nI p) [x0, x1] xc vs))) (fun f => rfl) ?_
  refine me_call (y := 133) (y0 := 4) (L := [some (.ref 138)]) (rest := []) (rr := some (.int 118)) (M1 := (mk_M c n m kk (rT K xm xi xw im le nu rf ln nn (nI p) [x0, x1] xc vs))) (fun f => rfl) (mr_eq (kd_here p [x0, x1] K xm xi xw im le nu rf ln nn xc vs c n m kk hB (by omega)) (by rw [khere_t h0, hc] <;> rfl)) ?_
  refine me_seg 6 (pc1 := 12) (ls1 := [some (.ref 138), some (.int 118), none]) (st1 := [.int ((nI p) + (1 : Int32)), .ref 138]) (M1 := (mk_M c n m kk (rT K xm xi xw im le nu rf ln nn (nI p) [x0, x1] xc vs))) (fun f => rfl) ?_
  refine me_v (nI_add p 1) ?_
  refine me_seg 1 (pc1 := 15) (ls1 := [some (.ref 138), some (.int 118), none]) (st1 := []) (M1 := (mk_MR c n m kk (er K) xm xi xw (nI im) (le.map nI) (nu.map nI) (rf.map nI) (nI ln) (nI nn) (nI (p + 1)) [x0, x1] xc vs)) (fun f => rfl) ?_
  refine me_M (mk_MRk c n m kk K xm xi xw im le nu rf ln nn (nI (p + 1)) [x0, x1] xc vs) ?_
  refine me_seg 7 (pc1 := 203) (ls1 := [some (.ref 138), some (.int 118), none]) (st1 := [.int ((nI (p + 1)) - (1 : Int32)), .ref 138]) (M1 := (mk_M c n m kk (rT K xm xi xw im le nu rf ln nn (nI (p + 1)) [x0, x1] xc vs))) (fun f => rfl) ?_
  refine me_v (pk_sub (a := p + 1) (b := 1) (by omega)) ?_
  refine me_seg 1 (pc1 := 206) (ls1 := [some (.ref 138), some (.int 118), none]) (st1 := []) (M1 := (mk_MR c n m kk (er K) xm xi xw (nI im) (le.map nI) (nu.map nI) (rf.map nI) (nI ln) (nI nn) (nI ((p + 1) - 1)) [x0, x1] xc vs)) (fun f => rfl) ?_
  refine me_M (mk_MRk c n m kk K xm xi xw im le nu rf ln nn (nI ((p + 1) - 1)) [x0, x1] xc vs) ?_
  refine me_ret 2 (r := some (.int 0)) (M1 := (mk_M c n m kk (rT K xm xi xw im le nu rf ln nn (nI ((p + 1) - 1)) [x0, x1] xc vs))) (fun f => rfl) ?_
  exact ⟨rfl, _, rfl, by rw [Nat.add_sub_cancel] <;> rfl⟩
theorem rs_shN_1 (K : kK) (xm xi xw : List Int32) (im : Nat) (le nu rf : List Nat) (ln nn : Nat) (xc : List Int32) (vs : Int32) (c : cC) (n m kk : kG) (p mf : Nat) (x0 x1 : Int32) (hB : iB le ln) (hp : p < 1000) (c0 : Int32) (hk0 : kmf le ln p [57, 57, 57, 59] 0 = some mf) : mm_E 132 124 [some (.ref 138), some (.int c0), none] [] (mk_M c n m kk (rT K xm xi xw im le nu rf ln nn (nI (p + 1)) [x0, x1] xc vs)) (fun r M1 => r = some (.int 0) ∧ ∃ xn2 : List Int32, xn2.length = 2 ∧ M1 = mk_M c n m kk (rT K xm xi xw im le nu rf ln nn (nI mf) xn2 xc vs)) := by
  by_cases u1 : p + 1 < ln
  case neg =>
    have e : kmf le ln p [57, 57, 57, 59] 0 = some (p + 1 + 0) := kmf_e 0 u1
    rw [e] at hk0
    cases hk0
    exact me_of (rs_1_1e K xm xi xw im le nu rf ln nn xc vs c n m kk p x0 x1 c0 hB hp u1) ⟨rfl, _, rfl, rfl⟩
  cases w1 : kfit 57 (kg le (p + 1)) with
  | false =>
    have e : kmf le ln p [57, 57, 57, 59] 0 = some (p + 1 + 0) := kmf_b 0 w1
    rw [e] at hk0
    cases hk0
    exact me_of (rs_1_1b K xm xi xw im le nu rf ln nn xc vs c n m kk p x0 x1 c0 hB hp u1 w1) ⟨rfl, _, rfl, rfl⟩
  | true =>
    rw [show kmf le ln p [57, 57, 57, 59] 0 = kmf le ln p [57, 57, 59] 1 from kmf_t 0 u1 w1] at hk0
    by_cases u2 : p + 2 < ln
    case neg =>
      have e : kmf le ln p [57, 57, 59] 1 = some (p + 1 + 1) := kmf_e 1 u2
      rw [e] at hk0
      cases hk0
      exact me_of (rs_1_2e K xm xi xw im le nu rf ln nn xc vs c n m kk p x0 x1 c0 hB hp u1 w1 u2) ⟨rfl, _, rfl, rfl⟩
    cases w2 : kfit 57 (kg le (p + 2)) with
    | false =>
      have e : kmf le ln p [57, 57, 59] 1 = some (p + 1 + 1) := kmf_b 1 w2
      rw [e] at hk0
      cases hk0
      exact me_of (rs_1_2b K xm xi xw im le nu rf ln nn xc vs c n m kk p x0 x1 c0 hB hp u1 w1 u2 w2) ⟨rfl, _, rfl, rfl⟩
    | true =>
      rw [show kmf le ln p [57, 57, 59] 1 = kmf le ln p [57, 59] 2 from kmf_t 1 u2 w2] at hk0
      by_cases u3 : p + 3 < ln
      case neg =>
        have e : kmf le ln p [57, 59] 2 = some (p + 1 + 2) := kmf_e 2 u3
        rw [e] at hk0
        cases hk0
        exact me_of (rs_1_3e K xm xi xw im le nu rf ln nn xc vs c n m kk p x0 x1 c0 hB hp u1 w1 u2 w2 u3) ⟨rfl, _, rfl, rfl⟩
      cases w3 : kfit 57 (kg le (p + 3)) with
      | false =>
        have e : kmf le ln p [57, 59] 2 = some (p + 1 + 2) := kmf_b 2 w3
        rw [e] at hk0
        cases hk0
        exact me_of (rs_1_3b K xm xi xw im le nu rf ln nn xc vs c n m kk p x0 x1 c0 hB hp u1 w1 u2 w2 u3 w3) ⟨rfl, _, rfl, rfl⟩
      | true =>
        rw [show kmf le ln p [57, 59] 2 = kmf le ln p [59] 3 from kmf_t 2 u3 w3] at hk0
        by_cases u4 : p + 4 < ln
        case neg =>
          have e : kmf le ln p [59] 3 = some (p + 1 + 3) := kmf_e 3 u4
          rw [e] at hk0
          cases hk0
          exact me_of (rs_1_4e K xm xi xw im le nu rf ln nn xc vs c n m kk p x0 x1 c0 hB hp u1 w1 u2 w2 u3 w3 u4) ⟨rfl, _, rfl, rfl⟩
        cases w4 : kfit 59 (kg le (p + 4)) with
        | false =>
          have e : kmf le ln p [59] 3 = some (p + 1 + 3) := kmf_b 3 w4
          rw [e] at hk0
          cases hk0
          exact me_of (rs_1_4b K xm xi xw im le nu rf ln nn xc vs c n m kk p x0 x1 c0 hB hp u1 w1 u2 w2 u3 w3 u4 w4) ⟨rfl, _, rfl, rfl⟩
        | true =>
          rw [show kmf le ln p [59] 3 = kmf le ln p [] 4 from kmf_t 3 u4 w4] at hk0
          exact absurd (show none = some mf from hk0) (fun q => by cases q)
theorem rs_shN_2 (K : kK) (xm xi xw : List Int32) (im : Nat) (le nu rf : List Nat) (ln nn : Nat) (xc : List Int32) (vs : Int32) (c : cC) (n m kk : kG) (p mf : Nat) (x0 x1 : Int32) (hB : iB le ln) (hp : p < 1000) (c0 : Int32) (hk0 : kmf le ln p [75, 57, 59] 0 = some mf) : mm_E 132 161 [some (.ref 138), some (.int c0), none] [] (mk_M c n m kk (rT K xm xi xw im le nu rf ln nn (nI (p + 1)) [x0, x1] xc vs)) (fun r M1 => r = some (.int 0) ∧ ∃ xn2 : List Int32, xn2.length = 2 ∧ M1 = mk_M c n m kk (rT K xm xi xw im le nu rf ln nn (nI mf) xn2 xc vs)) := by
  by_cases u1 : p + 1 < ln
  case neg =>
    have e : kmf le ln p [75, 57, 59] 0 = some (p + 1 + 0) := kmf_e 0 u1
    rw [e] at hk0
    cases hk0
    exact me_of (rs_2_1e K xm xi xw im le nu rf ln nn xc vs c n m kk p x0 x1 c0 hB hp u1) ⟨rfl, _, rfl, rfl⟩
  cases hkd : kkind (kg le (p + 1)) with
  | none =>
    have w1 : kfit 75 (kg le (p + 1)) = false := by show (kkind (kg le (p + 1))).isSome = false; rw [hkd]; rfl
    have e : kmf le ln p [75, 57, 59] 0 = some (p + 1 + 0) := kmf_b 0 w1
    rw [e] at hk0
    cases hk0
    exact me_of (rs_2_1b K xm xi xw im le nu rf ln nn xc vs c n m kk p x0 x1 c0 hB hp u1 hkd) ⟨rfl, _, rfl, rfl⟩
  | some kd =>
    have w1 : kfit 75 (kg le (p + 1)) = true := kfit_K.mpr ⟨kd, hkd⟩
    rw [show kmf le ln p [75, 57, 59] 0 = kmf le ln p [57, 59] 1 from kmf_t 0 u1 w1] at hk0
    by_cases u2 : p + 2 < ln
    case neg =>
      have e : kmf le ln p [57, 59] 1 = some (p + 1 + 1) := kmf_e 1 u2
      rw [e] at hk0
      cases hk0
      exact me_of (rs_2_2e K xm xi xw im le nu rf ln nn xc vs c n m kk p x0 x1 c0 hB hp u1 kd hkd u2) ⟨rfl, _, rfl, rfl⟩
    cases w2 : kfit 57 (kg le (p + 2)) with
    | false =>
      have e : kmf le ln p [57, 59] 1 = some (p + 1 + 1) := kmf_b 1 w2
      rw [e] at hk0
      cases hk0
      exact me_of (rs_2_2b K xm xi xw im le nu rf ln nn xc vs c n m kk p x0 x1 c0 hB hp u1 kd hkd u2 w2) ⟨rfl, _, rfl, rfl⟩
    | true =>
      rw [show kmf le ln p [57, 59] 1 = kmf le ln p [59] 2 from kmf_t 1 u2 w2] at hk0
      by_cases u3 : p + 3 < ln
      case neg =>
        have e : kmf le ln p [59] 2 = some (p + 1 + 2) := kmf_e 2 u3
        rw [e] at hk0
        cases hk0
        exact me_of (rs_2_3e K xm xi xw im le nu rf ln nn xc vs c n m kk p x0 x1 c0 hB hp u1 kd hkd u2 w2 u3) ⟨rfl, _, rfl, rfl⟩
      cases w3 : kfit 59 (kg le (p + 3)) with
      | false =>
        have e : kmf le ln p [59] 2 = some (p + 1 + 2) := kmf_b 2 w3
        rw [e] at hk0
        cases hk0
        exact me_of (rs_2_3b K xm xi xw im le nu rf ln nn xc vs c n m kk p x0 x1 c0 hB hp u1 kd hkd u2 w2 u3 w3) ⟨rfl, _, rfl, rfl⟩
      | true =>
        rw [show kmf le ln p [59] 2 = kmf le ln p [] 3 from kmf_t 2 u3 w3] at hk0
        exact absurd (show none = some mf from hk0) (fun q => by cases q)
theorem rs_shN_3 (K : kK) (xm xi xw : List Int32) (im : Nat) (le nu rf : List Nat) (ln nn : Nat) (xc : List Int32) (vs : Int32) (c : cC) (n m kk : kG) (p mf : Nat) (x0 x1 : Int32) (hB : iB le ln) (hp : p < 1000) (c0 : Int32) (hk0 : kmf le ln p [57, 59] 0 = some mf) : mm_E 132 186 [some (.ref 138), some (.int c0), none] [] (mk_M c n m kk (rT K xm xi xw im le nu rf ln nn (nI (p + 1)) [x0, x1] xc vs)) (fun r M1 => r = some (.int 0) ∧ ∃ xn2 : List Int32, xn2.length = 2 ∧ M1 = mk_M c n m kk (rT K xm xi xw im le nu rf ln nn (nI mf) xn2 xc vs)) := by
  by_cases u1 : p + 1 < ln
  case neg =>
    have e : kmf le ln p [57, 59] 0 = some (p + 1 + 0) := kmf_e 0 u1
    rw [e] at hk0
    cases hk0
    exact me_of (rs_3_1e K xm xi xw im le nu rf ln nn xc vs c n m kk p x0 x1 c0 hB hp u1) ⟨rfl, _, rfl, rfl⟩
  cases w1 : kfit 57 (kg le (p + 1)) with
  | false =>
    have e : kmf le ln p [57, 59] 0 = some (p + 1 + 0) := kmf_b 0 w1
    rw [e] at hk0
    cases hk0
    exact me_of (rs_3_1b K xm xi xw im le nu rf ln nn xc vs c n m kk p x0 x1 c0 hB hp u1 w1) ⟨rfl, _, rfl, rfl⟩
  | true =>
    rw [show kmf le ln p [57, 59] 0 = kmf le ln p [59] 1 from kmf_t 0 u1 w1] at hk0
    by_cases u2 : p + 2 < ln
    case neg =>
      have e : kmf le ln p [59] 1 = some (p + 1 + 1) := kmf_e 1 u2
      rw [e] at hk0
      cases hk0
      exact me_of (rs_3_2e K xm xi xw im le nu rf ln nn xc vs c n m kk p x0 x1 c0 hB hp u1 w1 u2) ⟨rfl, _, rfl, rfl⟩
    cases w2 : kfit 59 (kg le (p + 2)) with
    | false =>
      have e : kmf le ln p [59] 1 = some (p + 1 + 1) := kmf_b 1 w2
      rw [e] at hk0
      cases hk0
      exact me_of (rs_3_2b K xm xi xw im le nu rf ln nn xc vs c n m kk p x0 x1 c0 hB hp u1 w1 u2 w2) ⟨rfl, _, rfl, rfl⟩
    | true =>
      rw [show kmf le ln p [59] 1 = kmf le ln p [] 2 from kmf_t 1 u2 w2] at hk0
      exact absurd (show none = some mf from hk0) (fun q => by cases q)
theorem rs_shN_4 (K : kK) (xm xi xw : List Int32) (im : Nat) (le nu rf : List Nat) (ln nn : Nat) (xc : List Int32) (vs : Int32) (c : cC) (n m kk : kG) (p mf : Nat) (x0 x1 : Int32) (hB : iB le ln) (hp : p < 1000) (c0 : Int32) (hk0 : kmf le ln p [57, 57, 59] 0 = some mf) : mm_E 132 151 [some (.ref 138), some (.int c0), none] [] (mk_M c n m kk (rT K xm xi xw im le nu rf ln nn (nI (p + 1)) [x0, x1] xc vs)) (fun r M1 => r = some (.int 0) ∧ ∃ xn2 : List Int32, xn2.length = 2 ∧ M1 = mk_M c n m kk (rT K xm xi xw im le nu rf ln nn (nI mf) xn2 xc vs)) := by
  by_cases u1 : p + 1 < ln
  case neg =>
    have e : kmf le ln p [57, 57, 59] 0 = some (p + 1 + 0) := kmf_e 0 u1
    rw [e] at hk0
    cases hk0
    exact me_of (rs_4_1e K xm xi xw im le nu rf ln nn xc vs c n m kk p x0 x1 c0 hB hp u1) ⟨rfl, _, rfl, rfl⟩
  cases w1 : kfit 57 (kg le (p + 1)) with
  | false =>
    have e : kmf le ln p [57, 57, 59] 0 = some (p + 1 + 0) := kmf_b 0 w1
    rw [e] at hk0
    cases hk0
    exact me_of (rs_4_1b K xm xi xw im le nu rf ln nn xc vs c n m kk p x0 x1 c0 hB hp u1 w1) ⟨rfl, _, rfl, rfl⟩
  | true =>
    rw [show kmf le ln p [57, 57, 59] 0 = kmf le ln p [57, 59] 1 from kmf_t 0 u1 w1] at hk0
    by_cases u2 : p + 2 < ln
    case neg =>
      have e : kmf le ln p [57, 59] 1 = some (p + 1 + 1) := kmf_e 1 u2
      rw [e] at hk0
      cases hk0
      exact me_of (rs_4_2e K xm xi xw im le nu rf ln nn xc vs c n m kk p x0 x1 c0 hB hp u1 w1 u2) ⟨rfl, _, rfl, rfl⟩
    cases w2 : kfit 57 (kg le (p + 2)) with
    | false =>
      have e : kmf le ln p [57, 59] 1 = some (p + 1 + 1) := kmf_b 1 w2
      rw [e] at hk0
      cases hk0
      exact me_of (rs_4_2b K xm xi xw im le nu rf ln nn xc vs c n m kk p x0 x1 c0 hB hp u1 w1 u2 w2) ⟨rfl, _, rfl, rfl⟩
    | true =>
      rw [show kmf le ln p [57, 59] 1 = kmf le ln p [59] 2 from kmf_t 1 u2 w2] at hk0
      by_cases u3 : p + 3 < ln
      case neg =>
        have e : kmf le ln p [59] 2 = some (p + 1 + 2) := kmf_e 2 u3
        rw [e] at hk0
        cases hk0
        exact me_of (rs_4_3e K xm xi xw im le nu rf ln nn xc vs c n m kk p x0 x1 c0 hB hp u1 w1 u2 w2 u3) ⟨rfl, _, rfl, rfl⟩
      cases w3 : kfit 59 (kg le (p + 3)) with
      | false =>
        have e : kmf le ln p [59] 2 = some (p + 1 + 2) := kmf_b 2 w3
        rw [e] at hk0
        cases hk0
        exact me_of (rs_4_3b K xm xi xw im le nu rf ln nn xc vs c n m kk p x0 x1 c0 hB hp u1 w1 u2 w2 u3 w3) ⟨rfl, _, rfl, rfl⟩
      | true =>
        rw [show kmf le ln p [59] 2 = kmf le ln p [] 3 from kmf_t 2 u3 w3] at hk0
        exact absurd (show none = some mf from hk0) (fun q => by cases q)
theorem kd_rsN (K : kK) (xm xi xw : List Int32) (im : Nat) (le nu rf : List Nat) (ln nn : Nat) (xc : List Int32) (vs : Int32) (c : cC) (n m kk : kG) (p mf : Nat) (x0 x1 : Int32) (hB : iB le ln) (hp : p < 1000) (hk : kmis le ln p = some mf) : mm_E 132 0 [some (.ref 138), none, none] [] (mk_M c n m kk (rT K xm xi xw im le nu rf ln nn (nI p) [x0, x1] xc vs)) (fun r M1 => r = some (.int 0) ∧ ∃ xn2 : List Int32, xn2.length = 2 ∧ M1 = mk_M c n m kk (rT K xm xi xw im le nu rf ln nn (nI mf) xn2 xc vs)) := by
  by_cases h0 : p < ln
  case neg =>
    rw [kmis_0 h0] at hk
    cases hk
    exact rs_no_0 K xm xi xw im le nu rf ln nn xc vs c n m kk p x0 x1 hB hp h0
  rcases kshr_c (kg le p) with hs | hs | hs | hs | hs
  · rw [kmis_1 h0 hs] at hk
    have hl := kshr_l (c := kg le p) (by omega)
    have hc : kg le p = 99 := by
      rcases hl with e | e | e | e | e | e | e | e <;> first | exact e | (rw [e] at hs; exact absurd hs (by decide))
    exact rs_hd_99 K xm xi xw im le nu rf ln nn xc vs c n m kk p x0 x1 hB hp h0 hc _ (rs_shN_1 K xm xi xw im le nu rf ln nn xc vs c n m kk p mf x0 x1 hB hp _ hk)
  · rw [kmis_2 h0 hs] at hk
    have hl := kshr_l (c := kg le p) (by omega)
    have hc : kg le p = 109 := by
      rcases hl with e | e | e | e | e | e | e | e <;> first | exact e | (rw [e] at hs; exact absurd hs (by decide))
    exact rs_hd_109 K xm xi xw im le nu rf ln nn xc vs c n m kk p x0 x1 hB hp h0 hc _ (rs_shN_2 K xm xi xw im le nu rf ln nn xc vs c n m kk p mf x0 x1 hB hp _ hk)
  · rw [kmis_3 h0 hs] at hk
    have hl := kshr_l (c := kg le p) (by omega)
    have hc : kg le p = 120 := by
      rcases hl with e | e | e | e | e | e | e | e <;> first | exact e | (rw [e] at hs; exact absurd hs (by decide))
    exact rs_hd_120 K xm xi xw im le nu rf ln nn xc vs c n m kk p x0 x1 hB hp h0 hc _ (rs_shN_3 K xm xi xw im le nu rf ln nn xc vs c n m kk p mf x0 x1 hB hp _ hk)
  · rw [kmis_4 h0 hs] at hk
    have hl := kshr_l (c := kg le p) (by omega)
    have hn : ¬ kg le p = 99 ∧ ¬ kg le p = 109 ∧ ¬ kg le p = 120 := by refine ⟨?_, ?_, ?_⟩ <;> (intro e; rw [e] at hs; exact absurd hs (by decide))
    rcases (show kg le p = 107 ∨ kg le p = 98 ∨ kg le p = 103 ∨ kg le p = 119 ∨ kg le p = 115 by omega) with hc | hc | hc | hc | hc
    · exact rs_hd_107 K xm xi xw im le nu rf ln nn xc vs c n m kk p x0 x1 hB hp h0 hc _ (rs_shN_4 K xm xi xw im le nu rf ln nn xc vs c n m kk p mf x0 x1 hB hp _ hk)
    · exact rs_hd_98 K xm xi xw im le nu rf ln nn xc vs c n m kk p x0 x1 hB hp h0 hc _ (rs_shN_4 K xm xi xw im le nu rf ln nn xc vs c n m kk p mf x0 x1 hB hp _ hk)
    · exact rs_hd_103 K xm xi xw im le nu rf ln nn xc vs c n m kk p x0 x1 hB hp h0 hc _ (rs_shN_4 K xm xi xw im le nu rf ln nn xc vs c n m kk p mf x0 x1 hB hp _ hk)
    · exact rs_hd_119 K xm xi xw im le nu rf ln nn xc vs c n m kk p x0 x1 hB hp h0 hc _ (rs_shN_4 K xm xi xw im le nu rf ln nn xc vs c n m kk p mf x0 x1 hB hp _ hk)
    · exact rs_hd_115 K xm xi xw im le nu rf ln nn xc vs c n m kk p x0 x1 hB hp h0 hc _ (rs_shN_4 K xm xi xw im le nu rf ln nn xc vs c n m kk p mf x0 x1 hB hp _ hk)
  · rw [kmis_5 h0 hs] at hk
    cases hk
    have hn := kshr_n hs
    by_cases hr : kg le p < 98 ∨ 120 < kg le p
    · exact rs_no_x K xm xi xw im le nu rf ln nn xc vs c n m kk p x0 x1 hB hp h0 hr
    · rcases (show kg le p = 100 ∨ kg le p = 101 ∨ kg le p = 102 ∨ kg le p = 104 ∨ kg le p = 105 ∨ kg le p = 106 ∨ kg le p = 108 ∨ kg le p = 110 ∨ kg le p = 111 ∨ kg le p = 112 ∨ kg le p = 113 ∨ kg le p = 114 ∨ kg le p = 116 ∨ kg le p = 117 ∨ kg le p = 118 by omega) with hc | hc | hc | hc | hc | hc | hc | hc | hc | hc | hc | hc | hc | hc | hc
      · exact rs_no_100 K xm xi xw im le nu rf ln nn xc vs c n m kk p x0 x1 hB hp h0 hc
      · exact rs_no_101 K xm xi xw im le nu rf ln nn xc vs c n m kk p x0 x1 hB hp h0 hc
      · exact rs_no_102 K xm xi xw im le nu rf ln nn xc vs c n m kk p x0 x1 hB hp h0 hc
      · exact rs_no_104 K xm xi xw im le nu rf ln nn xc vs c n m kk p x0 x1 hB hp h0 hc
      · exact rs_no_105 K xm xi xw im le nu rf ln nn xc vs c n m kk p x0 x1 hB hp h0 hc
      · exact rs_no_106 K xm xi xw im le nu rf ln nn xc vs c n m kk p x0 x1 hB hp h0 hc
      · exact rs_no_108 K xm xi xw im le nu rf ln nn xc vs c n m kk p x0 x1 hB hp h0 hc
      · exact rs_no_110 K xm xi xw im le nu rf ln nn xc vs c n m kk p x0 x1 hB hp h0 hc
      · exact rs_no_111 K xm xi xw im le nu rf ln nn xc vs c n m kk p x0 x1 hB hp h0 hc
      · exact rs_no_112 K xm xi xw im le nu rf ln nn xc vs c n m kk p x0 x1 hB hp h0 hc
      · exact rs_no_113 K xm xi xw im le nu rf ln nn xc vs c n m kk p x0 x1 hB hp h0 hc
      · exact rs_no_114 K xm xi xw im le nu rf ln nn xc vs c n m kk p x0 x1 hB hp h0 hc
      · exact rs_no_116 K xm xi xw im le nu rf ln nn xc vs c n m kk p x0 x1 hB hp h0 hc
      · exact rs_no_117 K xm xi xw im le nu rf ln nn xc vs c n m kk p x0 x1 hB hp h0 hc
      · exact rs_no_118 K xm xi xw im le nu rf ln nn xc vs c n m kk p x0 x1 hB hp h0 hc
theorem kd_rsO (K : kK) (xm xi xw : List Int32) (im : Nat) (le nu rf : List Nat) (ln nn : Nat) (xc : List Int32) (vs : Int32) (c : cC) (n m kk : kG) (p : Nat) (x0 x1 : Int32) (hB : iB le ln) (hp : p < 1000) (hk : kmis le ln p = none) : mm_E 132 0 [some (.ref 138), none, none] [] (mk_M c n m kk (rT K xm xi xw im le nu rf ln nn (nI p) [x0, x1] xc vs)) (fun r M1 => r = some (.int 1) ∧ ∃ y : Int32, (kg le p = 99 ∨ kg le p = 109 → y = nI (kn1 le p)) ∧ M1 = mk_M c n m kk (rT K xm xi xw im le nu rf ln nn (nI (knx le p)) [nI (kn0 le p), y] xc vs)) := by
  have h0 := kmis_lt hk
  rcases kmis_l hk with hc | hc | hc | hc | hc | hc | hc | hc
  · have hs : kshr (kg le p) = 1 := by rw [hc]; rfl
    rw [kmis_1 h0 hs] at hk
    obtain ⟨u1, w1, hk⟩ := kmf_n hk
    obtain ⟨u2, w2, hk⟩ := kmf_n hk
    obtain ⟨u3, w3, hk⟩ := kmf_n hk
    obtain ⟨u4, w4, hk⟩ := kmf_n hk
    have ex : knx le p = p + 5 := by unfold knx; rw [hs]; show p + 1 + 4 = _; omega
    refine rs_hd_99 K xm xi xw im le nu rf ln nn xc vs c n m kk p x0 x1 hB hp h0 hc _ (me_of (rs_1_ok K xm xi xw im le nu rf ln nn xc vs c n m kk p x0 x1 _ hB hp u1 w1 u2 w2 u3 w3 u4 w4) ⟨rfl, (nI ((kg le (p + 3)) - 48)), fun _ => (by first | (show nI (kg le (p + 3) - 48) = nI (kn1 le p); unfold kn1; rw [if_pos hc]) | (show nI (kg le (p + 2) - 48) = nI (kn1 le p); unfold kn1; rw [if_neg (by omega)])), ?_⟩)
    have f1 := kfit_9.mp w1
    have f2 := kfit_9.mp w2
    have f2b : 48 ≤ kg le (p + 2) := f2.1
    have k0 : kn0 le p = (10 * ((kg le (p + 1)) - 48) + (kg le (p + 2))) - 48 := by unfold kn0; rw [if_neg (by omega), if_neg (by omega)]; unfold knum; omega
    rw [ex, k0]
  · have hs : kshr (kg le p) = 4 := by rw [hc]; rfl
    rw [kmis_4 h0 hs] at hk
    obtain ⟨u1, w1, hk⟩ := kmf_n hk
    obtain ⟨u2, w2, hk⟩ := kmf_n hk
    obtain ⟨u3, w3, hk⟩ := kmf_n hk
    have ex : knx le p = p + 4 := by unfold knx; rw [hs]; show p + 1 + 3 = _; omega
    refine rs_hd_107 K xm xi xw im le nu rf ln nn xc vs c n m kk p x0 x1 hB hp h0 hc _ (me_of (rs_4_ok K xm xi xw im le nu rf ln nn xc vs c n m kk p x0 x1 _ hB hp u1 w1 u2 w2 u3 w3) ⟨rfl, x1, fun q => absurd q (by omega), ?_⟩)
    have f1 := kfit_9.mp w1
    have f2 := kfit_9.mp w2
    have f2b : 48 ≤ kg le (p + 2) := f2.1
    have k0 : kn0 le p = (10 * ((kg le (p + 1)) - 48) + (kg le (p + 2))) - 48 := by unfold kn0; rw [if_neg (by omega), if_neg (by omega)]; unfold knum; omega
    rw [ex, k0]
  · have hs : kshr (kg le p) = 4 := by rw [hc]; rfl
    rw [kmis_4 h0 hs] at hk
    obtain ⟨u1, w1, hk⟩ := kmf_n hk
    obtain ⟨u2, w2, hk⟩ := kmf_n hk
    obtain ⟨u3, w3, hk⟩ := kmf_n hk
    have ex : knx le p = p + 4 := by unfold knx; rw [hs]; show p + 1 + 3 = _; omega
    refine rs_hd_98 K xm xi xw im le nu rf ln nn xc vs c n m kk p x0 x1 hB hp h0 hc _ (me_of (rs_4_ok K xm xi xw im le nu rf ln nn xc vs c n m kk p x0 x1 _ hB hp u1 w1 u2 w2 u3 w3) ⟨rfl, x1, fun q => absurd q (by omega), ?_⟩)
    have f1 := kfit_9.mp w1
    have f2 := kfit_9.mp w2
    have f2b : 48 ≤ kg le (p + 2) := f2.1
    have k0 : kn0 le p = (10 * ((kg le (p + 1)) - 48) + (kg le (p + 2))) - 48 := by unfold kn0; rw [if_neg (by omega), if_neg (by omega)]; unfold knum; omega
    rw [ex, k0]
  · have hs : kshr (kg le p) = 4 := by rw [hc]; rfl
    rw [kmis_4 h0 hs] at hk
    obtain ⟨u1, w1, hk⟩ := kmf_n hk
    obtain ⟨u2, w2, hk⟩ := kmf_n hk
    obtain ⟨u3, w3, hk⟩ := kmf_n hk
    have ex : knx le p = p + 4 := by unfold knx; rw [hs]; show p + 1 + 3 = _; omega
    refine rs_hd_103 K xm xi xw im le nu rf ln nn xc vs c n m kk p x0 x1 hB hp h0 hc _ (me_of (rs_4_ok K xm xi xw im le nu rf ln nn xc vs c n m kk p x0 x1 _ hB hp u1 w1 u2 w2 u3 w3) ⟨rfl, x1, fun q => absurd q (by omega), ?_⟩)
    have f1 := kfit_9.mp w1
    have f2 := kfit_9.mp w2
    have f2b : 48 ≤ kg le (p + 2) := f2.1
    have k0 : kn0 le p = (10 * ((kg le (p + 1)) - 48) + (kg le (p + 2))) - 48 := by unfold kn0; rw [if_neg (by omega), if_neg (by omega)]; unfold knum; omega
    rw [ex, k0]
  · have hs : kshr (kg le p) = 4 := by rw [hc]; rfl
    rw [kmis_4 h0 hs] at hk
    obtain ⟨u1, w1, hk⟩ := kmf_n hk
    obtain ⟨u2, w2, hk⟩ := kmf_n hk
    obtain ⟨u3, w3, hk⟩ := kmf_n hk
    have ex : knx le p = p + 4 := by unfold knx; rw [hs]; show p + 1 + 3 = _; omega
    refine rs_hd_119 K xm xi xw im le nu rf ln nn xc vs c n m kk p x0 x1 hB hp h0 hc _ (me_of (rs_4_ok K xm xi xw im le nu rf ln nn xc vs c n m kk p x0 x1 _ hB hp u1 w1 u2 w2 u3 w3) ⟨rfl, x1, fun q => absurd q (by omega), ?_⟩)
    have f1 := kfit_9.mp w1
    have f2 := kfit_9.mp w2
    have f2b : 48 ≤ kg le (p + 2) := f2.1
    have k0 : kn0 le p = (10 * ((kg le (p + 1)) - 48) + (kg le (p + 2))) - 48 := by unfold kn0; rw [if_neg (by omega), if_neg (by omega)]; unfold knum; omega
    rw [ex, k0]
  · have hs : kshr (kg le p) = 4 := by rw [hc]; rfl
    rw [kmis_4 h0 hs] at hk
    obtain ⟨u1, w1, hk⟩ := kmf_n hk
    obtain ⟨u2, w2, hk⟩ := kmf_n hk
    obtain ⟨u3, w3, hk⟩ := kmf_n hk
    have ex : knx le p = p + 4 := by unfold knx; rw [hs]; show p + 1 + 3 = _; omega
    refine rs_hd_115 K xm xi xw im le nu rf ln nn xc vs c n m kk p x0 x1 hB hp h0 hc _ (me_of (rs_4_ok K xm xi xw im le nu rf ln nn xc vs c n m kk p x0 x1 _ hB hp u1 w1 u2 w2 u3 w3) ⟨rfl, x1, fun q => absurd q (by omega), ?_⟩)
    have f1 := kfit_9.mp w1
    have f2 := kfit_9.mp w2
    have f2b : 48 ≤ kg le (p + 2) := f2.1
    have k0 : kn0 le p = (10 * ((kg le (p + 1)) - 48) + (kg le (p + 2))) - 48 := by unfold kn0; rw [if_neg (by omega), if_neg (by omega)]; unfold knum; omega
    rw [ex, k0]
  · have hs : kshr (kg le p) = 2 := by rw [hc]; rfl
    rw [kmis_2 h0 hs] at hk
    obtain ⟨u1, w1, hk⟩ := kmf_n hk
    obtain ⟨u2, w2, hk⟩ := kmf_n hk
    obtain ⟨u3, w3, hk⟩ := kmf_n hk
    have ex : knx le p = p + 4 := by unfold knx; rw [hs]; show p + 1 + 3 = _; omega
    obtain ⟨kd, hkd⟩ := kfit_K.mp w1
    refine rs_hd_109 K xm xi xw im le nu rf ln nn xc vs c n m kk p x0 x1 hB hp h0 hc _ (me_of (rs_2_ok K xm xi xw im le nu rf ln nn xc vs c n m kk p x0 x1 _ hB hp u1 kd hkd u2 w2 u3 w3) ⟨rfl, (nI ((kg le (p + 2)) - 48)), fun _ => (by first | (show nI (kg le (p + 3) - 48) = nI (kn1 le p); unfold kn1; rw [if_pos hc]) | (show nI (kg le (p + 2) - 48) = nI (kn1 le p); unfold kn1; rw [if_neg (by omega)])), ?_⟩)
    have k0 : kn0 le p = kd := by unfold kn0; rw [if_pos hc, hkd]; rfl
    rw [ex, k0]
  · have hs : kshr (kg le p) = 3 := by rw [hc]; rfl
    rw [kmis_3 h0 hs] at hk
    obtain ⟨u1, w1, hk⟩ := kmf_n hk
    obtain ⟨u2, w2, hk⟩ := kmf_n hk
    have ex : knx le p = p + 3 := by unfold knx; rw [hs]; show p + 1 + 2 = _; omega
    refine rs_hd_120 K xm xi xw im le nu rf ln nn xc vs c n m kk p x0 x1 hB hp h0 hc _ (me_of (rs_3_ok K xm xi xw im le nu rf ln nn xc vs c n m kk p x0 x1 _ hB hp u1 w1 u2 w2) ⟨rfl, x1, fun q => absurd q (by omega), ?_⟩)
    have k0 : kn0 le p = (kg le (p + 1)) - 48 := by unfold kn0; rw [if_neg (by omega), if_pos hc]
    rw [ex, k0]
set_option maxRecDepth 100000 in
theorem id_99_0 (he ke ki fi fa or : List Nat) (mi a g l w s : Nat) (xm xi xw : List Int32) (im : Nat) (le nu rf : List Nat) (ln nn : Nat) (xc : List Int32) (vs : Int32) (vp : Int32) (c : cC) (n m kk : kG) (p : Nat) (hB : iB le ln) (hk : kmis le ln p = none) (hA : iA (he, ke, ki, fi, fa, or, mi, a, g, l, w, s)) (hq : ¬ (25 ≤ knum le p)) : mm_R 139 0 [some (.ref 138), some (.int 99), none] [] (mk_M c n m kk (rT (he, ke, ki, fi, fa, or, mi, a, g, l, w, s) xm xi xw im le nu rf ln nn vp [(nI (knum le p)), (nI (kg le (p + 3) - 48))] xc vs)) (some (.int 1), (mk_M c n m kk (rT (he.set (knum le p) (kg le (p + 3) - 48), ke, ki, fi, fa, or, mi, a, g, l, w, s) xm xi xw im le nu rf ln nn vp [(nI (knum le p)), (nI (kg le (p + 3) - 48))] xc vs))) := by
  obtain ⟨b1, b2, b3⟩ := id hB
  obtain ⟨hV, hst⟩ := id hA
  have hst2 : s ≤ 999 := hst
  obtain ⟨v1, v2, v3, v4, v5, v6, v7, v8, v9, v10, v11, v12, v13, v14, v15, v16⟩ := id hV
  have v6l := kO_len mi v7 or v6
  obtain ⟨f1, f2, f3⟩ := kst_f hk
  have e0 := b2 p
  have e1 := b2 (p + 1)
  have e2 := b2 (p + 2)
  have ekn := knum_lt e1 e2
  refine mr_seg 3 (pc1 := 5) (ls1 := [some (.ref 138), some (.int 99), none]) (st1 := [.int 0, .ref 146]) (M1 := (mk_M c n m kk (rT (he, ke, ki, fi, fa, or, mi, a, g, l, w, s) xm xi xw im le nu rf ln nn vp [(nI (knum le p)), (nI (kg le (p + 3) - 48))] xc vs))) (fun f => rfl) ?_
  refine mr_ldn (xs := [(nI (knum le p)), (nI (kg le (p + 3) - 48))]) rfl rfl (k := 0) (by decide) rfl ?_
  refine mr_seg 4 (pc1 := 117) (ls1 := [some (.ref 138), some (.int 99), some (.int (nI (knum le p)))]) (st1 := [.int (nI (knum le p))]) (M1 := (mk_M c n m kk (rT (he, ke, ki, fi, fa, or, mi, a, g, l, w, s) xm xi xw im le nu rf ln nn vp [(nI (knum le p)), (nI (kg le (p + 3) - 48))] xc vs))) (fun f => rfl) ?_
  refine mr_call (y := 140) (y0 := 120) (L := [some (.int (nI (knum le p)))]) (rest := []) (rr := some (.int 1)) (M1 := (mk_M c n m kk (rT (he, ke, ki, fi, fa, or, mi, a, g, l, w, s) xm xi xw im le nu rf ln nn vp [(nI (knum le p)), (nI (kg le (p + 3) - 48))] xc vs))) (fun f => rfl) (ms_c2_ok (x := (nI (knum le p))) (nI_ltf (a := knum le p) (b := 0) (by omega)) (nI_ltf (a := 24) (b := knum le p) (by omega))) ?_
  refine mr_seg 6 (pc1 := 133) (ls1 := [some (.ref 138), some (.int 99), some (.int (nI (knum le p)))]) (st1 := [.int ((7 : Int32) + (nI (knum le p))), .ref 139]) (M1 := (mk_M c n m kk (rT (he, ke, ki, fi, fa, or, mi, a, g, l, w, s) xm xi xw im le nu rf ln nn vp [(nI (knum le p)), (nI (kg le (p + 3) - 48))] xc vs))) (fun f => rfl) ?_
  refine mr_v (nI_add 7 (knum le p)) ?_
  refine mr_seg 3 (pc1 := 138) (ls1 := [some (.ref 138), some (.int 99), some (.int (nI (knum le p)))]) (st1 := [.int 1, .ref 146, .int (nI (7 + knum le p)), .ref 139]) (M1 := (mk_M c n m kk (rT (he, ke, ki, fi, fa, or, mi, a, g, l, w, s) xm xi xw im le nu rf ln nn vp [(nI (knum le p)), (nI (kg le (p + 3) - 48))] xc vs))) (fun f => rfl) ?_
  refine mr_ldn (xs := [(nI (knum le p)), (nI (kg le (p + 3) - 48))]) rfl rfl (k := 1) (by decide) rfl ?_
  refine mr_stn (xs := (er (he, ke, ki, fi, fa, or, mi, a, g, l, w, s))) (ys := (er (he.set (knum le p) (kg le (p + 3) - 48), ke, ki, fi, fa, or, mi, a, g, l, w, s))) (M2 := (mk_MR c n m kk (er (he.set (knum le p) (kg le (p + 3) - 48), ke, ki, fi, fa, or, mi, a, g, l, w, s)) xm xi xw (nI im) (le.map nI) (nu.map nI) (rf.map nI) (nI ln) (nI nn) vp [(nI (knum le p)), (nI (kg le (p + 3) - 48))] xc vs)) rfl rfl (k := 7 + knum le p) (by omega) (by rw [er_leq (K := (he, ke, ki, fi, fa, or, mi, a, g, l, w, s)) v1 v6l]; omega) (er_hs (K := (he, ke, ki, fi, fa, or, mi, a, g, l, w, s)) v1 (by omega)) rfl ?_
  refine mr_M (mk_MRk c n m kk (he.set (knum le p) (kg le (p + 3) - 48), ke, ki, fi, fa, or, mi, a, g, l, w, s) xm xi xw im le nu rf ln nn vp [(nI (knum le p)), (nI (kg le (p + 3) - 48))] xc vs) ?_
  exact mr_ret 2 (fun f => rfl)
set_option maxRecDepth 100000 in
theorem id_99_1 (he ke ki fi fa or : List Nat) (mi a g l w s : Nat) (xm xi xw : List Int32) (im : Nat) (le nu rf : List Nat) (ln nn : Nat) (xc : List Int32) (vs : Int32) (vp : Int32) (c : cC) (n m kk : kG) (p : Nat) (hB : iB le ln) (hk : kmis le ln p = none) (hA : iA (he, ke, ki, fi, fa, or, mi, a, g, l, w, s)) (hq : (25 ≤ knum le p)) : mm_R 139 0 [some (.ref 138), some (.int 99), none] [] (mk_M c n m kk (rT (he, ke, ki, fi, fa, or, mi, a, g, l, w, s) xm xi xw im le nu rf ln nn vp [(nI (knum le p)), (nI (kg le (p + 3) - 48))] xc vs)) (some (.int 0), (mk_M c n m kk (rT (he, ke, ki, fi, fa, or, mi, a, g, l, w, s) xm xi xw im le nu rf ln nn vp [(nI (knum le p)), (nI (kg le (p + 3) - 48))] xc vs))) := by
  obtain ⟨b1, b2, b3⟩ := id hB
  obtain ⟨hV, hst⟩ := id hA
  have hst2 : s ≤ 999 := hst
  obtain ⟨v1, v2, v3, v4, v5, v6, v7, v8, v9, v10, v11, v12, v13, v14, v15, v16⟩ := id hV
  have v6l := kO_len mi v7 or v6
  obtain ⟨f1, f2, f3⟩ := kst_f hk
  have e0 := b2 p
  have e1 := b2 (p + 1)
  have e2 := b2 (p + 2)
  have ekn := knum_lt e1 e2
  refine mr_seg 3 (pc1 := 5) (ls1 := [some (.ref 138), some (.int 99), none]) (st1 := [.int 0, .ref 146]) (M1 := (mk_M c n m kk (rT (he, ke, ki, fi, fa, or, mi, a, g, l, w, s) xm xi xw im le nu rf ln nn vp [(nI (knum le p)), (nI (kg le (p + 3) - 48))] xc vs))) (fun f => rfl) ?_
  refine mr_ldn (xs := [(nI (knum le p)), (nI (kg le (p + 3) - 48))]) rfl rfl (k := 0) (by decide) rfl ?_
  refine mr_seg 4 (pc1 := 117) (ls1 := [some (.ref 138), some (.int 99), some (.int (nI (knum le p)))]) (st1 := [.int (nI (knum le p))]) (M1 := (mk_M c n m kk (rT (he, ke, ki, fi, fa, or, mi, a, g, l, w, s) xm xi xw im le nu rf ln nn vp [(nI (knum le p)), (nI (kg le (p + 3) - 48))] xc vs))) (fun f => rfl) ?_
  refine mr_call (y := 140) (y0 := 120) (L := [some (.int (nI (knum le p)))]) (rest := []) (rr := some (.int 0)) (M1 := (mk_M c n m kk (rT (he, ke, ki, fi, fa, or, mi, a, g, l, w, s) xm xi xw im le nu rf ln nn vp [(nI (knum le p)), (nI (kg le (p + 3) - 48))] xc vs))) (fun f => rfl) (ms_c2_hi (x := (nI (knum le p))) (nI_ltf (a := knum le p) (b := 0) (by omega)) (nI_ltt (a := 24) (b := knum le p) (by omega))) ?_
  exact mr_ret 3 (fun f => rfl)
set_option maxRecDepth 100000 in
theorem id_107_0 (he ke ki fi fa or : List Nat) (mi a g l w s : Nat) (xm xi xw : List Int32) (im : Nat) (le nu rf : List Nat) (ln nn : Nat) (xc : List Int32) (vs : Int32) (vp : Int32) (c : cC) (n m kk : kG) (p : Nat) (hB : iB le ln) (hk : kmis le ln p = none) (hA : iA (he, ke, ki, fi, fa, or, mi, a, g, l, w, s)) (hq : ¬ (25 ≤ knum le p)) (y : Int32) : mm_R 139 0 [some (.ref 138), some (.int 107), none] [] (mk_M c n m kk (rT (he, ke, ki, fi, fa, or, mi, a, g, l, w, s) xm xi xw im le nu rf ln nn vp [(nI (knum le p)), y] xc vs)) (some (.int 1), (mk_M c n m kk (rT (he, ke.set (knum le p) (1 - kg ke (knum le p)), ki, fi, fa, or, mi, a, g, l, w, s) xm xi xw im le nu rf ln nn vp [(nI (knum le p)), y] xc vs))) := by
  obtain ⟨b1, b2, b3⟩ := id hB
  obtain ⟨hV, hst⟩ := id hA
  have hst2 : s ≤ 999 := hst
  obtain ⟨v1, v2, v3, v4, v5, v6, v7, v8, v9, v10, v11, v12, v13, v14, v15, v16⟩ := id hV
  have v6l := kO_len mi v7 or v6
  obtain ⟨f1, f2, f3⟩ := kst_f hk
  have e0 := b2 p
  have e1 := b2 (p + 1)
  have e2 := b2 (p + 2)
  have ekn := knum_lt e1 e2
  refine mr_seg 3 (pc1 := 5) (ls1 := [some (.ref 138), some (.int 107), none]) (st1 := [.int 0, .ref 146]) (M1 := (mk_M c n m kk (rT (he, ke, ki, fi, fa, or, mi, a, g, l, w, s) xm xi xw im le nu rf ln nn vp [(nI (knum le p)), y] xc vs))) (fun f => rfl) ?_
  refine mr_ldn (xs := [(nI (knum le p)), y]) rfl rfl (k := 0) (by decide) rfl ?_
  refine mr_seg 4 (pc1 := 143) (ls1 := [some (.ref 138), some (.int 107), some (.int (nI (knum le p)))]) (st1 := [.int (nI (knum le p))]) (M1 := (mk_M c n m kk (rT (he, ke, ki, fi, fa, or, mi, a, g, l, w, s) xm xi xw im le nu rf ln nn vp [(nI (knum le p)), y] xc vs))) (fun f => rfl) ?_
  refine mr_call (y := 140) (y0 := 146) (L := [some (.int (nI (knum le p)))]) (rest := []) (rr := some (.int 1)) (M1 := (mk_M c n m kk (rT (he, ke, ki, fi, fa, or, mi, a, g, l, w, s) xm xi xw im le nu rf ln nn vp [(nI (knum le p)), y] xc vs))) (fun f => rfl) (ms_c2_ok (x := (nI (knum le p))) (nI_ltf (a := knum le p) (b := 0) (by omega)) (nI_ltf (a := 24) (b := knum le p) (by omega))) ?_
  refine mr_seg 5 (pc1 := 158) (ls1 := [some (.ref 138), some (.int 107), some (.int (nI (knum le p)))]) (st1 := [.int 6, .ref 139, .int 6, .ref 139]) (M1 := (mk_M c n m kk (rT (he, ke, ki, fi, fa, or, mi, a, g, l, w, s) xm xi xw im le nu rf ln nn vp [(nI (knum le p)), y] xc vs))) (fun f => rfl) ?_
  refine mr_ldn (xs := (er (he, ke, ki, fi, fa, or, mi, a, g, l, w, s))) rfl rfl (k := 6) (by decide) rfl ?_
  refine mr_seg 4 (pc1 := 163) (ls1 := [some (.ref 138), some (.int 107), some (.int (nI (knum le p)))]) (st1 := [.int ((nI (kbits ke)) ^^^ ((1 : Int32) <<< ((nI (knum le p)) &&& 31))), .int 6, .ref 139]) (M1 := (mk_M c n m kk (rT (he, ke, ki, fi, fa, or, mi, a, g, l, w, s) xm xi xw im le nu rf ln nn vp [(nI (knum le p)), y] xc vs))) (fun f => rfl) ?_
  refine mr_v (kb_togI v2 v13 (by omega)) ?_
  refine mr_stn (xs := (er (he, ke, ki, fi, fa, or, mi, a, g, l, w, s))) (ys := (er (he, ke.set (knum le p) (1 - kg ke (knum le p)), ki, fi, fa, or, mi, a, g, l, w, s))) (M2 := (mk_MR c n m kk (er (he, ke.set (knum le p) (1 - kg ke (knum le p)), ki, fi, fa, or, mi, a, g, l, w, s)) xm xi xw (nI im) (le.map nI) (nu.map nI) (rf.map nI) (nI ln) (nI nn) vp [(nI (knum le p)), y] xc vs)) rfl rfl (k := 6) (by decide) (by rw [er_leq (K := (he, ke, ki, fi, fa, or, mi, a, g, l, w, s)) v1 v6l]; decide) rfl rfl ?_
  refine mr_M (mk_MRk c n m kk (he, ke.set (knum le p) (1 - kg ke (knum le p)), ki, fi, fa, or, mi, a, g, l, w, s) xm xi xw im le nu rf ln nn vp [(nI (knum le p)), y] xc vs) ?_
  exact mr_ret 2 (fun f => rfl)
set_option maxRecDepth 100000 in
theorem id_107_1 (he ke ki fi fa or : List Nat) (mi a g l w s : Nat) (xm xi xw : List Int32) (im : Nat) (le nu rf : List Nat) (ln nn : Nat) (xc : List Int32) (vs : Int32) (vp : Int32) (c : cC) (n m kk : kG) (p : Nat) (hB : iB le ln) (hk : kmis le ln p = none) (hA : iA (he, ke, ki, fi, fa, or, mi, a, g, l, w, s)) (hq : (25 ≤ knum le p)) (y : Int32) : mm_R 139 0 [some (.ref 138), some (.int 107), none] [] (mk_M c n m kk (rT (he, ke, ki, fi, fa, or, mi, a, g, l, w, s) xm xi xw im le nu rf ln nn vp [(nI (knum le p)), y] xc vs)) (some (.int 0), (mk_M c n m kk (rT (he, ke, ki, fi, fa, or, mi, a, g, l, w, s) xm xi xw im le nu rf ln nn vp [(nI (knum le p)), y] xc vs))) := by
  obtain ⟨b1, b2, b3⟩ := id hB
  obtain ⟨hV, hst⟩ := id hA
  have hst2 : s ≤ 999 := hst
  obtain ⟨v1, v2, v3, v4, v5, v6, v7, v8, v9, v10, v11, v12, v13, v14, v15, v16⟩ := id hV
  have v6l := kO_len mi v7 or v6
  obtain ⟨f1, f2, f3⟩ := kst_f hk
  have e0 := b2 p
  have e1 := b2 (p + 1)
  have e2 := b2 (p + 2)
  have ekn := knum_lt e1 e2
  refine mr_seg 3 (pc1 := 5) (ls1 := [some (.ref 138), some (.int 107), none]) (st1 := [.int 0, .ref 146]) (M1 := (mk_M c n m kk (rT (he, ke, ki, fi, fa, or, mi, a, g, l, w, s) xm xi xw im le nu rf ln nn vp [(nI (knum le p)), y] xc vs))) (fun f => rfl) ?_
  refine mr_ldn (xs := [(nI (knum le p)), y]) rfl rfl (k := 0) (by decide) rfl ?_
  refine mr_seg 4 (pc1 := 143) (ls1 := [some (.ref 138), some (.int 107), some (.int (nI (knum le p)))]) (st1 := [.int (nI (knum le p))]) (M1 := (mk_M c n m kk (rT (he, ke, ki, fi, fa, or, mi, a, g, l, w, s) xm xi xw im le nu rf ln nn vp [(nI (knum le p)), y] xc vs))) (fun f => rfl) ?_
  refine mr_call (y := 140) (y0 := 146) (L := [some (.int (nI (knum le p)))]) (rest := []) (rr := some (.int 0)) (M1 := (mk_M c n m kk (rT (he, ke, ki, fi, fa, or, mi, a, g, l, w, s) xm xi xw im le nu rf ln nn vp [(nI (knum le p)), y] xc vs))) (fun f => rfl) (ms_c2_hi (x := (nI (knum le p))) (nI_ltf (a := knum le p) (b := 0) (by omega)) (nI_ltt (a := 24) (b := knum le p) (by omega))) ?_
  exact mr_ret 3 (fun f => rfl)
set_option maxRecDepth 100000 in
theorem id_98_0 (he ke ki fi fa or : List Nat) (mi a g l w s : Nat) (xm xi xw : List Int32) (im : Nat) (le nu rf : List Nat) (ln nn : Nat) (xc : List Int32) (vs : Int32) (vp : Int32) (c : cC) (n m kk : kG) (p : Nat) (hB : iB le ln) (hk : kmis le ln p = none) (hA : iA (he, ke, ki, fi, fa, or, mi, a, g, l, w, s)) (hq : ¬ (25 ≤ knum le p)) (y : Int32) : mm_R 139 0 [some (.ref 138), some (.int 98), none] [] (mk_M c n m kk (rT (he, ke, ki, fi, fa, or, mi, a, g, l, w, s) xm xi xw im le nu rf ln nn vp [(nI (knum le p)), y] xc vs)) (some (.int 1), (mk_M c n m kk (rT (he, ke, ki, fi, fa, or, mi, knum le p, g, l, w, s) xm xi xw im le nu rf ln nn vp [(nI (knum le p)), y] xc vs))) := by
  obtain ⟨b1, b2, b3⟩ := id hB
  obtain ⟨hV, hst⟩ := id hA
  have hst2 : s ≤ 999 := hst
  obtain ⟨v1, v2, v3, v4, v5, v6, v7, v8, v9, v10, v11, v12, v13, v14, v15, v16⟩ := id hV
  have v6l := kO_len mi v7 or v6
  obtain ⟨f1, f2, f3⟩ := kst_f hk
  have e0 := b2 p
  have e1 := b2 (p + 1)
  have e2 := b2 (p + 2)
  have ekn := knum_lt e1 e2
  refine mr_seg 3 (pc1 := 5) (ls1 := [some (.ref 138), some (.int 98), none]) (st1 := [.int 0, .ref 146]) (M1 := (mk_M c n m kk (rT (he, ke, ki, fi, fa, or, mi, a, g, l, w, s) xm xi xw im le nu rf ln nn vp [(nI (knum le p)), y] xc vs))) (fun f => rfl) ?_
  refine mr_ldn (xs := [(nI (knum le p)), y]) rfl rfl (k := 0) (by decide) rfl ?_
  refine mr_seg 4 (pc1 := 264) (ls1 := [some (.ref 138), some (.int 98), some (.int (nI (knum le p)))]) (st1 := [.int (nI (knum le p))]) (M1 := (mk_M c n m kk (rT (he, ke, ki, fi, fa, or, mi, a, g, l, w, s) xm xi xw im le nu rf ln nn vp [(nI (knum le p)), y] xc vs))) (fun f => rfl) ?_
  refine mr_call (y := 140) (y0 := 267) (L := [some (.int (nI (knum le p)))]) (rest := []) (rr := some (.int 1)) (M1 := (mk_M c n m kk (rT (he, ke, ki, fi, fa, or, mi, a, g, l, w, s) xm xi xw im le nu rf ln nn vp [(nI (knum le p)), y] xc vs))) (fun f => rfl) (ms_c2_ok (x := (nI (knum le p))) (nI_ltf (a := knum le p) (b := 0) (by omega)) (nI_ltf (a := 24) (b := knum le p) (by omega))) ?_
  refine mr_seg 9 (pc1 := 288) (ls1 := [some (.ref 138), some (.int 98), some (.int (nI (knum le p)))]) (st1 := [.int (nI (knum le p)), .int 2, .ref 139]) (M1 := (mk_M c n m kk (rT (he, ke, ki, fi, fa, or, mi, a, g, l, w, s) xm xi xw im le nu rf ln nn vp [(nI (knum le p)), y] xc vs))) (fun f => rfl) ?_
  refine mr_stn (xs := (er (he, ke, ki, fi, fa, or, mi, a, g, l, w, s))) (ys := (er (he, ke, ki, fi, fa, or, mi, knum le p, g, l, w, s))) (M2 := (mk_MR c n m kk (er (he, ke, ki, fi, fa, or, mi, knum le p, g, l, w, s)) xm xi xw (nI im) (le.map nI) (nu.map nI) (rf.map nI) (nI ln) (nI nn) vp [(nI (knum le p)), y] xc vs)) rfl rfl (k := 2) (by decide) (by rw [er_leq (K := (he, ke, ki, fi, fa, or, mi, a, g, l, w, s)) v1 v6l]; decide) (er_s2 (v := knum le p)) rfl ?_
  refine mr_M (mk_MRk c n m kk (he, ke, ki, fi, fa, or, mi, knum le p, g, l, w, s) xm xi xw im le nu rf ln nn vp [(nI (knum le p)), y] xc vs) ?_
  exact mr_ret 2 (fun f => rfl)
set_option maxRecDepth 100000 in
theorem id_98_1 (he ke ki fi fa or : List Nat) (mi a g l w s : Nat) (xm xi xw : List Int32) (im : Nat) (le nu rf : List Nat) (ln nn : Nat) (xc : List Int32) (vs : Int32) (vp : Int32) (c : cC) (n m kk : kG) (p : Nat) (hB : iB le ln) (hk : kmis le ln p = none) (hA : iA (he, ke, ki, fi, fa, or, mi, a, g, l, w, s)) (hq : (25 ≤ knum le p)) (y : Int32) : mm_R 139 0 [some (.ref 138), some (.int 98), none] [] (mk_M c n m kk (rT (he, ke, ki, fi, fa, or, mi, a, g, l, w, s) xm xi xw im le nu rf ln nn vp [(nI (knum le p)), y] xc vs)) (some (.int 0), (mk_M c n m kk (rT (he, ke, ki, fi, fa, or, mi, a, g, l, w, s) xm xi xw im le nu rf ln nn vp [(nI (knum le p)), y] xc vs))) := by
  obtain ⟨b1, b2, b3⟩ := id hB
  obtain ⟨hV, hst⟩ := id hA
  have hst2 : s ≤ 999 := hst
  obtain ⟨v1, v2, v3, v4, v5, v6, v7, v8, v9, v10, v11, v12, v13, v14, v15, v16⟩ := id hV
  have v6l := kO_len mi v7 or v6
  obtain ⟨f1, f2, f3⟩ := kst_f hk
  have e0 := b2 p
  have e1 := b2 (p + 1)
  have e2 := b2 (p + 2)
  have ekn := knum_lt e1 e2
  refine mr_seg 3 (pc1 := 5) (ls1 := [some (.ref 138), some (.int 98), none]) (st1 := [.int 0, .ref 146]) (M1 := (mk_M c n m kk (rT (he, ke, ki, fi, fa, or, mi, a, g, l, w, s) xm xi xw im le nu rf ln nn vp [(nI (knum le p)), y] xc vs))) (fun f => rfl) ?_
  refine mr_ldn (xs := [(nI (knum le p)), y]) rfl rfl (k := 0) (by decide) rfl ?_
  refine mr_seg 4 (pc1 := 264) (ls1 := [some (.ref 138), some (.int 98), some (.int (nI (knum le p)))]) (st1 := [.int (nI (knum le p))]) (M1 := (mk_M c n m kk (rT (he, ke, ki, fi, fa, or, mi, a, g, l, w, s) xm xi xw im le nu rf ln nn vp [(nI (knum le p)), y] xc vs))) (fun f => rfl) ?_
  refine mr_call (y := 140) (y0 := 267) (L := [some (.int (nI (knum le p)))]) (rest := []) (rr := some (.int 0)) (M1 := (mk_M c n m kk (rT (he, ke, ki, fi, fa, or, mi, a, g, l, w, s) xm xi xw im le nu rf ln nn vp [(nI (knum le p)), y] xc vs))) (fun f => rfl) (ms_c2_hi (x := (nI (knum le p))) (nI_ltf (a := knum le p) (b := 0) (by omega)) (nI_ltt (a := 24) (b := knum le p) (by omega))) ?_
  exact mr_ret 3 (fun f => rfl)
set_option maxRecDepth 100000 in
theorem id_103_0 (he ke ki fi fa or : List Nat) (mi a g l w s : Nat) (xm xi xw : List Int32) (im : Nat) (le nu rf : List Nat) (ln nn : Nat) (xc : List Int32) (vs : Int32) (vp : Int32) (c : cC) (n m kk : kG) (p : Nat) (hB : iB le ln) (hk : kmis le ln p = none) (hA : iA (he, ke, ki, fi, fa, or, mi, a, g, l, w, s)) (hq : ¬ (25 ≤ knum le p)) (y : Int32) : mm_R 139 0 [some (.ref 138), some (.int 103), none] [] (mk_M c n m kk (rT (he, ke, ki, fi, fa, or, mi, a, g, l, w, s) xm xi xw im le nu rf ln nn vp [(nI (knum le p)), y] xc vs)) (some (.int 1), (mk_M c n m kk (rT (he, ke, ki, fi, fa, or, mi, a, knum le p, l, w, s) xm xi xw im le nu rf ln nn vp [(nI (knum le p)), y] xc vs))) := by
  obtain ⟨b1, b2, b3⟩ := id hB
  obtain ⟨hV, hst⟩ := id hA
  have hst2 : s ≤ 999 := hst
  obtain ⟨v1, v2, v3, v4, v5, v6, v7, v8, v9, v10, v11, v12, v13, v14, v15, v16⟩ := id hV
  have v6l := kO_len mi v7 or v6
  obtain ⟨f1, f2, f3⟩ := kst_f hk
  have e0 := b2 p
  have e1 := b2 (p + 1)
  have e2 := b2 (p + 2)
  have ekn := knum_lt e1 e2
  refine mr_seg 3 (pc1 := 5) (ls1 := [some (.ref 138), some (.int 103), none]) (st1 := [.int 0, .ref 146]) (M1 := (mk_M c n m kk (rT (he, ke, ki, fi, fa, or, mi, a, g, l, w, s) xm xi xw im le nu rf ln nn vp [(nI (knum le p)), y] xc vs))) (fun f => rfl) ?_
  refine mr_ldn (xs := [(nI (knum le p)), y]) rfl rfl (k := 0) (by decide) rfl ?_
  refine mr_seg 4 (pc1 := 264) (ls1 := [some (.ref 138), some (.int 103), some (.int (nI (knum le p)))]) (st1 := [.int (nI (knum le p))]) (M1 := (mk_M c n m kk (rT (he, ke, ki, fi, fa, or, mi, a, g, l, w, s) xm xi xw im le nu rf ln nn vp [(nI (knum le p)), y] xc vs))) (fun f => rfl) ?_
  refine mr_call (y := 140) (y0 := 267) (L := [some (.int (nI (knum le p)))]) (rest := []) (rr := some (.int 1)) (M1 := (mk_M c n m kk (rT (he, ke, ki, fi, fa, or, mi, a, g, l, w, s) xm xi xw im le nu rf ln nn vp [(nI (knum le p)), y] xc vs))) (fun f => rfl) (ms_c2_ok (x := (nI (knum le p))) (nI_ltf (a := knum le p) (b := 0) (by omega)) (nI_ltf (a := 24) (b := knum le p) (by omega))) ?_
  refine mr_seg 8 (pc1 := 288) (ls1 := [some (.ref 138), some (.int 103), some (.int (nI (knum le p)))]) (st1 := [.int (nI (knum le p)), .int 3, .ref 139]) (M1 := (mk_M c n m kk (rT (he, ke, ki, fi, fa, or, mi, a, g, l, w, s) xm xi xw im le nu rf ln nn vp [(nI (knum le p)), y] xc vs))) (fun f => rfl) ?_
  refine mr_stn (xs := (er (he, ke, ki, fi, fa, or, mi, a, g, l, w, s))) (ys := (er (he, ke, ki, fi, fa, or, mi, a, knum le p, l, w, s))) (M2 := (mk_MR c n m kk (er (he, ke, ki, fi, fa, or, mi, a, knum le p, l, w, s)) xm xi xw (nI im) (le.map nI) (nu.map nI) (rf.map nI) (nI ln) (nI nn) vp [(nI (knum le p)), y] xc vs)) rfl rfl (k := 3) (by decide) (by rw [er_leq (K := (he, ke, ki, fi, fa, or, mi, a, g, l, w, s)) v1 v6l]; decide) (er_s3 (v := knum le p)) rfl ?_
  refine mr_M (mk_MRk c n m kk (he, ke, ki, fi, fa, or, mi, a, knum le p, l, w, s) xm xi xw im le nu rf ln nn vp [(nI (knum le p)), y] xc vs) ?_
  exact mr_ret 2 (fun f => rfl)
set_option maxRecDepth 100000 in
theorem id_103_1 (he ke ki fi fa or : List Nat) (mi a g l w s : Nat) (xm xi xw : List Int32) (im : Nat) (le nu rf : List Nat) (ln nn : Nat) (xc : List Int32) (vs : Int32) (vp : Int32) (c : cC) (n m kk : kG) (p : Nat) (hB : iB le ln) (hk : kmis le ln p = none) (hA : iA (he, ke, ki, fi, fa, or, mi, a, g, l, w, s)) (hq : (25 ≤ knum le p)) (y : Int32) : mm_R 139 0 [some (.ref 138), some (.int 103), none] [] (mk_M c n m kk (rT (he, ke, ki, fi, fa, or, mi, a, g, l, w, s) xm xi xw im le nu rf ln nn vp [(nI (knum le p)), y] xc vs)) (some (.int 0), (mk_M c n m kk (rT (he, ke, ki, fi, fa, or, mi, a, g, l, w, s) xm xi xw im le nu rf ln nn vp [(nI (knum le p)), y] xc vs))) := by
  obtain ⟨b1, b2, b3⟩ := id hB
  obtain ⟨hV, hst⟩ := id hA
  have hst2 : s ≤ 999 := hst
  obtain ⟨v1, v2, v3, v4, v5, v6, v7, v8, v9, v10, v11, v12, v13, v14, v15, v16⟩ := id hV
  have v6l := kO_len mi v7 or v6
  obtain ⟨f1, f2, f3⟩ := kst_f hk
  have e0 := b2 p
  have e1 := b2 (p + 1)
  have e2 := b2 (p + 2)
  have ekn := knum_lt e1 e2
  refine mr_seg 3 (pc1 := 5) (ls1 := [some (.ref 138), some (.int 103), none]) (st1 := [.int 0, .ref 146]) (M1 := (mk_M c n m kk (rT (he, ke, ki, fi, fa, or, mi, a, g, l, w, s) xm xi xw im le nu rf ln nn vp [(nI (knum le p)), y] xc vs))) (fun f => rfl) ?_
  refine mr_ldn (xs := [(nI (knum le p)), y]) rfl rfl (k := 0) (by decide) rfl ?_
  refine mr_seg 4 (pc1 := 264) (ls1 := [some (.ref 138), some (.int 103), some (.int (nI (knum le p)))]) (st1 := [.int (nI (knum le p))]) (M1 := (mk_M c n m kk (rT (he, ke, ki, fi, fa, or, mi, a, g, l, w, s) xm xi xw im le nu rf ln nn vp [(nI (knum le p)), y] xc vs))) (fun f => rfl) ?_
  refine mr_call (y := 140) (y0 := 267) (L := [some (.int (nI (knum le p)))]) (rest := []) (rr := some (.int 0)) (M1 := (mk_M c n m kk (rT (he, ke, ki, fi, fa, or, mi, a, g, l, w, s) xm xi xw im le nu rf ln nn vp [(nI (knum le p)), y] xc vs))) (fun f => rfl) (ms_c2_hi (x := (nI (knum le p))) (nI_ltf (a := knum le p) (b := 0) (by omega)) (nI_ltt (a := 24) (b := knum le p) (by omega))) ?_
  exact mr_ret 3 (fun f => rfl)
set_option maxRecDepth 100000 in
theorem id_119_0 (he ke ki fi fa or : List Nat) (mi a g l w s : Nat) (xm xi xw : List Int32) (im : Nat) (le nu rf : List Nat) (ln nn : Nat) (xc : List Int32) (vs : Int32) (vp : Int32) (c : cC) (n m kk : kG) (p : Nat) (hB : iB le ln) (hk : kmis le ln p = none) (hA : iA (he, ke, ki, fi, fa, or, mi, a, g, l, w, s)) (hq : ¬ (20 < knum le p)) (y : Int32) : mm_R 139 0 [some (.ref 138), some (.int 119), none] [] (mk_M c n m kk (rT (he, ke, ki, fi, fa, or, mi, a, g, l, w, s) xm xi xw im le nu rf ln nn vp [(nI (knum le p)), y] xc vs)) (some (.int 1), (mk_M c n m kk (rT (he, ke, ki, fi, fa, or, mi, a, g, l, knum le p, s) xm xi xw im le nu rf ln nn vp [(nI (knum le p)), y] xc vs))) := by
  obtain ⟨b1, b2, b3⟩ := id hB
  obtain ⟨hV, hst⟩ := id hA
  have hst2 : s ≤ 999 := hst
  obtain ⟨v1, v2, v3, v4, v5, v6, v7, v8, v9, v10, v11, v12, v13, v14, v15, v16⟩ := id hV
  have v6l := kO_len mi v7 or v6
  obtain ⟨f1, f2, f3⟩ := kst_f hk
  have e0 := b2 p
  have e1 := b2 (p + 1)
  have e2 := b2 (p + 2)
  have ekn := knum_lt e1 e2
  refine mr_seg 3 (pc1 := 5) (ls1 := [some (.ref 138), some (.int 119), none]) (st1 := [.int 0, .ref 146]) (M1 := (mk_M c n m kk (rT (he, ke, ki, fi, fa, or, mi, a, g, l, w, s) xm xi xw im le nu rf ln nn vp [(nI (knum le p)), y] xc vs))) (fun f => rfl) ?_
  refine mr_ldn (xs := [(nI (knum le p)), y]) rfl rfl (k := 0) (by decide) rfl ?_
  refine mr_seg 7 (pc1 := 297) (ls1 := [some (.ref 138), some (.int 119), some (.int (nI (knum le p)))]) (st1 := [.int (nI (knum le p)), .int 5, .ref 139]) (M1 := (mk_M c n m kk (rT (he, ke, ki, fi, fa, or, mi, a, g, l, w, s) xm xi xw im le nu rf ln nn vp [(nI (knum le p)), y] xc vs))) (fun f => rfl) ?_
  refine mr_stn (xs := (er (he, ke, ki, fi, fa, or, mi, a, g, l, w, s))) (ys := (er (he, ke, ki, fi, fa, or, mi, a, g, l, knum le p, s))) (M2 := (mk_MR c n m kk (er (he, ke, ki, fi, fa, or, mi, a, g, l, knum le p, s)) xm xi xw (nI im) (le.map nI) (nu.map nI) (rf.map nI) (nI ln) (nI nn) vp [(nI (knum le p)), y] xc vs)) rfl rfl (k := 5) (by decide) (by rw [er_leq (K := (he, ke, ki, fi, fa, or, mi, a, g, l, w, s)) v1 v6l]; decide) (er_s5 (v := knum le p)) rfl ?_
  refine mr_M (mk_MRk c n m kk (he, ke, ki, fi, fa, or, mi, a, g, l, knum le p, s) xm xi xw im le nu rf ln nn vp [(nI (knum le p)), y] xc vs) ?_
  refine mr_seg 2 (pc1 := 301) (ls1 := [some (.ref 138), some (.int 119), some (.int (nI (knum le p)))]) (st1 := [.int 20, .int (nI (knum le p))]) (M1 := (mk_M c n m kk (rT (he, ke, ki, fi, fa, or, mi, a, g, l, knum le p, s) xm xi xw im le nu rf ln nn vp [(nI (knum le p)), y] xc vs))) (fun f => rfl) ?_
  refine mr_f (C := 20 < (nI (knum le p))) (nI_ltf (a := 20) (b := knum le p) (by omega)) (fun f => rfl) ?_
  exact mr_ret 3 (fun f => rfl)
set_option maxRecDepth 100000 in
theorem id_119_1 (he ke ki fi fa or : List Nat) (mi a g l w s : Nat) (xm xi xw : List Int32) (im : Nat) (le nu rf : List Nat) (ln nn : Nat) (xc : List Int32) (vs : Int32) (vp : Int32) (c : cC) (n m kk : kG) (p : Nat) (hB : iB le ln) (hk : kmis le ln p = none) (hA : iA (he, ke, ki, fi, fa, or, mi, a, g, l, w, s)) (hq : (20 < knum le p)) (y : Int32) : mm_R 139 0 [some (.ref 138), some (.int 119), none] [] (mk_M c n m kk (rT (he, ke, ki, fi, fa, or, mi, a, g, l, w, s) xm xi xw im le nu rf ln nn vp [(nI (knum le p)), y] xc vs)) (some (.int 0), (mk_M c n m kk (rT (he, ke, ki, fi, fa, or, mi, a, g, l, knum le p, s) xm xi xw im le nu rf ln nn vp [(nI (knum le p)), y] xc vs))) := by
  obtain ⟨b1, b2, b3⟩ := id hB
  obtain ⟨hV, hst⟩ := id hA
  have hst2 : s ≤ 999 := hst
  obtain ⟨v1, v2, v3, v4, v5, v6, v7, v8, v9, v10, v11, v12, v13, v14, v15, v16⟩ := id hV
  have v6l := kO_len mi v7 or v6
  obtain ⟨f1, f2, f3⟩ := kst_f hk
  have e0 := b2 p
  have e1 := b2 (p + 1)
  have e2 := b2 (p + 2)
  have ekn := knum_lt e1 e2
  refine mr_seg 3 (pc1 := 5) (ls1 := [some (.ref 138), some (.int 119), none]) (st1 := [.int 0, .ref 146]) (M1 := (mk_M c n m kk (rT (he, ke, ki, fi, fa, or, mi, a, g, l, w, s) xm xi xw im le nu rf ln nn vp [(nI (knum le p)), y] xc vs))) (fun f => rfl) ?_
  refine mr_ldn (xs := [(nI (knum le p)), y]) rfl rfl (k := 0) (by decide) rfl ?_
  refine mr_seg 7 (pc1 := 297) (ls1 := [some (.ref 138), some (.int 119), some (.int (nI (knum le p)))]) (st1 := [.int (nI (knum le p)), .int 5, .ref 139]) (M1 := (mk_M c n m kk (rT (he, ke, ki, fi, fa, or, mi, a, g, l, w, s) xm xi xw im le nu rf ln nn vp [(nI (knum le p)), y] xc vs))) (fun f => rfl) ?_
  refine mr_stn (xs := (er (he, ke, ki, fi, fa, or, mi, a, g, l, w, s))) (ys := (er (he, ke, ki, fi, fa, or, mi, a, g, l, knum le p, s))) (M2 := (mk_MR c n m kk (er (he, ke, ki, fi, fa, or, mi, a, g, l, knum le p, s)) xm xi xw (nI im) (le.map nI) (nu.map nI) (rf.map nI) (nI ln) (nI nn) vp [(nI (knum le p)), y] xc vs)) rfl rfl (k := 5) (by decide) (by rw [er_leq (K := (he, ke, ki, fi, fa, or, mi, a, g, l, w, s)) v1 v6l]; decide) (er_s5 (v := knum le p)) rfl ?_
  refine mr_M (mk_MRk c n m kk (he, ke, ki, fi, fa, or, mi, a, g, l, knum le p, s) xm xi xw im le nu rf ln nn vp [(nI (knum le p)), y] xc vs) ?_
  refine mr_seg 2 (pc1 := 301) (ls1 := [some (.ref 138), some (.int 119), some (.int (nI (knum le p)))]) (st1 := [.int 20, .int (nI (knum le p))]) (M1 := (mk_M c n m kk (rT (he, ke, ki, fi, fa, or, mi, a, g, l, knum le p, s) xm xi xw im le nu rf ln nn vp [(nI (knum le p)), y] xc vs))) (fun f => rfl) ?_
  refine mr_t (C := 20 < (nI (knum le p))) (nI_ltt (a := 20) (b := knum le p) (by omega)) (fun f => rfl) ?_
  exact mr_ret 2 (fun f => rfl)
set_option maxRecDepth 100000 in
theorem id_115_0 (he ke ki fi fa or : List Nat) (mi a g l w s : Nat) (xm xi xw : List Int32) (im : Nat) (le nu rf : List Nat) (ln nn : Nat) (xc : List Int32) (vs : Int32) (vp : Int32) (c : cC) (n m kk : kG) (p : Nat) (hB : iB le ln) (hk : kmis le ln p = none) (hA : iA (he, ke, ki, fi, fa, or, mi, a, g, l, w, s)) (hq : ¬ (knum le p < 1 ∨ 60 < knum le p ∨ 999 < s + knum le p)) (y : Int32) : mm_R 139 0 [some (.ref 138), some (.int 115), none] [] (mk_M c n m kk (rT (he, ke, ki, fi, fa, or, mi, a, g, l, w, s) xm xi xw im le nu rf ln nn vp [(nI (knum le p)), y] xc vs)) (some (.int 1), (mk_M c n m kk (rT (ksteps (knum le p) (he, ke, ki, fi, fa, or, mi, a, g, l, w, s)) xm xi xw im le nu rf ln nn vp [(nI (knum le p)), y] xc vs))) := by
  obtain ⟨b1, b2, b3⟩ := id hB
  obtain ⟨hV, hst⟩ := id hA
  have hst2 : s ≤ 999 := hst
  obtain ⟨v1, v2, v3, v4, v5, v6, v7, v8, v9, v10, v11, v12, v13, v14, v15, v16⟩ := id hV
  have v6l := kO_len mi v7 or v6
  obtain ⟨f1, f2, f3⟩ := kst_f hk
  have e0 := b2 p
  have e1 := b2 (p + 1)
  have e2 := b2 (p + 2)
  have ekn := knum_lt e1 e2
  refine mr_seg 3 (pc1 := 5) (ls1 := [some (.ref 138), some (.int 115), none]) (st1 := [.int 0, .ref 146]) (M1 := (mk_M c n m kk (rT (he, ke, ki, fi, fa, or, mi, a, g, l, w, s) xm xi xw im le nu rf ln nn vp [(nI (knum le p)), y] xc vs))) (fun f => rfl) ?_
  refine mr_ldn (xs := [(nI (knum le p)), y]) rfl rfl (k := 0) (by decide) rfl ?_
  refine mr_seg 6 (pc1 := 334) (ls1 := [some (.ref 138), some (.int 115), some (.int (nI (knum le p)))]) (st1 := [.int 60, .int 1, .int (nI (knum le p))]) (M1 := (mk_M c n m kk (rT (he, ke, ki, fi, fa, or, mi, a, g, l, w, s) xm xi xw im le nu rf ln nn vp [(nI (knum le p)), y] xc vs))) (fun f => rfl) ?_
  refine mr_call (y := 135) (y0 := 337) (L := [some (.int (nI (knum le p))), some (.int 1), some (.int 60)]) (rest := []) (rr := some (.int 1)) (M1 := (mk_M c n m kk (rT (he, ke, ki, fi, fa, or, mi, a, g, l, w, s) xm xi xw im le nu rf ln nn vp [(nI (knum le p)), y] xc vs))) (fun f => rfl) (ms_in_ok (x := (nI (knum le p))) (a := 1) (b := 60) (nI_ltf (a := knum le p) (b := 1) (by omega)) (nI_ltf (a := 60) (b := knum le p) (by omega))) ?_
  refine mr_seg 4 (pc1 := 345) (ls1 := [some (.ref 138), some (.int 115), some (.int (nI (knum le p)))]) (st1 := [.int 1, .ref 139]) (M1 := (mk_M c n m kk (rT (he, ke, ki, fi, fa, or, mi, a, g, l, w, s) xm xi xw im le nu rf ln nn vp [(nI (knum le p)), y] xc vs))) (fun f => rfl) ?_
  refine mr_ldn (xs := (er (he, ke, ki, fi, fa, or, mi, a, g, l, w, s))) rfl rfl (k := 1) (by decide) rfl ?_
  refine mr_seg 2 (pc1 := 348) (ls1 := [some (.ref 138), some (.int 115), some (.int (nI (knum le p)))]) (st1 := [.int ((nI s) + (nI (knum le p)))]) (M1 := (mk_M c n m kk (rT (he, ke, ki, fi, fa, or, mi, a, g, l, w, s) xm xi xw im le nu rf ln nn vp [(nI (knum le p)), y] xc vs))) (fun f => rfl) ?_
  refine mr_v (nI_add s (knum le p)) ?_
  refine mr_seg 1 (pc1 := 351) (ls1 := [some (.ref 138), some (.int 115), some (.int (nI (knum le p)))]) (st1 := [.int 999, .int (nI (s + knum le p))]) (M1 := (mk_M c n m kk (rT (he, ke, ki, fi, fa, or, mi, a, g, l, w, s) xm xi xw im le nu rf ln nn vp [(nI (knum le p)), y] xc vs))) (fun f => rfl) ?_
  refine mr_t (C := (nI (s + knum le p)) ≤ 999) (nI_let (a := s + knum le p) (b := 999) (by omega)) (fun f => rfl) ?_
  refine mr_seg 3 (pc1 := 361) (ls1 := [some (.ref 138), some (.int 115), some (.int (nI (knum le p)))]) (st1 := [.int (nI (knum le p)), .ref 139]) (M1 := (mk_M c n m kk (rT (he, ke, ki, fi, fa, or, mi, a, g, l, w, s) xm xi xw im le nu rf ln nn vp [(nI (knum le p)), y] xc vs))) (fun f => rfl) ?_
  refine mr_call (y := 145) (y0 := 364) (L := [some (.ref 139), some (.int (nI (knum le p))), none]) (rest := []) (rr := none) (M1 := (mk_M c n m kk (rT (ksteps (knum le p) (he, ke, ki, fi, fa, or, mi, a, g, l, w, s)) xm xi xw im le nu rf ln nn vp [(nI (knum le p)), y] xc vs))) (fun f => rfl) (rl_s c n m kk (rT (he, ke, ki, fi, fa, or, mi, a, g, l, w, s) xm xi xw im le nu rf ln nn vp [(nI (knum le p)), y] xc vs) (rc_by_s (knum le p) (by omega) (he, ke, ki, fi, fa, or, mi, a, g, l, w, s) hV (show s < 2 ^ 20 by omega)) rfl) ?_
  exact mr_ret 2 (fun f => rfl)
set_option maxRecDepth 100000 in
theorem id_115_1a (he ke ki fi fa or : List Nat) (mi a g l w s : Nat) (xm xi xw : List Int32) (im : Nat) (le nu rf : List Nat) (ln nn : Nat) (xc : List Int32) (vs : Int32) (vp : Int32) (c : cC) (n m kk : kG) (p : Nat) (hB : iB le ln) (hk : kmis le ln p = none) (hA : iA (he, ke, ki, fi, fa, or, mi, a, g, l, w, s)) (hq : (knum le p < 1 ∨ 60 < knum le p ∨ 999 < s + knum le p)) (hq2 : knum le p < 1) (y : Int32) : mm_R 139 0 [some (.ref 138), some (.int 115), none] [] (mk_M c n m kk (rT (he, ke, ki, fi, fa, or, mi, a, g, l, w, s) xm xi xw im le nu rf ln nn vp [(nI (knum le p)), y] xc vs)) (some (.int 0), (mk_M c n m kk (rT (he, ke, ki, fi, fa, or, mi, a, g, l, w, s) xm xi xw im le nu rf ln nn vp [(nI (knum le p)), y] xc vs))) := by
  obtain ⟨b1, b2, b3⟩ := id hB
  obtain ⟨hV, hst⟩ := id hA
  have hst2 : s ≤ 999 := hst
  obtain ⟨v1, v2, v3, v4, v5, v6, v7, v8, v9, v10, v11, v12, v13, v14, v15, v16⟩ := id hV
  have v6l := kO_len mi v7 or v6
  obtain ⟨f1, f2, f3⟩ := kst_f hk
  have e0 := b2 p
  have e1 := b2 (p + 1)
  have e2 := b2 (p + 2)
  have ekn := knum_lt e1 e2
  refine mr_seg 3 (pc1 := 5) (ls1 := [some (.ref 138), some (.int 115), none]) (st1 := [.int 0, .ref 146]) (M1 := (mk_M c n m kk (rT (he, ke, ki, fi, fa, or, mi, a, g, l, w, s) xm xi xw im le nu rf ln nn vp [(nI (knum le p)), y] xc vs))) (fun f => rfl) ?_
  refine mr_ldn (xs := [(nI (knum le p)), y]) rfl rfl (k := 0) (by decide) rfl ?_
  refine mr_seg 6 (pc1 := 334) (ls1 := [some (.ref 138), some (.int 115), some (.int (nI (knum le p)))]) (st1 := [.int 60, .int 1, .int (nI (knum le p))]) (M1 := (mk_M c n m kk (rT (he, ke, ki, fi, fa, or, mi, a, g, l, w, s) xm xi xw im le nu rf ln nn vp [(nI (knum le p)), y] xc vs))) (fun f => rfl) ?_
  refine mr_call (y := 135) (y0 := 337) (L := [some (.int (nI (knum le p))), some (.int 1), some (.int 60)]) (rest := []) (rr := some (.int 0)) (M1 := (mk_M c n m kk (rT (he, ke, ki, fi, fa, or, mi, a, g, l, w, s) xm xi xw im le nu rf ln nn vp [(nI (knum le p)), y] xc vs))) (fun f => rfl) (ms_in_lo (x := (nI (knum le p))) (a := 1) (b := 60) (nI_ltt (a := knum le p) (b := 1) (by omega))) ?_
  exact mr_ret 3 (fun f => rfl)
set_option maxRecDepth 100000 in
theorem id_115_1b (he ke ki fi fa or : List Nat) (mi a g l w s : Nat) (xm xi xw : List Int32) (im : Nat) (le nu rf : List Nat) (ln nn : Nat) (xc : List Int32) (vs : Int32) (vp : Int32) (c : cC) (n m kk : kG) (p : Nat) (hB : iB le ln) (hk : kmis le ln p = none) (hA : iA (he, ke, ki, fi, fa, or, mi, a, g, l, w, s)) (hq : (knum le p < 1 ∨ 60 < knum le p ∨ 999 < s + knum le p)) (hq2 : 60 < knum le p) (y : Int32) : mm_R 139 0 [some (.ref 138), some (.int 115), none] [] (mk_M c n m kk (rT (he, ke, ki, fi, fa, or, mi, a, g, l, w, s) xm xi xw im le nu rf ln nn vp [(nI (knum le p)), y] xc vs)) (some (.int 0), (mk_M c n m kk (rT (he, ke, ki, fi, fa, or, mi, a, g, l, w, s) xm xi xw im le nu rf ln nn vp [(nI (knum le p)), y] xc vs))) := by
  obtain ⟨b1, b2, b3⟩ := id hB
  obtain ⟨hV, hst⟩ := id hA
  have hst2 : s ≤ 999 := hst
  obtain ⟨v1, v2, v3, v4, v5, v6, v7, v8, v9, v10, v11, v12, v13, v14, v15, v16⟩ := id hV
  have v6l := kO_len mi v7 or v6
  obtain ⟨f1, f2, f3⟩ := kst_f hk
  have e0 := b2 p
  have e1 := b2 (p + 1)
  have e2 := b2 (p + 2)
  have ekn := knum_lt e1 e2
  refine mr_seg 3 (pc1 := 5) (ls1 := [some (.ref 138), some (.int 115), none]) (st1 := [.int 0, .ref 146]) (M1 := (mk_M c n m kk (rT (he, ke, ki, fi, fa, or, mi, a, g, l, w, s) xm xi xw im le nu rf ln nn vp [(nI (knum le p)), y] xc vs))) (fun f => rfl) ?_
  refine mr_ldn (xs := [(nI (knum le p)), y]) rfl rfl (k := 0) (by decide) rfl ?_
  refine mr_seg 6 (pc1 := 334) (ls1 := [some (.ref 138), some (.int 115), some (.int (nI (knum le p)))]) (st1 := [.int 60, .int 1, .int (nI (knum le p))]) (M1 := (mk_M c n m kk (rT (he, ke, ki, fi, fa, or, mi, a, g, l, w, s) xm xi xw im le nu rf ln nn vp [(nI (knum le p)), y] xc vs))) (fun f => rfl) ?_
  refine mr_call (y := 135) (y0 := 337) (L := [some (.int (nI (knum le p))), some (.int 1), some (.int 60)]) (rest := []) (rr := some (.int 0)) (M1 := (mk_M c n m kk (rT (he, ke, ki, fi, fa, or, mi, a, g, l, w, s) xm xi xw im le nu rf ln nn vp [(nI (knum le p)), y] xc vs))) (fun f => rfl) (ms_in_hi (x := (nI (knum le p))) (a := 1) (b := 60) (nI_ltf (a := knum le p) (b := 1) (by omega)) (nI_ltt (a := 60) (b := knum le p) (by omega))) ?_
  exact mr_ret 3 (fun f => rfl)
set_option maxRecDepth 100000 in
theorem id_115_1c (he ke ki fi fa or : List Nat) (mi a g l w s : Nat) (xm xi xw : List Int32) (im : Nat) (le nu rf : List Nat) (ln nn : Nat) (xc : List Int32) (vs : Int32) (vp : Int32) (c : cC) (n m kk : kG) (p : Nat) (hB : iB le ln) (hk : kmis le ln p = none) (hA : iA (he, ke, ki, fi, fa, or, mi, a, g, l, w, s)) (hq : (knum le p < 1 ∨ 60 < knum le p ∨ 999 < s + knum le p)) (hq2 : 1 ≤ knum le p ∧ knum le p ≤ 60 ∧ 999 < s + knum le p) (y : Int32) : mm_R 139 0 [some (.ref 138), some (.int 115), none] [] (mk_M c n m kk (rT (he, ke, ki, fi, fa, or, mi, a, g, l, w, s) xm xi xw im le nu rf ln nn vp [(nI (knum le p)), y] xc vs)) (some (.int 0), (mk_M c n m kk (rT (he, ke, ki, fi, fa, or, mi, a, g, l, w, s) xm xi xw im le nu rf ln nn vp [(nI (knum le p)), y] xc vs))) := by
  obtain ⟨b1, b2, b3⟩ := id hB
  obtain ⟨hV, hst⟩ := id hA
  have hst2 : s ≤ 999 := hst
  obtain ⟨v1, v2, v3, v4, v5, v6, v7, v8, v9, v10, v11, v12, v13, v14, v15, v16⟩ := id hV
  have v6l := kO_len mi v7 or v6
  obtain ⟨f1, f2, f3⟩ := kst_f hk
  have e0 := b2 p
  have e1 := b2 (p + 1)
  have e2 := b2 (p + 2)
  have ekn := knum_lt e1 e2
  refine mr_seg 3 (pc1 := 5) (ls1 := [some (.ref 138), some (.int 115), none]) (st1 := [.int 0, .ref 146]) (M1 := (mk_M c n m kk (rT (he, ke, ki, fi, fa, or, mi, a, g, l, w, s) xm xi xw im le nu rf ln nn vp [(nI (knum le p)), y] xc vs))) (fun f => rfl) ?_
  refine mr_ldn (xs := [(nI (knum le p)), y]) rfl rfl (k := 0) (by decide) rfl ?_
  refine mr_seg 6 (pc1 := 334) (ls1 := [some (.ref 138), some (.int 115), some (.int (nI (knum le p)))]) (st1 := [.int 60, .int 1, .int (nI (knum le p))]) (M1 := (mk_M c n m kk (rT (he, ke, ki, fi, fa, or, mi, a, g, l, w, s) xm xi xw im le nu rf ln nn vp [(nI (knum le p)), y] xc vs))) (fun f => rfl) ?_
  refine mr_call (y := 135) (y0 := 337) (L := [some (.int (nI (knum le p))), some (.int 1), some (.int 60)]) (rest := []) (rr := some (.int 1)) (M1 := (mk_M c n m kk (rT (he, ke, ki, fi, fa, or, mi, a, g, l, w, s) xm xi xw im le nu rf ln nn vp [(nI (knum le p)), y] xc vs))) (fun f => rfl) (ms_in_ok (x := (nI (knum le p))) (a := 1) (b := 60) (nI_ltf (a := knum le p) (b := 1) (by omega)) (nI_ltf (a := 60) (b := knum le p) (by omega))) ?_
  refine mr_seg 4 (pc1 := 345) (ls1 := [some (.ref 138), some (.int 115), some (.int (nI (knum le p)))]) (st1 := [.int 1, .ref 139]) (M1 := (mk_M c n m kk (rT (he, ke, ki, fi, fa, or, mi, a, g, l, w, s) xm xi xw im le nu rf ln nn vp [(nI (knum le p)), y] xc vs))) (fun f => rfl) ?_
  refine mr_ldn (xs := (er (he, ke, ki, fi, fa, or, mi, a, g, l, w, s))) rfl rfl (k := 1) (by decide) rfl ?_
  refine mr_seg 2 (pc1 := 348) (ls1 := [some (.ref 138), some (.int 115), some (.int (nI (knum le p)))]) (st1 := [.int ((nI s) + (nI (knum le p)))]) (M1 := (mk_M c n m kk (rT (he, ke, ki, fi, fa, or, mi, a, g, l, w, s) xm xi xw im le nu rf ln nn vp [(nI (knum le p)), y] xc vs))) (fun f => rfl) ?_
  refine mr_v (nI_add s (knum le p)) ?_
  refine mr_seg 1 (pc1 := 351) (ls1 := [some (.ref 138), some (.int 115), some (.int (nI (knum le p)))]) (st1 := [.int 999, .int (nI (s + knum le p))]) (M1 := (mk_M c n m kk (rT (he, ke, ki, fi, fa, or, mi, a, g, l, w, s) xm xi xw im le nu rf ln nn vp [(nI (knum le p)), y] xc vs))) (fun f => rfl) ?_
  refine mr_f (C := (nI (s + knum le p)) ≤ 999) (nI_lef (a := s + knum le p) (b := 999) (by omega)) (fun f => rfl) ?_
  exact mr_ret 2 (fun f => rfl)
set_option maxRecDepth 100000 in
theorem id_109_0 (he ke ki fi fa or : List Nat) (mi a g l w s : Nat) (xm xi xw : List Int32) (im : Nat) (le nu rf : List Nat) (ln nn : Nat) (xc : List Int32) (vs : Int32) (vp : Int32) (c : cC) (n m kk : kG) (p : Nat) (hB : iB le ln) (hk : kmis le ln p = none) (hA : iA (he, ke, ki, fi, fa, or, mi, a, g, l, w, s)) (hq : ¬ (5 ≤ mi)) (kd : Nat) : mm_R 139 0 [some (.ref 138), some (.int 109), none] [] (mk_M c n m kk (rT (he, ke, ki, fi, fa, or, mi, a, g, l, w, s) xm xi xw im le nu rf ln nn vp [(nI kd), (nI (kg le (p + 2) - 48))] xc vs)) (some (.int 1), (mk_M c n m kk (rT (he, ke, ki.set mi kd, fi.set mi (kg le (p + 2) - 48), fa.set mi 0, or.set mi mi, mi + 1, a, g, l, w, s) xm xi xw im le nu rf ln nn vp [(nI kd), (nI (kg le (p + 2) - 48))] xc vs))) := by
  obtain ⟨b1, b2, b3⟩ := id hB
  obtain ⟨hV, hst⟩ := id hA
  have hst2 : s ≤ 999 := hst
  obtain ⟨v1, v2, v3, v4, v5, v6, v7, v8, v9, v10, v11, v12, v13, v14, v15, v16⟩ := id hV
  have v6l := kO_len mi v7 or v6
  obtain ⟨f1, f2, f3⟩ := kst_f hk
  have e0 := b2 p
  have e1 := b2 (p + 1)
  have e2 := b2 (p + 2)
  have ekn := knum_lt e1 e2
  refine mr_seg 3 (pc1 := 5) (ls1 := [some (.ref 138), some (.int 109), none]) (st1 := [.int 0, .ref 146]) (M1 := (mk_M c n m kk (rT (he, ke, ki, fi, fa, or, mi, a, g, l, w, s) xm xi xw im le nu rf ln nn vp [(nI kd), (nI (kg le (p + 2) - 48))] xc vs))) (fun f => rfl) ?_
  refine mr_ldn (xs := [(nI kd), (nI (kg le (p + 2) - 48))]) rfl rfl (k := 0) (by decide) rfl ?_
  refine mr_seg 6 (pc1 := 171) (ls1 := [some (.ref 138), some (.int 109), some (.int (nI kd))]) (st1 := [.int 0, .ref 139]) (M1 := (mk_M c n m kk (rT (he, ke, ki, fi, fa, or, mi, a, g, l, w, s) xm xi xw im le nu rf ln nn vp [(nI kd), (nI (kg le (p + 2) - 48))] xc vs))) (fun f => rfl) ?_
  refine mr_ldn (xs := (er (he, ke, ki, fi, fa, or, mi, a, g, l, w, s))) rfl rfl (k := 0) (by decide) rfl ?_
  refine mr_seg 1 (pc1 := 173) (ls1 := [some (.ref 138), some (.int 109), some (.int (nI kd))]) (st1 := [.int 5, .int (nI mi)]) (M1 := (mk_M c n m kk (rT (he, ke, ki, fi, fa, or, mi, a, g, l, w, s) xm xi xw im le nu rf ln nn vp [(nI kd), (nI (kg le (p + 2) - 48))] xc vs))) (fun f => rfl) ?_
  refine mr_f (C := (nI mi) = 5) (nI_eqf (a := mi) (b := 5) (by omega)) (fun f => rfl) ?_
  refine mr_seg 5 (pc1 := 187) (ls1 := [some (.ref 138), some (.int 109), some (.int (nI kd))]) (st1 := [.int 0, .ref 139, .ref 139]) (M1 := (mk_M c n m kk (rT (he, ke, ki, fi, fa, or, mi, a, g, l, w, s) xm xi xw im le nu rf ln nn vp [(nI kd), (nI (kg le (p + 2) - 48))] xc vs))) (fun f => rfl) ?_
  refine mr_ldn (xs := (er (he, ke, ki, fi, fa, or, mi, a, g, l, w, s))) rfl rfl (k := 0) (by decide) rfl ?_
  refine mr_seg 1 (pc1 := 189) (ls1 := [some (.ref 138), some (.int 109), some (.int (nI kd))]) (st1 := [.int 0, .int (nI mi), .ref 139]) (M1 := (mk_M c n m kk (rT (he, ke, ki, fi, fa, or, mi, a, g, l, w, s) xm xi xw im le nu rf ln nn vp [(nI kd), (nI (kg le (p + 2) - 48))] xc vs))) (fun f => rfl) ?_
  refine mr_call (y := 141) (y0 := 192) (L := [some (.int (nI mi)), some (.int 0)]) (rest := [.ref 139]) (rr := some (.int (nI (32 + 3 * mi + 0)))) (M1 := (mk_M c n m kk (rT (he, ke, ki, fi, fa, or, mi, a, g, l, w, s) xm xi xw im le nu rf ln nn vp [(nI kd), (nI (kg le (p + 2) - 48))] xc vs))) (fun f => rfl) (rc_of mi 0 (by omega) (by decide) _) ?_
  refine mr_seg 1 (pc1 := 193) (ls1 := [some (.ref 138), some (.int 109), some (.int (nI kd))]) (st1 := [.int (nI kd), .int (nI (32 + 3 * mi + 0)), .ref 139]) (M1 := (mk_M c n m kk (rT (he, ke, ki, fi, fa, or, mi, a, g, l, w, s) xm xi xw im le nu rf ln nn vp [(nI kd), (nI (kg le (p + 2) - 48))] xc vs))) (fun f => rfl) ?_
  refine mr_stn (xs := (er (he, ke, ki, fi, fa, or, mi, a, g, l, w, s))) (ys := (er (he, ke, ki.set mi kd, fi, fa, or, mi, a, g, l, w, s))) (M2 := (mk_MR c n m kk (er (he, ke, ki.set mi kd, fi, fa, or, mi, a, g, l, w, s)) xm xi xw (nI im) (le.map nI) (nu.map nI) (rf.map nI) (nI ln) (nI nn) vp [(nI kd), (nI (kg le (p + 2) - 48))] xc vs)) rfl rfl (k := 32 + 3 * mi + 0) (by omega) (by rw [er_leq (K := (he, ke, ki, fi, fa, or, mi, a, g, l, w, s)) v1 v6l]; omega) (er_kis (K := (he, ke, ki, fi, fa, or, mi, a, g, l, w, s)) v1 v3 (by omega)) rfl ?_
  refine mr_M (mk_MRk c n m kk (he, ke, ki.set mi kd, fi, fa, or, mi, a, g, l, w, s) xm xi xw im le nu rf ln nn vp [(nI kd), (nI (kg le (p + 2) - 48))] xc vs) ?_
  refine mr_seg 5 (pc1 := 203) (ls1 := [some (.ref 138), some (.int 109), some (.int (nI kd))]) (st1 := [.int 0, .ref 139, .ref 139]) (M1 := (mk_M c n m kk (rT (he, ke, ki.set mi kd, fi, fa, or, mi, a, g, l, w, s) xm xi xw im le nu rf ln nn vp [(nI kd), (nI (kg le (p + 2) - 48))] xc vs))) (fun f => rfl) ?_
  refine mr_ldn (xs := (er (he, ke, ki.set mi kd, fi, fa, or, mi, a, g, l, w, s))) rfl rfl (k := 0) (by decide) rfl ?_
  refine mr_seg 1 (pc1 := 205) (ls1 := [some (.ref 138), some (.int 109), some (.int (nI kd))]) (st1 := [.int 1, .int (nI mi), .ref 139]) (M1 := (mk_M c n m kk (rT (he, ke, ki.set mi kd, fi, fa, or, mi, a, g, l, w, s) xm xi xw im le nu rf ln nn vp [(nI kd), (nI (kg le (p + 2) - 48))] xc vs))) (fun f => rfl) ?_
  refine mr_call (y := 141) (y0 := 208) (L := [some (.int (nI mi)), some (.int 1)]) (rest := [.ref 139]) (rr := some (.int (nI (32 + 3 * mi + 1)))) (M1 := (mk_M c n m kk (rT (he, ke, ki.set mi kd, fi, fa, or, mi, a, g, l, w, s) xm xi xw im le nu rf ln nn vp [(nI kd), (nI (kg le (p + 2) - 48))] xc vs))) (fun f => rfl) (rc_of mi 1 (by omega) (by decide) _) ?_
  refine mr_seg 3 (pc1 := 213) (ls1 := [some (.ref 138), some (.int 109), some (.int (nI kd))]) (st1 := [.int 1, .ref 146, .int (nI (32 + 3 * mi + 1)), .ref 139]) (M1 := (mk_M c n m kk (rT (he, ke, ki.set mi kd, fi, fa, or, mi, a, g, l, w, s) xm xi xw im le nu rf ln nn vp [(nI kd), (nI (kg le (p + 2) - 48))] xc vs))) (fun f => rfl) ?_
  refine mr_ldn (xs := [(nI kd), (nI (kg le (p + 2) - 48))]) rfl rfl (k := 1) (by decide) rfl ?_
  refine mr_stn (xs := (er (he, ke, ki.set mi kd, fi, fa, or, mi, a, g, l, w, s))) (ys := (er (he, ke, ki.set mi kd, fi.set mi (kg le (p + 2) - 48), fa, or, mi, a, g, l, w, s))) (M2 := (mk_MR c n m kk (er (he, ke, ki.set mi kd, fi.set mi (kg le (p + 2) - 48), fa, or, mi, a, g, l, w, s)) xm xi xw (nI im) (le.map nI) (nu.map nI) (rf.map nI) (nI ln) (nI nn) vp [(nI kd), (nI (kg le (p + 2) - 48))] xc vs)) rfl rfl (k := 32 + 3 * mi + 1) (by omega) (by rw [er_leq (K := (he, ke, ki.set mi kd, fi, fa, or, mi, a, g, l, w, s)) v1 v6l]; omega) (er_fis (K := (he, ke, ki.set mi kd, fi, fa, or, mi, a, g, l, w, s)) v1 v4 (by omega)) rfl ?_
  refine mr_M (mk_MRk c n m kk (he, ke, ki.set mi kd, fi.set mi (kg le (p + 2) - 48), fa, or, mi, a, g, l, w, s) xm xi xw im le nu rf ln nn vp [(nI kd), (nI (kg le (p + 2) - 48))] xc vs) ?_
  refine mr_seg 5 (pc1 := 224) (ls1 := [some (.ref 138), some (.int 109), some (.int (nI kd))]) (st1 := [.int 0, .ref 139, .ref 139]) (M1 := (mk_M c n m kk (rT (he, ke, ki.set mi kd, fi.set mi (kg le (p + 2) - 48), fa, or, mi, a, g, l, w, s) xm xi xw im le nu rf ln nn vp [(nI kd), (nI (kg le (p + 2) - 48))] xc vs))) (fun f => rfl) ?_
  refine mr_ldn (xs := (er (he, ke, ki.set mi kd, fi.set mi (kg le (p + 2) - 48), fa, or, mi, a, g, l, w, s))) rfl rfl (k := 0) (by decide) rfl ?_
  refine mr_seg 1 (pc1 := 226) (ls1 := [some (.ref 138), some (.int 109), some (.int (nI kd))]) (st1 := [.int 2, .int (nI mi), .ref 139]) (M1 := (mk_M c n m kk (rT (he, ke, ki.set mi kd, fi.set mi (kg le (p + 2) - 48), fa, or, mi, a, g, l, w, s) xm xi xw im le nu rf ln nn vp [(nI kd), (nI (kg le (p + 2) - 48))] xc vs))) (fun f => rfl) ?_
  refine mr_call (y := 141) (y0 := 229) (L := [some (.int (nI mi)), some (.int 2)]) (rest := [.ref 139]) (rr := some (.int (nI (32 + 3 * mi + 2)))) (M1 := (mk_M c n m kk (rT (he, ke, ki.set mi kd, fi.set mi (kg le (p + 2) - 48), fa, or, mi, a, g, l, w, s) xm xi xw im le nu rf ln nn vp [(nI kd), (nI (kg le (p + 2) - 48))] xc vs))) (fun f => rfl) (rc_of mi 2 (by omega) (by decide) _) ?_
  refine mr_seg 1 (pc1 := 230) (ls1 := [some (.ref 138), some (.int 109), some (.int (nI kd))]) (st1 := [.int 0, .int (nI (32 + 3 * mi + 2)), .ref 139]) (M1 := (mk_M c n m kk (rT (he, ke, ki.set mi kd, fi.set mi (kg le (p + 2) - 48), fa, or, mi, a, g, l, w, s) xm xi xw im le nu rf ln nn vp [(nI kd), (nI (kg le (p + 2) - 48))] xc vs))) (fun f => rfl) ?_
  refine mr_stn (xs := (er (he, ke, ki.set mi kd, fi.set mi (kg le (p + 2) - 48), fa, or, mi, a, g, l, w, s))) (ys := (er (he, ke, ki.set mi kd, fi.set mi (kg le (p + 2) - 48), fa.set mi 0, or, mi, a, g, l, w, s))) (M2 := (mk_MR c n m kk (er (he, ke, ki.set mi kd, fi.set mi (kg le (p + 2) - 48), fa.set mi 0, or, mi, a, g, l, w, s)) xm xi xw (nI im) (le.map nI) (nu.map nI) (rf.map nI) (nI ln) (nI nn) vp [(nI kd), (nI (kg le (p + 2) - 48))] xc vs)) rfl rfl (k := 32 + 3 * mi + 2) (by omega) (by rw [er_leq (K := (he, ke, ki.set mi kd, fi.set mi (kg le (p + 2) - 48), fa, or, mi, a, g, l, w, s)) v1 v6l]; omega) (er_fas (K := (he, ke, ki.set mi kd, fi.set mi (kg le (p + 2) - 48), fa, or, mi, a, g, l, w, s)) v1 v5 (by omega)) rfl ?_
  refine mr_M (mk_MRk c n m kk (he, ke, ki.set mi kd, fi.set mi (kg le (p + 2) - 48), fa.set mi 0, or, mi, a, g, l, w, s) xm xi xw im le nu rf ln nn vp [(nI kd), (nI (kg le (p + 2) - 48))] xc vs) ?_
  refine mr_seg 6 (pc1 := 242) (ls1 := [some (.ref 138), some (.int 109), some (.int (nI kd))]) (st1 := [.int 0, .ref 139, .int 47, .ref 139]) (M1 := (mk_M c n m kk (rT (he, ke, ki.set mi kd, fi.set mi (kg le (p + 2) - 48), fa.set mi 0, or, mi, a, g, l, w, s) xm xi xw im le nu rf ln nn vp [(nI kd), (nI (kg le (p + 2) - 48))] xc vs))) (fun f => rfl) ?_
  refine mr_ldn (xs := (er (he, ke, ki.set mi kd, fi.set mi (kg le (p + 2) - 48), fa.set mi 0, or, mi, a, g, l, w, s))) rfl rfl (k := 0) (by decide) rfl ?_
  refine mr_seg 1 (pc1 := 244) (ls1 := [some (.ref 138), some (.int 109), some (.int (nI kd))]) (st1 := [.int ((47 : Int32) + (nI mi)), .ref 139]) (M1 := (mk_M c n m kk (rT (he, ke, ki.set mi kd, fi.set mi (kg le (p + 2) - 48), fa.set mi 0, or, mi, a, g, l, w, s) xm xi xw im le nu rf ln nn vp [(nI kd), (nI (kg le (p + 2) - 48))] xc vs))) (fun f => rfl) ?_
  refine mr_v (nI_add 47 mi) ?_
  refine mr_seg 3 (pc1 := 249) (ls1 := [some (.ref 138), some (.int 109), some (.int (nI kd))]) (st1 := [.int 0, .ref 139, .int (nI (47 + mi)), .ref 139]) (M1 := (mk_M c n m kk (rT (he, ke, ki.set mi kd, fi.set mi (kg le (p + 2) - 48), fa.set mi 0, or, mi, a, g, l, w, s) xm xi xw im le nu rf ln nn vp [(nI kd), (nI (kg le (p + 2) - 48))] xc vs))) (fun f => rfl) ?_
  refine mr_ldn (xs := (er (he, ke, ki.set mi kd, fi.set mi (kg le (p + 2) - 48), fa.set mi 0, or, mi, a, g, l, w, s))) rfl rfl (k := 0) (by decide) rfl ?_
  refine mr_stn (xs := (er (he, ke, ki.set mi kd, fi.set mi (kg le (p + 2) - 48), fa.set mi 0, or, mi, a, g, l, w, s))) (ys := (er (he, ke, ki.set mi kd, fi.set mi (kg le (p + 2) - 48), fa.set mi 0, or.set mi mi, mi, a, g, l, w, s))) (M2 := (mk_MR c n m kk (er (he, ke, ki.set mi kd, fi.set mi (kg le (p + 2) - 48), fa.set mi 0, or.set mi mi, mi, a, g, l, w, s)) xm xi xw (nI im) (le.map nI) (nu.map nI) (rf.map nI) (nI ln) (nI nn) vp [(nI kd), (nI (kg le (p + 2) - 48))] xc vs)) rfl rfl (k := 47 + mi) (by omega) (by rw [er_leq (K := (he, ke, ki.set mi kd, fi.set mi (kg le (p + 2) - 48), fa.set mi 0, or, mi, a, g, l, w, s)) v1 v6l]; omega) (er_ors (K := (he, ke, ki.set mi kd, fi.set mi (kg le (p + 2) - 48), fa.set mi 0, or, mi, a, g, l, w, s)) v1 (j := mi)) rfl ?_
  refine mr_M (mk_MRk c n m kk (he, ke, ki.set mi kd, fi.set mi (kg le (p + 2) - 48), fa.set mi 0, or.set mi mi, mi, a, g, l, w, s) xm xi xw im le nu rf ln nn vp [(nI kd), (nI (kg le (p + 2) - 48))] xc vs) ?_
  refine mr_seg 4 (pc1 := 257) (ls1 := [some (.ref 138), some (.int 109), some (.int (nI kd))]) (st1 := [.int 0, .ref 139, .int 0, .ref 139]) (M1 := (mk_M c n m kk (rT (he, ke, ki.set mi kd, fi.set mi (kg le (p + 2) - 48), fa.set mi 0, or.set mi mi, mi, a, g, l, w, s) xm xi xw im le nu rf ln nn vp [(nI kd), (nI (kg le (p + 2) - 48))] xc vs))) (fun f => rfl) ?_
  refine mr_ldn (xs := (er (he, ke, ki.set mi kd, fi.set mi (kg le (p + 2) - 48), fa.set mi 0, or.set mi mi, mi, a, g, l, w, s))) rfl rfl (k := 0) (by decide) rfl ?_
  refine mr_seg 2 (pc1 := 260) (ls1 := [some (.ref 138), some (.int 109), some (.int (nI kd))]) (st1 := [.int ((nI mi) + (1 : Int32)), .int 0, .ref 139]) (M1 := (mk_M c n m kk (rT (he, ke, ki.set mi kd, fi.set mi (kg le (p + 2) - 48), fa.set mi 0, or.set mi mi, mi, a, g, l, w, s) xm xi xw im le nu rf ln nn vp [(nI kd), (nI (kg le (p + 2) - 48))] xc vs))) (fun f => rfl) ?_
  refine mr_v (nI_add mi 1) ?_
  refine mr_stn (xs := (er (he, ke, ki.set mi kd, fi.set mi (kg le (p + 2) - 48), fa.set mi 0, or.set mi mi, mi, a, g, l, w, s))) (ys := (er (he, ke, ki.set mi kd, fi.set mi (kg le (p + 2) - 48), fa.set mi 0, or.set mi mi, mi + 1, a, g, l, w, s))) (M2 := (mk_MR c n m kk (er (he, ke, ki.set mi kd, fi.set mi (kg le (p + 2) - 48), fa.set mi 0, or.set mi mi, mi + 1, a, g, l, w, s)) xm xi xw (nI im) (le.map nI) (nu.map nI) (rf.map nI) (nI ln) (nI nn) vp [(nI kd), (nI (kg le (p + 2) - 48))] xc vs)) rfl rfl (k := 0) (by decide) (by rw [er_leq (K := (he, ke, ki.set mi kd, fi.set mi (kg le (p + 2) - 48), fa.set mi 0, or.set mi mi, mi, a, g, l, w, s)) v1 (show (or.set mi mi).length = 5 by rw [List.length_set]; exact v6l)]; decide) (er_s0 (v := mi + 1)) rfl ?_
  refine mr_M (mk_MRk c n m kk (he, ke, ki.set mi kd, fi.set mi (kg le (p + 2) - 48), fa.set mi 0, or.set mi mi, mi + 1, a, g, l, w, s) xm xi xw im le nu rf ln nn vp [(nI kd), (nI (kg le (p + 2) - 48))] xc vs) ?_
  exact mr_ret 2 (fun f => rfl)
set_option maxRecDepth 100000 in
theorem id_109_1 (he ke ki fi fa or : List Nat) (mi a g l w s : Nat) (xm xi xw : List Int32) (im : Nat) (le nu rf : List Nat) (ln nn : Nat) (xc : List Int32) (vs : Int32) (vp : Int32) (c : cC) (n m kk : kG) (p : Nat) (hB : iB le ln) (hk : kmis le ln p = none) (hA : iA (he, ke, ki, fi, fa, or, mi, a, g, l, w, s)) (hq : (5 ≤ mi)) (kd : Nat) : mm_R 139 0 [some (.ref 138), some (.int 109), none] [] (mk_M c n m kk (rT (he, ke, ki, fi, fa, or, mi, a, g, l, w, s) xm xi xw im le nu rf ln nn vp [(nI kd), (nI (kg le (p + 2) - 48))] xc vs)) (some (.int 0), (mk_M c n m kk (rT (he, ke, ki, fi, fa, or, mi, a, g, l, w, s) xm xi xw im le nu rf ln nn vp [(nI kd), (nI (kg le (p + 2) - 48))] xc vs))) := by
  obtain ⟨b1, b2, b3⟩ := id hB
  obtain ⟨hV, hst⟩ := id hA
  have hst2 : s ≤ 999 := hst
  obtain ⟨v1, v2, v3, v4, v5, v6, v7, v8, v9, v10, v11, v12, v13, v14, v15, v16⟩ := id hV
  have v6l := kO_len mi v7 or v6
  obtain ⟨f1, f2, f3⟩ := kst_f hk
  have e0 := b2 p
  have e1 := b2 (p + 1)
  have e2 := b2 (p + 2)
  have ekn := knum_lt e1 e2
  refine mr_seg 3 (pc1 := 5) (ls1 := [some (.ref 138), some (.int 109), none]) (st1 := [.int 0, .ref 146]) (M1 := (mk_M c n m kk (rT (he, ke, ki, fi, fa, or, mi, a, g, l, w, s) xm xi xw im le nu rf ln nn vp [(nI kd), (nI (kg le (p + 2) - 48))] xc vs))) (fun f => rfl) ?_
  refine mr_ldn (xs := [(nI kd), (nI (kg le (p + 2) - 48))]) rfl rfl (k := 0) (by decide) rfl ?_
  refine mr_seg 6 (pc1 := 171) (ls1 := [some (.ref 138), some (.int 109), some (.int (nI kd))]) (st1 := [.int 0, .ref 139]) (M1 := (mk_M c n m kk (rT (he, ke, ki, fi, fa, or, mi, a, g, l, w, s) xm xi xw im le nu rf ln nn vp [(nI kd), (nI (kg le (p + 2) - 48))] xc vs))) (fun f => rfl) ?_
  refine mr_ldn (xs := (er (he, ke, ki, fi, fa, or, mi, a, g, l, w, s))) rfl rfl (k := 0) (by decide) rfl ?_
  refine mr_seg 1 (pc1 := 173) (ls1 := [some (.ref 138), some (.int 109), some (.int (nI kd))]) (st1 := [.int 5, .int (nI mi)]) (M1 := (mk_M c n m kk (rT (he, ke, ki, fi, fa, or, mi, a, g, l, w, s) xm xi xw im le nu rf ln nn vp [(nI kd), (nI (kg le (p + 2) - 48))] xc vs))) (fun f => rfl) ?_
  refine mr_t (C := (nI mi) = 5) (nI_eqt (a := mi) (b := 5) (by omega)) (fun f => rfl) ?_
  exact mr_ret 2 (fun f => rfl)
set_option maxRecDepth 100000 in
theorem id_120_0 (he ke ki fi fa or : List Nat) (mi a g l w s : Nat) (xm xi xw : List Int32) (im : Nat) (le nu rf : List Nat) (ln nn : Nat) (xc : List Int32) (vs : Int32) (vp : Int32) (c : cC) (n m kk : kG) (p : Nat) (hB : iB le ln) (hk : kmis le ln p = none) (hA : iA (he, ke, ki, fi, fa, or, mi, a, g, l, w, s)) (hq : ¬ (mi ≤ kg le (p + 1) - 48)) (y : Int32) : mm_R 139 0 [some (.ref 138), some (.int 120), none] [] (mk_M c n m kk (rT (he, ke, ki, fi, fa, or, mi, a, g, l, w, s) xm xi xw im le nu rf ln nn vp [(nI (kg le (p + 1) - 48)), y] xc vs)) (some (.int 1), (mk_M c n m kk (rT (he, ke, ki, fi, fa, klast or mi (kg le (p + 1) - 48), mi, a, g, l, w, s) xm xi xw im le nu rf ln nn vp [(nI (kg le (p + 1) - 48)), y] xc vs))) := by
  obtain ⟨b1, b2, b3⟩ := id hB
  obtain ⟨hV, hst⟩ := id hA
  have hst2 : s ≤ 999 := hst
  obtain ⟨v1, v2, v3, v4, v5, v6, v7, v8, v9, v10, v11, v12, v13, v14, v15, v16⟩ := id hV
  have v6l := kO_len mi v7 or v6
  obtain ⟨f1, f2, f3⟩ := kst_f hk
  have e0 := b2 p
  have e1 := b2 (p + 1)
  have e2 := b2 (p + 2)
  have ekn := knum_lt e1 e2
  refine mr_seg 3 (pc1 := 5) (ls1 := [some (.ref 138), some (.int 120), none]) (st1 := [.int 0, .ref 146]) (M1 := (mk_M c n m kk (rT (he, ke, ki, fi, fa, or, mi, a, g, l, w, s) xm xi xw im le nu rf ln nn vp [(nI (kg le (p + 1) - 48)), y] xc vs))) (fun f => rfl) ?_
  refine mr_ldn (xs := [(nI (kg le (p + 1) - 48)), y]) rfl rfl (k := 0) (by decide) rfl ?_
  refine mr_seg 5 (pc1 := 312) (ls1 := [some (.ref 138), some (.int 120), some (.int (nI (kg le (p + 1) - 48)))]) (st1 := [.int (nI (kg le (p + 1) - 48)), .ref 138]) (M1 := (mk_M c n m kk (rT (he, ke, ki, fi, fa, or, mi, a, g, l, w, s) xm xi xw im le nu rf ln nn vp [(nI (kg le (p + 1) - 48)), y] xc vs))) (fun f => rfl) ?_
  refine mr_call (y := 142) (y0 := 315) (L := [some (.ref 138), some (.int (nI (kg le (p + 1) - 48)))]) (rest := []) (rr := some (.int 1)) (M1 := (mk_M c n m kk (rT (he, ke, ki, fi, fa, or, mi, a, g, l, w, s) xm xi xw im le nu rf ln nn vp [(nI (kg le (p + 1) - 48)), y] xc vs))) (fun f => rfl) (ms_m2_ok (x := (nI (kg le (p + 1) - 48))) (b := (nI (mi - 1))) (pk_sub (a := mi) (b := 1) (by omega)) (nI_ltf (a := kg le (p + 1) - 48) (b := 0) (by omega)) (nI_ltf (a := mi - 1) (b := kg le (p + 1) - 48) (by omega))) ?_
  refine mr_seg 4 (pc1 := 325) (ls1 := [some (.ref 138), some (.int 120), some (.int (nI (kg le (p + 1) - 48)))]) (st1 := [.int (nI (kg le (p + 1) - 48)), .ref 139]) (M1 := (mk_M c n m kk (rT (he, ke, ki, fi, fa, or, mi, a, g, l, w, s) xm xi xw im le nu rf ln nn vp [(nI (kg le (p + 1) - 48)), y] xc vs))) (fun f => rfl) ?_
  refine mr_call (y := 143) (y0 := 328) (L := [some (.ref 139), some (.int (nI (kg le (p + 1) - 48))), none]) (rest := []) (rr := none) (M1 := (mk_M c n m kk (rT (he, ke, ki, fi, fa, klast or mi (kg le (p + 1) - 48), mi, a, g, l, w, s) xm xi xw im le nu rf ln nn vp [(nI (kg le (p + 1) - 48)), y] xc vs))) (fun f => rfl) (rl_s c n m kk (rT (he, ke, ki, fi, fa, or, mi, a, g, l, w, s) xm xi xw im le nu rf ln nn vp [(nI (kg le (p + 1) - 48)), y] xc vs) (rc_last_s he ke ki fi fa or mi a g l w s (kg le (p + 1) - 48) v1 (by omega) v6 v7) rfl) ?_
  exact mr_ret 2 (fun f => rfl)
set_option maxRecDepth 100000 in
theorem id_120_1 (he ke ki fi fa or : List Nat) (mi a g l w s : Nat) (xm xi xw : List Int32) (im : Nat) (le nu rf : List Nat) (ln nn : Nat) (xc : List Int32) (vs : Int32) (vp : Int32) (c : cC) (n m kk : kG) (p : Nat) (hB : iB le ln) (hk : kmis le ln p = none) (hA : iA (he, ke, ki, fi, fa, or, mi, a, g, l, w, s)) (hq : (mi ≤ kg le (p + 1) - 48)) (y : Int32) : mm_R 139 0 [some (.ref 138), some (.int 120), none] [] (mk_M c n m kk (rT (he, ke, ki, fi, fa, or, mi, a, g, l, w, s) xm xi xw im le nu rf ln nn vp [(nI (kg le (p + 1) - 48)), y] xc vs)) (some (.int 0), (mk_M c n m kk (rT (he, ke, ki, fi, fa, or, mi, a, g, l, w, s) xm xi xw im le nu rf ln nn vp [(nI (kg le (p + 1) - 48)), y] xc vs))) := by
  obtain ⟨b1, b2, b3⟩ := id hB
  obtain ⟨hV, hst⟩ := id hA
  have hst2 : s ≤ 999 := hst
  obtain ⟨v1, v2, v3, v4, v5, v6, v7, v8, v9, v10, v11, v12, v13, v14, v15, v16⟩ := id hV
  have v6l := kO_len mi v7 or v6
  obtain ⟨f1, f2, f3⟩ := kst_f hk
  have e0 := b2 p
  have e1 := b2 (p + 1)
  have e2 := b2 (p + 2)
  have ekn := knum_lt e1 e2
  refine mr_seg 3 (pc1 := 5) (ls1 := [some (.ref 138), some (.int 120), none]) (st1 := [.int 0, .ref 146]) (M1 := (mk_M c n m kk (rT (he, ke, ki, fi, fa, or, mi, a, g, l, w, s) xm xi xw im le nu rf ln nn vp [(nI (kg le (p + 1) - 48)), y] xc vs))) (fun f => rfl) ?_
  refine mr_ldn (xs := [(nI (kg le (p + 1) - 48)), y]) rfl rfl (k := 0) (by decide) rfl ?_
  refine mr_seg 5 (pc1 := 312) (ls1 := [some (.ref 138), some (.int 120), some (.int (nI (kg le (p + 1) - 48)))]) (st1 := [.int (nI (kg le (p + 1) - 48)), .ref 138]) (M1 := (mk_M c n m kk (rT (he, ke, ki, fi, fa, or, mi, a, g, l, w, s) xm xi xw im le nu rf ln nn vp [(nI (kg le (p + 1) - 48)), y] xc vs))) (fun f => rfl) ?_
  refine mr_call (y := 142) (y0 := 315) (L := [some (.ref 138), some (.int (nI (kg le (p + 1) - 48)))]) (rest := []) (rr := some (.int 0)) (M1 := (mk_M c n m kk (rT (he, ke, ki, fi, fa, or, mi, a, g, l, w, s) xm xi xw im le nu rf ln nn vp [(nI (kg le (p + 1) - 48)), y] xc vs))) (fun f => rfl) (ms_m2_hi (x := (nI (kg le (p + 1) - 48))) (b := (nI mi) - 1) rfl (nI_ltf (a := kg le (p + 1) - 48) (b := 0) (by omega)) (k_gem v7 ((nI_leI (by omega) (by omega)).mpr hq))) ?_
  exact mr_ret 3 (fun f => rfl)
theorem kd_idO (K : kK) (xm xi xw : List Int32) (im : Nat) (le nu rf : List Nat) (ln nn : Nat) (xc : List Int32) (vs : Int32) (vp : Int32) (c : cC) (n m kk : kG) (p : Nat) (y : Int32) (hB : iB le ln) (hk : kmis le ln p = none) (hA : iA K) (hy : kg le p = 99 ∨ kg le p = 109 → y = nI (kn1 le p)) (hw : kwr le p (k_mi K) (k_st K) = false) : mm_E 139 0 [some (.ref 138), some (.int (nI (kg le p))), none] [] (mk_M c n m kk (rT K xm xi xw im le nu rf ln nn vp [nI (kn0 le p), y] xc vs)) (fun r M1 => r = some (.int 1) ∧ M1 = mk_M c n m kk (rT (kapp le p K) xm xi xw im le nu rf ln nn vp [nI (kn0 le p), y] xc vs)) := by
  obtain ⟨he, ke, ki, fi, fa, or, mi, a, g, l, w, s⟩ := K
  have hw2 : kwr le p mi s = false := hw
  have v1 : he.length = 25 := hA.1.1
  have v6l : or.length = 5 := kV_orl hA.1
  rcases kmis_l hk with hc | hc | hc | hc | hc | hc | hc | hc
  · rw [kwr_99 hc] at hw2
    have hq : ¬ (25 ≤ knum le p) := of_decide_eq_false hw2
    have k0 : kn0 le p = knum le p := by unfold kn0; rw [if_neg (by omega), if_neg (by omega)]
    have y0 : y = nI (kg le (p + 3) - 48) := by rw [hy (by omega)]; unfold kn1; rw [if_pos hc]
    subst y0
    rw [k0]
    refine me_l (fun q_ => [some (.ref 138), some (.int q_), none]) (show nI (kg le p) = 99 by rw [hc]; rfl) ?_
    exact me_of (id_99_0 he ke ki fi fa or mi a g l w s xm xi xw im le nu rf ln nn xc vs vp c n m kk p hB hk hA hq) ⟨rfl, by rw [kapp_99 hc]⟩
  · rw [kwr_107 hc] at hw2
    have hq : ¬ (25 ≤ knum le p) := of_decide_eq_false hw2
    have k0 : kn0 le p = knum le p := by unfold kn0; rw [if_neg (by omega), if_neg (by omega)]
    rw [k0]
    refine me_l (fun q_ => [some (.ref 138), some (.int q_), none]) (show nI (kg le p) = 107 by rw [hc]; rfl) ?_
    exact me_of (id_107_0 he ke ki fi fa or mi a g l w s xm xi xw im le nu rf ln nn xc vs vp c n m kk p hB hk hA hq y) ⟨rfl, by rw [kapp_107 hc]⟩
  · rw [kwr_98 hc] at hw2
    have hq : ¬ (25 ≤ knum le p) := of_decide_eq_false hw2
    have k0 : kn0 le p = knum le p := by unfold kn0; rw [if_neg (by omega), if_neg (by omega)]
    rw [k0]
    refine me_l (fun q_ => [some (.ref 138), some (.int q_), none]) (show nI (kg le p) = 98 by rw [hc]; rfl) ?_
    exact me_of (id_98_0 he ke ki fi fa or mi a g l w s xm xi xw im le nu rf ln nn xc vs vp c n m kk p hB hk hA hq y) ⟨rfl, by rw [kapp_98 hc]⟩
  · rw [kwr_103 hc] at hw2
    have hq : ¬ (25 ≤ knum le p) := of_decide_eq_false hw2
    have k0 : kn0 le p = knum le p := by unfold kn0; rw [if_neg (by omega), if_neg (by omega)]
    rw [k0]
    refine me_l (fun q_ => [some (.ref 138), some (.int q_), none]) (show nI (kg le p) = 103 by rw [hc]; rfl) ?_
    exact me_of (id_103_0 he ke ki fi fa or mi a g l w s xm xi xw im le nu rf ln nn xc vs vp c n m kk p hB hk hA hq y) ⟨rfl, by rw [kapp_103 hc]⟩
  · rw [kwr_119 hc] at hw2
    have hq : ¬ (20 < knum le p) := of_decide_eq_false hw2
    have k0 : kn0 le p = knum le p := by unfold kn0; rw [if_neg (by omega), if_neg (by omega)]
    rw [k0]
    refine me_l (fun q_ => [some (.ref 138), some (.int q_), none]) (show nI (kg le p) = 119 by rw [hc]; rfl) ?_
    exact me_of (id_119_0 he ke ki fi fa or mi a g l w s xm xi xw im le nu rf ln nn xc vs vp c n m kk p hB hk hA hq y) ⟨rfl, by rw [kapp_119 hc]⟩
  · rw [kwr_115 hc] at hw2
    have hq : ¬ (knum le p < 1 ∨ 60 < knum le p ∨ 999 < s + knum le p) := of_decide_eq_false hw2
    have k0 : kn0 le p = knum le p := by unfold kn0; rw [if_neg (by omega), if_neg (by omega)]
    rw [k0]
    refine me_l (fun q_ => [some (.ref 138), some (.int q_), none]) (show nI (kg le p) = 115 by rw [hc]; rfl) ?_
    exact me_of (id_115_0 he ke ki fi fa or mi a g l w s xm xi xw im le nu rf ln nn xc vs vp c n m kk p hB hk hA hq y) ⟨rfl, by rw [kapp_115 hc]⟩
  · rw [kwr_109 hc] at hw2
    have hq : ¬ (5 ≤ mi) := of_decide_eq_false hw2
    obtain ⟨o1, ⟨kd, hkd⟩, o3⟩ := kok_2 hk (by rw [hc]; rfl)
    have k0 : kn0 le p = kd := by unfold kn0; rw [if_pos hc, hkd]; rfl
    have y0 : y = nI (kg le (p + 2) - 48) := by rw [hy (by omega)]; unfold kn1; rw [if_neg (by omega)]
    subst y0
    rw [k0]
    refine me_l (fun q_ => [some (.ref 138), some (.int q_), none]) (show nI (kg le p) = 109 by rw [hc]; rfl) ?_
    exact me_of (id_109_0 he ke ki fi fa or mi a g l w s xm xi xw im le nu rf ln nn xc vs vp c n m kk p hB hk hA hq kd) ⟨rfl, by rw [kapp_109 hc, hkd]; rfl⟩
  · rw [kwr_120 hc] at hw2
    have hq : ¬ (mi ≤ kg le (p + 1) - 48) := of_decide_eq_false hw2
    have k0 : kn0 le p = kg le (p + 1) - 48 := by unfold kn0; rw [if_neg (by omega), if_pos hc]
    rw [k0]
    refine me_l (fun q_ => [some (.ref 138), some (.int q_), none]) (show nI (kg le p) = 120 by rw [hc]; rfl) ?_
    exact me_of (id_120_0 he ke ki fi fa or mi a g l w s xm xi xw im le nu rf ln nn xc vs vp c n m kk p hB hk hA hq y) ⟨rfl, by rw [kapp_120 hc]⟩
theorem kd_idB (K : kK) (xm xi xw : List Int32) (im : Nat) (le nu rf : List Nat) (ln nn : Nat) (xc : List Int32) (vs : Int32) (vp : Int32) (c : cC) (n m kk : kG) (p : Nat) (y : Int32) (hB : iB le ln) (hk : kmis le ln p = none) (hA : iA K) (hy : kg le p = 99 ∨ kg le p = 109 → y = nI (kn1 le p)) (hw : kwr le p (k_mi K) (k_st K) = true) : mm_E 139 0 [some (.ref 138), some (.int (nI (kg le p))), none] [] (mk_M c n m kk (rT K xm xi xw im le nu rf ln nn vp [nI (kn0 le p), y] xc vs)) (fun r M1 => r = some (.int 0) ∧ ∃ K2 : kK, (er K2).length = 52 ∧ M1 = mk_M c n m kk (rT K2 xm xi xw im le nu rf ln nn vp [nI (kn0 le p), y] xc vs)) := by
  obtain ⟨he, ke, ki, fi, fa, or, mi, a, g, l, w, s⟩ := K
  have hw2 : kwr le p mi s = true := hw
  have v1 : he.length = 25 := hA.1.1
  have v6l : or.length = 5 := kV_orl hA.1
  rcases kmis_l hk with hc | hc | hc | hc | hc | hc | hc | hc
  · rw [kwr_99 hc] at hw2
    have hq : (25 ≤ knum le p) := of_decide_eq_true hw2
    have k0 : kn0 le p = knum le p := by unfold kn0; rw [if_neg (by omega), if_neg (by omega)]
    have y0 : y = nI (kg le (p + 3) - 48) := by rw [hy (by omega)]; unfold kn1; rw [if_pos hc]
    subst y0
    rw [k0]
    refine me_l (fun q_ => [some (.ref 138), some (.int q_), none]) (show nI (kg le p) = 99 by rw [hc]; rfl) ?_
    exact me_of (id_99_1 he ke ki fi fa or mi a g l w s xm xi xw im le nu rf ln nn xc vs vp c n m kk p hB hk hA hq) ⟨rfl, (he, ke, ki, fi, fa, or, mi, a, g, l, w, s), er_leq v1 v6l, rfl⟩
  · rw [kwr_107 hc] at hw2
    have hq : (25 ≤ knum le p) := of_decide_eq_true hw2
    have k0 : kn0 le p = knum le p := by unfold kn0; rw [if_neg (by omega), if_neg (by omega)]
    rw [k0]
    refine me_l (fun q_ => [some (.ref 138), some (.int q_), none]) (show nI (kg le p) = 107 by rw [hc]; rfl) ?_
    exact me_of (id_107_1 he ke ki fi fa or mi a g l w s xm xi xw im le nu rf ln nn xc vs vp c n m kk p hB hk hA hq y) ⟨rfl, (he, ke, ki, fi, fa, or, mi, a, g, l, w, s), er_leq v1 v6l, rfl⟩
  · rw [kwr_98 hc] at hw2
    have hq : (25 ≤ knum le p) := of_decide_eq_true hw2
    have k0 : kn0 le p = knum le p := by unfold kn0; rw [if_neg (by omega), if_neg (by omega)]
    rw [k0]
    refine me_l (fun q_ => [some (.ref 138), some (.int q_), none]) (show nI (kg le p) = 98 by rw [hc]; rfl) ?_
    exact me_of (id_98_1 he ke ki fi fa or mi a g l w s xm xi xw im le nu rf ln nn xc vs vp c n m kk p hB hk hA hq y) ⟨rfl, (he, ke, ki, fi, fa, or, mi, a, g, l, w, s), er_leq v1 v6l, rfl⟩
  · rw [kwr_103 hc] at hw2
    have hq : (25 ≤ knum le p) := of_decide_eq_true hw2
    have k0 : kn0 le p = knum le p := by unfold kn0; rw [if_neg (by omega), if_neg (by omega)]
    rw [k0]
    refine me_l (fun q_ => [some (.ref 138), some (.int q_), none]) (show nI (kg le p) = 103 by rw [hc]; rfl) ?_
    exact me_of (id_103_1 he ke ki fi fa or mi a g l w s xm xi xw im le nu rf ln nn xc vs vp c n m kk p hB hk hA hq y) ⟨rfl, (he, ke, ki, fi, fa, or, mi, a, g, l, w, s), er_leq v1 v6l, rfl⟩
  · rw [kwr_119 hc] at hw2
    have hq : (20 < knum le p) := of_decide_eq_true hw2
    have k0 : kn0 le p = knum le p := by unfold kn0; rw [if_neg (by omega), if_neg (by omega)]
    rw [k0]
    refine me_l (fun q_ => [some (.ref 138), some (.int q_), none]) (show nI (kg le p) = 119 by rw [hc]; rfl) ?_
    exact me_of (id_119_1 he ke ki fi fa or mi a g l w s xm xi xw im le nu rf ln nn xc vs vp c n m kk p hB hk hA hq y) ⟨rfl, (he, ke, ki, fi, fa, or, mi, a, g, l, knum le p, s), er_leq v1 v6l, rfl⟩
  · rw [kwr_115 hc] at hw2
    have hq : (knum le p < 1 ∨ 60 < knum le p ∨ 999 < s + knum le p) := of_decide_eq_true hw2
    have k0 : kn0 le p = knum le p := by unfold kn0; rw [if_neg (by omega), if_neg (by omega)]
    rw [k0]
    refine me_l (fun q_ => [some (.ref 138), some (.int q_), none]) (show nI (kg le p) = 115 by rw [hc]; rfl) ?_
    rcases (show knum le p < 1 ∨ 60 < knum le p ∨ (1 ≤ knum le p ∧ knum le p ≤ 60 ∧ 999 < s + knum le p) by omega) with hq2 | hq2 | hq2
    · exact me_of (id_115_1a he ke ki fi fa or mi a g l w s xm xi xw im le nu rf ln nn xc vs vp c n m kk p hB hk hA hq hq2 y) ⟨rfl, (he, ke, ki, fi, fa, or, mi, a, g, l, w, s), er_leq v1 v6l, rfl⟩
    · exact me_of (id_115_1b he ke ki fi fa or mi a g l w s xm xi xw im le nu rf ln nn xc vs vp c n m kk p hB hk hA hq hq2 y) ⟨rfl, (he, ke, ki, fi, fa, or, mi, a, g, l, w, s), er_leq v1 v6l, rfl⟩
    · exact me_of (id_115_1c he ke ki fi fa or mi a g l w s xm xi xw im le nu rf ln nn xc vs vp c n m kk p hB hk hA hq hq2 y) ⟨rfl, (he, ke, ki, fi, fa, or, mi, a, g, l, w, s), er_leq v1 v6l, rfl⟩
  · rw [kwr_109 hc] at hw2
    have hq : (5 ≤ mi) := of_decide_eq_true hw2
    obtain ⟨o1, ⟨kd, hkd⟩, o3⟩ := kok_2 hk (by rw [hc]; rfl)
    have k0 : kn0 le p = kd := by unfold kn0; rw [if_pos hc, hkd]; rfl
    have y0 : y = nI (kg le (p + 2) - 48) := by rw [hy (by omega)]; unfold kn1; rw [if_neg (by omega)]
    subst y0
    rw [k0]
    refine me_l (fun q_ => [some (.ref 138), some (.int q_), none]) (show nI (kg le p) = 109 by rw [hc]; rfl) ?_
    exact me_of (id_109_1 he ke ki fi fa or mi a g l w s xm xi xw im le nu rf ln nn xc vs vp c n m kk p hB hk hA hq kd) ⟨rfl, (he, ke, ki, fi, fa, or, mi, a, g, l, w, s), er_leq v1 v6l, rfl⟩
  · rw [kwr_120 hc] at hw2
    have hq : (mi ≤ kg le (p + 1) - 48) := of_decide_eq_true hw2
    have k0 : kn0 le p = kg le (p + 1) - 48 := by unfold kn0; rw [if_neg (by omega), if_pos hc]
    rw [k0]
    refine me_l (fun q_ => [some (.ref 138), some (.int q_), none]) (show nI (kg le p) = 120 by rw [hc]; rfl) ?_
    exact me_of (id_120_1 he ke ki fi fa or mi a g l w s xm xi xw im le nu rf ln nn xc vs vp c n m kk p hB hk hA hq y) ⟨rfl, (he, ke, ki, fi, fa, or, mi, a, g, l, w, s), er_leq v1 v6l, rfl⟩
set_option maxRecDepth 100000 in
theorem km_l1A (K : kK) (xm xi xw : List Int32) (im : Nat) (le nu rf : List Nat) (ln nn : Nat) (xc : List Int32) (vs : Int32) (c : cC) (n m kk : kG) (hB : iB le ln) (k0 mf : Nat) (hL : kL le ln k0) (hmf0 : kmis le ln (kpos le k0) = some mf) (hmb : mf < 1000) (F : Option Value → mm_H → Prop) (HO : ∀ x0 x1 : Int32, mm_E 131 46 [some (.ref 138), some (.int (nI (k0 + 1))), some (.int ((-1000 : Int32) - (nI mf))), none, none, none] [] (mk_M c n m kk (rT K xm xi xw im le nu rf ln nn (nI mf) [x0, x1] xc vs)) F) (k : Nat) : ∀ (i : Nat) (x0 x1 : Int32), i + k = k0 → mm_E 131 10 [some (.ref 138), some (.int (nI i)), some (.int (-9)), none, none, none] [] (mk_M c n m kk (rT K xm xi xw im le nu rf ln nn (nI (kpos le i)) [x0, x1] xc vs)) F := by
  obtain ⟨b1, b2, b3⟩ := id hB
  induction k with
  | zero =>
    intro i x0 x1 hi
    have hb := kpos_le hL i (by omega)
    have hk : kmis le ln (kpos le i) = some mf := by rw [show i = k0 by omega]; exact hmf0
    have ei : i = k0 := by omega
    subst ei
    refine me_seg 1 (pc1 := 11) (ls1 := [some (.ref 138), some (.int (nI i)), some (.int (-9)), none, none, none]) (st1 := [.ref 138]) (M1 := (mk_M c n m kk (rT K xm xi xw im le nu rf ln nn (nI (kpos le i)) [x0, x1] xc vs))) (fun f => rfl) ?_
    refine me_callE (y := 132) (y0 := 14) (L := [some (.ref 138), none, none]) (rest := []) (fun f => rfl) (kd_rsN K xm xi xw im le nu rf ln nn xc vs c n m kk (kpos le i) mf x0 x1 hB (by omega) hk) ?_
    rintro _ _ ⟨rfl, xn2, hx2, rfl⟩
    obtain ⟨y0, y1, rfl⟩ := k_two hx2
    refine me_seg 5 (pc1 := 25) (ls1 := [some (.ref 138), some (.int (nI i)), some (.int (-9)), none, none, none]) (st1 := [.int (((-1000) : Int32) - (nI mf))]) (M1 := (mk_M c n m kk (rT K xm xi xw im le nu rf ln nn (nI mf) [y0, y1] xc vs))) (fun f => rfl) ?_
    generalize hfv : ((-1000) : Int32) - (nI mf) = fv
    refine me_seg 2 (pc1 := 29) (ls1 := [some (.ref 138), some (.int ((nI i) + 1)), some (.int fv), none, none, none]) (st1 := []) (M1 := (mk_M c n m kk (rT K xm xi xw im le nu rf ln nn (nI mf) [y0, y1] xc vs))) (fun f => rfl) ?_
    refine me_l (fun q_ => [some (.ref 138), some (.int q_), some (.int fv), none, none, none]) (nI_add i 1) ?_
    refine me_seg 2 (pc1 := 32) (ls1 := [some (.ref 138), some (.int (nI (i + 1))), some (.int fv), none, none, none]) (st1 := [.int (-9), .int fv]) (M1 := (mk_M c n m kk (rT K xm xi xw im le nu rf ln nn (nI mf) [y0, y1] xc vs))) (fun f => rfl) ?_
    refine me_f (C := fv = (-9)) (by rw [← hfv]; exact k_f1 (by omega)) (fun f => rfl) ?_
    subst hfv
    exact HO _ _
  | succ k IH =>
    intro i x0 x1 hi
    have hb := kpos_le hL i (by omega)
    obtain ⟨hk, hlt⟩ := hL i (by omega)
    have hkl := kmis_lt hk
    have hkx := (knx_le hk).1
    refine me_seg 1 (pc1 := 11) (ls1 := [some (.ref 138), some (.int (nI i)), some (.int (-9)), none, none, none]) (st1 := [.ref 138]) (M1 := (mk_M c n m kk (rT K xm xi xw im le nu rf ln nn (nI (kpos le i)) [x0, x1] xc vs))) (fun f => rfl) ?_
    refine me_callE (y := 132) (y0 := 14) (L := [some (.ref 138), none, none]) (rest := []) (fun f => rfl) (kd_rsO K xm xi xw im le nu rf ln nn xc vs c n m kk (kpos le i) x0 x1 hB (by omega) hk) ?_
    rintro _ _ ⟨rfl, y0, hy0, rfl⟩
    refine me_seg 2 (pc1 := 29) (ls1 := [some (.ref 138), some (.int ((nI i) + 1)), some (.int (-9)), none, none, none]) (st1 := []) (M1 := (mk_M c n m kk (rT K xm xi xw im le nu rf ln nn (nI (knx le (kpos le i))) [(nI (kn0 le (kpos le i))), y0] xc vs))) (fun f => rfl) ?_
    refine me_l (fun q_ => [some (.ref 138), some (.int q_), some (.int (-9)), none, none, none]) (nI_add i 1) ?_
    refine me_seg 7 (pc1 := 43) (ls1 := [some (.ref 138), some (.int (nI (i + 1))), some (.int (-9)), none, none, none]) (st1 := [.int (nI ln), .int (nI (knx le (kpos le i)))]) (M1 := (mk_M c n m kk (rT K xm xi xw im le nu rf ln nn (nI (knx le (kpos le i))) [(nI (kn0 le (kpos le i))), y0] xc vs))) (fun f => rfl) ?_
    refine me_t (C := (nI (knx le (kpos le i))) < (nI ln)) ((nI_lti (a := knx le (kpos le i)) (b := ln) (by omega)).mpr (hlt)) (fun f => rfl) ?_
    exact IH (i + 1) _ _ (by omega)
set_option maxRecDepth 100000 in
theorem km_l1B (K : kK) (xm xi xw : List Int32) (im : Nat) (le nu rf : List Nat) (ln nn : Nat) (xc : List Int32) (vs : Int32) (c : cC) (n m kk : kG) (hB : iB le ln) (k0 : Nat) (hL : kL le ln k0) (hkk : kmis le ln (kpos le k0) = none) (hge : ¬ kpos le (k0 + 1) < ln) (F : Option Value → mm_H → Prop) (HO : ∀ x0 x1 : Int32, mm_E 131 46 [some (.ref 138), some (.int (nI (k0 + 1))), some (.int (-9)), none, none, none] [] (mk_M c n m kk (rT K xm xi xw im le nu rf ln nn (nI (kpos le (k0 + 1))) [x0, x1] xc vs)) F) (k : Nat) : ∀ (i : Nat) (x0 x1 : Int32), i + k = k0 → mm_E 131 10 [some (.ref 138), some (.int (nI i)), some (.int (-9)), none, none, none] [] (mk_M c n m kk (rT K xm xi xw im le nu rf ln nn (nI (kpos le i)) [x0, x1] xc vs)) F := by
  obtain ⟨b1, b2, b3⟩ := id hB
  induction k with
  | zero =>
    intro i x0 x1 hi
    have hb := kpos_le hL i (by omega)
    have hk : kmis le ln (kpos le i) = none := by rw [show i = k0 by omega]; exact hkk
    have hlt : ln ≤ knx le (kpos le i) := by rw [show i = k0 by omega]; exact Nat.not_lt.mp hge
    have hkl := kmis_lt hk
    have hkx := (knx_le hk).1
    have ei : i = k0 := by omega
    subst ei
    refine me_seg 1 (pc1 := 11) (ls1 := [some (.ref 138), some (.int (nI i)), some (.int (-9)), none, none, none]) (st1 := [.ref 138]) (M1 := (mk_M c n m kk (rT K xm xi xw im le nu rf ln nn (nI (kpos le i)) [x0, x1] xc vs))) (fun f => rfl) ?_
    refine me_callE (y := 132) (y0 := 14) (L := [some (.ref 138), none, none]) (rest := []) (fun f => rfl) (kd_rsO K xm xi xw im le nu rf ln nn xc vs c n m kk (kpos le i) x0 x1 hB (by omega) hk) ?_
    rintro _ _ ⟨rfl, y0, hy0, rfl⟩
    refine me_seg 2 (pc1 := 29) (ls1 := [some (.ref 138), some (.int ((nI i) + 1)), some (.int (-9)), none, none, none]) (st1 := []) (M1 := (mk_M c n m kk (rT K xm xi xw im le nu rf ln nn (nI (knx le (kpos le i))) [(nI (kn0 le (kpos le i))), y0] xc vs))) (fun f => rfl) ?_
    refine me_l (fun q_ => [some (.ref 138), some (.int q_), some (.int (-9)), none, none, none]) (nI_add i 1) ?_
    refine me_seg 7 (pc1 := 43) (ls1 := [some (.ref 138), some (.int (nI (i + 1))), some (.int (-9)), none, none, none]) (st1 := [.int (nI ln), .int (nI (knx le (kpos le i)))]) (M1 := (mk_M c n m kk (rT K xm xi xw im le nu rf ln nn (nI (knx le (kpos le i))) [(nI (kn0 le (kpos le i))), y0] xc vs))) (fun f => rfl) ?_
    refine me_f (C := (nI (knx le (kpos le i))) < (nI ln)) (fun e_ => absurd ((nI_lti (a := knx le (kpos le i)) (b := ln) (by omega)).mp e_) (Nat.not_lt.mpr hlt)) (fun f => rfl) ?_
    exact HO _ _
  | succ k IH =>
    intro i x0 x1 hi
    have hb := kpos_le hL i (by omega)
    obtain ⟨hk, hlt⟩ := hL i (by omega)
    have hkl := kmis_lt hk
    have hkx := (knx_le hk).1
    refine me_seg 1 (pc1 := 11) (ls1 := [some (.ref 138), some (.int (nI i)), some (.int (-9)), none, none, none]) (st1 := [.ref 138]) (M1 := (mk_M c n m kk (rT K xm xi xw im le nu rf ln nn (nI (kpos le i)) [x0, x1] xc vs))) (fun f => rfl) ?_
    refine me_callE (y := 132) (y0 := 14) (L := [some (.ref 138), none, none]) (rest := []) (fun f => rfl) (kd_rsO K xm xi xw im le nu rf ln nn xc vs c n m kk (kpos le i) x0 x1 hB (by omega) hk) ?_
    rintro _ _ ⟨rfl, y0, hy0, rfl⟩
    refine me_seg 2 (pc1 := 29) (ls1 := [some (.ref 138), some (.int ((nI i) + 1)), some (.int (-9)), none, none, none]) (st1 := []) (M1 := (mk_M c n m kk (rT K xm xi xw im le nu rf ln nn (nI (knx le (kpos le i))) [(nI (kn0 le (kpos le i))), y0] xc vs))) (fun f => rfl) ?_
    refine me_l (fun q_ => [some (.ref 138), some (.int q_), some (.int (-9)), none, none, none]) (nI_add i 1) ?_
    refine me_seg 7 (pc1 := 43) (ls1 := [some (.ref 138), some (.int (nI (i + 1))), some (.int (-9)), none, none, none]) (st1 := [.int (nI ln), .int (nI (knx le (kpos le i)))]) (M1 := (mk_M c n m kk (rT K xm xi xw im le nu rf ln nn (nI (knx le (kpos le i))) [(nI (kn0 le (kpos le i))), y0] xc vs))) (fun f => rfl) ?_
    refine me_t (C := (nI (knx le (kpos le i))) < (nI ln)) ((nI_lti (a := knx le (kpos le i)) (b := ln) (by omega)).mpr (hlt)) (fun f => rfl) ?_
    exact IH (i + 1) _ _ (by omega)
set_option maxRecDepth 100000 in
theorem km_l2W (K : kK) (xm xi xw : List Int32) (im : Nat) (le nu rf : List Nat) (ln nn : Nat) (xc : List Int32) (vs : Int32) (c : cC) (n m kk : kG) (hB : iB le ln) (k0 : Nat) (hA : iA K) (hL : ∀ i, i ≤ k0 → kmis le ln (kpos le i) = none) (hk0 : k0 < 96) (j0 : Nat) (hj0 : j0 ≤ k0) (hwf : ∀ i, i < j0 → kwi le K i = false) (hwt : kwi le K j0 = true) (k : Nat) : ∀ (i : Nat) (x0 x1 : Int32) (lo3 lo4 lo5 : Option Value), i + k = j0 → mm_E 131 62 [some (.ref 138), some (.int (nI (k0 + 1))), some (.int (-9)), lo3, lo4, lo5] [] (mk_M c n m kk (rT (kks le K i) xm xi (er K) im le nu rf ln nn (nI (kpos le i)) [x0, x1] xc vs)) (fun r M1 => r = some (.int ((-2000 : Int32) - nI (kpos le j0))) ∧ ∃ (vp2 : Int32) (xn2 : List Int32), xn2.length = 2 ∧ M1 = mk_M c n m kk (rT K xm xi (er K) im le nu rf 0 nn vp2 xn2 xc vs)) := by
  obtain ⟨b1, b2, b3⟩ := id hB
  induction k with
  | zero =>
    intro i x0 x1 lo3 lo4 lo5 hi
    have ei : i = j0 := by omega
    subst ei
    have hk := hL i (by omega)
    have hkl := kmis_lt hk
    have hAi := kks_A (n := i) b2 (fun i2 h2 => hL i2 (by omega)) hA hwf i (by omega)
    have hw : kwr le (kpos le i) (k_mi (kks le K i)) (k_st (kks le K i)) = true := hwt
    refine me_seg 7 (pc1 := 76) (ls1 := [some (.ref 138), some (.int (nI (k0 + 1))), some (.int (-9)), lo3, lo4, lo5]) (st1 := [.int (nI ln), .int (nI (kpos le i))]) (M1 := (mk_M c n m kk (rT (kks le K i) xm xi (er K) im le nu rf ln nn (nI (kpos le i)) [x0, x1] xc vs))) (fun f => rfl) ?_
    refine me_f (C := (nI ln) ≤ (nI (kpos le i))) (fun e_ => absurd ((nI_lei (a := ln) (b := kpos le i) (by omega)).mp e_) (Nat.not_le.mpr hkl)) (fun f => rfl) ?_
    refine me_seg 4 (pc1 := 85) (ls1 := [some (.ref 138), some (.int (nI (k0 + 1))), some (.int (-9)), some (.int (nI (kpos le i))), lo4, lo5]) (st1 := [.ref 138]) (M1 := (mk_M c n m kk (rT (kks le K i) xm xi (er K) im le nu rf ln nn (nI (kpos le i)) [x0, x1] xc vs))) (fun f => rfl) ?_
    refine me_call (y := 133) (y0 := 88) (L := [some (.ref 138)]) (rest := []) (rr := some (.int (nI (kg le (kpos le i))))) (M1 := (mk_M c n m kk (rT (kks le K i) xm xi (er K) im le nu rf ln nn (nI (kpos le i)) [x0, x1] xc vs))) (fun f => rfl) (mr_eq (kd_here (kpos le i) [x0, x1] (kks le K i) xm xi (er K) im le nu rf ln nn xc vs c n m kk hB (by omega)) (by rw [khere_t hkl])) ?_
    refine me_seg 2 (pc1 := 91) (ls1 := [some (.ref 138), some (.int (nI (k0 + 1))), some (.int (-9)), some (.int (nI (kpos le i))), some (.int (nI (kg le (kpos le i)))), lo5]) (st1 := [.ref 138]) (M1 := (mk_M c n m kk (rT (kks le K i) xm xi (er K) im le nu rf ln nn (nI (kpos le i)) [x0, x1] xc vs))) (fun f => rfl) ?_
    refine me_callE (y := 132) (y0 := 94) (L := [some (.ref 138), none, none]) (rest := []) (fun f => rfl) (kd_rsO (kks le K i) xm xi (er K) im le nu rf ln nn xc vs c n m kk (kpos le i) x0 x1 hB (by omega) hk) ?_
    rintro _ _ ⟨rfl, y0, hy0, rfl⟩
    refine me_seg 3 (pc1 := 99) (ls1 := [some (.ref 138), some (.int (nI (k0 + 1))), some (.int (-9)), some (.int (nI (kpos le i))), some (.int (nI (kg le (kpos le i)))), some (.int 1)]) (st1 := [.int (nI (kg le (kpos le i))), .ref 138]) (M1 := (mk_M c n m kk (rT (kks le K i) xm xi (er K) im le nu rf ln nn (nI (knx le (kpos le i))) [(nI (kn0 le (kpos le i))), y0] xc vs))) (fun f => rfl) ?_
    refine me_callE (y := 139) (y0 := 102) (L := [some (.ref 138), some (.int (nI (kg le (kpos le i)))), none]) (rest := []) (fun f => rfl) (kd_idB (kks le K i) xm xi (er K) im le nu rf ln nn xc vs (nI (knx le (kpos le i))) c n m kk (kpos le i) y0 hB hk hAi hy0 hw) ?_
    rintro _ _ ⟨rfl, K2, hK2, rfl⟩
    refine me_seg 4 (pc1 := 113) (ls1 := [some (.ref 138), some (.int (nI (k0 + 1))), some (.int (-9)), some (.int (nI (kpos le i))), some (.int (nI (kg le (kpos le i)))), some (.int 1)]) (st1 := [.int (((-2000) : Int32) - (nI (kpos le i)))]) (M1 := (mk_M c n m kk (rT K2 xm xi (er K) im le nu rf ln nn (nI (knx le (kpos le i))) [(nI (kn0 le (kpos le i))), y0] xc vs))) (fun f => rfl) ?_
    generalize hfv : ((-2000) : Int32) - (nI (kpos le i)) = fv
    refine me_seg 5 (pc1 := 122) (ls1 := [some (.ref 138), some (.int (nI (k0 + 1))), some (.int fv), some (.int (nI (kpos le i))), some (.int (nI (kg le (kpos le i)))), some (.int 1)]) (st1 := [.ref 139, .ref 142]) (M1 := (mk_M c n m kk (rT K2 xm xi (er K) im le nu rf ln nn (nI (knx le (kpos le i))) [(nI (kn0 le (kpos le i))), y0] xc vs))) (fun f => rfl) ?_
    refine me_call (y := 138) (y0 := 125) (L := [some (.ref 142), some (.ref 139), none]) (rest := []) (rr := none) (M1 := (mk_M c n m kk (rT K xm xi (er K) im le nu rf ln nn (nI (knx le (kpos le i))) [(nI (kn0 le (kpos le i))), y0] xc vs))) (fun f => rfl) (rc_copies (a := 139) (b := 142) (by decide) rfl rfl (er_len hA.1) hK2) ?_
    refine me_seg 1 (pc1 := 62) (ls1 := [some (.ref 138), some (.int (nI (k0 + 1))), some (.int fv), some (.int (nI (kpos le i))), some (.int (nI (kg le (kpos le i)))), some (.int 1)]) (st1 := []) (M1 := (mk_M c n m kk (rT K xm xi (er K) im le nu rf ln nn (nI (knx le (kpos le i))) [(nI (kn0 le (kpos le i))), y0] xc vs))) (fun f => rfl) ?_
    refine me_seg 2 (pc1 := 65) (ls1 := [some (.ref 138), some (.int (nI (k0 + 1))), some (.int fv), some (.int (nI (kpos le i))), some (.int (nI (kg le (kpos le i)))), some (.int 1)]) (st1 := [.int (-9), .int fv]) (M1 := (mk_M c n m kk (rT K xm xi (er K) im le nu rf ln nn (nI (knx le (kpos le i))) [(nI (kn0 le (kpos le i))), y0] xc vs))) (fun f => rfl) ?_
    refine me_f (C := fv = (-9)) (by rw [← hfv]; exact k_f2 (by omega)) (fun f => rfl) ?_
    refine me_seg 3 (pc1 := 133) (ls1 := [some (.ref 138), some (.int (nI (k0 + 1))), some (.int fv), some (.int (nI (kpos le i))), some (.int (nI (kg le (kpos le i)))), some (.int 1)]) (st1 := []) (M1 := (mk_MR c n m kk (er K) xm xi (er K) (nI im) (le.map nI) (nu.map nI) (rf.map nI) 0 (nI nn) (nI (knx le (kpos le i))) [(nI (kn0 le (kpos le i))), y0] xc vs)) (fun f => rfl) ?_
    refine me_M (mk_MRk c n m kk K xm xi (er K) im le nu rf 0 nn (nI (knx le (kpos le i))) [(nI (kn0 le (kpos le i))), y0] xc vs) ?_
    refine me_seg 2 (pc1 := 136) (ls1 := [some (.ref 138), some (.int (nI (k0 + 1))), some (.int fv), some (.int (nI (kpos le i))), some (.int (nI (kg le (kpos le i)))), some (.int 1)]) (st1 := [.int (-9), .int fv]) (M1 := (mk_M c n m kk (rT K xm xi (er K) im le nu rf 0 nn (nI (knx le (kpos le i))) [(nI (kn0 le (kpos le i))), y0] xc vs))) (fun f => rfl) ?_
    refine me_f (C := fv = (-9)) (by rw [← hfv]; exact k_f2 (by omega)) (fun f => rfl) ?_
    refine me_ret 2 (r := some (.int fv)) (M1 := (mk_M c n m kk (rT K xm xi (er K) im le nu rf 0 nn (nI (knx le (kpos le i))) [(nI (kn0 le (kpos le i))), y0] xc vs))) (fun f => rfl) ?_
    exact ⟨rfl, _, _, rfl, rfl⟩
  | succ k IH =>
    intro i x0 x1 lo3 lo4 lo5 hi
    have hk := hL i (by omega)
    have hkl := kmis_lt hk
    have hAi := kks_A (n := j0) b2 (fun i2 h2 => hL i2 (by omega)) hA hwf i (by omega)
    have hw : kwr le (kpos le i) (k_mi (kks le K i)) (k_st (kks le K i)) = false := hwf i (by omega)
    refine me_seg 7 (pc1 := 76) (ls1 := [some (.ref 138), some (.int (nI (k0 + 1))), some (.int (-9)), lo3, lo4, lo5]) (st1 := [.int (nI ln), .int (nI (kpos le i))]) (M1 := (mk_M c n m kk (rT (kks le K i) xm xi (er K) im le nu rf ln nn (nI (kpos le i)) [x0, x1] xc vs))) (fun f => rfl) ?_
    refine me_f (C := (nI ln) ≤ (nI (kpos le i))) (fun e_ => absurd ((nI_lei (a := ln) (b := kpos le i) (by omega)).mp e_) (Nat.not_le.mpr hkl)) (fun f => rfl) ?_
    refine me_seg 4 (pc1 := 85) (ls1 := [some (.ref 138), some (.int (nI (k0 + 1))), some (.int (-9)), some (.int (nI (kpos le i))), lo4, lo5]) (st1 := [.ref 138]) (M1 := (mk_M c n m kk (rT (kks le K i) xm xi (er K) im le nu rf ln nn (nI (kpos le i)) [x0, x1] xc vs))) (fun f => rfl) ?_
    refine me_call (y := 133) (y0 := 88) (L := [some (.ref 138)]) (rest := []) (rr := some (.int (nI (kg le (kpos le i))))) (M1 := (mk_M c n m kk (rT (kks le K i) xm xi (er K) im le nu rf ln nn (nI (kpos le i)) [x0, x1] xc vs))) (fun f => rfl) (mr_eq (kd_here (kpos le i) [x0, x1] (kks le K i) xm xi (er K) im le nu rf ln nn xc vs c n m kk hB (by omega)) (by rw [khere_t hkl])) ?_
    refine me_seg 2 (pc1 := 91) (ls1 := [some (.ref 138), some (.int (nI (k0 + 1))), some (.int (-9)), some (.int (nI (kpos le i))), some (.int (nI (kg le (kpos le i)))), lo5]) (st1 := [.ref 138]) (M1 := (mk_M c n m kk (rT (kks le K i) xm xi (er K) im le nu rf ln nn (nI (kpos le i)) [x0, x1] xc vs))) (fun f => rfl) ?_
    refine me_callE (y := 132) (y0 := 94) (L := [some (.ref 138), none, none]) (rest := []) (fun f => rfl) (kd_rsO (kks le K i) xm xi (er K) im le nu rf ln nn xc vs c n m kk (kpos le i) x0 x1 hB (by omega) hk) ?_
    rintro _ _ ⟨rfl, y0, hy0, rfl⟩
    refine me_seg 3 (pc1 := 99) (ls1 := [some (.ref 138), some (.int (nI (k0 + 1))), some (.int (-9)), some (.int (nI (kpos le i))), some (.int (nI (kg le (kpos le i)))), some (.int 1)]) (st1 := [.int (nI (kg le (kpos le i))), .ref 138]) (M1 := (mk_M c n m kk (rT (kks le K i) xm xi (er K) im le nu rf ln nn (nI (knx le (kpos le i))) [(nI (kn0 le (kpos le i))), y0] xc vs))) (fun f => rfl) ?_
    refine me_callE (y := 139) (y0 := 102) (L := [some (.ref 138), some (.int (nI (kg le (kpos le i)))), none]) (rest := []) (fun f => rfl) (kd_idO (kks le K i) xm xi (er K) im le nu rf ln nn xc vs (nI (knx le (kpos le i))) c n m kk (kpos le i) y0 hB hk hAi hy0 hw) ?_
    rintro _ _ ⟨rfl, rfl⟩
    refine me_seg 2 (pc1 := 62) (ls1 := [some (.ref 138), some (.int (nI (k0 + 1))), some (.int (-9)), some (.int (nI (kpos le i))), some (.int (nI (kg le (kpos le i)))), some (.int 1)]) (st1 := []) (M1 := (mk_M c n m kk (rT (kapp le (kpos le i) (kks le K i)) xm xi (er K) im le nu rf ln nn (nI (knx le (kpos le i))) [(nI (kn0 le (kpos le i))), y0] xc vs))) (fun f => rfl) ?_
    exact IH (i + 1) _ _ (some (.int (nI (kpos le i)))) (some (.int (nI (kg le (kpos le i))))) (some (.int 1)) (by omega)
set_option maxRecDepth 100000 in
theorem km_l2O (K : kK) (xm xi xw : List Int32) (im : Nat) (le nu rf : List Nat) (ln nn : Nat) (xc : List Int32) (vs : Int32) (c : cC) (n m kk : kG) (hB : iB le ln) (k0 : Nat) (hA : iA K) (hL : ∀ i, i ≤ k0 → kmis le ln (kpos le i) = none) (hk0 : k0 < 96) (hge : ¬ kpos le (k0 + 1) < ln) (hwf : ∀ i, i < k0 + 1 → kwi le K i = false) (k : Nat) : ∀ (i : Nat) (x0 x1 : Int32) (lo3 lo4 lo5 : Option Value), i + k = k0 + 1 → mm_E 131 62 [some (.ref 138), some (.int (nI (k0 + 1))), some (.int (-9)), lo3, lo4, lo5] [] (mk_M c n m kk (rT (kks le K i) xm xi (er K) im le nu rf ln nn (nI (kpos le i)) [x0, x1] xc vs)) (fun r M1 => r = some (.int (nI (k0 + 1))) ∧ ∃ (vp2 : Int32) (xn2 : List Int32), xn2.length = 2 ∧ M1 = mk_M c n m kk (rT (kks le K (k0 + 1)) xm xi (er K) im le nu rf 0 nn vp2 xn2 xc vs)) := by
  obtain ⟨b1, b2, b3⟩ := id hB
  induction k with
  | zero =>
    intro i x0 x1 lo3 lo4 lo5 hi
    have ei : i = k0 + 1 := by omega
    subst ei
    have hkl : ln ≤ kpos le (k0 + 1) := Nat.not_lt.mp hge
    have hkx := (knx_le (hL k0 (by omega))).1
    have hkx2 : kpos le (k0 + 1) ≤ ln := hkx
    refine me_seg 7 (pc1 := 76) (ls1 := [some (.ref 138), some (.int (nI (k0 + 1))), some (.int (-9)), lo3, lo4, lo5]) (st1 := [.int (nI ln), .int (nI (kpos le (k0 + 1)))]) (M1 := (mk_M c n m kk (rT (kks le K (k0 + 1)) xm xi (er K) im le nu rf ln nn (nI (kpos le (k0 + 1))) [x0, x1] xc vs))) (fun f => rfl) ?_
    refine me_t (C := (nI ln) ≤ (nI (kpos le (k0 + 1)))) ((nI_lei (a := ln) (b := kpos le (k0 + 1)) (by omega)).mpr (hkl)) (fun f => rfl) ?_
    refine me_seg 3 (pc1 := 133) (ls1 := [some (.ref 138), some (.int (nI (k0 + 1))), some (.int (-9)), lo3, lo4, lo5]) (st1 := []) (M1 := (mk_MR c n m kk (er (kks le K (k0 + 1))) xm xi (er K) (nI im) (le.map nI) (nu.map nI) (rf.map nI) 0 (nI nn) (nI (kpos le (k0 + 1))) [x0, x1] xc vs)) (fun f => rfl) ?_
    refine me_M (mk_MRk c n m kk (kks le K (k0 + 1)) xm xi (er K) im le nu rf 0 nn (nI (kpos le (k0 + 1))) [x0, x1] xc vs) ?_
    refine me_ret 6 (r := some (.int (nI (k0 + 1)))) (M1 := (mk_M c n m kk (rT (kks le K (k0 + 1)) xm xi (er K) im le nu rf 0 nn (nI (kpos le (k0 + 1))) [x0, x1] xc vs))) (fun f => rfl) ?_
    exact ⟨rfl, _, _, rfl, rfl⟩
  | succ k IH =>
    intro i x0 x1 lo3 lo4 lo5 hi
    have hk := hL i (by omega)
    have hkl := kmis_lt hk
    have hAi := kks_A (n := k0 + 1) b2 (fun i2 h2 => hL i2 (by omega)) hA hwf i (by omega)
    have hw : kwr le (kpos le i) (k_mi (kks le K i)) (k_st (kks le K i)) = false := hwf i (by omega)
    refine me_seg 7 (pc1 := 76) (ls1 := [some (.ref 138), some (.int (nI (k0 + 1))), some (.int (-9)), lo3, lo4, lo5]) (st1 := [.int (nI ln), .int (nI (kpos le i))]) (M1 := (mk_M c n m kk (rT (kks le K i) xm xi (er K) im le nu rf ln nn (nI (kpos le i)) [x0, x1] xc vs))) (fun f => rfl) ?_
    refine me_f (C := (nI ln) ≤ (nI (kpos le i))) (fun e_ => absurd ((nI_lei (a := ln) (b := kpos le i) (by omega)).mp e_) (Nat.not_le.mpr hkl)) (fun f => rfl) ?_
    refine me_seg 4 (pc1 := 85) (ls1 := [some (.ref 138), some (.int (nI (k0 + 1))), some (.int (-9)), some (.int (nI (kpos le i))), lo4, lo5]) (st1 := [.ref 138]) (M1 := (mk_M c n m kk (rT (kks le K i) xm xi (er K) im le nu rf ln nn (nI (kpos le i)) [x0, x1] xc vs))) (fun f => rfl) ?_
    refine me_call (y := 133) (y0 := 88) (L := [some (.ref 138)]) (rest := []) (rr := some (.int (nI (kg le (kpos le i))))) (M1 := (mk_M c n m kk (rT (kks le K i) xm xi (er K) im le nu rf ln nn (nI (kpos le i)) [x0, x1] xc vs))) (fun f => rfl) (mr_eq (kd_here (kpos le i) [x0, x1] (kks le K i) xm xi (er K) im le nu rf ln nn xc vs c n m kk hB (by omega)) (by rw [khere_t hkl])) ?_
    refine me_seg 2 (pc1 := 91) (ls1 := [some (.ref 138), some (.int (nI (k0 + 1))), some (.int (-9)), some (.int (nI (kpos le i))), some (.int (nI (kg le (kpos le i)))), lo5]) (st1 := [.ref 138]) (M1 := (mk_M c n m kk (rT (kks le K i) xm xi (er K) im le nu rf ln nn (nI (kpos le i)) [x0, x1] xc vs))) (fun f => rfl) ?_
    refine me_callE (y := 132) (y0 := 94) (L := [some (.ref 138), none, none]) (rest := []) (fun f => rfl) (kd_rsO (kks le K i) xm xi (er K) im le nu rf ln nn xc vs c n m kk (kpos le i) x0 x1 hB (by omega) hk) ?_
    rintro _ _ ⟨rfl, y0, hy0, rfl⟩
    refine me_seg 3 (pc1 := 99) (ls1 := [some (.ref 138), some (.int (nI (k0 + 1))), some (.int (-9)), some (.int (nI (kpos le i))), some (.int (nI (kg le (kpos le i)))), some (.int 1)]) (st1 := [.int (nI (kg le (kpos le i))), .ref 138]) (M1 := (mk_M c n m kk (rT (kks le K i) xm xi (er K) im le nu rf ln nn (nI (knx le (kpos le i))) [(nI (kn0 le (kpos le i))), y0] xc vs))) (fun f => rfl) ?_
    refine me_callE (y := 139) (y0 := 102) (L := [some (.ref 138), some (.int (nI (kg le (kpos le i)))), none]) (rest := []) (fun f => rfl) (kd_idO (kks le K i) xm xi (er K) im le nu rf ln nn xc vs (nI (knx le (kpos le i))) c n m kk (kpos le i) y0 hB hk hAi hy0 hw) ?_
    rintro _ _ ⟨rfl, rfl⟩
    refine me_seg 2 (pc1 := 62) (ls1 := [some (.ref 138), some (.int (nI (k0 + 1))), some (.int (-9)), some (.int (nI (kpos le i))), some (.int (nI (kg le (kpos le i)))), some (.int 1)]) (st1 := []) (M1 := (mk_M c n m kk (rT (kapp le (kpos le i) (kks le K i)) xm xi (er K) im le nu rf ln nn (nI (knx le (kpos le i))) [(nI (kn0 le (kpos le i))), y0] xc vs))) (fun f => rfl) ?_
    exact IH (i + 1) _ _ (some (.int (nI (kpos le i)))) (some (.int (nI (kg le (kpos le i))))) (some (.int 1)) (by omega)
set_option maxRecDepth 100000 in
theorem km_46A (K : kK) (xm xi xw : List Int32) (im : Nat) (le nu rf : List Nat) (ln nn : Nat) (xc : List Int32) (vs : Int32) (c : cC) (n m kk : kG) (hB : iB le ln) (hA : iA K) (hxw : xw.length = 52) (k0 mf : Nat) (hL : kL le ln k0) (hmf0 : kmis le ln (kpos le k0) = some mf) (hmb : mf < 1000) (x0 x1 : Int32) : mm_E 131 46 [some (.ref 138), some (.int (nI (k0 + 1))), some (.int ((-1000 : Int32) - (nI mf))), none, none, none] [] (mk_M c n m kk (rT K xm xi xw im le nu rf ln nn (nI mf) [x0, x1] xc vs)) (fun r M1 => r = some (.int ((-1000 : Int32) - nI mf)) ∧ ∃ (vp2 : Int32) (xn2 : List Int32), xn2.length = 2 ∧ M1 = mk_M c n m kk (rT K xm xi (er K) im le nu rf 0 nn vp2 xn2 xc vs)) := by
  obtain ⟨b1, b2, b3⟩ := id hB
  generalize hfv : (-1000 : Int32) - (nI mf) = fv
  refine me_seg 4 (pc1 := 54) (ls1 := [some (.ref 138), some (.int (nI (k0 + 1))), some (.int fv), none, none, none]) (st1 := [.ref 142, .ref 139]) (M1 := (mk_M c n m kk (rT K xm xi xw im le nu rf ln nn (nI mf) [x0, x1] xc vs))) (fun f => rfl) ?_
  refine me_call (y := 138) (y0 := 57) (L := [some (.ref 139), some (.ref 142), none]) (rest := []) (rr := none) (M1 := (mk_M c n m kk (rT K xm xi (er K) im le nu rf ln nn (nI mf) [x0, x1] xc vs))) (fun f => rfl) (rc_copies (a := 142) (b := 139) (by decide) rfl rfl (er_len hA.1) hxw) ?_
  refine me_seg 3 (pc1 := 62) (ls1 := [some (.ref 138), some (.int (nI (k0 + 1))), some (.int fv), none, none, none]) (st1 := []) (M1 := (mk_MR c n m kk (er K) xm xi (er K) (nI im) (le.map nI) (nu.map nI) (rf.map nI) (nI ln) (nI nn) 0 [x0, x1] xc vs)) (fun f => rfl) ?_
  refine me_M (mk_MRk c n m kk K xm xi (er K) im le nu rf ln nn 0 [x0, x1] xc vs) ?_
  refine me_seg 2 (pc1 := 65) (ls1 := [some (.ref 138), some (.int (nI (k0 + 1))), some (.int fv), none, none, none]) (st1 := [.int (-9), .int fv]) (M1 := (mk_M c n m kk (rT K xm xi (er K) im le nu rf ln nn 0 [x0, x1] xc vs))) (fun f => rfl) ?_
  refine me_f (C := fv = (-9)) (by rw [← hfv]; exact k_f1 (by omega)) (fun f => rfl) ?_
  refine me_seg 3 (pc1 := 133) (ls1 := [some (.ref 138), some (.int (nI (k0 + 1))), some (.int fv), none, none, none]) (st1 := []) (M1 := (mk_MR c n m kk (er K) xm xi (er K) (nI im) (le.map nI) (nu.map nI) (rf.map nI) 0 (nI nn) 0 [x0, x1] xc vs)) (fun f => rfl) ?_
  refine me_M (mk_MRk c n m kk K xm xi (er K) im le nu rf 0 nn 0 [x0, x1] xc vs) ?_
  refine me_seg 2 (pc1 := 136) (ls1 := [some (.ref 138), some (.int (nI (k0 + 1))), some (.int fv), none, none, none]) (st1 := [.int (-9), .int fv]) (M1 := (mk_M c n m kk (rT K xm xi (er K) im le nu rf 0 nn 0 [x0, x1] xc vs))) (fun f => rfl) ?_
  refine me_f (C := fv = (-9)) (by rw [← hfv]; exact k_f1 (by omega)) (fun f => rfl) ?_
  refine me_ret 2 (r := some (.int fv)) (M1 := (mk_M c n m kk (rT K xm xi (er K) im le nu rf 0 nn 0 [x0, x1] xc vs))) (fun f => rfl) ?_
  exact ⟨rfl, _, _, rfl, rfl⟩
set_option maxRecDepth 100000 in
theorem km_kA (K : kK) (xm xi xw : List Int32) (im : Nat) (le nu rf : List Nat) (ln nn : Nat) (xc : List Int32) (vs : Int32) (c : cC) (n m kk : kG) (vp : Int32) (xn : List Int32) (hB : iB le ln) (hA : iA K) (hx2 : xn.length = 2) (hxw : xw.length = 52) (k0 mf : Nat) (hL : kL le ln k0) (hmf0 : kmis le ln (kpos le k0) = some mf) (hmb : mf < 1000) : mm_E 131 0 [some (.ref 138), none, none, none, none, none] [] (mk_M c n m kk (rT K xm xi xw im le nu rf ln nn vp xn xc vs)) (fun r M1 => r = some (.int ((-1000 : Int32) - nI mf)) ∧ ∃ (vp2 : Int32) (xn2 : List Int32), xn2.length = 2 ∧ M1 = mk_M c n m kk (rT K xm xi (er K) im le nu rf 0 nn vp2 xn2 xc vs)) := by
  obtain ⟨x0, x1, rfl⟩ := k_two hx2
  refine me_seg 3 (pc1 := 5) (ls1 := [some (.ref 138), none, none, none, none, none]) (st1 := []) (M1 := (mk_MR c n m kk (er K) xm xi xw (nI im) (le.map nI) (nu.map nI) (rf.map nI) (nI ln) (nI nn) 0 [x0, x1] xc vs)) (fun f => rfl) ?_
  refine me_M (mk_MRk c n m kk K xm xi xw im le nu rf ln nn 0 [x0, x1] xc vs) ?_
  refine me_seg 4 (pc1 := 10) (ls1 := [some (.ref 138), some (.int 0), some (.int (-9)), none, none, none]) (st1 := []) (M1 := (mk_M c n m kk (rT K xm xi xw im le nu rf ln nn 0 [x0, x1] xc vs))) (fun f => rfl) ?_
  exact km_l1A K xm xi xw im le nu rf ln nn xc vs c n m kk hB k0 mf hL hmf0 hmb _ (km_46A K xm xi xw im le nu rf ln nn xc vs c n m kk hB hA hxw k0 mf hL hmf0 hmb) k0 0 x0 x1 (by omega)
set_option maxRecDepth 100000 in
theorem km_46BW (K : kK) (xm xi xw : List Int32) (im : Nat) (le nu rf : List Nat) (ln nn : Nat) (xc : List Int32) (vs : Int32) (c : cC) (n m kk : kG) (hB : iB le ln) (hA : iA K) (hxw : xw.length = 52) (k0 : Nat) (hL : kL le ln k0) (hkk : kmis le ln (kpos le k0) = none) (hge : ¬ kpos le (k0 + 1) < ln) (hLn : ∀ i, i ≤ k0 → kmis le ln (kpos le i) = none) (hk0 : k0 < 96) (j0 : Nat) (hj0 : j0 ≤ k0) (hwf : ∀ i, i < j0 → kwi le K i = false) (hwt : kwi le K j0 = true) (x0 x1 : Int32) : mm_E 131 46 [some (.ref 138), some (.int (nI (k0 + 1))), some (.int (-9)), none, none, none] [] (mk_M c n m kk (rT K xm xi xw im le nu rf ln nn (nI (kpos le (k0 + 1))) [x0, x1] xc vs)) (fun r M1 => r = some (.int ((-2000 : Int32) - nI (kpos le j0))) ∧ ∃ (vp2 : Int32) (xn2 : List Int32), xn2.length = 2 ∧ M1 = mk_M c n m kk (rT K xm xi (er K) im le nu rf 0 nn vp2 xn2 xc vs)) := by
  obtain ⟨b1, b2, b3⟩ := id hB
  refine me_seg 4 (pc1 := 54) (ls1 := [some (.ref 138), some (.int (nI (k0 + 1))), some (.int (-9)), none, none, none]) (st1 := [.ref 142, .ref 139]) (M1 := (mk_M c n m kk (rT K xm xi xw im le nu rf ln nn (nI (kpos le (k0 + 1))) [x0, x1] xc vs))) (fun f => rfl) ?_
  refine me_call (y := 138) (y0 := 57) (L := [some (.ref 139), some (.ref 142), none]) (rest := []) (rr := none) (M1 := (mk_M c n m kk (rT K xm xi (er K) im le nu rf ln nn (nI (kpos le (k0 + 1))) [x0, x1] xc vs))) (fun f => rfl) (rc_copies (a := 142) (b := 139) (by decide) rfl rfl (er_len hA.1) hxw) ?_
  refine me_seg 3 (pc1 := 62) (ls1 := [some (.ref 138), some (.int (nI (k0 + 1))), some (.int (-9)), none, none, none]) (st1 := []) (M1 := (mk_MR c n m kk (er K) xm xi (er K) (nI im) (le.map nI) (nu.map nI) (rf.map nI) (nI ln) (nI nn) 0 [x0, x1] xc vs)) (fun f => rfl) ?_
  refine me_M (mk_MRk c n m kk K xm xi (er K) im le nu rf ln nn 0 [x0, x1] xc vs) ?_
  exact km_l2W K xm xi xw im le nu rf ln nn xc vs c n m kk hB k0 hA hLn hk0 j0 hj0 hwf hwt j0 0 x0 x1 none none none (by omega)
set_option maxRecDepth 100000 in
theorem km_kBW (K : kK) (xm xi xw : List Int32) (im : Nat) (le nu rf : List Nat) (ln nn : Nat) (xc : List Int32) (vs : Int32) (c : cC) (n m kk : kG) (vp : Int32) (xn : List Int32) (hB : iB le ln) (hA : iA K) (hx2 : xn.length = 2) (hxw : xw.length = 52) (k0 : Nat) (hL : kL le ln k0) (hkk : kmis le ln (kpos le k0) = none) (hge : ¬ kpos le (k0 + 1) < ln) (hLn : ∀ i, i ≤ k0 → kmis le ln (kpos le i) = none) (hk0 : k0 < 96) (j0 : Nat) (hj0 : j0 ≤ k0) (hwf : ∀ i, i < j0 → kwi le K i = false) (hwt : kwi le K j0 = true) : mm_E 131 0 [some (.ref 138), none, none, none, none, none] [] (mk_M c n m kk (rT K xm xi xw im le nu rf ln nn vp xn xc vs)) (fun r M1 => r = some (.int ((-2000 : Int32) - nI (kpos le j0))) ∧ ∃ (vp2 : Int32) (xn2 : List Int32), xn2.length = 2 ∧ M1 = mk_M c n m kk (rT K xm xi (er K) im le nu rf 0 nn vp2 xn2 xc vs)) := by
  obtain ⟨x0, x1, rfl⟩ := k_two hx2
  refine me_seg 3 (pc1 := 5) (ls1 := [some (.ref 138), none, none, none, none, none]) (st1 := []) (M1 := (mk_MR c n m kk (er K) xm xi xw (nI im) (le.map nI) (nu.map nI) (rf.map nI) (nI ln) (nI nn) 0 [x0, x1] xc vs)) (fun f => rfl) ?_
  refine me_M (mk_MRk c n m kk K xm xi xw im le nu rf ln nn 0 [x0, x1] xc vs) ?_
  refine me_seg 4 (pc1 := 10) (ls1 := [some (.ref 138), some (.int 0), some (.int (-9)), none, none, none]) (st1 := []) (M1 := (mk_M c n m kk (rT K xm xi xw im le nu rf ln nn 0 [x0, x1] xc vs))) (fun f => rfl) ?_
  exact km_l1B K xm xi xw im le nu rf ln nn xc vs c n m kk hB k0 hL hkk hge _ (km_46BW K xm xi xw im le nu rf ln nn xc vs c n m kk hB hA hxw k0 hL hkk hge hLn hk0 j0 hj0 hwf hwt) k0 0 x0 x1 (by omega)
set_option maxRecDepth 100000 in
theorem km_46BO (K : kK) (xm xi xw : List Int32) (im : Nat) (le nu rf : List Nat) (ln nn : Nat) (xc : List Int32) (vs : Int32) (c : cC) (n m kk : kG) (hB : iB le ln) (hA : iA K) (hxw : xw.length = 52) (k0 : Nat) (hL : kL le ln k0) (hkk : kmis le ln (kpos le k0) = none) (hge : ¬ kpos le (k0 + 1) < ln) (hLn : ∀ i, i ≤ k0 → kmis le ln (kpos le i) = none) (hk0 : k0 < 96) (hwf : ∀ i, i < k0 + 1 → kwi le K i = false) (x0 x1 : Int32) : mm_E 131 46 [some (.ref 138), some (.int (nI (k0 + 1))), some (.int (-9)), none, none, none] [] (mk_M c n m kk (rT K xm xi xw im le nu rf ln nn (nI (kpos le (k0 + 1))) [x0, x1] xc vs)) (fun r M1 => r = some (.int (nI (k0 + 1))) ∧ ∃ (vp2 : Int32) (xn2 : List Int32), xn2.length = 2 ∧ M1 = mk_M c n m kk (rT (kks le K (k0 + 1)) xm xi (er K) im le nu rf 0 nn vp2 xn2 xc vs)) := by
  obtain ⟨b1, b2, b3⟩ := id hB
  refine me_seg 4 (pc1 := 54) (ls1 := [some (.ref 138), some (.int (nI (k0 + 1))), some (.int (-9)), none, none, none]) (st1 := [.ref 142, .ref 139]) (M1 := (mk_M c n m kk (rT K xm xi xw im le nu rf ln nn (nI (kpos le (k0 + 1))) [x0, x1] xc vs))) (fun f => rfl) ?_
  refine me_call (y := 138) (y0 := 57) (L := [some (.ref 139), some (.ref 142), none]) (rest := []) (rr := none) (M1 := (mk_M c n m kk (rT K xm xi (er K) im le nu rf ln nn (nI (kpos le (k0 + 1))) [x0, x1] xc vs))) (fun f => rfl) (rc_copies (a := 142) (b := 139) (by decide) rfl rfl (er_len hA.1) hxw) ?_
  refine me_seg 3 (pc1 := 62) (ls1 := [some (.ref 138), some (.int (nI (k0 + 1))), some (.int (-9)), none, none, none]) (st1 := []) (M1 := (mk_MR c n m kk (er K) xm xi (er K) (nI im) (le.map nI) (nu.map nI) (rf.map nI) (nI ln) (nI nn) 0 [x0, x1] xc vs)) (fun f => rfl) ?_
  refine me_M (mk_MRk c n m kk K xm xi (er K) im le nu rf ln nn 0 [x0, x1] xc vs) ?_
  exact km_l2O K xm xi xw im le nu rf ln nn xc vs c n m kk hB k0 hA hLn hk0 hge hwf (k0 + 1) 0 x0 x1 none none none (by omega)
set_option maxRecDepth 100000 in
theorem km_kBO (K : kK) (xm xi xw : List Int32) (im : Nat) (le nu rf : List Nat) (ln nn : Nat) (xc : List Int32) (vs : Int32) (c : cC) (n m kk : kG) (vp : Int32) (xn : List Int32) (hB : iB le ln) (hA : iA K) (hx2 : xn.length = 2) (hxw : xw.length = 52) (k0 : Nat) (hL : kL le ln k0) (hkk : kmis le ln (kpos le k0) = none) (hge : ¬ kpos le (k0 + 1) < ln) (hLn : ∀ i, i ≤ k0 → kmis le ln (kpos le i) = none) (hk0 : k0 < 96) (hwf : ∀ i, i < k0 + 1 → kwi le K i = false) : mm_E 131 0 [some (.ref 138), none, none, none, none, none] [] (mk_M c n m kk (rT K xm xi xw im le nu rf ln nn vp xn xc vs)) (fun r M1 => r = some (.int (nI (k0 + 1))) ∧ ∃ (vp2 : Int32) (xn2 : List Int32), xn2.length = 2 ∧ M1 = mk_M c n m kk (rT (kks le K (k0 + 1)) xm xi (er K) im le nu rf 0 nn vp2 xn2 xc vs)) := by
  obtain ⟨x0, x1, rfl⟩ := k_two hx2
  refine me_seg 3 (pc1 := 5) (ls1 := [some (.ref 138), none, none, none, none, none]) (st1 := []) (M1 := (mk_MR c n m kk (er K) xm xi xw (nI im) (le.map nI) (nu.map nI) (rf.map nI) (nI ln) (nI nn) 0 [x0, x1] xc vs)) (fun f => rfl) ?_
  refine me_M (mk_MRk c n m kk K xm xi xw im le nu rf ln nn 0 [x0, x1] xc vs) ?_
  refine me_seg 4 (pc1 := 10) (ls1 := [some (.ref 138), some (.int 0), some (.int (-9)), none, none, none]) (st1 := []) (M1 := (mk_M c n m kk (rT K xm xi xw im le nu rf ln nn 0 [x0, x1] xc vs))) (fun f => rfl) ?_
  exact km_l1B K xm xi xw im le nu rf ln nn xc vs c n m kk hB k0 hL hkk hge _ (km_46BO K xm xi xw im le nu rf ln nn xc vs c n m kk hB hA hxw k0 hL hkk hge hLn hk0 hwf) k0 0 x0 x1 (by omega)
set_option maxRecDepth 100000 in
theorem kc_faA (K : kK) (im : Nat) (le : List Nat) (ln : Nat) (ys : List Int32) (vt : Int32) (nu : List Nat) (nn : Nat) (rf : List Nat) (vw vq : Int32) (yc yh yg : List Int32) (m kk : kG) (q : cR) (hB : iB le ln) (hA : iA K) (hy : ys.length = 96) (k0 mf : Nat) (hL : kL le ln k0) (hmf0 : kmis le ln (kpos le k0) = some mf) (hmb : mf < 1000) : mm_E 15 0 [some (.ref 101), some (.ref 117), none, none] [] (mk_M (cT im le ln ys vt nu nn rf vw vq yc yh yg) (kr K) m kk q) (fun r M1 => r = some (.int ((-1000 : Int32) - (nI mf))) ∧ ∃ (ys2 : List Int32) (vt2 : Int32), ys2.length = 96 ∧ M1 = mk_M (cT im le ln ys2 vt2 nu nn rf vw vq yc yh yg) (kr K) m kk q) := by
  obtain ⟨b1, b2, b3⟩ := id hB
  refine me_seg 1 (pc1 := 1) (ls1 := [some (.ref 101), some (.ref 117), none, none]) (st1 := [.ref 101]) (M1 := (mk_M (cT im le ln ys vt nu nn rf vw vq yc yh yg) (kr K) m kk q)) (fun f => rfl) ?_
  refine me_callE (y := 16) (y0 := 4) (L := [some (.ref 101), none, none]) (rest := []) (fun f => rfl) (kd_fmA im le ln nu nn rf vw vq yc yh yg (kr K) m kk q ys vt hB hy k0 mf hL hmf0 hmb) ?_
  rintro _ _ ⟨rfl, ys2, vt2, hy2, rfl⟩
  refine me_seg 3 (pc1 := 8) (ls1 := [some (.ref 101), some (.ref 117), some (.int (nI mf)), none]) (st1 := [.int (-9), .int (nI mf)]) (M1 := (mk_M (cT im le ln ys2 vt2 nu nn rf vw vq yc yh yg) (kr K) m kk q)) (fun f => rfl) ?_
  refine me_f (C := (nI mf) = (-9)) (k_nc (by omega) (by decide)) (fun f => rfl) ?_
  refine me_ret 4 (r := some (.int (((-1000) : Int32) - (nI mf)))) (M1 := (mk_M (cT im le ln ys2 vt2 nu nn rf vw vq yc yh yg) (kr K) m kk q)) (fun f => rfl) ?_
  exact ⟨rfl, ys2, vt2, hy2, rfl⟩
set_option maxRecDepth 100000 in
theorem kc_kA (K : kK) (im : Nat) (le : List Nat) (ln : Nat) (ys : List Int32) (vt : Int32) (nu : List Nat) (nn : Nat) (rf : List Nat) (vw vq : Int32) (yc yh yg : List Int32) (m kk : kG) (q : cR) (hB : iB le ln) (hA : iA K) (hy : ys.length = 96) (k0 mf : Nat) (hL : kL le ln k0) (hmf0 : kmis le ln (kpos le k0) = some mf) (hmb : mf < 1000) : mm_E 14 0 [some (.ref 100), none] [] (mk_M (cT im le ln ys vt nu nn rf vw vq yc yh yg) (kr K) m kk q) (fun r M1 => r = some (.int ((-1000 : Int32) - nI mf)) ∧ ∃ (ys2 : List Int32) (vt2 : Int32), ys2.length = 96 ∧ M1 = mk_M (cT im le 0 ys2 vt2 nu nn rf vw vq yc yh yg) (kr K) m kk q) := by
  obtain ⟨b1, b2, b3⟩ := id hB
  refine me_seg 4 (pc1 := 8) (ls1 := [some (.ref 100), none]) (st1 := [.ref 117, .ref 101]) (M1 := (mk_M (cT im le ln ys vt nu nn rf vw vq yc yh yg) (kr K) m kk q)) (fun f => rfl) ?_
  refine me_callE (y := 15) (y0 := 11) (L := [some (.ref 101), some (.ref 117), none, none]) (rest := []) (fun f => rfl) (kc_faA K im le ln ys vt nu nn rf vw vq yc yh yg m kk q hB hA hy k0 mf hL hmf0 hmb) ?_
  rintro _ _ ⟨rfl, ys2, vt2, hy2, rfl⟩
  generalize hfv : (-1000 : Int32) - (nI mf) = fv
  refine me_seg 3 (pc1 := 15) (ls1 := [some (.ref 100), some (.int fv)]) (st1 := [.int (-9), .int fv]) (M1 := (mk_M (cT im le ln ys2 vt2 nu nn rf vw vq yc yh yg) (kr K) m kk q)) (fun f => rfl) ?_
  refine me_f (C := fv = (-9)) (by rw [← hfv]; exact k_f1 (by omega)) (fun f => rfl) ?_
  refine me_ret 6 (r := some (.int fv)) (M1 := (mk_M (cT im le 0 ys2 vt2 nu nn rf vw vq yc yh yg) (kr K) m kk q)) (fun f => rfl) ?_
  exact ⟨rfl, ys2, _, hy2, rfl⟩
set_option maxRecDepth 100000 in
theorem kc_faBW (K : kK) (im : Nat) (le : List Nat) (ln : Nat) (ys : List Int32) (vt : Int32) (nu : List Nat) (nn : Nat) (rf : List Nat) (vw vq : Int32) (yc yh yg : List Int32) (m kk : kG) (q : cR) (hB : iB le ln) (hA : iA K) (hy : ys.length = 96) (k0 : Nat) (hL : kL le ln k0) (hkk : kmis le ln (kpos le k0) = none) (hge : ¬ kpos le (k0 + 1) < ln) (hLn : ∀ i, i ≤ k0 → kmis le ln (kpos le i) = none) (hk0 : k0 < 96) (j0 : Nat) (hj0 : j0 ≤ k0) (hwf : ∀ i, i < j0 → kwi le K i = false) (hwt : kwi le K j0 = true) : mm_E 15 0 [some (.ref 101), some (.ref 117), none, none] [] (mk_M (cT im le ln ys vt nu nn rf vw vq yc yh yg) (kr K) m kk q) (fun r M1 => r = some (.int ((-2000 : Int32) - (nI (kpos le j0)))) ∧ ∃ (ys2 : List Int32) (vt2 : Int32), ys2.length = 96 ∧ M1 = mk_M (cT im le ln ys2 vt2 nu nn rf vw vq yc yh yg) (kr K) m kk q) := by
  obtain ⟨b1, b2, b3⟩ := id hB
  have hkj := kmis_lt (hLn j0 hj0)
  refine me_seg 1 (pc1 := 1) (ls1 := [some (.ref 101), some (.ref 117), none, none]) (st1 := [.ref 101]) (M1 := (mk_M (cT im le ln ys vt nu nn rf vw vq yc yh yg) (kr K) m kk q)) (fun f => rfl) ?_
  refine me_callE (y := 16) (y0 := 4) (L := [some (.ref 101), none, none]) (rest := []) (fun f => rfl) (kd_fmB im le ln nu nn rf vw vq yc yh yg (kr K) m kk q ys vt hB hy k0 hL hkk hge) ?_
  rintro _ _ ⟨rfl, ys2, hy2, hys, rfl⟩
  refine me_seg 6 (pc1 := 19) (ls1 := [some (.ref 101), some (.ref 117), some (.int (-9)), none]) (st1 := [.ref 117, .ref 101]) (M1 := (mk_M (cT im le ln ys2 (nI (k0 + 1)) nu nn rf vw vq yc yh yg) (kr K) m kk q)) (fun f => rfl) ?_
  refine me_call (y := 33) (y0 := 22) (L := [some (.ref 101), some (.ref 117), none, none, none, none]) (rest := []) (rr := some (.int (nI (kpos le j0)))) (M1 := (mk_M (cT im le ln ys2 (nI (k0 + 1)) nu nn rf vw vq yc yh yg) (kr K) m kk q)) (fun f => rfl) (kd_fwW im le ln ys2 nu nn rf vw vq yc yh yg m kk q hB k0 K hA hLn hk0 hy2 hys j0 hj0 hwf hwt) ?_
  refine me_seg 3 (pc1 := 26) (ls1 := [some (.ref 101), some (.ref 117), some (.int (-9)), some (.int (nI (kpos le j0)))]) (st1 := [.int (-9), .int (nI (kpos le j0))]) (M1 := (mk_M (cT im le ln ys2 (nI (k0 + 1)) nu nn rf vw vq yc yh yg) (kr K) m kk q)) (fun f => rfl) ?_
  refine me_f (C := (nI (kpos le j0)) = (-9)) (k_nc (by omega) (by decide)) (fun f => rfl) ?_
  refine me_ret 4 (r := some (.int (((-2000) : Int32) - (nI (kpos le j0))))) (M1 := (mk_M (cT im le ln ys2 (nI (k0 + 1)) nu nn rf vw vq yc yh yg) (kr K) m kk q)) (fun f => rfl) ?_
  exact ⟨rfl, ys2, _, hy2, rfl⟩
set_option maxRecDepth 100000 in
theorem kc_kBW (K : kK) (im : Nat) (le : List Nat) (ln : Nat) (ys : List Int32) (vt : Int32) (nu : List Nat) (nn : Nat) (rf : List Nat) (vw vq : Int32) (yc yh yg : List Int32) (m kk : kG) (q : cR) (hB : iB le ln) (hA : iA K) (hy : ys.length = 96) (k0 : Nat) (hL : kL le ln k0) (hkk : kmis le ln (kpos le k0) = none) (hge : ¬ kpos le (k0 + 1) < ln) (hLn : ∀ i, i ≤ k0 → kmis le ln (kpos le i) = none) (hk0 : k0 < 96) (j0 : Nat) (hj0 : j0 ≤ k0) (hwf : ∀ i, i < j0 → kwi le K i = false) (hwt : kwi le K j0 = true) : mm_E 14 0 [some (.ref 100), none] [] (mk_M (cT im le ln ys vt nu nn rf vw vq yc yh yg) (kr K) m kk q) (fun r M1 => r = some (.int ((-2000 : Int32) - nI (kpos le j0))) ∧ ∃ (ys2 : List Int32) (vt2 : Int32), ys2.length = 96 ∧ M1 = mk_M (cT im le 0 ys2 vt2 nu nn rf vw vq yc yh yg) (kr K) m kk q) := by
  obtain ⟨b1, b2, b3⟩ := id hB
  have hkj := kmis_lt (hLn j0 hj0)
  refine me_seg 4 (pc1 := 8) (ls1 := [some (.ref 100), none]) (st1 := [.ref 117, .ref 101]) (M1 := (mk_M (cT im le ln ys vt nu nn rf vw vq yc yh yg) (kr K) m kk q)) (fun f => rfl) ?_
  refine me_callE (y := 15) (y0 := 11) (L := [some (.ref 101), some (.ref 117), none, none]) (rest := []) (fun f => rfl) (kc_faBW K im le ln ys vt nu nn rf vw vq yc yh yg m kk q hB hA hy k0 hL hkk hge hLn hk0 j0 hj0 hwf hwt) ?_
  rintro _ _ ⟨rfl, ys2, vt2, hy2, rfl⟩
  generalize hfv : (-2000 : Int32) - (nI (kpos le j0)) = fv
  refine me_seg 3 (pc1 := 15) (ls1 := [some (.ref 100), some (.int fv)]) (st1 := [.int (-9), .int fv]) (M1 := (mk_M (cT im le ln ys2 vt2 nu nn rf vw vq yc yh yg) (kr K) m kk q)) (fun f => rfl) ?_
  refine me_f (C := fv = (-9)) (by rw [← hfv]; exact k_f2 (by omega)) (fun f => rfl) ?_
  refine me_ret 6 (r := some (.int fv)) (M1 := (mk_M (cT im le 0 ys2 vt2 nu nn rf vw vq yc yh yg) (kr K) m kk q)) (fun f => rfl) ?_
  exact ⟨rfl, ys2, _, hy2, rfl⟩
set_option maxRecDepth 100000 in
theorem kc_faBO (K : kK) (im : Nat) (le : List Nat) (ln : Nat) (ys : List Int32) (vt : Int32) (nu : List Nat) (nn : Nat) (rf : List Nat) (vw vq : Int32) (yc yh yg : List Int32) (m kk : kG) (q : cR) (hB : iB le ln) (hA : iA K) (hy : ys.length = 96) (k0 : Nat) (hL : kL le ln k0) (hkk : kmis le ln (kpos le k0) = none) (hge : ¬ kpos le (k0 + 1) < ln) (hLn : ∀ i, i ≤ k0 → kmis le ln (kpos le i) = none) (hk0 : k0 < 96) (hwf : ∀ i, i < k0 + 1 → kwi le K i = false) : mm_E 15 0 [some (.ref 101), some (.ref 117), none, none] [] (mk_M (cT im le ln ys vt nu nn rf vw vq yc yh yg) (kr K) m kk q) (fun r M1 => r = some (.int (-9)) ∧ ∃ (ys2 : List Int32) (vt2 : Int32), ys2.length = 96 ∧ (∀ i, i ≤ k0 → ys2[i]? = some (nI (kpos le i))) ∧ vt2 = nI (k0 + 1) ∧ M1 = mk_M (cT im le ln ys2 vt2 nu nn rf vw vq yc yh yg) (kr K) m kk q) := by
  obtain ⟨b1, b2, b3⟩ := id hB
  refine me_seg 1 (pc1 := 1) (ls1 := [some (.ref 101), some (.ref 117), none, none]) (st1 := [.ref 101]) (M1 := (mk_M (cT im le ln ys vt nu nn rf vw vq yc yh yg) (kr K) m kk q)) (fun f => rfl) ?_
  refine me_callE (y := 16) (y0 := 4) (L := [some (.ref 101), none, none]) (rest := []) (fun f => rfl) (kd_fmB im le ln nu nn rf vw vq yc yh yg (kr K) m kk q ys vt hB hy k0 hL hkk hge) ?_
  rintro _ _ ⟨rfl, ys2, hy2, hys, rfl⟩
  refine me_seg 6 (pc1 := 19) (ls1 := [some (.ref 101), some (.ref 117), some (.int (-9)), none]) (st1 := [.ref 117, .ref 101]) (M1 := (mk_M (cT im le ln ys2 (nI (k0 + 1)) nu nn rf vw vq yc yh yg) (kr K) m kk q)) (fun f => rfl) ?_
  refine me_call (y := 33) (y0 := 22) (L := [some (.ref 101), some (.ref 117), none, none, none, none]) (rest := []) (rr := some (.int (-9))) (M1 := (mk_M (cT im le ln ys2 (nI (k0 + 1)) nu nn rf vw vq yc yh yg) (kr K) m kk q)) (fun f => rfl) (kd_fwO im le ln ys2 nu nn rf vw vq yc yh yg m kk q hB k0 K hA hLn hk0 hy2 hys hwf) ?_
  refine me_ret 7 (r := some (.int (-9))) (M1 := (mk_M (cT im le ln ys2 (nI (k0 + 1)) nu nn rf vw vq yc yh yg) (kr K) m kk q)) (fun f => rfl) ?_
  exact ⟨rfl, ys2, _, hy2, hys, rfl, rfl⟩
set_option maxRecDepth 100000 in
theorem kc_kBO (K : kK) (im : Nat) (le : List Nat) (ln : Nat) (ys : List Int32) (vt : Int32) (nu : List Nat) (nn : Nat) (rf : List Nat) (vw vq : Int32) (yc yh yg : List Int32) (m kk : kG) (q : cR) (hB : iB le ln) (hA : iA K) (hy : ys.length = 96) (k0 : Nat) (hL : kL le ln k0) (hkk : kmis le ln (kpos le k0) = none) (hge : ¬ kpos le (k0 + 1) < ln) (hLn : ∀ i, i ≤ k0 → kmis le ln (kpos le i) = none) (hk0 : k0 < 96) (hwf : ∀ i, i < k0 + 1 → kwi le K i = false) : mm_E 14 0 [some (.ref 100), none] [] (mk_M (cT im le ln ys vt nu nn rf vw vq yc yh yg) (kr K) m kk q) (fun r M1 => r = some (.int (nI (k0 + 1))) ∧ ∃ (ys2 : List Int32) (vt2 : Int32), ys2.length = 96 ∧ M1 = mk_M (cT im le 0 ys2 vt2 nu nn rf vw vq yc yh yg) (kr (kks le K (k0 + 1))) m kk q) := by
  obtain ⟨b1, b2, b3⟩ := id hB
  refine me_seg 4 (pc1 := 8) (ls1 := [some (.ref 100), none]) (st1 := [.ref 117, .ref 101]) (M1 := (mk_M (cT im le ln ys vt nu nn rf vw vq yc yh yg) (kr K) m kk q)) (fun f => rfl) ?_
  refine me_callE (y := 15) (y0 := 11) (L := [some (.ref 101), some (.ref 117), none, none]) (rest := []) (fun f => rfl) (kc_faBO K im le ln ys vt nu nn rf vw vq yc yh yg m kk q hB hA hy k0 hL hkk hge hLn hk0 hwf) ?_
  rintro _ _ ⟨rfl, ys2, vt2, hy2, hys, rfl, rfl⟩
  refine me_seg 8 (pc1 := 26) (ls1 := [some (.ref 100), some (.int (-9))]) (st1 := [.ref 117, .ref 101]) (M1 := (mk_M (cT im le ln ys2 (nI (k0 + 1)) nu nn rf vw vq yc yh yg) (kr K) m kk q)) (fun f => rfl) ?_
  refine me_call (y := 38) (y0 := 29) (L := [some (.ref 101), some (.ref 117), none]) (rest := []) (rr := some (.int (nI (k0 + 1)))) (M1 := (mk_M (cT im le ln ys2 (nI (k0 + 1)) nu nn rf vw vq yc yh yg) (kr (kks le K (k0 + 1))) m kk q)) (fun f => rfl) (kd_tt im le ln ys2 nu nn rf vw vq yc yh yg m kk q hB k0 K hA hLn hk0 hy2 hys hwf) ?_
  refine me_ret 7 (r := some (.int (nI (k0 + 1)))) (M1 := (mk_M (cT im le 0 ys2 (nI (k0 + 1)) nu nn rf vw vq yc yh yg) (kr (kks le K (k0 + 1))) m kk q)) (fun f => rfl) ?_
  exact ⟨rfl, ys2, _, hy2, rfl⟩
theorem kmf_b2 (le : List Nat) (ln p mf : Nat) : ∀ (l : List Nat) (i : Nat), kmf le ln p l i = some mf → mf < p + 1 + i + l.length
  | [], i, h => by cases h
  | s :: l, i, h => by
    have h' : (if p + 1 + i < ln ∧ kfit s (kg le (p + 1 + i)) = true then kmf le ln p l (i + 1) else some (p + 1 + i)) = some mf := h
    by_cases q : p + 1 + i < ln ∧ kfit s (kg le (p + 1 + i)) = true
    · rw [if_pos q] at h'
      have := kmf_b2 le ln p mf l (i + 1) h'
      rw [List.length_cons]
      omega
    · rw [if_neg q] at h'
      cases h'
      rw [List.length_cons]
      omega
theorem kmis_b {le : List Nat} {ln k0 mf : Nat} (hB : iB le ln) (hb : k0 ≤ kpos le k0 ∧ (k0 = 0 ∨ kpos le k0 < ln) ∧ kpos le k0 ≤ ln) (h : kmis le ln (kpos le k0) = some mf) : mf < 1000 := by
  have hln := hB.2.2
  have hp : kpos le k0 < 97 := by omega
  by_cases h0 : kpos le k0 < ln
  · rcases kshr_c (kg le (kpos le k0)) with q | q | q | q | q
    · rw [kmis_1 h0 q] at h
      have := kmf_b2 _ _ _ _ _ _ h
      simp only [List.length_cons, List.length_nil] at this
      omega
    · rw [kmis_2 h0 q] at h
      have := kmf_b2 _ _ _ _ _ _ h
      simp only [List.length_cons, List.length_nil] at this
      omega
    · rw [kmis_3 h0 q] at h
      have := kmf_b2 _ _ _ _ _ _ h
      simp only [List.length_cons, List.length_nil] at this
      omega
    · rw [kmis_4 h0 q] at h
      have := kmf_b2 _ _ _ _ _ _ h
      simp only [List.length_cons, List.length_nil] at this
      omega
    · rw [kmis_5 h0 q] at h
      cases h
      omega
  · rw [kmis_0 h0] at h
    cases h
    omega
theorem op_kingdom (K : kK) (m : kG) (kk : kG) (im : Nat) (le : List Nat) (ln : Nat) (ys : List Int32) (vt : Int32) (nu : List Nat) (nn : Nat) (rf : List Nat) (vw : Int32) (vq : Int32) (yc : List Int32) (yh : List Int32) (yg : List Int32) (xm : List Int32) (xi : List Int32) (xw : List Int32) (vp : Int32) (xn : List Int32) (xc : List Int32) (vs : Int32) (hA : iA K) (hB : iB le ln) (hC : iC nu nn) (hD : iD rf) (hJ : iJ m ys yc yh yg) (hR : iR xm xw xn xc) (hK : iK im kk xi) : oI 14 131 [some (.ref 100), none] [some (.ref 138), none, none, none, none, none] (mk_M (cT im le ln ys vt nu nn rf vw vq yc yh yg) (kr K) m kk (rT K xm xi xw im le nu rf ln nn vp xn xc vs)) := by
  obtain ⟨k0, hL, h⟩ := kAB le ln
  have hb0 := kpos_le hL k0 (Nat.le_refl k0)
  have hln := hB.2.2
  rcases h with ⟨mf, hmf⟩ | ⟨hkk, hge⟩
  · have hmb : mf < 1000 := kmis_b hB hb0 hmf
    obtain ⟨_, _, rc, rfl, ys2, vt2, hy2, rfl⟩ := kc_kA K im le ln ys vt nu nn rf vw vq yc yh yg m kk _ hB hA hJ.2.1 k0 mf hL hmf hmb
    obtain ⟨_, _, rm, rfl, vp2, xn2, hxn, rfl⟩ := km_kA K xm xi xw im le nu rf ln nn xc vs (cT im le 0 ys2 vt2 nu nn rf vw vq yc yh yg) (kr K) m kk vp xn hB hA hR.2.2.1 hR.2.1 k0 mf hL hmf hmb
    exact ⟨_, _, _, rc, rm, K, m, kk, im, le, 0, ys2, vt2, nu, nn, rf, vw, vq, yc, yh, yg, xm, xi, er K, vp2, xn2, xc, vs, rfl, hA, ⟨hB.1, hB.2.1, Nat.zero_le 96⟩, hC, hD, ⟨hJ.1, hy2, hJ.2.2⟩, ⟨hR.1, er_len hA.1, hxn, hR.2.2.2⟩, hK⟩
  · have hkl := kmis_lt hkk
    have hk0 : k0 < 96 := by omega
    have hLn : ∀ i, i ≤ k0 → kmis le ln (kpos le i) = none := fun i hi => by
      by_cases e : i = k0
      · rw [e]; exact hkk
      · exact (hL i (by omega)).1
    rcases kWO le K (k0 + 1) with hwf | ⟨j0, hj, hwf, hwt⟩
    · obtain ⟨_, _, rc, rfl, ys2, vt2, hy2, rfl⟩ := kc_kBO K im le ln ys vt nu nn rf vw vq yc yh yg m kk _ hB hA hJ.2.1 k0 hL hkk hge hLn hk0 hwf
      obtain ⟨_, _, rm, rfl, vp2, xn2, hxn, rfl⟩ := km_kBO K xm xi xw im le nu rf ln nn xc vs (cT im le 0 ys2 vt2 nu nn rf vw vq yc yh yg) (kr (kks le K (k0 + 1))) m kk vp xn hB hA hR.2.2.1 hR.2.1 k0 hL hkk hge hLn hk0 hwf
      exact ⟨_, _, _, rc, rm, kks le K (k0 + 1), m, kk, im, le, 0, ys2, vt2, nu, nn, rf, vw, vq, yc, yh, yg, xm, xi, er K, vp2, xn2, xc, vs, rfl, kks_A (n := k0 + 1) hB.2.1 (fun i h => hLn i (by omega)) hA hwf (k0 + 1) (by omega), ⟨hB.1, hB.2.1, Nat.zero_le 96⟩, hC, hD, ⟨hJ.1, hy2, hJ.2.2⟩, ⟨hR.1, er_len hA.1, hxn, hR.2.2.2⟩, hK⟩
    · have hj0 : j0 ≤ k0 := by omega
      obtain ⟨_, _, rc, rfl, ys2, vt2, hy2, rfl⟩ := kc_kBW K im le ln ys vt nu nn rf vw vq yc yh yg m kk _ hB hA hJ.2.1 k0 hL hkk hge hLn hk0 j0 hj0 hwf hwt
      obtain ⟨_, _, rm, rfl, vp2, xn2, hxn, rfl⟩ := km_kBW K xm xi xw im le nu rf ln nn xc vs (cT im le 0 ys2 vt2 nu nn rf vw vq yc yh yg) (kr K) m kk vp xn hB hA hR.2.2.1 hR.2.1 k0 hL hkk hge hLn hk0 j0 hj0 hwf hwt
      exact ⟨_, _, _, rc, rm, K, m, kk, im, le, 0, ys2, vt2, nu, nn, rf, vw, vq, yc, yh, yg, xm, xi, er K, vp2, xn2, xc, vs, rfl, hA, ⟨hB.1, hB.2.1, Nat.zero_le 96⟩, hC, hD, ⟨hJ.1, hy2, hJ.2.2⟩, ⟨hR.1, er_len hA.1, hxn, hR.2.2.2⟩, hK⟩
