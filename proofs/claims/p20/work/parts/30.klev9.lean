/-! ===== letters: statements, what they say ===== -/
def kshr (c : Nat) : Nat := if c = 99 then 1 else if c = 109 then 2 else if c = 120 then 3 else if c = 107 then 4 else if c = 98 then 4 else if c = 103 then 4 else if c = 119 then 4 else if c = 115 then 4 else 5
def kshl : Nat → List Nat
  | 1 => [57, 57, 57, 59]
  | 2 => [75, 57, 59]
  | 3 => [57, 59]
  | 4 => [57, 57, 59]
  | _ => []
def kkind (c : Nat) : Option Nat := if c = 109 then some 0 else if c = 108 then some 1 else if c = 115 then some 2 else if c = 100 then some 3 else if c = 114 then some 4 else if c = 111 then some 5 else none
def kfit (s x : Nat) : Bool := cond (Nat.beq s 57) (Nat.ble 48 x && Nat.ble x 57) (cond (Nat.beq s 75) (kkind x).isSome (Nat.beq x s))
def kI1 (o : Option Nat) : Int32 := match o with
  | some n => nI n
  | none => -1
theorem kfit_9 {x : Nat} : kfit 57 x = true ↔ 48 ≤ x ∧ x ≤ 57 := by
  show (Nat.ble 48 x && Nat.ble x 57) = true ↔ _
  rw [Bool.and_eq_true]
  exact ⟨fun h => ⟨Nat.le_of_ble_eq_true h.1, Nat.le_of_ble_eq_true h.2⟩, fun h => ⟨Nat.ble_eq_true_of_le h.1, Nat.ble_eq_true_of_le h.2⟩⟩
theorem kfit_s {x : Nat} : kfit 59 x = true ↔ x = 59 := by
  show Nat.beq x 59 = true ↔ _
  exact ⟨Nat.eq_of_beq_eq_true, fun h => by subst h; rfl⟩
theorem kfit_K {x : Nat} : kfit 75 x = true ↔ ∃ k, kkind x = some k := by
  show (kkind x).isSome = true ↔ _
  exact Option.isSome_iff_exists
theorem kkind_le {x k : Nat} (h : kkind x = some k) : k ≤ 5 ∧ 100 ≤ x ∧ x ≤ 115 := by
  unfold kkind at h
  split at h
  · cases h; omega
  · split at h
    · cases h; omega
    · split at h
      · cases h; omega
      · split at h
        · cases h; omega
        · split at h
          · cases h; omega
          · split at h
            · cases h; omega
            · cases h
def kmf (le : List Nat) (ln p : Nat) : List Nat → Nat → Option Nat
  | [], _ => none
  | s :: l, i => if p + 1 + i < ln ∧ kfit s (kg le (p + 1 + i)) = true then kmf le ln p l (i + 1) else some (p + 1 + i)
def kmis (le : List Nat) (ln p : Nat) : Option Nat := if p < ln then (match kshl (kshr (kg le p)) with
  | [] => some p
  | s :: l => kmf le ln p (s :: l) 0) else some p
section KM
variable {le : List Nat} {ln p : Nat}
theorem kmf_t {s : Nat} {l : List Nat} (i : Nat) (h1 : p + 1 + i < ln) (h2 : kfit s (kg le (p + 1 + i)) = true) : kmf le ln p (s :: l) i = kmf le ln p l (i + 1) := if_pos ⟨h1, h2⟩
theorem kmf_e {s : Nat} {l : List Nat} (i : Nat) (h : ¬ p + 1 + i < ln) : kmf le ln p (s :: l) i = some (p + 1 + i) := if_neg (fun q => h q.1)
theorem kmf_b {s : Nat} {l : List Nat} (i : Nat) (h : kfit s (kg le (p + 1 + i)) = false) : kmf le ln p (s :: l) i = some (p + 1 + i) := if_neg (fun q => by rw [h] at q; cases q.2)
theorem kmf_n {s : Nat} {l : List Nat} {i : Nat} (h : kmf le ln p (s :: l) i = none) : p + 1 + i < ln ∧ kfit s (kg le (p + 1 + i)) = true ∧ kmf le ln p l (i + 1) = none := by
  have h' : (if p + 1 + i < ln ∧ kfit s (kg le (p + 1 + i)) = true then kmf le ln p l (i + 1) else some (p + 1 + i)) = none := h
  by_cases q : p + 1 + i < ln ∧ kfit s (kg le (p + 1 + i)) = true
  · rw [if_pos q] at h'
    exact ⟨q.1, q.2, h'⟩
  · rw [if_neg q] at h'
    cases h'
theorem kmis_0 (h : ¬ p < ln) : kmis le ln p = some p := if_neg h
theorem kmis_5 (h : p < ln) (hs : kshr (kg le p) = 5) : kmis le ln p = some p := by
  unfold kmis
  rw [if_pos h, hs]
  rfl
theorem kmis_lt (h : kmis le ln p = none) : p < ln := by
  by_cases q : p < ln
  · exact q
  · rw [kmis_0 q] at h
    cases h
theorem kmis_1 (h : p < ln) (hs : kshr (kg le p) = 1) : kmis le ln p = kmf le ln p [57, 57, 57, 59] 0 := by
  unfold kmis
  rw [if_pos h, hs]
  rfl
theorem kok_1 (h : kmis le ln p = none) (hs : kshr (kg le p) = 1) : p + 4 < ln ∧ 48 ≤ kg le (p + 1) ∧ kg le (p + 1) ≤ 57 ∧ 48 ≤ kg le (p + 2) ∧ kg le (p + 2) ≤ 57 ∧ 48 ≤ kg le (p + 3) ∧ kg le (p + 3) ≤ 57 ∧ kg le (p + 4) = 59 := by
  rw [kmis_1 (kmis_lt h) hs] at h
  obtain ⟨a0, b0, h⟩ := kmf_n h
  obtain ⟨a1, b1, h⟩ := kmf_n h
  obtain ⟨a2, b2, h⟩ := kmf_n h
  obtain ⟨a3, b3, h⟩ := kmf_n h
  exact ⟨by omega, (kfit_9.mp b0).1, (kfit_9.mp b0).2, (kfit_9.mp b1).1, (kfit_9.mp b1).2, (kfit_9.mp b2).1, (kfit_9.mp b2).2, kfit_s.mp b3⟩
theorem kmis_2 (h : p < ln) (hs : kshr (kg le p) = 2) : kmis le ln p = kmf le ln p [75, 57, 59] 0 := by
  unfold kmis
  rw [if_pos h, hs]
  rfl
theorem kok_2 (h : kmis le ln p = none) (hs : kshr (kg le p) = 2) : p + 3 < ln ∧ (∃ k, kkind (kg le (p + 1)) = some k) ∧ 48 ≤ kg le (p + 2) ∧ kg le (p + 2) ≤ 57 ∧ kg le (p + 3) = 59 := by
  rw [kmis_2 (kmis_lt h) hs] at h
  obtain ⟨a0, b0, h⟩ := kmf_n h
  obtain ⟨a1, b1, h⟩ := kmf_n h
  obtain ⟨a2, b2, h⟩ := kmf_n h
  exact ⟨by omega, kfit_K.mp b0, (kfit_9.mp b1).1, (kfit_9.mp b1).2, kfit_s.mp b2⟩
theorem kmis_3 (h : p < ln) (hs : kshr (kg le p) = 3) : kmis le ln p = kmf le ln p [57, 59] 0 := by
  unfold kmis
  rw [if_pos h, hs]
  rfl
theorem kok_3 (h : kmis le ln p = none) (hs : kshr (kg le p) = 3) : p + 2 < ln ∧ 48 ≤ kg le (p + 1) ∧ kg le (p + 1) ≤ 57 ∧ kg le (p + 2) = 59 := by
  rw [kmis_3 (kmis_lt h) hs] at h
  obtain ⟨a0, b0, h⟩ := kmf_n h
  obtain ⟨a1, b1, h⟩ := kmf_n h
  exact ⟨by omega, (kfit_9.mp b0).1, (kfit_9.mp b0).2, kfit_s.mp b1⟩
theorem kmis_4 (h : p < ln) (hs : kshr (kg le p) = 4) : kmis le ln p = kmf le ln p [57, 57, 59] 0 := by
  unfold kmis
  rw [if_pos h, hs]
  rfl
theorem kok_4 (h : kmis le ln p = none) (hs : kshr (kg le p) = 4) : p + 3 < ln ∧ 48 ≤ kg le (p + 1) ∧ kg le (p + 1) ≤ 57 ∧ 48 ≤ kg le (p + 2) ∧ kg le (p + 2) ≤ 57 ∧ kg le (p + 3) = 59 := by
  rw [kmis_4 (kmis_lt h) hs] at h
  obtain ⟨a0, b0, h⟩ := kmf_n h
  obtain ⟨a1, b1, h⟩ := kmf_n h
  obtain ⟨a2, b2, h⟩ := kmf_n h
  exact ⟨by omega, (kfit_9.mp b0).1, (kfit_9.mp b0).2, (kfit_9.mp b1).1, (kfit_9.mp b1).2, kfit_s.mp b2⟩
theorem kshr_c (c : Nat) : kshr c = 1 ∨ kshr c = 2 ∨ kshr c = 3 ∨ kshr c = 4 ∨ kshr c = 5 := by
  unfold kshr
  repeat' split
  all_goals omega
theorem kshr_l {c : Nat} (h : ¬ kshr c = 5) : c = 99 ∨ c = 107 ∨ c = 98 ∨ c = 103 ∨ c = 119 ∨ c = 115 ∨ c = 109 ∨ c = 120 := by
  unfold kshr at h
  repeat' split at h
  all_goals omega
theorem kmis_l (h : kmis le ln p = none) : kg le p = 99 ∨ kg le p = 107 ∨ kg le p = 98 ∨ kg le p = 103 ∨ kg le p = 119 ∨ kg le p = 115 ∨ kg le p = 109 ∨ kg le p = 120 := kshr_l (fun q => by rw [kmis_5 (kmis_lt h) q] at h; cases h)
end KM
def knx (le : List Nat) (p : Nat) : Nat := p + 1 + (kshl (kshr (kg le p))).length
theorem knx_le {le : List Nat} {ln p : Nat} (h : kmis le ln p = none) : knx le p ≤ ln ∧ p + 2 < knx le p := by
  unfold knx
  rcases kshr_c (kg le p) with q | q | q | q | q
  · have := kok_1 h q
    rw [q]
    show p + 1 + 4 ≤ ln ∧ p + 2 < p + 1 + 4
    omega
  · have := (kok_2 h q).1
    rw [q]
    show p + 1 + 3 ≤ ln ∧ p + 2 < p + 1 + 3
    omega
  · have := kok_3 h q
    rw [q]
    show p + 1 + 2 ≤ ln ∧ p + 2 < p + 1 + 2
    omega
  · have := kok_4 h q
    rw [q]
    show p + 1 + 3 ≤ ln ∧ p + 2 < p + 1 + 3
    omega
  · rw [kmis_5 (kmis_lt h) q] at h
    cases h
def kpos (le : List Nat) : Nat → Nat
  | 0 => 0
  | i + 1 => knx le (kpos le i)
def knum (le : List Nat) (p : Nat) : Nat := 10 * (kg le (p + 1) - 48) + (kg le (p + 2) - 48)
def kwr (le : List Nat) (p mi st : Nat) : Bool := if kg le p = 109 then decide (5 ≤ mi) else if kg le p = 120 then decide (mi ≤ kg le (p + 1) - 48) else if kg le p = 119 then decide (20 < knum le p) else if kg le p = 115 then decide (knum le p < 1 ∨ 60 < knum le p ∨ 999 < st + knum le p) else decide (25 ≤ knum le p)
def kapp (le : List Nat) (p : Nat) : kK → kK
  | (he, ke, ki, fi, fa, or, mi, a, g, l, w, s) => if kg le p = 99 then (he.set (knum le p) (kg le (p + 3) - 48), ke, ki, fi, fa, or, mi, a, g, l, w, s)
    else if kg le p = 107 then (he, ke.set (knum le p) (1 - kg ke (knum le p)), ki, fi, fa, or, mi, a, g, l, w, s)
    else if kg le p = 109 then (he, ke, ki.set mi ((kkind (kg le (p + 1))).getD 0), fi.set mi (kg le (p + 2) - 48), fa.set mi 0, or.set mi mi, mi + 1, a, g, l, w, s)
    else if kg le p = 98 then (he, ke, ki, fi, fa, or, mi, knum le p, g, l, w, s)
    else if kg le p = 103 then (he, ke, ki, fi, fa, or, mi, a, knum le p, l, w, s)
    else if kg le p = 119 then (he, ke, ki, fi, fa, or, mi, a, g, l, knum le p, s)
    else if kg le p = 120 then (he, ke, ki, fi, fa, klast or mi (kg le (p + 1) - 48), mi, a, g, l, w, s)
    else ksteps (knum le p) (he, ke, ki, fi, fa, or, mi, a, g, l, w, s)
theorem kwr_99 {le : List Nat} {p mi st : Nat} (h : kg le p = 99) : kwr le p mi st = decide (25 ≤ knum le p) := by
  unfold kwr
  rw [h]
  rfl
theorem kwr_107 {le : List Nat} {p mi st : Nat} (h : kg le p = 107) : kwr le p mi st = decide (25 ≤ knum le p) := by
  unfold kwr
  rw [h]
  rfl
theorem kwr_98 {le : List Nat} {p mi st : Nat} (h : kg le p = 98) : kwr le p mi st = decide (25 ≤ knum le p) := by
  unfold kwr
  rw [h]
  rfl
theorem kwr_103 {le : List Nat} {p mi st : Nat} (h : kg le p = 103) : kwr le p mi st = decide (25 ≤ knum le p) := by
  unfold kwr
  rw [h]
  rfl
theorem kwr_119 {le : List Nat} {p mi st : Nat} (h : kg le p = 119) : kwr le p mi st = decide (20 < knum le p) := by
  unfold kwr
  rw [h]
  rfl
theorem kwr_115 {le : List Nat} {p mi st : Nat} (h : kg le p = 115) : kwr le p mi st = decide (knum le p < 1 ∨ 60 < knum le p ∨ 999 < st + knum le p) := by
  unfold kwr
  rw [h]
  rfl
theorem kwr_109 {le : List Nat} {p mi st : Nat} (h : kg le p = 109) : kwr le p mi st = decide (5 ≤ mi) := by
  unfold kwr
  rw [h]
  rfl
theorem kwr_120 {le : List Nat} {p mi st : Nat} (h : kg le p = 120) : kwr le p mi st = decide (mi ≤ kg le (p + 1) - 48) := by
  unfold kwr
  rw [h]
  rfl
theorem kapp_99 {he ke ki fi fa or : List Nat} {mi a g l w s : Nat} {le : List Nat} {p : Nat} (h : kg le p = 99) : kapp le p (he, ke, ki, fi, fa, or, mi, a, g, l, w, s) = (he.set (knum le p) (kg le (p + 3) - 48), ke, ki, fi, fa, or, mi, a, g, l, w, s) := by
  unfold kapp
  simp only [h]
  rfl
theorem kapp_107 {he ke ki fi fa or : List Nat} {mi a g l w s : Nat} {le : List Nat} {p : Nat} (h : kg le p = 107) : kapp le p (he, ke, ki, fi, fa, or, mi, a, g, l, w, s) = (he, ke.set (knum le p) (1 - kg ke (knum le p)), ki, fi, fa, or, mi, a, g, l, w, s) := by
  unfold kapp
  simp only [h]
  rfl
theorem kapp_98 {he ke ki fi fa or : List Nat} {mi a g l w s : Nat} {le : List Nat} {p : Nat} (h : kg le p = 98) : kapp le p (he, ke, ki, fi, fa, or, mi, a, g, l, w, s) = (he, ke, ki, fi, fa, or, mi, knum le p, g, l, w, s) := by
  unfold kapp
  simp only [h]
  rfl
theorem kapp_103 {he ke ki fi fa or : List Nat} {mi a g l w s : Nat} {le : List Nat} {p : Nat} (h : kg le p = 103) : kapp le p (he, ke, ki, fi, fa, or, mi, a, g, l, w, s) = (he, ke, ki, fi, fa, or, mi, a, knum le p, l, w, s) := by
  unfold kapp
  simp only [h]
  rfl
theorem kapp_119 {he ke ki fi fa or : List Nat} {mi a g l w s : Nat} {le : List Nat} {p : Nat} (h : kg le p = 119) : kapp le p (he, ke, ki, fi, fa, or, mi, a, g, l, w, s) = (he, ke, ki, fi, fa, or, mi, a, g, l, knum le p, s) := by
  unfold kapp
  simp only [h]
  rfl
theorem kapp_115 {he ke ki fi fa or : List Nat} {mi a g l w s : Nat} {le : List Nat} {p : Nat} (h : kg le p = 115) : kapp le p (he, ke, ki, fi, fa, or, mi, a, g, l, w, s) = ksteps (knum le p) (he, ke, ki, fi, fa, or, mi, a, g, l, w, s) := by
  unfold kapp
  simp only [h]
  rfl
theorem kapp_109 {he ke ki fi fa or : List Nat} {mi a g l w s : Nat} {le : List Nat} {p : Nat} (h : kg le p = 109) : kapp le p (he, ke, ki, fi, fa, or, mi, a, g, l, w, s) = (he, ke, ki.set mi ((kkind (kg le (p + 1))).getD 0), fi.set mi (kg le (p + 2) - 48), fa.set mi 0, or.set mi mi, mi + 1, a, g, l, w, s) := by
  unfold kapp
  simp only [h]
  rfl
theorem kapp_120 {he ke ki fi fa or : List Nat} {mi a g l w s : Nat} {le : List Nat} {p : Nat} (h : kg le p = 120) : kapp le p (he, ke, ki, fi, fa, or, mi, a, g, l, w, s) = (he, ke, ki, fi, fa, klast or mi (kg le (p + 1) - 48), mi, a, g, l, w, s) := by
  unfold kapp
  simp only [h]
  rfl
noncomputable def mr_chr (n z : Nat) (ls : mm_L) (v : Nat) : Bool := match mm_x none n z 0 ls [] [] 0 0 with
  | some (some (.ref x), _) => Nat.beq x v
  | _ => false
theorem mr_chr_ok {n z : Nat} {ls : mm_L} {v : Nat} (h : mr_chr n z ls v = true) (M : mm_H) : mm_R z 0 ls [] M (some (.ref v), M) := by
  unfold mr_chr at h
  split at h
  · rename_i x M1 h1
    have e : x = v := Nat.eq_of_beq_eq_true h
    subst e
    exact mr_pure h1 M
  · cases h
theorem kd_shp_t0 : (List.range 64).all (fun i => mr_chr 8 18 [some (.int (nI (0 + i)))] (kshr (0 + i))) = true := by decide +kernel
theorem kd_shp_t64 : (List.range 64).all (fun i => mr_chr 8 18 [some (.int (nI (64 + i)))] (kshr (64 + i))) = true := by decide +kernel
theorem kd_shp_t128 : (List.range 64).all (fun i => mr_chr 8 18 [some (.int (nI (128 + i)))] (kshr (128 + i))) = true := by decide +kernel
theorem kd_shp_t192 : (List.range 64).all (fun i => mr_chr 8 18 [some (.int (nI (192 + i)))] (kshr (192 + i))) = true := by decide +kernel
theorem kd_shp_ok {c : Nat} (hc : c < 256) : mr_chr 8 18 [some (.int (nI c))] (kshr c) = true := by
  by_cases h0 : c < 64
  · have := k_all kd_shp_t0 (show c - 0 < 64 by omega)
    rw [show 0 + (c - 0) = c by omega] at this
    exact this
  by_cases h1 : c < 128
  · have := k_all kd_shp_t64 (show c - 64 < 64 by omega)
    rw [show 64 + (c - 64) = c by omega] at this
    exact this
  by_cases h2 : c < 192
  · have := k_all kd_shp_t128 (show c - 128 < 64 by omega)
    rw [show 128 + (c - 128) = c by omega] at this
    exact this
  by_cases h3 : c < 256
  · have := k_all kd_shp_t192 (show c - 192 < 64 by omega)
    rw [show 192 + (c - 192) = c by omega] at this
    exact this
  exact absurd hc h3
theorem kd_shp {c : Nat} (hc : c < 256) (M : mm_H) : mm_R 18 0 [some (.int (nI c))] [] M (some (.ref (kshr c)), M) := mr_chr_ok (kd_shp_ok hc) M
theorem kkind_no {x : Nat} (h : kkind x = none) : ¬ x = 109 ∧ ¬ x = 108 ∧ ¬ x = 115 ∧ ¬ x = 100 ∧ ¬ x = 114 ∧ ¬ x = 111 := by
  refine ⟨?_, ?_, ?_, ?_, ?_, ?_⟩ <;> (intro e; subst e; exact absurd h (by decide))
theorem kkind_in {x k : Nat} (h : kkind x = some k) : x = 109 ∨ x = 108 ∨ x = 115 ∨ x = 100 ∨ x = 114 ∨ x = 111 := by
  unfold kkind at h
  repeat' split at h
  all_goals first | omega | cases h
theorem kd_i2b_tt : (List.range 256).all (fun c => [109, 108, 115, 100, 114, 111].all (fun v => decide (c = v ∨ ¬ (nI v = (nI c).toInt8.toInt32)))) = true := by decide +kernel
theorem kd_i2b {c : Nat} (hc : c < 256) (v : Nat) (hv : v ∈ [109, 108, 115, 100, 114, 111]) (hn : ¬ c = v) : ¬ nI v = (nI c).toInt8.toInt32 := by
  rcases of_decide_eq_true (List.all_eq_true.mp (k_all kd_i2b_tt hc) v hv) with h | h
  · exact absurd h hn
  · exact h
theorem kd_ii {c : Nat} (hc : c < 256) (M : mm_H) : mm_R 135 0 [some (.int (nI c)), some (.int 48), some (.int 57)] [] M (some (.int (cond (kfit 57 c) 1 0)), M) := by
  cases h : kfit 57 c with
  | true =>
    have h2 := kfit_9.mp h
    exact ms_in_ok (x := nI c) (a := 48) (b := 57) (nI_ltf (a := c) (b := 48) (by omega)) (nI_ltf (a := 57) (b := c) (by omega))
  | false =>
    have h2 : ¬ (48 ≤ c ∧ c ≤ 57) := fun q => by rw [kfit_9.mpr q] at h; cases h
    by_cases h3 : c < 48
    · exact ms_in_lo (x := nI c) (a := 48) (b := 57) ((nI_lti (a := c) (b := 48) (by omega)).mpr h3)
    · exact ms_in_hi (x := nI c) (a := 48) (b := 57) (fun e_ => absurd ((nI_lti (a := c) (b := 48) (by omega)).mp e_) h3) (nI_ltt (a := 57) (b := c) (by omega))
set_option maxRecDepth 100000 in
theorem kd_fit57 {c : Nat} (hc : c < 256) (M : mm_H) : mm_R 27 0 [some (.int (nI c)), some (.int 57)] [] M (some (.int (cond (kfit 57 c) 1 0)), M) := by
  cases h : kfit 57 c with
  | true =>
    have h2 := kfit_9.mp h
    refine mr_seg 5 (pc1 := 9) (ls1 := [some (.int (nI c)), some (.int 57)]) (st1 := [.int 48, .int (nI c)]) (M1 := M) (fun f => rfl) ?_
    refine mr_f (C := (nI c) < 48) (nI_ltf (a := c) (b := 48) (by omega)) (fun f => rfl) ?_
    refine mr_seg 2 (pc1 := 15) (ls1 := [some (.int (nI c)), some (.int 57)]) (st1 := [.int 57, .int (nI c)]) (M1 := M) (fun f => rfl) ?_
    refine mr_f (C := 57 < (nI c)) (nI_ltf (a := 57) (b := c) (by omega)) (fun f => rfl) ?_
    exact mr_ret 3 (fun f => rfl)
  | false =>
    have h2 : ¬ (48 ≤ c ∧ c ≤ 57) := fun q => by rw [kfit_9.mpr q] at h; cases h
    by_cases h3 : c < 48
    case pos =>
      refine mr_seg 5 (pc1 := 9) (ls1 := [some (.int (nI c)), some (.int 57)]) (st1 := [.int 48, .int (nI c)]) (M1 := M) (fun f => rfl) ?_
      refine mr_t (C := (nI c) < 48) (nI_ltt (a := c) (b := 48) (by omega)) (fun f => rfl) ?_
      exact mr_ret 2 (fun f => rfl)
    case neg =>
      refine mr_seg 5 (pc1 := 9) (ls1 := [some (.int (nI c)), some (.int 57)]) (st1 := [.int 48, .int (nI c)]) (M1 := M) (fun f => rfl) ?_
      refine mr_f (C := (nI c) < 48) (nI_ltf (a := c) (b := 48) (by omega)) (fun f => rfl) ?_
      refine mr_seg 2 (pc1 := 15) (ls1 := [some (.int (nI c)), some (.int 57)]) (st1 := [.int 57, .int (nI c)]) (M1 := M) (fun f => rfl) ?_
      refine mr_t (C := 57 < (nI c)) (nI_ltt (a := 57) (b := c) (by omega)) (fun f => rfl) ?_
      exact mr_ret 2 (fun f => rfl)
set_option maxRecDepth 100000 in
theorem kd_fit59 {c : Nat} (hc : c < 256) (M : mm_H) : mm_R 27 0 [some (.int (nI c)), some (.int 59)] [] M (some (.int (cond (kfit 59 c) 1 0)), M) := by
  cases h : kfit 59 c with
  | true =>
    have h2 := kfit_s.mp h
    refine mr_seg 8 (pc1 := 48) (ls1 := [some (.int (nI c)), some (.int 59)]) (st1 := [.int 59, .int (nI c)]) (M1 := M) (fun f => rfl) ?_
    refine mr_t (C := (nI c) = 59) (nI_eqt (a := c) (b := 59) (by omega)) (fun f => rfl) ?_
    exact mr_ret 3 (fun f => rfl)
  | false =>
    have h2 : ¬ c = 59 := fun q => by rw [kfit_s.mpr q] at h; cases h
    refine mr_seg 8 (pc1 := 48) (ls1 := [some (.int (nI c)), some (.int 59)]) (st1 := [.int 59, .int (nI c)]) (M1 := M) (fun f => rfl) ?_
    refine mr_f (C := (nI c) = 59) (nI_eqf (a := c) (b := 59) (by omega)) (fun f => rfl) ?_
    exact mr_ret 2 (fun f => rfl)
set_option maxRecDepth 100000 in
theorem kd_io {c : Nat} (hc : c < 256) (M : mm_H) : mm_R 28 0 [some (.ref 6), some (.int (nI c))] [] M (some (.int (kI1 (kkind c))), M) := by
  cases hk : kkind c with
  | none =>
    obtain ⟨n1, n2, n3, n4, n5, n6⟩ := kkind_no hk
    refine mr_seg 3 (pc1 := 3) (ls1 := [some (.ref 6), some (.int (nI c))]) (st1 := [.int 0, .int (nI c), .ref 6]) (M1 := M) (fun f => rfl) ?_
    refine mr_call (y := 29) (y0 := 6) (L := [some (.ref 6), some (.int (nI c)), some (.int 0)]) (rest := []) (rr := some (.int (-1))) (M1 := M) (fun f => rfl) (by
        refine mr_seg 1 (pc1 := 1) (ls1 := [some (.ref 6), some (.int (nI c)), some (.int 0)]) (st1 := [.ref 6]) (M1 := M) (fun f => rfl) ?_
        refine mr_call (y := 23) (y0 := 4) (L := [some (.ref 6)]) (rest := []) (rr := some (.int 1)) (M1 := M) (fun f => rfl) (mr_chk_ok (n := 300) (z := 23) (ls := [some (.ref 6)]) (v := 1) (by decide +kernel) _) ?_
        refine mr_seg 6 (pc1 := 14) (ls1 := [some (.ref 6), some (.int (nI c)), some (.int 0)]) (st1 := [.ref 6, .int 0, .int (nI c), .ref 16]) (M1 := M) (fun f => rfl) ?_
        refine mr_call (y := 20) (y0 := 17) (L := [some (.ref 6)]) (rest := [.int 0, .int (nI c), .ref 16]) (rr := some (.int 6)) (M1 := M) (fun f => rfl) (mr_chk_ok (n := 300) (z := 20) (ls := [some (.ref 6)]) (v := 6) (by decide +kernel) _) ?_
        refine mr_call (y := 30) (y0 := 20) (L := [some (.ref 16), some (.int (nI c)), some (.int 0), some (.int 6)]) (rest := []) (rr := some (.int (-1))) (M1 := M) (fun f => rfl) (by
            refine mr_seg 1 (pc1 := 1) (ls1 := [some (.ref 16), some (.int (nI c)), some (.int 0), some (.int 6)]) (st1 := [.int (nI c)]) (M1 := M) (fun f => rfl) ?_
            refine mr_call (y := 31) (y0 := 4) (L := [some (.int (nI c))]) (rest := []) (rr := some (.int 1)) (M1 := M) (fun f => rfl) (by
                refine mr_seg 1 (pc1 := 1) (ls1 := [some (.int (nI c))]) (st1 := [.int (nI c)]) (M1 := M) (fun f => rfl) ?_
                refine mr_f (C := (nI c) < 0) (nI_ltf (a := c) (b := 0) (by omega)) (fun f => rfl) ?_
                refine mr_seg 2 (pc1 := 8) (ls1 := [some (.int (nI c))]) (st1 := [.int 255, .int (nI c)]) (M1 := M) (fun f => rfl) ?_
                refine mr_f (C := 255 < (nI c)) (nI_ltf (a := 255) (b := c) (by omega)) (fun f => rfl) ?_
                exact mr_ret 3 (fun f => rfl)) ?_
            refine mr_seg 17 (pc1 := 33) (ls1 := [some (.ref 16), some (.int (nI c)), some (.int 0), some (.int 6)]) (st1 := [.int 6, .int 0, .int (nI c), .ref 16]) (M1 := M) (fun f => rfl) ?_
            refine mr_call (y := 32) (y0 := 36) (L := [some (.ref 16), some (.int (nI c)), some (.int 0), some (.int 6), none, none]) (rest := []) (rr := some (.int (-1))) (M1 := M) (fun f => rfl) (by
                refine mr_seg 12 (pc1 := 19) (ls1 := [some (.ref 16), some (.int (nI c)), some (.int 0), some (.int 6), some (.int ((nI c).toInt8.toInt32)), some (.int 0)]) (st1 := [.int ((nI c).toInt8.toInt32), .int 109]) (M1 := M) (fun f => rfl) ?_
                refine mr_f (C := 109 = ((nI c).toInt8.toInt32)) (kd_i2b hc 109 (by decide) (by omega)) (fun f => rfl) ?_
                refine mr_seg 9 (pc1 := 19) (ls1 := [some (.ref 16), some (.int (nI c)), some (.int 0), some (.int 6), some (.int ((nI c).toInt8.toInt32)), some (.int 1)]) (st1 := [.int ((nI c).toInt8.toInt32), .int 108]) (M1 := M) (fun f => rfl) ?_
                refine mr_f (C := 108 = ((nI c).toInt8.toInt32)) (kd_i2b hc 108 (by decide) (by omega)) (fun f => rfl) ?_
                refine mr_seg 9 (pc1 := 19) (ls1 := [some (.ref 16), some (.int (nI c)), some (.int 0), some (.int 6), some (.int ((nI c).toInt8.toInt32)), some (.int 2)]) (st1 := [.int ((nI c).toInt8.toInt32), .int 115]) (M1 := M) (fun f => rfl) ?_
                refine mr_f (C := 115 = ((nI c).toInt8.toInt32)) (kd_i2b hc 115 (by decide) (by omega)) (fun f => rfl) ?_
                refine mr_seg 9 (pc1 := 19) (ls1 := [some (.ref 16), some (.int (nI c)), some (.int 0), some (.int 6), some (.int ((nI c).toInt8.toInt32)), some (.int 3)]) (st1 := [.int ((nI c).toInt8.toInt32), .int 100]) (M1 := M) (fun f => rfl) ?_
                refine mr_f (C := 100 = ((nI c).toInt8.toInt32)) (kd_i2b hc 100 (by decide) (by omega)) (fun f => rfl) ?_
                refine mr_seg 9 (pc1 := 19) (ls1 := [some (.ref 16), some (.int (nI c)), some (.int 0), some (.int 6), some (.int ((nI c).toInt8.toInt32)), some (.int 4)]) (st1 := [.int ((nI c).toInt8.toInt32), .int 114]) (M1 := M) (fun f => rfl) ?_
                refine mr_f (C := 114 = ((nI c).toInt8.toInt32)) (kd_i2b hc 114 (by decide) (by omega)) (fun f => rfl) ?_
                refine mr_seg 9 (pc1 := 19) (ls1 := [some (.ref 16), some (.int (nI c)), some (.int 0), some (.int 6), some (.int ((nI c).toInt8.toInt32)), some (.int 5)]) (st1 := [.int ((nI c).toInt8.toInt32), .int 111]) (M1 := M) (fun f => rfl) ?_
                refine mr_f (C := 111 = ((nI c).toInt8.toInt32)) (kd_i2b hc 111 (by decide) (by omega)) (fun f => rfl) ?_
                exact mr_ret 7 (fun f => rfl)) ?_
            exact mr_ret 1 (fun f => rfl)) ?_
        exact mr_ret 2 (fun f => rfl)) ?_
    exact mr_ret 1 (fun f => rfl)
  | some k =>
    rcases kkind_in hk with rfl | rfl | rfl | rfl | rfl | rfl
    · rw [← hk]; exact mr_chk_ok (n := 400) (z := 28) (ls := [some (.ref 6), some (.int (nI 109))]) (v := kI1 (kkind 109)) (by decide +kernel) M
    · rw [← hk]; exact mr_chk_ok (n := 400) (z := 28) (ls := [some (.ref 6), some (.int (nI 108))]) (v := kI1 (kkind 108)) (by decide +kernel) M
    · rw [← hk]; exact mr_chk_ok (n := 400) (z := 28) (ls := [some (.ref 6), some (.int (nI 115))]) (v := kI1 (kkind 115)) (by decide +kernel) M
    · rw [← hk]; exact mr_chk_ok (n := 400) (z := 28) (ls := [some (.ref 6), some (.int (nI 100))]) (v := kI1 (kkind 100)) (by decide +kernel) M
    · rw [← hk]; exact mr_chk_ok (n := 400) (z := 28) (ls := [some (.ref 6), some (.int (nI 114))]) (v := kI1 (kkind 114)) (by decide +kernel) M
    · rw [← hk]; exact mr_chk_ok (n := 400) (z := 28) (ls := [some (.ref 6), some (.int (nI 111))]) (v := kI1 (kkind 111)) (by decide +kernel) M
theorem kd_kb_t0 : (List.range 64).all (fun i => mr_chk 8 137 [some (.int (nI (0 + i)))] (kI (kkind (0 + i)))) = true := by decide +kernel
theorem kd_kb_t64 : (List.range 64).all (fun i => mr_chk 8 137 [some (.int (nI (64 + i)))] (kI (kkind (64 + i)))) = true := by decide +kernel
theorem kd_kb_t128 : (List.range 64).all (fun i => mr_chk 8 137 [some (.int (nI (128 + i)))] (kI (kkind (128 + i)))) = true := by decide +kernel
theorem kd_kb_t192 : (List.range 64).all (fun i => mr_chk 8 137 [some (.int (nI (192 + i)))] (kI (kkind (192 + i)))) = true := by decide +kernel
theorem kd_kb_ok {c : Nat} (hc : c < 256) : mr_chk 8 137 [some (.int (nI c))] (kI (kkind c)) = true := by
  by_cases h0 : c < 64
  · have := k_all kd_kb_t0 (show c - 0 < 64 by omega)
    rw [show 0 + (c - 0) = c by omega] at this
    exact this
  by_cases h1 : c < 128
  · have := k_all kd_kb_t64 (show c - 64 < 64 by omega)
    rw [show 64 + (c - 64) = c by omega] at this
    exact this
  by_cases h2 : c < 192
  · have := k_all kd_kb_t128 (show c - 128 < 64 by omega)
    rw [show 128 + (c - 128) = c by omega] at this
    exact this
  by_cases h3 : c < 256
  · have := k_all kd_kb_t192 (show c - 192 < 64 by omega)
    rw [show 192 + (c - 192) = c by omega] at this
    exact this
  exact absurd hc h3
theorem kd_kb {c : Nat} (hc : c < 256) (M : mm_H) : mm_R 137 0 [some (.int (nI c))] [] M (some (.int (kI (kkind c))), M) := mr_chk_ok (kd_kb_ok hc) M
theorem kd_i2c_tt : (List.range 256).all (fun c => decide (((nI c).toUInt32 % 65536).toInt32 = nI c)) = true := by decide +kernel
theorem kd_i2c_t {P : Prop} [Decidable P] (h : decide P = true) : P := of_decide_eq_true h
theorem kd_i2c {c : Nat} (h : c < 256) : ((nI c).toUInt32 % 65536).toInt32 = nI c := kd_i2c_t (k_all kd_i2c_tt h)
set_option maxRecDepth 100000 in
theorem kd_fit75 {c : Nat} (hc : c < 256) (M : mm_H) : mm_R 27 0 [some (.int (nI c)), some (.int 75)] [] M (some (.int (cond (kfit 75 c) 1 0)), M) := by
  refine mr_seg 9 (pc1 := 34) (ls1 := [some (.int (nI c)), some (.int 75)]) (st1 := [.int ((nI c).toUInt32 % 65536).toInt32, .ref 6]) (M1 := M) (fun f => rfl) ?_
  refine mr_v (kd_i2c hc) ?_
  refine mr_call (y := 28) (y0 := 37) (L := [some (.ref 6), some (.int (nI c))]) (rest := []) (rr := some (.int (kI1 (kkind c)))) (M1 := M) (fun f => rfl) (kd_io hc M) ?_
  rcases hk : kkind c with _ | k
  · have e3 : kfit 75 c = false := by
      show (kkind c).isSome = false
      rw [hk]
      all_goals rfl
    rw [e3]
    exact mr_ret 3 (fun f => rfl)
  · have e3 : kfit 75 c = true := kfit_K.mpr ⟨k, hk⟩
    rw [e3]
    have hk5 := (kkind_le hk).1
    refine mr_f (C := (nI k) < 0) (nI_ltf (a := k) (b := 0) (by omega)) (fun f => rfl) ?_
    exact mr_ret 3 (fun f => rfl)
set_option maxRecDepth 100000 in
theorem kd_mis_0 (im : Nat) (le : List Nat) (ln : Nat) (ys : List Int32) (vt : Int32) (nu : List Nat) (nn : Nat) (rf : List Nat) (vw vq : Int32) (yc yh yg : List Int32) (n m kk : kG) (q : cR) (p : Nat) (hB : iB le ln) (h0 : ¬ p < ln) (hp : p < 2 ^ 20) : mm_R 17 0 [some (.ref 101), some (.int (nI p)), none, none, none] [] (mk_M (cT im le ln ys vt nu nn rf vw vq yc yh yg) n m kk q) (some (.int (kI (kmis le ln p))), (mk_M (cT im le ln ys vt nu nn rf vw vq yc yh yg) n m kk q)) := by
  obtain ⟨b1, b2, b3⟩ := id hB
  refine mr_seg 3 (pc1 := 5) (ls1 := [some (.ref 101), some (.int (nI p)), none, none, none]) (st1 := [.int (nI ln), .int (nI p)]) (M1 := (mk_M (cT im le ln ys vt nu nn rf vw vq yc yh yg) n m kk q)) (fun f => rfl) ?_
  refine mr_f (C := (nI p) < (nI ln)) (fun e_ => absurd ((nI_lti (a := p) (b := ln) (by omega)).mp e_) (h0)) (fun f => rfl) ?_
  refine mr_eq (mr_ret 2 (o := (some (.int (nI p)), (mk_M (cT im le ln ys vt nu nn rf vw vq yc yh yg) n m kk q))) (fun f => rfl)) ?_
  rw [kmis_0 h0] <;> rfl
set_option maxRecDepth 100000 in
theorem kd_mis_1 (im : Nat) (le : List Nat) (ln : Nat) (ys : List Int32) (vt : Int32) (nu : List Nat) (nn : Nat) (rf : List Nat) (vw vq : Int32) (yc yh yg : List Int32) (n m kk : kG) (q : cR) (p : Nat) (hB : iB le ln) (h0 : p < ln) (hs : kshr (kg le p) = 1) : mm_R 17 0 [some (.ref 101), some (.int (nI p)), none, none, none] [] (mk_M (cT im le ln ys vt nu nn rf vw vq yc yh yg) n m kk q) (some (.int (kI (kmis le ln p))), (mk_M (cT im le ln ys vt nu nn rf vw vq yc yh yg) n m kk q)) := by
  obtain ⟨b1, b2, b3⟩ := id hB
  have e0 := b2 p
  refine mr_seg 3 (pc1 := 5) (ls1 := [some (.ref 101), some (.int (nI p)), none, none, none]) (st1 := [.int (nI ln), .int (nI p)]) (M1 := (mk_M (cT im le ln ys vt nu nn rf vw vq yc yh yg) n m kk q)) (fun f => rfl) ?_
  refine mr_t (C := (nI p) < (nI ln)) ((nI_lti (a := p) (b := ln) (by omega)).mpr (h0)) (fun f => rfl) ?_
  refine mr_seg 3 (pc1 := 15) (ls1 := [some (.ref 101), some (.int (nI p)), none, none, none]) (st1 := [.int (nI p), .ref 102]) (M1 := (mk_M (cT im le ln ys vt nu nn rf vw vq yc yh yg) n m kk q)) (fun f => rfl) ?_
  refine mr_ldk (l0 := le) rfl rfl (k := p) (by omega) ?_
  refine mr_call (y := 18) (y0 := 19) (L := [some (.int (nI (kg le p)))]) (rest := []) (rr := some (.ref 1)) (M1 := (mk_M (cT im le ln ys vt nu nn rf vw vq yc yh yg) n m kk q)) (fun f => rfl) (mr_eq (kd_shp (c := kg le p) (by omega) _) (by rw [hs])) ?_
  refine mr_seg 2 (pc1 := 21) (ls1 := [some (.ref 101), some (.int (nI p)), some (.ref 1), none, none]) (st1 := [.ref 1]) (M1 := (mk_M (cT im le ln ys vt nu nn rf vw vq yc yh yg) n m kk q)) (fun f => rfl) ?_
  refine mr_call (y := 19) (y0 := 24) (L := [some (.ref 1)]) (rest := []) (rr := some (.int 0)) (M1 := (mk_M (cT im le ln ys vt nu nn rf vw vq yc yh yg) n m kk q)) (fun f => rfl) (mr_chk_ok (n := 300) (z := 19) (ls := [some (.ref 1)]) (v := 0) (by decide +kernel) _) ?_
  refine mr_seg 5 (pc1 := 33) (ls1 := [some (.ref 101), some (.int (nI p)), some (.ref 1), some (.int 0), none]) (st1 := [.ref 1, .int 0]) (M1 := (mk_M (cT im le ln ys vt nu nn rf vw vq yc yh yg) n m kk q)) (fun f => rfl) ?_
  refine mr_call (y := 20) (y0 := 36) (L := [some (.ref 1)]) (rest := [.int 0]) (rr := some (.int 4)) (M1 := (mk_M (cT im le ln ys vt nu nn rf vw vq yc yh yg) n m kk q)) (fun f => rfl) (mr_chk_ok (n := 300) (z := 20) (ls := [some (.ref 1)]) (v := 4) (by decide +kernel) _) ?_
  refine mr_seg 4 (pc1 := 42) (ls1 := [some (.ref 101), some (.int (nI p)), some (.ref 1), some (.int 0), none]) (st1 := [.int ((nI p) + (1 : Int32))]) (M1 := (mk_M (cT im le ln ys vt nu nn rf vw vq yc yh yg) n m kk q)) (fun f => rfl) ?_
  refine mr_v (nI_add p 1) ?_
  refine mr_seg 2 (pc1 := 44) (ls1 := [some (.ref 101), some (.int (nI p)), some (.ref 1), some (.int 0), none]) (st1 := [.int ((nI (p + 1)) + (0 : Int32))]) (M1 := (mk_M (cT im le ln ys vt nu nn rf vw vq yc yh yg) n m kk q)) (fun f => rfl) ?_
  refine mr_v (nI_add (p + 1) 0) ?_
  refine mr_seg 4 (pc1 := 52) (ls1 := [some (.ref 101), some (.int (nI p)), some (.ref 1), some (.int 0), some (.int (nI (p + 1 + 0)))]) (st1 := [.int (nI ln), .int (nI (p + 1 + 0))]) (M1 := (mk_M (cT im le ln ys vt nu nn rf vw vq yc yh yg) n m kk q)) (fun f => rfl) ?_
  refine mr_ifN (C := (nI ln) ≤ (nI (p + 1 + 0))) (nI_lei (a := ln) (b := p + 1 + 0) (by omega)) (fun f => rfl) (fun h1 => ?_) (fun h1 => ?_)
  · refine mr_eq (mr_ret 2 (o := (some (.int (nI (p + 1 + 0))), (mk_M (cT im le ln ys vt nu nn rf vw vq yc yh yg) n m kk q))) (fun f => rfl)) ?_
    rw [show kmis le ln p = some (p + 1 + 0) from (kmis_1 h0 hs).trans (kmf_e 0 (Nat.not_lt.mpr h1))] <;> rfl
  · refine mr_seg 3 (pc1 := 61) (ls1 := [some (.ref 101), some (.int (nI p)), some (.ref 1), some (.int 0), some (.int (nI (p + 1 + 0)))]) (st1 := [.int (nI (p + 1 + 0)), .ref 102]) (M1 := (mk_M (cT im le ln ys vt nu nn rf vw vq yc yh yg) n m kk q)) (fun f => rfl) ?_
    refine mr_ldk (l0 := le) rfl rfl (k := p + 1 + 0) (by omega) ?_
    refine mr_seg 2 (pc1 := 64) (ls1 := [some (.ref 101), some (.int (nI p)), some (.ref 1), some (.int 0), some (.int (nI (p + 1 + 0)))]) (st1 := [.int 0, .ref 1, .int (nI (kg le (p + 1 + 0)))]) (M1 := (mk_M (cT im le ln ys vt nu nn rf vw vq yc yh yg) n m kk q)) (fun f => rfl) ?_
    refine mr_call (y := 22) (y0 := 67) (L := [some (.ref 1), some (.int 0)]) (rest := [.int (nI (kg le (p + 1 + 0)))]) (rr := some (.int 57)) (M1 := (mk_M (cT im le ln ys vt nu nn rf vw vq yc yh yg) n m kk q)) (fun f => rfl) (mr_chk_ok (n := 300) (z := 22) (ls := [some (.ref 1), some (.int 0)]) (v := 57) (by decide +kernel) _) ?_
    refine mr_call (y := 27) (y0 := 70) (L := [some (.int (nI (kg le (p + 1 + 0)))), some (.int 57)]) (rest := []) (rr := some (.int (cond (kfit 57 (kg le (p + 1 + 0))) 1 0))) (M1 := (mk_M (cT im le ln ys vt nu nn rf vw vq yc yh yg) n m kk q)) (fun f => rfl) (kd_fit57 (c := kg le (p + 1 + 0)) (by have := b2 (p + 1 + 0); omega) _) ?_
    rcases hf_2 : kfit 57 (kg le (p + 1 + 0)) with _ | _
    · refine mr_v (show cond false 1 0 = (0 : Int32) from rfl) ?_
      refine mr_eq (mr_ret 3 (o := (some (.int (nI (p + 1 + 0))), (mk_M (cT im le ln ys vt nu nn rf vw vq yc yh yg) n m kk q))) (fun f => rfl)) ?_
      rw [show kmis le ln p = some (p + 1 + 0) from (kmis_1 h0 hs).trans (kmf_b 0 hf_2)] <;> rfl
    · refine mr_v (show cond true 1 0 = (1 : Int32) from rfl) ?_
      refine mr_seg 5 (pc1 := 33) (ls1 := [some (.ref 101), some (.int (nI p)), some (.ref 1), some (.int 1), some (.int (nI (p + 1 + 0)))]) (st1 := [.ref 1, .int 1]) (M1 := (mk_M (cT im le ln ys vt nu nn rf vw vq yc yh yg) n m kk q)) (fun f => rfl) ?_
      refine mr_call (y := 20) (y0 := 36) (L := [some (.ref 1)]) (rest := [.int 1]) (rr := some (.int 4)) (M1 := (mk_M (cT im le ln ys vt nu nn rf vw vq yc yh yg) n m kk q)) (fun f => rfl) (mr_chk_ok (n := 300) (z := 20) (ls := [some (.ref 1)]) (v := 4) (by decide +kernel) _) ?_
      refine mr_seg 4 (pc1 := 42) (ls1 := [some (.ref 101), some (.int (nI p)), some (.ref 1), some (.int 1), some (.int (nI (p + 1 + 0)))]) (st1 := [.int ((nI p) + (1 : Int32))]) (M1 := (mk_M (cT im le ln ys vt nu nn rf vw vq yc yh yg) n m kk q)) (fun f => rfl) ?_
      refine mr_v (nI_add p 1) ?_
      refine mr_seg 2 (pc1 := 44) (ls1 := [some (.ref 101), some (.int (nI p)), some (.ref 1), some (.int 1), some (.int (nI (p + 1 + 0)))]) (st1 := [.int ((nI (p + 1)) + (1 : Int32))]) (M1 := (mk_M (cT im le ln ys vt nu nn rf vw vq yc yh yg) n m kk q)) (fun f => rfl) ?_
      refine mr_v (nI_add (p + 1) 1) ?_
      refine mr_seg 4 (pc1 := 52) (ls1 := [some (.ref 101), some (.int (nI p)), some (.ref 1), some (.int 1), some (.int (nI (p + 1 + 1)))]) (st1 := [.int (nI ln), .int (nI (p + 1 + 1))]) (M1 := (mk_M (cT im le ln ys vt nu nn rf vw vq yc yh yg) n m kk q)) (fun f => rfl) ?_
      refine mr_ifN (C := (nI ln) ≤ (nI (p + 1 + 1))) (nI_lei (a := ln) (b := p + 1 + 1) (by omega)) (fun f => rfl) (fun h3 => ?_) (fun h3 => ?_)
      · refine mr_eq (mr_ret 2 (o := (some (.int (nI (p + 1 + 1))), (mk_M (cT im le ln ys vt nu nn rf vw vq yc yh yg) n m kk q))) (fun f => rfl)) ?_
        rw [show kmis le ln p = some (p + 1 + 1) from (kmis_1 h0 hs).trans ((kmf_t 0 (Nat.lt_of_not_le h1) hf_2).trans (kmf_e 1 (Nat.not_lt.mpr h3)))] <;> rfl
      · refine mr_seg 3 (pc1 := 61) (ls1 := [some (.ref 101), some (.int (nI p)), some (.ref 1), some (.int 1), some (.int (nI (p + 1 + 1)))]) (st1 := [.int (nI (p + 1 + 1)), .ref 102]) (M1 := (mk_M (cT im le ln ys vt nu nn rf vw vq yc yh yg) n m kk q)) (fun f => rfl) ?_
        refine mr_ldk (l0 := le) rfl rfl (k := p + 1 + 1) (by omega) ?_
        refine mr_seg 2 (pc1 := 64) (ls1 := [some (.ref 101), some (.int (nI p)), some (.ref 1), some (.int 1), some (.int (nI (p + 1 + 1)))]) (st1 := [.int 1, .ref 1, .int (nI (kg le (p + 1 + 1)))]) (M1 := (mk_M (cT im le ln ys vt nu nn rf vw vq yc yh yg) n m kk q)) (fun f => rfl) ?_
        refine mr_call (y := 22) (y0 := 67) (L := [some (.ref 1), some (.int 1)]) (rest := [.int (nI (kg le (p + 1 + 1)))]) (rr := some (.int 57)) (M1 := (mk_M (cT im le ln ys vt nu nn rf vw vq yc yh yg) n m kk q)) (fun f => rfl) (mr_chk_ok (n := 300) (z := 22) (ls := [some (.ref 1), some (.int 1)]) (v := 57) (by decide +kernel) _) ?_
        refine mr_call (y := 27) (y0 := 70) (L := [some (.int (nI (kg le (p + 1 + 1)))), some (.int 57)]) (rest := []) (rr := some (.int (cond (kfit 57 (kg le (p + 1 + 1))) 1 0))) (M1 := (mk_M (cT im le ln ys vt nu nn rf vw vq yc yh yg) n m kk q)) (fun f => rfl) (kd_fit57 (c := kg le (p + 1 + 1)) (by have := b2 (p + 1 + 1); omega) _) ?_
        rcases hf_4 : kfit 57 (kg le (p + 1 + 1)) with _ | _
        · refine mr_v (show cond false 1 0 = (0 : Int32) from rfl) ?_
          refine mr_eq (mr_ret 3 (o := (some (.int (nI (p + 1 + 1))), (mk_M (cT im le ln ys vt nu nn rf vw vq yc yh yg) n m kk q))) (fun f => rfl)) ?_
          rw [show kmis le ln p = some (p + 1 + 1) from (kmis_1 h0 hs).trans ((kmf_t 0 (Nat.lt_of_not_le h1) hf_2).trans (kmf_b 1 hf_4))] <;> rfl
        · refine mr_v (show cond true 1 0 = (1 : Int32) from rfl) ?_
          refine mr_seg 5 (pc1 := 33) (ls1 := [some (.ref 101), some (.int (nI p)), some (.ref 1), some (.int 2), some (.int (nI (p + 1 + 1)))]) (st1 := [.ref 1, .int 2]) (M1 := (mk_M (cT im le ln ys vt nu nn rf vw vq yc yh yg) n m kk q)) (fun f => rfl) ?_
          refine mr_call (y := 20) (y0 := 36) (L := [some (.ref 1)]) (rest := [.int 2]) (rr := some (.int 4)) (M1 := (mk_M (cT im le ln ys vt nu nn rf vw vq yc yh yg) n m kk q)) (fun f => rfl) (mr_chk_ok (n := 300) (z := 20) (ls := [some (.ref 1)]) (v := 4) (by decide +kernel) _) ?_
          refine mr_seg 4 (pc1 := 42) (ls1 := [some (.ref 101), some (.int (nI p)), some (.ref 1), some (.int 2), some (.int (nI (p + 1 + 1)))]) (st1 := [.int ((nI p) + (1 : Int32))]) (M1 := (mk_M (cT im le ln ys vt nu nn rf vw vq yc yh yg) n m kk q)) (fun f => rfl) ?_
          refine mr_v (nI_add p 1) ?_
          refine mr_seg 2 (pc1 := 44) (ls1 := [some (.ref 101), some (.int (nI p)), some (.ref 1), some (.int 2), some (.int (nI (p + 1 + 1)))]) (st1 := [.int ((nI (p + 1)) + (2 : Int32))]) (M1 := (mk_M (cT im le ln ys vt nu nn rf vw vq yc yh yg) n m kk q)) (fun f => rfl) ?_
          refine mr_v (nI_add (p + 1) 2) ?_
          refine mr_seg 4 (pc1 := 52) (ls1 := [some (.ref 101), some (.int (nI p)), some (.ref 1), some (.int 2), some (.int (nI (p + 1 + 2)))]) (st1 := [.int (nI ln), .int (nI (p + 1 + 2))]) (M1 := (mk_M (cT im le ln ys vt nu nn rf vw vq yc yh yg) n m kk q)) (fun f => rfl) ?_
          refine mr_ifN (C := (nI ln) ≤ (nI (p + 1 + 2))) (nI_lei (a := ln) (b := p + 1 + 2) (by omega)) (fun f => rfl) (fun h5 => ?_) (fun h5 => ?_)
          · refine mr_eq (mr_ret 2 (o := (some (.int (nI (p + 1 + 2))), (mk_M (cT im le ln ys vt nu nn rf vw vq yc yh yg) n m kk q))) (fun f => rfl)) ?_
            rw [show kmis le ln p = some (p + 1 + 2) from (kmis_1 h0 hs).trans ((kmf_t 0 (Nat.lt_of_not_le h1) hf_2).trans ((kmf_t 1 (Nat.lt_of_not_le h3) hf_4).trans (kmf_e 2 (Nat.not_lt.mpr h5))))] <;> rfl
          · refine mr_seg 3 (pc1 := 61) (ls1 := [some (.ref 101), some (.int (nI p)), some (.ref 1), some (.int 2), some (.int (nI (p + 1 + 2)))]) (st1 := [.int (nI (p + 1 + 2)), .ref 102]) (M1 := (mk_M (cT im le ln ys vt nu nn rf vw vq yc yh yg) n m kk q)) (fun f => rfl) ?_
            refine mr_ldk (l0 := le) rfl rfl (k := p + 1 + 2) (by omega) ?_
            refine mr_seg 2 (pc1 := 64) (ls1 := [some (.ref 101), some (.int (nI p)), some (.ref 1), some (.int 2), some (.int (nI (p + 1 + 2)))]) (st1 := [.int 2, .ref 1, .int (nI (kg le (p + 1 + 2)))]) (M1 := (mk_M (cT im le ln ys vt nu nn rf vw vq yc yh yg) n m kk q)) (fun f => rfl) ?_
            refine mr_call (y := 22) (y0 := 67) (L := [some (.ref 1), some (.int 2)]) (rest := [.int (nI (kg le (p + 1 + 2)))]) (rr := some (.int 57)) (M1 := (mk_M (cT im le ln ys vt nu nn rf vw vq yc yh yg) n m kk q)) (fun f => rfl) (mr_chk_ok (n := 300) (z := 22) (ls := [some (.ref 1), some (.int 2)]) (v := 57) (by decide +kernel) _) ?_
            refine mr_call (y := 27) (y0 := 70) (L := [some (.int (nI (kg le (p + 1 + 2)))), some (.int 57)]) (rest := []) (rr := some (.int (cond (kfit 57 (kg le (p + 1 + 2))) 1 0))) (M1 := (mk_M (cT im le ln ys vt nu nn rf vw vq yc yh yg) n m kk q)) (fun f => rfl) (kd_fit57 (c := kg le (p + 1 + 2)) (by have := b2 (p + 1 + 2); omega) _) ?_
            rcases hf_6 : kfit 57 (kg le (p + 1 + 2)) with _ | _
            · refine mr_v (show cond false 1 0 = (0 : Int32) from rfl) ?_
              refine mr_eq (mr_ret 3 (o := (some (.int (nI (p + 1 + 2))), (mk_M (cT im le ln ys vt nu nn rf vw vq yc yh yg) n m kk q))) (fun f => rfl)) ?_
              rw [show kmis le ln p = some (p + 1 + 2) from (kmis_1 h0 hs).trans ((kmf_t 0 (Nat.lt_of_not_le h1) hf_2).trans ((kmf_t 1 (Nat.lt_of_not_le h3) hf_4).trans (kmf_b 2 hf_6)))] <;> rfl
            · refine mr_v (show cond true 1 0 = (1 : Int32) from rfl) ?_
              refine mr_seg 5 (pc1 := 33) (ls1 := [some (.ref 101), some (.int (nI p)), some (.ref 1), some (.int 3), some (.int (nI (p + 1 + 2)))]) (st1 := [.ref 1, .int 3]) (M1 := (mk_M (cT im le ln ys vt nu nn rf vw vq yc yh yg) n m kk q)) (fun f => rfl) ?_
              refine mr_call (y := 20) (y0 := 36) (L := [some (.ref 1)]) (rest := [.int 3]) (rr := some (.int 4)) (M1 := (mk_M (cT im le ln ys vt nu nn rf vw vq yc yh yg) n m kk q)) (fun f => rfl) (mr_chk_ok (n := 300) (z := 20) (ls := [some (.ref 1)]) (v := 4) (by decide +kernel) _) ?_
              refine mr_seg 4 (pc1 := 42) (ls1 := [some (.ref 101), some (.int (nI p)), some (.ref 1), some (.int 3), some (.int (nI (p + 1 + 2)))]) (st1 := [.int ((nI p) + (1 : Int32))]) (M1 := (mk_M (cT im le ln ys vt nu nn rf vw vq yc yh yg) n m kk q)) (fun f => rfl) ?_
              refine mr_v (nI_add p 1) ?_
              refine mr_seg 2 (pc1 := 44) (ls1 := [some (.ref 101), some (.int (nI p)), some (.ref 1), some (.int 3), some (.int (nI (p + 1 + 2)))]) (st1 := [.int ((nI (p + 1)) + (3 : Int32))]) (M1 := (mk_M (cT im le ln ys vt nu nn rf vw vq yc yh yg) n m kk q)) (fun f => rfl) ?_
              refine mr_v (nI_add (p + 1) 3) ?_
              refine mr_seg 4 (pc1 := 52) (ls1 := [some (.ref 101), some (.int (nI p)), some (.ref 1), some (.int 3), some (.int (nI (p + 1 + 3)))]) (st1 := [.int (nI ln), .int (nI (p + 1 + 3))]) (M1 := (mk_M (cT im le ln ys vt nu nn rf vw vq yc yh yg) n m kk q)) (fun f => rfl) ?_
              refine mr_ifN (C := (nI ln) ≤ (nI (p + 1 + 3))) (nI_lei (a := ln) (b := p + 1 + 3) (by omega)) (fun f => rfl) (fun h7 => ?_) (fun h7 => ?_)
              · refine mr_eq (mr_ret 2 (o := (some (.int (nI (p + 1 + 3))), (mk_M (cT im le ln ys vt nu nn rf vw vq yc yh yg) n m kk q))) (fun f => rfl)) ?_
                rw [show kmis le ln p = some (p + 1 + 3) from (kmis_1 h0 hs).trans ((kmf_t 0 (Nat.lt_of_not_le h1) hf_2).trans ((kmf_t 1 (Nat.lt_of_not_le h3) hf_4).trans ((kmf_t 2 (Nat.lt_of_not_le h5) hf_6).trans (kmf_e 3 (Nat.not_lt.mpr h7)))))] <;> rfl
              · refine mr_seg 3 (pc1 := 61) (ls1 := [some (.ref 101), some (.int (nI p)), some (.ref 1), some (.int 3), some (.int (nI (p + 1 + 3)))]) (st1 := [.int (nI (p + 1 + 3)), .ref 102]) (M1 := (mk_M (cT im le ln ys vt nu nn rf vw vq yc yh yg) n m kk q)) (fun f => rfl) ?_
                refine mr_ldk (l0 := le) rfl rfl (k := p + 1 + 3) (by omega) ?_
                refine mr_seg 2 (pc1 := 64) (ls1 := [some (.ref 101), some (.int (nI p)), some (.ref 1), some (.int 3), some (.int (nI (p + 1 + 3)))]) (st1 := [.int 3, .ref 1, .int (nI (kg le (p + 1 + 3)))]) (M1 := (mk_M (cT im le ln ys vt nu nn rf vw vq yc yh yg) n m kk q)) (fun f => rfl) ?_
                refine mr_call (y := 22) (y0 := 67) (L := [some (.ref 1), some (.int 3)]) (rest := [.int (nI (kg le (p + 1 + 3)))]) (rr := some (.int 59)) (M1 := (mk_M (cT im le ln ys vt nu nn rf vw vq yc yh yg) n m kk q)) (fun f => rfl) (mr_chk_ok (n := 300) (z := 22) (ls := [some (.ref 1), some (.int 3)]) (v := 59) (by decide +kernel) _) ?_
                refine mr_call (y := 27) (y0 := 70) (L := [some (.int (nI (kg le (p + 1 + 3)))), some (.int 59)]) (rest := []) (rr := some (.int (cond (kfit 59 (kg le (p + 1 + 3))) 1 0))) (M1 := (mk_M (cT im le ln ys vt nu nn rf vw vq yc yh yg) n m kk q)) (fun f => rfl) (kd_fit59 (c := kg le (p + 1 + 3)) (by have := b2 (p + 1 + 3); omega) _) ?_
                rcases hf_8 : kfit 59 (kg le (p + 1 + 3)) with _ | _
                · refine mr_v (show cond false 1 0 = (0 : Int32) from rfl) ?_
                  refine mr_eq (mr_ret 3 (o := (some (.int (nI (p + 1 + 3))), (mk_M (cT im le ln ys vt nu nn rf vw vq yc yh yg) n m kk q))) (fun f => rfl)) ?_
                  rw [show kmis le ln p = some (p + 1 + 3) from (kmis_1 h0 hs).trans ((kmf_t 0 (Nat.lt_of_not_le h1) hf_2).trans ((kmf_t 1 (Nat.lt_of_not_le h3) hf_4).trans ((kmf_t 2 (Nat.lt_of_not_le h5) hf_6).trans (kmf_b 3 hf_8))))] <;> rfl
                · refine mr_v (show cond true 1 0 = (1 : Int32) from rfl) ?_
                  refine mr_seg 5 (pc1 := 33) (ls1 := [some (.ref 101), some (.int (nI p)), some (.ref 1), some (.int 4), some (.int (nI (p + 1 + 3)))]) (st1 := [.ref 1, .int 4]) (M1 := (mk_M (cT im le ln ys vt nu nn rf vw vq yc yh yg) n m kk q)) (fun f => rfl) ?_
                  refine mr_call (y := 20) (y0 := 36) (L := [some (.ref 1)]) (rest := [.int 4]) (rr := some (.int 4)) (M1 := (mk_M (cT im le ln ys vt nu nn rf vw vq yc yh yg) n m kk q)) (fun f => rfl) (mr_chk_ok (n := 300) (z := 20) (ls := [some (.ref 1)]) (v := 4) (by decide +kernel) _) ?_
                  refine mr_eq (mr_ret 3 (o := (some (.int (-9)), (mk_M (cT im le ln ys vt nu nn rf vw vq yc yh yg) n m kk q))) (fun f => rfl)) ?_
                  rw [show kmis le ln p = none from (kmis_1 h0 hs).trans ((kmf_t 0 (Nat.lt_of_not_le h1) hf_2).trans ((kmf_t 1 (Nat.lt_of_not_le h3) hf_4).trans ((kmf_t 2 (Nat.lt_of_not_le h5) hf_6).trans ((kmf_t 3 (Nat.lt_of_not_le h7) hf_8).trans (rfl)))))] <;> rfl
set_option maxRecDepth 100000 in
theorem kd_mis_2 (im : Nat) (le : List Nat) (ln : Nat) (ys : List Int32) (vt : Int32) (nu : List Nat) (nn : Nat) (rf : List Nat) (vw vq : Int32) (yc yh yg : List Int32) (n m kk : kG) (q : cR) (p : Nat) (hB : iB le ln) (h0 : p < ln) (hs : kshr (kg le p) = 2) : mm_R 17 0 [some (.ref 101), some (.int (nI p)), none, none, none] [] (mk_M (cT im le ln ys vt nu nn rf vw vq yc yh yg) n m kk q) (some (.int (kI (kmis le ln p))), (mk_M (cT im le ln ys vt nu nn rf vw vq yc yh yg) n m kk q)) := by
  obtain ⟨b1, b2, b3⟩ := id hB
  have e0 := b2 p
  refine mr_seg 3 (pc1 := 5) (ls1 := [some (.ref 101), some (.int (nI p)), none, none, none]) (st1 := [.int (nI ln), .int (nI p)]) (M1 := (mk_M (cT im le ln ys vt nu nn rf vw vq yc yh yg) n m kk q)) (fun f => rfl) ?_
  refine mr_t (C := (nI p) < (nI ln)) ((nI_lti (a := p) (b := ln) (by omega)).mpr (h0)) (fun f => rfl) ?_
  refine mr_seg 3 (pc1 := 15) (ls1 := [some (.ref 101), some (.int (nI p)), none, none, none]) (st1 := [.int (nI p), .ref 102]) (M1 := (mk_M (cT im le ln ys vt nu nn rf vw vq yc yh yg) n m kk q)) (fun f => rfl) ?_
  refine mr_ldk (l0 := le) rfl rfl (k := p) (by omega) ?_
  refine mr_call (y := 18) (y0 := 19) (L := [some (.int (nI (kg le p)))]) (rest := []) (rr := some (.ref 2)) (M1 := (mk_M (cT im le ln ys vt nu nn rf vw vq yc yh yg) n m kk q)) (fun f => rfl) (mr_eq (kd_shp (c := kg le p) (by omega) _) (by rw [hs])) ?_
  refine mr_seg 2 (pc1 := 21) (ls1 := [some (.ref 101), some (.int (nI p)), some (.ref 2), none, none]) (st1 := [.ref 2]) (M1 := (mk_M (cT im le ln ys vt nu nn rf vw vq yc yh yg) n m kk q)) (fun f => rfl) ?_
  refine mr_call (y := 19) (y0 := 24) (L := [some (.ref 2)]) (rest := []) (rr := some (.int 0)) (M1 := (mk_M (cT im le ln ys vt nu nn rf vw vq yc yh yg) n m kk q)) (fun f => rfl) (mr_chk_ok (n := 300) (z := 19) (ls := [some (.ref 2)]) (v := 0) (by decide +kernel) _) ?_
  refine mr_seg 5 (pc1 := 33) (ls1 := [some (.ref 101), some (.int (nI p)), some (.ref 2), some (.int 0), none]) (st1 := [.ref 2, .int 0]) (M1 := (mk_M (cT im le ln ys vt nu nn rf vw vq yc yh yg) n m kk q)) (fun f => rfl) ?_
  refine mr_call (y := 20) (y0 := 36) (L := [some (.ref 2)]) (rest := [.int 0]) (rr := some (.int 3)) (M1 := (mk_M (cT im le ln ys vt nu nn rf vw vq yc yh yg) n m kk q)) (fun f => rfl) (mr_chk_ok (n := 300) (z := 20) (ls := [some (.ref 2)]) (v := 3) (by decide +kernel) _) ?_
  refine mr_seg 4 (pc1 := 42) (ls1 := [some (.ref 101), some (.int (nI p)), some (.ref 2), some (.int 0), none]) (st1 := [.int ((nI p) + (1 : Int32))]) (M1 := (mk_M (cT im le ln ys vt nu nn rf vw vq yc yh yg) n m kk q)) (fun f => rfl) ?_
  refine mr_v (nI_add p 1) ?_
  refine mr_seg 2 (pc1 := 44) (ls1 := [some (.ref 101), some (.int (nI p)), some (.ref 2), some (.int 0), none]) (st1 := [.int ((nI (p + 1)) + (0 : Int32))]) (M1 := (mk_M (cT im le ln ys vt nu nn rf vw vq yc yh yg) n m kk q)) (fun f => rfl) ?_
  refine mr_v (nI_add (p + 1) 0) ?_
  refine mr_seg 4 (pc1 := 52) (ls1 := [some (.ref 101), some (.int (nI p)), some (.ref 2), some (.int 0), some (.int (nI (p + 1 + 0)))]) (st1 := [.int (nI ln), .int (nI (p + 1 + 0))]) (M1 := (mk_M (cT im le ln ys vt nu nn rf vw vq yc yh yg) n m kk q)) (fun f => rfl) ?_
  refine mr_ifN (C := (nI ln) ≤ (nI (p + 1 + 0))) (nI_lei (a := ln) (b := p + 1 + 0) (by omega)) (fun f => rfl) (fun h1 => ?_) (fun h1 => ?_)
  · refine mr_eq (mr_ret 2 (o := (some (.int (nI (p + 1 + 0))), (mk_M (cT im le ln ys vt nu nn rf vw vq yc yh yg) n m kk q))) (fun f => rfl)) ?_
    rw [show kmis le ln p = some (p + 1 + 0) from (kmis_2 h0 hs).trans (kmf_e 0 (Nat.not_lt.mpr h1))] <;> rfl
  · refine mr_seg 3 (pc1 := 61) (ls1 := [some (.ref 101), some (.int (nI p)), some (.ref 2), some (.int 0), some (.int (nI (p + 1 + 0)))]) (st1 := [.int (nI (p + 1 + 0)), .ref 102]) (M1 := (mk_M (cT im le ln ys vt nu nn rf vw vq yc yh yg) n m kk q)) (fun f => rfl) ?_
    refine mr_ldk (l0 := le) rfl rfl (k := p + 1 + 0) (by omega) ?_
    refine mr_seg 2 (pc1 := 64) (ls1 := [some (.ref 101), some (.int (nI p)), some (.ref 2), some (.int 0), some (.int (nI (p + 1 + 0)))]) (st1 := [.int 0, .ref 2, .int (nI (kg le (p + 1 + 0)))]) (M1 := (mk_M (cT im le ln ys vt nu nn rf vw vq yc yh yg) n m kk q)) (fun f => rfl) ?_
    refine mr_call (y := 22) (y0 := 67) (L := [some (.ref 2), some (.int 0)]) (rest := [.int (nI (kg le (p + 1 + 0)))]) (rr := some (.int 75)) (M1 := (mk_M (cT im le ln ys vt nu nn rf vw vq yc yh yg) n m kk q)) (fun f => rfl) (mr_chk_ok (n := 300) (z := 22) (ls := [some (.ref 2), some (.int 0)]) (v := 75) (by decide +kernel) _) ?_
    refine mr_call (y := 27) (y0 := 70) (L := [some (.int (nI (kg le (p + 1 + 0)))), some (.int 75)]) (rest := []) (rr := some (.int (cond (kfit 75 (kg le (p + 1 + 0))) 1 0))) (M1 := (mk_M (cT im le ln ys vt nu nn rf vw vq yc yh yg) n m kk q)) (fun f => rfl) (kd_fit75 (c := kg le (p + 1 + 0)) (by have := b2 (p + 1 + 0); omega) _) ?_
    rcases hf_2 : kfit 75 (kg le (p + 1 + 0)) with _ | _
    · refine mr_v (show cond false 1 0 = (0 : Int32) from rfl) ?_
      refine mr_eq (mr_ret 3 (o := (some (.int (nI (p + 1 + 0))), (mk_M (cT im le ln ys vt nu nn rf vw vq yc yh yg) n m kk q))) (fun f => rfl)) ?_
      rw [show kmis le ln p = some (p + 1 + 0) from (kmis_2 h0 hs).trans (kmf_b 0 hf_2)] <;> rfl
    · refine mr_v (show cond true 1 0 = (1 : Int32) from rfl) ?_
      refine mr_seg 5 (pc1 := 33) (ls1 := [some (.ref 101), some (.int (nI p)), some (.ref 2), some (.int 1), some (.int (nI (p + 1 + 0)))]) (st1 := [.ref 2, .int 1]) (M1 := (mk_M (cT im le ln ys vt nu nn rf vw vq yc yh yg) n m kk q)) (fun f => rfl) ?_
      refine mr_call (y := 20) (y0 := 36) (L := [some (.ref 2)]) (rest := [.int 1]) (rr := some (.int 3)) (M1 := (mk_M (cT im le ln ys vt nu nn rf vw vq yc yh yg) n m kk q)) (fun f => rfl) (mr_chk_ok (n := 300) (z := 20) (ls := [some (.ref 2)]) (v := 3) (by decide +kernel) _) ?_
      refine mr_seg 4 (pc1 := 42) (ls1 := [some (.ref 101), some (.int (nI p)), some (.ref 2), some (.int 1), some (.int (nI (p + 1 + 0)))]) (st1 := [.int ((nI p) + (1 : Int32))]) (M1 := (mk_M (cT im le ln ys vt nu nn rf vw vq yc yh yg) n m kk q)) (fun f => rfl) ?_
      refine mr_v (nI_add p 1) ?_
      refine mr_seg 2 (pc1 := 44) (ls1 := [some (.ref 101), some (.int (nI p)), some (.ref 2), some (.int 1), some (.int (nI (p + 1 + 0)))]) (st1 := [.int ((nI (p + 1)) + (1 : Int32))]) (M1 := (mk_M (cT im le ln ys vt nu nn rf vw vq yc yh yg) n m kk q)) (fun f => rfl) ?_
      refine mr_v (nI_add (p + 1) 1) ?_
      refine mr_seg 4 (pc1 := 52) (ls1 := [some (.ref 101), some (.int (nI p)), some (.ref 2), some (.int 1), some (.int (nI (p + 1 + 1)))]) (st1 := [.int (nI ln), .int (nI (p + 1 + 1))]) (M1 := (mk_M (cT im le ln ys vt nu nn rf vw vq yc yh yg) n m kk q)) (fun f => rfl) ?_
      refine mr_ifN (C := (nI ln) ≤ (nI (p + 1 + 1))) (nI_lei (a := ln) (b := p + 1 + 1) (by omega)) (fun f => rfl) (fun h3 => ?_) (fun h3 => ?_)
      · refine mr_eq (mr_ret 2 (o := (some (.int (nI (p + 1 + 1))), (mk_M (cT im le ln ys vt nu nn rf vw vq yc yh yg) n m kk q))) (fun f => rfl)) ?_
        rw [show kmis le ln p = some (p + 1 + 1) from (kmis_2 h0 hs).trans ((kmf_t 0 (Nat.lt_of_not_le h1) hf_2).trans (kmf_e 1 (Nat.not_lt.mpr h3)))] <;> rfl
      · refine mr_seg 3 (pc1 := 61) (ls1 := [some (.ref 101), some (.int (nI p)), some (.ref 2), some (.int 1), some (.int (nI (p + 1 + 1)))]) (st1 := [.int (nI (p + 1 + 1)), .ref 102]) (M1 := (mk_M (cT im le ln ys vt nu nn rf vw vq yc yh yg) n m kk q)) (fun f => rfl) ?_
        refine mr_ldk (l0 := le) rfl rfl (k := p + 1 + 1) (by omega) ?_
        refine mr_seg 2 (pc1 := 64) (ls1 := [some (.ref 101), some (.int (nI p)), some (.ref 2), some (.int 1), some (.int (nI (p + 1 + 1)))]) (st1 := [.int 1, .ref 2, .int (nI (kg le (p + 1 + 1)))]) (M1 := (mk_M (cT im le ln ys vt nu nn rf vw vq yc yh yg) n m kk q)) (fun f => rfl) ?_
        refine mr_call (y := 22) (y0 := 67) (L := [some (.ref 2), some (.int 1)]) (rest := [.int (nI (kg le (p + 1 + 1)))]) (rr := some (.int 57)) (M1 := (mk_M (cT im le ln ys vt nu nn rf vw vq yc yh yg) n m kk q)) (fun f => rfl) (mr_chk_ok (n := 300) (z := 22) (ls := [some (.ref 2), some (.int 1)]) (v := 57) (by decide +kernel) _) ?_
        refine mr_call (y := 27) (y0 := 70) (L := [some (.int (nI (kg le (p + 1 + 1)))), some (.int 57)]) (rest := []) (rr := some (.int (cond (kfit 57 (kg le (p + 1 + 1))) 1 0))) (M1 := (mk_M (cT im le ln ys vt nu nn rf vw vq yc yh yg) n m kk q)) (fun f => rfl) (kd_fit57 (c := kg le (p + 1 + 1)) (by have := b2 (p + 1 + 1); omega) _) ?_
        rcases hf_4 : kfit 57 (kg le (p + 1 + 1)) with _ | _
        · refine mr_v (show cond false 1 0 = (0 : Int32) from rfl) ?_
          refine mr_eq (mr_ret 3 (o := (some (.int (nI (p + 1 + 1))), (mk_M (cT im le ln ys vt nu nn rf vw vq yc yh yg) n m kk q))) (fun f => rfl)) ?_
          rw [show kmis le ln p = some (p + 1 + 1) from (kmis_2 h0 hs).trans ((kmf_t 0 (Nat.lt_of_not_le h1) hf_2).trans (kmf_b 1 hf_4))] <;> rfl
        · refine mr_v (show cond true 1 0 = (1 : Int32) from rfl) ?_
          refine mr_seg 5 (pc1 := 33) (ls1 := [some (.ref 101), some (.int (nI p)), some (.ref 2), some (.int 2), some (.int (nI (p + 1 + 1)))]) (st1 := [.ref 2, .int 2]) (M1 := (mk_M (cT im le ln ys vt nu nn rf vw vq yc yh yg) n m kk q)) (fun f => rfl) ?_
          refine mr_call (y := 20) (y0 := 36) (L := [some (.ref 2)]) (rest := [.int 2]) (rr := some (.int 3)) (M1 := (mk_M (cT im le ln ys vt nu nn rf vw vq yc yh yg) n m kk q)) (fun f => rfl) (mr_chk_ok (n := 300) (z := 20) (ls := [some (.ref 2)]) (v := 3) (by decide +kernel) _) ?_
          refine mr_seg 4 (pc1 := 42) (ls1 := [some (.ref 101), some (.int (nI p)), some (.ref 2), some (.int 2), some (.int (nI (p + 1 + 1)))]) (st1 := [.int ((nI p) + (1 : Int32))]) (M1 := (mk_M (cT im le ln ys vt nu nn rf vw vq yc yh yg) n m kk q)) (fun f => rfl) ?_
          refine mr_v (nI_add p 1) ?_
          refine mr_seg 2 (pc1 := 44) (ls1 := [some (.ref 101), some (.int (nI p)), some (.ref 2), some (.int 2), some (.int (nI (p + 1 + 1)))]) (st1 := [.int ((nI (p + 1)) + (2 : Int32))]) (M1 := (mk_M (cT im le ln ys vt nu nn rf vw vq yc yh yg) n m kk q)) (fun f => rfl) ?_
          refine mr_v (nI_add (p + 1) 2) ?_
          refine mr_seg 4 (pc1 := 52) (ls1 := [some (.ref 101), some (.int (nI p)), some (.ref 2), some (.int 2), some (.int (nI (p + 1 + 2)))]) (st1 := [.int (nI ln), .int (nI (p + 1 + 2))]) (M1 := (mk_M (cT im le ln ys vt nu nn rf vw vq yc yh yg) n m kk q)) (fun f => rfl) ?_
          refine mr_ifN (C := (nI ln) ≤ (nI (p + 1 + 2))) (nI_lei (a := ln) (b := p + 1 + 2) (by omega)) (fun f => rfl) (fun h5 => ?_) (fun h5 => ?_)
          · refine mr_eq (mr_ret 2 (o := (some (.int (nI (p + 1 + 2))), (mk_M (cT im le ln ys vt nu nn rf vw vq yc yh yg) n m kk q))) (fun f => rfl)) ?_
            rw [show kmis le ln p = some (p + 1 + 2) from (kmis_2 h0 hs).trans ((kmf_t 0 (Nat.lt_of_not_le h1) hf_2).trans ((kmf_t 1 (Nat.lt_of_not_le h3) hf_4).trans (kmf_e 2 (Nat.not_lt.mpr h5))))] <;> rfl
          · refine mr_seg 3 (pc1 := 61) (ls1 := [some (.ref 101), some (.int (nI p)), some (.ref 2), some (.int 2), some (.int (nI (p + 1 + 2)))]) (st1 := [.int (nI (p + 1 + 2)), .ref 102]) (M1 := (mk_M (cT im le ln ys vt nu nn rf vw vq yc yh yg) n m kk q)) (fun f => rfl) ?_
            refine mr_ldk (l0 := le) rfl rfl (k := p + 1 + 2) (by omega) ?_
            refine mr_seg 2 (pc1 := 64) (ls1 := [some (.ref 101), some (.int (nI p)), some (.ref 2), some (.int 2), some (.int (nI (p + 1 + 2)))]) (st1 := [.int 2, .ref 2, .int (nI (kg le (p + 1 + 2)))]) (M1 := (mk_M (cT im le ln ys vt nu nn rf vw vq yc yh yg) n m kk q)) (fun f => rfl) ?_
            refine mr_call (y := 22) (y0 := 67) (L := [some (.ref 2), some (.int 2)]) (rest := [.int (nI (kg le (p + 1 + 2)))]) (rr := some (.int 59)) (M1 := (mk_M (cT im le ln ys vt nu nn rf vw vq yc yh yg) n m kk q)) (fun f => rfl) (mr_chk_ok (n := 300) (z := 22) (ls := [some (.ref 2), some (.int 2)]) (v := 59) (by decide +kernel) _) ?_
            refine mr_call (y := 27) (y0 := 70) (L := [some (.int (nI (kg le (p + 1 + 2)))), some (.int 59)]) (rest := []) (rr := some (.int (cond (kfit 59 (kg le (p + 1 + 2))) 1 0))) (M1 := (mk_M (cT im le ln ys vt nu nn rf vw vq yc yh yg) n m kk q)) (fun f => rfl) (kd_fit59 (c := kg le (p + 1 + 2)) (by have := b2 (p + 1 + 2); omega) _) ?_
            rcases hf_6 : kfit 59 (kg le (p + 1 + 2)) with _ | _
            · refine mr_v (show cond false 1 0 = (0 : Int32) from rfl) ?_
              refine mr_eq (mr_ret 3 (o := (some (.int (nI (p + 1 + 2))), (mk_M (cT im le ln ys vt nu nn rf vw vq yc yh yg) n m kk q))) (fun f => rfl)) ?_
              rw [show kmis le ln p = some (p + 1 + 2) from (kmis_2 h0 hs).trans ((kmf_t 0 (Nat.lt_of_not_le h1) hf_2).trans ((kmf_t 1 (Nat.lt_of_not_le h3) hf_4).trans (kmf_b 2 hf_6)))] <;> rfl
            · refine mr_v (show cond true 1 0 = (1 : Int32) from rfl) ?_
              refine mr_seg 5 (pc1 := 33) (ls1 := [some (.ref 101), some (.int (nI p)), some (.ref 2), some (.int 3), some (.int (nI (p + 1 + 2)))]) (st1 := [.ref 2, .int 3]) (M1 := (mk_M (cT im le ln ys vt nu nn rf vw vq yc yh yg) n m kk q)) (fun f => rfl) ?_
              refine mr_call (y := 20) (y0 := 36) (L := [some (.ref 2)]) (rest := [.int 3]) (rr := some (.int 3)) (M1 := (mk_M (cT im le ln ys vt nu nn rf vw vq yc yh yg) n m kk q)) (fun f => rfl) (mr_chk_ok (n := 300) (z := 20) (ls := [some (.ref 2)]) (v := 3) (by decide +kernel) _) ?_
              refine mr_eq (mr_ret 3 (o := (some (.int (-9)), (mk_M (cT im le ln ys vt nu nn rf vw vq yc yh yg) n m kk q))) (fun f => rfl)) ?_
              rw [show kmis le ln p = none from (kmis_2 h0 hs).trans ((kmf_t 0 (Nat.lt_of_not_le h1) hf_2).trans ((kmf_t 1 (Nat.lt_of_not_le h3) hf_4).trans ((kmf_t 2 (Nat.lt_of_not_le h5) hf_6).trans (rfl))))] <;> rfl
set_option maxRecDepth 100000 in
theorem kd_mis_3 (im : Nat) (le : List Nat) (ln : Nat) (ys : List Int32) (vt : Int32) (nu : List Nat) (nn : Nat) (rf : List Nat) (vw vq : Int32) (yc yh yg : List Int32) (n m kk : kG) (q : cR) (p : Nat) (hB : iB le ln) (h0 : p < ln) (hs : kshr (kg le p) = 3) : mm_R 17 0 [some (.ref 101), some (.int (nI p)), none, none, none] [] (mk_M (cT im le ln ys vt nu nn rf vw vq yc yh yg) n m kk q) (some (.int (kI (kmis le ln p))), (mk_M (cT im le ln ys vt nu nn rf vw vq yc yh yg) n m kk q)) := by
  obtain ⟨b1, b2, b3⟩ := id hB
  have e0 := b2 p
  refine mr_seg 3 (pc1 := 5) (ls1 := [some (.ref 101), some (.int (nI p)), none, none, none]) (st1 := [.int (nI ln), .int (nI p)]) (M1 := (mk_M (cT im le ln ys vt nu nn rf vw vq yc yh yg) n m kk q)) (fun f => rfl) ?_
  refine mr_t (C := (nI p) < (nI ln)) ((nI_lti (a := p) (b := ln) (by omega)).mpr (h0)) (fun f => rfl) ?_
  refine mr_seg 3 (pc1 := 15) (ls1 := [some (.ref 101), some (.int (nI p)), none, none, none]) (st1 := [.int (nI p), .ref 102]) (M1 := (mk_M (cT im le ln ys vt nu nn rf vw vq yc yh yg) n m kk q)) (fun f => rfl) ?_
  refine mr_ldk (l0 := le) rfl rfl (k := p) (by omega) ?_
  refine mr_call (y := 18) (y0 := 19) (L := [some (.int (nI (kg le p)))]) (rest := []) (rr := some (.ref 3)) (M1 := (mk_M (cT im le ln ys vt nu nn rf vw vq yc yh yg) n m kk q)) (fun f => rfl) (mr_eq (kd_shp (c := kg le p) (by omega) _) (by rw [hs])) ?_
  refine mr_seg 2 (pc1 := 21) (ls1 := [some (.ref 101), some (.int (nI p)), some (.ref 3), none, none]) (st1 := [.ref 3]) (M1 := (mk_M (cT im le ln ys vt nu nn rf vw vq yc yh yg) n m kk q)) (fun f => rfl) ?_
  refine mr_call (y := 19) (y0 := 24) (L := [some (.ref 3)]) (rest := []) (rr := some (.int 0)) (M1 := (mk_M (cT im le ln ys vt nu nn rf vw vq yc yh yg) n m kk q)) (fun f => rfl) (mr_chk_ok (n := 300) (z := 19) (ls := [some (.ref 3)]) (v := 0) (by decide +kernel) _) ?_
  refine mr_seg 5 (pc1 := 33) (ls1 := [some (.ref 101), some (.int (nI p)), some (.ref 3), some (.int 0), none]) (st1 := [.ref 3, .int 0]) (M1 := (mk_M (cT im le ln ys vt nu nn rf vw vq yc yh yg) n m kk q)) (fun f => rfl) ?_
  refine mr_call (y := 20) (y0 := 36) (L := [some (.ref 3)]) (rest := [.int 0]) (rr := some (.int 2)) (M1 := (mk_M (cT im le ln ys vt nu nn rf vw vq yc yh yg) n m kk q)) (fun f => rfl) (mr_chk_ok (n := 300) (z := 20) (ls := [some (.ref 3)]) (v := 2) (by decide +kernel) _) ?_
  refine mr_seg 4 (pc1 := 42) (ls1 := [some (.ref 101), some (.int (nI p)), some (.ref 3), some (.int 0), none]) (st1 := [.int ((nI p) + (1 : Int32))]) (M1 := (mk_M (cT im le ln ys vt nu nn rf vw vq yc yh yg) n m kk q)) (fun f => rfl) ?_
  refine mr_v (nI_add p 1) ?_
  refine mr_seg 2 (pc1 := 44) (ls1 := [some (.ref 101), some (.int (nI p)), some (.ref 3), some (.int 0), none]) (st1 := [.int ((nI (p + 1)) + (0 : Int32))]) (M1 := (mk_M (cT im le ln ys vt nu nn rf vw vq yc yh yg) n m kk q)) (fun f => rfl) ?_
  refine mr_v (nI_add (p + 1) 0) ?_
  refine mr_seg 4 (pc1 := 52) (ls1 := [some (.ref 101), some (.int (nI p)), some (.ref 3), some (.int 0), some (.int (nI (p + 1 + 0)))]) (st1 := [.int (nI ln), .int (nI (p + 1 + 0))]) (M1 := (mk_M (cT im le ln ys vt nu nn rf vw vq yc yh yg) n m kk q)) (fun f => rfl) ?_
  refine mr_ifN (C := (nI ln) ≤ (nI (p + 1 + 0))) (nI_lei (a := ln) (b := p + 1 + 0) (by omega)) (fun f => rfl) (fun h1 => ?_) (fun h1 => ?_)
  · refine mr_eq (mr_ret 2 (o := (some (.int (nI (p + 1 + 0))), (mk_M (cT im le ln ys vt nu nn rf vw vq yc yh yg) n m kk q))) (fun f => rfl)) ?_
    rw [show kmis le ln p = some (p + 1 + 0) from (kmis_3 h0 hs).trans (kmf_e 0 (Nat.not_lt.mpr h1))] <;> rfl
  · refine mr_seg 3 (pc1 := 61) (ls1 := [some (.ref 101), some (.int (nI p)), some (.ref 3), some (.int 0), some (.int (nI (p + 1 + 0)))]) (st1 := [.int (nI (p + 1 + 0)), .ref 102]) (M1 := (mk_M (cT im le ln ys vt nu nn rf vw vq yc yh yg) n m kk q)) (fun f => rfl) ?_
    refine mr_ldk (l0 := le) rfl rfl (k := p + 1 + 0) (by omega) ?_
    refine mr_seg 2 (pc1 := 64) (ls1 := [some (.ref 101), some (.int (nI p)), some (.ref 3), some (.int 0), some (.int (nI (p + 1 + 0)))]) (st1 := [.int 0, .ref 3, .int (nI (kg le (p + 1 + 0)))]) (M1 := (mk_M (cT im le ln ys vt nu nn rf vw vq yc yh yg) n m kk q)) (fun f => rfl) ?_
    refine mr_call (y := 22) (y0 := 67) (L := [some (.ref 3), some (.int 0)]) (rest := [.int (nI (kg le (p + 1 + 0)))]) (rr := some (.int 57)) (M1 := (mk_M (cT im le ln ys vt nu nn rf vw vq yc yh yg) n m kk q)) (fun f => rfl) (mr_chk_ok (n := 300) (z := 22) (ls := [some (.ref 3), some (.int 0)]) (v := 57) (by decide +kernel) _) ?_
    refine mr_call (y := 27) (y0 := 70) (L := [some (.int (nI (kg le (p + 1 + 0)))), some (.int 57)]) (rest := []) (rr := some (.int (cond (kfit 57 (kg le (p + 1 + 0))) 1 0))) (M1 := (mk_M (cT im le ln ys vt nu nn rf vw vq yc yh yg) n m kk q)) (fun f => rfl) (kd_fit57 (c := kg le (p + 1 + 0)) (by have := b2 (p + 1 + 0); omega) _) ?_
    rcases hf_2 : kfit 57 (kg le (p + 1 + 0)) with _ | _
    · refine mr_v (show cond false 1 0 = (0 : Int32) from rfl) ?_
      refine mr_eq (mr_ret 3 (o := (some (.int (nI (p + 1 + 0))), (mk_M (cT im le ln ys vt nu nn rf vw vq yc yh yg) n m kk q))) (fun f => rfl)) ?_
      rw [show kmis le ln p = some (p + 1 + 0) from (kmis_3 h0 hs).trans (kmf_b 0 hf_2)] <;> rfl
    · refine mr_v (show cond true 1 0 = (1 : Int32) from rfl) ?_
      refine mr_seg 5 (pc1 := 33) (ls1 := [some (.ref 101), some (.int (nI p)), some (.ref 3), some (.int 1), some (.int (nI (p + 1 + 0)))]) (st1 := [.ref 3, .int 1]) (M1 := (mk_M (cT im le ln ys vt nu nn rf vw vq yc yh yg) n m kk q)) (fun f => rfl) ?_
      refine mr_call (y := 20) (y0 := 36) (L := [some (.ref 3)]) (rest := [.int 1]) (rr := some (.int 2)) (M1 := (mk_M (cT im le ln ys vt nu nn rf vw vq yc yh yg) n m kk q)) (fun f => rfl) (mr_chk_ok (n := 300) (z := 20) (ls := [some (.ref 3)]) (v := 2) (by decide +kernel) _) ?_
      refine mr_seg 4 (pc1 := 42) (ls1 := [some (.ref 101), some (.int (nI p)), some (.ref 3), some (.int 1), some (.int (nI (p + 1 + 0)))]) (st1 := [.int ((nI p) + (1 : Int32))]) (M1 := (mk_M (cT im le ln ys vt nu nn rf vw vq yc yh yg) n m kk q)) (fun f => rfl) ?_
      refine mr_v (nI_add p 1) ?_
      refine mr_seg 2 (pc1 := 44) (ls1 := [some (.ref 101), some (.int (nI p)), some (.ref 3), some (.int 1), some (.int (nI (p + 1 + 0)))]) (st1 := [.int ((nI (p + 1)) + (1 : Int32))]) (M1 := (mk_M (cT im le ln ys vt nu nn rf vw vq yc yh yg) n m kk q)) (fun f => rfl) ?_
      refine mr_v (nI_add (p + 1) 1) ?_
      refine mr_seg 4 (pc1 := 52) (ls1 := [some (.ref 101), some (.int (nI p)), some (.ref 3), some (.int 1), some (.int (nI (p + 1 + 1)))]) (st1 := [.int (nI ln), .int (nI (p + 1 + 1))]) (M1 := (mk_M (cT im le ln ys vt nu nn rf vw vq yc yh yg) n m kk q)) (fun f => rfl) ?_
      refine mr_ifN (C := (nI ln) ≤ (nI (p + 1 + 1))) (nI_lei (a := ln) (b := p + 1 + 1) (by omega)) (fun f => rfl) (fun h3 => ?_) (fun h3 => ?_)
      · refine mr_eq (mr_ret 2 (o := (some (.int (nI (p + 1 + 1))), (mk_M (cT im le ln ys vt nu nn rf vw vq yc yh yg) n m kk q))) (fun f => rfl)) ?_
        rw [show kmis le ln p = some (p + 1 + 1) from (kmis_3 h0 hs).trans ((kmf_t 0 (Nat.lt_of_not_le h1) hf_2).trans (kmf_e 1 (Nat.not_lt.mpr h3)))] <;> rfl
      · refine mr_seg 3 (pc1 := 61) (ls1 := [some (.ref 101), some (.int (nI p)), some (.ref 3), some (.int 1), some (.int (nI (p + 1 + 1)))]) (st1 := [.int (nI (p + 1 + 1)), .ref 102]) (M1 := (mk_M (cT im le ln ys vt nu nn rf vw vq yc yh yg) n m kk q)) (fun f => rfl) ?_
        refine mr_ldk (l0 := le) rfl rfl (k := p + 1 + 1) (by omega) ?_
        refine mr_seg 2 (pc1 := 64) (ls1 := [some (.ref 101), some (.int (nI p)), some (.ref 3), some (.int 1), some (.int (nI (p + 1 + 1)))]) (st1 := [.int 1, .ref 3, .int (nI (kg le (p + 1 + 1)))]) (M1 := (mk_M (cT im le ln ys vt nu nn rf vw vq yc yh yg) n m kk q)) (fun f => rfl) ?_
        refine mr_call (y := 22) (y0 := 67) (L := [some (.ref 3), some (.int 1)]) (rest := [.int (nI (kg le (p + 1 + 1)))]) (rr := some (.int 59)) (M1 := (mk_M (cT im le ln ys vt nu nn rf vw vq yc yh yg) n m kk q)) (fun f => rfl) (mr_chk_ok (n := 300) (z := 22) (ls := [some (.ref 3), some (.int 1)]) (v := 59) (by decide +kernel) _) ?_
        refine mr_call (y := 27) (y0 := 70) (L := [some (.int (nI (kg le (p + 1 + 1)))), some (.int 59)]) (rest := []) (rr := some (.int (cond (kfit 59 (kg le (p + 1 + 1))) 1 0))) (M1 := (mk_M (cT im le ln ys vt nu nn rf vw vq yc yh yg) n m kk q)) (fun f => rfl) (kd_fit59 (c := kg le (p + 1 + 1)) (by have := b2 (p + 1 + 1); omega) _) ?_
        rcases hf_4 : kfit 59 (kg le (p + 1 + 1)) with _ | _
        · refine mr_v (show cond false 1 0 = (0 : Int32) from rfl) ?_
          refine mr_eq (mr_ret 3 (o := (some (.int (nI (p + 1 + 1))), (mk_M (cT im le ln ys vt nu nn rf vw vq yc yh yg) n m kk q))) (fun f => rfl)) ?_
          rw [show kmis le ln p = some (p + 1 + 1) from (kmis_3 h0 hs).trans ((kmf_t 0 (Nat.lt_of_not_le h1) hf_2).trans (kmf_b 1 hf_4))] <;> rfl
        · refine mr_v (show cond true 1 0 = (1 : Int32) from rfl) ?_
          refine mr_seg 5 (pc1 := 33) (ls1 := [some (.ref 101), some (.int (nI p)), some (.ref 3), some (.int 2), some (.int (nI (p + 1 + 1)))]) (st1 := [.ref 3, .int 2]) (M1 := (mk_M (cT im le ln ys vt nu nn rf vw vq yc yh yg) n m kk q)) (fun f => rfl) ?_
          refine mr_call (y := 20) (y0 := 36) (L := [some (.ref 3)]) (rest := [.int 2]) (rr := some (.int 2)) (M1 := (mk_M (cT im le ln ys vt nu nn rf vw vq yc yh yg) n m kk q)) (fun f => rfl) (mr_chk_ok (n := 300) (z := 20) (ls := [some (.ref 3)]) (v := 2) (by decide +kernel) _) ?_
          refine mr_eq (mr_ret 3 (o := (some (.int (-9)), (mk_M (cT im le ln ys vt nu nn rf vw vq yc yh yg) n m kk q))) (fun f => rfl)) ?_
          rw [show kmis le ln p = none from (kmis_3 h0 hs).trans ((kmf_t 0 (Nat.lt_of_not_le h1) hf_2).trans ((kmf_t 1 (Nat.lt_of_not_le h3) hf_4).trans (rfl)))] <;> rfl
set_option maxRecDepth 100000 in
theorem kd_mis_4 (im : Nat) (le : List Nat) (ln : Nat) (ys : List Int32) (vt : Int32) (nu : List Nat) (nn : Nat) (rf : List Nat) (vw vq : Int32) (yc yh yg : List Int32) (n m kk : kG) (q : cR) (p : Nat) (hB : iB le ln) (h0 : p < ln) (hs : kshr (kg le p) = 4) : mm_R 17 0 [some (.ref 101), some (.int (nI p)), none, none, none] [] (mk_M (cT im le ln ys vt nu nn rf vw vq yc yh yg) n m kk q) (some (.int (kI (kmis le ln p))), (mk_M (cT im le ln ys vt nu nn rf vw vq yc yh yg) n m kk q)) := by
  obtain ⟨b1, b2, b3⟩ := id hB
  have e0 := b2 p
  refine mr_seg 3 (pc1 := 5) (ls1 := [some (.ref 101), some (.int (nI p)), none, none, none]) (st1 := [.int (nI ln), .int (nI p)]) (M1 := (mk_M (cT im le ln ys vt nu nn rf vw vq yc yh yg) n m kk q)) (fun f => rfl) ?_
  refine mr_t (C := (nI p) < (nI ln)) ((nI_lti (a := p) (b := ln) (by omega)).mpr (h0)) (fun f => rfl) ?_
  refine mr_seg 3 (pc1 := 15) (ls1 := [some (.ref 101), some (.int (nI p)), none, none, none]) (st1 := [.int (nI p), .ref 102]) (M1 := (mk_M (cT im le ln ys vt nu nn rf vw vq yc yh yg) n m kk q)) (fun f => rfl) ?_
  refine mr_ldk (l0 := le) rfl rfl (k := p) (by omega) ?_
  refine mr_call (y := 18) (y0 := 19) (L := [some (.int (nI (kg le p)))]) (rest := []) (rr := some (.ref 4)) (M1 := (mk_M (cT im le ln ys vt nu nn rf vw vq yc yh yg) n m kk q)) (fun f => rfl) (mr_eq (kd_shp (c := kg le p) (by omega) _) (by rw [hs])) ?_
  refine mr_seg 2 (pc1 := 21) (ls1 := [some (.ref 101), some (.int (nI p)), some (.ref 4), none, none]) (st1 := [.ref 4]) (M1 := (mk_M (cT im le ln ys vt nu nn rf vw vq yc yh yg) n m kk q)) (fun f => rfl) ?_
  refine mr_call (y := 19) (y0 := 24) (L := [some (.ref 4)]) (rest := []) (rr := some (.int 0)) (M1 := (mk_M (cT im le ln ys vt nu nn rf vw vq yc yh yg) n m kk q)) (fun f => rfl) (mr_chk_ok (n := 300) (z := 19) (ls := [some (.ref 4)]) (v := 0) (by decide +kernel) _) ?_
  refine mr_seg 5 (pc1 := 33) (ls1 := [some (.ref 101), some (.int (nI p)), some (.ref 4), some (.int 0), none]) (st1 := [.ref 4, .int 0]) (M1 := (mk_M (cT im le ln ys vt nu nn rf vw vq yc yh yg) n m kk q)) (fun f => rfl) ?_
  refine mr_call (y := 20) (y0 := 36) (L := [some (.ref 4)]) (rest := [.int 0]) (rr := some (.int 3)) (M1 := (mk_M (cT im le ln ys vt nu nn rf vw vq yc yh yg) n m kk q)) (fun f => rfl) (mr_chk_ok (n := 300) (z := 20) (ls := [some (.ref 4)]) (v := 3) (by decide +kernel) _) ?_
  refine mr_seg 4 (pc1 := 42) (ls1 := [some (.ref 101), some (.int (nI p)), some (.ref 4), some (.int 0), none]) (st1 := [.int ((nI p) + (1 : Int32))]) (M1 := (mk_M (cT im le ln ys vt nu nn rf vw vq yc yh yg) n m kk q)) (fun f => rfl) ?_
  refine mr_v (nI_add p 1) ?_
  refine mr_seg 2 (pc1 := 44) (ls1 := [some (.ref 101), some (.int (nI p)), some (.ref 4), some (.int 0), none]) (st1 := [.int ((nI (p + 1)) + (0 : Int32))]) (M1 := (mk_M (cT im le ln ys vt nu nn rf vw vq yc yh yg) n m kk q)) (fun f => rfl) ?_
  refine mr_v (nI_add (p + 1) 0) ?_
  refine mr_seg 4 (pc1 := 52) (ls1 := [some (.ref 101), some (.int (nI p)), some (.ref 4), some (.int 0), some (.int (nI (p + 1 + 0)))]) (st1 := [.int (nI ln), .int (nI (p + 1 + 0))]) (M1 := (mk_M (cT im le ln ys vt nu nn rf vw vq yc yh yg) n m kk q)) (fun f => rfl) ?_
  refine mr_ifN (C := (nI ln) ≤ (nI (p + 1 + 0))) (nI_lei (a := ln) (b := p + 1 + 0) (by omega)) (fun f => rfl) (fun h1 => ?_) (fun h1 => ?_)
  · refine mr_eq (mr_ret 2 (o := (some (.int (nI (p + 1 + 0))), (mk_M (cT im le ln ys vt nu nn rf vw vq yc yh yg) n m kk q))) (fun f => rfl)) ?_
    rw [show kmis le ln p = some (p + 1 + 0) from (kmis_4 h0 hs).trans (kmf_e 0 (Nat.not_lt.mpr h1))] <;> rfl
  · refine mr_seg 3 (pc1 := 61) (ls1 := [some (.ref 101), some (.int (nI p)), some (.ref 4), some (.int 0), some (.int (nI (p + 1 + 0)))]) (st1 := [.int (nI (p + 1 + 0)), .ref 102]) (M1 := (mk_M (cT im le ln ys vt nu nn rf vw vq yc yh yg) n m kk q)) (fun f => rfl) ?_
    refine mr_ldk (l0 := le) rfl rfl (k := p + 1 + 0) (by omega) ?_
    refine mr_seg 2 (pc1 := 64) (ls1 := [some (.ref 101), some (.int (nI p)), some (.ref 4), some (.int 0), some (.int (nI (p + 1 + 0)))]) (st1 := [.int 0, .ref 4, .int (nI (kg le (p + 1 + 0)))]) (M1 := (mk_M (cT im le ln ys vt nu nn rf vw vq yc yh yg) n m kk q)) (fun f => rfl) ?_
    refine mr_call (y := 22) (y0 := 67) (L := [some (.ref 4), some (.int 0)]) (rest := [.int (nI (kg le (p + 1 + 0)))]) (rr := some (.int 57)) (M1 := (mk_M (cT im le ln ys vt nu nn rf vw vq yc yh yg) n m kk q)) (fun f => rfl) (mr_chk_ok (n := 300) (z := 22) (ls := [some (.ref 4), some (.int 0)]) (v := 57) (by decide +kernel) _) ?_
    refine mr_call (y := 27) (y0 := 70) (L := [some (.int (nI (kg le (p + 1 + 0)))), some (.int 57)]) (rest := []) (rr := some (.int (cond (kfit 57 (kg le (p + 1 + 0))) 1 0))) (M1 := (mk_M (cT im le ln ys vt nu nn rf vw vq yc yh yg) n m kk q)) (fun f => rfl) (kd_fit57 (c := kg le (p + 1 + 0)) (by have := b2 (p + 1 + 0); omega) _) ?_
    rcases hf_2 : kfit 57 (kg le (p + 1 + 0)) with _ | _
    · refine mr_v (show cond false 1 0 = (0 : Int32) from rfl) ?_
      refine mr_eq (mr_ret 3 (o := (some (.int (nI (p + 1 + 0))), (mk_M (cT im le ln ys vt nu nn rf vw vq yc yh yg) n m kk q))) (fun f => rfl)) ?_
      rw [show kmis le ln p = some (p + 1 + 0) from (kmis_4 h0 hs).trans (kmf_b 0 hf_2)] <;> rfl
    · refine mr_v (show cond true 1 0 = (1 : Int32) from rfl) ?_
      refine mr_seg 5 (pc1 := 33) (ls1 := [some (.ref 101), some (.int (nI p)), some (.ref 4), some (.int 1), some (.int (nI (p + 1 + 0)))]) (st1 := [.ref 4, .int 1]) (M1 := (mk_M (cT im le ln ys vt nu nn rf vw vq yc yh yg) n m kk q)) (fun f => rfl) ?_
      refine mr_call (y := 20) (y0 := 36) (L := [some (.ref 4)]) (rest := [.int 1]) (rr := some (.int 3)) (M1 := (mk_M (cT im le ln ys vt nu nn rf vw vq yc yh yg) n m kk q)) (fun f => rfl) (mr_chk_ok (n := 300) (z := 20) (ls := [some (.ref 4)]) (v := 3) (by decide +kernel) _) ?_
      refine mr_seg 4 (pc1 := 42) (ls1 := [some (.ref 101), some (.int (nI p)), some (.ref 4), some (.int 1), some (.int (nI (p + 1 + 0)))]) (st1 := [.int ((nI p) + (1 : Int32))]) (M1 := (mk_M (cT im le ln ys vt nu nn rf vw vq yc yh yg) n m kk q)) (fun f => rfl) ?_
      refine mr_v (nI_add p 1) ?_
      refine mr_seg 2 (pc1 := 44) (ls1 := [some (.ref 101), some (.int (nI p)), some (.ref 4), some (.int 1), some (.int (nI (p + 1 + 0)))]) (st1 := [.int ((nI (p + 1)) + (1 : Int32))]) (M1 := (mk_M (cT im le ln ys vt nu nn rf vw vq yc yh yg) n m kk q)) (fun f => rfl) ?_
      refine mr_v (nI_add (p + 1) 1) ?_
      refine mr_seg 4 (pc1 := 52) (ls1 := [some (.ref 101), some (.int (nI p)), some (.ref 4), some (.int 1), some (.int (nI (p + 1 + 1)))]) (st1 := [.int (nI ln), .int (nI (p + 1 + 1))]) (M1 := (mk_M (cT im le ln ys vt nu nn rf vw vq yc yh yg) n m kk q)) (fun f => rfl) ?_
      refine mr_ifN (C := (nI ln) ≤ (nI (p + 1 + 1))) (nI_lei (a := ln) (b := p + 1 + 1) (by omega)) (fun f => rfl) (fun h3 => ?_) (fun h3 => ?_)
      · refine mr_eq (mr_ret 2 (o := (some (.int (nI (p + 1 + 1))), (mk_M (cT im le ln ys vt nu nn rf vw vq yc yh yg) n m kk q))) (fun f => rfl)) ?_
        rw [show kmis le ln p = some (p + 1 + 1) from (kmis_4 h0 hs).trans ((kmf_t 0 (Nat.lt_of_not_le h1) hf_2).trans (kmf_e 1 (Nat.not_lt.mpr h3)))] <;> rfl
      · refine mr_seg 3 (pc1 := 61) (ls1 := [some (.ref 101), some (.int (nI p)), some (.ref 4), some (.int 1), some (.int (nI (p + 1 + 1)))]) (st1 := [.int (nI (p + 1 + 1)), .ref 102]) (M1 := (mk_M (cT im le ln ys vt nu nn rf vw vq yc yh yg) n m kk q)) (fun f => rfl) ?_
        refine mr_ldk (l0 := le) rfl rfl (k := p + 1 + 1) (by omega) ?_
        refine mr_seg 2 (pc1 := 64) (ls1 := [some (.ref 101), some (.int (nI p)), some (.ref 4), some (.int 1), some (.int (nI (p + 1 + 1)))]) (st1 := [.int 1, .ref 4, .int (nI (kg le (p + 1 + 1)))]) (M1 := (mk_M (cT im le ln ys vt nu nn rf vw vq yc yh yg) n m kk q)) (fun f => rfl) ?_
        refine mr_call (y := 22) (y0 := 67) (L := [some (.ref 4), some (.int 1)]) (rest := [.int (nI (kg le (p + 1 + 1)))]) (rr := some (.int 57)) (M1 := (mk_M (cT im le ln ys vt nu nn rf vw vq yc yh yg) n m kk q)) (fun f => rfl) (mr_chk_ok (n := 300) (z := 22) (ls := [some (.ref 4), some (.int 1)]) (v := 57) (by decide +kernel) _) ?_
        refine mr_call (y := 27) (y0 := 70) (L := [some (.int (nI (kg le (p + 1 + 1)))), some (.int 57)]) (rest := []) (rr := some (.int (cond (kfit 57 (kg le (p + 1 + 1))) 1 0))) (M1 := (mk_M (cT im le ln ys vt nu nn rf vw vq yc yh yg) n m kk q)) (fun f => rfl) (kd_fit57 (c := kg le (p + 1 + 1)) (by have := b2 (p + 1 + 1); omega) _) ?_
        rcases hf_4 : kfit 57 (kg le (p + 1 + 1)) with _ | _
        · refine mr_v (show cond false 1 0 = (0 : Int32) from rfl) ?_
          refine mr_eq (mr_ret 3 (o := (some (.int (nI (p + 1 + 1))), (mk_M (cT im le ln ys vt nu nn rf vw vq yc yh yg) n m kk q))) (fun f => rfl)) ?_
          rw [show kmis le ln p = some (p + 1 + 1) from (kmis_4 h0 hs).trans ((kmf_t 0 (Nat.lt_of_not_le h1) hf_2).trans (kmf_b 1 hf_4))] <;> rfl
        · refine mr_v (show cond true 1 0 = (1 : Int32) from rfl) ?_
          refine mr_seg 5 (pc1 := 33) (ls1 := [some (.ref 101), some (.int (nI p)), some (.ref 4), some (.int 2), some (.int (nI (p + 1 + 1)))]) (st1 := [.ref 4, .int 2]) (M1 := (mk_M (cT im le ln ys vt nu nn rf vw vq yc yh yg) n m kk q)) (fun f => rfl) ?_
          refine mr_call (y := 20) (y0 := 36) (L := [some (.ref 4)]) (rest := [.int 2]) (rr := some (.int 3)) (M1 := (mk_M (cT im le ln ys vt nu nn rf vw vq yc yh yg) n m kk q)) (fun f => rfl) (mr_chk_ok (n := 300) (z := 20) (ls := [some (.ref 4)]) (v := 3) (by decide +kernel) _) ?_
          refine mr_seg 4 (pc1 := 42) (ls1 := [some (.ref 101), some (.int (nI p)), some (.ref 4), some (.int 2), some (.int (nI (p + 1 + 1)))]) (st1 := [.int ((nI p) + (1 : Int32))]) (M1 := (mk_M (cT im le ln ys vt nu nn rf vw vq yc yh yg) n m kk q)) (fun f => rfl) ?_
          refine mr_v (nI_add p 1) ?_
          refine mr_seg 2 (pc1 := 44) (ls1 := [some (.ref 101), some (.int (nI p)), some (.ref 4), some (.int 2), some (.int (nI (p + 1 + 1)))]) (st1 := [.int ((nI (p + 1)) + (2 : Int32))]) (M1 := (mk_M (cT im le ln ys vt nu nn rf vw vq yc yh yg) n m kk q)) (fun f => rfl) ?_
          refine mr_v (nI_add (p + 1) 2) ?_
          refine mr_seg 4 (pc1 := 52) (ls1 := [some (.ref 101), some (.int (nI p)), some (.ref 4), some (.int 2), some (.int (nI (p + 1 + 2)))]) (st1 := [.int (nI ln), .int (nI (p + 1 + 2))]) (M1 := (mk_M (cT im le ln ys vt nu nn rf vw vq yc yh yg) n m kk q)) (fun f => rfl) ?_
          refine mr_ifN (C := (nI ln) ≤ (nI (p + 1 + 2))) (nI_lei (a := ln) (b := p + 1 + 2) (by omega)) (fun f => rfl) (fun h5 => ?_) (fun h5 => ?_)
          · refine mr_eq (mr_ret 2 (o := (some (.int (nI (p + 1 + 2))), (mk_M (cT im le ln ys vt nu nn rf vw vq yc yh yg) n m kk q))) (fun f => rfl)) ?_
            rw [show kmis le ln p = some (p + 1 + 2) from (kmis_4 h0 hs).trans ((kmf_t 0 (Nat.lt_of_not_le h1) hf_2).trans ((kmf_t 1 (Nat.lt_of_not_le h3) hf_4).trans (kmf_e 2 (Nat.not_lt.mpr h5))))] <;> rfl
          · refine mr_seg 3 (pc1 := 61) (ls1 := [some (.ref 101), some (.int (nI p)), some (.ref 4), some (.int 2), some (.int (nI (p + 1 + 2)))]) (st1 := [.int (nI (p + 1 + 2)), .ref 102]) (M1 := (mk_M (cT im le ln ys vt nu nn rf vw vq yc yh yg) n m kk q)) (fun f => rfl) ?_
            refine mr_ldk (l0 := le) rfl rfl (k := p + 1 + 2) (by omega) ?_
            refine mr_seg 2 (pc1 := 64) (ls1 := [some (.ref 101), some (.int (nI p)), some (.ref 4), some (.int 2), some (.int (nI (p + 1 + 2)))]) (st1 := [.int 2, .ref 4, .int (nI (kg le (p + 1 + 2)))]) (M1 := (mk_M (cT im le ln ys vt nu nn rf vw vq yc yh yg) n m kk q)) (fun f => rfl) ?_
            refine mr_call (y := 22) (y0 := 67) (L := [some (.ref 4), some (.int 2)]) (rest := [.int (nI (kg le (p + 1 + 2)))]) (rr := some (.int 59)) (M1 := (mk_M (cT im le ln ys vt nu nn rf vw vq yc yh yg) n m kk q)) (fun f => rfl) (mr_chk_ok (n := 300) (z := 22) (ls := [some (.ref 4), some (.int 2)]) (v := 59) (by decide +kernel) _) ?_
            refine mr_call (y := 27) (y0 := 70) (L := [some (.int (nI (kg le (p + 1 + 2)))), some (.int 59)]) (rest := []) (rr := some (.int (cond (kfit 59 (kg le (p + 1 + 2))) 1 0))) (M1 := (mk_M (cT im le ln ys vt nu nn rf vw vq yc yh yg) n m kk q)) (fun f => rfl) (kd_fit59 (c := kg le (p + 1 + 2)) (by have := b2 (p + 1 + 2); omega) _) ?_
            rcases hf_6 : kfit 59 (kg le (p + 1 + 2)) with _ | _
            · refine mr_v (show cond false 1 0 = (0 : Int32) from rfl) ?_
              refine mr_eq (mr_ret 3 (o := (some (.int (nI (p + 1 + 2))), (mk_M (cT im le ln ys vt nu nn rf vw vq yc yh yg) n m kk q))) (fun f => rfl)) ?_
              rw [show kmis le ln p = some (p + 1 + 2) from (kmis_4 h0 hs).trans ((kmf_t 0 (Nat.lt_of_not_le h1) hf_2).trans ((kmf_t 1 (Nat.lt_of_not_le h3) hf_4).trans (kmf_b 2 hf_6)))] <;> rfl
            · refine mr_v (show cond true 1 0 = (1 : Int32) from rfl) ?_
              refine mr_seg 5 (pc1 := 33) (ls1 := [some (.ref 101), some (.int (nI p)), some (.ref 4), some (.int 3), some (.int (nI (p + 1 + 2)))]) (st1 := [.ref 4, .int 3]) (M1 := (mk_M (cT im le ln ys vt nu nn rf vw vq yc yh yg) n m kk q)) (fun f => rfl) ?_
              refine mr_call (y := 20) (y0 := 36) (L := [some (.ref 4)]) (rest := [.int 3]) (rr := some (.int 3)) (M1 := (mk_M (cT im le ln ys vt nu nn rf vw vq yc yh yg) n m kk q)) (fun f => rfl) (mr_chk_ok (n := 300) (z := 20) (ls := [some (.ref 4)]) (v := 3) (by decide +kernel) _) ?_
              refine mr_eq (mr_ret 3 (o := (some (.int (-9)), (mk_M (cT im le ln ys vt nu nn rf vw vq yc yh yg) n m kk q))) (fun f => rfl)) ?_
              rw [show kmis le ln p = none from (kmis_4 h0 hs).trans ((kmf_t 0 (Nat.lt_of_not_le h1) hf_2).trans ((kmf_t 1 (Nat.lt_of_not_le h3) hf_4).trans ((kmf_t 2 (Nat.lt_of_not_le h5) hf_6).trans (rfl))))] <;> rfl
set_option maxRecDepth 100000 in
theorem kd_mis_5 (im : Nat) (le : List Nat) (ln : Nat) (ys : List Int32) (vt : Int32) (nu : List Nat) (nn : Nat) (rf : List Nat) (vw vq : Int32) (yc yh yg : List Int32) (n m kk : kG) (q : cR) (p : Nat) (hB : iB le ln) (h0 : p < ln) (hs : kshr (kg le p) = 5) : mm_R 17 0 [some (.ref 101), some (.int (nI p)), none, none, none] [] (mk_M (cT im le ln ys vt nu nn rf vw vq yc yh yg) n m kk q) (some (.int (kI (kmis le ln p))), (mk_M (cT im le ln ys vt nu nn rf vw vq yc yh yg) n m kk q)) := by
  obtain ⟨b1, b2, b3⟩ := id hB
  have e0 := b2 p
  refine mr_seg 3 (pc1 := 5) (ls1 := [some (.ref 101), some (.int (nI p)), none, none, none]) (st1 := [.int (nI ln), .int (nI p)]) (M1 := (mk_M (cT im le ln ys vt nu nn rf vw vq yc yh yg) n m kk q)) (fun f => rfl) ?_
  refine mr_t (C := (nI p) < (nI ln)) ((nI_lti (a := p) (b := ln) (by omega)).mpr (h0)) (fun f => rfl) ?_
  refine mr_seg 3 (pc1 := 15) (ls1 := [some (.ref 101), some (.int (nI p)), none, none, none]) (st1 := [.int (nI p), .ref 102]) (M1 := (mk_M (cT im le ln ys vt nu nn rf vw vq yc yh yg) n m kk q)) (fun f => rfl) ?_
  refine mr_ldk (l0 := le) rfl rfl (k := p) (by omega) ?_
  refine mr_call (y := 18) (y0 := 19) (L := [some (.int (nI (kg le p)))]) (rest := []) (rr := some (.ref 5)) (M1 := (mk_M (cT im le ln ys vt nu nn rf vw vq yc yh yg) n m kk q)) (fun f => rfl) (mr_eq (kd_shp (c := kg le p) (by omega) _) (by rw [hs])) ?_
  refine mr_seg 2 (pc1 := 21) (ls1 := [some (.ref 101), some (.int (nI p)), some (.ref 5), none, none]) (st1 := [.ref 5]) (M1 := (mk_M (cT im le ln ys vt nu nn rf vw vq yc yh yg) n m kk q)) (fun f => rfl) ?_
  refine mr_call (y := 19) (y0 := 24) (L := [some (.ref 5)]) (rest := []) (rr := some (.int 1)) (M1 := (mk_M (cT im le ln ys vt nu nn rf vw vq yc yh yg) n m kk q)) (fun f => rfl) (mr_chk_ok (n := 300) (z := 19) (ls := [some (.ref 5)]) (v := 1) (by decide +kernel) _) ?_
  refine mr_eq (mr_ret 3 (o := (some (.int (nI p)), (mk_M (cT im le ln ys vt nu nn rf vw vq yc yh yg) n m kk q))) (fun f => rfl)) ?_
  rw [kmis_5 h0 hs] <;> rfl
theorem kd_mis (im : Nat) (le : List Nat) (ln : Nat) (ys : List Int32) (vt : Int32) (nu : List Nat) (nn : Nat) (rf : List Nat) (vw vq : Int32) (yc yh yg : List Int32) (n m kk : kG) (q : cR) (p : Nat) (hB : iB le ln) (hp : p < 2 ^ 20) : mm_R 17 0 [some (.ref 101), some (.int (nI p)), none, none, none] [] (mk_M (cT im le ln ys vt nu nn rf vw vq yc yh yg) n m kk q) (some (.int (kI (kmis le ln p))), (mk_M (cT im le ln ys vt nu nn rf vw vq yc yh yg) n m kk q)) := by
  by_cases h0 : p < ln
  · rcases kshr_c (kg le p) with hs | hs | hs | hs | hs
    · exact kd_mis_1 im le ln ys vt nu nn rf vw vq yc yh yg n m kk q p hB h0 hs
    · exact kd_mis_2 im le ln ys vt nu nn rf vw vq yc yh yg n m kk q p hB h0 hs
    · exact kd_mis_3 im le ln ys vt nu nn rf vw vq yc yh yg n m kk q p hB h0 hs
    · exact kd_mis_4 im le ln ys vt nu nn rf vw vq yc yh yg n m kk q p hB h0 hs
    · exact kd_mis_5 im le ln ys vt nu nn rf vw vq yc yh yg n m kk q p hB h0 hs
  · exact kd_mis_0 im le ln ys vt nu nn rf vw vq yc yh yg n m kk q p hB h0 hp
