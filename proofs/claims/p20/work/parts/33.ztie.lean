/-! ===== a call, tied ===== -/
theorem oI_of {K : kK} {m kk : kG} {im : Nat} {le : List Nat} {ln : Nat} {ys : List Int32} {vt : Int32} {nu : List Nat} {nn : Nat} {rf : List Nat} {vw vq : Int32} {yc yh yg xm xi xw : List Int32} {vp : Int32} {xn xc : List Int32} {vs : Int32} {nn2 : Nat} (V : Int32) (hA : iA K) (hB : iB le ln) (hC2 : iC nu nn2) (hD : iD rf) (hK : iK im kk xi) {zc zm : Nat} {lc lm : mm_L}
    (h1 : mm_E zc 0 lc [] (mk_M (cT im le ln ys vt nu nn rf vw vq yc yh yg) (kr K) m kk (rT K xm xi xw im le nu rf ln nn vp xn xc vs)) (pC (fun r => r = some (.int V)) K im le ln ys vt nu nn2 rf kk (rT K xm xi xw im le nu rf ln nn vp xn xc vs)))
    (h2 : ∀ (c : cC) (n m kk : kG), mm_E zm 0 lm [] (mk_M c n m kk (rT K xm xi xw im le nu rf ln nn vp xn xc vs)) (pM (fun r => r = some (.int V)) K xi im le nu rf ln nn2 c n m kk)) : oI zc zm lc lm (mk_M (cT im le ln ys vt nu nn rf vw vq yc yh yg) (kr K) m kk (rT K xm xi xw im le nu rf ln nn vp xn xc vs)) := by
  obtain ⟨_, _, r1, rfl, vw2, vq2, yc2, yh2, yg2, m2, rfl, hJ2⟩ := h1
  obtain ⟨_, _, r2, rfl, xm2, xw2, vp2, xn2, xc2, vs2, rfl, hR2⟩ := h2 (cT im le ln ys vt nu nn2 rf vw2 vq2 yc2 yh2 yg2) (kr K) m2 kk
  exact ⟨V, _, _, r1, r2, K, m2, kk, im, le, ln, ys, vt, nu, nn2, rf, vw2, vq2, yc2, yh2, yg2, xm2, xi, xw2, vp2, xn2, xc2, vs2, rfl, hA, hB, hC2, hD, hJ2, hR2, hK⟩
theorem oL_of {K : kK} {m kk : kG} {im : Nat} {le : List Nat} {ln : Nat} {ys : List Int32} {vt : Int32} {nu : List Nat} {nn : Nat} {rf : List Nat} {vw vq : Int32} {yc yh yg xm xi xw : List Int32} {vp : Int32} {xn xc : List Int32} {vs : Int32} (V : Int64) (hA : iA K) (hB : iB le ln) (hC2 : iC nu nn) (hD : iD rf) (hK : iK im kk xi) {zc zm : Nat} {lc lm : mm_L}
    (h1 : mm_E zc 0 lc [] (mk_M (cT im le ln ys vt nu nn rf vw vq yc yh yg) (kr K) m kk (rT K xm xi xw im le nu rf ln nn vp xn xc vs)) (pC (fun r => r = some (.long V)) K im le ln ys vt nu nn rf kk (rT K xm xi xw im le nu rf ln nn vp xn xc vs)))
    (h2 : ∀ (c : cC) (n m kk : kG), mm_E zm 0 lm [] (mk_M c n m kk (rT K xm xi xw im le nu rf ln nn vp xn xc vs)) (pM (fun r => r = some (.long V)) K xi im le nu rf ln nn c n m kk)) : oL zc zm lc lm (mk_M (cT im le ln ys vt nu nn rf vw vq yc yh yg) (kr K) m kk (rT K xm xi xw im le nu rf ln nn vp xn xc vs)) := by
  obtain ⟨_, _, r1, rfl, vw2, vq2, yc2, yh2, yg2, m2, rfl, hJ2⟩ := h1
  obtain ⟨_, _, r2, rfl, xm2, xw2, vp2, xn2, xc2, vs2, rfl, hR2⟩ := h2 (cT im le ln ys vt nu nn rf vw2 vq2 yc2 yh2 yg2) (kr K) m2 kk
  exact ⟨V, _, _, r1, r2, K, m2, kk, im, le, ln, ys, vt, nu, nn, rf, vw2, vq2, yc2, yh2, yg2, xm2, xi, xw2, vp2, xn2, xc2, vs2, rfl, hA, hB, hC2, hD, hJ2, hR2, hK⟩
def kFA (o : Option Nat) : Int32 := match o with
  | some v => nI v
  | none => 1000000000
abbrev kD : Type := List (Option Nat)
def kgo (D : kD) (i : Nat) : Option Nat := D.getD i none
theorem kgo_e {D : kD} {i : Nat} (h : i < D.length) : D[i]? = some (kgo D i) := by
  unfold kgo
  rw [List.getD_eq_getElem?_getD, List.getElem?_eq_getElem h]
  rfl
theorem kgo_m {D : kD} {i : Nat} (f : Option Nat → Int32) (h : i < D.length) : (D.map f)[i]? = some (f (kgo D i)) := by
  rw [List.getElem?_map, kgo_e h]
  rfl
theorem kgo_s {D : kD} {i : Nat} {o : Option Nat} {f : Option Nat → Int32} {v : Int32} (h : v = f o) : (D.map f).set i v = (D.set i o).map f := by rw [h, List.map_set]
theorem kgo_set {D : kD} {i : Nat} {o : Option Nat} (h : i < D.length) : kgo (D.set i o) i = o := by
  unfold kgo
  rw [List.getD_eq_getElem?_getD, List.getElem?_set_self h]
  rfl
theorem kgo_ne {D : kD} {i j : Nat} {o : Option Nat} (h : ¬ i = j) : kgo (D.set i o) j = kgo D j := by
  unfold kgo
  rw [List.getD_eq_getElem?_getD, List.getD_eq_getElem?_getD, List.getElem?_set_ne h]
theorem kgo_same {D : kD} {i : Nat} (h : i < D.length) : D.set i (kgo D i) = D := by
  apply List.ext_getElem?
  intro j
  rw [List.getElem?_set]
  by_cases e : i = j
  · subst e
    rw [if_pos rfl, if_pos h, kgo_e h]
  · rw [if_neg e]
theorem kgo_ext {xs : List Int32} {D : kD} {f : Option Nat → Int32} (hx : xs.length = 25) (hD : D.length = 25) (h : ∀ i, i < 25 → xs[i]? = some (f (kgo D i))) : xs = D.map f := by
  apply List.ext_getElem?
  intro i
  by_cases hi : i < 25
  · rw [h i hi, kgo_m f (by omega)]
  · rw [List.getElem?_eq_none (by omega), List.getElem?_eq_none (by rw [List.length_map]; omega)]
def kad (a : Option Nat) (x : Nat) : Option Nat := match a with
  | some d => some (d + x)
  | none => none
def krb (a : Option Nat) (x : Nat) (b : Option Nat) : Bool := match a, b with
  | none, _ => false
  | some _, none => true
  | some d, some e => decide (d + x < e)
def krl (D : kD) (c t x : Nat) : kD := if krb (kgo D c) x (kgo D t) = true then D.set t (kad (kgo D c) x) else D
def kbd (D : kD) (B : Nat) : Prop := ∀ i d, kgo D i = some d → d ≤ B
theorem krl_len (D : kD) (c t x : Nat) : (krl D c t x).length = D.length := by
  unfold krl
  split
  · rw [List.length_set]
  · rfl
theorem krb_n (x : Nat) (b : Option Nat) : krb none x b = false := by cases b <;> rfl
theorem krl_n {D : kD} {c t x : Nat} (h : kgo D c = none) : krl D c t x = D := by
  unfold krl
  rw [h, krb_n]
  rfl
theorem krl_y {D : kD} {c t x : Nat} (h : krb (kgo D c) x (kgo D t) = true) : krl D c t x = D.set t (kad (kgo D c) x) := if_pos h
theorem krl_f {D : kD} {c t x : Nat} (h : ¬ krb (kgo D c) x (kgo D t) = true) : krl D c t x = D := if_neg h
theorem kbd_rl {D : kD} {c t x B : Nat} (ht : t < D.length) (hx : x ≤ 11) (h : kbd D B) : kbd (krl D c t x) (B + 11) := by
  intro i d hd
  by_cases q : krb (kgo D c) x (kgo D t) = true
  · rw [krl_y q] at hd
    by_cases e : t = i
    · subst e
      rw [kgo_set ht] at hd
      cases hc : kgo D c with
      | none => rw [hc] at hd; cases hd
      | some d0 =>
        rw [hc] at hd
        have h1 := h c d0 hc
        have h2 : d0 + x = d := Option.some.inj hd
        omega
    · rw [kgo_ne e] at hd
      have := h i d hd
      omega
  · rw [krl_f q] at hd
    have := h i d hd
    omega
theorem kbd_mono {D : kD} {B C : Nat} (hBC : B ≤ C) (h : kbd D B) : kbd D C := fun i d hd => Nat.le_trans (h i d hd) hBC
theorem kN_rb {a b : Option Nat} {r q B : Nat} (ha : ∀ d, a = some d → d ≤ B) (hb : ∀ d, b = some d → d ≤ B) (hr : r ≤ 9) (hq : q ≤ 2) (hB : B < 900000) : kN b ≤ kN a + nI r + nI q ↔ ¬ krb a (r + q) b = true := by
  cases a with
  | none =>
    have e : kN none + nI r + nI q = nI (1000000 + r + q) := by
      show nI 1000000 + nI r + nI q = _
      rw [nI_add, nI_add]
    rw [e]
    refine ⟨fun _ => fun h9 => (by rw [krb_n] at h9; cases h9), fun _ => ?_⟩
    cases b with
    | none => exact nI_let (a := 1000000) (b := 1000000 + r + q) (by omega)
    | some v =>
      have := hb v rfl
      exact nI_let (a := v) (b := 1000000 + r + q) (by omega)
  | some d =>
    have hd := ha d rfl
    have e : kN (some d) + nI r + nI q = nI (d + r + q) := by
      show nI d + nI r + nI q = _
      rw [nI_add, nI_add]
    rw [e]
    cases b with
    | none => exact ⟨fun h => absurd ((nI_lei (a := 1000000) (b := d + r + q) (by omega)).mp h) (by omega), fun h => absurd rfl h⟩
    | some v =>
      have hv := hb v rfl
      refine ⟨fun h => fun q2 => ?_, fun h => ?_⟩
      · have h1 := (nI_lei (a := v) (b := d + r + q) (by omega)).mp h
        have h2 : d + (r + q) < v := of_decide_eq_true q2
        omega
      · refine (nI_lei (a := v) (b := d + r + q) (by omega)).mpr ?_
        by_cases h1 : d + (r + q) < v
        · exact absurd (decide_eq_true h1) h
        · omega
theorem kN_ad {a b : Option Nat} {r q : Nat} (h : krb a (r + q) b = true) : kN a + nI r + nI q = kN (kad a (r + q)) := by
  cases a with
  | none => rw [krb_n] at h; cases h
  | some d =>
    show nI d + nI r + nI q = nI (d + (r + q))
    rw [nI_add, nI_add, Nat.add_assoc]
theorem kFA_g {a : Option Nat} {B : Nat} (ha : ∀ d, a = some d → d ≤ B) (hB : B < 900000) : kFA a < 1000000000 ↔ a.isSome = true := by
  cases a with
  | none => exact ⟨fun h => absurd h (by decide), fun h => by cases h⟩
  | some d =>
    have hd := ha d rfl
    exact ⟨fun _ => rfl, fun _ => nI_ltt (a := d) (b := 1000000000) (by omega)⟩
theorem kFA_le {a b : Option Nat} {r q B : Nat} {u v : Int32} (hs : a.isSome = true) (ha : ∀ d, a = some d → d ≤ B) (hb : ∀ d, b = some d → d ≤ B) (hr : r ≤ 9) (hq : q ≤ 2) (hB : B < 900000) (hu : u = nI r) (hv : v = nI q) : (if kFA b < kFA a + u + v then kFA b else kFA a + u + v) = kFA (if krb a (r + q) b = true then kad a (r + q) else b) := by
  subst hu
  subst hv
  cases a with
  | none => cases hs
  | some d =>
    have hd := ha d rfl
    have e : kFA (some d) + nI r + nI q = nI (d + r + q) := by
      show nI d + nI r + nI q = _
      rw [nI_add, nI_add]
    rw [e]
    cases b with
    | none =>
      rw [if_neg (show ¬ kFA none < nI (d + r + q) from fun h => absurd ((nI_lti (a := 1000000000) (b := d + r + q) (by omega)).mp h) (by omega)), if_pos (show krb (some d) (r + q) none = true from rfl)]
      show nI (d + r + q) = nI (d + (r + q))
      rw [Nat.add_assoc]
    | some e2 =>
      have he := hb e2 rfl
      by_cases h : d + (r + q) < e2
      · rw [if_neg (show ¬ kFA (some e2) < nI (d + r + q) from fun h2 => absurd ((nI_lti (a := e2) (b := d + r + q) (by omega)).mp h2) (by omega)), if_pos (show krb (some d) (r + q) (some e2) = true from decide_eq_true h)]
        show nI (d + r + q) = nI (d + (r + q))
        rw [Nat.add_assoc]
      · rw [if_neg (show ¬ krb (some d) (r + q) (some e2) = true from fun h2 => h (of_decide_eq_true h2))]
        by_cases h3 : e2 < d + r + q
        · rw [if_pos (show kFA (some e2) < nI (d + r + q) from (nI_lti (a := e2) (b := d + r + q) (by omega)).mpr h3)]
        · rw [if_neg (show ¬ kFA (some e2) < nI (d + r + q) from fun h2 => absurd ((nI_lti (a := e2) (b := d + r + q) (by omega)).mp h2) h3)]
          show nI (d + r + q) = nI e2
          rw [show d + r + q = e2 by omega]
theorem krl_F {D : kD} {c t x : Nat} (ht : t < D.length) {v : Int32} (h : v = kFA (if krb (kgo D c) x (kgo D t) = true then kad (kgo D c) x else kgo D t)) : (D.map kFA).set t v = (krl D c t x).map kFA := by
  rw [kgo_s h]
  by_cases q : krb (kgo D c) x (kgo D t) = true
  · rw [if_pos q, krl_y q]
  · rw [if_neg q, krl_f q, kgo_same ht]
def kx (he ke : List Nat) (kc c t : Nat) : Nat := (kg he t - kg he c) + kc * kg ke t
def kstw (he ke : List Nat) (kc c : Nat) : Nat → Nat → kD → kD
  | 0, _, D => D
  | r + 1, j, D => kstw he ke kc c r (j + 1) (match kbey c j with
    | none => D
    | some t => krl D c t (kx he ke kc c t))
theorem kstw_n {he ke : List Nat} {kc c r j : Nat} {D : kD} (h : kbey c j = none) : kstw he ke kc c (r + 1) j D = kstw he ke kc c r (j + 1) D := by
  show kstw he ke kc c r (j + 1) (match kbey c j with
    | none => D
    | some t => krl D c t (kx he ke kc c t)) = _
  rw [h]
theorem kstw_s {he ke : List Nat} {kc c r j t : Nat} {D : kD} (h : kbey c j = some t) : kstw he ke kc c (r + 1) j D = kstw he ke kc c r (j + 1) (krl D c t (kx he ke kc c t)) := by
  show kstw he ke kc c r (j + 1) (match kbey c j with
    | none => D
    | some t => krl D c t (kx he ke kc c t)) = _
  rw [h]
def kswe (he ke : List Nat) (kc : Nat) : Nat → Nat → kD → kD
  | 0, _, D => D
  | r + 1, c, D => kswe he ke kc r (c + 1) (kstw he ke kc c 4 0 D)
def kitr (he ke : List Nat) (kc : Nat) : Nat → kD → kD
  | 0, D => D
  | n + 1, D => kitr he ke kc n (kswe he ke kc 25 0 D)
theorem kitr_fix {he ke : List Nat} {kc : Nat} {D : kD} (h : kswe he ke kc 25 0 D = D) : ∀ n, kitr he ke kc n D = D
  | 0 => rfl
  | n + 1 => by
    show kitr he ke kc n (kswe he ke kc 25 0 D) = D
    rw [h]
    exact kitr_fix h n
/-- who is reached -/
def krS (B : List Bool) (c t : Nat) : List Bool := cond (B.getD c false) (B.set t true) B
theorem krS_eq {D : kD} {c t x : Nat} (hc : c < D.length) (ht : t < D.length) : (krl D c t x).map Option.isSome = krS (D.map Option.isSome) c t := by
  have e : (D.map Option.isSome).getD c false = (kgo D c).isSome := by
    rw [List.getD_eq_getElem?_getD, List.getElem?_map, kgo_e hc]
    rfl
  unfold krS
  rw [e]
  cases hq : kgo D c with
  | none =>
    rw [krl_n hq]
    rfl
  | some d =>
    show _ = (D.map Option.isSome).set t true
    by_cases q : krb (kgo D c) x (kgo D t) = true
    · rw [krl_y q, List.map_set, hq]
      rfl
    · rw [krl_f q]
      have h2 : (kgo D t).isSome = true := by
        cases hk : kgo D t with
        | none => rw [hq, hk] at q; exact absurd rfl q
        | some _ => rfl
      rw [← h2, ← List.map_set, kgo_same ht]
def kstS (c : Nat) : Nat → Nat → List Bool → List Bool
  | 0, _, B => B
  | r + 1, j, B => kstS c r (j + 1) (match kbey c j with
    | none => B
    | some t => krS B c t)
def kswS : Nat → Nat → List Bool → List Bool
  | 0, _, B => B
  | r + 1, c, B => kswS r (c + 1) (kstS c 4 0 B)
def kitS : Nat → List Bool → List Bool
  | 0, B => B
  | n + 1, B => kitS n (kswS 25 0 B)
theorem kstw_len (he ke : List Nat) (kc c : Nat) : ∀ (r j : Nat) (D : kD), (kstw he ke kc c r j D).length = D.length
  | 0, _, _ => rfl
  | r + 1, j, D => by
    cases h : kbey c j with
    | none => rw [kstw_n h, kstw_len he ke kc c r]
    | some t => rw [kstw_s h, kstw_len he ke kc c r, krl_len]
theorem kstS_eq (he ke : List Nat) (kc : Nat) {c : Nat} (hc : c < 25) : ∀ (r j : Nat) (D : kD), D.length = 25 → (kstw he ke kc c r j D).map Option.isSome = kstS c r j (D.map Option.isSome)
  | 0, _, _, _ => rfl
  | r + 1, j, D, hD => by
    show _ = kstS c r (j + 1) (match kbey c j with
      | none => D.map Option.isSome
      | some t => krS (D.map Option.isSome) c t)
    cases h : kbey c j with
    | none => rw [kstw_n h]; exact kstS_eq he ke kc hc r (j + 1) D hD
    | some t =>
      have ht := kbey_lt hc h
      rw [kstw_s h, kstS_eq he ke kc hc r (j + 1) _ (by rw [krl_len]; exact hD), krS_eq (by omega) (by omega)]
theorem kswS_eq (he ke : List Nat) (kc : Nat) : ∀ (r c : Nat) (D : kD), c + r ≤ 25 → D.length = 25 → (kswe he ke kc r c D).map Option.isSome = kswS r c (D.map Option.isSome) ∧ (kswe he ke kc r c D).length = 25
  | 0, _, _, _, hD => ⟨rfl, hD⟩
  | r + 1, c, D, hc, hD => by
    have h1 := kswS_eq he ke kc r (c + 1) (kstw he ke kc c 4 0 D) (by omega) (by rw [kstw_len]; exact hD)
    rw [kstS_eq he ke kc (by omega) 4 0 D hD] at h1
    exact h1
theorem kitS_eq (he ke : List Nat) (kc : Nat) : ∀ (n : Nat) (D : kD), D.length = 25 → (kitr he ke kc n D).map Option.isSome = kitS n (D.map Option.isSome) ∧ (kitr he ke kc n D).length = 25
  | 0, _, hD => ⟨rfl, hD⟩
  | n + 1, D, hD => by
    have h0 := kswS_eq he ke kc 25 0 D (by omega) hD
    have h1 := kitS_eq he ke kc n (kswe he ke kc 25 0 D) h0.2
    rw [h0.1] at h1
    exact h1
def kD0 (a : Nat) : kD := (List.replicate 25 none).set a (some 0)
theorem kD0_len (a : Nat) : (kD0 a).length = 25 := by
  unfold kD0
  rw [List.length_set, List.length_replicate]
theorem kitS_t : ∀ a, a < 25 → kitS 9 ((kD0 a).map Option.isSome) = List.replicate 25 true := by decide +kernel
theorem kitS_u : kswS 25 0 (List.replicate 25 true) = List.replicate 25 true := by decide +kernel
theorem kitS_v : ∀ n, kitS n (List.replicate 25 true) = List.replicate 25 true
  | 0 => rfl
  | n + 1 => by
    show kitS n (kswS 25 0 (List.replicate 25 true)) = _
    rw [kitS_u]
    exact kitS_v n
theorem kitS_add : ∀ (m n : Nat) (B : List Bool), kitS (m + n) B = kitS n (kitS m B)
  | 0, n, B => by rw [Nat.zero_add]; rfl
  | m + 1, n, B => by
    rw [show m + 1 + n = (m + n) + 1 by omega]
    exact kitS_add m n (kswS 25 0 B)
theorem kcl_some (he ke : List Nat) (kc : Nat) {a p : Nat} (ha : a < 25) (hp : p < 25) : ∃ v, kgo (kitr he ke kc 25 (kD0 a)) p = some v := by
  have h := kitS_eq he ke kc 25 (kD0 a) (kD0_len a)
  have h1 : (kitr he ke kc 25 (kD0 a)).map Option.isSome = List.replicate 25 true := by
    rw [h.1, show (25 : Nat) = 9 + 16 from rfl, kitS_add 9 16, kitS_t a ha, kitS_v 16]
  have h2 : ((kitr he ke kc 25 (kD0 a)).map Option.isSome)[p]? = some ((kgo (kitr he ke kc 25 (kD0 a)) p).isSome) := by
    rw [List.getElem?_map, kgo_e (by omega)]
    rfl
  rw [h1, List.getElem?_replicate, if_pos hp] at h2
  exact Option.isSome_iff_exists.mp (Option.some.inj h2).symm
set_option maxRecDepth 100000 in
theorem tc_shw (he ke ki fi fa or : List Nat) (mi a g l w s : Nat) (im : Nat) (le : List Nat) (ln : Nat) (ys : List Int32) (vt : Int32) (nu : List Nat) (nn : Nat) (rf : List Nat) (kk : kG) (q : cR) (hA : iA (he, ke, ki, fi, fa, or, mi, a, g, l, w, s)) (hC : iC nu nn) (kc : Nat) (hkc : kc ≤ 2) (D0 E : kD) (MB : Nat) (G : kD) (c M0 : Nat) (hc : c < 25) (hM0 : M0 < 800000) (HO : ∀ (b : Nat) (lo4 lo5 lo6 lo7 : Option Value) (vw vq : Int32) (D : kD) (yh yg : List Int32) (m : kG), iJ m ys (D.map kN) yh yg → D.length = 25 → b ≤ 1 → (b = 0 → D = D0) → D = G → kbd D M0 → mm_E 87 4 [some (.ref 100), some (.int (nI kc)), some (.int (nI b)), some (.int (nI (c + 1))), lo4, lo5, lo6, lo7] [] (mk_M (cT im le ln ys vt nu nn rf vw vq (D.map kN) yh yg) (kr (he, ke, ki, fi, fa, or, mi, a, g, l, w, s)) m kk q) (fun r M1 => ∃ (b2 : Nat) (D2 : kD) (vw vq : Int32) (yh yg : List Int32) (m : kG), b2 ≤ 1 ∧ r = some (.int (nI b2)) ∧ (b2 = 0 → D2 = D0) ∧ D2 = E ∧ D2.length = 25 ∧ kbd D2 MB ∧ M1 = mk_M (cT im le ln ys vt nu nn rf vw vq (D2.map kN) yh yg) (kr (he, ke, ki, fi, fa, or, mi, a, g, l, w, s)) m kk q ∧ iJ m ys (D2.map kN) yh yg)) (k : Nat) : ∀ (j T b : Nat) (lo5 lo6 lo7 : Option Value) (vw vq : Int32) (D : kD) (yh yg : List Int32) (m : kG), j + k = 4 → iJ m ys (D.map kN) yh yg → D.length = 25 → b ≤ 1 → (b = 0 → D = D0) → G = kstw he ke kc c k j D → kbd D T → T + 11 * k ≤ M0 → mm_E 87 13 [some (.ref 100), some (.int (nI kc)), some (.int (nI b)), some (.int (nI c)), some (.int (nI j)), lo5, lo6, lo7] [] (mk_M (cT im le ln ys vt nu nn rf vw vq (D.map kN) yh yg) (kr (he, ke, ki, fi, fa, or, mi, a, g, l, w, s)) m kk q) (fun r M1 => ∃ (b2 : Nat) (D2 : kD) (vw vq : Int32) (yh yg : List Int32) (m : kG), b2 ≤ 1 ∧ r = some (.int (nI b2)) ∧ (b2 = 0 → D2 = D0) ∧ D2 = E ∧ D2.length = 25 ∧ kbd D2 MB ∧ M1 = mk_M (cT im le ln ys vt nu nn rf vw vq (D2.map kN) yh yg) (kr (he, ke, ki, fi, fa, or, mi, a, g, l, w, s)) m kk q ∧ iJ m ys (D2.map kN) yh yg) := by
  obtain ⟨hV, hst⟩ := id hA
  have hst2 : s ≤ 999 := hst
  obtain ⟨v1, v2, v3, v4, v5, v6, v7, v8, v9, v10, v11, v12, v13, v14, v15, v16⟩ := id hV
  have v6l := kO_len mi v7 or v6
  obtain ⟨c1, c2, c3⟩ := id hC
  have hx1 := v12 c
  have hmul : ∀ t, kc * kg ke t ≤ 2 := fun t => Nat.le_trans (Nat.mul_le_mul hkc (v13 t)) (by decide)
  induction k with
  | zero =>
    intro j T b lo5 lo6 lo7 vw vq D yh yg m hj hJ hD hb g1 g0 hbd hT
    refine me_seg 2 (pc1 := 16) (ls1 := [some (.ref 100), some (.int (nI kc)), some (.int (nI b)), some (.int (nI c)), some (.int (nI j)), lo5, lo6, lo7]) (st1 := [.int 4, .int (nI j)]) (M1 := (mk_M (cT im le ln ys vt nu nn rf vw vq (D.map kN) yh yg) (kr (he, ke, ki, fi, fa, or, mi, a, g, l, w, s)) m kk q)) (fun f => rfl) ?_
    refine me_t (C := 4 ≤ (nI j)) (nI_let (a := 4) (b := j) (by omega)) (fun f => rfl) ?_
    refine me_seg 1 (pc1 := 116) (ls1 := [some (.ref 100), some (.int (nI kc)), some (.int (nI b)), some (.int ((nI c) + 1)), some (.int (nI j)), lo5, lo6, lo7]) (st1 := []) (M1 := (mk_M (cT im le ln ys vt nu nn rf vw vq (D.map kN) yh yg) (kr (he, ke, ki, fi, fa, or, mi, a, g, l, w, s)) m kk q)) (fun f => rfl) ?_
    refine me_l (fun q_ => [some (.ref 100), some (.int (nI kc)), some (.int (nI b)), some (.int q_), some (.int (nI j)), lo5, lo6, lo7]) (nI_add c 1) ?_
    refine me_seg 1 (pc1 := 4) (ls1 := [some (.ref 100), some (.int (nI kc)), some (.int (nI b)), some (.int (nI (c + 1))), some (.int (nI j)), lo5, lo6, lo7]) (st1 := []) (M1 := (mk_M (cT im le ln ys vt nu nn rf vw vq (D.map kN) yh yg) (kr (he, ke, ki, fi, fa, or, mi, a, g, l, w, s)) m kk q)) (fun f => rfl) ?_
    exact HO b (some (.int (nI j))) (lo5) (lo6) (lo7) vw vq D yh yg m ⟨hJ.1, hJ.2.1, (by rw [List.length_map]; omega), hJ.2.2.2.1, hJ.2.2.2.2⟩ hD hb g1 g0.symm (kbd_mono (by omega) hbd)
  | succ k IH =>
    intro j T b lo5 lo6 lo7 vw vq D yh yg m hj hJ hD hb g1 g0 hbd hT
    refine me_seg 2 (pc1 := 16) (ls1 := [some (.ref 100), some (.int (nI kc)), some (.int (nI b)), some (.int (nI c)), some (.int (nI j)), lo5, lo6, lo7]) (st1 := [.int 4, .int (nI j)]) (M1 := (mk_M (cT im le ln ys vt nu nn rf vw vq (D.map kN) yh yg) (kr (he, ke, ki, fi, fa, or, mi, a, g, l, w, s)) m kk q)) (fun f => rfl) ?_
    refine me_f (C := 4 ≤ (nI j)) (nI_lef (a := 4) (b := j) (by omega)) (fun f => rfl) ?_
    refine me_seg 2 (pc1 := 22) (ls1 := [some (.ref 100), some (.int (nI kc)), some (.int (nI b)), some (.int (nI c)), some (.int (nI j)), lo5, lo6, lo7]) (st1 := [.int (nI j), .int (nI c)]) (M1 := (mk_M (cT im le ln ys vt nu nn rf vw vq (D.map kN) yh yg) (kr (he, ke, ki, fi, fa, or, mi, a, g, l, w, s)) m kk q)) (fun f => rfl) ?_
    refine me_call (y := 48) (y0 := 25) (L := [some (.int (nI c)), some (.int (nI j))]) (rest := []) (rr := some (.int (kI (kbey c j)))) (M1 := (mk_M (cT im le ln ys vt nu nn rf vw vq (D.map kN) yh yg) (kr (he, ke, ki, fi, fa, or, mi, a, g, l, w, s)) m kk q)) (fun f => rfl) (kc_bey (c := c) (w := j) (by omega) (by omega) _) ?_
    rcases hb_1 : kbey c j with _ | t_1
    · refine me_v (show kI none = (-9 : Int32) from rfl) ?_
      refine me_seg 5 (pc1 := 110) (ls1 := [some (.ref 100), some (.int (nI kc)), some (.int (nI b)), some (.int (nI c)), some (.int ((nI j) + 1)), some (.int (-9)), lo6, lo7]) (st1 := []) (M1 := (mk_M (cT im le ln ys vt nu nn rf vw vq (D.map kN) yh yg) (kr (he, ke, ki, fi, fa, or, mi, a, g, l, w, s)) m kk q)) (fun f => rfl) ?_
      refine me_l (fun q_ => [some (.ref 100), some (.int (nI kc)), some (.int (nI b)), some (.int (nI c)), some (.int q_), some (.int (-9)), lo6, lo7]) (nI_add j 1) ?_
      refine me_seg 1 (pc1 := 13) (ls1 := [some (.ref 100), some (.int (nI kc)), some (.int (nI b)), some (.int (nI c)), some (.int (nI (j + 1))), some (.int (-9)), lo6, lo7]) (st1 := []) (M1 := (mk_M (cT im le ln ys vt nu nn rf vw vq (D.map kN) yh yg) (kr (he, ke, ki, fi, fa, or, mi, a, g, l, w, s)) m kk q)) (fun f => rfl) ?_
      exact IH (j + 1) T b (some (.int (-9))) (lo6) (lo7) vw vq D yh yg m (by omega) ⟨hJ.1, hJ.2.1, (by rw [List.length_map]; omega), hJ.2.2.2.1, hJ.2.2.2.2⟩ hD hb g1 (by rw [g0, kstw_n hb_1]) hbd (by omega)
    · have ht_1 := kbey_lt (by omega) hb_1
      refine me_v (show kI (some t_1) = nI t_1 from rfl) ?_
      have hxt := v12 t_1
      have hkt := hmul t_1
      refine me_seg 3 (pc1 := 31) (ls1 := [some (.ref 100), some (.int (nI kc)), some (.int (nI b)), some (.int (nI c)), some (.int (nI j)), some (.int (nI t_1)), lo6, lo7]) (st1 := [.int (-9), .int (nI t_1)]) (M1 := (mk_M (cT im le ln ys vt nu nn rf vw vq (D.map kN) yh yg) (kr (he, ke, ki, fi, fa, or, mi, a, g, l, w, s)) m kk q)) (fun f => rfl) ?_
      refine me_f (C := (nI t_1) = (-9)) (k_nc (by omega) (by decide)) (fun f => rfl) ?_
      refine me_seg 5 (pc1 := 44) (ls1 := [some (.ref 100), some (.int (nI kc)), some (.int (nI b)), some (.int (nI c)), some (.int (nI j)), some (.int (nI t_1)), lo6, lo7]) (st1 := [.int (nI t_1), .ref 118, .int 0]) (M1 := (mk_M (cT im le ln ys vt nu nn rf vw vq (D.map kN) yh yg) (kr (he, ke, ki, fi, fa, or, mi, a, g, l, w, s)) m kk q)) (fun f => rfl) ?_
      refine me_ldn (xs := (he.map nI)) rfl rfl (k := t_1) (by omega) (kg_ok (by omega)) ?_
      refine me_seg 4 (pc1 := 53) (ls1 := [some (.ref 100), some (.int (nI kc)), some (.int (nI b)), some (.int (nI c)), some (.int (nI j)), some (.int (nI t_1)), lo6, lo7]) (st1 := [.int (nI c), .ref 118, .int (nI (kg he t_1)), .int 0]) (M1 := (mk_M (cT im le ln ys vt nu nn rf vw vq (D.map kN) yh yg) (kr (he, ke, ki, fi, fa, or, mi, a, g, l, w, s)) m kk q)) (fun f => rfl) ?_
      refine me_ldn (xs := (he.map nI)) rfl rfl (k := c) (by omega) (kg_ok (by omega)) ?_
      refine me_seg 2 (pc1 := 58) (ls1 := [some (.ref 100), some (.int (nI kc)), some (.int (nI b)), some (.int (nI c)), some (.int (nI j)), some (.int (nI t_1)), lo6, lo7]) (st1 := [.int (if 0 < ((nI (kg he t_1)) - (nI (kg he c))) then ((nI (kg he t_1)) - (nI (kg he c))) else 0)]) (M1 := (mk_M (cT im le ln ys vt nu nn rf vw vq (D.map kN) yh yg) (kr (he, ke, ki, fi, fa, or, mi, a, g, l, w, s)) m kk q)) (fun f => rfl) ?_
      refine me_v (k_max0 (a := kg he t_1) (b := kg he c) (by omega) (by omega)) ?_
      refine me_seg 4 (pc1 := 65) (ls1 := [some (.ref 100), some (.int (nI kc)), some (.int (nI b)), some (.int (nI c)), some (.int (nI j)), some (.int (nI t_1)), some (.int (nI ((kg he t_1) - (kg he c)))), lo7]) (st1 := [.int (nI c), .ref 107]) (M1 := (mk_M (cT im le ln ys vt nu nn rf vw vq (D.map kN) yh yg) (kr (he, ke, ki, fi, fa, or, mi, a, g, l, w, s)) m kk q)) (fun f => rfl) ?_
      refine me_ldn (xs := (D.map kN)) rfl rfl (k := c) (by omega) (kgo_m kN (by omega)) ?_
      refine me_seg 7 (pc1 := 79) (ls1 := [some (.ref 100), some (.int (nI kc)), some (.int (nI b)), some (.int (nI c)), some (.int (nI j)), some (.int (nI t_1)), some (.int (nI ((kg he t_1) - (kg he c)))), lo7]) (st1 := [.int (nI t_1), .ref 119, .int (nI kc), .int ((kN (kgo D c)) + (nI ((kg he t_1) - (kg he c))))]) (M1 := (mk_M (cT im le ln ys vt nu nn rf vw vq (D.map kN) yh yg) (kr (he, ke, ki, fi, fa, or, mi, a, g, l, w, s)) m kk q)) (fun f => rfl) ?_
      refine me_ldn (xs := (ke.map nI)) rfl rfl (k := t_1) (by omega) (kg_ok (by omega)) ?_
      refine me_seg 1 (pc1 := 81) (ls1 := [some (.ref 100), some (.int (nI kc)), some (.int (nI b)), some (.int (nI c)), some (.int (nI j)), some (.int (nI t_1)), some (.int (nI ((kg he t_1) - (kg he c)))), lo7]) (st1 := [.int ((nI kc) * (nI (kg ke t_1))), .int ((kN (kgo D c)) + (nI ((kg he t_1) - (kg he c))))]) (M1 := (mk_M (cT im le ln ys vt nu nn rf vw vq (D.map kN) yh yg) (kr (he, ke, ki, fi, fa, or, mi, a, g, l, w, s)) m kk q)) (fun f => rfl) ?_
      refine me_v (pk_mul kc (kg ke t_1)) ?_
      refine me_seg 6 (pc1 := 92) (ls1 := [some (.ref 100), some (.int (nI kc)), some (.int (nI b)), some (.int (nI c)), some (.int (nI j)), some (.int (nI t_1)), some (.int (nI ((kg he t_1) - (kg he c)))), some (.int (((kN (kgo D c)) + (nI ((kg he t_1) - (kg he c)))) + (nI (kc * (kg ke t_1)))))]) (st1 := [.int (nI t_1), .ref 107, .int (((kN (kgo D c)) + (nI ((kg he t_1) - (kg he c)))) + (nI (kc * (kg ke t_1))))]) (M1 := (mk_M (cT im le ln ys vt nu nn rf vw vq (D.map kN) yh yg) (kr (he, ke, ki, fi, fa, or, mi, a, g, l, w, s)) m kk q)) (fun f => rfl) ?_
      refine me_ldn (xs := (D.map kN)) rfl rfl (k := t_1) (by omega) (kgo_m kN (by omega)) ?_
      refine me_ifN (C := (kN (kgo D t_1)) ≤ (((kN (kgo D c)) + (nI ((kg he t_1) - (kg he c)))) + (nI (kc * (kg ke t_1))))) (kN_rb (r := kg he t_1 - kg he c) (q := kc * kg ke t_1) (hbd c) (hbd t_1) (by omega) (hmul t_1) (by omega)) (fun f => rfl) (fun h2 => ?_) (fun h2 => ?_)
      · refine me_seg 1 (pc1 := 110) (ls1 := [some (.ref 100), some (.int (nI kc)), some (.int (nI b)), some (.int (nI c)), some (.int ((nI j) + 1)), some (.int (nI t_1)), some (.int (nI ((kg he t_1) - (kg he c)))), some (.int (((kN (kgo D c)) + (nI ((kg he t_1) - (kg he c)))) + (nI (kc * (kg ke t_1)))))]) (st1 := []) (M1 := (mk_M (cT im le ln ys vt nu nn rf vw vq (D.map kN) yh yg) (kr (he, ke, ki, fi, fa, or, mi, a, g, l, w, s)) m kk q)) (fun f => rfl) ?_
        refine me_l (fun q_ => [some (.ref 100), some (.int (nI kc)), some (.int (nI b)), some (.int (nI c)), some (.int q_), some (.int (nI t_1)), some (.int (nI ((kg he t_1) - (kg he c)))), some (.int (((kN (kgo D c)) + (nI ((kg he t_1) - (kg he c)))) + (nI (kc * (kg ke t_1)))))]) (nI_add j 1) ?_
        refine me_seg 1 (pc1 := 13) (ls1 := [some (.ref 100), some (.int (nI kc)), some (.int (nI b)), some (.int (nI c)), some (.int (nI (j + 1))), some (.int (nI t_1)), some (.int (nI ((kg he t_1) - (kg he c)))), some (.int (((kN (kgo D c)) + (nI ((kg he t_1) - (kg he c)))) + (nI (kc * (kg ke t_1)))))]) (st1 := []) (M1 := (mk_M (cT im le ln ys vt nu nn rf vw vq (D.map kN) yh yg) (kr (he, ke, ki, fi, fa, or, mi, a, g, l, w, s)) m kk q)) (fun f => rfl) ?_
        exact IH (j + 1) T b (some (.int (nI t_1))) (some (.int (nI ((kg he t_1) - (kg he c))))) (some (.int (((kN (kgo D c)) + (nI ((kg he t_1) - (kg he c)))) + (nI (kc * (kg ke t_1)))))) vw vq D yh yg m (by omega) ⟨hJ.1, hJ.2.1, (by rw [List.length_map]; omega), hJ.2.2.2.1, hJ.2.2.2.2⟩ hD hb g1 (by rw [g0, kstw_s hb_1, show krl D c t_1 (kx he ke kc c t_1) = D from krl_f h2]) hbd (by omega)
      · refine me_seg 4 (pc1 := 104) (ls1 := [some (.ref 100), some (.int (nI kc)), some (.int (nI b)), some (.int (nI c)), some (.int (nI j)), some (.int (nI t_1)), some (.int (nI ((kg he t_1) - (kg he c)))), some (.int (((kN (kgo D c)) + (nI ((kg he t_1) - (kg he c)))) + (nI (kc * (kg ke t_1)))))]) (st1 := [.int (((kN (kgo D c)) + (nI ((kg he t_1) - (kg he c)))) + (nI (kc * (kg ke t_1)))), .int (nI t_1), .ref 107]) (M1 := (mk_M (cT im le ln ys vt nu nn rf vw vq (D.map kN) yh yg) (kr (he, ke, ki, fi, fa, or, mi, a, g, l, w, s)) m kk q)) (fun f => rfl) ?_
        refine me_stn (xs := (D.map kN)) (ys := ((D.set t_1 (kad (kgo D c) (kg he t_1 - kg he c + kc * kg ke t_1))).map kN)) (M2 := (mk_M (cT im le ln ys vt nu nn rf vw vq ((D.set t_1 (kad (kgo D c) (kg he t_1 - kg he c + kc * kg ke t_1))).map kN) yh yg) (kr (he, ke, ki, fi, fa, or, mi, a, g, l, w, s)) m kk q)) rfl rfl (k := t_1) (by omega) (by rw [List.length_map]; omega) (kgo_s (kN_ad (Decidable.not_not.mp h2))) rfl ?_
        refine me_seg 3 (pc1 := 110) (ls1 := [some (.ref 100), some (.int (nI kc)), some (.int 1), some (.int (nI c)), some (.int ((nI j) + 1)), some (.int (nI t_1)), some (.int (nI ((kg he t_1) - (kg he c)))), some (.int (((kN (kgo D c)) + (nI ((kg he t_1) - (kg he c)))) + (nI (kc * (kg ke t_1)))))]) (st1 := []) (M1 := (mk_M (cT im le ln ys vt nu nn rf vw vq ((D.set t_1 (kad (kgo D c) (kg he t_1 - kg he c + kc * kg ke t_1))).map kN) yh yg) (kr (he, ke, ki, fi, fa, or, mi, a, g, l, w, s)) m kk q)) (fun f => rfl) ?_
        refine me_l (fun q_ => [some (.ref 100), some (.int (nI kc)), some (.int 1), some (.int (nI c)), some (.int q_), some (.int (nI t_1)), some (.int (nI ((kg he t_1) - (kg he c)))), some (.int (((kN (kgo D c)) + (nI ((kg he t_1) - (kg he c)))) + (nI (kc * (kg ke t_1)))))]) (nI_add j 1) ?_
        refine me_seg 1 (pc1 := 13) (ls1 := [some (.ref 100), some (.int (nI kc)), some (.int 1), some (.int (nI c)), some (.int (nI (j + 1))), some (.int (nI t_1)), some (.int (nI ((kg he t_1) - (kg he c)))), some (.int (((kN (kgo D c)) + (nI ((kg he t_1) - (kg he c)))) + (nI (kc * (kg ke t_1)))))]) (st1 := []) (M1 := (mk_M (cT im le ln ys vt nu nn rf vw vq ((D.set t_1 (kad (kgo D c) (kg he t_1 - kg he c + kc * kg ke t_1))).map kN) yh yg) (kr (he, ke, ki, fi, fa, or, mi, a, g, l, w, s)) m kk q)) (fun f => rfl) ?_
        have e := (show krl D c t_1 (kx he ke kc c t_1) = D.set t_1 (kad (kgo D c) (kg he t_1 - kg he c + kc * kg ke t_1)) from krl_y (Decidable.not_not.mp h2))
        have hbd2 := kbd_rl (c := c) (t := t_1) (x := kx he ke kc c t_1) (by omega) (by have := hmul t_1; have := v12 t_1; unfold kx; omega) hbd
        rw [e] at hbd2
        exact IH (j + 1) (T + 11) 1 (some (.int (nI t_1))) (some (.int (nI ((kg he t_1) - (kg he c))))) (some (.int (((kN (kgo D c)) + (nI ((kg he t_1) - (kg he c)))) + (nI (kc * (kg ke t_1)))))) vw vq (D.set t_1 (kad (kgo D c) (kg he t_1 - kg he c + kc * kg ke t_1))) yh yg m (by omega) ⟨hJ.1, hJ.2.1, (by rw [List.length_map, List.length_set]; omega), hJ.2.2.2.1, hJ.2.2.2.2⟩ (by rw [List.length_set]; exact hD) (by omega) (fun q_ => absurd q_ (by decide)) (by rw [g0, kstw_s hb_1, e]) hbd2 (by omega)
set_option maxRecDepth 100000 in
theorem tc_sho (he ke ki fi fa or : List Nat) (mi a g l w s : Nat) (im : Nat) (le : List Nat) (ln : Nat) (ys : List Int32) (vt : Int32) (nu : List Nat) (nn : Nat) (rf : List Nat) (kk : kG) (q : cR) (hA : iA (he, ke, ki, fi, fa, or, mi, a, g, l, w, s)) (hC : iC nu nn) (kc : Nat) (hkc : kc ≤ 2) (D0 E : kD) (MB : Nat) (hMB : MB < 700000) (k : Nat) : ∀ (j T b : Nat) (lo4 lo5 lo6 lo7 : Option Value) (vw vq : Int32) (D : kD) (yh yg : List Int32) (m : kG), j + k = 25 → iJ m ys (D.map kN) yh yg → D.length = 25 → b ≤ 1 → (b = 0 → D = D0) → E = kswe he ke kc k j D → kbd D T → T + 44 * k ≤ MB → mm_E 87 4 [some (.ref 100), some (.int (nI kc)), some (.int (nI b)), some (.int (nI j)), lo4, lo5, lo6, lo7] [] (mk_M (cT im le ln ys vt nu nn rf vw vq (D.map kN) yh yg) (kr (he, ke, ki, fi, fa, or, mi, a, g, l, w, s)) m kk q) (fun r M1 => ∃ (b2 : Nat) (D2 : kD) (vw vq : Int32) (yh yg : List Int32) (m : kG), b2 ≤ 1 ∧ r = some (.int (nI b2)) ∧ (b2 = 0 → D2 = D0) ∧ D2 = E ∧ D2.length = 25 ∧ kbd D2 MB ∧ M1 = mk_M (cT im le ln ys vt nu nn rf vw vq (D2.map kN) yh yg) (kr (he, ke, ki, fi, fa, or, mi, a, g, l, w, s)) m kk q ∧ iJ m ys (D2.map kN) yh yg) := by
  obtain ⟨hV, hst⟩ := id hA
  have hst2 : s ≤ 999 := hst
  obtain ⟨v1, v2, v3, v4, v5, v6, v7, v8, v9, v10, v11, v12, v13, v14, v15, v16⟩ := id hV
  have v6l := kO_len mi v7 or v6
  obtain ⟨c1, c2, c3⟩ := id hC
  induction k with
  | zero =>
    intro j T b lo4 lo5 lo6 lo7 vw vq D yh yg m hj hJ hD hb g1 g0 hbd hT
    refine me_seg 2 (pc1 := 7) (ls1 := [some (.ref 100), some (.int (nI kc)), some (.int (nI b)), some (.int (nI j)), lo4, lo5, lo6, lo7]) (st1 := [.int 25, .int (nI j)]) (M1 := (mk_M (cT im le ln ys vt nu nn rf vw vq (D.map kN) yh yg) (kr (he, ke, ki, fi, fa, or, mi, a, g, l, w, s)) m kk q)) (fun f => rfl) ?_
    refine me_t (C := 25 ≤ (nI j)) (nI_let (a := 25) (b := j) (by omega)) (fun f => rfl) ?_
    refine me_seg 1 (pc1 := 120) (ls1 := [some (.ref 100), some (.int (nI kc)), some (.int (nI b)), some (.int (nI j)), lo4, lo5, lo6, lo7]) (st1 := [.int (nI b)]) (M1 := (mk_M (cT im le ln ys vt nu nn rf vw vq (D.map kN) yh yg) (kr (he, ke, ki, fi, fa, or, mi, a, g, l, w, s)) m kk q)) (fun f => rfl) ?_
    refine me_b01 (b := b) hb (fun f => rfl) (fun f => rfl) ?_
    exact ⟨b, D, _, _, _, _, _, hb, rfl, g1, g0.symm, hD, kbd_mono (by omega) hbd, rfl, hJ⟩
  | succ k IH =>
    intro j T b lo4 lo5 lo6 lo7 vw vq D yh yg m hj hJ hD hb g1 g0 hbd hT
    refine me_seg 2 (pc1 := 7) (ls1 := [some (.ref 100), some (.int (nI kc)), some (.int (nI b)), some (.int (nI j)), lo4, lo5, lo6, lo7]) (st1 := [.int 25, .int (nI j)]) (M1 := (mk_M (cT im le ln ys vt nu nn rf vw vq (D.map kN) yh yg) (kr (he, ke, ki, fi, fa, or, mi, a, g, l, w, s)) m kk q)) (fun f => rfl) ?_
    refine me_f (C := 25 ≤ (nI j)) (nI_lef (a := 25) (b := j) (by omega)) (fun f => rfl) ?_
    refine me_seg 2 (pc1 := 13) (ls1 := [some (.ref 100), some (.int (nI kc)), some (.int (nI b)), some (.int (nI j)), some (.int 0), lo5, lo6, lo7]) (st1 := []) (M1 := (mk_M (cT im le ln ys vt nu nn rf vw vq (D.map kN) yh yg) (kr (he, ke, ki, fi, fa, or, mi, a, g, l, w, s)) m kk q)) (fun f => rfl) ?_
    refine tc_shw he ke ki fi fa or mi a g l w s im le ln ys vt nu nn rf kk q hA hC kc hkc D0 E MB (kstw he ke kc j 4 0 D) j (T + 44) (by omega) (by omega) ?_ 4 0 T b (lo5) (lo6) (lo7) vw vq D yh yg m (by omega) ⟨hJ.1, hJ.2.1, (by rw [List.length_map]; omega), hJ.2.2.2.1, hJ.2.2.2.2⟩ hD hb g1 rfl hbd (by omega)
    intro b lo4 lo5 lo6 lo7 vw vq D2 yh yg m hJ hD2 hb2 h2 hG hbd2
    exact IH (j + 1) (T + 44) b lo4 lo5 lo6 lo7 vw vq D2 yh yg m (by omega) hJ hD2 hb2 h2 (by rw [g0, hG]; rfl) hbd2 (by omega)
theorem tc_sh (he ke ki fi fa or : List Nat) (mi a g l w s : Nat) (im : Nat) (le : List Nat) (ln : Nat) (ys : List Int32) (vt : Int32) (nu : List Nat) (nn : Nat) (rf : List Nat) (kk : kG) (q : cR) (hA : iA (he, ke, ki, fi, fa, or, mi, a, g, l, w, s)) (hC : iC nu nn) (kc : Nat) (hkc : kc ≤ 2) (MB T : Nat) (hMB : MB < 700000) (vw vq : Int32) (D : kD) (yh yg : List Int32) (m : kG) (hJ : iJ m ys (D.map kN) yh yg) (hD : D.length = 25) (hbd : kbd D T) (hT : T + 1100 ≤ MB) : mm_E 87 0 [some (.ref 100), some (.int (nI kc)), none, none, none, none, none, none] [] (mk_M (cT im le ln ys vt nu nn rf vw vq (D.map kN) yh yg) (kr (he, ke, ki, fi, fa, or, mi, a, g, l, w, s)) m kk q) (fun r M1 => ∃ (b2 : Nat) (D2 : kD) (vw vq : Int32) (yh yg : List Int32) (m : kG), b2 ≤ 1 ∧ r = some (.int (nI b2)) ∧ (b2 = 0 → D2 = D) ∧ D2 = kswe he ke kc 25 0 D ∧ D2.length = 25 ∧ kbd D2 MB ∧ M1 = mk_M (cT im le ln ys vt nu nn rf vw vq (D2.map kN) yh yg) (kr (he, ke, ki, fi, fa, or, mi, a, g, l, w, s)) m kk q ∧ iJ m ys (D2.map kN) yh yg) := by
  refine me_seg 4 (pc1 := 4) (ls1 := [some (.ref 100), some (.int (nI kc)), some (.int 0), some (.int 0), none, none, none, none]) (st1 := []) (M1 := (mk_M (cT im le ln ys vt nu nn rf vw vq (D.map kN) yh yg) (kr (he, ke, ki, fi, fa, or, mi, a, g, l, w, s)) m kk q)) (fun f => rfl) ?_
  exact tc_sho he ke ki fi fa or mi a g l w s im le ln ys vt nu nn rf kk q hA hC kc hkc D (kswe he ke kc 25 0 D) MB hMB 25 0 T 0 none none none none vw vq D yh yg m (by omega) hJ hD (by omega) (fun _ => rfl) rfl hbd (by omega)
set_option maxRecDepth 100000 in
theorem tc_rd0 (he ke ki fi fa or : List Nat) (mi a g l w s : Nat) (im : Nat) (le : List Nat) (ln : Nat) (ys : List Int32) (vt : Int32) (nu : List Nat) (nn : Nat) (rf : List Nat) (kk : kG) (q : cR) (hA : iA (he, ke, ki, fi, fa, or, mi, a, g, l, w, s)) (hC : iC nu nn) (p : Nat) (hp : p < 25) (A : Nat) (E2 : kD) (hE2 : kgo E2 p = some A) (k : Nat) : ∀ (j T b : Nat) (vw vq : Int32) (D : kD) (yh yg : List Int32) (m : kG), j + k = 25 → iJ m ys (D.map kN) yh yg → D.length = 25 → b ≤ 1 → (b = 0 → kswe he ke 0 25 0 D = D) → E2 = kitr he ke 0 k D → kbd D T → T + 1100 * k ≤ 600000 → mm_E 86 69 [some (.ref 100), some (.int (nI p)), some (.int 0), some (.int (nI b)), some (.int (nI j))] [] (mk_M (cT im le ln ys vt nu nn rf vw vq (D.map kN) yh yg) (kr (he, ke, ki, fi, fa, or, mi, a, g, l, w, s)) m kk q) (pC (fun r => r = some (.int (nI A))) (he, ke, ki, fi, fa, or, mi, a, g, l, w, s) im le ln ys vt nu nn rf kk q) := by
  obtain ⟨hV, hst⟩ := id hA
  have hst2 : s ≤ 999 := hst
  obtain ⟨v1, v2, v3, v4, v5, v6, v7, v8, v9, v10, v11, v12, v13, v14, v15, v16⟩ := id hV
  have v6l := kO_len mi v7 or v6
  obtain ⟨c1, c2, c3⟩ := id hC
  induction k with
  | zero =>
    intro j T b vw vq D yh yg m hj hJ hD hb g1 g0 hbd hT
    refine me_seg 2 (pc1 := 73) (ls1 := [some (.ref 100), some (.int (nI p)), some (.int 0), some (.int (nI b)), some (.int (nI j))]) (st1 := [.int 25, .int (nI j)]) (M1 := (mk_M (cT im le ln ys vt nu nn rf vw vq (D.map kN) yh yg) (kr (he, ke, ki, fi, fa, or, mi, a, g, l, w, s)) m kk q)) (fun f => rfl) ?_
    refine me_t (C := 25 ≤ (nI j)) (nI_let (a := 25) (b := j) (by omega)) (fun f => rfl) ?_
    refine me_seg 3 (pc1 := 106) (ls1 := [some (.ref 100), some (.int (nI p)), some (.int 0), some (.int (nI b)), some (.int (nI j))]) (st1 := [.int (nI p), .ref 107]) (M1 := (mk_M (cT im le ln ys vt nu nn rf vw vq (D.map kN) yh yg) (kr (he, ke, ki, fi, fa, or, mi, a, g, l, w, s)) m kk q)) (fun f => rfl) ?_
    refine me_ldn (xs := (D.map kN)) rfl rfl (k := p) (by omega) (kgo_m kN (by omega)) ?_
    refine me_ret 1 (r := some (.int (kN (kgo D p)))) (M1 := (mk_M (cT im le ln ys vt nu nn rf vw vq (D.map kN) yh yg) (kr (he, ke, ki, fi, fa, or, mi, a, g, l, w, s)) m kk q)) (fun f => rfl) ?_
    exact ⟨(by rw [show kgo D p = some A by rw [← hE2, g0]; rfl]; rfl), _, _, _, _, _, _, rfl, hJ⟩
  | succ k IH =>
    intro j T b vw vq D yh yg m hj hJ hD hb g1 g0 hbd hT
    refine me_seg 2 (pc1 := 73) (ls1 := [some (.ref 100), some (.int (nI p)), some (.int 0), some (.int (nI b)), some (.int (nI j))]) (st1 := [.int 25, .int (nI j)]) (M1 := (mk_M (cT im le ln ys vt nu nn rf vw vq (D.map kN) yh yg) (kr (he, ke, ki, fi, fa, or, mi, a, g, l, w, s)) m kk q)) (fun f => rfl) ?_
    refine me_f (C := 25 ≤ (nI j)) (nI_lef (a := 25) (b := j) (by omega)) (fun f => rfl) ?_
    refine me_seg 1 (pc1 := 77) (ls1 := [some (.ref 100), some (.int (nI p)), some (.int 0), some (.int (nI b)), some (.int (nI j))]) (st1 := [.int (nI b)]) (M1 := (mk_M (cT im le ln ys vt nu nn rf vw vq (D.map kN) yh yg) (kr (he, ke, ki, fi, fa, or, mi, a, g, l, w, s)) m kk q)) (fun f => rfl) ?_
    refine me_ifN (C := (nI b) = 0) (nI_eqi (a := b) (b := 0) (by omega)) (fun f => rfl) (fun h1 => ?_) (fun h1 => ?_)
    · refine me_seg 3 (pc1 := 106) (ls1 := [some (.ref 100), some (.int (nI p)), some (.int 0), some (.int (nI b)), some (.int (nI j))]) (st1 := [.int (nI p), .ref 107]) (M1 := (mk_M (cT im le ln ys vt nu nn rf vw vq (D.map kN) yh yg) (kr (he, ke, ki, fi, fa, or, mi, a, g, l, w, s)) m kk q)) (fun f => rfl) ?_
      refine me_ldn (xs := (D.map kN)) rfl rfl (k := p) (by omega) (kgo_m kN (by omega)) ?_
      refine me_ret 1 (r := some (.int (kN (kgo D p)))) (M1 := (mk_M (cT im le ln ys vt nu nn rf vw vq (D.map kN) yh yg) (kr (he, ke, ki, fi, fa, or, mi, a, g, l, w, s)) m kk q)) (fun f => rfl) ?_
      exact ⟨(by rw [show kgo D p = some A by rw [← hE2, g0, kitr_fix (g1 h1)]]; rfl), _, _, _, _, _, _, rfl, hJ⟩
    · refine me_seg 5 (pc1 := 91) (ls1 := [some (.ref 100), some (.int (nI p)), some (.int 0), some (.int (nI b)), some (.int (nI j))]) (st1 := [.int 0, .ref 100]) (M1 := (mk_M (cT im le ln ys vt nu nn rf vw vq (D.map kN) yh yg) (kr (he, ke, ki, fi, fa, or, mi, a, g, l, w, s)) m kk q)) (fun f => rfl) ?_
      refine me_callE (y := 87) (y0 := 94) (L := [some (.ref 100), some (.int 0), none, none, none, none, none, none]) (rest := []) (fun f => rfl) (tc_sh he ke ki fi fa or mi a g l w s im le ln ys vt nu nn rf kk q hA hC 0 (by decide) (T + 1100) T (by omega) vw vq D yh yg m ⟨hJ.1, hJ.2.1, (by rw [List.length_map]; omega), hJ.2.2.2.1, hJ.2.2.2.2⟩ hD hbd (by omega)) ?_
      rintro _ _ ⟨b2, D2, vw2, vq2, yh2, yg2, m2, hb2, rfl, hz, hE, hD2, hbd2, rfl, hJ2⟩
      refine me_seg 2 (pc1 := 98) (ls1 := [some (.ref 100), some (.int (nI p)), some (.int 0), some (.int (nI b2)), some (.int ((nI j) + 1))]) (st1 := []) (M1 := (mk_M (cT im le ln ys vt nu nn rf vw2 vq2 (D2.map kN) yh2 yg2) (kr (he, ke, ki, fi, fa, or, mi, a, g, l, w, s)) m2 kk q)) (fun f => rfl) ?_
      refine me_l (fun q_ => [some (.ref 100), some (.int (nI p)), some (.int 0), some (.int (nI b2)), some (.int q_)]) (nI_add j 1) ?_
      refine me_seg 1 (pc1 := 69) (ls1 := [some (.ref 100), some (.int (nI p)), some (.int 0), some (.int (nI b2)), some (.int (nI (j + 1)))]) (st1 := []) (M1 := (mk_M (cT im le ln ys vt nu nn rf vw2 vq2 (D2.map kN) yh2 yg2) (kr (he, ke, ki, fi, fa, or, mi, a, g, l, w, s)) m2 kk q)) (fun f => rfl) ?_
      exact IH (j + 1) (T + 1100) b2 vw2 vq2 D2 yh2 yg2 m2 (by omega) hJ2 hD2 hb2 (fun q_ => by rw [hz q_]; exact (hE.symm.trans (hz q_))) (by rw [hE]; exact g0) hbd2 (by omega)
theorem kgo_rep (i : Nat) : kgo (List.replicate 25 none) i = none := by
  unfold kgo
  rw [List.getD_eq_getElem?_getD, List.getElem?_replicate]
  split <;> rfl
theorem kD0_bd (a : Nat) : kbd (kD0 a) 0 := by
  intro i d hd
  by_cases e : a = i
  · subst e
    by_cases ha : a < 25
    · unfold kD0 at hd
      rw [kgo_set (by rw [List.length_replicate]; exact ha)] at hd
      cases hd
      exact Nat.le_refl 0
    · unfold kD0 at hd
      rw [List.set_eq_of_length_le (by rw [List.length_replicate]; omega), kgo_rep] at hd
      cases hd
  · unfold kD0 at hd
    rw [kgo_ne e, kgo_rep] at hd
    cases hd
set_option maxRecDepth 100000 in
theorem tc_in0 (he ke ki fi fa or : List Nat) (mi a g l w s : Nat) (im : Nat) (le : List Nat) (ln : Nat) (ys : List Int32) (vt : Int32) (nu : List Nat) (nn : Nat) (rf : List Nat) (kk : kG) (q : cR) (hA : iA (he, ke, ki, fi, fa, or, mi, a, g, l, w, s)) (hC : iC nu nn) (p : Nat) (hp : p < 25) (A : Nat) (hE2 : kgo (kitr he ke 0 25 (kD0 a)) p = some A) (k : Nat) : ∀ (j : Nat) (lo4 : Option Value) (vw vq : Int32) (yc yh yg : List Int32) (m : kG), j + k = 25 → iJ m ys yc yh yg → (∀ i, i < j → yc[i]? = some 1000000) → mm_E 86 31 [some (.ref 100), some (.int (nI p)), some (.int 0), some (.int (nI j)), lo4] [] (mk_M (cT im le ln ys vt nu nn rf vw vq yc yh yg) (kr (he, ke, ki, fi, fa, or, mi, a, g, l, w, s)) m kk q) (pC (fun r => r = some (.int (nI A))) (he, ke, ki, fi, fa, or, mi, a, g, l, w, s) im le ln ys vt nu nn rf kk q) := by
  obtain ⟨hV, hst⟩ := id hA
  have hst2 : s ≤ 999 := hst
  obtain ⟨v1, v2, v3, v4, v5, v6, v7, v8, v9, v10, v11, v12, v13, v14, v15, v16⟩ := id hV
  have v6l := kO_len mi v7 or v6
  obtain ⟨c1, c2, c3⟩ := id hC
  induction k with
  | zero =>
    intro j lo4 vw vq yc yh yg m hj hJ g0
    obtain ⟨j0, j1, j2, j3, j4⟩ := id hJ
    refine me_seg 2 (pc1 := 34) (ls1 := [some (.ref 100), some (.int (nI p)), some (.int 0), some (.int (nI j)), lo4]) (st1 := [.int 25, .int (nI j)]) (M1 := (mk_M (cT im le ln ys vt nu nn rf vw vq yc yh yg) (kr (he, ke, ki, fi, fa, or, mi, a, g, l, w, s)) m kk q)) (fun f => rfl) ?_
    refine me_t (C := 25 ≤ (nI j)) (nI_let (a := 25) (b := j) (by omega)) (fun f => rfl) ?_
    have ey : yc = (List.replicate 25 (none : Option Nat)).map kN := kgo_ext (by assumption) (List.length_replicate) (fun i hi => by rw [g0 i (by omega)]; exact congrArg some (show (1000000 : Int32) = kN (kgo (List.replicate 25 none) i) by rw [show kgo (List.replicate 25 none) i = none from kgo_rep i]; rfl))
    subst ey
    refine me_seg 6 (pc1 := 63) (ls1 := [some (.ref 100), some (.int (nI p)), some (.int 0), some (.int (nI j)), lo4]) (st1 := [.int 0, .int (nI a), .ref 107]) (M1 := (mk_M (cT im le ln ys vt nu nn rf vw vq ((List.replicate 25 (none : Option Nat)).map kN) yh yg) (kr (he, ke, ki, fi, fa, or, mi, a, g, l, w, s)) m kk q)) (fun f => rfl) ?_
    refine me_stn (xs := ((List.replicate 25 (none : Option Nat)).map kN)) (ys := ((kD0 a).map kN)) (M2 := (mk_M (cT im le ln ys vt nu nn rf vw vq ((kD0 a).map kN) yh yg) (kr (he, ke, ki, fi, fa, or, mi, a, g, l, w, s)) m kk q)) rfl rfl (k := a) (by omega) (by rw [List.length_map, List.length_replicate]; omega) (kgo_s (show (0 : Int32) = kN (some 0) from rfl)) rfl ?_
    refine me_seg 4 (pc1 := 69) (ls1 := [some (.ref 100), some (.int (nI p)), some (.int 0), some (.int 1), some (.int 0)]) (st1 := []) (M1 := (mk_M (cT im le ln ys vt nu nn rf vw vq ((kD0 a).map kN) yh yg) (kr (he, ke, ki, fi, fa, or, mi, a, g, l, w, s)) m kk q)) (fun f => rfl) ?_
    exact tc_rd0 he ke ki fi fa or mi a g l w s im le ln ys vt nu nn rf kk q hA hC p hp A (kitr he ke 0 25 (kD0 a)) hE2 25 0 0 1 vw vq (kD0 a) yh yg m (by omega) ⟨hJ.1, hJ.2.1, (by rw [List.length_map]; exact kD0_len a), hJ.2.2.2.1, hJ.2.2.2.2⟩ (kD0_len a) (by omega) (fun q_ => absurd q_ (by decide)) rfl (kD0_bd a) (by omega)
  | succ k IH =>
    intro j lo4 vw vq yc yh yg m hj hJ g0
    obtain ⟨j0, j1, j2, j3, j4⟩ := id hJ
    refine me_seg 2 (pc1 := 34) (ls1 := [some (.ref 100), some (.int (nI p)), some (.int 0), some (.int (nI j)), lo4]) (st1 := [.int 25, .int (nI j)]) (M1 := (mk_M (cT im le ln ys vt nu nn rf vw vq yc yh yg) (kr (he, ke, ki, fi, fa, or, mi, a, g, l, w, s)) m kk q)) (fun f => rfl) ?_
    refine me_f (C := 25 ≤ (nI j)) (nI_lef (a := 25) (b := j) (by omega)) (fun f => rfl) ?_
    refine me_seg 4 (pc1 := 44) (ls1 := [some (.ref 100), some (.int (nI p)), some (.int 0), some (.int (nI j)), lo4]) (st1 := [.int 1000000, .int (nI j), .ref 107]) (M1 := (mk_M (cT im le ln ys vt nu nn rf vw vq yc yh yg) (kr (he, ke, ki, fi, fa, or, mi, a, g, l, w, s)) m kk q)) (fun f => rfl) ?_
    refine me_stn (xs := yc) (ys := (yc.set j 1000000)) (M2 := (mk_M (cT im le ln ys vt nu nn rf vw vq (yc.set j 1000000) yh yg) (kr (he, ke, ki, fi, fa, or, mi, a, g, l, w, s)) m kk q)) rfl rfl (k := j) (by omega) (by first | omega | (simp only [List.length_set]; omega)) rfl rfl ?_
    refine me_seg 1 (pc1 := 48) (ls1 := [some (.ref 100), some (.int (nI p)), some (.int 0), some (.int ((nI j) + 1)), lo4]) (st1 := []) (M1 := (mk_M (cT im le ln ys vt nu nn rf vw vq (yc.set j 1000000) yh yg) (kr (he, ke, ki, fi, fa, or, mi, a, g, l, w, s)) m kk q)) (fun f => rfl) ?_
    refine me_l (fun q_ => [some (.ref 100), some (.int (nI p)), some (.int 0), some (.int q_), lo4]) (nI_add j 1) ?_
    refine me_seg 1 (pc1 := 31) (ls1 := [some (.ref 100), some (.int (nI p)), some (.int 0), some (.int (nI (j + 1))), lo4]) (st1 := []) (M1 := (mk_M (cT im le ln ys vt nu nn rf vw vq (yc.set j 1000000) yh yg) (kr (he, ke, ki, fi, fa, or, mi, a, g, l, w, s)) m kk q)) (fun f => rfl) ?_
    refine IH (j + 1) (lo4) vw vq (yc.set j 1000000) yh yg m (by omega) ⟨(by assumption), j1, by simp only [List.length_set]; assumption, by assumption, by assumption⟩ (fun i hi => ?_)
    rw [List.getElem?_set]
    by_cases e : j = i
    · subst e
      rw [if_pos rfl, if_pos (by omega)]
    · rw [if_neg e]
      exact g0 i (by omega)
set_option maxRecDepth 100000 in
theorem tc_climb_0 (he ke ki fi fa or : List Nat) (mi a g l w s : Nat) (im : Nat) (le : List Nat) (ln : Nat) (ys : List Int32) (vt : Int32) (nu : List Nat) (nn : Nat) (rf : List Nat) (kk : kG) (q : cR) (hA : iA (he, ke, ki, fi, fa, or, mi, a, g, l, w, s)) (hC : iC nu nn) (vw vq : Int32) (yc yh yg : List Int32) (m : kG) (hJ : iJ m ys yc yh yg) (p : Nat) (hp : p < 25) (A : Nat) (hE2 : kgo (kitr he ke 0 25 (kD0 a)) p = some A) : mm_E 86 0 [some (.ref 100), some (.int (nI p)), some (.int 0), none, none] [] (mk_M (cT im le ln ys vt nu nn rf vw vq yc yh yg) (kr (he, ke, ki, fi, fa, or, mi, a, g, l, w, s)) m kk q) (pC (fun r => r = some (.int (nI A))) (he, ke, ki, fi, fa, or, mi, a, g, l, w, s) im le ln ys vt nu nn rf kk q) := by
  obtain ⟨hV, hst⟩ := id hA
  have hst2 : s ≤ 999 := hst
  obtain ⟨v1, v2, v3, v4, v5, v6, v7, v8, v9, v10, v11, v12, v13, v14, v15, v16⟩ := id hV
  have v6l := kO_len mi v7 or v6
  obtain ⟨c1, c2, c3⟩ := id hC
  obtain ⟨j0, j1, j2, j3, j4⟩ := id hJ
  refine me_seg 1 (pc1 := 1) (ls1 := [some (.ref 100), some (.int (nI p)), some (.int 0), none, none]) (st1 := [.int (nI p)]) (M1 := (mk_M (cT im le ln ys vt nu nn rf vw vq yc yh yg) (kr (he, ke, ki, fi, fa, or, mi, a, g, l, w, s)) m kk q)) (fun f => rfl) ?_
  refine me_call (y := 37) (y0 := 4) (L := [some (.int (nI p))]) (rest := []) (rr := some (.int 1)) (M1 := (mk_M (cT im le ln ys vt nu nn rf vw vq yc yh yg) (kr (he, ke, ki, fi, fa, or, mi, a, g, l, w, s)) m kk q)) (fun f => rfl) (ms_c1_ok (x := (nI p)) (nI_ltf (a := p) (b := 0) (by omega)) (nI_lef (a := 25) (b := p) (by omega))) ?_
  refine me_seg 8 (pc1 := 31) (ls1 := [some (.ref 100), some (.int (nI p)), some (.int 0), some (.int 0), none]) (st1 := []) (M1 := (mk_M (cT im le ln ys vt nu nn rf vw vq yc yh yg) (kr (he, ke, ki, fi, fa, or, mi, a, g, l, w, s)) m kk q)) (fun f => rfl) ?_
  exact tc_in0 he ke ki fi fa or mi a g l w s im le ln ys vt nu nn rf kk q hA hC p hp A hE2 25 0 none vw vq yc yh yg m (by omega) ⟨(by assumption), j1, by assumption, by assumption, by assumption⟩ (fun i hi => absurd hi (Nat.not_lt_zero i))
set_option maxRecDepth 100000 in
theorem tc_rd1 (he ke ki fi fa or : List Nat) (mi a g l w s : Nat) (im : Nat) (le : List Nat) (ln : Nat) (ys : List Int32) (vt : Int32) (nu : List Nat) (nn : Nat) (rf : List Nat) (kk : kG) (q : cR) (hA : iA (he, ke, ki, fi, fa, or, mi, a, g, l, w, s)) (hC : iC nu nn) (p : Nat) (hp : p < 25) (A : Nat) (E2 : kD) (hE2 : kgo E2 p = some A) (k : Nat) : ∀ (j T b : Nat) (vw vq : Int32) (D : kD) (yh yg : List Int32) (m : kG), j + k = 25 → iJ m ys (D.map kN) yh yg → D.length = 25 → b ≤ 1 → (b = 0 → kswe he ke 2 25 0 D = D) → E2 = kitr he ke 2 k D → kbd D T → T + 1100 * k ≤ 600000 → mm_E 86 69 [some (.ref 100), some (.int (nI p)), some (.int 1), some (.int (nI b)), some (.int (nI j))] [] (mk_M (cT im le ln ys vt nu nn rf vw vq (D.map kN) yh yg) (kr (he, ke, ki, fi, fa, or, mi, a, g, l, w, s)) m kk q) (pC (fun r => r = some (.int (nI A))) (he, ke, ki, fi, fa, or, mi, a, g, l, w, s) im le ln ys vt nu nn rf kk q) := by
  obtain ⟨hV, hst⟩ := id hA
  have hst2 : s ≤ 999 := hst
  obtain ⟨v1, v2, v3, v4, v5, v6, v7, v8, v9, v10, v11, v12, v13, v14, v15, v16⟩ := id hV
  have v6l := kO_len mi v7 or v6
  obtain ⟨c1, c2, c3⟩ := id hC
  induction k with
  | zero =>
    intro j T b vw vq D yh yg m hj hJ hD hb g1 g0 hbd hT
    refine me_seg 2 (pc1 := 73) (ls1 := [some (.ref 100), some (.int (nI p)), some (.int 1), some (.int (nI b)), some (.int (nI j))]) (st1 := [.int 25, .int (nI j)]) (M1 := (mk_M (cT im le ln ys vt nu nn rf vw vq (D.map kN) yh yg) (kr (he, ke, ki, fi, fa, or, mi, a, g, l, w, s)) m kk q)) (fun f => rfl) ?_
    refine me_t (C := 25 ≤ (nI j)) (nI_let (a := 25) (b := j) (by omega)) (fun f => rfl) ?_
    refine me_seg 3 (pc1 := 106) (ls1 := [some (.ref 100), some (.int (nI p)), some (.int 1), some (.int (nI b)), some (.int (nI j))]) (st1 := [.int (nI p), .ref 107]) (M1 := (mk_M (cT im le ln ys vt nu nn rf vw vq (D.map kN) yh yg) (kr (he, ke, ki, fi, fa, or, mi, a, g, l, w, s)) m kk q)) (fun f => rfl) ?_
    refine me_ldn (xs := (D.map kN)) rfl rfl (k := p) (by omega) (kgo_m kN (by omega)) ?_
    refine me_ret 1 (r := some (.int (kN (kgo D p)))) (M1 := (mk_M (cT im le ln ys vt nu nn rf vw vq (D.map kN) yh yg) (kr (he, ke, ki, fi, fa, or, mi, a, g, l, w, s)) m kk q)) (fun f => rfl) ?_
    exact ⟨(by rw [show kgo D p = some A by rw [← hE2, g0]; rfl]; rfl), _, _, _, _, _, _, rfl, hJ⟩
  | succ k IH =>
    intro j T b vw vq D yh yg m hj hJ hD hb g1 g0 hbd hT
    refine me_seg 2 (pc1 := 73) (ls1 := [some (.ref 100), some (.int (nI p)), some (.int 1), some (.int (nI b)), some (.int (nI j))]) (st1 := [.int 25, .int (nI j)]) (M1 := (mk_M (cT im le ln ys vt nu nn rf vw vq (D.map kN) yh yg) (kr (he, ke, ki, fi, fa, or, mi, a, g, l, w, s)) m kk q)) (fun f => rfl) ?_
    refine me_f (C := 25 ≤ (nI j)) (nI_lef (a := 25) (b := j) (by omega)) (fun f => rfl) ?_
    refine me_seg 1 (pc1 := 77) (ls1 := [some (.ref 100), some (.int (nI p)), some (.int 1), some (.int (nI b)), some (.int (nI j))]) (st1 := [.int (nI b)]) (M1 := (mk_M (cT im le ln ys vt nu nn rf vw vq (D.map kN) yh yg) (kr (he, ke, ki, fi, fa, or, mi, a, g, l, w, s)) m kk q)) (fun f => rfl) ?_
    refine me_ifN (C := (nI b) = 0) (nI_eqi (a := b) (b := 0) (by omega)) (fun f => rfl) (fun h1 => ?_) (fun h1 => ?_)
    · refine me_seg 3 (pc1 := 106) (ls1 := [some (.ref 100), some (.int (nI p)), some (.int 1), some (.int (nI b)), some (.int (nI j))]) (st1 := [.int (nI p), .ref 107]) (M1 := (mk_M (cT im le ln ys vt nu nn rf vw vq (D.map kN) yh yg) (kr (he, ke, ki, fi, fa, or, mi, a, g, l, w, s)) m kk q)) (fun f => rfl) ?_
      refine me_ldn (xs := (D.map kN)) rfl rfl (k := p) (by omega) (kgo_m kN (by omega)) ?_
      refine me_ret 1 (r := some (.int (kN (kgo D p)))) (M1 := (mk_M (cT im le ln ys vt nu nn rf vw vq (D.map kN) yh yg) (kr (he, ke, ki, fi, fa, or, mi, a, g, l, w, s)) m kk q)) (fun f => rfl) ?_
      exact ⟨(by rw [show kgo D p = some A by rw [← hE2, g0, kitr_fix (g1 h1)]]; rfl), _, _, _, _, _, _, rfl, hJ⟩
    · refine me_seg 6 (pc1 := 91) (ls1 := [some (.ref 100), some (.int (nI p)), some (.int 1), some (.int (nI b)), some (.int (nI j))]) (st1 := [.int 2, .ref 100]) (M1 := (mk_M (cT im le ln ys vt nu nn rf vw vq (D.map kN) yh yg) (kr (he, ke, ki, fi, fa, or, mi, a, g, l, w, s)) m kk q)) (fun f => rfl) ?_
      refine me_callE (y := 87) (y0 := 94) (L := [some (.ref 100), some (.int 2), none, none, none, none, none, none]) (rest := []) (fun f => rfl) (tc_sh he ke ki fi fa or mi a g l w s im le ln ys vt nu nn rf kk q hA hC 2 (by decide) (T + 1100) T (by omega) vw vq D yh yg m ⟨hJ.1, hJ.2.1, (by rw [List.length_map]; omega), hJ.2.2.2.1, hJ.2.2.2.2⟩ hD hbd (by omega)) ?_
      rintro _ _ ⟨b2, D2, vw2, vq2, yh2, yg2, m2, hb2, rfl, hz, hE, hD2, hbd2, rfl, hJ2⟩
      refine me_seg 2 (pc1 := 98) (ls1 := [some (.ref 100), some (.int (nI p)), some (.int 1), some (.int (nI b2)), some (.int ((nI j) + 1))]) (st1 := []) (M1 := (mk_M (cT im le ln ys vt nu nn rf vw2 vq2 (D2.map kN) yh2 yg2) (kr (he, ke, ki, fi, fa, or, mi, a, g, l, w, s)) m2 kk q)) (fun f => rfl) ?_
      refine me_l (fun q_ => [some (.ref 100), some (.int (nI p)), some (.int 1), some (.int (nI b2)), some (.int q_)]) (nI_add j 1) ?_
      refine me_seg 1 (pc1 := 69) (ls1 := [some (.ref 100), some (.int (nI p)), some (.int 1), some (.int (nI b2)), some (.int (nI (j + 1)))]) (st1 := []) (M1 := (mk_M (cT im le ln ys vt nu nn rf vw2 vq2 (D2.map kN) yh2 yg2) (kr (he, ke, ki, fi, fa, or, mi, a, g, l, w, s)) m2 kk q)) (fun f => rfl) ?_
      exact IH (j + 1) (T + 1100) b2 vw2 vq2 D2 yh2 yg2 m2 (by omega) hJ2 hD2 hb2 (fun q_ => by rw [hz q_]; exact (hE.symm.trans (hz q_))) (by rw [hE]; exact g0) hbd2 (by omega)
set_option maxRecDepth 100000 in
theorem tc_in1 (he ke ki fi fa or : List Nat) (mi a g l w s : Nat) (im : Nat) (le : List Nat) (ln : Nat) (ys : List Int32) (vt : Int32) (nu : List Nat) (nn : Nat) (rf : List Nat) (kk : kG) (q : cR) (hA : iA (he, ke, ki, fi, fa, or, mi, a, g, l, w, s)) (hC : iC nu nn) (p : Nat) (hp : p < 25) (A : Nat) (hE2 : kgo (kitr he ke 2 25 (kD0 a)) p = some A) (k : Nat) : ∀ (j : Nat) (lo4 : Option Value) (vw vq : Int32) (yc yh yg : List Int32) (m : kG), j + k = 25 → iJ m ys yc yh yg → (∀ i, i < j → yc[i]? = some 1000000) → mm_E 86 31 [some (.ref 100), some (.int (nI p)), some (.int 1), some (.int (nI j)), lo4] [] (mk_M (cT im le ln ys vt nu nn rf vw vq yc yh yg) (kr (he, ke, ki, fi, fa, or, mi, a, g, l, w, s)) m kk q) (pC (fun r => r = some (.int (nI A))) (he, ke, ki, fi, fa, or, mi, a, g, l, w, s) im le ln ys vt nu nn rf kk q) := by
  obtain ⟨hV, hst⟩ := id hA
  have hst2 : s ≤ 999 := hst
  obtain ⟨v1, v2, v3, v4, v5, v6, v7, v8, v9, v10, v11, v12, v13, v14, v15, v16⟩ := id hV
  have v6l := kO_len mi v7 or v6
  obtain ⟨c1, c2, c3⟩ := id hC
  induction k with
  | zero =>
    intro j lo4 vw vq yc yh yg m hj hJ g0
    obtain ⟨j0, j1, j2, j3, j4⟩ := id hJ
    refine me_seg 2 (pc1 := 34) (ls1 := [some (.ref 100), some (.int (nI p)), some (.int 1), some (.int (nI j)), lo4]) (st1 := [.int 25, .int (nI j)]) (M1 := (mk_M (cT im le ln ys vt nu nn rf vw vq yc yh yg) (kr (he, ke, ki, fi, fa, or, mi, a, g, l, w, s)) m kk q)) (fun f => rfl) ?_
    refine me_t (C := 25 ≤ (nI j)) (nI_let (a := 25) (b := j) (by omega)) (fun f => rfl) ?_
    have ey : yc = (List.replicate 25 (none : Option Nat)).map kN := kgo_ext (by assumption) (List.length_replicate) (fun i hi => by rw [g0 i (by omega)]; exact congrArg some (show (1000000 : Int32) = kN (kgo (List.replicate 25 none) i) by rw [show kgo (List.replicate 25 none) i = none from kgo_rep i]; rfl))
    subst ey
    refine me_seg 6 (pc1 := 63) (ls1 := [some (.ref 100), some (.int (nI p)), some (.int 1), some (.int (nI j)), lo4]) (st1 := [.int 0, .int (nI a), .ref 107]) (M1 := (mk_M (cT im le ln ys vt nu nn rf vw vq ((List.replicate 25 (none : Option Nat)).map kN) yh yg) (kr (he, ke, ki, fi, fa, or, mi, a, g, l, w, s)) m kk q)) (fun f => rfl) ?_
    refine me_stn (xs := ((List.replicate 25 (none : Option Nat)).map kN)) (ys := ((kD0 a).map kN)) (M2 := (mk_M (cT im le ln ys vt nu nn rf vw vq ((kD0 a).map kN) yh yg) (kr (he, ke, ki, fi, fa, or, mi, a, g, l, w, s)) m kk q)) rfl rfl (k := a) (by omega) (by rw [List.length_map, List.length_replicate]; omega) (kgo_s (show (0 : Int32) = kN (some 0) from rfl)) rfl ?_
    refine me_seg 4 (pc1 := 69) (ls1 := [some (.ref 100), some (.int (nI p)), some (.int 1), some (.int 1), some (.int 0)]) (st1 := []) (M1 := (mk_M (cT im le ln ys vt nu nn rf vw vq ((kD0 a).map kN) yh yg) (kr (he, ke, ki, fi, fa, or, mi, a, g, l, w, s)) m kk q)) (fun f => rfl) ?_
    exact tc_rd1 he ke ki fi fa or mi a g l w s im le ln ys vt nu nn rf kk q hA hC p hp A (kitr he ke 2 25 (kD0 a)) hE2 25 0 0 1 vw vq (kD0 a) yh yg m (by omega) ⟨hJ.1, hJ.2.1, (by rw [List.length_map]; exact kD0_len a), hJ.2.2.2.1, hJ.2.2.2.2⟩ (kD0_len a) (by omega) (fun q_ => absurd q_ (by decide)) rfl (kD0_bd a) (by omega)
  | succ k IH =>
    intro j lo4 vw vq yc yh yg m hj hJ g0
    obtain ⟨j0, j1, j2, j3, j4⟩ := id hJ
    refine me_seg 2 (pc1 := 34) (ls1 := [some (.ref 100), some (.int (nI p)), some (.int 1), some (.int (nI j)), lo4]) (st1 := [.int 25, .int (nI j)]) (M1 := (mk_M (cT im le ln ys vt nu nn rf vw vq yc yh yg) (kr (he, ke, ki, fi, fa, or, mi, a, g, l, w, s)) m kk q)) (fun f => rfl) ?_
    refine me_f (C := 25 ≤ (nI j)) (nI_lef (a := 25) (b := j) (by omega)) (fun f => rfl) ?_
    refine me_seg 4 (pc1 := 44) (ls1 := [some (.ref 100), some (.int (nI p)), some (.int 1), some (.int (nI j)), lo4]) (st1 := [.int 1000000, .int (nI j), .ref 107]) (M1 := (mk_M (cT im le ln ys vt nu nn rf vw vq yc yh yg) (kr (he, ke, ki, fi, fa, or, mi, a, g, l, w, s)) m kk q)) (fun f => rfl) ?_
    refine me_stn (xs := yc) (ys := (yc.set j 1000000)) (M2 := (mk_M (cT im le ln ys vt nu nn rf vw vq (yc.set j 1000000) yh yg) (kr (he, ke, ki, fi, fa, or, mi, a, g, l, w, s)) m kk q)) rfl rfl (k := j) (by omega) (by first | omega | (simp only [List.length_set]; omega)) rfl rfl ?_
    refine me_seg 1 (pc1 := 48) (ls1 := [some (.ref 100), some (.int (nI p)), some (.int 1), some (.int ((nI j) + 1)), lo4]) (st1 := []) (M1 := (mk_M (cT im le ln ys vt nu nn rf vw vq (yc.set j 1000000) yh yg) (kr (he, ke, ki, fi, fa, or, mi, a, g, l, w, s)) m kk q)) (fun f => rfl) ?_
    refine me_l (fun q_ => [some (.ref 100), some (.int (nI p)), some (.int 1), some (.int q_), lo4]) (nI_add j 1) ?_
    refine me_seg 1 (pc1 := 31) (ls1 := [some (.ref 100), some (.int (nI p)), some (.int 1), some (.int (nI (j + 1))), lo4]) (st1 := []) (M1 := (mk_M (cT im le ln ys vt nu nn rf vw vq (yc.set j 1000000) yh yg) (kr (he, ke, ki, fi, fa, or, mi, a, g, l, w, s)) m kk q)) (fun f => rfl) ?_
    refine IH (j + 1) (lo4) vw vq (yc.set j 1000000) yh yg m (by omega) ⟨(by assumption), j1, by simp only [List.length_set]; assumption, by assumption, by assumption⟩ (fun i hi => ?_)
    rw [List.getElem?_set]
    by_cases e : j = i
    · subst e
      rw [if_pos rfl, if_pos (by omega)]
    · rw [if_neg e]
      exact g0 i (by omega)
set_option maxRecDepth 100000 in
theorem tc_climb_1 (he ke ki fi fa or : List Nat) (mi a g l w s : Nat) (im : Nat) (le : List Nat) (ln : Nat) (ys : List Int32) (vt : Int32) (nu : List Nat) (nn : Nat) (rf : List Nat) (kk : kG) (q : cR) (hA : iA (he, ke, ki, fi, fa, or, mi, a, g, l, w, s)) (hC : iC nu nn) (vw vq : Int32) (yc yh yg : List Int32) (m : kG) (hJ : iJ m ys yc yh yg) (p : Nat) (hp : p < 25) (A : Nat) (hE2 : kgo (kitr he ke 2 25 (kD0 a)) p = some A) : mm_E 86 0 [some (.ref 100), some (.int (nI p)), some (.int 1), none, none] [] (mk_M (cT im le ln ys vt nu nn rf vw vq yc yh yg) (kr (he, ke, ki, fi, fa, or, mi, a, g, l, w, s)) m kk q) (pC (fun r => r = some (.int (nI A))) (he, ke, ki, fi, fa, or, mi, a, g, l, w, s) im le ln ys vt nu nn rf kk q) := by
  obtain ⟨hV, hst⟩ := id hA
  have hst2 : s ≤ 999 := hst
  obtain ⟨v1, v2, v3, v4, v5, v6, v7, v8, v9, v10, v11, v12, v13, v14, v15, v16⟩ := id hV
  have v6l := kO_len mi v7 or v6
  obtain ⟨c1, c2, c3⟩ := id hC
  obtain ⟨j0, j1, j2, j3, j4⟩ := id hJ
  refine me_seg 1 (pc1 := 1) (ls1 := [some (.ref 100), some (.int (nI p)), some (.int 1), none, none]) (st1 := [.int (nI p)]) (M1 := (mk_M (cT im le ln ys vt nu nn rf vw vq yc yh yg) (kr (he, ke, ki, fi, fa, or, mi, a, g, l, w, s)) m kk q)) (fun f => rfl) ?_
  refine me_call (y := 37) (y0 := 4) (L := [some (.int (nI p))]) (rest := []) (rr := some (.int 1)) (M1 := (mk_M (cT im le ln ys vt nu nn rf vw vq yc yh yg) (kr (he, ke, ki, fi, fa, or, mi, a, g, l, w, s)) m kk q)) (fun f => rfl) (ms_c1_ok (x := (nI p)) (nI_ltf (a := p) (b := 0) (by omega)) (nI_lef (a := 25) (b := p) (by omega))) ?_
  refine me_seg 8 (pc1 := 31) (ls1 := [some (.ref 100), some (.int (nI p)), some (.int 1), some (.int 0), none]) (st1 := []) (M1 := (mk_M (cT im le ln ys vt nu nn rf vw vq yc yh yg) (kr (he, ke, ki, fi, fa, or, mi, a, g, l, w, s)) m kk q)) (fun f => rfl) ?_
  exact tc_in1 he ke ki fi fa or mi a g l w s im le ln ys vt nu nn rf kk q hA hC p hp A hE2 25 0 none vw vq yc yh yg m (by omega) ⟨(by assumption), j1, by assumption, by assumption, by assumption⟩ (fun i hi => absurd hi (Nat.not_lt_zero i))
theorem k_none {a : Option Nat} (h : ¬ a.isSome = true) : a = none := by
  cases a with
  | none => rfl
  | some v => exact absurd rfl h
set_option maxRecDepth 100000 in
theorem tm_w0 (he ke ki fi fa or : List Nat) (mi a g l w s : Nat) (xi : List Int32) (im : Nat) (le nu rf : List Nat) (ln nn : Nat) (c : cC) (n m kk : kG) (hA : iA (he, ke, ki, fi, fa, or, mi, a, g, l, w, s)) (hC : iC nu nn) (p : Nat) (hp : p < 25) (A : Nat) (E2 : kD) (hE2 : kgo E2 p = some A) (G : kD) (k1 ce M0 : Nat) (hc : ce < 25) (hM0 : M0 < 800000) (HO : ∀ (lo5 lo6 lo7 : Option Value) (xm xw : List Int32) (vp : Int32) (xn : List Int32) (D : kD) (vs : Int32), iR xm xw xn (D.map kFA) → D.length = 25 → D = G → kbd D M0 → mm_E 178 76 [some (.ref 138), some (.int (nI p)), some (.int 0), some (.int (nI k1)), some (.int (nI (ce + 1))), lo5, lo6, lo7] [] (mk_M c n m kk (rT (he, ke, ki, fi, fa, or, mi, a, g, l, w, s) xm xi xw im le nu rf ln nn vp xn (D.map kFA) vs)) (pM (fun r => r = some (.int (nI A))) (he, ke, ki, fi, fa, or, mi, a, g, l, w, s) xi im le nu rf ln nn c n m kk)) (k : Nat) : ∀ (j T : Nat) (lo6 lo7 : Option Value) (xm xw : List Int32) (vp : Int32) (xn : List Int32) (D : kD) (vs : Int32), j + k = 4 → iR xm xw xn (D.map kFA) → D.length = 25 → G = kstw he ke 0 ce k j D → kbd D T → T + 11 * k ≤ M0 → mm_E 178 86 [some (.ref 138), some (.int (nI p)), some (.int 0), some (.int (nI k1)), some (.int (nI ce)), some (.int (nI j)), lo6, lo7] [] (mk_M c n m kk (rT (he, ke, ki, fi, fa, or, mi, a, g, l, w, s) xm xi xw im le nu rf ln nn vp xn (D.map kFA) vs)) (pM (fun r => r = some (.int (nI A))) (he, ke, ki, fi, fa, or, mi, a, g, l, w, s) xi im le nu rf ln nn c n m kk) := by
  obtain ⟨hV, hst⟩ := id hA
  have hst2 : s ≤ 999 := hst
  obtain ⟨v1, v2, v3, v4, v5, v6, v7, v8, v9, v10, v11, v12, v13, v14, v15, v16⟩ := id hV
  have v6l := kO_len mi v7 or v6
  obtain ⟨c1, c2, c3⟩ := id hC
  have hx1 := v12 ce
  induction k with
  | zero =>
    intro j T lo6 lo7 xm xw vp xn D vs hj hR hD g0 hbd hT
    refine me_seg 2 (pc1 := 89) (ls1 := [some (.ref 138), some (.int (nI p)), some (.int 0), some (.int (nI k1)), some (.int (nI ce)), some (.int (nI j)), lo6, lo7]) (st1 := [.int 4, .int (nI j)]) (M1 := (mk_M c n m kk (rT (he, ke, ki, fi, fa, or, mi, a, g, l, w, s) xm xi xw im le nu rf ln nn vp xn (D.map kFA) vs))) (fun f => rfl) ?_
    refine me_t (C := 4 ≤ (nI j)) (nI_let (a := 4) (b := j) (by omega)) (fun f => rfl) ?_
    refine me_seg 1 (pc1 := 215) (ls1 := [some (.ref 138), some (.int (nI p)), some (.int 0), some (.int (nI k1)), some (.int ((nI ce) + 1)), some (.int (nI j)), lo6, lo7]) (st1 := []) (M1 := (mk_M c n m kk (rT (he, ke, ki, fi, fa, or, mi, a, g, l, w, s) xm xi xw im le nu rf ln nn vp xn (D.map kFA) vs))) (fun f => rfl) ?_
    refine me_l (fun q_ => [some (.ref 138), some (.int (nI p)), some (.int 0), some (.int (nI k1)), some (.int q_), some (.int (nI j)), lo6, lo7]) (nI_add ce 1) ?_
    refine me_seg 1 (pc1 := 76) (ls1 := [some (.ref 138), some (.int (nI p)), some (.int 0), some (.int (nI k1)), some (.int (nI (ce + 1))), some (.int (nI j)), lo6, lo7]) (st1 := []) (M1 := (mk_M c n m kk (rT (he, ke, ki, fi, fa, or, mi, a, g, l, w, s) xm xi xw im le nu rf ln nn vp xn (D.map kFA) vs))) (fun f => rfl) ?_
    exact HO (some (.int (nI j))) (lo6) (lo7) xm xw vp xn D vs ⟨hR.1, hR.2.1, hR.2.2.1, (by rw [List.length_map]; omega)⟩ hD g0.symm (kbd_mono (by omega) hbd)
  | succ k IH =>
    intro j T lo6 lo7 xm xw vp xn D vs hj hR hD g0 hbd hT
    refine me_seg 2 (pc1 := 89) (ls1 := [some (.ref 138), some (.int (nI p)), some (.int 0), some (.int (nI k1)), some (.int (nI ce)), some (.int (nI j)), lo6, lo7]) (st1 := [.int 4, .int (nI j)]) (M1 := (mk_M c n m kk (rT (he, ke, ki, fi, fa, or, mi, a, g, l, w, s) xm xi xw im le nu rf ln nn vp xn (D.map kFA) vs))) (fun f => rfl) ?_
    refine me_f (C := 4 ≤ (nI j)) (nI_lef (a := 4) (b := j) (by omega)) (fun f => rfl) ?_
    refine me_seg 2 (pc1 := 96) (ls1 := [some (.ref 138), some (.int (nI p)), some (.int 0), some (.int (nI k1)), some (.int (nI ce)), some (.int (nI j)), lo6, lo7]) (st1 := [.int (nI j), .int (nI ce)]) (M1 := (mk_M c n m kk (rT (he, ke, ki, fi, fa, or, mi, a, g, l, w, s) xm xi xw im le nu rf ln nn vp xn (D.map kFA) vs))) (fun f => rfl) ?_
    refine me_call (y := 149) (y0 := 99) (L := [some (.int (nI ce)), some (.int (nI j))]) (rest := []) (rr := some (.int (kI (kbey ce j)))) (M1 := (mk_M c n m kk (rT (he, ke, ki, fi, fa, or, mi, a, g, l, w, s) xm xi xw im le nu rf ln nn vp xn (D.map kFA) vs))) (fun f => rfl) (rc_bey (c := ce) (w := j) (by omega) (by omega) _) ?_
    rcases hb_1 : kbey ce j with _ | t_1
    · refine me_v (show kI none = (-9 : Int32) from rfl) ?_
      refine me_seg 4 (pc1 := 209) (ls1 := [some (.ref 138), some (.int (nI p)), some (.int 0), some (.int (nI k1)), some (.int (nI ce)), some (.int ((nI j) + 1)), some (.int (-9)), lo7]) (st1 := []) (M1 := (mk_M c n m kk (rT (he, ke, ki, fi, fa, or, mi, a, g, l, w, s) xm xi xw im le nu rf ln nn vp xn (D.map kFA) vs))) (fun f => rfl) ?_
      refine me_l (fun q_ => [some (.ref 138), some (.int (nI p)), some (.int 0), some (.int (nI k1)), some (.int (nI ce)), some (.int q_), some (.int (-9)), lo7]) (nI_add j 1) ?_
      refine me_seg 1 (pc1 := 86) (ls1 := [some (.ref 138), some (.int (nI p)), some (.int 0), some (.int (nI k1)), some (.int (nI ce)), some (.int (nI (j + 1))), some (.int (-9)), lo7]) (st1 := []) (M1 := (mk_M c n m kk (rT (he, ke, ki, fi, fa, or, mi, a, g, l, w, s) xm xi xw im le nu rf ln nn vp xn (D.map kFA) vs))) (fun f => rfl) ?_
      exact IH (j + 1) T (some (.int (-9))) (lo7) xm xw vp xn D vs (by omega) ⟨hR.1, hR.2.1, hR.2.2.1, (by rw [List.length_map]; omega)⟩ hD (by rw [g0, kstw_n hb_1]) hbd (by omega)
    · have ht_1 := kbey_lt (by omega) hb_1
      refine me_v (show kI (some t_1) = nI t_1 from rfl) ?_
      have hxt := v12 t_1
      have hkt := v13 t_1
      refine me_seg 2 (pc1 := 103) (ls1 := [some (.ref 138), some (.int (nI p)), some (.int 0), some (.int (nI k1)), some (.int (nI ce)), some (.int (nI j)), some (.int (nI t_1)), lo7]) (st1 := [.int (nI t_1)]) (M1 := (mk_M c n m kk (rT (he, ke, ki, fi, fa, or, mi, a, g, l, w, s) xm xi xw im le nu rf ln nn vp xn (D.map kFA) vs))) (fun f => rfl) ?_
      refine me_f (C := (nI t_1) < 0) (nI_pos (by omega)) (fun f => rfl) ?_
      refine me_seg 3 (pc1 := 112) (ls1 := [some (.ref 138), some (.int (nI p)), some (.int 0), some (.int (nI k1)), some (.int (nI ce)), some (.int (nI j)), some (.int (nI t_1)), lo7]) (st1 := [.int (nI ce), .ref 147]) (M1 := (mk_M c n m kk (rT (he, ke, ki, fi, fa, or, mi, a, g, l, w, s) xm xi xw im le nu rf ln nn vp xn (D.map kFA) vs))) (fun f => rfl) ?_
      refine me_ldn (xs := (D.map kFA)) rfl rfl (k := ce) (by omega) (kgo_m kFA (by omega)) ?_
      refine me_seg 1 (pc1 := 115) (ls1 := [some (.ref 138), some (.int (nI p)), some (.int 0), some (.int (nI k1)), some (.int (nI ce)), some (.int (nI j)), some (.int (nI t_1)), lo7]) (st1 := [.int 1000000000, .int (kFA (kgo D ce))]) (M1 := (mk_M c n m kk (rT (he, ke, ki, fi, fa, or, mi, a, g, l, w, s) xm xi xw im le nu rf ln nn vp xn (D.map kFA) vs))) (fun f => rfl) ?_
      refine me_ifN (C := (kFA (kgo D ce)) < 1000000000) (kFA_g (hbd ce) (by omega)) (fun f => rfl) (fun h2 => ?_) (fun h2 => ?_)
      · refine me_seg 5 (pc1 := 130) (ls1 := [some (.ref 138), some (.int (nI p)), some (.int 0), some (.int (nI k1)), some (.int (nI ce)), some (.int (nI j)), some (.int (nI t_1)), lo7]) (st1 := [.int ((7 : Int32) + (nI t_1)), .ref 139]) (M1 := (mk_M c n m kk (rT (he, ke, ki, fi, fa, or, mi, a, g, l, w, s) xm xi xw im le nu rf ln nn vp xn (D.map kFA) vs))) (fun f => rfl) ?_
        refine me_v (nI_add 7 t_1) ?_
        refine me_ldn (xs := (er (he, ke, ki, fi, fa, or, mi, a, g, l, w, s))) rfl rfl (k := 7 + t_1) (by omega) (er_h (K := (he, ke, ki, fi, fa, or, mi, a, g, l, w, s)) v1 (by omega)) ?_
        refine me_seg 5 (pc1 := 140) (ls1 := [some (.ref 138), some (.int (nI p)), some (.int 0), some (.int (nI k1)), some (.int (nI ce)), some (.int (nI j)), some (.int (nI t_1)), lo7]) (st1 := [.int ((7 : Int32) + (nI ce)), .ref 139, .int (nI (kg he t_1))]) (M1 := (mk_M c n m kk (rT (he, ke, ki, fi, fa, or, mi, a, g, l, w, s) xm xi xw im le nu rf ln nn vp xn (D.map kFA) vs))) (fun f => rfl) ?_
        refine me_v (nI_add 7 ce) ?_
        refine me_ldn (xs := (er (he, ke, ki, fi, fa, or, mi, a, g, l, w, s))) rfl rfl (k := 7 + ce) (by omega) (er_h (K := (he, ke, ki, fi, fa, or, mi, a, g, l, w, s)) v1 (by omega)) ?_
        refine me_seg 8 (pc1 := 156) (ls1 := [some (.ref 138), some (.int (nI p)), some (.int 0), some (.int (nI k1)), some (.int (nI ce)), some (.int (nI j)), some (.int (nI t_1)), some (.int ((nI (kg he t_1)) - (nI (kg he ce))))]) (st1 := [.int (nI t_1), .ref 147, .int (nI t_1), .ref 147]) (M1 := (mk_M c n m kk (rT (he, ke, ki, fi, fa, or, mi, a, g, l, w, s) xm xi xw im le nu rf ln nn vp xn (D.map kFA) vs))) (fun f => rfl) ?_
        refine me_ldn (xs := (D.map kFA)) rfl rfl (k := t_1) (by omega) (kgo_m kFA (by omega)) ?_
        refine me_seg 3 (pc1 := 163) (ls1 := [some (.ref 138), some (.int (nI p)), some (.int 0), some (.int (nI k1)), some (.int (nI ce)), some (.int (nI j)), some (.int (nI t_1)), some (.int ((nI (kg he t_1)) - (nI (kg he ce))))]) (st1 := [.int (nI ce), .ref 147, .int (kFA (kgo D t_1)), .int (nI t_1), .ref 147]) (M1 := (mk_M c n m kk (rT (he, ke, ki, fi, fa, or, mi, a, g, l, w, s) xm xi xw im le nu rf ln nn vp xn (D.map kFA) vs))) (fun f => rfl) ?_
        refine me_ldn (xs := (D.map kFA)) rfl rfl (k := ce) (by omega) (kgo_m kFA (by omega)) ?_
        refine me_seg 1 (pc1 := 166) (ls1 := [some (.ref 138), some (.int (nI p)), some (.int 0), some (.int (nI k1)), some (.int (nI ce)), some (.int (nI j)), some (.int (nI t_1)), some (.int ((nI (kg he t_1)) - (nI (kg he ce))))]) (st1 := [.int ((nI (kg he t_1)) - (nI (kg he ce))), .int (kFA (kgo D ce)), .int (kFA (kgo D t_1)), .int (nI t_1), .ref 147]) (M1 := (mk_M c n m kk (rT (he, ke, ki, fi, fa, or, mi, a, g, l, w, s) xm xi xw im le nu rf ln nn vp xn (D.map kFA) vs))) (fun f => rfl) ?_
        refine me_ifN (C := ((nI (kg he t_1)) - (nI (kg he ce))) ≤ 0) (k_subg (a := kg he t_1) (b := kg he ce) (by omega) (by omega)) (fun f => rfl) (fun h3 => ?_) (fun h3 => ?_)
        · refine me_seg 7 (pc1 := 202) (ls1 := [some (.ref 138), some (.int (nI p)), some (.int 0), some (.int (nI k1)), some (.int (nI ce)), some (.int (nI j)), some (.int (nI t_1)), some (.int ((nI (kg he t_1)) - (nI (kg he ce))))]) (st1 := [.int (((kFA (kgo D ce)) + (0 : Int32)) + (0 : Int32)), .int (kFA (kgo D t_1)), .int (nI t_1), .ref 147]) (M1 := (mk_M c n m kk (rT (he, ke, ki, fi, fa, or, mi, a, g, l, w, s) xm xi xw im le nu rf ln nn vp xn (D.map kFA) vs))) (fun f => rfl) ?_
          refine me_call (y := 154) (y0 := 205) (L := [some (.int (kFA (kgo D t_1))), some (.int (((kFA (kgo D ce)) + (0 : Int32)) + (0 : Int32)))]) (rest := [.int (nI t_1), .ref 147]) (rr := some (.int (if (kFA (kgo D t_1)) < (((kFA (kgo D ce)) + (0 : Int32)) + (0 : Int32)) then (kFA (kgo D t_1)) else (((kFA (kgo D ce)) + (0 : Int32)) + (0 : Int32))))) (M1 := (mk_M c n m kk (rT (he, ke, ki, fi, fa, or, mi, a, g, l, w, s) xm xi xw im le nu rf ln nn vp xn (D.map kFA) vs))) (fun f => rfl) (wm_least (kFA (kgo D t_1)) (((kFA (kgo D ce)) + (0 : Int32)) + (0 : Int32)) _) ?_
          refine me_stn (xs := (D.map kFA)) (ys := ((krl D ce t_1 (kx he ke 0 ce t_1)).map kFA)) (M2 := (mk_M c n m kk (rT (he, ke, ki, fi, fa, or, mi, a, g, l, w, s) xm xi xw im le nu rf ln nn vp xn ((krl D ce t_1 (kx he ke 0 ce t_1)).map kFA) vs))) rfl rfl (k := t_1) (by omega) (by rw [List.length_map]; omega) (krl_F (by omega) (kFA_le (r := kg he t_1 - kg he ce) (q := 0 * kg ke t_1) h2 (hbd ce) (hbd t_1) (by omega) (by have := v13 t_1; omega) (by omega) (by rw [show kg he t_1 - kg he ce = 0 by omega]; rfl) (by rw [show 0 * kg ke t_1 = 0 by have := v13 t_1; omega]; rfl))) rfl ?_
          refine me_seg 1 (pc1 := 209) (ls1 := [some (.ref 138), some (.int (nI p)), some (.int 0), some (.int (nI k1)), some (.int (nI ce)), some (.int ((nI j) + 1)), some (.int (nI t_1)), some (.int ((nI (kg he t_1)) - (nI (kg he ce))))]) (st1 := []) (M1 := (mk_M c n m kk (rT (he, ke, ki, fi, fa, or, mi, a, g, l, w, s) xm xi xw im le nu rf ln nn vp xn ((krl D ce t_1 (kx he ke 0 ce t_1)).map kFA) vs))) (fun f => rfl) ?_
          refine me_l (fun q_ => [some (.ref 138), some (.int (nI p)), some (.int 0), some (.int (nI k1)), some (.int (nI ce)), some (.int q_), some (.int (nI t_1)), some (.int ((nI (kg he t_1)) - (nI (kg he ce))))]) (nI_add j 1) ?_
          refine me_seg 1 (pc1 := 86) (ls1 := [some (.ref 138), some (.int (nI p)), some (.int 0), some (.int (nI k1)), some (.int (nI ce)), some (.int (nI (j + 1))), some (.int (nI t_1)), some (.int ((nI (kg he t_1)) - (nI (kg he ce))))]) (st1 := []) (M1 := (mk_M c n m kk (rT (he, ke, ki, fi, fa, or, mi, a, g, l, w, s) xm xi xw im le nu rf ln nn vp xn ((krl D ce t_1 (kx he ke 0 ce t_1)).map kFA) vs))) (fun f => rfl) ?_
          exact IH (j + 1) (T + 11) (some (.int (nI t_1))) (some (.int ((nI (kg he t_1)) - (nI (kg he ce))))) xm xw vp xn (krl D ce t_1 (kx he ke 0 ce t_1)) vs (by omega) ⟨hR.1, hR.2.1, hR.2.2.1, (by rw [List.length_map, krl_len]; omega)⟩ (by rw [krl_len]; exact hD) (by rw [g0, kstw_s hb_1]) (kbd_rl (by omega) (by unfold kx; omega) hbd) (by omega)
        · refine me_seg 8 (pc1 := 202) (ls1 := [some (.ref 138), some (.int (nI p)), some (.int 0), some (.int (nI k1)), some (.int (nI ce)), some (.int (nI j)), some (.int (nI t_1)), some (.int ((nI (kg he t_1)) - (nI (kg he ce))))]) (st1 := [.int (((kFA (kgo D ce)) + ((nI (kg he t_1)) - (nI (kg he ce)))) + (0 : Int32)), .int (kFA (kgo D t_1)), .int (nI t_1), .ref 147]) (M1 := (mk_M c n m kk (rT (he, ke, ki, fi, fa, or, mi, a, g, l, w, s) xm xi xw im le nu rf ln nn vp xn (D.map kFA) vs))) (fun f => rfl) ?_
          refine me_call (y := 154) (y0 := 205) (L := [some (.int (kFA (kgo D t_1))), some (.int (((kFA (kgo D ce)) + ((nI (kg he t_1)) - (nI (kg he ce)))) + (0 : Int32)))]) (rest := [.int (nI t_1), .ref 147]) (rr := some (.int (if (kFA (kgo D t_1)) < (((kFA (kgo D ce)) + ((nI (kg he t_1)) - (nI (kg he ce)))) + (0 : Int32)) then (kFA (kgo D t_1)) else (((kFA (kgo D ce)) + ((nI (kg he t_1)) - (nI (kg he ce)))) + (0 : Int32))))) (M1 := (mk_M c n m kk (rT (he, ke, ki, fi, fa, or, mi, a, g, l, w, s) xm xi xw im le nu rf ln nn vp xn (D.map kFA) vs))) (fun f => rfl) (wm_least (kFA (kgo D t_1)) (((kFA (kgo D ce)) + ((nI (kg he t_1)) - (nI (kg he ce)))) + (0 : Int32)) _) ?_
          refine me_stn (xs := (D.map kFA)) (ys := ((krl D ce t_1 (kx he ke 0 ce t_1)).map kFA)) (M2 := (mk_M c n m kk (rT (he, ke, ki, fi, fa, or, mi, a, g, l, w, s) xm xi xw im le nu rf ln nn vp xn ((krl D ce t_1 (kx he ke 0 ce t_1)).map kFA) vs))) rfl rfl (k := t_1) (by omega) (by rw [List.length_map]; omega) (krl_F (by omega) (kFA_le (r := kg he t_1 - kg he ce) (q := 0 * kg ke t_1) h2 (hbd ce) (hbd t_1) (by omega) (by have := v13 t_1; omega) (by omega) (pk_sub (a := kg he t_1) (b := kg he ce) (by omega)) (by rw [show 0 * kg ke t_1 = 0 by have := v13 t_1; omega]; rfl))) rfl ?_
          refine me_seg 1 (pc1 := 209) (ls1 := [some (.ref 138), some (.int (nI p)), some (.int 0), some (.int (nI k1)), some (.int (nI ce)), some (.int ((nI j) + 1)), some (.int (nI t_1)), some (.int ((nI (kg he t_1)) - (nI (kg he ce))))]) (st1 := []) (M1 := (mk_M c n m kk (rT (he, ke, ki, fi, fa, or, mi, a, g, l, w, s) xm xi xw im le nu rf ln nn vp xn ((krl D ce t_1 (kx he ke 0 ce t_1)).map kFA) vs))) (fun f => rfl) ?_
          refine me_l (fun q_ => [some (.ref 138), some (.int (nI p)), some (.int 0), some (.int (nI k1)), some (.int (nI ce)), some (.int q_), some (.int (nI t_1)), some (.int ((nI (kg he t_1)) - (nI (kg he ce))))]) (nI_add j 1) ?_
          refine me_seg 1 (pc1 := 86) (ls1 := [some (.ref 138), some (.int (nI p)), some (.int 0), some (.int (nI k1)), some (.int (nI ce)), some (.int (nI (j + 1))), some (.int (nI t_1)), some (.int ((nI (kg he t_1)) - (nI (kg he ce))))]) (st1 := []) (M1 := (mk_M c n m kk (rT (he, ke, ki, fi, fa, or, mi, a, g, l, w, s) xm xi xw im le nu rf ln nn vp xn ((krl D ce t_1 (kx he ke 0 ce t_1)).map kFA) vs))) (fun f => rfl) ?_
          exact IH (j + 1) (T + 11) (some (.int (nI t_1))) (some (.int ((nI (kg he t_1)) - (nI (kg he ce))))) xm xw vp xn (krl D ce t_1 (kx he ke 0 ce t_1)) vs (by omega) ⟨hR.1, hR.2.1, hR.2.2.1, (by rw [List.length_map, krl_len]; omega)⟩ (by rw [krl_len]; exact hD) (by rw [g0, kstw_s hb_1]) (kbd_rl (by omega) (by unfold kx; omega) hbd) (by omega)
      · refine me_seg 2 (pc1 := 209) (ls1 := [some (.ref 138), some (.int (nI p)), some (.int 0), some (.int (nI k1)), some (.int (nI ce)), some (.int ((nI j) + 1)), some (.int (nI t_1)), lo7]) (st1 := []) (M1 := (mk_M c n m kk (rT (he, ke, ki, fi, fa, or, mi, a, g, l, w, s) xm xi xw im le nu rf ln nn vp xn (D.map kFA) vs))) (fun f => rfl) ?_
        refine me_l (fun q_ => [some (.ref 138), some (.int (nI p)), some (.int 0), some (.int (nI k1)), some (.int (nI ce)), some (.int q_), some (.int (nI t_1)), lo7]) (nI_add j 1) ?_
        refine me_seg 1 (pc1 := 86) (ls1 := [some (.ref 138), some (.int (nI p)), some (.int 0), some (.int (nI k1)), some (.int (nI ce)), some (.int (nI (j + 1))), some (.int (nI t_1)), lo7]) (st1 := []) (M1 := (mk_M c n m kk (rT (he, ke, ki, fi, fa, or, mi, a, g, l, w, s) xm xi xw im le nu rf ln nn vp xn (D.map kFA) vs))) (fun f => rfl) ?_
        exact IH (j + 1) T (some (.int (nI t_1))) (lo7) xm xw vp xn D vs (by omega) ⟨hR.1, hR.2.1, hR.2.2.1, (by rw [List.length_map]; omega)⟩ hD (by rw [g0, kstw_s hb_1, krl_n (k_none h2)]) hbd (by omega)
set_option maxRecDepth 100000 in
theorem tm_c0 (he ke ki fi fa or : List Nat) (mi a g l w s : Nat) (xi : List Int32) (im : Nat) (le nu rf : List Nat) (ln nn : Nat) (c : cC) (n m kk : kG) (hA : iA (he, ke, ki, fi, fa, or, mi, a, g, l, w, s)) (hC : iC nu nn) (p : Nat) (hp : p < 25) (A : Nat) (E2 : kD) (hE2 : kgo E2 p = some A) (G : kD) (k1 M0 : Nat) (hM0 : M0 < 700000) (HO : ∀ (lo4 lo5 lo6 lo7 : Option Value) (xm xw : List Int32) (vp : Int32) (xn : List Int32) (D : kD) (vs : Int32), iR xm xw xn (D.map kFA) → D.length = 25 → D = G → kbd D M0 → mm_E 178 67 [some (.ref 138), some (.int (nI p)), some (.int 0), some (.int (nI (k1 + 1))), lo4, lo5, lo6, lo7] [] (mk_M c n m kk (rT (he, ke, ki, fi, fa, or, mi, a, g, l, w, s) xm xi xw im le nu rf ln nn vp xn (D.map kFA) vs)) (pM (fun r => r = some (.int (nI A))) (he, ke, ki, fi, fa, or, mi, a, g, l, w, s) xi im le nu rf ln nn c n m kk)) (k : Nat) : ∀ (j T : Nat) (lo5 lo6 lo7 : Option Value) (xm xw : List Int32) (vp : Int32) (xn : List Int32) (D : kD) (vs : Int32), j + k = 25 → iR xm xw xn (D.map kFA) → D.length = 25 → G = kswe he ke 0 k j D → kbd D T → T + 44 * k ≤ M0 → mm_E 178 76 [some (.ref 138), some (.int (nI p)), some (.int 0), some (.int (nI k1)), some (.int (nI j)), lo5, lo6, lo7] [] (mk_M c n m kk (rT (he, ke, ki, fi, fa, or, mi, a, g, l, w, s) xm xi xw im le nu rf ln nn vp xn (D.map kFA) vs)) (pM (fun r => r = some (.int (nI A))) (he, ke, ki, fi, fa, or, mi, a, g, l, w, s) xi im le nu rf ln nn c n m kk) := by
  obtain ⟨hV, hst⟩ := id hA
  have hst2 : s ≤ 999 := hst
  obtain ⟨v1, v2, v3, v4, v5, v6, v7, v8, v9, v10, v11, v12, v13, v14, v15, v16⟩ := id hV
  have v6l := kO_len mi v7 or v6
  obtain ⟨c1, c2, c3⟩ := id hC
  induction k with
  | zero =>
    intro j T lo5 lo6 lo7 xm xw vp xn D vs hj hR hD g0 hbd hT
    refine me_seg 2 (pc1 := 80) (ls1 := [some (.ref 138), some (.int (nI p)), some (.int 0), some (.int (nI k1)), some (.int (nI j)), lo5, lo6, lo7]) (st1 := [.int 25, .int (nI j)]) (M1 := (mk_M c n m kk (rT (he, ke, ki, fi, fa, or, mi, a, g, l, w, s) xm xi xw im le nu rf ln nn vp xn (D.map kFA) vs))) (fun f => rfl) ?_
    refine me_t (C := 25 ≤ (nI j)) (nI_let (a := 25) (b := j) (by omega)) (fun f => rfl) ?_
    refine me_seg 1 (pc1 := 221) (ls1 := [some (.ref 138), some (.int (nI p)), some (.int 0), some (.int ((nI k1) + 1)), some (.int (nI j)), lo5, lo6, lo7]) (st1 := []) (M1 := (mk_M c n m kk (rT (he, ke, ki, fi, fa, or, mi, a, g, l, w, s) xm xi xw im le nu rf ln nn vp xn (D.map kFA) vs))) (fun f => rfl) ?_
    refine me_l (fun q_ => [some (.ref 138), some (.int (nI p)), some (.int 0), some (.int q_), some (.int (nI j)), lo5, lo6, lo7]) (nI_add k1 1) ?_
    refine me_seg 1 (pc1 := 67) (ls1 := [some (.ref 138), some (.int (nI p)), some (.int 0), some (.int (nI (k1 + 1))), some (.int (nI j)), lo5, lo6, lo7]) (st1 := []) (M1 := (mk_M c n m kk (rT (he, ke, ki, fi, fa, or, mi, a, g, l, w, s) xm xi xw im le nu rf ln nn vp xn (D.map kFA) vs))) (fun f => rfl) ?_
    exact HO (some (.int (nI j))) (lo5) (lo6) (lo7) xm xw vp xn D vs ⟨hR.1, hR.2.1, hR.2.2.1, (by rw [List.length_map]; omega)⟩ hD g0.symm (kbd_mono (by omega) hbd)
  | succ k IH =>
    intro j T lo5 lo6 lo7 xm xw vp xn D vs hj hR hD g0 hbd hT
    refine me_seg 2 (pc1 := 80) (ls1 := [some (.ref 138), some (.int (nI p)), some (.int 0), some (.int (nI k1)), some (.int (nI j)), lo5, lo6, lo7]) (st1 := [.int 25, .int (nI j)]) (M1 := (mk_M c n m kk (rT (he, ke, ki, fi, fa, or, mi, a, g, l, w, s) xm xi xw im le nu rf ln nn vp xn (D.map kFA) vs))) (fun f => rfl) ?_
    refine me_f (C := 25 ≤ (nI j)) (nI_lef (a := 25) (b := j) (by omega)) (fun f => rfl) ?_
    refine me_seg 2 (pc1 := 86) (ls1 := [some (.ref 138), some (.int (nI p)), some (.int 0), some (.int (nI k1)), some (.int (nI j)), some (.int 0), lo6, lo7]) (st1 := []) (M1 := (mk_M c n m kk (rT (he, ke, ki, fi, fa, or, mi, a, g, l, w, s) xm xi xw im le nu rf ln nn vp xn (D.map kFA) vs))) (fun f => rfl) ?_
    refine tm_w0 he ke ki fi fa or mi a g l w s xi im le nu rf ln nn c n m kk hA hC p hp A E2 hE2 (kstw he ke 0 j 4 0 D) k1 j (T + 44) (by omega) (by omega) ?_ 4 0 T (lo6) (lo7) xm xw vp xn D vs (by omega) ⟨hR.1, hR.2.1, hR.2.2.1, (by rw [List.length_map]; omega)⟩ hD rfl hbd (by omega)
    intro lo5 lo6 lo7 xm xw vp xn D2 vs hR hD2 hG hbd2
    exact IH (j + 1) (T + 44) lo5 lo6 lo7 xm xw vp xn D2 vs (by omega) hR hD2 (by rw [g0, hG]; rfl) hbd2 (by omega)
set_option maxRecDepth 100000 in
theorem tm_r0 (he ke ki fi fa or : List Nat) (mi a g l w s : Nat) (xi : List Int32) (im : Nat) (le nu rf : List Nat) (ln nn : Nat) (c : cC) (n m kk : kG) (hA : iA (he, ke, ki, fi, fa, or, mi, a, g, l, w, s)) (hC : iC nu nn) (p : Nat) (hp : p < 25) (A : Nat) (E2 : kD) (hE2 : kgo E2 p = some A) (k : Nat) : ∀ (j T : Nat) (lo4 lo5 lo6 lo7 : Option Value) (xm xw : List Int32) (vp : Int32) (xn : List Int32) (D : kD) (vs : Int32), j + k = 25 → iR xm xw xn (D.map kFA) → D.length = 25 → E2 = kitr he ke 0 k D → kbd D T → T + 1100 * k ≤ 600000 → mm_E 178 67 [some (.ref 138), some (.int (nI p)), some (.int 0), some (.int (nI j)), lo4, lo5, lo6, lo7] [] (mk_M c n m kk (rT (he, ke, ki, fi, fa, or, mi, a, g, l, w, s) xm xi xw im le nu rf ln nn vp xn (D.map kFA) vs)) (pM (fun r => r = some (.int (nI A))) (he, ke, ki, fi, fa, or, mi, a, g, l, w, s) xi im le nu rf ln nn c n m kk) := by
  obtain ⟨hV, hst⟩ := id hA
  have hst2 : s ≤ 999 := hst
  obtain ⟨v1, v2, v3, v4, v5, v6, v7, v8, v9, v10, v11, v12, v13, v14, v15, v16⟩ := id hV
  have v6l := kO_len mi v7 or v6
  obtain ⟨c1, c2, c3⟩ := id hC
  induction k with
  | zero =>
    intro j T lo4 lo5 lo6 lo7 xm xw vp xn D vs hj hR hD g0 hbd hT
    refine me_seg 2 (pc1 := 70) (ls1 := [some (.ref 138), some (.int (nI p)), some (.int 0), some (.int (nI j)), lo4, lo5, lo6, lo7]) (st1 := [.int 25, .int (nI j)]) (M1 := (mk_M c n m kk (rT (he, ke, ki, fi, fa, or, mi, a, g, l, w, s) xm xi xw im le nu rf ln nn vp xn (D.map kFA) vs))) (fun f => rfl) ?_
    refine me_t (C := 25 ≤ (nI j)) (nI_let (a := 25) (b := j) (by omega)) (fun f => rfl) ?_
    refine me_seg 3 (pc1 := 229) (ls1 := [some (.ref 138), some (.int (nI p)), some (.int 0), some (.int (nI j)), lo4, lo5, lo6, lo7]) (st1 := [.int (nI p), .ref 147]) (M1 := (mk_M c n m kk (rT (he, ke, ki, fi, fa, or, mi, a, g, l, w, s) xm xi xw im le nu rf ln nn vp xn (D.map kFA) vs))) (fun f => rfl) ?_
    refine me_ldn (xs := (D.map kFA)) rfl rfl (k := p) (by omega) (kgo_m kFA (by omega)) ?_
    refine me_ret 1 (r := some (.int (kFA (kgo D p)))) (M1 := (mk_M c n m kk (rT (he, ke, ki, fi, fa, or, mi, a, g, l, w, s) xm xi xw im le nu rf ln nn vp xn (D.map kFA) vs))) (fun f => rfl) ?_
    exact ⟨(by rw [show kgo D p = some A by rw [← hE2, g0]; rfl]; rfl), _, _, _, _, _, _, rfl, hR⟩
  | succ k IH =>
    intro j T lo4 lo5 lo6 lo7 xm xw vp xn D vs hj hR hD g0 hbd hT
    refine me_seg 2 (pc1 := 70) (ls1 := [some (.ref 138), some (.int (nI p)), some (.int 0), some (.int (nI j)), lo4, lo5, lo6, lo7]) (st1 := [.int 25, .int (nI j)]) (M1 := (mk_M c n m kk (rT (he, ke, ki, fi, fa, or, mi, a, g, l, w, s) xm xi xw im le nu rf ln nn vp xn (D.map kFA) vs))) (fun f => rfl) ?_
    refine me_f (C := 25 ≤ (nI j)) (nI_lef (a := 25) (b := j) (by omega)) (fun f => rfl) ?_
    refine me_seg 2 (pc1 := 76) (ls1 := [some (.ref 138), some (.int (nI p)), some (.int 0), some (.int (nI j)), some (.int 0), lo5, lo6, lo7]) (st1 := []) (M1 := (mk_M c n m kk (rT (he, ke, ki, fi, fa, or, mi, a, g, l, w, s) xm xi xw im le nu rf ln nn vp xn (D.map kFA) vs))) (fun f => rfl) ?_
    refine tm_c0 he ke ki fi fa or mi a g l w s xi im le nu rf ln nn c n m kk hA hC p hp A E2 hE2 (kswe he ke 0 25 0 D) j (T + 1100) (by omega) ?_ 25 0 T (lo5) (lo6) (lo7) xm xw vp xn D vs (by omega) ⟨hR.1, hR.2.1, hR.2.2.1, (by rw [List.length_map]; omega)⟩ hD rfl hbd (by omega)
    intro lo4 lo5 lo6 lo7 xm xw vp xn D2 vs hR hD2 hG hbd2
    exact IH (j + 1) (T + 1100) lo4 lo5 lo6 lo7 xm xw vp xn D2 vs (by omega) hR hD2 (by rw [g0, hG]; rfl) hbd2 (by omega)
theorem kD0_at {a : Nat} (h : a < 25) : kgo (kD0 a) a = some 0 := kgo_set (by rw [List.length_replicate]; exact h)
theorem kD0_ne {a i : Nat} (h : ¬ i = a) : kgo (kD0 a) i = none := by
  unfold kD0
  rw [kgo_ne (fun e => h e.symm), kgo_rep]
set_option maxRecDepth 100000 in
theorem tm_in0 (he ke ki fi fa or : List Nat) (mi a g l w s : Nat) (xi : List Int32) (im : Nat) (le nu rf : List Nat) (ln nn : Nat) (c : cC) (n m kk : kG) (hA : iA (he, ke, ki, fi, fa, or, mi, a, g, l, w, s)) (hC : iC nu nn) (p : Nat) (hp : p < 25) (A : Nat) (hE2 : kgo (kitr he ke 0 25 (kD0 a)) p = some A) (k : Nat) : ∀ (j : Nat) (lo4 lo5 lo6 lo7 : Option Value) (xm xw : List Int32) (vp : Int32) (xn xc : List Int32) (vs : Int32), j + k = 25 → iR xm xw xn xc → (∀ i, i < j → xc[i]? = some (kFA (kgo (kD0 a) i))) → mm_E 178 31 [some (.ref 138), some (.int (nI p)), some (.int 0), some (.int (nI j)), lo4, lo5, lo6, lo7] [] (mk_M c n m kk (rT (he, ke, ki, fi, fa, or, mi, a, g, l, w, s) xm xi xw im le nu rf ln nn vp xn xc vs)) (pM (fun r => r = some (.int (nI A))) (he, ke, ki, fi, fa, or, mi, a, g, l, w, s) xi im le nu rf ln nn c n m kk) := by
  obtain ⟨hV, hst⟩ := id hA
  have hst2 : s ≤ 999 := hst
  obtain ⟨v1, v2, v3, v4, v5, v6, v7, v8, v9, v10, v11, v12, v13, v14, v15, v16⟩ := id hV
  have v6l := kO_len mi v7 or v6
  obtain ⟨c1, c2, c3⟩ := id hC
  induction k with
  | zero =>
    intro j lo4 lo5 lo6 lo7 xm xw vp xn xc vs hj hR g0
    obtain ⟨r1, r2, r3, r4⟩ := id hR
    refine me_seg 2 (pc1 := 34) (ls1 := [some (.ref 138), some (.int (nI p)), some (.int 0), some (.int (nI j)), lo4, lo5, lo6, lo7]) (st1 := [.int 25, .int (nI j)]) (M1 := (mk_M c n m kk (rT (he, ke, ki, fi, fa, or, mi, a, g, l, w, s) xm xi xw im le nu rf ln nn vp xn xc vs))) (fun f => rfl) ?_
    refine me_t (C := 25 ≤ (nI j)) (nI_let (a := 25) (b := j) (by omega)) (fun f => rfl) ?_
    refine me_seg 2 (pc1 := 67) (ls1 := [some (.ref 138), some (.int (nI p)), some (.int 0), some (.int 0), lo4, lo5, lo6, lo7]) (st1 := []) (M1 := (mk_M c n m kk (rT (he, ke, ki, fi, fa, or, mi, a, g, l, w, s) xm xi xw im le nu rf ln nn vp xn xc vs))) (fun f => rfl) ?_
    have ey : xc = (kD0 a).map kFA := kgo_ext (by assumption) (kD0_len a) (fun i hi => g0 i (by omega))
    subst ey
    exact tm_r0 he ke ki fi fa or mi a g l w s xi im le nu rf ln nn c n m kk hA hC p hp A (kitr he ke 0 25 (kD0 a)) hE2 25 0 0 lo4 lo5 lo6 lo7 xm xw vp xn (kD0 a) vs (by omega) hR (kD0_len a) rfl (kD0_bd a) (by omega)
  | succ k IH =>
    intro j lo4 lo5 lo6 lo7 xm xw vp xn xc vs hj hR g0
    obtain ⟨r1, r2, r3, r4⟩ := id hR
    refine me_seg 2 (pc1 := 34) (ls1 := [some (.ref 138), some (.int (nI p)), some (.int 0), some (.int (nI j)), lo4, lo5, lo6, lo7]) (st1 := [.int 25, .int (nI j)]) (M1 := (mk_M c n m kk (rT (he, ke, ki, fi, fa, or, mi, a, g, l, w, s) xm xi xw im le nu rf ln nn vp xn xc vs))) (fun f => rfl) ?_
    refine me_f (C := 25 ≤ (nI j)) (nI_lef (a := 25) (b := j) (by omega)) (fun f => rfl) ?_
    refine me_seg 7 (pc1 := 48) (ls1 := [some (.ref 138), some (.int (nI p)), some (.int 0), some (.int (nI j)), lo4, lo5, lo6, lo7]) (st1 := [.int 2, .ref 139, .int (nI j), .int (nI j), .ref 147]) (M1 := (mk_M c n m kk (rT (he, ke, ki, fi, fa, or, mi, a, g, l, w, s) xm xi xw im le nu rf ln nn vp xn xc vs))) (fun f => rfl) ?_
    refine me_ldn (xs := (er (he, ke, ki, fi, fa, or, mi, a, g, l, w, s))) rfl rfl (k := 2) (by decide) rfl ?_
    refine me_ifN (C := (nI j) = (nI a)) (nI_eqi (a := j) (b := a) (by omega)) (fun f => rfl) (fun h1 => ?_) (fun h1 => ?_)
    · refine me_seg 2 (pc1 := 58) (ls1 := [some (.ref 138), some (.int (nI p)), some (.int 0), some (.int (nI j)), lo4, lo5, lo6, lo7]) (st1 := [.int 0, .int (nI j), .ref 147]) (M1 := (mk_M c n m kk (rT (he, ke, ki, fi, fa, or, mi, a, g, l, w, s) xm xi xw im le nu rf ln nn vp xn xc vs))) (fun f => rfl) ?_
      refine me_stn (xs := xc) (ys := (xc.set j 0)) (M2 := (mk_M c n m kk (rT (he, ke, ki, fi, fa, or, mi, a, g, l, w, s) xm xi xw im le nu rf ln nn vp xn (xc.set j 0) vs))) rfl rfl (k := j) (by omega) (by first | omega | (simp only [List.length_set]; omega)) rfl rfl ?_
      refine me_seg 1 (pc1 := 62) (ls1 := [some (.ref 138), some (.int (nI p)), some (.int 0), some (.int ((nI j) + 1)), lo4, lo5, lo6, lo7]) (st1 := []) (M1 := (mk_M c n m kk (rT (he, ke, ki, fi, fa, or, mi, a, g, l, w, s) xm xi xw im le nu rf ln nn vp xn (xc.set j 0) vs))) (fun f => rfl) ?_
      refine me_l (fun q_ => [some (.ref 138), some (.int (nI p)), some (.int 0), some (.int q_), lo4, lo5, lo6, lo7]) (nI_add j 1) ?_
      refine me_seg 1 (pc1 := 31) (ls1 := [some (.ref 138), some (.int (nI p)), some (.int 0), some (.int (nI (j + 1))), lo4, lo5, lo6, lo7]) (st1 := []) (M1 := (mk_M c n m kk (rT (he, ke, ki, fi, fa, or, mi, a, g, l, w, s) xm xi xw im le nu rf ln nn vp xn (xc.set j 0) vs))) (fun f => rfl) ?_
      refine IH (j + 1) lo4 lo5 lo6 lo7 xm xw vp xn (xc.set j 0) vs (by omega) ⟨(by assumption), (by assumption), (by assumption), (by simp only [List.length_set]; assumption)⟩ (fun i hi => ?_)
      rw [List.getElem?_set]
      by_cases e : j = i
      · subst e
        rw [if_pos rfl, if_pos (by omega)]
        rw [h1, kD0_at v8]; rfl
      · rw [if_neg e]
        exact g0 i (by omega)
    · refine me_seg 1 (pc1 := 58) (ls1 := [some (.ref 138), some (.int (nI p)), some (.int 0), some (.int (nI j)), lo4, lo5, lo6, lo7]) (st1 := [.int 1000000000, .int (nI j), .ref 147]) (M1 := (mk_M c n m kk (rT (he, ke, ki, fi, fa, or, mi, a, g, l, w, s) xm xi xw im le nu rf ln nn vp xn xc vs))) (fun f => rfl) ?_
      refine me_stn (xs := xc) (ys := (xc.set j 1000000000)) (M2 := (mk_M c n m kk (rT (he, ke, ki, fi, fa, or, mi, a, g, l, w, s) xm xi xw im le nu rf ln nn vp xn (xc.set j 1000000000) vs))) rfl rfl (k := j) (by omega) (by first | omega | (simp only [List.length_set]; omega)) rfl rfl ?_
      refine me_seg 1 (pc1 := 62) (ls1 := [some (.ref 138), some (.int (nI p)), some (.int 0), some (.int ((nI j) + 1)), lo4, lo5, lo6, lo7]) (st1 := []) (M1 := (mk_M c n m kk (rT (he, ke, ki, fi, fa, or, mi, a, g, l, w, s) xm xi xw im le nu rf ln nn vp xn (xc.set j 1000000000) vs))) (fun f => rfl) ?_
      refine me_l (fun q_ => [some (.ref 138), some (.int (nI p)), some (.int 0), some (.int q_), lo4, lo5, lo6, lo7]) (nI_add j 1) ?_
      refine me_seg 1 (pc1 := 31) (ls1 := [some (.ref 138), some (.int (nI p)), some (.int 0), some (.int (nI (j + 1))), lo4, lo5, lo6, lo7]) (st1 := []) (M1 := (mk_M c n m kk (rT (he, ke, ki, fi, fa, or, mi, a, g, l, w, s) xm xi xw im le nu rf ln nn vp xn (xc.set j 1000000000) vs))) (fun f => rfl) ?_
      refine IH (j + 1) lo4 lo5 lo6 lo7 xm xw vp xn (xc.set j 1000000000) vs (by omega) ⟨(by assumption), (by assumption), (by assumption), (by simp only [List.length_set]; assumption)⟩ (fun i hi => ?_)
      rw [List.getElem?_set]
      by_cases e : j = i
      · subst e
        rw [if_pos rfl, if_pos (by omega)]
        rw [kD0_ne h1]; rfl
      · rw [if_neg e]
        exact g0 i (by omega)
set_option maxRecDepth 100000 in
theorem tm_climb_0 (he ke ki fi fa or : List Nat) (mi a g l w s : Nat) (xi : List Int32) (im : Nat) (le nu rf : List Nat) (ln nn : Nat) (c : cC) (n m kk : kG) (hA : iA (he, ke, ki, fi, fa, or, mi, a, g, l, w, s)) (hC : iC nu nn) (xm xw : List Int32) (vp : Int32) (xn xc : List Int32) (vs : Int32) (hR : iR xm xw xn xc) (p : Nat) (hp : p < 25) (A : Nat) (hE2 : kgo (kitr he ke 0 25 (kD0 a)) p = some A) : mm_E 178 0 [some (.ref 138), some (.int (nI p)), some (.int 0), none, none, none, none, none] [] (mk_M c n m kk (rT (he, ke, ki, fi, fa, or, mi, a, g, l, w, s) xm xi xw im le nu rf ln nn vp xn xc vs)) (pM (fun r => r = some (.int (nI A))) (he, ke, ki, fi, fa, or, mi, a, g, l, w, s) xi im le nu rf ln nn c n m kk) := by
  obtain ⟨hV, hst⟩ := id hA
  have hst2 : s ≤ 999 := hst
  obtain ⟨v1, v2, v3, v4, v5, v6, v7, v8, v9, v10, v11, v12, v13, v14, v15, v16⟩ := id hV
  have v6l := kO_len mi v7 or v6
  obtain ⟨c1, c2, c3⟩ := id hC
  obtain ⟨r1, r2, r3, r4⟩ := id hR
  refine me_seg 1 (pc1 := 1) (ls1 := [some (.ref 138), some (.int (nI p)), some (.int 0), none, none, none, none, none]) (st1 := [.int (nI p)]) (M1 := (mk_M c n m kk (rT (he, ke, ki, fi, fa, or, mi, a, g, l, w, s) xm xi xw im le nu rf ln nn vp xn xc vs))) (fun f => rfl) ?_
  refine me_call (y := 140) (y0 := 4) (L := [some (.int (nI p))]) (rest := []) (rr := some (.int 1)) (M1 := (mk_M c n m kk (rT (he, ke, ki, fi, fa, or, mi, a, g, l, w, s) xm xi xw im le nu rf ln nn vp xn xc vs))) (fun f => rfl) (ms_c2_ok (x := (nI p)) (nI_ltf (a := p) (b := 0) (by omega)) (nI_ltf (a := 24) (b := p) (by omega))) ?_
  refine me_seg 4 (pc1 := 16) (ls1 := [some (.ref 138), some (.int (nI p)), some (.int 0), none, none, none, none, none]) (st1 := [.int 1, .int 0, .int 0]) (M1 := (mk_M c n m kk (rT (he, ke, ki, fi, fa, or, mi, a, g, l, w, s) xm xi xw im le nu rf ln nn vp xn xc vs))) (fun f => rfl) ?_
  refine me_call (y := 135) (y0 := 19) (L := [some (.int 0), some (.int 0), some (.int 1)]) (rest := []) (rr := some (.int 1)) (M1 := (mk_M c n m kk (rT (he, ke, ki, fi, fa, or, mi, a, g, l, w, s) xm xi xw im le nu rf ln nn vp xn xc vs))) (fun f => rfl) (by
      exact mr_ret 9 (fun f => rfl)) ?_
  refine me_seg 3 (pc1 := 31) (ls1 := [some (.ref 138), some (.int (nI p)), some (.int 0), some (.int 0), none, none, none, none]) (st1 := []) (M1 := (mk_M c n m kk (rT (he, ke, ki, fi, fa, or, mi, a, g, l, w, s) xm xi xw im le nu rf ln nn vp xn xc vs))) (fun f => rfl) ?_
  exact tm_in0 he ke ki fi fa or mi a g l w s xi im le nu rf ln nn c n m kk hA hC p hp A hE2 25 0 none none none none xm xw vp xn xc vs (by omega) ⟨(by assumption), (by assumption), (by assumption), (by assumption)⟩ (fun i hi => absurd hi (Nat.not_lt_zero i))
set_option maxRecDepth 100000 in
theorem tm_w1 (he ke ki fi fa or : List Nat) (mi a g l w s : Nat) (xi : List Int32) (im : Nat) (le nu rf : List Nat) (ln nn : Nat) (c : cC) (n m kk : kG) (hA : iA (he, ke, ki, fi, fa, or, mi, a, g, l, w, s)) (hC : iC nu nn) (p : Nat) (hp : p < 25) (A : Nat) (E2 : kD) (hE2 : kgo E2 p = some A) (G : kD) (k1 ce M0 : Nat) (hc : ce < 25) (hM0 : M0 < 800000) (HO : ∀ (lo5 lo6 lo7 : Option Value) (xm xw : List Int32) (vp : Int32) (xn : List Int32) (D : kD) (vs : Int32), iR xm xw xn (D.map kFA) → D.length = 25 → D = G → kbd D M0 → mm_E 178 76 [some (.ref 138), some (.int (nI p)), some (.int 1), some (.int (nI k1)), some (.int (nI (ce + 1))), lo5, lo6, lo7] [] (mk_M c n m kk (rT (he, ke, ki, fi, fa, or, mi, a, g, l, w, s) xm xi xw im le nu rf ln nn vp xn (D.map kFA) vs)) (pM (fun r => r = some (.int (nI A))) (he, ke, ki, fi, fa, or, mi, a, g, l, w, s) xi im le nu rf ln nn c n m kk)) (k : Nat) : ∀ (j T : Nat) (lo6 lo7 : Option Value) (xm xw : List Int32) (vp : Int32) (xn : List Int32) (D : kD) (vs : Int32), j + k = 4 → iR xm xw xn (D.map kFA) → D.length = 25 → G = kstw he ke 2 ce k j D → kbd D T → T + 11 * k ≤ M0 → mm_E 178 86 [some (.ref 138), some (.int (nI p)), some (.int 1), some (.int (nI k1)), some (.int (nI ce)), some (.int (nI j)), lo6, lo7] [] (mk_M c n m kk (rT (he, ke, ki, fi, fa, or, mi, a, g, l, w, s) xm xi xw im le nu rf ln nn vp xn (D.map kFA) vs)) (pM (fun r => r = some (.int (nI A))) (he, ke, ki, fi, fa, or, mi, a, g, l, w, s) xi im le nu rf ln nn c n m kk) := by
  obtain ⟨hV, hst⟩ := id hA
  have hst2 : s ≤ 999 := hst
  obtain ⟨v1, v2, v3, v4, v5, v6, v7, v8, v9, v10, v11, v12, v13, v14, v15, v16⟩ := id hV
  have v6l := kO_len mi v7 or v6
  obtain ⟨c1, c2, c3⟩ := id hC
  have hx1 := v12 ce
  induction k with
  | zero =>
    intro j T lo6 lo7 xm xw vp xn D vs hj hR hD g0 hbd hT
    refine me_seg 2 (pc1 := 89) (ls1 := [some (.ref 138), some (.int (nI p)), some (.int 1), some (.int (nI k1)), some (.int (nI ce)), some (.int (nI j)), lo6, lo7]) (st1 := [.int 4, .int (nI j)]) (M1 := (mk_M c n m kk (rT (he, ke, ki, fi, fa, or, mi, a, g, l, w, s) xm xi xw im le nu rf ln nn vp xn (D.map kFA) vs))) (fun f => rfl) ?_
    refine me_t (C := 4 ≤ (nI j)) (nI_let (a := 4) (b := j) (by omega)) (fun f => rfl) ?_
    refine me_seg 1 (pc1 := 215) (ls1 := [some (.ref 138), some (.int (nI p)), some (.int 1), some (.int (nI k1)), some (.int ((nI ce) + 1)), some (.int (nI j)), lo6, lo7]) (st1 := []) (M1 := (mk_M c n m kk (rT (he, ke, ki, fi, fa, or, mi, a, g, l, w, s) xm xi xw im le nu rf ln nn vp xn (D.map kFA) vs))) (fun f => rfl) ?_
    refine me_l (fun q_ => [some (.ref 138), some (.int (nI p)), some (.int 1), some (.int (nI k1)), some (.int q_), some (.int (nI j)), lo6, lo7]) (nI_add ce 1) ?_
    refine me_seg 1 (pc1 := 76) (ls1 := [some (.ref 138), some (.int (nI p)), some (.int 1), some (.int (nI k1)), some (.int (nI (ce + 1))), some (.int (nI j)), lo6, lo7]) (st1 := []) (M1 := (mk_M c n m kk (rT (he, ke, ki, fi, fa, or, mi, a, g, l, w, s) xm xi xw im le nu rf ln nn vp xn (D.map kFA) vs))) (fun f => rfl) ?_
    exact HO (some (.int (nI j))) (lo6) (lo7) xm xw vp xn D vs ⟨hR.1, hR.2.1, hR.2.2.1, (by rw [List.length_map]; omega)⟩ hD g0.symm (kbd_mono (by omega) hbd)
  | succ k IH =>
    intro j T lo6 lo7 xm xw vp xn D vs hj hR hD g0 hbd hT
    refine me_seg 2 (pc1 := 89) (ls1 := [some (.ref 138), some (.int (nI p)), some (.int 1), some (.int (nI k1)), some (.int (nI ce)), some (.int (nI j)), lo6, lo7]) (st1 := [.int 4, .int (nI j)]) (M1 := (mk_M c n m kk (rT (he, ke, ki, fi, fa, or, mi, a, g, l, w, s) xm xi xw im le nu rf ln nn vp xn (D.map kFA) vs))) (fun f => rfl) ?_
    refine me_f (C := 4 ≤ (nI j)) (nI_lef (a := 4) (b := j) (by omega)) (fun f => rfl) ?_
    refine me_seg 2 (pc1 := 96) (ls1 := [some (.ref 138), some (.int (nI p)), some (.int 1), some (.int (nI k1)), some (.int (nI ce)), some (.int (nI j)), lo6, lo7]) (st1 := [.int (nI j), .int (nI ce)]) (M1 := (mk_M c n m kk (rT (he, ke, ki, fi, fa, or, mi, a, g, l, w, s) xm xi xw im le nu rf ln nn vp xn (D.map kFA) vs))) (fun f => rfl) ?_
    refine me_call (y := 149) (y0 := 99) (L := [some (.int (nI ce)), some (.int (nI j))]) (rest := []) (rr := some (.int (kI (kbey ce j)))) (M1 := (mk_M c n m kk (rT (he, ke, ki, fi, fa, or, mi, a, g, l, w, s) xm xi xw im le nu rf ln nn vp xn (D.map kFA) vs))) (fun f => rfl) (rc_bey (c := ce) (w := j) (by omega) (by omega) _) ?_
    rcases hb_1 : kbey ce j with _ | t_1
    · refine me_v (show kI none = (-9 : Int32) from rfl) ?_
      refine me_seg 4 (pc1 := 209) (ls1 := [some (.ref 138), some (.int (nI p)), some (.int 1), some (.int (nI k1)), some (.int (nI ce)), some (.int ((nI j) + 1)), some (.int (-9)), lo7]) (st1 := []) (M1 := (mk_M c n m kk (rT (he, ke, ki, fi, fa, or, mi, a, g, l, w, s) xm xi xw im le nu rf ln nn vp xn (D.map kFA) vs))) (fun f => rfl) ?_
      refine me_l (fun q_ => [some (.ref 138), some (.int (nI p)), some (.int 1), some (.int (nI k1)), some (.int (nI ce)), some (.int q_), some (.int (-9)), lo7]) (nI_add j 1) ?_
      refine me_seg 1 (pc1 := 86) (ls1 := [some (.ref 138), some (.int (nI p)), some (.int 1), some (.int (nI k1)), some (.int (nI ce)), some (.int (nI (j + 1))), some (.int (-9)), lo7]) (st1 := []) (M1 := (mk_M c n m kk (rT (he, ke, ki, fi, fa, or, mi, a, g, l, w, s) xm xi xw im le nu rf ln nn vp xn (D.map kFA) vs))) (fun f => rfl) ?_
      exact IH (j + 1) T (some (.int (-9))) (lo7) xm xw vp xn D vs (by omega) ⟨hR.1, hR.2.1, hR.2.2.1, (by rw [List.length_map]; omega)⟩ hD (by rw [g0, kstw_n hb_1]) hbd (by omega)
    · have ht_1 := kbey_lt (by omega) hb_1
      refine me_v (show kI (some t_1) = nI t_1 from rfl) ?_
      have hxt := v12 t_1
      have hkt := v13 t_1
      refine me_seg 2 (pc1 := 103) (ls1 := [some (.ref 138), some (.int (nI p)), some (.int 1), some (.int (nI k1)), some (.int (nI ce)), some (.int (nI j)), some (.int (nI t_1)), lo7]) (st1 := [.int (nI t_1)]) (M1 := (mk_M c n m kk (rT (he, ke, ki, fi, fa, or, mi, a, g, l, w, s) xm xi xw im le nu rf ln nn vp xn (D.map kFA) vs))) (fun f => rfl) ?_
      refine me_f (C := (nI t_1) < 0) (nI_pos (by omega)) (fun f => rfl) ?_
      refine me_seg 3 (pc1 := 112) (ls1 := [some (.ref 138), some (.int (nI p)), some (.int 1), some (.int (nI k1)), some (.int (nI ce)), some (.int (nI j)), some (.int (nI t_1)), lo7]) (st1 := [.int (nI ce), .ref 147]) (M1 := (mk_M c n m kk (rT (he, ke, ki, fi, fa, or, mi, a, g, l, w, s) xm xi xw im le nu rf ln nn vp xn (D.map kFA) vs))) (fun f => rfl) ?_
      refine me_ldn (xs := (D.map kFA)) rfl rfl (k := ce) (by omega) (kgo_m kFA (by omega)) ?_
      refine me_seg 1 (pc1 := 115) (ls1 := [some (.ref 138), some (.int (nI p)), some (.int 1), some (.int (nI k1)), some (.int (nI ce)), some (.int (nI j)), some (.int (nI t_1)), lo7]) (st1 := [.int 1000000000, .int (kFA (kgo D ce))]) (M1 := (mk_M c n m kk (rT (he, ke, ki, fi, fa, or, mi, a, g, l, w, s) xm xi xw im le nu rf ln nn vp xn (D.map kFA) vs))) (fun f => rfl) ?_
      refine me_ifN (C := (kFA (kgo D ce)) < 1000000000) (kFA_g (hbd ce) (by omega)) (fun f => rfl) (fun h2 => ?_) (fun h2 => ?_)
      · refine me_seg 5 (pc1 := 130) (ls1 := [some (.ref 138), some (.int (nI p)), some (.int 1), some (.int (nI k1)), some (.int (nI ce)), some (.int (nI j)), some (.int (nI t_1)), lo7]) (st1 := [.int ((7 : Int32) + (nI t_1)), .ref 139]) (M1 := (mk_M c n m kk (rT (he, ke, ki, fi, fa, or, mi, a, g, l, w, s) xm xi xw im le nu rf ln nn vp xn (D.map kFA) vs))) (fun f => rfl) ?_
        refine me_v (nI_add 7 t_1) ?_
        refine me_ldn (xs := (er (he, ke, ki, fi, fa, or, mi, a, g, l, w, s))) rfl rfl (k := 7 + t_1) (by omega) (er_h (K := (he, ke, ki, fi, fa, or, mi, a, g, l, w, s)) v1 (by omega)) ?_
        refine me_seg 5 (pc1 := 140) (ls1 := [some (.ref 138), some (.int (nI p)), some (.int 1), some (.int (nI k1)), some (.int (nI ce)), some (.int (nI j)), some (.int (nI t_1)), lo7]) (st1 := [.int ((7 : Int32) + (nI ce)), .ref 139, .int (nI (kg he t_1))]) (M1 := (mk_M c n m kk (rT (he, ke, ki, fi, fa, or, mi, a, g, l, w, s) xm xi xw im le nu rf ln nn vp xn (D.map kFA) vs))) (fun f => rfl) ?_
        refine me_v (nI_add 7 ce) ?_
        refine me_ldn (xs := (er (he, ke, ki, fi, fa, or, mi, a, g, l, w, s))) rfl rfl (k := 7 + ce) (by omega) (er_h (K := (he, ke, ki, fi, fa, or, mi, a, g, l, w, s)) v1 (by omega)) ?_
        refine me_seg 8 (pc1 := 156) (ls1 := [some (.ref 138), some (.int (nI p)), some (.int 1), some (.int (nI k1)), some (.int (nI ce)), some (.int (nI j)), some (.int (nI t_1)), some (.int ((nI (kg he t_1)) - (nI (kg he ce))))]) (st1 := [.int (nI t_1), .ref 147, .int (nI t_1), .ref 147]) (M1 := (mk_M c n m kk (rT (he, ke, ki, fi, fa, or, mi, a, g, l, w, s) xm xi xw im le nu rf ln nn vp xn (D.map kFA) vs))) (fun f => rfl) ?_
        refine me_ldn (xs := (D.map kFA)) rfl rfl (k := t_1) (by omega) (kgo_m kFA (by omega)) ?_
        refine me_seg 3 (pc1 := 163) (ls1 := [some (.ref 138), some (.int (nI p)), some (.int 1), some (.int (nI k1)), some (.int (nI ce)), some (.int (nI j)), some (.int (nI t_1)), some (.int ((nI (kg he t_1)) - (nI (kg he ce))))]) (st1 := [.int (nI ce), .ref 147, .int (kFA (kgo D t_1)), .int (nI t_1), .ref 147]) (M1 := (mk_M c n m kk (rT (he, ke, ki, fi, fa, or, mi, a, g, l, w, s) xm xi xw im le nu rf ln nn vp xn (D.map kFA) vs))) (fun f => rfl) ?_
        refine me_ldn (xs := (D.map kFA)) rfl rfl (k := ce) (by omega) (kgo_m kFA (by omega)) ?_
        refine me_seg 1 (pc1 := 166) (ls1 := [some (.ref 138), some (.int (nI p)), some (.int 1), some (.int (nI k1)), some (.int (nI ce)), some (.int (nI j)), some (.int (nI t_1)), some (.int ((nI (kg he t_1)) - (nI (kg he ce))))]) (st1 := [.int ((nI (kg he t_1)) - (nI (kg he ce))), .int (kFA (kgo D ce)), .int (kFA (kgo D t_1)), .int (nI t_1), .ref 147]) (M1 := (mk_M c n m kk (rT (he, ke, ki, fi, fa, or, mi, a, g, l, w, s) xm xi xw im le nu rf ln nn vp xn (D.map kFA) vs))) (fun f => rfl) ?_
        refine me_ifN (C := ((nI (kg he t_1)) - (nI (kg he ce))) ≤ 0) (k_subg (a := kg he t_1) (b := kg he ce) (by omega) (by omega)) (fun f => rfl) (fun h3 => ?_) (fun h3 => ?_)
        · refine me_seg 8 (pc1 := 187) (ls1 := [some (.ref 138), some (.int (nI p)), some (.int 1), some (.int (nI k1)), some (.int (nI ce)), some (.int (nI j)), some (.int (nI t_1)), some (.int ((nI (kg he t_1)) - (nI (kg he ce))))]) (st1 := [.int 6, .ref 139, .int ((kFA (kgo D ce)) + (0 : Int32)), .int (kFA (kgo D t_1)), .int (nI t_1), .ref 147]) (M1 := (mk_M c n m kk (rT (he, ke, ki, fi, fa, or, mi, a, g, l, w, s) xm xi xw im le nu rf ln nn vp xn (D.map kFA) vs))) (fun f => rfl) ?_
          refine me_ldn (xs := (er (he, ke, ki, fi, fa, or, mi, a, g, l, w, s))) rfl rfl (k := 6) (by decide) rfl ?_
          refine me_seg 1 (pc1 := 190) (ls1 := [some (.ref 138), some (.int (nI p)), some (.int 1), some (.int (nI k1)), some (.int (nI ce)), some (.int (nI j)), some (.int (nI t_1)), some (.int ((nI (kg he t_1)) - (nI (kg he ce))))]) (st1 := [.int (nI t_1), .int (nI (kbits ke)), .int ((kFA (kgo D ce)) + (0 : Int32)), .int (kFA (kgo D t_1)), .int (nI t_1), .ref 147]) (M1 := (mk_M c n m kk (rT (he, ke, ki, fi, fa, or, mi, a, g, l, w, s) xm xi xw im le nu rf ln nn vp xn (D.map kFA) vs))) (fun f => rfl) ?_
          refine me_call (y := 151) (y0 := 193) (L := [some (.int (nI (kbits ke))), some (.int (nI t_1))]) (rest := [.int ((kFA (kgo D ce)) + (0 : Int32)), .int (kFA (kgo D t_1)), .int (nI t_1), .ref 147]) (rr := some (.int (nI (kg ke t_1)))) (M1 := (mk_M c n m kk (rT (he, ke, ki, fi, fa, or, mi, a, g, l, w, s) xm xi xw im le nu rf ln nn vp xn (D.map kFA) vs))) (fun f => rfl) (rc_has ke t_1 (by omega) v2 v13 _) ?_
          refine me_ifN (C := (nI (kg ke t_1)) = 0) (nI_eqi (a := kg ke t_1) (b := 0) (by omega)) (fun f => rfl) (fun h4 => ?_) (fun h4 => ?_)
          · refine me_seg 2 (pc1 := 202) (ls1 := [some (.ref 138), some (.int (nI p)), some (.int 1), some (.int (nI k1)), some (.int (nI ce)), some (.int (nI j)), some (.int (nI t_1)), some (.int ((nI (kg he t_1)) - (nI (kg he ce))))]) (st1 := [.int (((kFA (kgo D ce)) + (0 : Int32)) + (0 : Int32)), .int (kFA (kgo D t_1)), .int (nI t_1), .ref 147]) (M1 := (mk_M c n m kk (rT (he, ke, ki, fi, fa, or, mi, a, g, l, w, s) xm xi xw im le nu rf ln nn vp xn (D.map kFA) vs))) (fun f => rfl) ?_
            refine me_call (y := 154) (y0 := 205) (L := [some (.int (kFA (kgo D t_1))), some (.int (((kFA (kgo D ce)) + (0 : Int32)) + (0 : Int32)))]) (rest := [.int (nI t_1), .ref 147]) (rr := some (.int (if (kFA (kgo D t_1)) < (((kFA (kgo D ce)) + (0 : Int32)) + (0 : Int32)) then (kFA (kgo D t_1)) else (((kFA (kgo D ce)) + (0 : Int32)) + (0 : Int32))))) (M1 := (mk_M c n m kk (rT (he, ke, ki, fi, fa, or, mi, a, g, l, w, s) xm xi xw im le nu rf ln nn vp xn (D.map kFA) vs))) (fun f => rfl) (wm_least (kFA (kgo D t_1)) (((kFA (kgo D ce)) + (0 : Int32)) + (0 : Int32)) _) ?_
            refine me_stn (xs := (D.map kFA)) (ys := ((krl D ce t_1 (kx he ke 2 ce t_1)).map kFA)) (M2 := (mk_M c n m kk (rT (he, ke, ki, fi, fa, or, mi, a, g, l, w, s) xm xi xw im le nu rf ln nn vp xn ((krl D ce t_1 (kx he ke 2 ce t_1)).map kFA) vs))) rfl rfl (k := t_1) (by omega) (by rw [List.length_map]; omega) (krl_F (by omega) (kFA_le (r := kg he t_1 - kg he ce) (q := 2 * kg ke t_1) h2 (hbd ce) (hbd t_1) (by omega) (by have := v13 t_1; omega) (by omega) (by rw [show kg he t_1 - kg he ce = 0 by omega]; rfl) (by rw [show 2 * kg ke t_1 = 0 by have := v13 t_1; omega]; rfl))) rfl ?_
            refine me_seg 1 (pc1 := 209) (ls1 := [some (.ref 138), some (.int (nI p)), some (.int 1), some (.int (nI k1)), some (.int (nI ce)), some (.int ((nI j) + 1)), some (.int (nI t_1)), some (.int ((nI (kg he t_1)) - (nI (kg he ce))))]) (st1 := []) (M1 := (mk_M c n m kk (rT (he, ke, ki, fi, fa, or, mi, a, g, l, w, s) xm xi xw im le nu rf ln nn vp xn ((krl D ce t_1 (kx he ke 2 ce t_1)).map kFA) vs))) (fun f => rfl) ?_
            refine me_l (fun q_ => [some (.ref 138), some (.int (nI p)), some (.int 1), some (.int (nI k1)), some (.int (nI ce)), some (.int q_), some (.int (nI t_1)), some (.int ((nI (kg he t_1)) - (nI (kg he ce))))]) (nI_add j 1) ?_
            refine me_seg 1 (pc1 := 86) (ls1 := [some (.ref 138), some (.int (nI p)), some (.int 1), some (.int (nI k1)), some (.int (nI ce)), some (.int (nI (j + 1))), some (.int (nI t_1)), some (.int ((nI (kg he t_1)) - (nI (kg he ce))))]) (st1 := []) (M1 := (mk_M c n m kk (rT (he, ke, ki, fi, fa, or, mi, a, g, l, w, s) xm xi xw im le nu rf ln nn vp xn ((krl D ce t_1 (kx he ke 2 ce t_1)).map kFA) vs))) (fun f => rfl) ?_
            exact IH (j + 1) (T + 11) (some (.int (nI t_1))) (some (.int ((nI (kg he t_1)) - (nI (kg he ce))))) xm xw vp xn (krl D ce t_1 (kx he ke 2 ce t_1)) vs (by omega) ⟨hR.1, hR.2.1, hR.2.2.1, (by rw [List.length_map, krl_len]; omega)⟩ (by rw [krl_len]; exact hD) (by rw [g0, kstw_s hb_1]) (kbd_rl (by omega) (by unfold kx; omega) hbd) (by omega)
          · refine me_seg 3 (pc1 := 202) (ls1 := [some (.ref 138), some (.int (nI p)), some (.int 1), some (.int (nI k1)), some (.int (nI ce)), some (.int (nI j)), some (.int (nI t_1)), some (.int ((nI (kg he t_1)) - (nI (kg he ce))))]) (st1 := [.int (((kFA (kgo D ce)) + (0 : Int32)) + (2 : Int32)), .int (kFA (kgo D t_1)), .int (nI t_1), .ref 147]) (M1 := (mk_M c n m kk (rT (he, ke, ki, fi, fa, or, mi, a, g, l, w, s) xm xi xw im le nu rf ln nn vp xn (D.map kFA) vs))) (fun f => rfl) ?_
            refine me_call (y := 154) (y0 := 205) (L := [some (.int (kFA (kgo D t_1))), some (.int (((kFA (kgo D ce)) + (0 : Int32)) + (2 : Int32)))]) (rest := [.int (nI t_1), .ref 147]) (rr := some (.int (if (kFA (kgo D t_1)) < (((kFA (kgo D ce)) + (0 : Int32)) + (2 : Int32)) then (kFA (kgo D t_1)) else (((kFA (kgo D ce)) + (0 : Int32)) + (2 : Int32))))) (M1 := (mk_M c n m kk (rT (he, ke, ki, fi, fa, or, mi, a, g, l, w, s) xm xi xw im le nu rf ln nn vp xn (D.map kFA) vs))) (fun f => rfl) (wm_least (kFA (kgo D t_1)) (((kFA (kgo D ce)) + (0 : Int32)) + (2 : Int32)) _) ?_
            refine me_stn (xs := (D.map kFA)) (ys := ((krl D ce t_1 (kx he ke 2 ce t_1)).map kFA)) (M2 := (mk_M c n m kk (rT (he, ke, ki, fi, fa, or, mi, a, g, l, w, s) xm xi xw im le nu rf ln nn vp xn ((krl D ce t_1 (kx he ke 2 ce t_1)).map kFA) vs))) rfl rfl (k := t_1) (by omega) (by rw [List.length_map]; omega) (krl_F (by omega) (kFA_le (r := kg he t_1 - kg he ce) (q := 2 * kg ke t_1) h2 (hbd ce) (hbd t_1) (by omega) (by have := v13 t_1; omega) (by omega) (by rw [show kg he t_1 - kg he ce = 0 by omega]; rfl) (by rw [show 2 * kg ke t_1 = 2 by have := v13 t_1; omega]; rfl))) rfl ?_
            refine me_seg 1 (pc1 := 209) (ls1 := [some (.ref 138), some (.int (nI p)), some (.int 1), some (.int (nI k1)), some (.int (nI ce)), some (.int ((nI j) + 1)), some (.int (nI t_1)), some (.int ((nI (kg he t_1)) - (nI (kg he ce))))]) (st1 := []) (M1 := (mk_M c n m kk (rT (he, ke, ki, fi, fa, or, mi, a, g, l, w, s) xm xi xw im le nu rf ln nn vp xn ((krl D ce t_1 (kx he ke 2 ce t_1)).map kFA) vs))) (fun f => rfl) ?_
            refine me_l (fun q_ => [some (.ref 138), some (.int (nI p)), some (.int 1), some (.int (nI k1)), some (.int (nI ce)), some (.int q_), some (.int (nI t_1)), some (.int ((nI (kg he t_1)) - (nI (kg he ce))))]) (nI_add j 1) ?_
            refine me_seg 1 (pc1 := 86) (ls1 := [some (.ref 138), some (.int (nI p)), some (.int 1), some (.int (nI k1)), some (.int (nI ce)), some (.int (nI (j + 1))), some (.int (nI t_1)), some (.int ((nI (kg he t_1)) - (nI (kg he ce))))]) (st1 := []) (M1 := (mk_M c n m kk (rT (he, ke, ki, fi, fa, or, mi, a, g, l, w, s) xm xi xw im le nu rf ln nn vp xn ((krl D ce t_1 (kx he ke 2 ce t_1)).map kFA) vs))) (fun f => rfl) ?_
            exact IH (j + 1) (T + 11) (some (.int (nI t_1))) (some (.int ((nI (kg he t_1)) - (nI (kg he ce))))) xm xw vp xn (krl D ce t_1 (kx he ke 2 ce t_1)) vs (by omega) ⟨hR.1, hR.2.1, hR.2.2.1, (by rw [List.length_map, krl_len]; omega)⟩ (by rw [krl_len]; exact hD) (by rw [g0, kstw_s hb_1]) (kbd_rl (by omega) (by unfold kx; omega) hbd) (by omega)
        · refine me_seg 9 (pc1 := 187) (ls1 := [some (.ref 138), some (.int (nI p)), some (.int 1), some (.int (nI k1)), some (.int (nI ce)), some (.int (nI j)), some (.int (nI t_1)), some (.int ((nI (kg he t_1)) - (nI (kg he ce))))]) (st1 := [.int 6, .ref 139, .int ((kFA (kgo D ce)) + ((nI (kg he t_1)) - (nI (kg he ce)))), .int (kFA (kgo D t_1)), .int (nI t_1), .ref 147]) (M1 := (mk_M c n m kk (rT (he, ke, ki, fi, fa, or, mi, a, g, l, w, s) xm xi xw im le nu rf ln nn vp xn (D.map kFA) vs))) (fun f => rfl) ?_
          refine me_ldn (xs := (er (he, ke, ki, fi, fa, or, mi, a, g, l, w, s))) rfl rfl (k := 6) (by decide) rfl ?_
          refine me_seg 1 (pc1 := 190) (ls1 := [some (.ref 138), some (.int (nI p)), some (.int 1), some (.int (nI k1)), some (.int (nI ce)), some (.int (nI j)), some (.int (nI t_1)), some (.int ((nI (kg he t_1)) - (nI (kg he ce))))]) (st1 := [.int (nI t_1), .int (nI (kbits ke)), .int ((kFA (kgo D ce)) + ((nI (kg he t_1)) - (nI (kg he ce)))), .int (kFA (kgo D t_1)), .int (nI t_1), .ref 147]) (M1 := (mk_M c n m kk (rT (he, ke, ki, fi, fa, or, mi, a, g, l, w, s) xm xi xw im le nu rf ln nn vp xn (D.map kFA) vs))) (fun f => rfl) ?_
          refine me_call (y := 151) (y0 := 193) (L := [some (.int (nI (kbits ke))), some (.int (nI t_1))]) (rest := [.int ((kFA (kgo D ce)) + ((nI (kg he t_1)) - (nI (kg he ce)))), .int (kFA (kgo D t_1)), .int (nI t_1), .ref 147]) (rr := some (.int (nI (kg ke t_1)))) (M1 := (mk_M c n m kk (rT (he, ke, ki, fi, fa, or, mi, a, g, l, w, s) xm xi xw im le nu rf ln nn vp xn (D.map kFA) vs))) (fun f => rfl) (rc_has ke t_1 (by omega) v2 v13 _) ?_
          refine me_ifN (C := (nI (kg ke t_1)) = 0) (nI_eqi (a := kg ke t_1) (b := 0) (by omega)) (fun f => rfl) (fun h5 => ?_) (fun h5 => ?_)
          · refine me_seg 2 (pc1 := 202) (ls1 := [some (.ref 138), some (.int (nI p)), some (.int 1), some (.int (nI k1)), some (.int (nI ce)), some (.int (nI j)), some (.int (nI t_1)), some (.int ((nI (kg he t_1)) - (nI (kg he ce))))]) (st1 := [.int (((kFA (kgo D ce)) + ((nI (kg he t_1)) - (nI (kg he ce)))) + (0 : Int32)), .int (kFA (kgo D t_1)), .int (nI t_1), .ref 147]) (M1 := (mk_M c n m kk (rT (he, ke, ki, fi, fa, or, mi, a, g, l, w, s) xm xi xw im le nu rf ln nn vp xn (D.map kFA) vs))) (fun f => rfl) ?_
            refine me_call (y := 154) (y0 := 205) (L := [some (.int (kFA (kgo D t_1))), some (.int (((kFA (kgo D ce)) + ((nI (kg he t_1)) - (nI (kg he ce)))) + (0 : Int32)))]) (rest := [.int (nI t_1), .ref 147]) (rr := some (.int (if (kFA (kgo D t_1)) < (((kFA (kgo D ce)) + ((nI (kg he t_1)) - (nI (kg he ce)))) + (0 : Int32)) then (kFA (kgo D t_1)) else (((kFA (kgo D ce)) + ((nI (kg he t_1)) - (nI (kg he ce)))) + (0 : Int32))))) (M1 := (mk_M c n m kk (rT (he, ke, ki, fi, fa, or, mi, a, g, l, w, s) xm xi xw im le nu rf ln nn vp xn (D.map kFA) vs))) (fun f => rfl) (wm_least (kFA (kgo D t_1)) (((kFA (kgo D ce)) + ((nI (kg he t_1)) - (nI (kg he ce)))) + (0 : Int32)) _) ?_
            refine me_stn (xs := (D.map kFA)) (ys := ((krl D ce t_1 (kx he ke 2 ce t_1)).map kFA)) (M2 := (mk_M c n m kk (rT (he, ke, ki, fi, fa, or, mi, a, g, l, w, s) xm xi xw im le nu rf ln nn vp xn ((krl D ce t_1 (kx he ke 2 ce t_1)).map kFA) vs))) rfl rfl (k := t_1) (by omega) (by rw [List.length_map]; omega) (krl_F (by omega) (kFA_le (r := kg he t_1 - kg he ce) (q := 2 * kg ke t_1) h2 (hbd ce) (hbd t_1) (by omega) (by have := v13 t_1; omega) (by omega) (pk_sub (a := kg he t_1) (b := kg he ce) (by omega)) (by rw [show 2 * kg ke t_1 = 0 by have := v13 t_1; omega]; rfl))) rfl ?_
            refine me_seg 1 (pc1 := 209) (ls1 := [some (.ref 138), some (.int (nI p)), some (.int 1), some (.int (nI k1)), some (.int (nI ce)), some (.int ((nI j) + 1)), some (.int (nI t_1)), some (.int ((nI (kg he t_1)) - (nI (kg he ce))))]) (st1 := []) (M1 := (mk_M c n m kk (rT (he, ke, ki, fi, fa, or, mi, a, g, l, w, s) xm xi xw im le nu rf ln nn vp xn ((krl D ce t_1 (kx he ke 2 ce t_1)).map kFA) vs))) (fun f => rfl) ?_
            refine me_l (fun q_ => [some (.ref 138), some (.int (nI p)), some (.int 1), some (.int (nI k1)), some (.int (nI ce)), some (.int q_), some (.int (nI t_1)), some (.int ((nI (kg he t_1)) - (nI (kg he ce))))]) (nI_add j 1) ?_
            refine me_seg 1 (pc1 := 86) (ls1 := [some (.ref 138), some (.int (nI p)), some (.int 1), some (.int (nI k1)), some (.int (nI ce)), some (.int (nI (j + 1))), some (.int (nI t_1)), some (.int ((nI (kg he t_1)) - (nI (kg he ce))))]) (st1 := []) (M1 := (mk_M c n m kk (rT (he, ke, ki, fi, fa, or, mi, a, g, l, w, s) xm xi xw im le nu rf ln nn vp xn ((krl D ce t_1 (kx he ke 2 ce t_1)).map kFA) vs))) (fun f => rfl) ?_
            exact IH (j + 1) (T + 11) (some (.int (nI t_1))) (some (.int ((nI (kg he t_1)) - (nI (kg he ce))))) xm xw vp xn (krl D ce t_1 (kx he ke 2 ce t_1)) vs (by omega) ⟨hR.1, hR.2.1, hR.2.2.1, (by rw [List.length_map, krl_len]; omega)⟩ (by rw [krl_len]; exact hD) (by rw [g0, kstw_s hb_1]) (kbd_rl (by omega) (by unfold kx; omega) hbd) (by omega)
          · refine me_seg 3 (pc1 := 202) (ls1 := [some (.ref 138), some (.int (nI p)), some (.int 1), some (.int (nI k1)), some (.int (nI ce)), some (.int (nI j)), some (.int (nI t_1)), some (.int ((nI (kg he t_1)) - (nI (kg he ce))))]) (st1 := [.int (((kFA (kgo D ce)) + ((nI (kg he t_1)) - (nI (kg he ce)))) + (2 : Int32)), .int (kFA (kgo D t_1)), .int (nI t_1), .ref 147]) (M1 := (mk_M c n m kk (rT (he, ke, ki, fi, fa, or, mi, a, g, l, w, s) xm xi xw im le nu rf ln nn vp xn (D.map kFA) vs))) (fun f => rfl) ?_
            refine me_call (y := 154) (y0 := 205) (L := [some (.int (kFA (kgo D t_1))), some (.int (((kFA (kgo D ce)) + ((nI (kg he t_1)) - (nI (kg he ce)))) + (2 : Int32)))]) (rest := [.int (nI t_1), .ref 147]) (rr := some (.int (if (kFA (kgo D t_1)) < (((kFA (kgo D ce)) + ((nI (kg he t_1)) - (nI (kg he ce)))) + (2 : Int32)) then (kFA (kgo D t_1)) else (((kFA (kgo D ce)) + ((nI (kg he t_1)) - (nI (kg he ce)))) + (2 : Int32))))) (M1 := (mk_M c n m kk (rT (he, ke, ki, fi, fa, or, mi, a, g, l, w, s) xm xi xw im le nu rf ln nn vp xn (D.map kFA) vs))) (fun f => rfl) (wm_least (kFA (kgo D t_1)) (((kFA (kgo D ce)) + ((nI (kg he t_1)) - (nI (kg he ce)))) + (2 : Int32)) _) ?_
            refine me_stn (xs := (D.map kFA)) (ys := ((krl D ce t_1 (kx he ke 2 ce t_1)).map kFA)) (M2 := (mk_M c n m kk (rT (he, ke, ki, fi, fa, or, mi, a, g, l, w, s) xm xi xw im le nu rf ln nn vp xn ((krl D ce t_1 (kx he ke 2 ce t_1)).map kFA) vs))) rfl rfl (k := t_1) (by omega) (by rw [List.length_map]; omega) (krl_F (by omega) (kFA_le (r := kg he t_1 - kg he ce) (q := 2 * kg ke t_1) h2 (hbd ce) (hbd t_1) (by omega) (by have := v13 t_1; omega) (by omega) (pk_sub (a := kg he t_1) (b := kg he ce) (by omega)) (by rw [show 2 * kg ke t_1 = 2 by have := v13 t_1; omega]; rfl))) rfl ?_
            refine me_seg 1 (pc1 := 209) (ls1 := [some (.ref 138), some (.int (nI p)), some (.int 1), some (.int (nI k1)), some (.int (nI ce)), some (.int ((nI j) + 1)), some (.int (nI t_1)), some (.int ((nI (kg he t_1)) - (nI (kg he ce))))]) (st1 := []) (M1 := (mk_M c n m kk (rT (he, ke, ki, fi, fa, or, mi, a, g, l, w, s) xm xi xw im le nu rf ln nn vp xn ((krl D ce t_1 (kx he ke 2 ce t_1)).map kFA) vs))) (fun f => rfl) ?_
            refine me_l (fun q_ => [some (.ref 138), some (.int (nI p)), some (.int 1), some (.int (nI k1)), some (.int (nI ce)), some (.int q_), some (.int (nI t_1)), some (.int ((nI (kg he t_1)) - (nI (kg he ce))))]) (nI_add j 1) ?_
            refine me_seg 1 (pc1 := 86) (ls1 := [some (.ref 138), some (.int (nI p)), some (.int 1), some (.int (nI k1)), some (.int (nI ce)), some (.int (nI (j + 1))), some (.int (nI t_1)), some (.int ((nI (kg he t_1)) - (nI (kg he ce))))]) (st1 := []) (M1 := (mk_M c n m kk (rT (he, ke, ki, fi, fa, or, mi, a, g, l, w, s) xm xi xw im le nu rf ln nn vp xn ((krl D ce t_1 (kx he ke 2 ce t_1)).map kFA) vs))) (fun f => rfl) ?_
            exact IH (j + 1) (T + 11) (some (.int (nI t_1))) (some (.int ((nI (kg he t_1)) - (nI (kg he ce))))) xm xw vp xn (krl D ce t_1 (kx he ke 2 ce t_1)) vs (by omega) ⟨hR.1, hR.2.1, hR.2.2.1, (by rw [List.length_map, krl_len]; omega)⟩ (by rw [krl_len]; exact hD) (by rw [g0, kstw_s hb_1]) (kbd_rl (by omega) (by unfold kx; omega) hbd) (by omega)
      · refine me_seg 2 (pc1 := 209) (ls1 := [some (.ref 138), some (.int (nI p)), some (.int 1), some (.int (nI k1)), some (.int (nI ce)), some (.int ((nI j) + 1)), some (.int (nI t_1)), lo7]) (st1 := []) (M1 := (mk_M c n m kk (rT (he, ke, ki, fi, fa, or, mi, a, g, l, w, s) xm xi xw im le nu rf ln nn vp xn (D.map kFA) vs))) (fun f => rfl) ?_
        refine me_l (fun q_ => [some (.ref 138), some (.int (nI p)), some (.int 1), some (.int (nI k1)), some (.int (nI ce)), some (.int q_), some (.int (nI t_1)), lo7]) (nI_add j 1) ?_
        refine me_seg 1 (pc1 := 86) (ls1 := [some (.ref 138), some (.int (nI p)), some (.int 1), some (.int (nI k1)), some (.int (nI ce)), some (.int (nI (j + 1))), some (.int (nI t_1)), lo7]) (st1 := []) (M1 := (mk_M c n m kk (rT (he, ke, ki, fi, fa, or, mi, a, g, l, w, s) xm xi xw im le nu rf ln nn vp xn (D.map kFA) vs))) (fun f => rfl) ?_
        exact IH (j + 1) T (some (.int (nI t_1))) (lo7) xm xw vp xn D vs (by omega) ⟨hR.1, hR.2.1, hR.2.2.1, (by rw [List.length_map]; omega)⟩ hD (by rw [g0, kstw_s hb_1, krl_n (k_none h2)]) hbd (by omega)
set_option maxRecDepth 100000 in
theorem tm_c1 (he ke ki fi fa or : List Nat) (mi a g l w s : Nat) (xi : List Int32) (im : Nat) (le nu rf : List Nat) (ln nn : Nat) (c : cC) (n m kk : kG) (hA : iA (he, ke, ki, fi, fa, or, mi, a, g, l, w, s)) (hC : iC nu nn) (p : Nat) (hp : p < 25) (A : Nat) (E2 : kD) (hE2 : kgo E2 p = some A) (G : kD) (k1 M0 : Nat) (hM0 : M0 < 700000) (HO : ∀ (lo4 lo5 lo6 lo7 : Option Value) (xm xw : List Int32) (vp : Int32) (xn : List Int32) (D : kD) (vs : Int32), iR xm xw xn (D.map kFA) → D.length = 25 → D = G → kbd D M0 → mm_E 178 67 [some (.ref 138), some (.int (nI p)), some (.int 1), some (.int (nI (k1 + 1))), lo4, lo5, lo6, lo7] [] (mk_M c n m kk (rT (he, ke, ki, fi, fa, or, mi, a, g, l, w, s) xm xi xw im le nu rf ln nn vp xn (D.map kFA) vs)) (pM (fun r => r = some (.int (nI A))) (he, ke, ki, fi, fa, or, mi, a, g, l, w, s) xi im le nu rf ln nn c n m kk)) (k : Nat) : ∀ (j T : Nat) (lo5 lo6 lo7 : Option Value) (xm xw : List Int32) (vp : Int32) (xn : List Int32) (D : kD) (vs : Int32), j + k = 25 → iR xm xw xn (D.map kFA) → D.length = 25 → G = kswe he ke 2 k j D → kbd D T → T + 44 * k ≤ M0 → mm_E 178 76 [some (.ref 138), some (.int (nI p)), some (.int 1), some (.int (nI k1)), some (.int (nI j)), lo5, lo6, lo7] [] (mk_M c n m kk (rT (he, ke, ki, fi, fa, or, mi, a, g, l, w, s) xm xi xw im le nu rf ln nn vp xn (D.map kFA) vs)) (pM (fun r => r = some (.int (nI A))) (he, ke, ki, fi, fa, or, mi, a, g, l, w, s) xi im le nu rf ln nn c n m kk) := by
  obtain ⟨hV, hst⟩ := id hA
  have hst2 : s ≤ 999 := hst
  obtain ⟨v1, v2, v3, v4, v5, v6, v7, v8, v9, v10, v11, v12, v13, v14, v15, v16⟩ := id hV
  have v6l := kO_len mi v7 or v6
  obtain ⟨c1, c2, c3⟩ := id hC
  induction k with
  | zero =>
    intro j T lo5 lo6 lo7 xm xw vp xn D vs hj hR hD g0 hbd hT
    refine me_seg 2 (pc1 := 80) (ls1 := [some (.ref 138), some (.int (nI p)), some (.int 1), some (.int (nI k1)), some (.int (nI j)), lo5, lo6, lo7]) (st1 := [.int 25, .int (nI j)]) (M1 := (mk_M c n m kk (rT (he, ke, ki, fi, fa, or, mi, a, g, l, w, s) xm xi xw im le nu rf ln nn vp xn (D.map kFA) vs))) (fun f => rfl) ?_
    refine me_t (C := 25 ≤ (nI j)) (nI_let (a := 25) (b := j) (by omega)) (fun f => rfl) ?_
    refine me_seg 1 (pc1 := 221) (ls1 := [some (.ref 138), some (.int (nI p)), some (.int 1), some (.int ((nI k1) + 1)), some (.int (nI j)), lo5, lo6, lo7]) (st1 := []) (M1 := (mk_M c n m kk (rT (he, ke, ki, fi, fa, or, mi, a, g, l, w, s) xm xi xw im le nu rf ln nn vp xn (D.map kFA) vs))) (fun f => rfl) ?_
    refine me_l (fun q_ => [some (.ref 138), some (.int (nI p)), some (.int 1), some (.int q_), some (.int (nI j)), lo5, lo6, lo7]) (nI_add k1 1) ?_
    refine me_seg 1 (pc1 := 67) (ls1 := [some (.ref 138), some (.int (nI p)), some (.int 1), some (.int (nI (k1 + 1))), some (.int (nI j)), lo5, lo6, lo7]) (st1 := []) (M1 := (mk_M c n m kk (rT (he, ke, ki, fi, fa, or, mi, a, g, l, w, s) xm xi xw im le nu rf ln nn vp xn (D.map kFA) vs))) (fun f => rfl) ?_
    exact HO (some (.int (nI j))) (lo5) (lo6) (lo7) xm xw vp xn D vs ⟨hR.1, hR.2.1, hR.2.2.1, (by rw [List.length_map]; omega)⟩ hD g0.symm (kbd_mono (by omega) hbd)
  | succ k IH =>
    intro j T lo5 lo6 lo7 xm xw vp xn D vs hj hR hD g0 hbd hT
    refine me_seg 2 (pc1 := 80) (ls1 := [some (.ref 138), some (.int (nI p)), some (.int 1), some (.int (nI k1)), some (.int (nI j)), lo5, lo6, lo7]) (st1 := [.int 25, .int (nI j)]) (M1 := (mk_M c n m kk (rT (he, ke, ki, fi, fa, or, mi, a, g, l, w, s) xm xi xw im le nu rf ln nn vp xn (D.map kFA) vs))) (fun f => rfl) ?_
    refine me_f (C := 25 ≤ (nI j)) (nI_lef (a := 25) (b := j) (by omega)) (fun f => rfl) ?_
    refine me_seg 2 (pc1 := 86) (ls1 := [some (.ref 138), some (.int (nI p)), some (.int 1), some (.int (nI k1)), some (.int (nI j)), some (.int 0), lo6, lo7]) (st1 := []) (M1 := (mk_M c n m kk (rT (he, ke, ki, fi, fa, or, mi, a, g, l, w, s) xm xi xw im le nu rf ln nn vp xn (D.map kFA) vs))) (fun f => rfl) ?_
    refine tm_w1 he ke ki fi fa or mi a g l w s xi im le nu rf ln nn c n m kk hA hC p hp A E2 hE2 (kstw he ke 2 j 4 0 D) k1 j (T + 44) (by omega) (by omega) ?_ 4 0 T (lo6) (lo7) xm xw vp xn D vs (by omega) ⟨hR.1, hR.2.1, hR.2.2.1, (by rw [List.length_map]; omega)⟩ hD rfl hbd (by omega)
    intro lo5 lo6 lo7 xm xw vp xn D2 vs hR hD2 hG hbd2
    exact IH (j + 1) (T + 44) lo5 lo6 lo7 xm xw vp xn D2 vs (by omega) hR hD2 (by rw [g0, hG]; rfl) hbd2 (by omega)
set_option maxRecDepth 100000 in
theorem tm_r1 (he ke ki fi fa or : List Nat) (mi a g l w s : Nat) (xi : List Int32) (im : Nat) (le nu rf : List Nat) (ln nn : Nat) (c : cC) (n m kk : kG) (hA : iA (he, ke, ki, fi, fa, or, mi, a, g, l, w, s)) (hC : iC nu nn) (p : Nat) (hp : p < 25) (A : Nat) (E2 : kD) (hE2 : kgo E2 p = some A) (k : Nat) : ∀ (j T : Nat) (lo4 lo5 lo6 lo7 : Option Value) (xm xw : List Int32) (vp : Int32) (xn : List Int32) (D : kD) (vs : Int32), j + k = 25 → iR xm xw xn (D.map kFA) → D.length = 25 → E2 = kitr he ke 2 k D → kbd D T → T + 1100 * k ≤ 600000 → mm_E 178 67 [some (.ref 138), some (.int (nI p)), some (.int 1), some (.int (nI j)), lo4, lo5, lo6, lo7] [] (mk_M c n m kk (rT (he, ke, ki, fi, fa, or, mi, a, g, l, w, s) xm xi xw im le nu rf ln nn vp xn (D.map kFA) vs)) (pM (fun r => r = some (.int (nI A))) (he, ke, ki, fi, fa, or, mi, a, g, l, w, s) xi im le nu rf ln nn c n m kk) := by
  obtain ⟨hV, hst⟩ := id hA
  have hst2 : s ≤ 999 := hst
  obtain ⟨v1, v2, v3, v4, v5, v6, v7, v8, v9, v10, v11, v12, v13, v14, v15, v16⟩ := id hV
  have v6l := kO_len mi v7 or v6
  obtain ⟨c1, c2, c3⟩ := id hC
  induction k with
  | zero =>
    intro j T lo4 lo5 lo6 lo7 xm xw vp xn D vs hj hR hD g0 hbd hT
    refine me_seg 2 (pc1 := 70) (ls1 := [some (.ref 138), some (.int (nI p)), some (.int 1), some (.int (nI j)), lo4, lo5, lo6, lo7]) (st1 := [.int 25, .int (nI j)]) (M1 := (mk_M c n m kk (rT (he, ke, ki, fi, fa, or, mi, a, g, l, w, s) xm xi xw im le nu rf ln nn vp xn (D.map kFA) vs))) (fun f => rfl) ?_
    refine me_t (C := 25 ≤ (nI j)) (nI_let (a := 25) (b := j) (by omega)) (fun f => rfl) ?_
    refine me_seg 3 (pc1 := 229) (ls1 := [some (.ref 138), some (.int (nI p)), some (.int 1), some (.int (nI j)), lo4, lo5, lo6, lo7]) (st1 := [.int (nI p), .ref 147]) (M1 := (mk_M c n m kk (rT (he, ke, ki, fi, fa, or, mi, a, g, l, w, s) xm xi xw im le nu rf ln nn vp xn (D.map kFA) vs))) (fun f => rfl) ?_
    refine me_ldn (xs := (D.map kFA)) rfl rfl (k := p) (by omega) (kgo_m kFA (by omega)) ?_
    refine me_ret 1 (r := some (.int (kFA (kgo D p)))) (M1 := (mk_M c n m kk (rT (he, ke, ki, fi, fa, or, mi, a, g, l, w, s) xm xi xw im le nu rf ln nn vp xn (D.map kFA) vs))) (fun f => rfl) ?_
    exact ⟨(by rw [show kgo D p = some A by rw [← hE2, g0]; rfl]; rfl), _, _, _, _, _, _, rfl, hR⟩
  | succ k IH =>
    intro j T lo4 lo5 lo6 lo7 xm xw vp xn D vs hj hR hD g0 hbd hT
    refine me_seg 2 (pc1 := 70) (ls1 := [some (.ref 138), some (.int (nI p)), some (.int 1), some (.int (nI j)), lo4, lo5, lo6, lo7]) (st1 := [.int 25, .int (nI j)]) (M1 := (mk_M c n m kk (rT (he, ke, ki, fi, fa, or, mi, a, g, l, w, s) xm xi xw im le nu rf ln nn vp xn (D.map kFA) vs))) (fun f => rfl) ?_
    refine me_f (C := 25 ≤ (nI j)) (nI_lef (a := 25) (b := j) (by omega)) (fun f => rfl) ?_
    refine me_seg 2 (pc1 := 76) (ls1 := [some (.ref 138), some (.int (nI p)), some (.int 1), some (.int (nI j)), some (.int 0), lo5, lo6, lo7]) (st1 := []) (M1 := (mk_M c n m kk (rT (he, ke, ki, fi, fa, or, mi, a, g, l, w, s) xm xi xw im le nu rf ln nn vp xn (D.map kFA) vs))) (fun f => rfl) ?_
    refine tm_c1 he ke ki fi fa or mi a g l w s xi im le nu rf ln nn c n m kk hA hC p hp A E2 hE2 (kswe he ke 2 25 0 D) j (T + 1100) (by omega) ?_ 25 0 T (lo5) (lo6) (lo7) xm xw vp xn D vs (by omega) ⟨hR.1, hR.2.1, hR.2.2.1, (by rw [List.length_map]; omega)⟩ hD rfl hbd (by omega)
    intro lo4 lo5 lo6 lo7 xm xw vp xn D2 vs hR hD2 hG hbd2
    exact IH (j + 1) (T + 1100) lo4 lo5 lo6 lo7 xm xw vp xn D2 vs (by omega) hR hD2 (by rw [g0, hG]; rfl) hbd2 (by omega)
set_option maxRecDepth 100000 in
theorem tm_in1 (he ke ki fi fa or : List Nat) (mi a g l w s : Nat) (xi : List Int32) (im : Nat) (le nu rf : List Nat) (ln nn : Nat) (c : cC) (n m kk : kG) (hA : iA (he, ke, ki, fi, fa, or, mi, a, g, l, w, s)) (hC : iC nu nn) (p : Nat) (hp : p < 25) (A : Nat) (hE2 : kgo (kitr he ke 2 25 (kD0 a)) p = some A) (k : Nat) : ∀ (j : Nat) (lo4 lo5 lo6 lo7 : Option Value) (xm xw : List Int32) (vp : Int32) (xn xc : List Int32) (vs : Int32), j + k = 25 → iR xm xw xn xc → (∀ i, i < j → xc[i]? = some (kFA (kgo (kD0 a) i))) → mm_E 178 31 [some (.ref 138), some (.int (nI p)), some (.int 1), some (.int (nI j)), lo4, lo5, lo6, lo7] [] (mk_M c n m kk (rT (he, ke, ki, fi, fa, or, mi, a, g, l, w, s) xm xi xw im le nu rf ln nn vp xn xc vs)) (pM (fun r => r = some (.int (nI A))) (he, ke, ki, fi, fa, or, mi, a, g, l, w, s) xi im le nu rf ln nn c n m kk) := by
  obtain ⟨hV, hst⟩ := id hA
  have hst2 : s ≤ 999 := hst
  obtain ⟨v1, v2, v3, v4, v5, v6, v7, v8, v9, v10, v11, v12, v13, v14, v15, v16⟩ := id hV
  have v6l := kO_len mi v7 or v6
  obtain ⟨c1, c2, c3⟩ := id hC
  induction k with
  | zero =>
    intro j lo4 lo5 lo6 lo7 xm xw vp xn xc vs hj hR g0
    obtain ⟨r1, r2, r3, r4⟩ := id hR
    refine me_seg 2 (pc1 := 34) (ls1 := [some (.ref 138), some (.int (nI p)), some (.int 1), some (.int (nI j)), lo4, lo5, lo6, lo7]) (st1 := [.int 25, .int (nI j)]) (M1 := (mk_M c n m kk (rT (he, ke, ki, fi, fa, or, mi, a, g, l, w, s) xm xi xw im le nu rf ln nn vp xn xc vs))) (fun f => rfl) ?_
    refine me_t (C := 25 ≤ (nI j)) (nI_let (a := 25) (b := j) (by omega)) (fun f => rfl) ?_
    refine me_seg 2 (pc1 := 67) (ls1 := [some (.ref 138), some (.int (nI p)), some (.int 1), some (.int 0), lo4, lo5, lo6, lo7]) (st1 := []) (M1 := (mk_M c n m kk (rT (he, ke, ki, fi, fa, or, mi, a, g, l, w, s) xm xi xw im le nu rf ln nn vp xn xc vs))) (fun f => rfl) ?_
    have ey : xc = (kD0 a).map kFA := kgo_ext (by assumption) (kD0_len a) (fun i hi => g0 i (by omega))
    subst ey
    exact tm_r1 he ke ki fi fa or mi a g l w s xi im le nu rf ln nn c n m kk hA hC p hp A (kitr he ke 2 25 (kD0 a)) hE2 25 0 0 lo4 lo5 lo6 lo7 xm xw vp xn (kD0 a) vs (by omega) hR (kD0_len a) rfl (kD0_bd a) (by omega)
  | succ k IH =>
    intro j lo4 lo5 lo6 lo7 xm xw vp xn xc vs hj hR g0
    obtain ⟨r1, r2, r3, r4⟩ := id hR
    refine me_seg 2 (pc1 := 34) (ls1 := [some (.ref 138), some (.int (nI p)), some (.int 1), some (.int (nI j)), lo4, lo5, lo6, lo7]) (st1 := [.int 25, .int (nI j)]) (M1 := (mk_M c n m kk (rT (he, ke, ki, fi, fa, or, mi, a, g, l, w, s) xm xi xw im le nu rf ln nn vp xn xc vs))) (fun f => rfl) ?_
    refine me_f (C := 25 ≤ (nI j)) (nI_lef (a := 25) (b := j) (by omega)) (fun f => rfl) ?_
    refine me_seg 7 (pc1 := 48) (ls1 := [some (.ref 138), some (.int (nI p)), some (.int 1), some (.int (nI j)), lo4, lo5, lo6, lo7]) (st1 := [.int 2, .ref 139, .int (nI j), .int (nI j), .ref 147]) (M1 := (mk_M c n m kk (rT (he, ke, ki, fi, fa, or, mi, a, g, l, w, s) xm xi xw im le nu rf ln nn vp xn xc vs))) (fun f => rfl) ?_
    refine me_ldn (xs := (er (he, ke, ki, fi, fa, or, mi, a, g, l, w, s))) rfl rfl (k := 2) (by decide) rfl ?_
    refine me_ifN (C := (nI j) = (nI a)) (nI_eqi (a := j) (b := a) (by omega)) (fun f => rfl) (fun h1 => ?_) (fun h1 => ?_)
    · refine me_seg 2 (pc1 := 58) (ls1 := [some (.ref 138), some (.int (nI p)), some (.int 1), some (.int (nI j)), lo4, lo5, lo6, lo7]) (st1 := [.int 0, .int (nI j), .ref 147]) (M1 := (mk_M c n m kk (rT (he, ke, ki, fi, fa, or, mi, a, g, l, w, s) xm xi xw im le nu rf ln nn vp xn xc vs))) (fun f => rfl) ?_
      refine me_stn (xs := xc) (ys := (xc.set j 0)) (M2 := (mk_M c n m kk (rT (he, ke, ki, fi, fa, or, mi, a, g, l, w, s) xm xi xw im le nu rf ln nn vp xn (xc.set j 0) vs))) rfl rfl (k := j) (by omega) (by first | omega | (simp only [List.length_set]; omega)) rfl rfl ?_
      refine me_seg 1 (pc1 := 62) (ls1 := [some (.ref 138), some (.int (nI p)), some (.int 1), some (.int ((nI j) + 1)), lo4, lo5, lo6, lo7]) (st1 := []) (M1 := (mk_M c n m kk (rT (he, ke, ki, fi, fa, or, mi, a, g, l, w, s) xm xi xw im le nu rf ln nn vp xn (xc.set j 0) vs))) (fun f => rfl) ?_
      refine me_l (fun q_ => [some (.ref 138), some (.int (nI p)), some (.int 1), some (.int q_), lo4, lo5, lo6, lo7]) (nI_add j 1) ?_
      refine me_seg 1 (pc1 := 31) (ls1 := [some (.ref 138), some (.int (nI p)), some (.int 1), some (.int (nI (j + 1))), lo4, lo5, lo6, lo7]) (st1 := []) (M1 := (mk_M c n m kk (rT (he, ke, ki, fi, fa, or, mi, a, g, l, w, s) xm xi xw im le nu rf ln nn vp xn (xc.set j 0) vs))) (fun f => rfl) ?_
      refine IH (j + 1) lo4 lo5 lo6 lo7 xm xw vp xn (xc.set j 0) vs (by omega) ⟨(by assumption), (by assumption), (by assumption), (by simp only [List.length_set]; assumption)⟩ (fun i hi => ?_)
      rw [List.getElem?_set]
      by_cases e : j = i
      · subst e
        rw [if_pos rfl, if_pos (by omega)]
        rw [h1, kD0_at v8]; rfl
      · rw [if_neg e]
        exact g0 i (by omega)
    · refine me_seg 1 (pc1 := 58) (ls1 := [some (.ref 138), some (.int (nI p)), some (.int 1), some (.int (nI j)), lo4, lo5, lo6, lo7]) (st1 := [.int 1000000000, .int (nI j), .ref 147]) (M1 := (mk_M c n m kk (rT (he, ke, ki, fi, fa, or, mi, a, g, l, w, s) xm xi xw im le nu rf ln nn vp xn xc vs))) (fun f => rfl) ?_
      refine me_stn (xs := xc) (ys := (xc.set j 1000000000)) (M2 := (mk_M c n m kk (rT (he, ke, ki, fi, fa, or, mi, a, g, l, w, s) xm xi xw im le nu rf ln nn vp xn (xc.set j 1000000000) vs))) rfl rfl (k := j) (by omega) (by first | omega | (simp only [List.length_set]; omega)) rfl rfl ?_
      refine me_seg 1 (pc1 := 62) (ls1 := [some (.ref 138), some (.int (nI p)), some (.int 1), some (.int ((nI j) + 1)), lo4, lo5, lo6, lo7]) (st1 := []) (M1 := (mk_M c n m kk (rT (he, ke, ki, fi, fa, or, mi, a, g, l, w, s) xm xi xw im le nu rf ln nn vp xn (xc.set j 1000000000) vs))) (fun f => rfl) ?_
      refine me_l (fun q_ => [some (.ref 138), some (.int (nI p)), some (.int 1), some (.int q_), lo4, lo5, lo6, lo7]) (nI_add j 1) ?_
      refine me_seg 1 (pc1 := 31) (ls1 := [some (.ref 138), some (.int (nI p)), some (.int 1), some (.int (nI (j + 1))), lo4, lo5, lo6, lo7]) (st1 := []) (M1 := (mk_M c n m kk (rT (he, ke, ki, fi, fa, or, mi, a, g, l, w, s) xm xi xw im le nu rf ln nn vp xn (xc.set j 1000000000) vs))) (fun f => rfl) ?_
      refine IH (j + 1) lo4 lo5 lo6 lo7 xm xw vp xn (xc.set j 1000000000) vs (by omega) ⟨(by assumption), (by assumption), (by assumption), (by simp only [List.length_set]; assumption)⟩ (fun i hi => ?_)
      rw [List.getElem?_set]
      by_cases e : j = i
      · subst e
        rw [if_pos rfl, if_pos (by omega)]
        rw [kD0_ne h1]; rfl
      · rw [if_neg e]
        exact g0 i (by omega)
set_option maxRecDepth 100000 in
theorem tm_climb_1 (he ke ki fi fa or : List Nat) (mi a g l w s : Nat) (xi : List Int32) (im : Nat) (le nu rf : List Nat) (ln nn : Nat) (c : cC) (n m kk : kG) (hA : iA (he, ke, ki, fi, fa, or, mi, a, g, l, w, s)) (hC : iC nu nn) (xm xw : List Int32) (vp : Int32) (xn xc : List Int32) (vs : Int32) (hR : iR xm xw xn xc) (p : Nat) (hp : p < 25) (A : Nat) (hE2 : kgo (kitr he ke 2 25 (kD0 a)) p = some A) : mm_E 178 0 [some (.ref 138), some (.int (nI p)), some (.int 1), none, none, none, none, none] [] (mk_M c n m kk (rT (he, ke, ki, fi, fa, or, mi, a, g, l, w, s) xm xi xw im le nu rf ln nn vp xn xc vs)) (pM (fun r => r = some (.int (nI A))) (he, ke, ki, fi, fa, or, mi, a, g, l, w, s) xi im le nu rf ln nn c n m kk) := by
  obtain ⟨hV, hst⟩ := id hA
  have hst2 : s ≤ 999 := hst
  obtain ⟨v1, v2, v3, v4, v5, v6, v7, v8, v9, v10, v11, v12, v13, v14, v15, v16⟩ := id hV
  have v6l := kO_len mi v7 or v6
  obtain ⟨c1, c2, c3⟩ := id hC
  obtain ⟨r1, r2, r3, r4⟩ := id hR
  refine me_seg 1 (pc1 := 1) (ls1 := [some (.ref 138), some (.int (nI p)), some (.int 1), none, none, none, none, none]) (st1 := [.int (nI p)]) (M1 := (mk_M c n m kk (rT (he, ke, ki, fi, fa, or, mi, a, g, l, w, s) xm xi xw im le nu rf ln nn vp xn xc vs))) (fun f => rfl) ?_
  refine me_call (y := 140) (y0 := 4) (L := [some (.int (nI p))]) (rest := []) (rr := some (.int 1)) (M1 := (mk_M c n m kk (rT (he, ke, ki, fi, fa, or, mi, a, g, l, w, s) xm xi xw im le nu rf ln nn vp xn xc vs))) (fun f => rfl) (ms_c2_ok (x := (nI p)) (nI_ltf (a := p) (b := 0) (by omega)) (nI_ltf (a := 24) (b := p) (by omega))) ?_
  refine me_seg 4 (pc1 := 16) (ls1 := [some (.ref 138), some (.int (nI p)), some (.int 1), none, none, none, none, none]) (st1 := [.int 1, .int 0, .int 1]) (M1 := (mk_M c n m kk (rT (he, ke, ki, fi, fa, or, mi, a, g, l, w, s) xm xi xw im le nu rf ln nn vp xn xc vs))) (fun f => rfl) ?_
  refine me_call (y := 135) (y0 := 19) (L := [some (.int 1), some (.int 0), some (.int 1)]) (rest := []) (rr := some (.int 1)) (M1 := (mk_M c n m kk (rT (he, ke, ki, fi, fa, or, mi, a, g, l, w, s) xm xi xw im le nu rf ln nn vp xn xc vs))) (fun f => rfl) (by
      exact mr_ret 9 (fun f => rfl)) ?_
  refine me_seg 3 (pc1 := 31) (ls1 := [some (.ref 138), some (.int (nI p)), some (.int 1), some (.int 0), none, none, none, none]) (st1 := []) (M1 := (mk_M c n m kk (rT (he, ke, ki, fi, fa, or, mi, a, g, l, w, s) xm xi xw im le nu rf ln nn vp xn xc vs))) (fun f => rfl) ?_
  exact tm_in1 he ke ki fi fa or mi a g l w s xi im le nu rf ln nn c n m kk hA hC p hp A hE2 25 0 none none none none xm xw vp xn xc vs (by omega) ⟨(by assumption), (by assumption), (by assumption), (by assumption)⟩ (fun i hi => absurd hi (Nat.not_lt_zero i))
theorem ot_climb {M : mm_H} (hM : kInv M) (x : Int32) (y : Int32) : oI 86 178 [some (.ref 100), some (.int x), some (.int y), none, none] [some (.ref 138), some (.int x), some (.int y), none, none, none, none, none] M := by
  obtain ⟨K, m, kk, im, le, ln, ys, vt, nu, nn, rf, vw, vq, yc, yh, yg, xm, xi, xw, vp, xn, xc, vs, rfl, hA, hB, hC, hD, hJ, hR, hK⟩ := hM
  obtain ⟨he, ke, ki, fi, fa, or, mi, a, g, l, w, s⟩ := K
  have v7 : mi ≤ 5 := hA.1.2.2.2.2.2.2.1
  rcases k_cs x 25 0 24 rfl rfl with hx | hx | ⟨x_, hx_, rfl⟩
  · exact oe_climb_0 he ke ki fi fa or mi a g l w s m kk im le ln ys vt nu nn rf vw vq yc yh yg xm xi xw vp xn xc vs hA hB hC hD hJ hR hK x hx y
  · exact oe_climb_1 he ke ki fi fa or mi a g l w s m kk im le ln ys vt nu nn rf vw vq yc yh yg xm xi xw vp xn xc vs hA hB hC hD hJ hR hK x hx y
  · rcases k_cs y 2 0 1 rfl rfl with hy | hy | ⟨y_, hy_, rfl⟩
    · exact oe_climb_2 he ke ki fi fa or mi a g l w s m kk im le ln ys vt nu nn rf vw vq yc yh yg xm xi xw vp xn xc vs hA hB hC hD hJ hR hK x_ hx_ y hy
    · exact oe_climb_3 he ke ki fi fa or mi a g l w s m kk im le ln ys vt nu nn rf vw vq yc yh yg xm xi xw vp xn xc vs hA hB hC hD hJ hR hK x_ hx_ y hy
    · rcases (show y_ = 0 ∨ y_ = 1 by omega) with rfl | rfl
      · obtain ⟨A, hE2⟩ := kcl_some he ke 0 hA.1.2.2.2.2.2.2.2.1 hx_
        exact oI_of (nI A) hA hB hC hD hK (tc_climb_0 he ke ki fi fa or mi a g l w s im le ln ys vt nu nn rf kk _ hA hC vw vq yc yh yg m hJ x_ hx_ A hE2) (fun c n m kk => tm_climb_0 he ke ki fi fa or mi a g l w s xi im le nu rf ln nn c n m kk hA hC xm xw vp xn xc vs hR x_ hx_ A hE2)
      · obtain ⟨A, hE2⟩ := kcl_some he ke 2 hA.1.2.2.2.2.2.2.2.1 hx_
        exact oI_of (nI A) hA hB hC hD hK (tc_climb_1 he ke ki fi fa or mi a g l w s im le ln ys vt nu nn rf kk _ hA hC vw vq yc yh yg m hJ x_ hx_ A hE2) (fun c n m kk => tm_climb_1 he ke ki fi fa or mi a g l w s xi im le nu rf ln nn c n m kk hA hC xm xw vp xn xc vs hR x_ hx_ A hE2)
