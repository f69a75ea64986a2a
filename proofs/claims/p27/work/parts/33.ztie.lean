/-! ===== a call, tied ===== -/
theorem oI_of {K : kK} {m kk : kG} {im : Nat} {le : List Nat} {ln : Nat} {ys : List Int32} {vt : Int32} {nu : List Nat} {nn : Nat} {rf : List Nat} {vw vq : Int32} {yc yh yg xm xi xw : List Int32} {vp : Int32} {xn xc : List Int32} {vs : Int32} {nn2 : Nat} (V : Int32) (hA : iA K) (hB : iB le ln) (hC2 : iC nu nn2) (hD : iD rf) (hK : iK im kk xi) {zc zm : Nat} {lc lm : mm_L}
    (h1 : mm_E zc 0 lc [] (mk_M (cT im le ln ys vt nu nn rf vw vq yc yh yg) (kr K) m kk (rT K xm xi xw im le nu rf ln nn vp xn xc vs)) (pC (fun r => r = some (.int V)) K im le ln ys vt nu nn2 rf kk (rT K xm xi xw im le nu rf ln nn vp xn xc vs)))
    (h2 : ∀ (c : cC) (n m kk : kG), mm_E zm 0 lm [] (mk_M c n m kk (rT K xm xi xw im le nu rf ln nn vp xn xc vs)) (pM (fun r => r = some (.int V)) K xi im le nu rf ln nn2 c n m kk)) : oI zc zm lc lm (mk_M (cT im le ln ys vt nu nn rf vw vq yc yh yg) (kr K) m kk (rT K xm xi xw im le nu rf ln nn vp xn xc vs)) := by
  obtain ⟨_, _, r1, rfl, vw2, vq2, yc2, yh2, yg2, m2, rfl, hJ2⟩ := h1
  obtain ⟨_, _, r2, rfl, xm2, xw2, vp2, xn2, xc2, vs2, rfl, hR2⟩ := h2 (cT im le ln ys vt nu nn2 rf vw2 vq2 yc2 yh2 yg2) (kr K) m2 kk
  exact ⟨V, _, _, r1, r2, K, m2, kk, im, le, ln, ys, vt, nu, nn2, rf, vw2, vq2, yc2, yh2, yg2, xm2, xi, xw2, vp2, xn2, xc2, vs2, rfl, hA, hB, hC2, hD, hJ2, hR2, hK⟩
theorem oL_of {K : kK} {m kk : kG} {im : Nat} {le : List Nat} {ln : Nat} {ys : List Int32} {vt : Int32} {nu : List Nat} {nn : Nat} {rf : List Nat} {vw vq : Int32} {yc yh yg xm xi xw : List Int32} {vp : Int32} {xn xc : List Int32} {vs : Int32} (V : Int64) (hA : iA K) (hB : iB le ln) (hC2 : iC nu nn) (hD : iD rf) (hK : iK im kk xi) {zc zm : Nat} {lc lm : mm_L}
    (h1 : mm_E zc 0 lc [] (mk_M (cT im le ln ys vt nu nn rf vw vq yc yh yg) (kr K) m kk (rT K xm xi xw im le nu rf ln nn vp xn xc vs)) (pC (fun r => r = some (.long V)) K im le ln ys vt nu nn rf kk (rT K xm xi xw im le nu rf ln nn vp xn xc vs)))
    (h2 : ∀ (c : cC) (n m kk : kG), mm_E zm 0 lm [] (mk_M c n m kk (rT K xm xi xw im le nu rf ln nn vp xn xc vs)) (pM (fun r => r = some (.long V)) K xi im le nu rf ln nn c n m kk)) : oL zc zm lc lm (mk_M (cT im le ln ys vt nu nn rf vw vq yc yh yg) (kr K) m kk (rT K xm xi xw im le nu rf ln nn vp xn xc vs)) := by
  obtain ⟨_, _, r1, rfl, vw2, vq2, yc2, yh2, yg2, m2, rfl, hJ2⟩ := h1
  obtain ⟨_, _, r2, rfl, xm2, xw2, vp2, xn2, xc2, vs2, rfl, hR2⟩ := h2 (cT im le ln ys vt nu nn rf vw2 vq2 yc2 yh2 yg2) (kr K) m2 kk
  exact ⟨V, _, _, r1, r2, K, m2, kk, im, le, ln, ys, vt, nu, nn, rf, vw2, vq2, yc2, yh2, yg2, xm2, xi, xw2, vp2, xn2, xc2, vs2, rfl, hA, hB, hC2, hD, hJ2, hR2, hK⟩
def kap (x y : Nat) : Nat := if x < y then y - x else x - y
theorem k_abs : ∀ x, x < 5 → ∀ y, y < 5 → (if (0 : Int32) ≤ nI x - nI y then nI x - nI y else 0 - (nI x - nI y)) = nI (kap y x) := by decide +kernel
theorem kap_le {x y : Nat} (hx : x < 5) (hy : y < 5) : kap x y ≤ 4 := by
  unfold kap
  split <;> omega
def ktl (he : List Nat) : Nat → Nat → Nat → Nat
  | 0, _, b => b
  | r + 1, j, b => if kg he b < kg he j then ktl he r (j + 1) j else ktl he r (j + 1) b
theorem ktl_t {he : List Nat} {r j b : Nat} (h : kg he b < kg he j) : ktl he (r + 1) j b = ktl he r (j + 1) j := if_pos h
theorem ktl_f {he : List Nat} {r j b : Nat} (h : ¬ kg he b < kg he j) : ktl he (r + 1) j b = ktl he r (j + 1) b := if_neg h
def kinR (a g c : Nat) : Prop := (min (a / 5) (g / 5) ≤ c / 5 ∧ c / 5 ≤ max (a / 5) (g / 5)) ∧ min (a % 5) (g % 5) ≤ c % 5 ∧ c % 5 ≤ max (a % 5) (g % 5)
def kbw (P : Nat → Nat) : Nat → Nat → Nat → Nat
  | 0, _, f => f
  | r + 1, j, f => kbw P r (j + 1) (f + P j)
def krow (f : Nat → Nat) (y : Nat) : Nat → Nat → Nat → Nat
  | 0, _, v => v
  | r + 1, x, v => krow f y r (x + 1) (v + f (y * 5 + x))
def krect (f : Nat → Nat) (lf n : Nat) : Nat → Nat → Nat → Nat
  | 0, _, v => v
  | r + 1, y, v => krect f lf n r (y + 1) (krow f y n lf v)
theorem krow_a (f : Nat → Nat) (y : Nat) : ∀ (r x v : Nat), krow f y r x v = v + krow f y r x 0
  | 0, _, _ => rfl
  | r + 1, x, v => by
    show krow f y r (x + 1) (v + f (y * 5 + x)) = v + krow f y r (x + 1) (0 + f (y * 5 + x))
    rw [krow_a f y r (x + 1) (v + f (y * 5 + x)), krow_a f y r (x + 1) (0 + f (y * 5 + x))]
    omega
theorem krow_le {f : Nat → Nat} (hf : ∀ i, f i ≤ 1) (y : Nat) : ∀ (r x v : Nat), krow f y r x v ≤ v + r
  | 0, _, _ => Nat.le_refl _
  | r + 1, x, v => by
    have h1 := krow_le hf y r (x + 1) (v + f (y * 5 + x))
    have h2 := hf (y * 5 + x)
    show krow f y r (x + 1) (v + f (y * 5 + x)) ≤ v + (r + 1)
    omega
def ki1 (b : Bool) (v : Nat) : Nat := cond b v 0
theorem ki1_t {b : Bool} {v : Nat} (h : b = true) : ki1 b v = v := by rw [h]; rfl
theorem ki1_f {b : Bool} {v : Nat} (h : b = false) : ki1 b v = 0 := by rw [h]; rfl
def kbr (t b y : Nat) : Bool := decide (t ≤ y ∧ y ≤ b)
theorem krow_s (f : Nat → Nat) (y : Nat) {l r : Nat} (hr : r < 5) (hl : l ≤ r) : krow f y (r + 1 - l) l 0 = ki1 (kbr l r 0) (f (y * 5 + 0)) + ki1 (kbr l r 1) (f (y * 5 + 1)) + ki1 (kbr l r 2) (f (y * 5 + 2)) + ki1 (kbr l r 3) (f (y * 5 + 3)) + ki1 (kbr l r 4) (f (y * 5 + 4)) := by
  match r, l, hr, hl with
  | 0, 0, _, _ => show 0 + f (y * 5 + 0) = f (y * 5 + 0) + 0 + 0 + 0 + 0; omega
  | 1, 0, _, _ => show 0 + f (y * 5 + 0) + f (y * 5 + 1) = f (y * 5 + 0) + f (y * 5 + 1) + 0 + 0 + 0; omega
  | 1, 1, _, _ => show 0 + f (y * 5 + 1) = 0 + f (y * 5 + 1) + 0 + 0 + 0; omega
  | 2, 0, _, _ => show 0 + f (y * 5 + 0) + f (y * 5 + 1) + f (y * 5 + 2) = f (y * 5 + 0) + f (y * 5 + 1) + f (y * 5 + 2) + 0 + 0; omega
  | 2, 1, _, _ => show 0 + f (y * 5 + 1) + f (y * 5 + 2) = 0 + f (y * 5 + 1) + f (y * 5 + 2) + 0 + 0; omega
  | 2, 2, _, _ => show 0 + f (y * 5 + 2) = 0 + 0 + f (y * 5 + 2) + 0 + 0; omega
  | 3, 0, _, _ => show 0 + f (y * 5 + 0) + f (y * 5 + 1) + f (y * 5 + 2) + f (y * 5 + 3) = f (y * 5 + 0) + f (y * 5 + 1) + f (y * 5 + 2) + f (y * 5 + 3) + 0; omega
  | 3, 1, _, _ => show 0 + f (y * 5 + 1) + f (y * 5 + 2) + f (y * 5 + 3) = 0 + f (y * 5 + 1) + f (y * 5 + 2) + f (y * 5 + 3) + 0; omega
  | 3, 2, _, _ => show 0 + f (y * 5 + 2) + f (y * 5 + 3) = 0 + 0 + f (y * 5 + 2) + f (y * 5 + 3) + 0; omega
  | 3, 3, _, _ => show 0 + f (y * 5 + 3) = 0 + 0 + 0 + f (y * 5 + 3) + 0; omega
  | 4, 0, _, _ => show 0 + f (y * 5 + 0) + f (y * 5 + 1) + f (y * 5 + 2) + f (y * 5 + 3) + f (y * 5 + 4) = f (y * 5 + 0) + f (y * 5 + 1) + f (y * 5 + 2) + f (y * 5 + 3) + f (y * 5 + 4); omega
  | 4, 1, _, _ => show 0 + f (y * 5 + 1) + f (y * 5 + 2) + f (y * 5 + 3) + f (y * 5 + 4) = 0 + f (y * 5 + 1) + f (y * 5 + 2) + f (y * 5 + 3) + f (y * 5 + 4); omega
  | 4, 2, _, _ => show 0 + f (y * 5 + 2) + f (y * 5 + 3) + f (y * 5 + 4) = 0 + 0 + f (y * 5 + 2) + f (y * 5 + 3) + f (y * 5 + 4); omega
  | 4, 3, _, _ => show 0 + f (y * 5 + 3) + f (y * 5 + 4) = 0 + 0 + 0 + f (y * 5 + 3) + f (y * 5 + 4); omega
  | 4, 4, _, _ => show 0 + f (y * 5 + 4) = 0 + 0 + 0 + 0 + f (y * 5 + 4); omega
  | r + 5, _, hr, _ => exact absurd hr (by omega)
  | 0, l + 1, _, hl => exact absurd hl (by omega)
  | 1, l + 2, _, hl => exact absurd hl (by omega)
  | 2, l + 3, _, hl => exact absurd hl (by omega)
  | 3, l + 4, _, hl => exact absurd hl (by omega)
  | 4, l + 5, _, hl => exact absurd hl (by omega)
theorem krect_s (f : Nat → Nat) (lf n : Nat) {t b : Nat} (hb : b < 5) (ht : t ≤ b) : krect f lf n (b + 1 - t) t 0 = ki1 (kbr t b 0) (krow f 0 n lf 0) + ki1 (kbr t b 1) (krow f 1 n lf 0) + ki1 (kbr t b 2) (krow f 2 n lf 0) + ki1 (kbr t b 3) (krow f 3 n lf 0) + ki1 (kbr t b 4) (krow f 4 n lf 0) := by
  match b, t, hb, ht with
  | 0, 0, _, _ =>
    show krow f 0 n lf (0) = krow f 0 n lf 0 + 0 + 0 + 0 + 0
    rw [show krow f 0 n lf 0 = krow f 0 n lf 0 from rfl] <;> omega
  | 1, 0, _, _ =>
    show krow f 1 n lf (krow f 0 n lf (0)) = krow f 0 n lf 0 + krow f 1 n lf 0 + 0 + 0 + 0
    rw [krow_a f 1 n lf (krow f 0 n lf (0))] <;> omega
  | 1, 1, _, _ =>
    show krow f 1 n lf (0) = 0 + krow f 1 n lf 0 + 0 + 0 + 0
    rw [show krow f 1 n lf 0 = krow f 1 n lf 0 from rfl] <;> omega
  | 2, 0, _, _ =>
    show krow f 2 n lf (krow f 1 n lf (krow f 0 n lf (0))) = krow f 0 n lf 0 + krow f 1 n lf 0 + krow f 2 n lf 0 + 0 + 0
    rw [krow_a f 2 n lf (krow f 1 n lf (krow f 0 n lf (0))), krow_a f 1 n lf (krow f 0 n lf (0))] <;> omega
  | 2, 1, _, _ =>
    show krow f 2 n lf (krow f 1 n lf (0)) = 0 + krow f 1 n lf 0 + krow f 2 n lf 0 + 0 + 0
    rw [krow_a f 2 n lf (krow f 1 n lf (0))] <;> omega
  | 2, 2, _, _ =>
    show krow f 2 n lf (0) = 0 + 0 + krow f 2 n lf 0 + 0 + 0
    rw [show krow f 2 n lf 0 = krow f 2 n lf 0 from rfl] <;> omega
  | 3, 0, _, _ =>
    show krow f 3 n lf (krow f 2 n lf (krow f 1 n lf (krow f 0 n lf (0)))) = krow f 0 n lf 0 + krow f 1 n lf 0 + krow f 2 n lf 0 + krow f 3 n lf 0 + 0
    rw [krow_a f 3 n lf (krow f 2 n lf (krow f 1 n lf (krow f 0 n lf (0)))), krow_a f 2 n lf (krow f 1 n lf (krow f 0 n lf (0))), krow_a f 1 n lf (krow f 0 n lf (0))] <;> omega
  | 3, 1, _, _ =>
    show krow f 3 n lf (krow f 2 n lf (krow f 1 n lf (0))) = 0 + krow f 1 n lf 0 + krow f 2 n lf 0 + krow f 3 n lf 0 + 0
    rw [krow_a f 3 n lf (krow f 2 n lf (krow f 1 n lf (0))), krow_a f 2 n lf (krow f 1 n lf (0))] <;> omega
  | 3, 2, _, _ =>
    show krow f 3 n lf (krow f 2 n lf (0)) = 0 + 0 + krow f 2 n lf 0 + krow f 3 n lf 0 + 0
    rw [krow_a f 3 n lf (krow f 2 n lf (0))] <;> omega
  | 3, 3, _, _ =>
    show krow f 3 n lf (0) = 0 + 0 + 0 + krow f 3 n lf 0 + 0
    rw [show krow f 3 n lf 0 = krow f 3 n lf 0 from rfl] <;> omega
  | 4, 0, _, _ =>
    show krow f 4 n lf (krow f 3 n lf (krow f 2 n lf (krow f 1 n lf (krow f 0 n lf (0))))) = krow f 0 n lf 0 + krow f 1 n lf 0 + krow f 2 n lf 0 + krow f 3 n lf 0 + krow f 4 n lf 0
    rw [krow_a f 4 n lf (krow f 3 n lf (krow f 2 n lf (krow f 1 n lf (krow f 0 n lf (0))))), krow_a f 3 n lf (krow f 2 n lf (krow f 1 n lf (krow f 0 n lf (0)))), krow_a f 2 n lf (krow f 1 n lf (krow f 0 n lf (0))), krow_a f 1 n lf (krow f 0 n lf (0))] <;> omega
  | 4, 1, _, _ =>
    show krow f 4 n lf (krow f 3 n lf (krow f 2 n lf (krow f 1 n lf (0)))) = 0 + krow f 1 n lf 0 + krow f 2 n lf 0 + krow f 3 n lf 0 + krow f 4 n lf 0
    rw [krow_a f 4 n lf (krow f 3 n lf (krow f 2 n lf (krow f 1 n lf (0)))), krow_a f 3 n lf (krow f 2 n lf (krow f 1 n lf (0))), krow_a f 2 n lf (krow f 1 n lf (0))] <;> omega
  | 4, 2, _, _ =>
    show krow f 4 n lf (krow f 3 n lf (krow f 2 n lf (0))) = 0 + 0 + krow f 2 n lf 0 + krow f 3 n lf 0 + krow f 4 n lf 0
    rw [krow_a f 4 n lf (krow f 3 n lf (krow f 2 n lf (0))), krow_a f 3 n lf (krow f 2 n lf (0))] <;> omega
  | 4, 3, _, _ =>
    show krow f 4 n lf (krow f 3 n lf (0)) = 0 + 0 + 0 + krow f 3 n lf 0 + krow f 4 n lf 0
    rw [krow_a f 4 n lf (krow f 3 n lf (0))] <;> omega
  | 4, 4, _, _ =>
    show krow f 4 n lf (0) = 0 + 0 + 0 + 0 + krow f 4 n lf 0
    rw [show krow f 4 n lf 0 = krow f 4 n lf 0 from rfl] <;> omega
  | b + 5, _, hb, _ => exact absurd hb (by omega)
  | 0, t + 1, _, ht => exact absurd ht (by omega)
  | 1, t + 2, _, ht => exact absurd ht (by omega)
  | 2, t + 3, _, ht => exact absurd ht (by omega)
  | 3, t + 4, _, ht => exact absurd ht (by omega)
  | 4, t + 5, _, ht => exact absurd ht (by omega)
theorem kfar_eq (f : Nat → Nat) {t b l r : Nat} (hb : b < 5) (ht : t ≤ b) (hr : r < 5) (hl : l ≤ r) : krect f l (r + 1 - l) (b + 1 - t) t 0 = kbw (fun c => ki1 (kbr t b (c / 5) && kbr l r (c % 5)) (f c)) 25 0 0 := by
  rw [krect_s f l (r + 1 - l) hb ht, krow_s f 0 hr hl, krow_s f 1 hr hl, krow_s f 2 hr hl, krow_s f 3 hr hl, krow_s f 4 hr hl]
  show ki1 (kbr t b 0) (ki1 (kbr l r 0) (f 0) + ki1 (kbr l r 1) (f 1) + ki1 (kbr l r 2) (f 2) + ki1 (kbr l r 3) (f 3) + ki1 (kbr l r 4) (f 4)) + ki1 (kbr t b 1) (ki1 (kbr l r 0) (f 5) + ki1 (kbr l r 1) (f 6) + ki1 (kbr l r 2) (f 7) + ki1 (kbr l r 3) (f 8) + ki1 (kbr l r 4) (f 9)) + ki1 (kbr t b 2) (ki1 (kbr l r 0) (f 10) + ki1 (kbr l r 1) (f 11) + ki1 (kbr l r 2) (f 12) + ki1 (kbr l r 3) (f 13) + ki1 (kbr l r 4) (f 14)) + ki1 (kbr t b 3) (ki1 (kbr l r 0) (f 15) + ki1 (kbr l r 1) (f 16) + ki1 (kbr l r 2) (f 17) + ki1 (kbr l r 3) (f 18) + ki1 (kbr l r 4) (f 19)) + ki1 (kbr t b 4) (ki1 (kbr l r 0) (f 20) + ki1 (kbr l r 1) (f 21) + ki1 (kbr l r 2) (f 22) + ki1 (kbr l r 3) (f 23) + ki1 (kbr l r 4) (f 24)) = (((((((((((((((((((((((((0 + ki1 (kbr t b 0 && kbr l r 0) (f 0)) + ki1 (kbr t b 0 && kbr l r 1) (f 1)) + ki1 (kbr t b 0 && kbr l r 2) (f 2)) + ki1 (kbr t b 0 && kbr l r 3) (f 3)) + ki1 (kbr t b 0 && kbr l r 4) (f 4)) + ki1 (kbr t b 1 && kbr l r 0) (f 5)) + ki1 (kbr t b 1 && kbr l r 1) (f 6)) + ki1 (kbr t b 1 && kbr l r 2) (f 7)) + ki1 (kbr t b 1 && kbr l r 3) (f 8)) + ki1 (kbr t b 1 && kbr l r 4) (f 9)) + ki1 (kbr t b 2 && kbr l r 0) (f 10)) + ki1 (kbr t b 2 && kbr l r 1) (f 11)) + ki1 (kbr t b 2 && kbr l r 2) (f 12)) + ki1 (kbr t b 2 && kbr l r 3) (f 13)) + ki1 (kbr t b 2 && kbr l r 4) (f 14)) + ki1 (kbr t b 3 && kbr l r 0) (f 15)) + ki1 (kbr t b 3 && kbr l r 1) (f 16)) + ki1 (kbr t b 3 && kbr l r 2) (f 17)) + ki1 (kbr t b 3 && kbr l r 3) (f 18)) + ki1 (kbr t b 3 && kbr l r 4) (f 19)) + ki1 (kbr t b 4 && kbr l r 0) (f 20)) + ki1 (kbr t b 4 && kbr l r 1) (f 21)) + ki1 (kbr t b 4 && kbr l r 2) (f 22)) + ki1 (kbr t b 4 && kbr l r 3) (f 23)) + ki1 (kbr t b 4 && kbr l r 4) (f 24))
  cases kbr t b 0 <;> cases kbr t b 1 <;> cases kbr t b 2 <;> cases kbr t b 3 <;> cases kbr t b 4 <;> (simp only [ki1, cond_true, cond_false, Bool.true_and, Bool.false_and] <;> omega)
set_option maxRecDepth 100000 in
theorem tc_dist (he ke ki fi fa or : List Nat) (mi a g l w s : Nat) (im : Nat) (le : List Nat) (ln : Nat) (ys : List Int32) (vt : Int32) (nu : List Nat) (nn : Nat) (rf : List Nat) (kk : kG) (q : cR) (hA : iA (he, ke, ki, fi, fa, or, mi, a, g, l, w, s)) (hC : iC nu nn) (vw vq : Int32) (yc yh yg : List Int32) (m : kG) (hJ : iJ m ys yc yh yg) : mm_E 98 0 [some (.ref 117), none, none] [] (mk_M (cT im le ln ys vt nu nn rf vw vq yc yh yg) (kr (he, ke, ki, fi, fa, or, mi, a, g, l, w, s)) m kk q) (pC (fun r => r = some (.int (nI (kap (a / 5) (g / 5) + kap (a % 5) (g % 5))))) (he, ke, ki, fi, fa, or, mi, a, g, l, w, s) im le ln ys vt nu nn rf kk q) := by
  obtain ⟨hV, hst⟩ := id hA
  have hst2 : s ≤ 999 := hst
  obtain ⟨v1, v2, v3, v4, v5, v6, v7, v8, v9, v10, v11, v12, v13, v14, v15, v16⟩ := id hV
  have v6l := kO_len mi v7 or v6
  obtain ⟨c1, c2, c3⟩ := id hC
  obtain ⟨j0, j1, j2, j3, j4⟩ := id hJ
  refine me_seg 4 (pc1 := 6) (ls1 := [some (.ref 117), none, none]) (st1 := [.int ((nI g) / (5 : Int32))]) (M1 := (mk_M (cT im le ln ys vt nu nn rf vw vq yc yh yg) (kr (he, ke, ki, fi, fa, or, mi, a, g, l, w, s)) m kk q)) (fun f => rfl) ?_
  refine me_v (pk_div (a := g) (d := 5) (by omega) (by decide) (by decide)) ?_
  refine me_seg 4 (pc1 := 12) (ls1 := [some (.ref 117), none, none]) (st1 := [.int ((nI a) / (5 : Int32)), .int (nI (g / 5))]) (M1 := (mk_M (cT im le ln ys vt nu nn rf vw vq yc yh yg) (kr (he, ke, ki, fi, fa, or, mi, a, g, l, w, s)) m kk q)) (fun f => rfl) ?_
  refine me_v (pk_div (a := a) (d := 5) (by omega) (by decide) (by decide)) ?_
  refine me_seg 2 (pc1 := 16) (ls1 := [some (.ref 117), none, none]) (st1 := [.int (if 0 ≤ ((nI (g / 5)) - (nI (a / 5))) then ((nI (g / 5)) - (nI (a / 5))) else 0 - ((nI (g / 5)) - (nI (a / 5))))]) (M1 := (mk_M (cT im le ln ys vt nu nn rf vw vq yc yh yg) (kr (he, ke, ki, fi, fa, or, mi, a, g, l, w, s)) m kk q)) (fun f => rfl) ?_
  refine me_v (k_abs (g / 5) (by omega) (a / 5) (by omega)) ?_
  refine me_seg 5 (pc1 := 23) (ls1 := [some (.ref 117), some (.int (nI (kap (a / 5) (g / 5)))), none]) (st1 := [.int ((nI g) - (nI g) / (5 : Int32) * (5 : Int32))]) (M1 := (mk_M (cT im le ln ys vt nu nn rf vw vq yc yh yg) (kr (he, ke, ki, fi, fa, or, mi, a, g, l, w, s)) m kk q)) (fun f => rfl) ?_
  refine me_v (pk_rem (a := g) (d := 5) (by omega) (by decide) (by decide)) ?_
  refine me_seg 4 (pc1 := 29) (ls1 := [some (.ref 117), some (.int (nI (kap (a / 5) (g / 5)))), none]) (st1 := [.int ((nI a) - (nI a) / (5 : Int32) * (5 : Int32)), .int (nI (g % 5))]) (M1 := (mk_M (cT im le ln ys vt nu nn rf vw vq yc yh yg) (kr (he, ke, ki, fi, fa, or, mi, a, g, l, w, s)) m kk q)) (fun f => rfl) ?_
  refine me_v (pk_rem (a := a) (d := 5) (by omega) (by decide) (by decide)) ?_
  refine me_seg 2 (pc1 := 33) (ls1 := [some (.ref 117), some (.int (nI (kap (a / 5) (g / 5)))), none]) (st1 := [.int (if 0 ≤ ((nI (g % 5)) - (nI (a % 5))) then ((nI (g % 5)) - (nI (a % 5))) else 0 - ((nI (g % 5)) - (nI (a % 5))))]) (M1 := (mk_M (cT im le ln ys vt nu nn rf vw vq yc yh yg) (kr (he, ke, ki, fi, fa, or, mi, a, g, l, w, s)) m kk q)) (fun f => rfl) ?_
  refine me_v (k_abs (g % 5) (by omega) (a % 5) (by omega)) ?_
  refine me_seg 4 (pc1 := 37) (ls1 := [some (.ref 117), some (.int (nI (kap (a / 5) (g / 5)))), some (.int (nI (kap (a % 5) (g % 5))))]) (st1 := [.int ((nI (kap (a / 5) (g / 5))) + (nI (kap (a % 5) (g % 5))))]) (M1 := (mk_M (cT im le ln ys vt nu nn rf vw vq yc yh yg) (kr (he, ke, ki, fi, fa, or, mi, a, g, l, w, s)) m kk q)) (fun f => rfl) ?_
  refine me_v (nI_add (kap (a / 5) (g / 5)) (kap (a % 5) (g % 5))) ?_
  refine me_ret 1 (r := some (.int (nI (kap (a / 5) (g / 5) + kap (a % 5) (g % 5))))) (M1 := (mk_M (cT im le ln ys vt nu nn rf vw vq yc yh yg) (kr (he, ke, ki, fi, fa, or, mi, a, g, l, w, s)) m kk q)) (fun f => rfl) ?_
  exact ⟨rfl, _, _, _, _, _, _, rfl, ⟨(by assumption), j1, by assumption, by assumption, by assumption⟩⟩
set_option maxRecDepth 100000 in
theorem tc_tallL (he ke ki fi fa or : List Nat) (mi a g l w s : Nat) (im : Nat) (le : List Nat) (ln : Nat) (ys : List Int32) (vt : Int32) (nu : List Nat) (nn : Nat) (rf : List Nat) (kk : kG) (q : cR) (hA : iA (he, ke, ki, fi, fa, or, mi, a, g, l, w, s)) (hC : iC nu nn) (A : Nat) (k : Nat) : ∀ (j : Nat) (b : Nat) (vw vq : Int32) (yc yh yg : List Int32) (m : kG), j + k = 25 → iJ m ys yc yh yg → b < 25 → A = ktl he k j b → mm_E 99 4 [some (.ref 117), some (.int (nI b)), some (.int (nI j))] [] (mk_M (cT im le ln ys vt nu nn rf vw vq yc yh yg) (kr (he, ke, ki, fi, fa, or, mi, a, g, l, w, s)) m kk q) (pC (fun r => r = some (.int (nI A))) (he, ke, ki, fi, fa, or, mi, a, g, l, w, s) im le ln ys vt nu nn rf kk q) := by
  obtain ⟨hV, hst⟩ := id hA
  have hst2 : s ≤ 999 := hst
  obtain ⟨v1, v2, v3, v4, v5, v6, v7, v8, v9, v10, v11, v12, v13, v14, v15, v16⟩ := id hV
  have v6l := kO_len mi v7 or v6
  obtain ⟨c1, c2, c3⟩ := id hC
  induction k with
  | zero =>
    intro j b vw vq yc yh yg m hj hJ g0 g1
    obtain ⟨j0, j1, j2, j3, j4⟩ := id hJ
    have f1 := v12 b
    have f2 := v12 j
    refine me_seg 2 (pc1 := 7) (ls1 := [some (.ref 117), some (.int (nI b)), some (.int (nI j))]) (st1 := [.int 25, .int (nI j)]) (M1 := (mk_M (cT im le ln ys vt nu nn rf vw vq yc yh yg) (kr (he, ke, ki, fi, fa, or, mi, a, g, l, w, s)) m kk q)) (fun f => rfl) ?_
    refine me_t (C := 25 ≤ (nI j)) (nI_let (a := 25) (b := j) (by omega)) (fun f => rfl) ?_
    refine me_ret 2 (r := some (.int (nI b))) (M1 := (mk_M (cT im le ln ys vt nu nn rf vw vq yc yh yg) (kr (he, ke, ki, fi, fa, or, mi, a, g, l, w, s)) m kk q)) (fun f => rfl) ?_
    exact ⟨(by rw [g1]; rfl), _, _, _, _, _, _, rfl, ⟨(by assumption), j1, by assumption, by assumption, by assumption⟩⟩
  | succ k IH =>
    intro j b vw vq yc yh yg m hj hJ g0 g1
    obtain ⟨j0, j1, j2, j3, j4⟩ := id hJ
    have f1 := v12 b
    have f2 := v12 j
    refine me_seg 2 (pc1 := 7) (ls1 := [some (.ref 117), some (.int (nI b)), some (.int (nI j))]) (st1 := [.int 25, .int (nI j)]) (M1 := (mk_M (cT im le ln ys vt nu nn rf vw vq yc yh yg) (kr (he, ke, ki, fi, fa, or, mi, a, g, l, w, s)) m kk q)) (fun f => rfl) ?_
    refine me_f (C := 25 ≤ (nI j)) (nI_lef (a := 25) (b := j) (by omega)) (fun f => rfl) ?_
    refine me_seg 3 (pc1 := 15) (ls1 := [some (.ref 117), some (.int (nI b)), some (.int (nI j))]) (st1 := [.int (nI j), .ref 118]) (M1 := (mk_M (cT im le ln ys vt nu nn rf vw vq yc yh yg) (kr (he, ke, ki, fi, fa, or, mi, a, g, l, w, s)) m kk q)) (fun f => rfl) ?_
    refine me_ldn (xs := (he.map nI)) rfl rfl (k := j) (by omega) (kg_ok (by omega)) ?_
    refine me_seg 3 (pc1 := 21) (ls1 := [some (.ref 117), some (.int (nI b)), some (.int (nI j))]) (st1 := [.int (nI b), .ref 118, .int (nI (kg he j))]) (M1 := (mk_M (cT im le ln ys vt nu nn rf vw vq yc yh yg) (kr (he, ke, ki, fi, fa, or, mi, a, g, l, w, s)) m kk q)) (fun f => rfl) ?_
    refine me_ldn (xs := (he.map nI)) rfl rfl (k := b) (by omega) (kg_ok (by omega)) ?_
    refine me_ifN (C := (nI (kg he j)) ≤ (nI (kg he b))) (nI_lei (a := kg he j) (b := kg he b) (by omega)) (fun f => rfl) (fun h1 => ?_) (fun h1 => ?_)
    · refine me_seg 1 (pc1 := 30) (ls1 := [some (.ref 117), some (.int (nI b)), some (.int ((nI j) + 1))]) (st1 := []) (M1 := (mk_M (cT im le ln ys vt nu nn rf vw vq yc yh yg) (kr (he, ke, ki, fi, fa, or, mi, a, g, l, w, s)) m kk q)) (fun f => rfl) ?_
      refine me_l (fun q_ => [some (.ref 117), some (.int (nI b)), some (.int q_)]) (nI_add j 1) ?_
      refine me_seg 1 (pc1 := 4) (ls1 := [some (.ref 117), some (.int (nI b)), some (.int (nI (j + 1)))]) (st1 := []) (M1 := (mk_M (cT im le ln ys vt nu nn rf vw vq yc yh yg) (kr (he, ke, ki, fi, fa, or, mi, a, g, l, w, s)) m kk q)) (fun f => rfl) ?_
      exact IH (j + 1) b vw vq yc yh yg m (by omega) ⟨(by assumption), j1, by assumption, by assumption, by assumption⟩ (by omega) (g1.trans (ktl_f (by omega)))
    · refine me_seg 3 (pc1 := 30) (ls1 := [some (.ref 117), some (.int (nI j)), some (.int ((nI j) + 1))]) (st1 := []) (M1 := (mk_M (cT im le ln ys vt nu nn rf vw vq yc yh yg) (kr (he, ke, ki, fi, fa, or, mi, a, g, l, w, s)) m kk q)) (fun f => rfl) ?_
      refine me_l (fun q_ => [some (.ref 117), some (.int (nI j)), some (.int q_)]) (nI_add j 1) ?_
      refine me_seg 1 (pc1 := 4) (ls1 := [some (.ref 117), some (.int (nI j)), some (.int (nI (j + 1)))]) (st1 := []) (M1 := (mk_M (cT im le ln ys vt nu nn rf vw vq yc yh yg) (kr (he, ke, ki, fi, fa, or, mi, a, g, l, w, s)) m kk q)) (fun f => rfl) ?_
      exact IH (j + 1) j vw vq yc yh yg m (by omega) ⟨(by assumption), j1, by assumption, by assumption, by assumption⟩ (by omega) (g1.trans (ktl_t (by omega)))
set_option maxRecDepth 100000 in
theorem tc_tall (he ke ki fi fa or : List Nat) (mi a g l w s : Nat) (im : Nat) (le : List Nat) (ln : Nat) (ys : List Int32) (vt : Int32) (nu : List Nat) (nn : Nat) (rf : List Nat) (kk : kG) (q : cR) (hA : iA (he, ke, ki, fi, fa, or, mi, a, g, l, w, s)) (hC : iC nu nn) (vw vq : Int32) (yc yh yg : List Int32) (m : kG) (hJ : iJ m ys yc yh yg) : mm_E 99 0 [some (.ref 117), none, none] [] (mk_M (cT im le ln ys vt nu nn rf vw vq yc yh yg) (kr (he, ke, ki, fi, fa, or, mi, a, g, l, w, s)) m kk q) (pC (fun r => r = some (.int (nI (ktl he 24 1 0)))) (he, ke, ki, fi, fa, or, mi, a, g, l, w, s) im le ln ys vt nu nn rf kk q) := by
  obtain ⟨hV, hst⟩ := id hA
  have hst2 : s ≤ 999 := hst
  obtain ⟨v1, v2, v3, v4, v5, v6, v7, v8, v9, v10, v11, v12, v13, v14, v15, v16⟩ := id hV
  have v6l := kO_len mi v7 or v6
  obtain ⟨c1, c2, c3⟩ := id hC
  obtain ⟨j0, j1, j2, j3, j4⟩ := id hJ
  refine me_seg 4 (pc1 := 4) (ls1 := [some (.ref 117), some (.int 0), some (.int 1)]) (st1 := []) (M1 := (mk_M (cT im le ln ys vt nu nn rf vw vq yc yh yg) (kr (he, ke, ki, fi, fa, or, mi, a, g, l, w, s)) m kk q)) (fun f => rfl) ?_
  exact tc_tallL he ke ki fi fa or mi a g l w s im le ln ys vt nu nn rf kk q hA hC _ 24 1 0 vw vq yc yh yg m (by omega) ⟨(by assumption), j1, by assumption, by assumption, by assumption⟩ (by omega) rfl
set_option maxRecDepth 100000 in
theorem tc_kin1 (he ke ki fi fa or : List Nat) (mi a g l w s : Nat) (im : Nat) (le : List Nat) (ln : Nat) (ys : List Int32) (vt : Int32) (nu : List Nat) (nn : Nat) (rf : List Nat) (kk : kG) (q : cR) (hA : iA (he, ke, ki, fi, fa, or, mi, a, g, l, w, s)) (hC : iC nu nn) (ca cb t bo lf ri : Nat) (hbo : bo < 5) (hri : ri < 5) (hlf : lf ≤ ri) (A y : Nat) (hy : y ≤ bo) (R0 : Nat) (HO : ∀ (f : Nat) (lo9 : Option Value) (vw vq : Int32) (yc yh yg : List Int32) (m : kG), iJ m ys yc yh yg → R0 = f → f ≤ 100 → mm_E 100 49 [some (.ref 117), some (.int (nI ca)), some (.int (nI cb)), some (.int (nI t)), some (.int (nI bo)), some (.int (nI lf)), some (.int (nI ri)), some (.int (nI f)), some (.int (nI (y + 1))), lo9] [] (mk_M (cT im le ln ys vt nu nn rf vw vq yc yh yg) (kr (he, ke, ki, fi, fa, or, mi, a, g, l, w, s)) m kk q) (pC (fun r => r = some (.int (nI A))) (he, ke, ki, fi, fa, or, mi, a, g, l, w, s) im le ln ys vt nu nn rf kk q)) (k : Nat) : ∀ (j f : Nat) (vw vq : Int32) (yc yh yg : List Int32) (m : kG), j + k = ri + 1 → iJ m ys yc yh yg → f + k ≤ 100 → R0 = krow (kg ke) y k j f → mm_E 100 60 [some (.ref 117), some (.int (nI ca)), some (.int (nI cb)), some (.int (nI t)), some (.int (nI bo)), some (.int (nI lf)), some (.int (nI ri)), some (.int (nI f)), some (.int (nI y)), some (.int (nI j))] [] (mk_M (cT im le ln ys vt nu nn rf vw vq yc yh yg) (kr (he, ke, ki, fi, fa, or, mi, a, g, l, w, s)) m kk q) (pC (fun r => r = some (.int (nI A))) (he, ke, ki, fi, fa, or, mi, a, g, l, w, s) im le ln ys vt nu nn rf kk q) := by
  obtain ⟨hV, hst⟩ := id hA
  have hst2 : s ≤ 999 := hst
  obtain ⟨v1, v2, v3, v4, v5, v6, v7, v8, v9, v10, v11, v12, v13, v14, v15, v16⟩ := id hV
  have v6l := kO_len mi v7 or v6
  obtain ⟨c1, c2, c3⟩ := id hC
  induction k with
  | zero =>
    intro j f vw vq yc yh yg m hj hJ hf g0
    obtain ⟨j0, j1, j2, j3, j4⟩ := id hJ
    refine me_seg 2 (pc1 := 64) (ls1 := [some (.ref 117), some (.int (nI ca)), some (.int (nI cb)), some (.int (nI t)), some (.int (nI bo)), some (.int (nI lf)), some (.int (nI ri)), some (.int (nI f)), some (.int (nI y)), some (.int (nI j))]) (st1 := [.int (nI ri), .int (nI j)]) (M1 := (mk_M (cT im le ln ys vt nu nn rf vw vq yc yh yg) (kr (he, ke, ki, fi, fa, or, mi, a, g, l, w, s)) m kk q)) (fun f => rfl) ?_
    refine me_t (C := (nI ri) < (nI j)) (nI_ltt (a := ri) (b := j) (by omega)) (fun f => rfl) ?_
    refine me_seg 1 (pc1 := 93) (ls1 := [some (.ref 117), some (.int (nI ca)), some (.int (nI cb)), some (.int (nI t)), some (.int (nI bo)), some (.int (nI lf)), some (.int (nI ri)), some (.int (nI f)), some (.int ((nI y) + 1)), some (.int (nI j))]) (st1 := []) (M1 := (mk_M (cT im le ln ys vt nu nn rf vw vq yc yh yg) (kr (he, ke, ki, fi, fa, or, mi, a, g, l, w, s)) m kk q)) (fun f => rfl) ?_
    refine me_l (fun q_ => [some (.ref 117), some (.int (nI ca)), some (.int (nI cb)), some (.int (nI t)), some (.int (nI bo)), some (.int (nI lf)), some (.int (nI ri)), some (.int (nI f)), some (.int q_), some (.int (nI j))]) (nI_add y 1) ?_
    refine me_seg 1 (pc1 := 49) (ls1 := [some (.ref 117), some (.int (nI ca)), some (.int (nI cb)), some (.int (nI t)), some (.int (nI bo)), some (.int (nI lf)), some (.int (nI ri)), some (.int (nI f)), some (.int (nI (y + 1))), some (.int (nI j))]) (st1 := []) (M1 := (mk_M (cT im le ln ys vt nu nn rf vw vq yc yh yg) (kr (he, ke, ki, fi, fa, or, mi, a, g, l, w, s)) m kk q)) (fun f => rfl) ?_
    exact HO f (some (.int (nI j))) vw vq yc yh yg m ⟨(by assumption), j1, by assumption, by assumption, by assumption⟩ g0 (by omega)
  | succ k IH =>
    intro j f vw vq yc yh yg m hj hJ hf g0
    obtain ⟨j0, j1, j2, j3, j4⟩ := id hJ
    have e1 := v13 (y * 5 + j)
    refine me_seg 2 (pc1 := 64) (ls1 := [some (.ref 117), some (.int (nI ca)), some (.int (nI cb)), some (.int (nI t)), some (.int (nI bo)), some (.int (nI lf)), some (.int (nI ri)), some (.int (nI f)), some (.int (nI y)), some (.int (nI j))]) (st1 := [.int (nI ri), .int (nI j)]) (M1 := (mk_M (cT im le ln ys vt nu nn rf vw vq yc yh yg) (kr (he, ke, ki, fi, fa, or, mi, a, g, l, w, s)) m kk q)) (fun f => rfl) ?_
    refine me_f (C := (nI ri) < (nI j)) (nI_ltf (a := ri) (b := j) (by omega)) (fun f => rfl) ?_
    refine me_seg 6 (pc1 := 77) (ls1 := [some (.ref 117), some (.int (nI ca)), some (.int (nI cb)), some (.int (nI t)), some (.int (nI bo)), some (.int (nI lf)), some (.int (nI ri)), some (.int (nI f)), some (.int (nI y)), some (.int (nI j))]) (st1 := [.int ((nI y) * (5 : Int32)), .ref 119, .int (nI f)]) (M1 := (mk_M (cT im le ln ys vt nu nn rf vw vq yc yh yg) (kr (he, ke, ki, fi, fa, or, mi, a, g, l, w, s)) m kk q)) (fun f => rfl) ?_
    refine me_v (pk_mul y 5) ?_
    refine me_seg 2 (pc1 := 80) (ls1 := [some (.ref 117), some (.int (nI ca)), some (.int (nI cb)), some (.int (nI t)), some (.int (nI bo)), some (.int (nI lf)), some (.int (nI ri)), some (.int (nI f)), some (.int (nI y)), some (.int (nI j))]) (st1 := [.int ((nI (y * 5)) + (nI j)), .ref 119, .int (nI f)]) (M1 := (mk_M (cT im le ln ys vt nu nn rf vw vq yc yh yg) (kr (he, ke, ki, fi, fa, or, mi, a, g, l, w, s)) m kk q)) (fun f => rfl) ?_
    refine me_v (nI_add (y * 5) j) ?_
    refine me_ldn (xs := (ke.map nI)) rfl rfl (k := y * 5 + j) (by omega) (kg_ok (by omega)) ?_
    refine me_seg 1 (pc1 := 82) (ls1 := [some (.ref 117), some (.int (nI ca)), some (.int (nI cb)), some (.int (nI t)), some (.int (nI bo)), some (.int (nI lf)), some (.int (nI ri)), some (.int (nI f)), some (.int (nI y)), some (.int (nI j))]) (st1 := [.int ((nI f) + (nI (kg ke (y * 5 + j))))]) (M1 := (mk_M (cT im le ln ys vt nu nn rf vw vq yc yh yg) (kr (he, ke, ki, fi, fa, or, mi, a, g, l, w, s)) m kk q)) (fun f => rfl) ?_
    refine me_v (nI_add f (kg ke (y * 5 + j))) ?_
    refine me_seg 2 (pc1 := 87) (ls1 := [some (.ref 117), some (.int (nI ca)), some (.int (nI cb)), some (.int (nI t)), some (.int (nI bo)), some (.int (nI lf)), some (.int (nI ri)), some (.int (nI (f + kg ke (y * 5 + j)))), some (.int (nI y)), some (.int ((nI j) + 1))]) (st1 := []) (M1 := (mk_M (cT im le ln ys vt nu nn rf vw vq yc yh yg) (kr (he, ke, ki, fi, fa, or, mi, a, g, l, w, s)) m kk q)) (fun f => rfl) ?_
    refine me_l (fun q_ => [some (.ref 117), some (.int (nI ca)), some (.int (nI cb)), some (.int (nI t)), some (.int (nI bo)), some (.int (nI lf)), some (.int (nI ri)), some (.int (nI (f + kg ke (y * 5 + j)))), some (.int (nI y)), some (.int q_)]) (nI_add j 1) ?_
    refine me_seg 1 (pc1 := 60) (ls1 := [some (.ref 117), some (.int (nI ca)), some (.int (nI cb)), some (.int (nI t)), some (.int (nI bo)), some (.int (nI lf)), some (.int (nI ri)), some (.int (nI (f + kg ke (y * 5 + j)))), some (.int (nI y)), some (.int (nI (j + 1)))]) (st1 := []) (M1 := (mk_M (cT im le ln ys vt nu nn rf vw vq yc yh yg) (kr (he, ke, ki, fi, fa, or, mi, a, g, l, w, s)) m kk q)) (fun f => rfl) ?_
    exact IH (j + 1) (f + kg ke (y * 5 + j)) vw vq yc yh yg m (by omega) ⟨(by assumption), j1, by assumption, by assumption, by assumption⟩ (by omega) (g0.trans rfl)
set_option maxRecDepth 100000 in
theorem tc_kin0 (he ke ki fi fa or : List Nat) (mi a g l w s : Nat) (im : Nat) (le : List Nat) (ln : Nat) (ys : List Int32) (vt : Int32) (nu : List Nat) (nn : Nat) (rf : List Nat) (kk : kG) (q : cR) (hA : iA (he, ke, ki, fi, fa, or, mi, a, g, l, w, s)) (hC : iC nu nn) (ca cb t bo lf ri : Nat) (hbo : bo < 5) (hri : ri < 5) (hlf : lf ≤ ri) (A : Nat) (k : Nat) : ∀ (j f : Nat) (lo9 : Option Value) (vw vq : Int32) (yc yh yg : List Int32) (m : kG), j + k = bo + 1 → iJ m ys yc yh yg → f + 5 * k ≤ 50 → A = krect (kg ke) lf (ri + 1 - lf) k j f → mm_E 100 49 [some (.ref 117), some (.int (nI ca)), some (.int (nI cb)), some (.int (nI t)), some (.int (nI bo)), some (.int (nI lf)), some (.int (nI ri)), some (.int (nI f)), some (.int (nI j)), lo9] [] (mk_M (cT im le ln ys vt nu nn rf vw vq yc yh yg) (kr (he, ke, ki, fi, fa, or, mi, a, g, l, w, s)) m kk q) (pC (fun r => r = some (.int (nI A))) (he, ke, ki, fi, fa, or, mi, a, g, l, w, s) im le ln ys vt nu nn rf kk q) := by
  obtain ⟨hV, hst⟩ := id hA
  have hst2 : s ≤ 999 := hst
  obtain ⟨v1, v2, v3, v4, v5, v6, v7, v8, v9, v10, v11, v12, v13, v14, v15, v16⟩ := id hV
  have v6l := kO_len mi v7 or v6
  obtain ⟨c1, c2, c3⟩ := id hC
  induction k with
  | zero =>
    intro j f lo9 vw vq yc yh yg m hj hJ hf g0
    obtain ⟨j0, j1, j2, j3, j4⟩ := id hJ
    refine me_seg 2 (pc1 := 53) (ls1 := [some (.ref 117), some (.int (nI ca)), some (.int (nI cb)), some (.int (nI t)), some (.int (nI bo)), some (.int (nI lf)), some (.int (nI ri)), some (.int (nI f)), some (.int (nI j)), lo9]) (st1 := [.int (nI bo), .int (nI j)]) (M1 := (mk_M (cT im le ln ys vt nu nn rf vw vq yc yh yg) (kr (he, ke, ki, fi, fa, or, mi, a, g, l, w, s)) m kk q)) (fun f => rfl) ?_
    refine me_t (C := (nI bo) < (nI j)) (nI_ltt (a := bo) (b := j) (by omega)) (fun f => rfl) ?_
    refine me_ret 2 (r := some (.int (nI f))) (M1 := (mk_M (cT im le ln ys vt nu nn rf vw vq yc yh yg) (kr (he, ke, ki, fi, fa, or, mi, a, g, l, w, s)) m kk q)) (fun f => rfl) ?_
    exact ⟨(by rw [g0]; rfl), _, _, _, _, _, _, rfl, ⟨(by assumption), j1, by assumption, by assumption, by assumption⟩⟩
  | succ k IH =>
    intro j f lo9 vw vq yc yh yg m hj hJ hf g0
    obtain ⟨j0, j1, j2, j3, j4⟩ := id hJ
    refine me_seg 2 (pc1 := 53) (ls1 := [some (.ref 117), some (.int (nI ca)), some (.int (nI cb)), some (.int (nI t)), some (.int (nI bo)), some (.int (nI lf)), some (.int (nI ri)), some (.int (nI f)), some (.int (nI j)), lo9]) (st1 := [.int (nI bo), .int (nI j)]) (M1 := (mk_M (cT im le ln ys vt nu nn rf vw vq yc yh yg) (kr (he, ke, ki, fi, fa, or, mi, a, g, l, w, s)) m kk q)) (fun f => rfl) ?_
    refine me_f (C := (nI bo) < (nI j)) (nI_ltf (a := bo) (b := j) (by omega)) (fun f => rfl) ?_
    refine me_seg 2 (pc1 := 60) (ls1 := [some (.ref 117), some (.int (nI ca)), some (.int (nI cb)), some (.int (nI t)), some (.int (nI bo)), some (.int (nI lf)), some (.int (nI ri)), some (.int (nI f)), some (.int (nI j)), some (.int (nI lf))]) (st1 := []) (M1 := (mk_M (cT im le ln ys vt nu nn rf vw vq yc yh yg) (kr (he, ke, ki, fi, fa, or, mi, a, g, l, w, s)) m kk q)) (fun f => rfl) ?_
    refine tc_kin1 he ke ki fi fa or mi a g l w s im le ln ys vt nu nn rf kk q hA hC ca cb t bo lf ri hbo hri hlf A j (by omega) (krow (kg ke) j (ri + 1 - lf) lf f) ?_ (ri + 1 - lf) lf f vw vq yc yh yg m (by omega) ⟨(by assumption), j1, by assumption, by assumption, by assumption⟩ (by omega) rfl
    intro f2 lo9 vw vq yc yh yg m hJ hf2 hf3
    have hrl := krow_le v13 j (ri + 1 - lf) lf f
    exact IH (j + 1) f2 lo9 vw vq yc yh yg m (by omega) hJ (by omega) (by rw [g0, ← hf2]; rfl)
set_option maxRecDepth 100000 in
theorem tc_kin (he ke ki fi fa or : List Nat) (mi a g l w s : Nat) (im : Nat) (le : List Nat) (ln : Nat) (ys : List Int32) (vt : Int32) (nu : List Nat) (nn : Nat) (rf : List Nat) (kk : kG) (q : cR) (hA : iA (he, ke, ki, fi, fa, or, mi, a, g, l, w, s)) (hC : iC nu nn) (vw vq : Int32) (yc yh yg : List Int32) (m : kG) (hJ : iJ m ys yc yh yg) (ca cb : Nat) (h1 : ca < 25) (h2 : cb < 25) : mm_E 100 0 [some (.ref 117), some (.int (nI ca)), some (.int (nI cb)), none, none, none, none, none, none, none] [] (mk_M (cT im le ln ys vt nu nn rf vw vq yc yh yg) (kr (he, ke, ki, fi, fa, or, mi, a, g, l, w, s)) m kk q) (pC (fun r => r = some (.int (nI (kbw (fun c => ki1 (kbr (min (ca / 5) (cb / 5)) (max (ca / 5) (cb / 5)) (c / 5) && kbr (min (ca % 5) (cb % 5)) (max (ca % 5) (cb % 5)) (c % 5)) (kg ke c)) 25 0 0)))) (he, ke, ki, fi, fa, or, mi, a, g, l, w, s) im le ln ys vt nu nn rf kk q) := by
  obtain ⟨hV, hst⟩ := id hA
  have hst2 : s ≤ 999 := hst
  obtain ⟨v1, v2, v3, v4, v5, v6, v7, v8, v9, v10, v11, v12, v13, v14, v15, v16⟩ := id hV
  have v6l := kO_len mi v7 or v6
  obtain ⟨c1, c2, c3⟩ := id hC
  obtain ⟨j0, j1, j2, j3, j4⟩ := id hJ
  refine me_seg 3 (pc1 := 3) (ls1 := [some (.ref 117), some (.int (nI ca)), some (.int (nI cb)), none, none, none, none, none, none, none]) (st1 := [.int ((nI ca) / (5 : Int32))]) (M1 := (mk_M (cT im le ln ys vt nu nn rf vw vq yc yh yg) (kr (he, ke, ki, fi, fa, or, mi, a, g, l, w, s)) m kk q)) (fun f => rfl) ?_
  refine me_v (pk_div (a := ca) (d := 5) (by omega) (by decide) (by decide)) ?_
  refine me_seg 3 (pc1 := 6) (ls1 := [some (.ref 117), some (.int (nI ca)), some (.int (nI cb)), none, none, none, none, none, none, none]) (st1 := [.int ((nI cb) / (5 : Int32)), .int (nI (ca / 5))]) (M1 := (mk_M (cT im le ln ys vt nu nn rf vw vq yc yh yg) (kr (he, ke, ki, fi, fa, or, mi, a, g, l, w, s)) m kk q)) (fun f => rfl) ?_
  refine me_v (pk_div (a := cb) (d := 5) (by omega) (by decide) (by decide)) ?_
  refine me_seg 1 (pc1 := 9) (ls1 := [some (.ref 117), some (.int (nI ca)), some (.int (nI cb)), none, none, none, none, none, none, none]) (st1 := [.int (if (nI (cb / 5)) < (nI (ca / 5)) then (nI (cb / 5)) else (nI (ca / 5)))]) (M1 := (mk_M (cT im le ln ys vt nu nn rf vw vq yc yh yg) (kr (he, ke, ki, fi, fa, or, mi, a, g, l, w, s)) m kk q)) (fun f => rfl) ?_
  refine me_v (k_min (a := ca / 5) (b := cb / 5) (by omega) (by omega)) ?_
  refine me_seg 4 (pc1 := 13) (ls1 := [some (.ref 117), some (.int (nI ca)), some (.int (nI cb)), some (.int (nI (min (ca / 5) (cb / 5)))), none, none, none, none, none, none]) (st1 := [.int ((nI ca) / (5 : Int32))]) (M1 := (mk_M (cT im le ln ys vt nu nn rf vw vq yc yh yg) (kr (he, ke, ki, fi, fa, or, mi, a, g, l, w, s)) m kk q)) (fun f => rfl) ?_
  refine me_v (pk_div (a := ca) (d := 5) (by omega) (by decide) (by decide)) ?_
  refine me_seg 3 (pc1 := 16) (ls1 := [some (.ref 117), some (.int (nI ca)), some (.int (nI cb)), some (.int (nI (min (ca / 5) (cb / 5)))), none, none, none, none, none, none]) (st1 := [.int ((nI cb) / (5 : Int32)), .int (nI (ca / 5))]) (M1 := (mk_M (cT im le ln ys vt nu nn rf vw vq yc yh yg) (kr (he, ke, ki, fi, fa, or, mi, a, g, l, w, s)) m kk q)) (fun f => rfl) ?_
  refine me_v (pk_div (a := cb) (d := 5) (by omega) (by decide) (by decide)) ?_
  refine me_seg 1 (pc1 := 19) (ls1 := [some (.ref 117), some (.int (nI ca)), some (.int (nI cb)), some (.int (nI (min (ca / 5) (cb / 5)))), none, none, none, none, none, none]) (st1 := [.int (if (nI (ca / 5)) < (nI (cb / 5)) then (nI (cb / 5)) else (nI (ca / 5)))]) (M1 := (mk_M (cT im le ln ys vt nu nn rf vw vq yc yh yg) (kr (he, ke, ki, fi, fa, or, mi, a, g, l, w, s)) m kk q)) (fun f => rfl) ?_
  refine me_v (k_max (a := ca / 5) (b := cb / 5) (by omega) (by omega)) ?_
  refine me_seg 4 (pc1 := 24) (ls1 := [some (.ref 117), some (.int (nI ca)), some (.int (nI cb)), some (.int (nI (min (ca / 5) (cb / 5)))), some (.int (nI (max (ca / 5) (cb / 5)))), none, none, none, none, none]) (st1 := [.int ((nI ca) - (nI ca) / (5 : Int32) * (5 : Int32))]) (M1 := (mk_M (cT im le ln ys vt nu nn rf vw vq yc yh yg) (kr (he, ke, ki, fi, fa, or, mi, a, g, l, w, s)) m kk q)) (fun f => rfl) ?_
  refine me_v (pk_rem (a := ca) (d := 5) (by omega) (by decide) (by decide)) ?_
  refine me_seg 3 (pc1 := 27) (ls1 := [some (.ref 117), some (.int (nI ca)), some (.int (nI cb)), some (.int (nI (min (ca / 5) (cb / 5)))), some (.int (nI (max (ca / 5) (cb / 5)))), none, none, none, none, none]) (st1 := [.int ((nI cb) - (nI cb) / (5 : Int32) * (5 : Int32)), .int (nI (ca % 5))]) (M1 := (mk_M (cT im le ln ys vt nu nn rf vw vq yc yh yg) (kr (he, ke, ki, fi, fa, or, mi, a, g, l, w, s)) m kk q)) (fun f => rfl) ?_
  refine me_v (pk_rem (a := cb) (d := 5) (by omega) (by decide) (by decide)) ?_
  refine me_seg 1 (pc1 := 30) (ls1 := [some (.ref 117), some (.int (nI ca)), some (.int (nI cb)), some (.int (nI (min (ca / 5) (cb / 5)))), some (.int (nI (max (ca / 5) (cb / 5)))), none, none, none, none, none]) (st1 := [.int (if (nI (cb % 5)) < (nI (ca % 5)) then (nI (cb % 5)) else (nI (ca % 5)))]) (M1 := (mk_M (cT im le ln ys vt nu nn rf vw vq yc yh yg) (kr (he, ke, ki, fi, fa, or, mi, a, g, l, w, s)) m kk q)) (fun f => rfl) ?_
  refine me_v (k_min (a := ca % 5) (b := cb % 5) (by omega) (by omega)) ?_
  refine me_seg 4 (pc1 := 35) (ls1 := [some (.ref 117), some (.int (nI ca)), some (.int (nI cb)), some (.int (nI (min (ca / 5) (cb / 5)))), some (.int (nI (max (ca / 5) (cb / 5)))), some (.int (nI (min (ca % 5) (cb % 5)))), none, none, none, none]) (st1 := [.int ((nI ca) - (nI ca) / (5 : Int32) * (5 : Int32))]) (M1 := (mk_M (cT im le ln ys vt nu nn rf vw vq yc yh yg) (kr (he, ke, ki, fi, fa, or, mi, a, g, l, w, s)) m kk q)) (fun f => rfl) ?_
  refine me_v (pk_rem (a := ca) (d := 5) (by omega) (by decide) (by decide)) ?_
  refine me_seg 3 (pc1 := 38) (ls1 := [some (.ref 117), some (.int (nI ca)), some (.int (nI cb)), some (.int (nI (min (ca / 5) (cb / 5)))), some (.int (nI (max (ca / 5) (cb / 5)))), some (.int (nI (min (ca % 5) (cb % 5)))), none, none, none, none]) (st1 := [.int ((nI cb) - (nI cb) / (5 : Int32) * (5 : Int32)), .int (nI (ca % 5))]) (M1 := (mk_M (cT im le ln ys vt nu nn rf vw vq yc yh yg) (kr (he, ke, ki, fi, fa, or, mi, a, g, l, w, s)) m kk q)) (fun f => rfl) ?_
  refine me_v (pk_rem (a := cb) (d := 5) (by omega) (by decide) (by decide)) ?_
  refine me_seg 1 (pc1 := 41) (ls1 := [some (.ref 117), some (.int (nI ca)), some (.int (nI cb)), some (.int (nI (min (ca / 5) (cb / 5)))), some (.int (nI (max (ca / 5) (cb / 5)))), some (.int (nI (min (ca % 5) (cb % 5)))), none, none, none, none]) (st1 := [.int (if (nI (ca % 5)) < (nI (cb % 5)) then (nI (cb % 5)) else (nI (ca % 5)))]) (M1 := (mk_M (cT im le ln ys vt nu nn rf vw vq yc yh yg) (kr (he, ke, ki, fi, fa, or, mi, a, g, l, w, s)) m kk q)) (fun f => rfl) ?_
  refine me_v (k_max (a := ca % 5) (b := cb % 5) (by omega) (by omega)) ?_
  refine me_seg 5 (pc1 := 49) (ls1 := [some (.ref 117), some (.int (nI ca)), some (.int (nI cb)), some (.int (nI (min (ca / 5) (cb / 5)))), some (.int (nI (max (ca / 5) (cb / 5)))), some (.int (nI (min (ca % 5) (cb % 5)))), some (.int (nI (max (ca % 5) (cb % 5)))), some (.int 0), some (.int (nI (min (ca / 5) (cb / 5)))), none]) (st1 := []) (M1 := (mk_M (cT im le ln ys vt nu nn rf vw vq yc yh yg) (kr (he, ke, ki, fi, fa, or, mi, a, g, l, w, s)) m kk q)) (fun f => rfl) ?_
  rw [← kfar_eq (kg ke) (t := min (ca / 5) (cb / 5)) (b := max (ca / 5) (cb / 5)) (l := min (ca % 5) (cb % 5)) (r := max (ca % 5) (cb % 5)) (by omega) (by omega) (by omega) (by omega)]
  exact tc_kin0 he ke ki fi fa or mi a g l w s im le ln ys vt nu nn rf kk q hA hC ca cb (min (ca / 5) (cb / 5)) (max (ca / 5) (cb / 5)) (min (ca % 5) (cb % 5)) (max (ca % 5) (cb % 5)) (by omega) (by omega) (by omega) _ (max (ca / 5) (cb / 5) + 1 - min (ca / 5) (cb / 5)) (min (ca / 5) (cb / 5)) 0 none vw vq yc yh yg m (by omega) ⟨(by assumption), j1, by assumption, by assumption, by assumption⟩ (by omega) rfl
theorem kbw_all (ke : List Nat) : kbw (fun c => ki1 (kbr (min (0 / 5) (24 / 5)) (max (0 / 5) (24 / 5)) (c / 5) && kbr (min (0 % 5) (24 % 5)) (max (0 % 5) (24 % 5)) (c % 5)) (kg ke c)) 25 0 0 = ksum ke 25 := by
  show (((((((((((((((((((((((((0 + kg ke 0) + kg ke 1) + kg ke 2) + kg ke 3) + kg ke 4) + kg ke 5) + kg ke 6) + kg ke 7) + kg ke 8) + kg ke 9) + kg ke 10) + kg ke 11) + kg ke 12) + kg ke 13) + kg ke 14) + kg ke 15) + kg ke 16) + kg ke 17) + kg ke 18) + kg ke 19) + kg ke 20) + kg ke 21) + kg ke 22) + kg ke 23) + kg ke 24) = (((((((((((((((((((((((((0 + kg ke 0) + kg ke 1) + kg ke 2) + kg ke 3) + kg ke 4) + kg ke 5) + kg ke 6) + kg ke 7) + kg ke 8) + kg ke 9) + kg ke 10) + kg ke 11) + kg ke 12) + kg ke 13) + kg ke 14) + kg ke 15) + kg ke 16) + kg ke 17) + kg ke 18) + kg ke 19) + kg ke 20) + kg ke 21) + kg ke 22) + kg ke 23) + kg ke 24)
  rfl
set_option maxRecDepth 100000 in
theorem tc_far_0 (he ke ki fi fa or : List Nat) (mi a g l w s : Nat) (im : Nat) (le : List Nat) (ln : Nat) (ys : List Int32) (vt : Int32) (nu : List Nat) (nn : Nat) (rf : List Nat) (kk : kG) (q : cR) (hA : iA (he, ke, ki, fi, fa, or, mi, a, g, l, w, s)) (hC : iC nu nn) (vw vq : Int32) (yc yh yg : List Int32) (m : kG) (hJ : iJ m ys yc yh yg) : mm_E 97 0 [some (.ref 100), some (.int 0)] [] (mk_M (cT im le ln ys vt nu nn rf vw vq yc yh yg) (kr (he, ke, ki, fi, fa, or, mi, a, g, l, w, s)) m kk q) (pC (fun r => r = some (.int (nI (kap (a / 5) (g / 5) + kap (a % 5) (g % 5))))) (he, ke, ki, fi, fa, or, mi, a, g, l, w, s) im le ln ys vt nu nn rf kk q) := by
  obtain ⟨hV, hst⟩ := id hA
  have hst2 : s ≤ 999 := hst
  obtain ⟨v1, v2, v3, v4, v5, v6, v7, v8, v9, v10, v11, v12, v13, v14, v15, v16⟩ := id hV
  have v6l := kO_len mi v7 or v6
  obtain ⟨c1, c2, c3⟩ := id hC
  obtain ⟨j0, j1, j2, j3, j4⟩ := id hJ
  refine me_seg 4 (pc1 := 36) (ls1 := [some (.ref 100), some (.int 0)]) (st1 := [.ref 117]) (M1 := (mk_M (cT im le ln ys vt nu nn rf vw vq yc yh yg) (kr (he, ke, ki, fi, fa, or, mi, a, g, l, w, s)) m kk q)) (fun f => rfl) ?_
  refine me_callE (y := 98) (y0 := 39) (L := [some (.ref 117), none, none]) (rest := []) (fun f => rfl) (tc_dist he ke ki fi fa or mi a g l w s im le ln ys vt nu nn rf kk q hA hC vw vq yc yh yg m ⟨(by assumption), j1, by assumption, by assumption, by assumption⟩) ?_
  rintro _ _ ⟨rfl, vw_1, vq_1, yc_1, yh_1, yg_1, m_1, rfl, hJ_1⟩
  obtain ⟨j0_1, j1_1, j2_1, j3_1, j4_1⟩ := id hJ_1
  refine me_ret 1 (r := some (.int (nI (kap (a / 5) (g / 5) + kap (a % 5) (g % 5))))) (M1 := (mk_M (cT im le ln ys vt nu nn rf vw_1 vq_1 yc_1 yh_1 yg_1) (kr (he, ke, ki, fi, fa, or, mi, a, g, l, w, s)) m_1 kk q)) (fun f => rfl) ?_
  exact ⟨rfl, _, _, _, _, _, _, rfl, ⟨(by assumption), j1, by assumption, by assumption, by assumption⟩⟩
set_option maxRecDepth 100000 in
theorem tc_far_1 (he ke ki fi fa or : List Nat) (mi a g l w s : Nat) (im : Nat) (le : List Nat) (ln : Nat) (ys : List Int32) (vt : Int32) (nu : List Nat) (nn : Nat) (rf : List Nat) (kk : kG) (q : cR) (hA : iA (he, ke, ki, fi, fa, or, mi, a, g, l, w, s)) (hC : iC nu nn) (vw vq : Int32) (yc yh yg : List Int32) (m : kG) (hJ : iJ m ys yc yh yg) : mm_E 97 0 [some (.ref 100), some (.int 1)] [] (mk_M (cT im le ln ys vt nu nn rf vw vq yc yh yg) (kr (he, ke, ki, fi, fa, or, mi, a, g, l, w, s)) m kk q) (pC (fun r => r = some (.int (nI (ktl he 24 1 0)))) (he, ke, ki, fi, fa, or, mi, a, g, l, w, s) im le ln ys vt nu nn rf kk q) := by
  obtain ⟨hV, hst⟩ := id hA
  have hst2 : s ≤ 999 := hst
  obtain ⟨v1, v2, v3, v4, v5, v6, v7, v8, v9, v10, v11, v12, v13, v14, v15, v16⟩ := id hV
  have v6l := kO_len mi v7 or v6
  obtain ⟨c1, c2, c3⟩ := id hC
  obtain ⟨j0, j1, j2, j3, j4⟩ := id hJ
  refine me_seg 4 (pc1 := 44) (ls1 := [some (.ref 100), some (.int 1)]) (st1 := [.ref 117]) (M1 := (mk_M (cT im le ln ys vt nu nn rf vw vq yc yh yg) (kr (he, ke, ki, fi, fa, or, mi, a, g, l, w, s)) m kk q)) (fun f => rfl) ?_
  refine me_callE (y := 99) (y0 := 47) (L := [some (.ref 117), none, none]) (rest := []) (fun f => rfl) (tc_tall he ke ki fi fa or mi a g l w s im le ln ys vt nu nn rf kk q hA hC vw vq yc yh yg m ⟨(by assumption), j1, by assumption, by assumption, by assumption⟩) ?_
  rintro _ _ ⟨rfl, vw_1, vq_1, yc_1, yh_1, yg_1, m_1, rfl, hJ_1⟩
  obtain ⟨j0_1, j1_1, j2_1, j3_1, j4_1⟩ := id hJ_1
  refine me_ret 1 (r := some (.int (nI (ktl he 24 1 0)))) (M1 := (mk_M (cT im le ln ys vt nu nn rf vw_1 vq_1 yc_1 yh_1 yg_1) (kr (he, ke, ki, fi, fa, or, mi, a, g, l, w, s)) m_1 kk q)) (fun f => rfl) ?_
  exact ⟨rfl, _, _, _, _, _, _, rfl, ⟨(by assumption), j1, by assumption, by assumption, by assumption⟩⟩
set_option maxRecDepth 100000 in
theorem tc_far_2 (he ke ki fi fa or : List Nat) (mi a g l w s : Nat) (im : Nat) (le : List Nat) (ln : Nat) (ys : List Int32) (vt : Int32) (nu : List Nat) (nn : Nat) (rf : List Nat) (kk : kG) (q : cR) (hA : iA (he, ke, ki, fi, fa, or, mi, a, g, l, w, s)) (hC : iC nu nn) (vw vq : Int32) (yc yh yg : List Int32) (m : kG) (hJ : iJ m ys yc yh yg) : mm_E 97 0 [some (.ref 100), some (.int 2)] [] (mk_M (cT im le ln ys vt nu nn rf vw vq yc yh yg) (kr (he, ke, ki, fi, fa, or, mi, a, g, l, w, s)) m kk q) (pC (fun r => r = some (.int (nI (ksum ke 25)))) (he, ke, ki, fi, fa, or, mi, a, g, l, w, s) im le ln ys vt nu nn rf kk q) := by
  obtain ⟨hV, hst⟩ := id hA
  have hst2 : s ≤ 999 := hst
  obtain ⟨v1, v2, v3, v4, v5, v6, v7, v8, v9, v10, v11, v12, v13, v14, v15, v16⟩ := id hV
  have v6l := kO_len mi v7 or v6
  obtain ⟨c1, c2, c3⟩ := id hC
  obtain ⟨j0, j1, j2, j3, j4⟩ := id hJ
  refine me_seg 6 (pc1 := 55) (ls1 := [some (.ref 100), some (.int 2)]) (st1 := [.int 24, .int 0, .ref 117]) (M1 := (mk_M (cT im le ln ys vt nu nn rf vw vq yc yh yg) (kr (he, ke, ki, fi, fa, or, mi, a, g, l, w, s)) m kk q)) (fun f => rfl) ?_
  refine me_callE (y := 100) (y0 := 58) (L := [some (.ref 117), some (.int 0), some (.int 24), none, none, none, none, none, none, none]) (rest := []) (fun f => rfl) (tc_kin he ke ki fi fa or mi a g l w s im le ln ys vt nu nn rf kk q hA hC vw vq yc yh yg m ⟨(by assumption), j1, by assumption, by assumption, by assumption⟩ 0 24 (by omega) (by omega)) ?_
  rintro _ _ ⟨rfl, vw_1, vq_1, yc_1, yh_1, yg_1, m_1, rfl, hJ_1⟩
  obtain ⟨j0_1, j1_1, j2_1, j3_1, j4_1⟩ := id hJ_1
  refine me_ret 1 (r := some (.int (nI (kbw (fun c => ki1 (kbr (min (0 / 5) (24 / 5)) (max (0 / 5) (24 / 5)) (c / 5) && kbr (min (0 % 5) (24 % 5)) (max (0 % 5) (24 % 5)) (c % 5)) (kg ke c)) 25 0 0)))) (M1 := (mk_M (cT im le ln ys vt nu nn rf vw_1 vq_1 yc_1 yh_1 yg_1) (kr (he, ke, ki, fi, fa, or, mi, a, g, l, w, s)) m_1 kk q)) (fun f => rfl) ?_
  exact ⟨(by rw [← kbw_all]), _, _, _, _, _, _, rfl, ⟨(by assumption), j1, by assumption, by assumption, by assumption⟩⟩
set_option maxRecDepth 100000 in
theorem tc_far_3 (he ke ki fi fa or : List Nat) (mi a g l w s : Nat) (im : Nat) (le : List Nat) (ln : Nat) (ys : List Int32) (vt : Int32) (nu : List Nat) (nn : Nat) (rf : List Nat) (kk : kG) (q : cR) (hA : iA (he, ke, ki, fi, fa, or, mi, a, g, l, w, s)) (hC : iC nu nn) (vw vq : Int32) (yc yh yg : List Int32) (m : kG) (hJ : iJ m ys yc yh yg) : mm_E 97 0 [some (.ref 100), some (.int 3)] [] (mk_M (cT im le ln ys vt nu nn rf vw vq yc yh yg) (kr (he, ke, ki, fi, fa, or, mi, a, g, l, w, s)) m kk q) (pC (fun r => r = some (.int (nI (kbw (fun c => ki1 (kbr (min (a / 5) (g / 5)) (max (a / 5) (g / 5)) (c / 5) && kbr (min (a % 5) (g % 5)) (max (a % 5) (g % 5)) (c % 5)) (kg ke c)) 25 0 0)))) (he, ke, ki, fi, fa, or, mi, a, g, l, w, s) im le ln ys vt nu nn rf kk q) := by
  obtain ⟨hV, hst⟩ := id hA
  have hst2 : s ≤ 999 := hst
  obtain ⟨v1, v2, v3, v4, v5, v6, v7, v8, v9, v10, v11, v12, v13, v14, v15, v16⟩ := id hV
  have v6l := kO_len mi v7 or v6
  obtain ⟨c1, c2, c3⟩ := id hC
  obtain ⟨j0, j1, j2, j3, j4⟩ := id hJ
  refine me_seg 10 (pc1 := 77) (ls1 := [some (.ref 100), some (.int 3)]) (st1 := [.int (nI g), .int (nI a), .ref 117]) (M1 := (mk_M (cT im le ln ys vt nu nn rf vw vq yc yh yg) (kr (he, ke, ki, fi, fa, or, mi, a, g, l, w, s)) m kk q)) (fun f => rfl) ?_
  refine me_callE (y := 100) (y0 := 80) (L := [some (.ref 117), some (.int (nI a)), some (.int (nI g)), none, none, none, none, none, none, none]) (rest := []) (fun f => rfl) (tc_kin he ke ki fi fa or mi a g l w s im le ln ys vt nu nn rf kk q hA hC vw vq yc yh yg m ⟨(by assumption), j1, by assumption, by assumption, by assumption⟩ a g (by omega) (by omega)) ?_
  rintro _ _ ⟨rfl, vw_1, vq_1, yc_1, yh_1, yg_1, m_1, rfl, hJ_1⟩
  obtain ⟨j0_1, j1_1, j2_1, j3_1, j4_1⟩ := id hJ_1
  refine me_ret 1 (r := some (.int (nI (kbw (fun c => ki1 (kbr (min (a / 5) (g / 5)) (max (a / 5) (g / 5)) (c / 5) && kbr (min (a % 5) (g % 5)) (max (a % 5) (g % 5)) (c % 5)) (kg ke c)) 25 0 0)))) (M1 := (mk_M (cT im le ln ys vt nu nn rf vw_1 vq_1 yc_1 yh_1 yg_1) (kr (he, ke, ki, fi, fa, or, mi, a, g, l, w, s)) m_1 kk q)) (fun f => rfl) ?_
  exact ⟨rfl, _, _, _, _, _, _, rfl, ⟨(by assumption), j1, by assumption, by assumption, by assumption⟩⟩
set_option maxRecDepth 100000 in
theorem mf_apart (x y : Nat) (hx : x < 5) (hy : y < 5) (M : mm_H) : mm_R 191 0 [some (.int (nI x)), some (.int (nI y))] [] M (some (.int (nI (kap x y))), M) := by
  refine mr_seg 2 (pc1 := 2) (ls1 := [some (.int (nI x)), some (.int (nI y))]) (st1 := [.int (nI y), .int (nI x)]) (M1 := M) (fun f => rfl) ?_
  refine mr_ifN (C := (nI y) ≤ (nI x)) (nI_lei (a := y) (b := x) (by omega)) (fun f => rfl) (fun h1 => ?_) (fun h1 => ?_)
  · refine mr_seg 3 (pc1 := 14) (ls1 := [some (.int (nI x)), some (.int (nI y))]) (st1 := [.int ((nI x) - (nI y))]) (M1 := M) (fun f => rfl) ?_
    refine mr_v (pk_sub (a := x) (b := y) (by omega)) ?_
    refine mr_eq (mr_ret 1 (o := (some (.int (nI (x - y))), M)) (fun f => rfl)) ?_
    rw [show kap x y = x - y by unfold kap; split <;> omega]
  · refine mr_seg 3 (pc1 := 8) (ls1 := [some (.int (nI x)), some (.int (nI y))]) (st1 := [.int ((nI y) - (nI x))]) (M1 := M) (fun f => rfl) ?_
    refine mr_v (pk_sub (a := y) (b := x) (by omega)) ?_
    refine mr_eq (mr_ret 2 (o := (some (.int (nI (y - x))), M)) (fun f => rfl)) ?_
    rw [show kap x y = y - x by unfold kap; split <;> omega]
set_option maxRecDepth 100000 in
theorem mf_isin (v l r : Nat) (hv : v < 100) (hl : l < 100) (hr : r < 100) (M : mm_H) : mm_R 135 0 [some (.int (nI v)), some (.int (nI l)), some (.int (nI r))] [] M (some (.int (cond (kbr l r v) 1 0)), M) := by
  refine mr_seg 2 (pc1 := 2) (ls1 := [some (.int (nI v)), some (.int (nI l)), some (.int (nI r))]) (st1 := [.int (nI l), .int (nI v)]) (M1 := M) (fun f => rfl) ?_
  refine mr_ifN (C := (nI v) < (nI l)) (nI_lti (a := v) (b := l) (by omega)) (fun f => rfl) (fun h1 => ?_) (fun h1 => ?_)
  · refine mr_eq (mr_ret 2 (o := (some (.int 0), M)) (fun f => rfl)) ?_
    rw [show kbr l r v = false from decide_eq_false (by omega)] <;> rfl
  · refine mr_seg 2 (pc1 := 7) (ls1 := [some (.int (nI v)), some (.int (nI l)), some (.int (nI r))]) (st1 := [.int (nI r), .int (nI v)]) (M1 := M) (fun f => rfl) ?_
    refine mr_ifN (C := (nI r) < (nI v)) (nI_lti (a := r) (b := v) (by omega)) (fun f => rfl) (fun h2 => ?_) (fun h2 => ?_)
    · refine mr_eq (mr_ret 2 (o := (some (.int 0), M)) (fun f => rfl)) ?_
      rw [show kbr l r v = false from decide_eq_false (by omega)] <;> rfl
    · refine mr_eq (mr_ret 3 (o := (some (.int 1), M)) (fun f => rfl)) ?_
      rw [show kbr l r v = true from decide_eq_true (by omega)] <;> rfl
set_option maxRecDepth 100000 in
theorem mf_isb_0_0 (v x y : Nat) (hv : v < 100) (hx : x < 100) (hy : y < 100) (hq : ¬ x ≤ y) (hb2 : kbr y x v = false) (M : mm_H) : mm_R 190 0 [some (.int (nI v)), some (.int (nI x)), some (.int (nI y))] [] M (some (.int 0), M) := by
  refine mr_seg 2 (pc1 := 2) (ls1 := [some (.int (nI v)), some (.int (nI x)), some (.int (nI y))]) (st1 := [.int (nI y), .int (nI x)]) (M1 := M) (fun f => rfl) ?_
  refine mr_t (C := (nI y) < (nI x)) (nI_ltt (a := y) (b := x) (by omega)) (fun f => rfl) ?_
  refine mr_seg 3 (pc1 := 17) (ls1 := [some (.int (nI v)), some (.int (nI x)), some (.int (nI y))]) (st1 := [.int (nI x), .int (nI y), .int (nI v)]) (M1 := M) (fun f => rfl) ?_
  refine mr_call (y := 135) (y0 := 20) (L := [some (.int (nI v)), some (.int (nI y)), some (.int (nI x))]) (rest := []) (rr := some (.int 0)) (M1 := M) (fun f => rfl) (mr_eq (mf_isin v y x (by omega) (by omega) (by omega) _) (by rw [show kbr y x v = false from hb2] <;> rfl)) ?_
  exact mr_ret 1 (fun f => rfl)
set_option maxRecDepth 100000 in
theorem mf_isb_0_1 (v x y : Nat) (hv : v < 100) (hx : x < 100) (hy : y < 100) (hq : x ≤ y) (hb2 : kbr x y v = false) (M : mm_H) : mm_R 190 0 [some (.int (nI v)), some (.int (nI x)), some (.int (nI y))] [] M (some (.int 0), M) := by
  refine mr_seg 2 (pc1 := 2) (ls1 := [some (.int (nI v)), some (.int (nI x)), some (.int (nI y))]) (st1 := [.int (nI y), .int (nI x)]) (M1 := M) (fun f => rfl) ?_
  refine mr_f (C := (nI y) < (nI x)) (nI_ltf (a := y) (b := x) (by omega)) (fun f => rfl) ?_
  refine mr_seg 3 (pc1 := 8) (ls1 := [some (.int (nI v)), some (.int (nI x)), some (.int (nI y))]) (st1 := [.int (nI y), .int (nI x), .int (nI v)]) (M1 := M) (fun f => rfl) ?_
  refine mr_call (y := 135) (y0 := 11) (L := [some (.int (nI v)), some (.int (nI x)), some (.int (nI y))]) (rest := []) (rr := some (.int 0)) (M1 := M) (fun f => rfl) (mr_eq (mf_isin v x y (by omega) (by omega) (by omega) _) (by rw [show kbr x y v = false from hb2] <;> rfl)) ?_
  exact mr_ret 2 (fun f => rfl)
set_option maxRecDepth 100000 in
theorem mf_isb_1_0 (v x y : Nat) (hv : v < 100) (hx : x < 100) (hy : y < 100) (hq : ¬ x ≤ y) (hb2 : kbr y x v = true) (M : mm_H) : mm_R 190 0 [some (.int (nI v)), some (.int (nI x)), some (.int (nI y))] [] M (some (.int 1), M) := by
  refine mr_seg 2 (pc1 := 2) (ls1 := [some (.int (nI v)), some (.int (nI x)), some (.int (nI y))]) (st1 := [.int (nI y), .int (nI x)]) (M1 := M) (fun f => rfl) ?_
  refine mr_t (C := (nI y) < (nI x)) (nI_ltt (a := y) (b := x) (by omega)) (fun f => rfl) ?_
  refine mr_seg 3 (pc1 := 17) (ls1 := [some (.int (nI v)), some (.int (nI x)), some (.int (nI y))]) (st1 := [.int (nI x), .int (nI y), .int (nI v)]) (M1 := M) (fun f => rfl) ?_
  refine mr_call (y := 135) (y0 := 20) (L := [some (.int (nI v)), some (.int (nI y)), some (.int (nI x))]) (rest := []) (rr := some (.int 1)) (M1 := M) (fun f => rfl) (mr_eq (mf_isin v y x (by omega) (by omega) (by omega) _) (by rw [show kbr y x v = true from hb2] <;> rfl)) ?_
  exact mr_ret 1 (fun f => rfl)
set_option maxRecDepth 100000 in
theorem mf_isb_1_1 (v x y : Nat) (hv : v < 100) (hx : x < 100) (hy : y < 100) (hq : x ≤ y) (hb2 : kbr x y v = true) (M : mm_H) : mm_R 190 0 [some (.int (nI v)), some (.int (nI x)), some (.int (nI y))] [] M (some (.int 1), M) := by
  refine mr_seg 2 (pc1 := 2) (ls1 := [some (.int (nI v)), some (.int (nI x)), some (.int (nI y))]) (st1 := [.int (nI y), .int (nI x)]) (M1 := M) (fun f => rfl) ?_
  refine mr_f (C := (nI y) < (nI x)) (nI_ltf (a := y) (b := x) (by omega)) (fun f => rfl) ?_
  refine mr_seg 3 (pc1 := 8) (ls1 := [some (.int (nI v)), some (.int (nI x)), some (.int (nI y))]) (st1 := [.int (nI y), .int (nI x), .int (nI v)]) (M1 := M) (fun f => rfl) ?_
  refine mr_call (y := 135) (y0 := 11) (L := [some (.int (nI v)), some (.int (nI x)), some (.int (nI y))]) (rest := []) (rr := some (.int 1)) (M1 := M) (fun f => rfl) (mr_eq (mf_isin v x y (by omega) (by omega) (by omega) _) (by rw [show kbr x y v = true from hb2] <;> rfl)) ?_
  exact mr_ret 2 (fun f => rfl)
theorem mf_isb (v x y : Nat) (hv : v < 100) (hx : x < 100) (hy : y < 100) (M : mm_H) : mm_R 190 0 [some (.int (nI v)), some (.int (nI x)), some (.int (nI y))] [] M (some (.int (nI (ki1 (kbr (min x y) (max x y) v) 1))), M) := by
  by_cases hq : x ≤ y
  · rw [Nat.min_eq_left hq, Nat.max_eq_right hq]
    cases hb2 : kbr x y v with
    | false => exact mf_isb_0_1 v x y hv hx hy hq hb2 M
    | true => exact mf_isb_1_1 v x y hv hx hy hq hb2 M
  · have hq2 : y ≤ x := by omega
    rw [Nat.min_eq_right hq2, Nat.max_eq_left hq2]
    cases hb2 : kbr y x v with
    | false => exact mf_isb_0_0 v x y hv hx hy hq hb2 M
    | true => exact mf_isb_1_0 v x y hv hx hy hq hb2 M
set_option maxRecDepth 100000 in
theorem mf_bits0 (ke : List Nat) (v2 : ke.length = 25) (v13 : ∀ i, kg ke i ≤ 1) (M : mm_H) (k : Nat) : ∀ j, j + k = 25 → mm_R 192 4 [some (.int (nI (kbits ke))), some (.int (nI (ksum ke j))), some (.int (nI j))] [] M (some (.int (nI (ksum ke 25))), M) := by
  induction k with
  | zero =>
    intro j hj
    have q1 := ksum_le v13 j
    have q2 := v13 j
    refine mr_seg 2 (pc1 := 7) (ls1 := [some (.int (nI (kbits ke))), some (.int (nI (ksum ke j))), some (.int (nI j))]) (st1 := [.int 25, .int (nI j)]) (M1 := M) (fun f => rfl) ?_
    refine mr_t (C := 25 ≤ (nI j)) (nI_let (a := 25) (b := j) (by omega)) (fun f => rfl) ?_
    refine mr_eq (mr_ret 2 (o := (some (.int (nI (ksum ke j))), M)) (fun f => rfl)) ?_
    rw [show j = 25 by omega]
  | succ k IH =>
    intro j hj
    have q1 := ksum_le v13 j
    have q2 := v13 j
    refine mr_seg 2 (pc1 := 7) (ls1 := [some (.int (nI (kbits ke))), some (.int (nI (ksum ke j))), some (.int (nI j))]) (st1 := [.int 25, .int (nI j)]) (M1 := M) (fun f => rfl) ?_
    refine mr_f (C := 25 ≤ (nI j)) (nI_lef (a := 25) (b := j) (by omega)) (fun f => rfl) ?_
    refine mr_seg 6 (pc1 := 16) (ls1 := [some (.int (nI (kbits ke))), some (.int (nI (ksum ke j))), some (.int (nI j))]) (st1 := [.int (((nI (kbits ke)) >>> ((nI j) &&& 31)) &&& 1), .int (nI (ksum ke j))]) (M1 := M) (fun f => rfl) ?_
    refine mr_v (kb_has v2 v13 (by omega)) ?_
    refine mr_seg 1 (pc1 := 17) (ls1 := [some (.int (nI (kbits ke))), some (.int (nI (ksum ke j))), some (.int (nI j))]) (st1 := [.int ((nI (ksum ke j)) + (nI (kg ke j)))]) (M1 := M) (fun f => rfl) ?_
    refine mr_v (nI_add (ksum ke j) (kg ke j)) ?_
    refine mr_seg 2 (pc1 := 21) (ls1 := [some (.int (nI (kbits ke))), some (.int (nI (ksum ke j + kg ke j))), some (.int ((nI j) + 1))]) (st1 := []) (M1 := M) (fun f => rfl) ?_
    refine mr_l (fun q_ => [some (.int (nI (kbits ke))), some (.int (nI (ksum ke j + kg ke j))), some (.int q_)]) (nI_add j 1) ?_
    refine mr_seg 1 (pc1 := 4) (ls1 := [some (.int (nI (kbits ke))), some (.int (nI (ksum ke j + kg ke j))), some (.int (nI (j + 1)))]) (st1 := []) (M1 := M) (fun f => rfl) ?_
    exact IH (j + 1) (by omega)
theorem mf_bits (ke : List Nat) (v2 : ke.length = 25) (v13 : ∀ i, kg ke i ≤ 1) (M : mm_H) : mm_R 192 0 [some (.int (nI (kbits ke))), none, none] [] M (some (.int (nI (ksum ke 25))), M) := by
  refine mr_seg 4 (pc1 := 4) (ls1 := [some (.int (nI (kbits ke))), some (.int 0), some (.int 0)]) (st1 := []) (M1 := M) (fun f => rfl) ?_
  exact mf_bits0 ke v2 v13 M 25 0 (by omega)
theorem ki1_le (b : Bool) : ki1 b 1 ≤ 1 := by cases b <;> decide
theorem ki1_0 {b : Bool} (h : ki1 b 1 = 0) : b = false := by
  cases b with
  | false => rfl
  | true => exact absurd h (by decide)
theorem ki1_1 {b : Bool} (h : ¬ ki1 b 1 = 0) : b = true := by
  cases b with
  | false => exact absurd rfl h
  | true => rfl
theorem kbw_s {P : Nat → Nat} {r j f v : Nat} (h : P j = v) : kbw P (r + 1) j f = kbw P r (j + 1) (f + v) := by
  show kbw P r (j + 1) (f + P j) = _
  rw [h]
set_option maxRecDepth 100000 in
theorem tm_farL0 (he ke ki fi fa or : List Nat) (mi a g l w s : Nat) (xi : List Int32) (im : Nat) (le nu rf : List Nat) (ln nn : Nat) (c : cC) (n m kk : kG) (hA : iA (he, ke, ki, fi, fa, or, mi, a, g, l, w, s)) (hC : iC nu nn) (A1 A2 : Nat) (k : Nat) : ∀ (j : Nat) (b : Nat) (f : Nat) (xm xw : List Int32) (vp : Int32) (xn xc : List Int32) (vs : Int32), j + k = 25 → iR xm xw xn xc → b < 25 → A1 = ktl he k j b → A2 = kbw (fun c => ki1 (kbr (min (a / 5) (g / 5)) (max (a / 5) (g / 5)) (c / 5) && kbr (min (a % 5) (g % 5)) (max (a % 5) (g % 5)) (c % 5)) (kg ke c)) k j f → f ≤ j → mm_E 189 39 [some (.ref 138), some (.int 0), some (.int (nI a)), some (.int (nI g)), some (.int (nI b)), some (.int (nI f)), some (.int (nI j))] [] (mk_M c n m kk (rT (he, ke, ki, fi, fa, or, mi, a, g, l, w, s) xm xi xw im le nu rf ln nn vp xn xc vs)) (pM (fun r => r = some (.int (nI (kap (a / 5) (g / 5) + kap (a % 5) (g % 5))))) (he, ke, ki, fi, fa, or, mi, a, g, l, w, s) xi im le nu rf ln nn c n m kk) := by
  obtain ⟨hV, hst⟩ := id hA
  have hst2 : s ≤ 999 := hst
  obtain ⟨v1, v2, v3, v4, v5, v6, v7, v8, v9, v10, v11, v12, v13, v14, v15, v16⟩ := id hV
  have v6l := kO_len mi v7 or v6
  obtain ⟨c1, c2, c3⟩ := id hC
  induction k with
  | zero =>
    intro j b f xm xw vp xn xc vs hj hR g0 g1 g2 g3
    obtain ⟨r1, r2, r3, r4⟩ := id hR
    have f1 := v12 b
    have f2 := v12 j
    have f3 := v13 j
    have i1 := ki1_le (kbr (min (a / 5) (g / 5)) (max (a / 5) (g / 5)) (j / 5))
    have i2 := ki1_le (kbr (min (a % 5) (g % 5)) (max (a % 5) (g % 5)) (j % 5))
    have k1 := kap_le (show a / 5 < 5 by omega) (show g / 5 < 5 by omega)
    have k2 := kap_le (show a % 5 < 5 by omega) (show g % 5 < 5 by omega)
    refine me_seg 2 (pc1 := 43) (ls1 := [some (.ref 138), some (.int 0), some (.int (nI a)), some (.int (nI g)), some (.int (nI b)), some (.int (nI f)), some (.int (nI j))]) (st1 := [.int 25, .int (nI j)]) (M1 := (mk_M c n m kk (rT (he, ke, ki, fi, fa, or, mi, a, g, l, w, s) xm xi xw im le nu rf ln nn vp xn xc vs))) (fun f => rfl) ?_
    refine me_t (C := 25 ≤ (nI j)) (nI_let (a := 25) (b := j) (by omega)) (fun f => rfl) ?_
    refine me_seg 5 (pc1 := 136) (ls1 := [some (.ref 138), some (.int 0), some (.int (nI a)), some (.int (nI g)), some (.int (nI b)), some (.int (nI f)), some (.int (nI j))]) (st1 := [.int ((nI a) / (5 : Int32))]) (M1 := (mk_M c n m kk (rT (he, ke, ki, fi, fa, or, mi, a, g, l, w, s) xm xi xw im le nu rf ln nn vp xn xc vs))) (fun f => rfl) ?_
    refine me_v (pk_div (a := a) (d := 5) (by omega) (by decide) (by decide)) ?_
    refine me_seg 3 (pc1 := 139) (ls1 := [some (.ref 138), some (.int 0), some (.int (nI a)), some (.int (nI g)), some (.int (nI b)), some (.int (nI f)), some (.int (nI j))]) (st1 := [.int ((nI g) / (5 : Int32)), .int (nI (a / 5))]) (M1 := (mk_M c n m kk (rT (he, ke, ki, fi, fa, or, mi, a, g, l, w, s) xm xi xw im le nu rf ln nn vp xn xc vs))) (fun f => rfl) ?_
    refine me_v (pk_div (a := g) (d := 5) (by omega) (by decide) (by decide)) ?_
    refine me_call (y := 191) (y0 := 142) (L := [some (.int (nI (a / 5))), some (.int (nI (g / 5)))]) (rest := []) (rr := some (.int (nI (kap (a / 5) (g / 5))))) (M1 := (mk_M c n m kk (rT (he, ke, ki, fi, fa, or, mi, a, g, l, w, s) xm xi xw im le nu rf ln nn vp xn xc vs))) (fun f => rfl) (mf_apart (a / 5) (g / 5) (by omega) (by omega) _) ?_
    refine me_seg 3 (pc1 := 145) (ls1 := [some (.ref 138), some (.int 0), some (.int (nI a)), some (.int (nI g)), some (.int (nI b)), some (.int (nI f)), some (.int (nI j))]) (st1 := [.int ((nI a) - (nI a) / (5 : Int32) * (5 : Int32)), .int (nI (kap (a / 5) (g / 5)))]) (M1 := (mk_M c n m kk (rT (he, ke, ki, fi, fa, or, mi, a, g, l, w, s) xm xi xw im le nu rf ln nn vp xn xc vs))) (fun f => rfl) ?_
    refine me_v (pk_rem (a := a) (d := 5) (by omega) (by decide) (by decide)) ?_
    refine me_seg 3 (pc1 := 148) (ls1 := [some (.ref 138), some (.int 0), some (.int (nI a)), some (.int (nI g)), some (.int (nI b)), some (.int (nI f)), some (.int (nI j))]) (st1 := [.int ((nI g) - (nI g) / (5 : Int32) * (5 : Int32)), .int (nI (a % 5)), .int (nI (kap (a / 5) (g / 5)))]) (M1 := (mk_M c n m kk (rT (he, ke, ki, fi, fa, or, mi, a, g, l, w, s) xm xi xw im le nu rf ln nn vp xn xc vs))) (fun f => rfl) ?_
    refine me_v (pk_rem (a := g) (d := 5) (by omega) (by decide) (by decide)) ?_
    refine me_call (y := 191) (y0 := 151) (L := [some (.int (nI (a % 5))), some (.int (nI (g % 5)))]) (rest := [.int (nI (kap (a / 5) (g / 5)))]) (rr := some (.int (nI (kap (a % 5) (g % 5))))) (M1 := (mk_M c n m kk (rT (he, ke, ki, fi, fa, or, mi, a, g, l, w, s) xm xi xw im le nu rf ln nn vp xn xc vs))) (fun f => rfl) (mf_apart (a % 5) (g % 5) (by omega) (by omega) _) ?_
    refine me_seg 1 (pc1 := 152) (ls1 := [some (.ref 138), some (.int 0), some (.int (nI a)), some (.int (nI g)), some (.int (nI b)), some (.int (nI f)), some (.int (nI j))]) (st1 := [.int ((nI (kap (a / 5) (g / 5))) + (nI (kap (a % 5) (g % 5))))]) (M1 := (mk_M c n m kk (rT (he, ke, ki, fi, fa, or, mi, a, g, l, w, s) xm xi xw im le nu rf ln nn vp xn xc vs))) (fun f => rfl) ?_
    refine me_v (nI_add (kap (a / 5) (g / 5)) (kap (a % 5) (g % 5))) ?_
    refine me_ret 2 (r := some (.int (nI (kap (a / 5) (g / 5) + kap (a % 5) (g % 5))))) (M1 := (mk_M c n m kk (rT (he, ke, ki, fi, fa, or, mi, a, g, l, w, s) xm xi xw im le nu rf ln nn vp xn xc vs))) (fun f => rfl) ?_
    exact ⟨rfl, _, _, _, _, _, _, rfl, ⟨(by assumption), (by assumption), (by assumption), (by assumption)⟩⟩
  | succ k IH =>
    intro j b f xm xw vp xn xc vs hj hR g0 g1 g2 g3
    obtain ⟨r1, r2, r3, r4⟩ := id hR
    have f1 := v12 b
    have f2 := v12 j
    have f3 := v13 j
    have i1 := ki1_le (kbr (min (a / 5) (g / 5)) (max (a / 5) (g / 5)) (j / 5))
    have i2 := ki1_le (kbr (min (a % 5) (g % 5)) (max (a % 5) (g % 5)) (j % 5))
    have k1 := kap_le (show a / 5 < 5 by omega) (show g / 5 < 5 by omega)
    have k2 := kap_le (show a % 5 < 5 by omega) (show g % 5 < 5 by omega)
    refine me_seg 2 (pc1 := 43) (ls1 := [some (.ref 138), some (.int 0), some (.int (nI a)), some (.int (nI g)), some (.int (nI b)), some (.int (nI f)), some (.int (nI j))]) (st1 := [.int 25, .int (nI j)]) (M1 := (mk_M c n m kk (rT (he, ke, ki, fi, fa, or, mi, a, g, l, w, s) xm xi xw im le nu rf ln nn vp xn xc vs))) (fun f => rfl) ?_
    refine me_f (C := 25 ≤ (nI j)) (nI_lef (a := 25) (b := j) (by omega)) (fun f => rfl) ?_
    refine me_seg 5 (pc1 := 55) (ls1 := [some (.ref 138), some (.int 0), some (.int (nI a)), some (.int (nI g)), some (.int (nI b)), some (.int (nI f)), some (.int (nI j))]) (st1 := [.int ((7 : Int32) + (nI j)), .ref 139]) (M1 := (mk_M c n m kk (rT (he, ke, ki, fi, fa, or, mi, a, g, l, w, s) xm xi xw im le nu rf ln nn vp xn xc vs))) (fun f => rfl) ?_
    refine me_v (nI_add 7 j) ?_
    refine me_ldn (xs := (er (he, ke, ki, fi, fa, or, mi, a, g, l, w, s))) rfl rfl (k := 7 + j) (by omega) (er_h (K := (he, ke, ki, fi, fa, or, mi, a, g, l, w, s)) v1 (by omega)) ?_
    refine me_seg 5 (pc1 := 65) (ls1 := [some (.ref 138), some (.int 0), some (.int (nI a)), some (.int (nI g)), some (.int (nI b)), some (.int (nI f)), some (.int (nI j))]) (st1 := [.int ((7 : Int32) + (nI b)), .ref 139, .int (nI (kg he j))]) (M1 := (mk_M c n m kk (rT (he, ke, ki, fi, fa, or, mi, a, g, l, w, s) xm xi xw im le nu rf ln nn vp xn xc vs))) (fun f => rfl) ?_
    refine me_v (nI_add 7 b) ?_
    refine me_ldn (xs := (er (he, ke, ki, fi, fa, or, mi, a, g, l, w, s))) rfl rfl (k := 7 + b) (by omega) (er_h (K := (he, ke, ki, fi, fa, or, mi, a, g, l, w, s)) v1 (by omega)) ?_
    refine me_ifN (C := (nI (kg he j)) ≤ (nI (kg he b))) (nI_lei (a := kg he j) (b := kg he b) (by omega)) (fun f => rfl) (fun h1 => ?_) (fun h1 => ?_)
    · refine me_seg 3 (pc1 := 79) (ls1 := [some (.ref 138), some (.int 0), some (.int (nI a)), some (.int (nI g)), some (.int (nI b)), some (.int (nI f)), some (.int (nI j))]) (st1 := [.int 6, .ref 139]) (M1 := (mk_M c n m kk (rT (he, ke, ki, fi, fa, or, mi, a, g, l, w, s) xm xi xw im le nu rf ln nn vp xn xc vs))) (fun f => rfl) ?_
      refine me_ldn (xs := (er (he, ke, ki, fi, fa, or, mi, a, g, l, w, s))) rfl rfl (k := 6) (by decide) rfl ?_
      refine me_seg 1 (pc1 := 82) (ls1 := [some (.ref 138), some (.int 0), some (.int (nI a)), some (.int (nI g)), some (.int (nI b)), some (.int (nI f)), some (.int (nI j))]) (st1 := [.int (nI j), .int (nI (kbits ke))]) (M1 := (mk_M c n m kk (rT (he, ke, ki, fi, fa, or, mi, a, g, l, w, s) xm xi xw im le nu rf ln nn vp xn xc vs))) (fun f => rfl) ?_
      refine me_call (y := 151) (y0 := 85) (L := [some (.int (nI (kbits ke))), some (.int (nI j))]) (rest := []) (rr := some (.int (nI (kg ke j)))) (M1 := (mk_M c n m kk (rT (he, ke, ki, fi, fa, or, mi, a, g, l, w, s) xm xi xw im le nu rf ln nn vp xn xc vs))) (fun f => rfl) (rc_has ke j (by omega) v2 v13 _) ?_
      refine me_ifN (C := (nI (kg ke j)) = 0) (nI_eqi (a := kg ke j) (b := 0) (by omega)) (fun f => rfl) (fun h2 => ?_) (fun h2 => ?_)
      · refine me_seg 1 (pc1 := 126) (ls1 := [some (.ref 138), some (.int 0), some (.int (nI a)), some (.int (nI g)), some (.int (nI b)), some (.int (nI f)), some (.int ((nI j) + 1))]) (st1 := []) (M1 := (mk_M c n m kk (rT (he, ke, ki, fi, fa, or, mi, a, g, l, w, s) xm xi xw im le nu rf ln nn vp xn xc vs))) (fun f => rfl) ?_
        refine me_l (fun q_ => [some (.ref 138), some (.int 0), some (.int (nI a)), some (.int (nI g)), some (.int (nI b)), some (.int (nI f)), some (.int q_)]) (nI_add j 1) ?_
        refine me_seg 1 (pc1 := 39) (ls1 := [some (.ref 138), some (.int 0), some (.int (nI a)), some (.int (nI g)), some (.int (nI b)), some (.int (nI f)), some (.int (nI (j + 1)))]) (st1 := []) (M1 := (mk_M c n m kk (rT (he, ke, ki, fi, fa, or, mi, a, g, l, w, s) xm xi xw im le nu rf ln nn vp xn xc vs))) (fun f => rfl) ?_
        exact IH (j + 1) b f xm xw vp xn xc vs (by omega) ⟨(by assumption), (by assumption), (by assumption), (by assumption)⟩ (by omega) (g1.trans (ktl_f (by omega))) (g2.trans ((kbw_s (P := (fun c => ki1 (kbr (min (a / 5) (g / 5)) (max (a / 5) (g / 5)) (c / 5) && kbr (min (a % 5) (g % 5)) (max (a % 5) (g % 5)) (c % 5)) (kg ke c))) (j := j) (v := 0) (show ki1 ((kbr (min (a / 5) (g / 5)) (max (a / 5) (g / 5)) (j / 5)) && (kbr (min (a % 5) (g % 5)) (max (a % 5) (g % 5)) (j % 5))) (kg ke j) = 0 by rw [h2]; cases ((kbr (min (a / 5) (g / 5)) (max (a / 5) (g / 5)) (j / 5)) && (kbr (min (a % 5) (g % 5)) (max (a % 5) (g % 5)) (j % 5))) <;> rfl)).trans rfl)) (by omega)
      · refine me_seg 3 (pc1 := 92) (ls1 := [some (.ref 138), some (.int 0), some (.int (nI a)), some (.int (nI g)), some (.int (nI b)), some (.int (nI f)), some (.int (nI j))]) (st1 := [.int ((nI j) / (5 : Int32))]) (M1 := (mk_M c n m kk (rT (he, ke, ki, fi, fa, or, mi, a, g, l, w, s) xm xi xw im le nu rf ln nn vp xn xc vs))) (fun f => rfl) ?_
        refine me_v (pk_div (a := j) (d := 5) (by omega) (by decide) (by decide)) ?_
        refine me_seg 3 (pc1 := 95) (ls1 := [some (.ref 138), some (.int 0), some (.int (nI a)), some (.int (nI g)), some (.int (nI b)), some (.int (nI f)), some (.int (nI j))]) (st1 := [.int ((nI a) / (5 : Int32)), .int (nI (j / 5))]) (M1 := (mk_M c n m kk (rT (he, ke, ki, fi, fa, or, mi, a, g, l, w, s) xm xi xw im le nu rf ln nn vp xn xc vs))) (fun f => rfl) ?_
        refine me_v (pk_div (a := a) (d := 5) (by omega) (by decide) (by decide)) ?_
        refine me_seg 3 (pc1 := 98) (ls1 := [some (.ref 138), some (.int 0), some (.int (nI a)), some (.int (nI g)), some (.int (nI b)), some (.int (nI f)), some (.int (nI j))]) (st1 := [.int ((nI g) / (5 : Int32)), .int (nI (a / 5)), .int (nI (j / 5))]) (M1 := (mk_M c n m kk (rT (he, ke, ki, fi, fa, or, mi, a, g, l, w, s) xm xi xw im le nu rf ln nn vp xn xc vs))) (fun f => rfl) ?_
        refine me_v (pk_div (a := g) (d := 5) (by omega) (by decide) (by decide)) ?_
        refine me_call (y := 190) (y0 := 101) (L := [some (.int (nI (j / 5))), some (.int (nI (a / 5))), some (.int (nI (g / 5)))]) (rest := []) (rr := some (.int (nI (ki1 (kbr (min (a / 5) (g / 5)) (max (a / 5) (g / 5)) (j / 5)) 1)))) (M1 := (mk_M c n m kk (rT (he, ke, ki, fi, fa, or, mi, a, g, l, w, s) xm xi xw im le nu rf ln nn vp xn xc vs))) (fun f => rfl) (mf_isb (j / 5) (a / 5) (g / 5) (by omega) (by omega) (by omega) _) ?_
        refine me_ifN (C := (nI (ki1 (kbr (min (a / 5) (g / 5)) (max (a / 5) (g / 5)) (j / 5)) 1)) = 0) (nI_eqi (a := ki1 (kbr (min (a / 5) (g / 5)) (max (a / 5) (g / 5)) (j / 5)) 1) (b := 0) (by omega)) (fun f => rfl) (fun h3 => ?_) (fun h3 => ?_)
        · refine me_seg 1 (pc1 := 126) (ls1 := [some (.ref 138), some (.int 0), some (.int (nI a)), some (.int (nI g)), some (.int (nI b)), some (.int (nI f)), some (.int ((nI j) + 1))]) (st1 := []) (M1 := (mk_M c n m kk (rT (he, ke, ki, fi, fa, or, mi, a, g, l, w, s) xm xi xw im le nu rf ln nn vp xn xc vs))) (fun f => rfl) ?_
          refine me_l (fun q_ => [some (.ref 138), some (.int 0), some (.int (nI a)), some (.int (nI g)), some (.int (nI b)), some (.int (nI f)), some (.int q_)]) (nI_add j 1) ?_
          refine me_seg 1 (pc1 := 39) (ls1 := [some (.ref 138), some (.int 0), some (.int (nI a)), some (.int (nI g)), some (.int (nI b)), some (.int (nI f)), some (.int (nI (j + 1)))]) (st1 := []) (M1 := (mk_M c n m kk (rT (he, ke, ki, fi, fa, or, mi, a, g, l, w, s) xm xi xw im le nu rf ln nn vp xn xc vs))) (fun f => rfl) ?_
          exact IH (j + 1) b f xm xw vp xn xc vs (by omega) ⟨(by assumption), (by assumption), (by assumption), (by assumption)⟩ (by omega) (g1.trans (ktl_f (by omega))) (g2.trans ((kbw_s (P := (fun c => ki1 (kbr (min (a / 5) (g / 5)) (max (a / 5) (g / 5)) (c / 5) && kbr (min (a % 5) (g % 5)) (max (a % 5) (g % 5)) (c % 5)) (kg ke c))) (j := j) (v := 0) (show ki1 ((kbr (min (a / 5) (g / 5)) (max (a / 5) (g / 5)) (j / 5)) && (kbr (min (a % 5) (g % 5)) (max (a % 5) (g % 5)) (j % 5))) (kg ke j) = 0 by rw [ki1_0 h3]; rfl)).trans rfl)) (by omega)
        · refine me_seg 3 (pc1 := 108) (ls1 := [some (.ref 138), some (.int 0), some (.int (nI a)), some (.int (nI g)), some (.int (nI b)), some (.int (nI f)), some (.int (nI j))]) (st1 := [.int ((nI j) - (nI j) / (5 : Int32) * (5 : Int32))]) (M1 := (mk_M c n m kk (rT (he, ke, ki, fi, fa, or, mi, a, g, l, w, s) xm xi xw im le nu rf ln nn vp xn xc vs))) (fun f => rfl) ?_
          refine me_v (pk_rem (a := j) (d := 5) (by omega) (by decide) (by decide)) ?_
          refine me_seg 3 (pc1 := 111) (ls1 := [some (.ref 138), some (.int 0), some (.int (nI a)), some (.int (nI g)), some (.int (nI b)), some (.int (nI f)), some (.int (nI j))]) (st1 := [.int ((nI a) - (nI a) / (5 : Int32) * (5 : Int32)), .int (nI (j % 5))]) (M1 := (mk_M c n m kk (rT (he, ke, ki, fi, fa, or, mi, a, g, l, w, s) xm xi xw im le nu rf ln nn vp xn xc vs))) (fun f => rfl) ?_
          refine me_v (pk_rem (a := a) (d := 5) (by omega) (by decide) (by decide)) ?_
          refine me_seg 3 (pc1 := 114) (ls1 := [some (.ref 138), some (.int 0), some (.int (nI a)), some (.int (nI g)), some (.int (nI b)), some (.int (nI f)), some (.int (nI j))]) (st1 := [.int ((nI g) - (nI g) / (5 : Int32) * (5 : Int32)), .int (nI (a % 5)), .int (nI (j % 5))]) (M1 := (mk_M c n m kk (rT (he, ke, ki, fi, fa, or, mi, a, g, l, w, s) xm xi xw im le nu rf ln nn vp xn xc vs))) (fun f => rfl) ?_
          refine me_v (pk_rem (a := g) (d := 5) (by omega) (by decide) (by decide)) ?_
          refine me_call (y := 190) (y0 := 117) (L := [some (.int (nI (j % 5))), some (.int (nI (a % 5))), some (.int (nI (g % 5)))]) (rest := []) (rr := some (.int (nI (ki1 (kbr (min (a % 5) (g % 5)) (max (a % 5) (g % 5)) (j % 5)) 1)))) (M1 := (mk_M c n m kk (rT (he, ke, ki, fi, fa, or, mi, a, g, l, w, s) xm xi xw im le nu rf ln nn vp xn xc vs))) (fun f => rfl) (mf_isb (j % 5) (a % 5) (g % 5) (by omega) (by omega) (by omega) _) ?_
          refine me_ifN (C := (nI (ki1 (kbr (min (a % 5) (g % 5)) (max (a % 5) (g % 5)) (j % 5)) 1)) = 0) (nI_eqi (a := ki1 (kbr (min (a % 5) (g % 5)) (max (a % 5) (g % 5)) (j % 5)) 1) (b := 0) (by omega)) (fun f => rfl) (fun h4 => ?_) (fun h4 => ?_)
          · refine me_seg 1 (pc1 := 126) (ls1 := [some (.ref 138), some (.int 0), some (.int (nI a)), some (.int (nI g)), some (.int (nI b)), some (.int (nI f)), some (.int ((nI j) + 1))]) (st1 := []) (M1 := (mk_M c n m kk (rT (he, ke, ki, fi, fa, or, mi, a, g, l, w, s) xm xi xw im le nu rf ln nn vp xn xc vs))) (fun f => rfl) ?_
            refine me_l (fun q_ => [some (.ref 138), some (.int 0), some (.int (nI a)), some (.int (nI g)), some (.int (nI b)), some (.int (nI f)), some (.int q_)]) (nI_add j 1) ?_
            refine me_seg 1 (pc1 := 39) (ls1 := [some (.ref 138), some (.int 0), some (.int (nI a)), some (.int (nI g)), some (.int (nI b)), some (.int (nI f)), some (.int (nI (j + 1)))]) (st1 := []) (M1 := (mk_M c n m kk (rT (he, ke, ki, fi, fa, or, mi, a, g, l, w, s) xm xi xw im le nu rf ln nn vp xn xc vs))) (fun f => rfl) ?_
            exact IH (j + 1) b f xm xw vp xn xc vs (by omega) ⟨(by assumption), (by assumption), (by assumption), (by assumption)⟩ (by omega) (g1.trans (ktl_f (by omega))) (g2.trans ((kbw_s (P := (fun c => ki1 (kbr (min (a / 5) (g / 5)) (max (a / 5) (g / 5)) (c / 5) && kbr (min (a % 5) (g % 5)) (max (a % 5) (g % 5)) (c % 5)) (kg ke c))) (j := j) (v := 0) (show ki1 ((kbr (min (a / 5) (g / 5)) (max (a / 5) (g / 5)) (j / 5)) && (kbr (min (a % 5) (g % 5)) (max (a % 5) (g % 5)) (j % 5))) (kg ke j) = 0 by rw [ki1_0 h4, Bool.and_false]; rfl)).trans rfl)) (by omega)
          · refine me_seg 1 (pc1 := 123) (ls1 := [some (.ref 138), some (.int 0), some (.int (nI a)), some (.int (nI g)), some (.int (nI b)), some (.int ((nI f) + 1)), some (.int (nI j))]) (st1 := []) (M1 := (mk_M c n m kk (rT (he, ke, ki, fi, fa, or, mi, a, g, l, w, s) xm xi xw im le nu rf ln nn vp xn xc vs))) (fun f => rfl) ?_
            refine me_l (fun q_ => [some (.ref 138), some (.int 0), some (.int (nI a)), some (.int (nI g)), some (.int (nI b)), some (.int q_), some (.int (nI j))]) (nI_add f 1) ?_
            refine me_seg 1 (pc1 := 126) (ls1 := [some (.ref 138), some (.int 0), some (.int (nI a)), some (.int (nI g)), some (.int (nI b)), some (.int (nI (f + 1))), some (.int ((nI j) + 1))]) (st1 := []) (M1 := (mk_M c n m kk (rT (he, ke, ki, fi, fa, or, mi, a, g, l, w, s) xm xi xw im le nu rf ln nn vp xn xc vs))) (fun f => rfl) ?_
            refine me_l (fun q_ => [some (.ref 138), some (.int 0), some (.int (nI a)), some (.int (nI g)), some (.int (nI b)), some (.int (nI (f + 1))), some (.int q_)]) (nI_add j 1) ?_
            refine me_seg 1 (pc1 := 39) (ls1 := [some (.ref 138), some (.int 0), some (.int (nI a)), some (.int (nI g)), some (.int (nI b)), some (.int (nI (f + 1))), some (.int (nI (j + 1)))]) (st1 := []) (M1 := (mk_M c n m kk (rT (he, ke, ki, fi, fa, or, mi, a, g, l, w, s) xm xi xw im le nu rf ln nn vp xn xc vs))) (fun f => rfl) ?_
            exact IH (j + 1) b (f + 1) xm xw vp xn xc vs (by omega) ⟨(by assumption), (by assumption), (by assumption), (by assumption)⟩ (by omega) (g1.trans (ktl_f (by omega))) (g2.trans (kbw_s (P := (fun c => ki1 (kbr (min (a / 5) (g / 5)) (max (a / 5) (g / 5)) (c / 5) && kbr (min (a % 5) (g % 5)) (max (a % 5) (g % 5)) (c % 5)) (kg ke c))) (j := j) (show ki1 ((kbr (min (a / 5) (g / 5)) (max (a / 5) (g / 5)) (j / 5)) && (kbr (min (a % 5) (g % 5)) (max (a % 5) (g % 5)) (j % 5))) (kg ke j) = 1 by rw [ki1_1 h3, ki1_1 h4]; show kg ke j = 1; omega))) (by omega)
    · refine me_seg 5 (pc1 := 79) (ls1 := [some (.ref 138), some (.int 0), some (.int (nI a)), some (.int (nI g)), some (.int (nI j)), some (.int (nI f)), some (.int (nI j))]) (st1 := [.int 6, .ref 139]) (M1 := (mk_M c n m kk (rT (he, ke, ki, fi, fa, or, mi, a, g, l, w, s) xm xi xw im le nu rf ln nn vp xn xc vs))) (fun f => rfl) ?_
      refine me_ldn (xs := (er (he, ke, ki, fi, fa, or, mi, a, g, l, w, s))) rfl rfl (k := 6) (by decide) rfl ?_
      refine me_seg 1 (pc1 := 82) (ls1 := [some (.ref 138), some (.int 0), some (.int (nI a)), some (.int (nI g)), some (.int (nI j)), some (.int (nI f)), some (.int (nI j))]) (st1 := [.int (nI j), .int (nI (kbits ke))]) (M1 := (mk_M c n m kk (rT (he, ke, ki, fi, fa, or, mi, a, g, l, w, s) xm xi xw im le nu rf ln nn vp xn xc vs))) (fun f => rfl) ?_
      refine me_call (y := 151) (y0 := 85) (L := [some (.int (nI (kbits ke))), some (.int (nI j))]) (rest := []) (rr := some (.int (nI (kg ke j)))) (M1 := (mk_M c n m kk (rT (he, ke, ki, fi, fa, or, mi, a, g, l, w, s) xm xi xw im le nu rf ln nn vp xn xc vs))) (fun f => rfl) (rc_has ke j (by omega) v2 v13 _) ?_
      refine me_ifN (C := (nI (kg ke j)) = 0) (nI_eqi (a := kg ke j) (b := 0) (by omega)) (fun f => rfl) (fun h5 => ?_) (fun h5 => ?_)
      · refine me_seg 1 (pc1 := 126) (ls1 := [some (.ref 138), some (.int 0), some (.int (nI a)), some (.int (nI g)), some (.int (nI j)), some (.int (nI f)), some (.int ((nI j) + 1))]) (st1 := []) (M1 := (mk_M c n m kk (rT (he, ke, ki, fi, fa, or, mi, a, g, l, w, s) xm xi xw im le nu rf ln nn vp xn xc vs))) (fun f => rfl) ?_
        refine me_l (fun q_ => [some (.ref 138), some (.int 0), some (.int (nI a)), some (.int (nI g)), some (.int (nI j)), some (.int (nI f)), some (.int q_)]) (nI_add j 1) ?_
        refine me_seg 1 (pc1 := 39) (ls1 := [some (.ref 138), some (.int 0), some (.int (nI a)), some (.int (nI g)), some (.int (nI j)), some (.int (nI f)), some (.int (nI (j + 1)))]) (st1 := []) (M1 := (mk_M c n m kk (rT (he, ke, ki, fi, fa, or, mi, a, g, l, w, s) xm xi xw im le nu rf ln nn vp xn xc vs))) (fun f => rfl) ?_
        exact IH (j + 1) j f xm xw vp xn xc vs (by omega) ⟨(by assumption), (by assumption), (by assumption), (by assumption)⟩ (by omega) (g1.trans (ktl_t (by omega))) (g2.trans ((kbw_s (P := (fun c => ki1 (kbr (min (a / 5) (g / 5)) (max (a / 5) (g / 5)) (c / 5) && kbr (min (a % 5) (g % 5)) (max (a % 5) (g % 5)) (c % 5)) (kg ke c))) (j := j) (v := 0) (show ki1 ((kbr (min (a / 5) (g / 5)) (max (a / 5) (g / 5)) (j / 5)) && (kbr (min (a % 5) (g % 5)) (max (a % 5) (g % 5)) (j % 5))) (kg ke j) = 0 by rw [h5]; cases ((kbr (min (a / 5) (g / 5)) (max (a / 5) (g / 5)) (j / 5)) && (kbr (min (a % 5) (g % 5)) (max (a % 5) (g % 5)) (j % 5))) <;> rfl)).trans rfl)) (by omega)
      · refine me_seg 3 (pc1 := 92) (ls1 := [some (.ref 138), some (.int 0), some (.int (nI a)), some (.int (nI g)), some (.int (nI j)), some (.int (nI f)), some (.int (nI j))]) (st1 := [.int ((nI j) / (5 : Int32))]) (M1 := (mk_M c n m kk (rT (he, ke, ki, fi, fa, or, mi, a, g, l, w, s) xm xi xw im le nu rf ln nn vp xn xc vs))) (fun f => rfl) ?_
        refine me_v (pk_div (a := j) (d := 5) (by omega) (by decide) (by decide)) ?_
        refine me_seg 3 (pc1 := 95) (ls1 := [some (.ref 138), some (.int 0), some (.int (nI a)), some (.int (nI g)), some (.int (nI j)), some (.int (nI f)), some (.int (nI j))]) (st1 := [.int ((nI a) / (5 : Int32)), .int (nI (j / 5))]) (M1 := (mk_M c n m kk (rT (he, ke, ki, fi, fa, or, mi, a, g, l, w, s) xm xi xw im le nu rf ln nn vp xn xc vs))) (fun f => rfl) ?_
        refine me_v (pk_div (a := a) (d := 5) (by omega) (by decide) (by decide)) ?_
        refine me_seg 3 (pc1 := 98) (ls1 := [some (.ref 138), some (.int 0), some (.int (nI a)), some (.int (nI g)), some (.int (nI j)), some (.int (nI f)), some (.int (nI j))]) (st1 := [.int ((nI g) / (5 : Int32)), .int (nI (a / 5)), .int (nI (j / 5))]) (M1 := (mk_M c n m kk (rT (he, ke, ki, fi, fa, or, mi, a, g, l, w, s) xm xi xw im le nu rf ln nn vp xn xc vs))) (fun f => rfl) ?_
        refine me_v (pk_div (a := g) (d := 5) (by omega) (by decide) (by decide)) ?_
        refine me_call (y := 190) (y0 := 101) (L := [some (.int (nI (j / 5))), some (.int (nI (a / 5))), some (.int (nI (g / 5)))]) (rest := []) (rr := some (.int (nI (ki1 (kbr (min (a / 5) (g / 5)) (max (a / 5) (g / 5)) (j / 5)) 1)))) (M1 := (mk_M c n m kk (rT (he, ke, ki, fi, fa, or, mi, a, g, l, w, s) xm xi xw im le nu rf ln nn vp xn xc vs))) (fun f => rfl) (mf_isb (j / 5) (a / 5) (g / 5) (by omega) (by omega) (by omega) _) ?_
        refine me_ifN (C := (nI (ki1 (kbr (min (a / 5) (g / 5)) (max (a / 5) (g / 5)) (j / 5)) 1)) = 0) (nI_eqi (a := ki1 (kbr (min (a / 5) (g / 5)) (max (a / 5) (g / 5)) (j / 5)) 1) (b := 0) (by omega)) (fun f => rfl) (fun h6 => ?_) (fun h6 => ?_)
        · refine me_seg 1 (pc1 := 126) (ls1 := [some (.ref 138), some (.int 0), some (.int (nI a)), some (.int (nI g)), some (.int (nI j)), some (.int (nI f)), some (.int ((nI j) + 1))]) (st1 := []) (M1 := (mk_M c n m kk (rT (he, ke, ki, fi, fa, or, mi, a, g, l, w, s) xm xi xw im le nu rf ln nn vp xn xc vs))) (fun f => rfl) ?_
          refine me_l (fun q_ => [some (.ref 138), some (.int 0), some (.int (nI a)), some (.int (nI g)), some (.int (nI j)), some (.int (nI f)), some (.int q_)]) (nI_add j 1) ?_
          refine me_seg 1 (pc1 := 39) (ls1 := [some (.ref 138), some (.int 0), some (.int (nI a)), some (.int (nI g)), some (.int (nI j)), some (.int (nI f)), some (.int (nI (j + 1)))]) (st1 := []) (M1 := (mk_M c n m kk (rT (he, ke, ki, fi, fa, or, mi, a, g, l, w, s) xm xi xw im le nu rf ln nn vp xn xc vs))) (fun f => rfl) ?_
          exact IH (j + 1) j f xm xw vp xn xc vs (by omega) ⟨(by assumption), (by assumption), (by assumption), (by assumption)⟩ (by omega) (g1.trans (ktl_t (by omega))) (g2.trans ((kbw_s (P := (fun c => ki1 (kbr (min (a / 5) (g / 5)) (max (a / 5) (g / 5)) (c / 5) && kbr (min (a % 5) (g % 5)) (max (a % 5) (g % 5)) (c % 5)) (kg ke c))) (j := j) (v := 0) (show ki1 ((kbr (min (a / 5) (g / 5)) (max (a / 5) (g / 5)) (j / 5)) && (kbr (min (a % 5) (g % 5)) (max (a % 5) (g % 5)) (j % 5))) (kg ke j) = 0 by rw [ki1_0 h6]; rfl)).trans rfl)) (by omega)
        · refine me_seg 3 (pc1 := 108) (ls1 := [some (.ref 138), some (.int 0), some (.int (nI a)), some (.int (nI g)), some (.int (nI j)), some (.int (nI f)), some (.int (nI j))]) (st1 := [.int ((nI j) - (nI j) / (5 : Int32) * (5 : Int32))]) (M1 := (mk_M c n m kk (rT (he, ke, ki, fi, fa, or, mi, a, g, l, w, s) xm xi xw im le nu rf ln nn vp xn xc vs))) (fun f => rfl) ?_
          refine me_v (pk_rem (a := j) (d := 5) (by omega) (by decide) (by decide)) ?_
          refine me_seg 3 (pc1 := 111) (ls1 := [some (.ref 138), some (.int 0), some (.int (nI a)), some (.int (nI g)), some (.int (nI j)), some (.int (nI f)), some (.int (nI j))]) (st1 := [.int ((nI a) - (nI a) / (5 : Int32) * (5 : Int32)), .int (nI (j % 5))]) (M1 := (mk_M c n m kk (rT (he, ke, ki, fi, fa, or, mi, a, g, l, w, s) xm xi xw im le nu rf ln nn vp xn xc vs))) (fun f => rfl) ?_
          refine me_v (pk_rem (a := a) (d := 5) (by omega) (by decide) (by decide)) ?_
          refine me_seg 3 (pc1 := 114) (ls1 := [some (.ref 138), some (.int 0), some (.int (nI a)), some (.int (nI g)), some (.int (nI j)), some (.int (nI f)), some (.int (nI j))]) (st1 := [.int ((nI g) - (nI g) / (5 : Int32) * (5 : Int32)), .int (nI (a % 5)), .int (nI (j % 5))]) (M1 := (mk_M c n m kk (rT (he, ke, ki, fi, fa, or, mi, a, g, l, w, s) xm xi xw im le nu rf ln nn vp xn xc vs))) (fun f => rfl) ?_
          refine me_v (pk_rem (a := g) (d := 5) (by omega) (by decide) (by decide)) ?_
          refine me_call (y := 190) (y0 := 117) (L := [some (.int (nI (j % 5))), some (.int (nI (a % 5))), some (.int (nI (g % 5)))]) (rest := []) (rr := some (.int (nI (ki1 (kbr (min (a % 5) (g % 5)) (max (a % 5) (g % 5)) (j % 5)) 1)))) (M1 := (mk_M c n m kk (rT (he, ke, ki, fi, fa, or, mi, a, g, l, w, s) xm xi xw im le nu rf ln nn vp xn xc vs))) (fun f => rfl) (mf_isb (j % 5) (a % 5) (g % 5) (by omega) (by omega) (by omega) _) ?_
          refine me_ifN (C := (nI (ki1 (kbr (min (a % 5) (g % 5)) (max (a % 5) (g % 5)) (j % 5)) 1)) = 0) (nI_eqi (a := ki1 (kbr (min (a % 5) (g % 5)) (max (a % 5) (g % 5)) (j % 5)) 1) (b := 0) (by omega)) (fun f => rfl) (fun h7 => ?_) (fun h7 => ?_)
          · refine me_seg 1 (pc1 := 126) (ls1 := [some (.ref 138), some (.int 0), some (.int (nI a)), some (.int (nI g)), some (.int (nI j)), some (.int (nI f)), some (.int ((nI j) + 1))]) (st1 := []) (M1 := (mk_M c n m kk (rT (he, ke, ki, fi, fa, or, mi, a, g, l, w, s) xm xi xw im le nu rf ln nn vp xn xc vs))) (fun f => rfl) ?_
            refine me_l (fun q_ => [some (.ref 138), some (.int 0), some (.int (nI a)), some (.int (nI g)), some (.int (nI j)), some (.int (nI f)), some (.int q_)]) (nI_add j 1) ?_
            refine me_seg 1 (pc1 := 39) (ls1 := [some (.ref 138), some (.int 0), some (.int (nI a)), some (.int (nI g)), some (.int (nI j)), some (.int (nI f)), some (.int (nI (j + 1)))]) (st1 := []) (M1 := (mk_M c n m kk (rT (he, ke, ki, fi, fa, or, mi, a, g, l, w, s) xm xi xw im le nu rf ln nn vp xn xc vs))) (fun f => rfl) ?_
            exact IH (j + 1) j f xm xw vp xn xc vs (by omega) ⟨(by assumption), (by assumption), (by assumption), (by assumption)⟩ (by omega) (g1.trans (ktl_t (by omega))) (g2.trans ((kbw_s (P := (fun c => ki1 (kbr (min (a / 5) (g / 5)) (max (a / 5) (g / 5)) (c / 5) && kbr (min (a % 5) (g % 5)) (max (a % 5) (g % 5)) (c % 5)) (kg ke c))) (j := j) (v := 0) (show ki1 ((kbr (min (a / 5) (g / 5)) (max (a / 5) (g / 5)) (j / 5)) && (kbr (min (a % 5) (g % 5)) (max (a % 5) (g % 5)) (j % 5))) (kg ke j) = 0 by rw [ki1_0 h7, Bool.and_false]; rfl)).trans rfl)) (by omega)
          · refine me_seg 1 (pc1 := 123) (ls1 := [some (.ref 138), some (.int 0), some (.int (nI a)), some (.int (nI g)), some (.int (nI j)), some (.int ((nI f) + 1)), some (.int (nI j))]) (st1 := []) (M1 := (mk_M c n m kk (rT (he, ke, ki, fi, fa, or, mi, a, g, l, w, s) xm xi xw im le nu rf ln nn vp xn xc vs))) (fun f => rfl) ?_
            refine me_l (fun q_ => [some (.ref 138), some (.int 0), some (.int (nI a)), some (.int (nI g)), some (.int (nI j)), some (.int q_), some (.int (nI j))]) (nI_add f 1) ?_
            refine me_seg 1 (pc1 := 126) (ls1 := [some (.ref 138), some (.int 0), some (.int (nI a)), some (.int (nI g)), some (.int (nI j)), some (.int (nI (f + 1))), some (.int ((nI j) + 1))]) (st1 := []) (M1 := (mk_M c n m kk (rT (he, ke, ki, fi, fa, or, mi, a, g, l, w, s) xm xi xw im le nu rf ln nn vp xn xc vs))) (fun f => rfl) ?_
            refine me_l (fun q_ => [some (.ref 138), some (.int 0), some (.int (nI a)), some (.int (nI g)), some (.int (nI j)), some (.int (nI (f + 1))), some (.int q_)]) (nI_add j 1) ?_
            refine me_seg 1 (pc1 := 39) (ls1 := [some (.ref 138), some (.int 0), some (.int (nI a)), some (.int (nI g)), some (.int (nI j)), some (.int (nI (f + 1))), some (.int (nI (j + 1)))]) (st1 := []) (M1 := (mk_M c n m kk (rT (he, ke, ki, fi, fa, or, mi, a, g, l, w, s) xm xi xw im le nu rf ln nn vp xn xc vs))) (fun f => rfl) ?_
            exact IH (j + 1) j (f + 1) xm xw vp xn xc vs (by omega) ⟨(by assumption), (by assumption), (by assumption), (by assumption)⟩ (by omega) (g1.trans (ktl_t (by omega))) (g2.trans (kbw_s (P := (fun c => ki1 (kbr (min (a / 5) (g / 5)) (max (a / 5) (g / 5)) (c / 5) && kbr (min (a % 5) (g % 5)) (max (a % 5) (g % 5)) (c % 5)) (kg ke c))) (j := j) (show ki1 ((kbr (min (a / 5) (g / 5)) (max (a / 5) (g / 5)) (j / 5)) && (kbr (min (a % 5) (g % 5)) (max (a % 5) (g % 5)) (j % 5))) (kg ke j) = 1 by rw [ki1_1 h6, ki1_1 h7]; show kg ke j = 1; omega))) (by omega)
set_option maxRecDepth 100000 in
theorem tm_far_0 (he ke ki fi fa or : List Nat) (mi a g l w s : Nat) (xi : List Int32) (im : Nat) (le nu rf : List Nat) (ln nn : Nat) (c : cC) (n m kk : kG) (hA : iA (he, ke, ki, fi, fa, or, mi, a, g, l, w, s)) (hC : iC nu nn) (xm xw : List Int32) (vp : Int32) (xn xc : List Int32) (vs : Int32) (hR : iR xm xw xn xc) : mm_E 189 0 [some (.ref 138), some (.int 0), none, none, none, none, none] [] (mk_M c n m kk (rT (he, ke, ki, fi, fa, or, mi, a, g, l, w, s) xm xi xw im le nu rf ln nn vp xn xc vs)) (pM (fun r => r = some (.int (nI (kap (a / 5) (g / 5) + kap (a % 5) (g % 5))))) (he, ke, ki, fi, fa, or, mi, a, g, l, w, s) xi im le nu rf ln nn c n m kk) := by
  obtain ⟨hV, hst⟩ := id hA
  have hst2 : s ≤ 999 := hst
  obtain ⟨v1, v2, v3, v4, v5, v6, v7, v8, v9, v10, v11, v12, v13, v14, v15, v16⟩ := id hV
  have v6l := kO_len mi v7 or v6
  obtain ⟨c1, c2, c3⟩ := id hC
  obtain ⟨r1, r2, r3, r4⟩ := id hR
  refine me_seg 3 (pc1 := 3) (ls1 := [some (.ref 138), some (.int 0), none, none, none, none, none]) (st1 := [.int 3, .int 0, .int 0]) (M1 := (mk_M c n m kk (rT (he, ke, ki, fi, fa, or, mi, a, g, l, w, s) xm xi xw im le nu rf ln nn vp xn xc vs))) (fun f => rfl) ?_
  refine me_call (y := 135) (y0 := 6) (L := [some (.int 0), some (.int 0), some (.int 3)]) (rest := []) (rr := some (.int 1)) (M1 := (mk_M c n m kk (rT (he, ke, ki, fi, fa, or, mi, a, g, l, w, s) xm xi xw im le nu rf ln nn vp xn xc vs))) (fun f => rfl) (by
      exact mr_ret 9 (fun f => rfl)) ?_
  refine me_seg 4 (pc1 := 21) (ls1 := [some (.ref 138), some (.int 0), none, none, none, none, none]) (st1 := [.int 2, .ref 139]) (M1 := (mk_M c n m kk (rT (he, ke, ki, fi, fa, or, mi, a, g, l, w, s) xm xi xw im le nu rf ln nn vp xn xc vs))) (fun f => rfl) ?_
  refine me_ldn (xs := (er (he, ke, ki, fi, fa, or, mi, a, g, l, w, s))) rfl rfl (k := 2) (by decide) rfl ?_
  refine me_seg 4 (pc1 := 28) (ls1 := [some (.ref 138), some (.int 0), some (.int (nI a)), none, none, none, none]) (st1 := [.int 3, .ref 139]) (M1 := (mk_M c n m kk (rT (he, ke, ki, fi, fa, or, mi, a, g, l, w, s) xm xi xw im le nu rf ln nn vp xn xc vs))) (fun f => rfl) ?_
  refine me_ldn (xs := (er (he, ke, ki, fi, fa, or, mi, a, g, l, w, s))) rfl rfl (k := 3) (by decide) rfl ?_
  refine me_seg 7 (pc1 := 39) (ls1 := [some (.ref 138), some (.int 0), some (.int (nI a)), some (.int (nI g)), some (.int 0), some (.int 0), some (.int 0)]) (st1 := []) (M1 := (mk_M c n m kk (rT (he, ke, ki, fi, fa, or, mi, a, g, l, w, s) xm xi xw im le nu rf ln nn vp xn xc vs))) (fun f => rfl) ?_
  exact tm_farL0 he ke ki fi fa or mi a g l w s xi im le nu rf ln nn c n m kk hA hC (ktl he 24 1 0) (kbw (fun c => ki1 (kbr (min (a / 5) (g / 5)) (max (a / 5) (g / 5)) (c / 5) && kbr (min (a % 5) (g % 5)) (max (a % 5) (g % 5)) (c % 5)) (kg ke c)) 25 0 0) 25 0 0 0 xm xw vp xn xc vs (by omega) ⟨(by assumption), (by assumption), (by assumption), (by assumption)⟩ (by omega) (ktl_f (by omega)).symm rfl (by omega)
set_option maxRecDepth 100000 in
theorem tm_farL1 (he ke ki fi fa or : List Nat) (mi a g l w s : Nat) (xi : List Int32) (im : Nat) (le nu rf : List Nat) (ln nn : Nat) (c : cC) (n m kk : kG) (hA : iA (he, ke, ki, fi, fa, or, mi, a, g, l, w, s)) (hC : iC nu nn) (A1 A2 : Nat) (k : Nat) : ∀ (j : Nat) (b : Nat) (f : Nat) (xm xw : List Int32) (vp : Int32) (xn xc : List Int32) (vs : Int32), j + k = 25 → iR xm xw xn xc → b < 25 → A1 = ktl he k j b → A2 = kbw (fun c => ki1 (kbr (min (a / 5) (g / 5)) (max (a / 5) (g / 5)) (c / 5) && kbr (min (a % 5) (g % 5)) (max (a % 5) (g % 5)) (c % 5)) (kg ke c)) k j f → f ≤ j → mm_E 189 39 [some (.ref 138), some (.int 1), some (.int (nI a)), some (.int (nI g)), some (.int (nI b)), some (.int (nI f)), some (.int (nI j))] [] (mk_M c n m kk (rT (he, ke, ki, fi, fa, or, mi, a, g, l, w, s) xm xi xw im le nu rf ln nn vp xn xc vs)) (pM (fun r => r = some (.int (nI A1))) (he, ke, ki, fi, fa, or, mi, a, g, l, w, s) xi im le nu rf ln nn c n m kk) := by
  obtain ⟨hV, hst⟩ := id hA
  have hst2 : s ≤ 999 := hst
  obtain ⟨v1, v2, v3, v4, v5, v6, v7, v8, v9, v10, v11, v12, v13, v14, v15, v16⟩ := id hV
  have v6l := kO_len mi v7 or v6
  obtain ⟨c1, c2, c3⟩ := id hC
  induction k with
  | zero =>
    intro j b f xm xw vp xn xc vs hj hR g0 g1 g2 g3
    obtain ⟨r1, r2, r3, r4⟩ := id hR
    have f1 := v12 b
    have f2 := v12 j
    have f3 := v13 j
    have i1 := ki1_le (kbr (min (a / 5) (g / 5)) (max (a / 5) (g / 5)) (j / 5))
    have i2 := ki1_le (kbr (min (a % 5) (g % 5)) (max (a % 5) (g % 5)) (j % 5))
    have k1 := kap_le (show a / 5 < 5 by omega) (show g / 5 < 5 by omega)
    have k2 := kap_le (show a % 5 < 5 by omega) (show g % 5 < 5 by omega)
    refine me_seg 2 (pc1 := 43) (ls1 := [some (.ref 138), some (.int 1), some (.int (nI a)), some (.int (nI g)), some (.int (nI b)), some (.int (nI f)), some (.int (nI j))]) (st1 := [.int 25, .int (nI j)]) (M1 := (mk_M c n m kk (rT (he, ke, ki, fi, fa, or, mi, a, g, l, w, s) xm xi xw im le nu rf ln nn vp xn xc vs))) (fun f => rfl) ?_
    refine me_t (C := 25 ≤ (nI j)) (nI_let (a := 25) (b := j) (by omega)) (fun f => rfl) ?_
    refine me_ret 8 (r := some (.int (nI b))) (M1 := (mk_M c n m kk (rT (he, ke, ki, fi, fa, or, mi, a, g, l, w, s) xm xi xw im le nu rf ln nn vp xn xc vs))) (fun f => rfl) ?_
    exact ⟨(by rw [g1]; rfl), _, _, _, _, _, _, rfl, ⟨(by assumption), (by assumption), (by assumption), (by assumption)⟩⟩
  | succ k IH =>
    intro j b f xm xw vp xn xc vs hj hR g0 g1 g2 g3
    obtain ⟨r1, r2, r3, r4⟩ := id hR
    have f1 := v12 b
    have f2 := v12 j
    have f3 := v13 j
    have i1 := ki1_le (kbr (min (a / 5) (g / 5)) (max (a / 5) (g / 5)) (j / 5))
    have i2 := ki1_le (kbr (min (a % 5) (g % 5)) (max (a % 5) (g % 5)) (j % 5))
    have k1 := kap_le (show a / 5 < 5 by omega) (show g / 5 < 5 by omega)
    have k2 := kap_le (show a % 5 < 5 by omega) (show g % 5 < 5 by omega)
    refine me_seg 2 (pc1 := 43) (ls1 := [some (.ref 138), some (.int 1), some (.int (nI a)), some (.int (nI g)), some (.int (nI b)), some (.int (nI f)), some (.int (nI j))]) (st1 := [.int 25, .int (nI j)]) (M1 := (mk_M c n m kk (rT (he, ke, ki, fi, fa, or, mi, a, g, l, w, s) xm xi xw im le nu rf ln nn vp xn xc vs))) (fun f => rfl) ?_
    refine me_f (C := 25 ≤ (nI j)) (nI_lef (a := 25) (b := j) (by omega)) (fun f => rfl) ?_
    refine me_seg 5 (pc1 := 55) (ls1 := [some (.ref 138), some (.int 1), some (.int (nI a)), some (.int (nI g)), some (.int (nI b)), some (.int (nI f)), some (.int (nI j))]) (st1 := [.int ((7 : Int32) + (nI j)), .ref 139]) (M1 := (mk_M c n m kk (rT (he, ke, ki, fi, fa, or, mi, a, g, l, w, s) xm xi xw im le nu rf ln nn vp xn xc vs))) (fun f => rfl) ?_
    refine me_v (nI_add 7 j) ?_
    refine me_ldn (xs := (er (he, ke, ki, fi, fa, or, mi, a, g, l, w, s))) rfl rfl (k := 7 + j) (by omega) (er_h (K := (he, ke, ki, fi, fa, or, mi, a, g, l, w, s)) v1 (by omega)) ?_
    refine me_seg 5 (pc1 := 65) (ls1 := [some (.ref 138), some (.int 1), some (.int (nI a)), some (.int (nI g)), some (.int (nI b)), some (.int (nI f)), some (.int (nI j))]) (st1 := [.int ((7 : Int32) + (nI b)), .ref 139, .int (nI (kg he j))]) (M1 := (mk_M c n m kk (rT (he, ke, ki, fi, fa, or, mi, a, g, l, w, s) xm xi xw im le nu rf ln nn vp xn xc vs))) (fun f => rfl) ?_
    refine me_v (nI_add 7 b) ?_
    refine me_ldn (xs := (er (he, ke, ki, fi, fa, or, mi, a, g, l, w, s))) rfl rfl (k := 7 + b) (by omega) (er_h (K := (he, ke, ki, fi, fa, or, mi, a, g, l, w, s)) v1 (by omega)) ?_
    refine me_ifN (C := (nI (kg he j)) ≤ (nI (kg he b))) (nI_lei (a := kg he j) (b := kg he b) (by omega)) (fun f => rfl) (fun h1 => ?_) (fun h1 => ?_)
    · refine me_seg 3 (pc1 := 79) (ls1 := [some (.ref 138), some (.int 1), some (.int (nI a)), some (.int (nI g)), some (.int (nI b)), some (.int (nI f)), some (.int (nI j))]) (st1 := [.int 6, .ref 139]) (M1 := (mk_M c n m kk (rT (he, ke, ki, fi, fa, or, mi, a, g, l, w, s) xm xi xw im le nu rf ln nn vp xn xc vs))) (fun f => rfl) ?_
      refine me_ldn (xs := (er (he, ke, ki, fi, fa, or, mi, a, g, l, w, s))) rfl rfl (k := 6) (by decide) rfl ?_
      refine me_seg 1 (pc1 := 82) (ls1 := [some (.ref 138), some (.int 1), some (.int (nI a)), some (.int (nI g)), some (.int (nI b)), some (.int (nI f)), some (.int (nI j))]) (st1 := [.int (nI j), .int (nI (kbits ke))]) (M1 := (mk_M c n m kk (rT (he, ke, ki, fi, fa, or, mi, a, g, l, w, s) xm xi xw im le nu rf ln nn vp xn xc vs))) (fun f => rfl) ?_
      refine me_call (y := 151) (y0 := 85) (L := [some (.int (nI (kbits ke))), some (.int (nI j))]) (rest := []) (rr := some (.int (nI (kg ke j)))) (M1 := (mk_M c n m kk (rT (he, ke, ki, fi, fa, or, mi, a, g, l, w, s) xm xi xw im le nu rf ln nn vp xn xc vs))) (fun f => rfl) (rc_has ke j (by omega) v2 v13 _) ?_
      refine me_ifN (C := (nI (kg ke j)) = 0) (nI_eqi (a := kg ke j) (b := 0) (by omega)) (fun f => rfl) (fun h2 => ?_) (fun h2 => ?_)
      · refine me_seg 1 (pc1 := 126) (ls1 := [some (.ref 138), some (.int 1), some (.int (nI a)), some (.int (nI g)), some (.int (nI b)), some (.int (nI f)), some (.int ((nI j) + 1))]) (st1 := []) (M1 := (mk_M c n m kk (rT (he, ke, ki, fi, fa, or, mi, a, g, l, w, s) xm xi xw im le nu rf ln nn vp xn xc vs))) (fun f => rfl) ?_
        refine me_l (fun q_ => [some (.ref 138), some (.int 1), some (.int (nI a)), some (.int (nI g)), some (.int (nI b)), some (.int (nI f)), some (.int q_)]) (nI_add j 1) ?_
        refine me_seg 1 (pc1 := 39) (ls1 := [some (.ref 138), some (.int 1), some (.int (nI a)), some (.int (nI g)), some (.int (nI b)), some (.int (nI f)), some (.int (nI (j + 1)))]) (st1 := []) (M1 := (mk_M c n m kk (rT (he, ke, ki, fi, fa, or, mi, a, g, l, w, s) xm xi xw im le nu rf ln nn vp xn xc vs))) (fun f => rfl) ?_
        exact IH (j + 1) b f xm xw vp xn xc vs (by omega) ⟨(by assumption), (by assumption), (by assumption), (by assumption)⟩ (by omega) (g1.trans (ktl_f (by omega))) (g2.trans ((kbw_s (P := (fun c => ki1 (kbr (min (a / 5) (g / 5)) (max (a / 5) (g / 5)) (c / 5) && kbr (min (a % 5) (g % 5)) (max (a % 5) (g % 5)) (c % 5)) (kg ke c))) (j := j) (v := 0) (show ki1 ((kbr (min (a / 5) (g / 5)) (max (a / 5) (g / 5)) (j / 5)) && (kbr (min (a % 5) (g % 5)) (max (a % 5) (g % 5)) (j % 5))) (kg ke j) = 0 by rw [h2]; cases ((kbr (min (a / 5) (g / 5)) (max (a / 5) (g / 5)) (j / 5)) && (kbr (min (a % 5) (g % 5)) (max (a % 5) (g % 5)) (j % 5))) <;> rfl)).trans rfl)) (by omega)
      · refine me_seg 3 (pc1 := 92) (ls1 := [some (.ref 138), some (.int 1), some (.int (nI a)), some (.int (nI g)), some (.int (nI b)), some (.int (nI f)), some (.int (nI j))]) (st1 := [.int ((nI j) / (5 : Int32))]) (M1 := (mk_M c n m kk (rT (he, ke, ki, fi, fa, or, mi, a, g, l, w, s) xm xi xw im le nu rf ln nn vp xn xc vs))) (fun f => rfl) ?_
        refine me_v (pk_div (a := j) (d := 5) (by omega) (by decide) (by decide)) ?_
        refine me_seg 3 (pc1 := 95) (ls1 := [some (.ref 138), some (.int 1), some (.int (nI a)), some (.int (nI g)), some (.int (nI b)), some (.int (nI f)), some (.int (nI j))]) (st1 := [.int ((nI a) / (5 : Int32)), .int (nI (j / 5))]) (M1 := (mk_M c n m kk (rT (he, ke, ki, fi, fa, or, mi, a, g, l, w, s) xm xi xw im le nu rf ln nn vp xn xc vs))) (fun f => rfl) ?_
        refine me_v (pk_div (a := a) (d := 5) (by omega) (by decide) (by decide)) ?_
        refine me_seg 3 (pc1 := 98) (ls1 := [some (.ref 138), some (.int 1), some (.int (nI a)), some (.int (nI g)), some (.int (nI b)), some (.int (nI f)), some (.int (nI j))]) (st1 := [.int ((nI g) / (5 : Int32)), .int (nI (a / 5)), .int (nI (j / 5))]) (M1 := (mk_M c n m kk (rT (he, ke, ki, fi, fa, or, mi, a, g, l, w, s) xm xi xw im le nu rf ln nn vp xn xc vs))) (fun f => rfl) ?_
        refine me_v (pk_div (a := g) (d := 5) (by omega) (by decide) (by decide)) ?_
        refine me_call (y := 190) (y0 := 101) (L := [some (.int (nI (j / 5))), some (.int (nI (a / 5))), some (.int (nI (g / 5)))]) (rest := []) (rr := some (.int (nI (ki1 (kbr (min (a / 5) (g / 5)) (max (a / 5) (g / 5)) (j / 5)) 1)))) (M1 := (mk_M c n m kk (rT (he, ke, ki, fi, fa, or, mi, a, g, l, w, s) xm xi xw im le nu rf ln nn vp xn xc vs))) (fun f => rfl) (mf_isb (j / 5) (a / 5) (g / 5) (by omega) (by omega) (by omega) _) ?_
        refine me_ifN (C := (nI (ki1 (kbr (min (a / 5) (g / 5)) (max (a / 5) (g / 5)) (j / 5)) 1)) = 0) (nI_eqi (a := ki1 (kbr (min (a / 5) (g / 5)) (max (a / 5) (g / 5)) (j / 5)) 1) (b := 0) (by omega)) (fun f => rfl) (fun h3 => ?_) (fun h3 => ?_)
        · refine me_seg 1 (pc1 := 126) (ls1 := [some (.ref 138), some (.int 1), some (.int (nI a)), some (.int (nI g)), some (.int (nI b)), some (.int (nI f)), some (.int ((nI j) + 1))]) (st1 := []) (M1 := (mk_M c n m kk (rT (he, ke, ki, fi, fa, or, mi, a, g, l, w, s) xm xi xw im le nu rf ln nn vp xn xc vs))) (fun f => rfl) ?_
          refine me_l (fun q_ => [some (.ref 138), some (.int 1), some (.int (nI a)), some (.int (nI g)), some (.int (nI b)), some (.int (nI f)), some (.int q_)]) (nI_add j 1) ?_
          refine me_seg 1 (pc1 := 39) (ls1 := [some (.ref 138), some (.int 1), some (.int (nI a)), some (.int (nI g)), some (.int (nI b)), some (.int (nI f)), some (.int (nI (j + 1)))]) (st1 := []) (M1 := (mk_M c n m kk (rT (he, ke, ki, fi, fa, or, mi, a, g, l, w, s) xm xi xw im le nu rf ln nn vp xn xc vs))) (fun f => rfl) ?_
          exact IH (j + 1) b f xm xw vp xn xc vs (by omega) ⟨(by assumption), (by assumption), (by assumption), (by assumption)⟩ (by omega) (g1.trans (ktl_f (by omega))) (g2.trans ((kbw_s (P := (fun c => ki1 (kbr (min (a / 5) (g / 5)) (max (a / 5) (g / 5)) (c / 5) && kbr (min (a % 5) (g % 5)) (max (a % 5) (g % 5)) (c % 5)) (kg ke c))) (j := j) (v := 0) (show ki1 ((kbr (min (a / 5) (g / 5)) (max (a / 5) (g / 5)) (j / 5)) && (kbr (min (a % 5) (g % 5)) (max (a % 5) (g % 5)) (j % 5))) (kg ke j) = 0 by rw [ki1_0 h3]; rfl)).trans rfl)) (by omega)
        · refine me_seg 3 (pc1 := 108) (ls1 := [some (.ref 138), some (.int 1), some (.int (nI a)), some (.int (nI g)), some (.int (nI b)), some (.int (nI f)), some (.int (nI j))]) (st1 := [.int ((nI j) - (nI j) / (5 : Int32) * (5 : Int32))]) (M1 := (mk_M c n m kk (rT (he, ke, ki, fi, fa, or, mi, a, g, l, w, s) xm xi xw im le nu rf ln nn vp xn xc vs))) (fun f => rfl) ?_
          refine me_v (pk_rem (a := j) (d := 5) (by omega) (by decide) (by decide)) ?_
          refine me_seg 3 (pc1 := 111) (ls1 := [some (.ref 138), some (.int 1), some (.int (nI a)), some (.int (nI g)), some (.int (nI b)), some (.int (nI f)), some (.int (nI j))]) (st1 := [.int ((nI a) - (nI a) / (5 : Int32) * (5 : Int32)), .int (nI (j % 5))]) (M1 := (mk_M c n m kk (rT (he, ke, ki, fi, fa, or, mi, a, g, l, w, s) xm xi xw im le nu rf ln nn vp xn xc vs))) (fun f => rfl) ?_
          refine me_v (pk_rem (a := a) (d := 5) (by omega) (by decide) (by decide)) ?_
          refine me_seg 3 (pc1 := 114) (ls1 := [some (.ref 138), some (.int 1), some (.int (nI a)), some (.int (nI g)), some (.int (nI b)), some (.int (nI f)), some (.int (nI j))]) (st1 := [.int ((nI g) - (nI g) / (5 : Int32) * (5 : Int32)), .int (nI (a % 5)), .int (nI (j % 5))]) (M1 := (mk_M c n m kk (rT (he, ke, ki, fi, fa, or, mi, a, g, l, w, s) xm xi xw im le nu rf ln nn vp xn xc vs))) (fun f => rfl) ?_
          refine me_v (pk_rem (a := g) (d := 5) (by omega) (by decide) (by decide)) ?_
          refine me_call (y := 190) (y0 := 117) (L := [some (.int (nI (j % 5))), some (.int (nI (a % 5))), some (.int (nI (g % 5)))]) (rest := []) (rr := some (.int (nI (ki1 (kbr (min (a % 5) (g % 5)) (max (a % 5) (g % 5)) (j % 5)) 1)))) (M1 := (mk_M c n m kk (rT (he, ke, ki, fi, fa, or, mi, a, g, l, w, s) xm xi xw im le nu rf ln nn vp xn xc vs))) (fun f => rfl) (mf_isb (j % 5) (a % 5) (g % 5) (by omega) (by omega) (by omega) _) ?_
          refine me_ifN (C := (nI (ki1 (kbr (min (a % 5) (g % 5)) (max (a % 5) (g % 5)) (j % 5)) 1)) = 0) (nI_eqi (a := ki1 (kbr (min (a % 5) (g % 5)) (max (a % 5) (g % 5)) (j % 5)) 1) (b := 0) (by omega)) (fun f => rfl) (fun h4 => ?_) (fun h4 => ?_)
          · refine me_seg 1 (pc1 := 126) (ls1 := [some (.ref 138), some (.int 1), some (.int (nI a)), some (.int (nI g)), some (.int (nI b)), some (.int (nI f)), some (.int ((nI j) + 1))]) (st1 := []) (M1 := (mk_M c n m kk (rT (he, ke, ki, fi, fa, or, mi, a, g, l, w, s) xm xi xw im le nu rf ln nn vp xn xc vs))) (fun f => rfl) ?_
            refine me_l (fun q_ => [some (.ref 138), some (.int 1), some (.int (nI a)), some (.int (nI g)), some (.int (nI b)), some (.int (nI f)), some (.int q_)]) (nI_add j 1) ?_
            refine me_seg 1 (pc1 := 39) (ls1 := [some (.ref 138), some (.int 1), some (.int (nI a)), some (.int (nI g)), some (.int (nI b)), some (.int (nI f)), some (.int (nI (j + 1)))]) (st1 := []) (M1 := (mk_M c n m kk (rT (he, ke, ki, fi, fa, or, mi, a, g, l, w, s) xm xi xw im le nu rf ln nn vp xn xc vs))) (fun f => rfl) ?_
            exact IH (j + 1) b f xm xw vp xn xc vs (by omega) ⟨(by assumption), (by assumption), (by assumption), (by assumption)⟩ (by omega) (g1.trans (ktl_f (by omega))) (g2.trans ((kbw_s (P := (fun c => ki1 (kbr (min (a / 5) (g / 5)) (max (a / 5) (g / 5)) (c / 5) && kbr (min (a % 5) (g % 5)) (max (a % 5) (g % 5)) (c % 5)) (kg ke c))) (j := j) (v := 0) (show ki1 ((kbr (min (a / 5) (g / 5)) (max (a / 5) (g / 5)) (j / 5)) && (kbr (min (a % 5) (g % 5)) (max (a % 5) (g % 5)) (j % 5))) (kg ke j) = 0 by rw [ki1_0 h4, Bool.and_false]; rfl)).trans rfl)) (by omega)
          · refine me_seg 1 (pc1 := 123) (ls1 := [some (.ref 138), some (.int 1), some (.int (nI a)), some (.int (nI g)), some (.int (nI b)), some (.int ((nI f) + 1)), some (.int (nI j))]) (st1 := []) (M1 := (mk_M c n m kk (rT (he, ke, ki, fi, fa, or, mi, a, g, l, w, s) xm xi xw im le nu rf ln nn vp xn xc vs))) (fun f => rfl) ?_
            refine me_l (fun q_ => [some (.ref 138), some (.int 1), some (.int (nI a)), some (.int (nI g)), some (.int (nI b)), some (.int q_), some (.int (nI j))]) (nI_add f 1) ?_
            refine me_seg 1 (pc1 := 126) (ls1 := [some (.ref 138), some (.int 1), some (.int (nI a)), some (.int (nI g)), some (.int (nI b)), some (.int (nI (f + 1))), some (.int ((nI j) + 1))]) (st1 := []) (M1 := (mk_M c n m kk (rT (he, ke, ki, fi, fa, or, mi, a, g, l, w, s) xm xi xw im le nu rf ln nn vp xn xc vs))) (fun f => rfl) ?_
            refine me_l (fun q_ => [some (.ref 138), some (.int 1), some (.int (nI a)), some (.int (nI g)), some (.int (nI b)), some (.int (nI (f + 1))), some (.int q_)]) (nI_add j 1) ?_
            refine me_seg 1 (pc1 := 39) (ls1 := [some (.ref 138), some (.int 1), some (.int (nI a)), some (.int (nI g)), some (.int (nI b)), some (.int (nI (f + 1))), some (.int (nI (j + 1)))]) (st1 := []) (M1 := (mk_M c n m kk (rT (he, ke, ki, fi, fa, or, mi, a, g, l, w, s) xm xi xw im le nu rf ln nn vp xn xc vs))) (fun f => rfl) ?_
            exact IH (j + 1) b (f + 1) xm xw vp xn xc vs (by omega) ⟨(by assumption), (by assumption), (by assumption), (by assumption)⟩ (by omega) (g1.trans (ktl_f (by omega))) (g2.trans (kbw_s (P := (fun c => ki1 (kbr (min (a / 5) (g / 5)) (max (a / 5) (g / 5)) (c / 5) && kbr (min (a % 5) (g % 5)) (max (a % 5) (g % 5)) (c % 5)) (kg ke c))) (j := j) (show ki1 ((kbr (min (a / 5) (g / 5)) (max (a / 5) (g / 5)) (j / 5)) && (kbr (min (a % 5) (g % 5)) (max (a % 5) (g % 5)) (j % 5))) (kg ke j) = 1 by rw [ki1_1 h3, ki1_1 h4]; show kg ke j = 1; omega))) (by omega)
    · refine me_seg 5 (pc1 := 79) (ls1 := [some (.ref 138), some (.int 1), some (.int (nI a)), some (.int (nI g)), some (.int (nI j)), some (.int (nI f)), some (.int (nI j))]) (st1 := [.int 6, .ref 139]) (M1 := (mk_M c n m kk (rT (he, ke, ki, fi, fa, or, mi, a, g, l, w, s) xm xi xw im le nu rf ln nn vp xn xc vs))) (fun f => rfl) ?_
      refine me_ldn (xs := (er (he, ke, ki, fi, fa, or, mi, a, g, l, w, s))) rfl rfl (k := 6) (by decide) rfl ?_
      refine me_seg 1 (pc1 := 82) (ls1 := [some (.ref 138), some (.int 1), some (.int (nI a)), some (.int (nI g)), some (.int (nI j)), some (.int (nI f)), some (.int (nI j))]) (st1 := [.int (nI j), .int (nI (kbits ke))]) (M1 := (mk_M c n m kk (rT (he, ke, ki, fi, fa, or, mi, a, g, l, w, s) xm xi xw im le nu rf ln nn vp xn xc vs))) (fun f => rfl) ?_
      refine me_call (y := 151) (y0 := 85) (L := [some (.int (nI (kbits ke))), some (.int (nI j))]) (rest := []) (rr := some (.int (nI (kg ke j)))) (M1 := (mk_M c n m kk (rT (he, ke, ki, fi, fa, or, mi, a, g, l, w, s) xm xi xw im le nu rf ln nn vp xn xc vs))) (fun f => rfl) (rc_has ke j (by omega) v2 v13 _) ?_
      refine me_ifN (C := (nI (kg ke j)) = 0) (nI_eqi (a := kg ke j) (b := 0) (by omega)) (fun f => rfl) (fun h5 => ?_) (fun h5 => ?_)
      · refine me_seg 1 (pc1 := 126) (ls1 := [some (.ref 138), some (.int 1), some (.int (nI a)), some (.int (nI g)), some (.int (nI j)), some (.int (nI f)), some (.int ((nI j) + 1))]) (st1 := []) (M1 := (mk_M c n m kk (rT (he, ke, ki, fi, fa, or, mi, a, g, l, w, s) xm xi xw im le nu rf ln nn vp xn xc vs))) (fun f => rfl) ?_
        refine me_l (fun q_ => [some (.ref 138), some (.int 1), some (.int (nI a)), some (.int (nI g)), some (.int (nI j)), some (.int (nI f)), some (.int q_)]) (nI_add j 1) ?_
        refine me_seg 1 (pc1 := 39) (ls1 := [some (.ref 138), some (.int 1), some (.int (nI a)), some (.int (nI g)), some (.int (nI j)), some (.int (nI f)), some (.int (nI (j + 1)))]) (st1 := []) (M1 := (mk_M c n m kk (rT (he, ke, ki, fi, fa, or, mi, a, g, l, w, s) xm xi xw im le nu rf ln nn vp xn xc vs))) (fun f => rfl) ?_
        exact IH (j + 1) j f xm xw vp xn xc vs (by omega) ⟨(by assumption), (by assumption), (by assumption), (by assumption)⟩ (by omega) (g1.trans (ktl_t (by omega))) (g2.trans ((kbw_s (P := (fun c => ki1 (kbr (min (a / 5) (g / 5)) (max (a / 5) (g / 5)) (c / 5) && kbr (min (a % 5) (g % 5)) (max (a % 5) (g % 5)) (c % 5)) (kg ke c))) (j := j) (v := 0) (show ki1 ((kbr (min (a / 5) (g / 5)) (max (a / 5) (g / 5)) (j / 5)) && (kbr (min (a % 5) (g % 5)) (max (a % 5) (g % 5)) (j % 5))) (kg ke j) = 0 by rw [h5]; cases ((kbr (min (a / 5) (g / 5)) (max (a / 5) (g / 5)) (j / 5)) && (kbr (min (a % 5) (g % 5)) (max (a % 5) (g % 5)) (j % 5))) <;> rfl)).trans rfl)) (by omega)
      · refine me_seg 3 (pc1 := 92) (ls1 := [some (.ref 138), some (.int 1), some (.int (nI a)), some (.int (nI g)), some (.int (nI j)), some (.int (nI f)), some (.int (nI j))]) (st1 := [.int ((nI j) / (5 : Int32))]) (M1 := (mk_M c n m kk (rT (he, ke, ki, fi, fa, or, mi, a, g, l, w, s) xm xi xw im le nu rf ln nn vp xn xc vs))) (fun f => rfl) ?_
        refine me_v (pk_div (a := j) (d := 5) (by omega) (by decide) (by decide)) ?_
        refine me_seg 3 (pc1 := 95) (ls1 := [some (.ref 138), some (.int 1), some (.int (nI a)), some (.int (nI g)), some (.int (nI j)), some (.int (nI f)), some (.int (nI j))]) (st1 := [.int ((nI a) / (5 : Int32)), .int (nI (j / 5))]) (M1 := (mk_M c n m kk (rT (he, ke, ki, fi, fa, or, mi, a, g, l, w, s) xm xi xw im le nu rf ln nn vp xn xc vs))) (fun f => rfl) ?_
        refine me_v (pk_div (a := a) (d := 5) (by omega) (by decide) (by decide)) ?_
        refine me_seg 3 (pc1 := 98) (ls1 := [some (.ref 138), some (.int 1), some (.int (nI a)), some (.int (nI g)), some (.int (nI j)), some (.int (nI f)), some (.int (nI j))]) (st1 := [.int ((nI g) / (5 : Int32)), .int (nI (a / 5)), .int (nI (j / 5))]) (M1 := (mk_M c n m kk (rT (he, ke, ki, fi, fa, or, mi, a, g, l, w, s) xm xi xw im le nu rf ln nn vp xn xc vs))) (fun f => rfl) ?_
        refine me_v (pk_div (a := g) (d := 5) (by omega) (by decide) (by decide)) ?_
        refine me_call (y := 190) (y0 := 101) (L := [some (.int (nI (j / 5))), some (.int (nI (a / 5))), some (.int (nI (g / 5)))]) (rest := []) (rr := some (.int (nI (ki1 (kbr (min (a / 5) (g / 5)) (max (a / 5) (g / 5)) (j / 5)) 1)))) (M1 := (mk_M c n m kk (rT (he, ke, ki, fi, fa, or, mi, a, g, l, w, s) xm xi xw im le nu rf ln nn vp xn xc vs))) (fun f => rfl) (mf_isb (j / 5) (a / 5) (g / 5) (by omega) (by omega) (by omega) _) ?_
        refine me_ifN (C := (nI (ki1 (kbr (min (a / 5) (g / 5)) (max (a / 5) (g / 5)) (j / 5)) 1)) = 0) (nI_eqi (a := ki1 (kbr (min (a / 5) (g / 5)) (max (a / 5) (g / 5)) (j / 5)) 1) (b := 0) (by omega)) (fun f => rfl) (fun h6 => ?_) (fun h6 => ?_)
        · refine me_seg 1 (pc1 := 126) (ls1 := [some (.ref 138), some (.int 1), some (.int (nI a)), some (.int (nI g)), some (.int (nI j)), some (.int (nI f)), some (.int ((nI j) + 1))]) (st1 := []) (M1 := (mk_M c n m kk (rT (he, ke, ki, fi, fa, or, mi, a, g, l, w, s) xm xi xw im le nu rf ln nn vp xn xc vs))) (fun f => rfl) ?_
          refine me_l (fun q_ => [some (.ref 138), some (.int 1), some (.int (nI a)), some (.int (nI g)), some (.int (nI j)), some (.int (nI f)), some (.int q_)]) (nI_add j 1) ?_
          refine me_seg 1 (pc1 := 39) (ls1 := [some (.ref 138), some (.int 1), some (.int (nI a)), some (.int (nI g)), some (.int (nI j)), some (.int (nI f)), some (.int (nI (j + 1)))]) (st1 := []) (M1 := (mk_M c n m kk (rT (he, ke, ki, fi, fa, or, mi, a, g, l, w, s) xm xi xw im le nu rf ln nn vp xn xc vs))) (fun f => rfl) ?_
          exact IH (j + 1) j f xm xw vp xn xc vs (by omega) ⟨(by assumption), (by assumption), (by assumption), (by assumption)⟩ (by omega) (g1.trans (ktl_t (by omega))) (g2.trans ((kbw_s (P := (fun c => ki1 (kbr (min (a / 5) (g / 5)) (max (a / 5) (g / 5)) (c / 5) && kbr (min (a % 5) (g % 5)) (max (a % 5) (g % 5)) (c % 5)) (kg ke c))) (j := j) (v := 0) (show ki1 ((kbr (min (a / 5) (g / 5)) (max (a / 5) (g / 5)) (j / 5)) && (kbr (min (a % 5) (g % 5)) (max (a % 5) (g % 5)) (j % 5))) (kg ke j) = 0 by rw [ki1_0 h6]; rfl)).trans rfl)) (by omega)
        · refine me_seg 3 (pc1 := 108) (ls1 := [some (.ref 138), some (.int 1), some (.int (nI a)), some (.int (nI g)), some (.int (nI j)), some (.int (nI f)), some (.int (nI j))]) (st1 := [.int ((nI j) - (nI j) / (5 : Int32) * (5 : Int32))]) (M1 := (mk_M c n m kk (rT (he, ke, ki, fi, fa, or, mi, a, g, l, w, s) xm xi xw im le nu rf ln nn vp xn xc vs))) (fun f => rfl) ?_
          refine me_v (pk_rem (a := j) (d := 5) (by omega) (by decide) (by decide)) ?_
          refine me_seg 3 (pc1 := 111) (ls1 := [some (.ref 138), some (.int 1), some (.int (nI a)), some (.int (nI g)), some (.int (nI j)), some (.int (nI f)), some (.int (nI j))]) (st1 := [.int ((nI a) - (nI a) / (5 : Int32) * (5 : Int32)), .int (nI (j % 5))]) (M1 := (mk_M c n m kk (rT (he, ke, ki, fi, fa, or, mi, a, g, l, w, s) xm xi xw im le nu rf ln nn vp xn xc vs))) (fun f => rfl) ?_
          refine me_v (pk_rem (a := a) (d := 5) (by omega) (by decide) (by decide)) ?_
          refine me_seg 3 (pc1 := 114) (ls1 := [some (.ref 138), some (.int 1), some (.int (nI a)), some (.int (nI g)), some (.int (nI j)), some (.int (nI f)), some (.int (nI j))]) (st1 := [.int ((nI g) - (nI g) / (5 : Int32) * (5 : Int32)), .int (nI (a % 5)), .int (nI (j % 5))]) (M1 := (mk_M c n m kk (rT (he, ke, ki, fi, fa, or, mi, a, g, l, w, s) xm xi xw im le nu rf ln nn vp xn xc vs))) (fun f => rfl) ?_
          refine me_v (pk_rem (a := g) (d := 5) (by omega) (by decide) (by decide)) ?_
          refine me_call (y := 190) (y0 := 117) (L := [some (.int (nI (j % 5))), some (.int (nI (a % 5))), some (.int (nI (g % 5)))]) (rest := []) (rr := some (.int (nI (ki1 (kbr (min (a % 5) (g % 5)) (max (a % 5) (g % 5)) (j % 5)) 1)))) (M1 := (mk_M c n m kk (rT (he, ke, ki, fi, fa, or, mi, a, g, l, w, s) xm xi xw im le nu rf ln nn vp xn xc vs))) (fun f => rfl) (mf_isb (j % 5) (a % 5) (g % 5) (by omega) (by omega) (by omega) _) ?_
          refine me_ifN (C := (nI (ki1 (kbr (min (a % 5) (g % 5)) (max (a % 5) (g % 5)) (j % 5)) 1)) = 0) (nI_eqi (a := ki1 (kbr (min (a % 5) (g % 5)) (max (a % 5) (g % 5)) (j % 5)) 1) (b := 0) (by omega)) (fun f => rfl) (fun h7 => ?_) (fun h7 => ?_)
          · refine me_seg 1 (pc1 := 126) (ls1 := [some (.ref 138), some (.int 1), some (.int (nI a)), some (.int (nI g)), some (.int (nI j)), some (.int (nI f)), some (.int ((nI j) + 1))]) (st1 := []) (M1 := (mk_M c n m kk (rT (he, ke, ki, fi, fa, or, mi, a, g, l, w, s) xm xi xw im le nu rf ln nn vp xn xc vs))) (fun f => rfl) ?_
            refine me_l (fun q_ => [some (.ref 138), some (.int 1), some (.int (nI a)), some (.int (nI g)), some (.int (nI j)), some (.int (nI f)), some (.int q_)]) (nI_add j 1) ?_
            refine me_seg 1 (pc1 := 39) (ls1 := [some (.ref 138), some (.int 1), some (.int (nI a)), some (.int (nI g)), some (.int (nI j)), some (.int (nI f)), some (.int (nI (j + 1)))]) (st1 := []) (M1 := (mk_M c n m kk (rT (he, ke, ki, fi, fa, or, mi, a, g, l, w, s) xm xi xw im le nu rf ln nn vp xn xc vs))) (fun f => rfl) ?_
            exact IH (j + 1) j f xm xw vp xn xc vs (by omega) ⟨(by assumption), (by assumption), (by assumption), (by assumption)⟩ (by omega) (g1.trans (ktl_t (by omega))) (g2.trans ((kbw_s (P := (fun c => ki1 (kbr (min (a / 5) (g / 5)) (max (a / 5) (g / 5)) (c / 5) && kbr (min (a % 5) (g % 5)) (max (a % 5) (g % 5)) (c % 5)) (kg ke c))) (j := j) (v := 0) (show ki1 ((kbr (min (a / 5) (g / 5)) (max (a / 5) (g / 5)) (j / 5)) && (kbr (min (a % 5) (g % 5)) (max (a % 5) (g % 5)) (j % 5))) (kg ke j) = 0 by rw [ki1_0 h7, Bool.and_false]; rfl)).trans rfl)) (by omega)
          · refine me_seg 1 (pc1 := 123) (ls1 := [some (.ref 138), some (.int 1), some (.int (nI a)), some (.int (nI g)), some (.int (nI j)), some (.int ((nI f) + 1)), some (.int (nI j))]) (st1 := []) (M1 := (mk_M c n m kk (rT (he, ke, ki, fi, fa, or, mi, a, g, l, w, s) xm xi xw im le nu rf ln nn vp xn xc vs))) (fun f => rfl) ?_
            refine me_l (fun q_ => [some (.ref 138), some (.int 1), some (.int (nI a)), some (.int (nI g)), some (.int (nI j)), some (.int q_), some (.int (nI j))]) (nI_add f 1) ?_
            refine me_seg 1 (pc1 := 126) (ls1 := [some (.ref 138), some (.int 1), some (.int (nI a)), some (.int (nI g)), some (.int (nI j)), some (.int (nI (f + 1))), some (.int ((nI j) + 1))]) (st1 := []) (M1 := (mk_M c n m kk (rT (he, ke, ki, fi, fa, or, mi, a, g, l, w, s) xm xi xw im le nu rf ln nn vp xn xc vs))) (fun f => rfl) ?_
            refine me_l (fun q_ => [some (.ref 138), some (.int 1), some (.int (nI a)), some (.int (nI g)), some (.int (nI j)), some (.int (nI (f + 1))), some (.int q_)]) (nI_add j 1) ?_
            refine me_seg 1 (pc1 := 39) (ls1 := [some (.ref 138), some (.int 1), some (.int (nI a)), some (.int (nI g)), some (.int (nI j)), some (.int (nI (f + 1))), some (.int (nI (j + 1)))]) (st1 := []) (M1 := (mk_M c n m kk (rT (he, ke, ki, fi, fa, or, mi, a, g, l, w, s) xm xi xw im le nu rf ln nn vp xn xc vs))) (fun f => rfl) ?_
            exact IH (j + 1) j (f + 1) xm xw vp xn xc vs (by omega) ⟨(by assumption), (by assumption), (by assumption), (by assumption)⟩ (by omega) (g1.trans (ktl_t (by omega))) (g2.trans (kbw_s (P := (fun c => ki1 (kbr (min (a / 5) (g / 5)) (max (a / 5) (g / 5)) (c / 5) && kbr (min (a % 5) (g % 5)) (max (a % 5) (g % 5)) (c % 5)) (kg ke c))) (j := j) (show ki1 ((kbr (min (a / 5) (g / 5)) (max (a / 5) (g / 5)) (j / 5)) && (kbr (min (a % 5) (g % 5)) (max (a % 5) (g % 5)) (j % 5))) (kg ke j) = 1 by rw [ki1_1 h6, ki1_1 h7]; show kg ke j = 1; omega))) (by omega)
set_option maxRecDepth 100000 in
theorem tm_far_1 (he ke ki fi fa or : List Nat) (mi a g l w s : Nat) (xi : List Int32) (im : Nat) (le nu rf : List Nat) (ln nn : Nat) (c : cC) (n m kk : kG) (hA : iA (he, ke, ki, fi, fa, or, mi, a, g, l, w, s)) (hC : iC nu nn) (xm xw : List Int32) (vp : Int32) (xn xc : List Int32) (vs : Int32) (hR : iR xm xw xn xc) : mm_E 189 0 [some (.ref 138), some (.int 1), none, none, none, none, none] [] (mk_M c n m kk (rT (he, ke, ki, fi, fa, or, mi, a, g, l, w, s) xm xi xw im le nu rf ln nn vp xn xc vs)) (pM (fun r => r = some (.int (nI (ktl he 24 1 0)))) (he, ke, ki, fi, fa, or, mi, a, g, l, w, s) xi im le nu rf ln nn c n m kk) := by
  obtain ⟨hV, hst⟩ := id hA
  have hst2 : s ≤ 999 := hst
  obtain ⟨v1, v2, v3, v4, v5, v6, v7, v8, v9, v10, v11, v12, v13, v14, v15, v16⟩ := id hV
  have v6l := kO_len mi v7 or v6
  obtain ⟨c1, c2, c3⟩ := id hC
  obtain ⟨r1, r2, r3, r4⟩ := id hR
  refine me_seg 3 (pc1 := 3) (ls1 := [some (.ref 138), some (.int 1), none, none, none, none, none]) (st1 := [.int 3, .int 0, .int 1]) (M1 := (mk_M c n m kk (rT (he, ke, ki, fi, fa, or, mi, a, g, l, w, s) xm xi xw im le nu rf ln nn vp xn xc vs))) (fun f => rfl) ?_
  refine me_call (y := 135) (y0 := 6) (L := [some (.int 1), some (.int 0), some (.int 3)]) (rest := []) (rr := some (.int 1)) (M1 := (mk_M c n m kk (rT (he, ke, ki, fi, fa, or, mi, a, g, l, w, s) xm xi xw im le nu rf ln nn vp xn xc vs))) (fun f => rfl) (by
      exact mr_ret 9 (fun f => rfl)) ?_
  refine me_seg 4 (pc1 := 21) (ls1 := [some (.ref 138), some (.int 1), none, none, none, none, none]) (st1 := [.int 2, .ref 139]) (M1 := (mk_M c n m kk (rT (he, ke, ki, fi, fa, or, mi, a, g, l, w, s) xm xi xw im le nu rf ln nn vp xn xc vs))) (fun f => rfl) ?_
  refine me_ldn (xs := (er (he, ke, ki, fi, fa, or, mi, a, g, l, w, s))) rfl rfl (k := 2) (by decide) rfl ?_
  refine me_seg 4 (pc1 := 28) (ls1 := [some (.ref 138), some (.int 1), some (.int (nI a)), none, none, none, none]) (st1 := [.int 3, .ref 139]) (M1 := (mk_M c n m kk (rT (he, ke, ki, fi, fa, or, mi, a, g, l, w, s) xm xi xw im le nu rf ln nn vp xn xc vs))) (fun f => rfl) ?_
  refine me_ldn (xs := (er (he, ke, ki, fi, fa, or, mi, a, g, l, w, s))) rfl rfl (k := 3) (by decide) rfl ?_
  refine me_seg 7 (pc1 := 39) (ls1 := [some (.ref 138), some (.int 1), some (.int (nI a)), some (.int (nI g)), some (.int 0), some (.int 0), some (.int 0)]) (st1 := []) (M1 := (mk_M c n m kk (rT (he, ke, ki, fi, fa, or, mi, a, g, l, w, s) xm xi xw im le nu rf ln nn vp xn xc vs))) (fun f => rfl) ?_
  exact tm_farL1 he ke ki fi fa or mi a g l w s xi im le nu rf ln nn c n m kk hA hC (ktl he 24 1 0) (kbw (fun c => ki1 (kbr (min (a / 5) (g / 5)) (max (a / 5) (g / 5)) (c / 5) && kbr (min (a % 5) (g % 5)) (max (a % 5) (g % 5)) (c % 5)) (kg ke c)) 25 0 0) 25 0 0 0 xm xw vp xn xc vs (by omega) ⟨(by assumption), (by assumption), (by assumption), (by assumption)⟩ (by omega) (ktl_f (by omega)).symm rfl (by omega)
set_option maxRecDepth 100000 in
theorem tm_farL2 (he ke ki fi fa or : List Nat) (mi a g l w s : Nat) (xi : List Int32) (im : Nat) (le nu rf : List Nat) (ln nn : Nat) (c : cC) (n m kk : kG) (hA : iA (he, ke, ki, fi, fa, or, mi, a, g, l, w, s)) (hC : iC nu nn) (A1 A2 : Nat) (k : Nat) : ∀ (j : Nat) (b : Nat) (f : Nat) (xm xw : List Int32) (vp : Int32) (xn xc : List Int32) (vs : Int32), j + k = 25 → iR xm xw xn xc → b < 25 → A1 = ktl he k j b → A2 = kbw (fun c => ki1 (kbr (min (a / 5) (g / 5)) (max (a / 5) (g / 5)) (c / 5) && kbr (min (a % 5) (g % 5)) (max (a % 5) (g % 5)) (c % 5)) (kg ke c)) k j f → f ≤ j → mm_E 189 39 [some (.ref 138), some (.int 2), some (.int (nI a)), some (.int (nI g)), some (.int (nI b)), some (.int (nI f)), some (.int (nI j))] [] (mk_M c n m kk (rT (he, ke, ki, fi, fa, or, mi, a, g, l, w, s) xm xi xw im le nu rf ln nn vp xn xc vs)) (pM (fun r => r = some (.int (nI (ksum ke 25)))) (he, ke, ki, fi, fa, or, mi, a, g, l, w, s) xi im le nu rf ln nn c n m kk) := by
  obtain ⟨hV, hst⟩ := id hA
  have hst2 : s ≤ 999 := hst
  obtain ⟨v1, v2, v3, v4, v5, v6, v7, v8, v9, v10, v11, v12, v13, v14, v15, v16⟩ := id hV
  have v6l := kO_len mi v7 or v6
  obtain ⟨c1, c2, c3⟩ := id hC
  induction k with
  | zero =>
    intro j b f xm xw vp xn xc vs hj hR g0 g1 g2 g3
    obtain ⟨r1, r2, r3, r4⟩ := id hR
    have f1 := v12 b
    have f2 := v12 j
    have f3 := v13 j
    have i1 := ki1_le (kbr (min (a / 5) (g / 5)) (max (a / 5) (g / 5)) (j / 5))
    have i2 := ki1_le (kbr (min (a % 5) (g % 5)) (max (a % 5) (g % 5)) (j % 5))
    have k1 := kap_le (show a / 5 < 5 by omega) (show g / 5 < 5 by omega)
    have k2 := kap_le (show a % 5 < 5 by omega) (show g % 5 < 5 by omega)
    refine me_seg 2 (pc1 := 43) (ls1 := [some (.ref 138), some (.int 2), some (.int (nI a)), some (.int (nI g)), some (.int (nI b)), some (.int (nI f)), some (.int (nI j))]) (st1 := [.int 25, .int (nI j)]) (M1 := (mk_M c n m kk (rT (he, ke, ki, fi, fa, or, mi, a, g, l, w, s) xm xi xw im le nu rf ln nn vp xn xc vs))) (fun f => rfl) ?_
    refine me_t (C := 25 ≤ (nI j)) (nI_let (a := 25) (b := j) (by omega)) (fun f => rfl) ?_
    refine me_seg 11 (pc1 := 176) (ls1 := [some (.ref 138), some (.int 2), some (.int (nI a)), some (.int (nI g)), some (.int (nI b)), some (.int (nI f)), some (.int (nI j))]) (st1 := [.int 6, .ref 139]) (M1 := (mk_M c n m kk (rT (he, ke, ki, fi, fa, or, mi, a, g, l, w, s) xm xi xw im le nu rf ln nn vp xn xc vs))) (fun f => rfl) ?_
    refine me_ldn (xs := (er (he, ke, ki, fi, fa, or, mi, a, g, l, w, s))) rfl rfl (k := 6) (by decide) rfl ?_
    refine me_call (y := 192) (y0 := 180) (L := [some (.int (nI (kbits ke))), none, none]) (rest := []) (rr := some (.int (nI (ksum ke 25)))) (M1 := (mk_M c n m kk (rT (he, ke, ki, fi, fa, or, mi, a, g, l, w, s) xm xi xw im le nu rf ln nn vp xn xc vs))) (fun f => rfl) (mf_bits ke v2 v13 _) ?_
    refine me_ret 2 (r := some (.int (nI (ksum ke 25)))) (M1 := (mk_M c n m kk (rT (he, ke, ki, fi, fa, or, mi, a, g, l, w, s) xm xi xw im le nu rf ln nn vp xn xc vs))) (fun f => rfl) ?_
    exact ⟨rfl, _, _, _, _, _, _, rfl, ⟨(by assumption), (by assumption), (by assumption), (by assumption)⟩⟩
  | succ k IH =>
    intro j b f xm xw vp xn xc vs hj hR g0 g1 g2 g3
    obtain ⟨r1, r2, r3, r4⟩ := id hR
    have f1 := v12 b
    have f2 := v12 j
    have f3 := v13 j
    have i1 := ki1_le (kbr (min (a / 5) (g / 5)) (max (a / 5) (g / 5)) (j / 5))
    have i2 := ki1_le (kbr (min (a % 5) (g % 5)) (max (a % 5) (g % 5)) (j % 5))
    have k1 := kap_le (show a / 5 < 5 by omega) (show g / 5 < 5 by omega)
    have k2 := kap_le (show a % 5 < 5 by omega) (show g % 5 < 5 by omega)
    refine me_seg 2 (pc1 := 43) (ls1 := [some (.ref 138), some (.int 2), some (.int (nI a)), some (.int (nI g)), some (.int (nI b)), some (.int (nI f)), some (.int (nI j))]) (st1 := [.int 25, .int (nI j)]) (M1 := (mk_M c n m kk (rT (he, ke, ki, fi, fa, or, mi, a, g, l, w, s) xm xi xw im le nu rf ln nn vp xn xc vs))) (fun f => rfl) ?_
    refine me_f (C := 25 ≤ (nI j)) (nI_lef (a := 25) (b := j) (by omega)) (fun f => rfl) ?_
    refine me_seg 5 (pc1 := 55) (ls1 := [some (.ref 138), some (.int 2), some (.int (nI a)), some (.int (nI g)), some (.int (nI b)), some (.int (nI f)), some (.int (nI j))]) (st1 := [.int ((7 : Int32) + (nI j)), .ref 139]) (M1 := (mk_M c n m kk (rT (he, ke, ki, fi, fa, or, mi, a, g, l, w, s) xm xi xw im le nu rf ln nn vp xn xc vs))) (fun f => rfl) ?_
    refine me_v (nI_add 7 j) ?_
    refine me_ldn (xs := (er (he, ke, ki, fi, fa, or, mi, a, g, l, w, s))) rfl rfl (k := 7 + j) (by omega) (er_h (K := (he, ke, ki, fi, fa, or, mi, a, g, l, w, s)) v1 (by omega)) ?_
    refine me_seg 5 (pc1 := 65) (ls1 := [some (.ref 138), some (.int 2), some (.int (nI a)), some (.int (nI g)), some (.int (nI b)), some (.int (nI f)), some (.int (nI j))]) (st1 := [.int ((7 : Int32) + (nI b)), .ref 139, .int (nI (kg he j))]) (M1 := (mk_M c n m kk (rT (he, ke, ki, fi, fa, or, mi, a, g, l, w, s) xm xi xw im le nu rf ln nn vp xn xc vs))) (fun f => rfl) ?_
    refine me_v (nI_add 7 b) ?_
    refine me_ldn (xs := (er (he, ke, ki, fi, fa, or, mi, a, g, l, w, s))) rfl rfl (k := 7 + b) (by omega) (er_h (K := (he, ke, ki, fi, fa, or, mi, a, g, l, w, s)) v1 (by omega)) ?_
    refine me_ifN (C := (nI (kg he j)) ≤ (nI (kg he b))) (nI_lei (a := kg he j) (b := kg he b) (by omega)) (fun f => rfl) (fun h1 => ?_) (fun h1 => ?_)
    · refine me_seg 3 (pc1 := 79) (ls1 := [some (.ref 138), some (.int 2), some (.int (nI a)), some (.int (nI g)), some (.int (nI b)), some (.int (nI f)), some (.int (nI j))]) (st1 := [.int 6, .ref 139]) (M1 := (mk_M c n m kk (rT (he, ke, ki, fi, fa, or, mi, a, g, l, w, s) xm xi xw im le nu rf ln nn vp xn xc vs))) (fun f => rfl) ?_
      refine me_ldn (xs := (er (he, ke, ki, fi, fa, or, mi, a, g, l, w, s))) rfl rfl (k := 6) (by decide) rfl ?_
      refine me_seg 1 (pc1 := 82) (ls1 := [some (.ref 138), some (.int 2), some (.int (nI a)), some (.int (nI g)), some (.int (nI b)), some (.int (nI f)), some (.int (nI j))]) (st1 := [.int (nI j), .int (nI (kbits ke))]) (M1 := (mk_M c n m kk (rT (he, ke, ki, fi, fa, or, mi, a, g, l, w, s) xm xi xw im le nu rf ln nn vp xn xc vs))) (fun f => rfl) ?_
      refine me_call (y := 151) (y0 := 85) (L := [some (.int (nI (kbits ke))), some (.int (nI j))]) (rest := []) (rr := some (.int (nI (kg ke j)))) (M1 := (mk_M c n m kk (rT (he, ke, ki, fi, fa, or, mi, a, g, l, w, s) xm xi xw im le nu rf ln nn vp xn xc vs))) (fun f => rfl) (rc_has ke j (by omega) v2 v13 _) ?_
      refine me_ifN (C := (nI (kg ke j)) = 0) (nI_eqi (a := kg ke j) (b := 0) (by omega)) (fun f => rfl) (fun h2 => ?_) (fun h2 => ?_)
      · refine me_seg 1 (pc1 := 126) (ls1 := [some (.ref 138), some (.int 2), some (.int (nI a)), some (.int (nI g)), some (.int (nI b)), some (.int (nI f)), some (.int ((nI j) + 1))]) (st1 := []) (M1 := (mk_M c n m kk (rT (he, ke, ki, fi, fa, or, mi, a, g, l, w, s) xm xi xw im le nu rf ln nn vp xn xc vs))) (fun f => rfl) ?_
        refine me_l (fun q_ => [some (.ref 138), some (.int 2), some (.int (nI a)), some (.int (nI g)), some (.int (nI b)), some (.int (nI f)), some (.int q_)]) (nI_add j 1) ?_
        refine me_seg 1 (pc1 := 39) (ls1 := [some (.ref 138), some (.int 2), some (.int (nI a)), some (.int (nI g)), some (.int (nI b)), some (.int (nI f)), some (.int (nI (j + 1)))]) (st1 := []) (M1 := (mk_M c n m kk (rT (he, ke, ki, fi, fa, or, mi, a, g, l, w, s) xm xi xw im le nu rf ln nn vp xn xc vs))) (fun f => rfl) ?_
        exact IH (j + 1) b f xm xw vp xn xc vs (by omega) ⟨(by assumption), (by assumption), (by assumption), (by assumption)⟩ (by omega) (g1.trans (ktl_f (by omega))) (g2.trans ((kbw_s (P := (fun c => ki1 (kbr (min (a / 5) (g / 5)) (max (a / 5) (g / 5)) (c / 5) && kbr (min (a % 5) (g % 5)) (max (a % 5) (g % 5)) (c % 5)) (kg ke c))) (j := j) (v := 0) (show ki1 ((kbr (min (a / 5) (g / 5)) (max (a / 5) (g / 5)) (j / 5)) && (kbr (min (a % 5) (g % 5)) (max (a % 5) (g % 5)) (j % 5))) (kg ke j) = 0 by rw [h2]; cases ((kbr (min (a / 5) (g / 5)) (max (a / 5) (g / 5)) (j / 5)) && (kbr (min (a % 5) (g % 5)) (max (a % 5) (g % 5)) (j % 5))) <;> rfl)).trans rfl)) (by omega)
      · refine me_seg 3 (pc1 := 92) (ls1 := [some (.ref 138), some (.int 2), some (.int (nI a)), some (.int (nI g)), some (.int (nI b)), some (.int (nI f)), some (.int (nI j))]) (st1 := [.int ((nI j) / (5 : Int32))]) (M1 := (mk_M c n m kk (rT (he, ke, ki, fi, fa, or, mi, a, g, l, w, s) xm xi xw im le nu rf ln nn vp xn xc vs))) (fun f => rfl) ?_
        refine me_v (pk_div (a := j) (d := 5) (by omega) (by decide) (by decide)) ?_
        refine me_seg 3 (pc1 := 95) (ls1 := [some (.ref 138), some (.int 2), some (.int (nI a)), some (.int (nI g)), some (.int (nI b)), some (.int (nI f)), some (.int (nI j))]) (st1 := [.int ((nI a) / (5 : Int32)), .int (nI (j / 5))]) (M1 := (mk_M c n m kk (rT (he, ke, ki, fi, fa, or, mi, a, g, l, w, s) xm xi xw im le nu rf ln nn vp xn xc vs))) (fun f => rfl) ?_
        refine me_v (pk_div (a := a) (d := 5) (by omega) (by decide) (by decide)) ?_
        refine me_seg 3 (pc1 := 98) (ls1 := [some (.ref 138), some (.int 2), some (.int (nI a)), some (.int (nI g)), some (.int (nI b)), some (.int (nI f)), some (.int (nI j))]) (st1 := [.int ((nI g) / (5 : Int32)), .int (nI (a / 5)), .int (nI (j / 5))]) (M1 := (mk_M c n m kk (rT (he, ke, ki, fi, fa, or, mi, a, g, l, w, s) xm xi xw im le nu rf ln nn vp xn xc vs))) (fun f => rfl) ?_
        refine me_v (pk_div (a := g) (d := 5) (by omega) (by decide) (by decide)) ?_
        refine me_call (y := 190) (y0 := 101) (L := [some (.int (nI (j / 5))), some (.int (nI (a / 5))), some (.int (nI (g / 5)))]) (rest := []) (rr := some (.int (nI (ki1 (kbr (min (a / 5) (g / 5)) (max (a / 5) (g / 5)) (j / 5)) 1)))) (M1 := (mk_M c n m kk (rT (he, ke, ki, fi, fa, or, mi, a, g, l, w, s) xm xi xw im le nu rf ln nn vp xn xc vs))) (fun f => rfl) (mf_isb (j / 5) (a / 5) (g / 5) (by omega) (by omega) (by omega) _) ?_
        refine me_ifN (C := (nI (ki1 (kbr (min (a / 5) (g / 5)) (max (a / 5) (g / 5)) (j / 5)) 1)) = 0) (nI_eqi (a := ki1 (kbr (min (a / 5) (g / 5)) (max (a / 5) (g / 5)) (j / 5)) 1) (b := 0) (by omega)) (fun f => rfl) (fun h3 => ?_) (fun h3 => ?_)
        · refine me_seg 1 (pc1 := 126) (ls1 := [some (.ref 138), some (.int 2), some (.int (nI a)), some (.int (nI g)), some (.int (nI b)), some (.int (nI f)), some (.int ((nI j) + 1))]) (st1 := []) (M1 := (mk_M c n m kk (rT (he, ke, ki, fi, fa, or, mi, a, g, l, w, s) xm xi xw im le nu rf ln nn vp xn xc vs))) (fun f => rfl) ?_
          refine me_l (fun q_ => [some (.ref 138), some (.int 2), some (.int (nI a)), some (.int (nI g)), some (.int (nI b)), some (.int (nI f)), some (.int q_)]) (nI_add j 1) ?_
          refine me_seg 1 (pc1 := 39) (ls1 := [some (.ref 138), some (.int 2), some (.int (nI a)), some (.int (nI g)), some (.int (nI b)), some (.int (nI f)), some (.int (nI (j + 1)))]) (st1 := []) (M1 := (mk_M c n m kk (rT (he, ke, ki, fi, fa, or, mi, a, g, l, w, s) xm xi xw im le nu rf ln nn vp xn xc vs))) (fun f => rfl) ?_
          exact IH (j + 1) b f xm xw vp xn xc vs (by omega) ⟨(by assumption), (by assumption), (by assumption), (by assumption)⟩ (by omega) (g1.trans (ktl_f (by omega))) (g2.trans ((kbw_s (P := (fun c => ki1 (kbr (min (a / 5) (g / 5)) (max (a / 5) (g / 5)) (c / 5) && kbr (min (a % 5) (g % 5)) (max (a % 5) (g % 5)) (c % 5)) (kg ke c))) (j := j) (v := 0) (show ki1 ((kbr (min (a / 5) (g / 5)) (max (a / 5) (g / 5)) (j / 5)) && (kbr (min (a % 5) (g % 5)) (max (a % 5) (g % 5)) (j % 5))) (kg ke j) = 0 by rw [ki1_0 h3]; rfl)).trans rfl)) (by omega)
        · refine me_seg 3 (pc1 := 108) (ls1 := [some (.ref 138), some (.int 2), some (.int (nI a)), some (.int (nI g)), some (.int (nI b)), some (.int (nI f)), some (.int (nI j))]) (st1 := [.int ((nI j) - (nI j) / (5 : Int32) * (5 : Int32))]) (M1 := (mk_M c n m kk (rT (he, ke, ki, fi, fa, or, mi, a, g, l, w, s) xm xi xw im le nu rf ln nn vp xn xc vs))) (fun f => rfl) ?_
          refine me_v (pk_rem (a := j) (d := 5) (by omega) (by decide) (by decide)) ?_
          refine me_seg 3 (pc1 := 111) (ls1 := [some (.ref 138), some (.int 2), some (.int (nI a)), some (.int (nI g)), some (.int (nI b)), some (.int (nI f)), some (.int (nI j))]) (st1 := [.int ((nI a) - (nI a) / (5 : Int32) * (5 : Int32)), .int (nI (j % 5))]) (M1 := (mk_M c n m kk (rT (he, ke, ki, fi, fa, or, mi, a, g, l, w, s) xm xi xw im le nu rf ln nn vp xn xc vs))) (fun f => rfl) ?_
          refine me_v (pk_rem (a := a) (d := 5) (by omega) (by decide) (by decide)) ?_
          refine me_seg 3 (pc1 := 114) (ls1 := [some (.ref 138), some (.int 2), some (.int (nI a)), some (.int (nI g)), some (.int (nI b)), some (.int (nI f)), some (.int (nI j))]) (st1 := [.int ((nI g) - (nI g) / (5 : Int32) * (5 : Int32)), .int (nI (a % 5)), .int (nI (j % 5))]) (M1 := (mk_M c n m kk (rT (he, ke, ki, fi, fa, or, mi, a, g, l, w, s) xm xi xw im le nu rf ln nn vp xn xc vs))) (fun f => rfl) ?_
          refine me_v (pk_rem (a := g) (d := 5) (by omega) (by decide) (by decide)) ?_
          refine me_call (y := 190) (y0 := 117) (L := [some (.int (nI (j % 5))), some (.int (nI (a % 5))), some (.int (nI (g % 5)))]) (rest := []) (rr := some (.int (nI (ki1 (kbr (min (a % 5) (g % 5)) (max (a % 5) (g % 5)) (j % 5)) 1)))) (M1 := (mk_M c n m kk (rT (he, ke, ki, fi, fa, or, mi, a, g, l, w, s) xm xi xw im le nu rf ln nn vp xn xc vs))) (fun f => rfl) (mf_isb (j % 5) (a % 5) (g % 5) (by omega) (by omega) (by omega) _) ?_
          refine me_ifN (C := (nI (ki1 (kbr (min (a % 5) (g % 5)) (max (a % 5) (g % 5)) (j % 5)) 1)) = 0) (nI_eqi (a := ki1 (kbr (min (a % 5) (g % 5)) (max (a % 5) (g % 5)) (j % 5)) 1) (b := 0) (by omega)) (fun f => rfl) (fun h4 => ?_) (fun h4 => ?_)
          · refine me_seg 1 (pc1 := 126) (ls1 := [some (.ref 138), some (.int 2), some (.int (nI a)), some (.int (nI g)), some (.int (nI b)), some (.int (nI f)), some (.int ((nI j) + 1))]) (st1 := []) (M1 := (mk_M c n m kk (rT (he, ke, ki, fi, fa, or, mi, a, g, l, w, s) xm xi xw im le nu rf ln nn vp xn xc vs))) (fun f => rfl) ?_
            refine me_l (fun q_ => [some (.ref 138), some (.int 2), some (.int (nI a)), some (.int (nI g)), some (.int (nI b)), some (.int (nI f)), some (.int q_)]) (nI_add j 1) ?_
            refine me_seg 1 (pc1 := 39) (ls1 := [some (.ref 138), some (.int 2), some (.int (nI a)), some (.int (nI g)), some (.int (nI b)), some (.int (nI f)), some (.int (nI (j + 1)))]) (st1 := []) (M1 := (mk_M c n m kk (rT (he, ke, ki, fi, fa, or, mi, a, g, l, w, s) xm xi xw im le nu rf ln nn vp xn xc vs))) (fun f => rfl) ?_
            exact IH (j + 1) b f xm xw vp xn xc vs (by omega) ⟨(by assumption), (by assumption), (by assumption), (by assumption)⟩ (by omega) (g1.trans (ktl_f (by omega))) (g2.trans ((kbw_s (P := (fun c => ki1 (kbr (min (a / 5) (g / 5)) (max (a / 5) (g / 5)) (c / 5) && kbr (min (a % 5) (g % 5)) (max (a % 5) (g % 5)) (c % 5)) (kg ke c))) (j := j) (v := 0) (show ki1 ((kbr (min (a / 5) (g / 5)) (max (a / 5) (g / 5)) (j / 5)) && (kbr (min (a % 5) (g % 5)) (max (a % 5) (g % 5)) (j % 5))) (kg ke j) = 0 by rw [ki1_0 h4, Bool.and_false]; rfl)).trans rfl)) (by omega)
          · refine me_seg 1 (pc1 := 123) (ls1 := [some (.ref 138), some (.int 2), some (.int (nI a)), some (.int (nI g)), some (.int (nI b)), some (.int ((nI f) + 1)), some (.int (nI j))]) (st1 := []) (M1 := (mk_M c n m kk (rT (he, ke, ki, fi, fa, or, mi, a, g, l, w, s) xm xi xw im le nu rf ln nn vp xn xc vs))) (fun f => rfl) ?_
            refine me_l (fun q_ => [some (.ref 138), some (.int 2), some (.int (nI a)), some (.int (nI g)), some (.int (nI b)), some (.int q_), some (.int (nI j))]) (nI_add f 1) ?_
            refine me_seg 1 (pc1 := 126) (ls1 := [some (.ref 138), some (.int 2), some (.int (nI a)), some (.int (nI g)), some (.int (nI b)), some (.int (nI (f + 1))), some (.int ((nI j) + 1))]) (st1 := []) (M1 := (mk_M c n m kk (rT (he, ke, ki, fi, fa, or, mi, a, g, l, w, s) xm xi xw im le nu rf ln nn vp xn xc vs))) (fun f => rfl) ?_
            refine me_l (fun q_ => [some (.ref 138), some (.int 2), some (.int (nI a)), some (.int (nI g)), some (.int (nI b)), some (.int (nI (f + 1))), some (.int q_)]) (nI_add j 1) ?_
            refine me_seg 1 (pc1 := 39) (ls1 := [some (.ref 138), some (.int 2), some (.int (nI a)), some (.int (nI g)), some (.int (nI b)), some (.int (nI (f + 1))), some (.int (nI (j + 1)))]) (st1 := []) (M1 := (mk_M c n m kk (rT (he, ke, ki, fi, fa, or, mi, a, g, l, w, s) xm xi xw im le nu rf ln nn vp xn xc vs))) (fun f => rfl) ?_
            exact IH (j + 1) b (f + 1) xm xw vp xn xc vs (by omega) ⟨(by assumption), (by assumption), (by assumption), (by assumption)⟩ (by omega) (g1.trans (ktl_f (by omega))) (g2.trans (kbw_s (P := (fun c => ki1 (kbr (min (a / 5) (g / 5)) (max (a / 5) (g / 5)) (c / 5) && kbr (min (a % 5) (g % 5)) (max (a % 5) (g % 5)) (c % 5)) (kg ke c))) (j := j) (show ki1 ((kbr (min (a / 5) (g / 5)) (max (a / 5) (g / 5)) (j / 5)) && (kbr (min (a % 5) (g % 5)) (max (a % 5) (g % 5)) (j % 5))) (kg ke j) = 1 by rw [ki1_1 h3, ki1_1 h4]; show kg ke j = 1; omega))) (by omega)
    · refine me_seg 5 (pc1 := 79) (ls1 := [some (.ref 138), some (.int 2), some (.int (nI a)), some (.int (nI g)), some (.int (nI j)), some (.int (nI f)), some (.int (nI j))]) (st1 := [.int 6, .ref 139]) (M1 := (mk_M c n m kk (rT (he, ke, ki, fi, fa, or, mi, a, g, l, w, s) xm xi xw im le nu rf ln nn vp xn xc vs))) (fun f => rfl) ?_
      refine me_ldn (xs := (er (he, ke, ki, fi, fa, or, mi, a, g, l, w, s))) rfl rfl (k := 6) (by decide) rfl ?_
      refine me_seg 1 (pc1 := 82) (ls1 := [some (.ref 138), some (.int 2), some (.int (nI a)), some (.int (nI g)), some (.int (nI j)), some (.int (nI f)), some (.int (nI j))]) (st1 := [.int (nI j), .int (nI (kbits ke))]) (M1 := (mk_M c n m kk (rT (he, ke, ki, fi, fa, or, mi, a, g, l, w, s) xm xi xw im le nu rf ln nn vp xn xc vs))) (fun f => rfl) ?_
      refine me_call (y := 151) (y0 := 85) (L := [some (.int (nI (kbits ke))), some (.int (nI j))]) (rest := []) (rr := some (.int (nI (kg ke j)))) (M1 := (mk_M c n m kk (rT (he, ke, ki, fi, fa, or, mi, a, g, l, w, s) xm xi xw im le nu rf ln nn vp xn xc vs))) (fun f => rfl) (rc_has ke j (by omega) v2 v13 _) ?_
      refine me_ifN (C := (nI (kg ke j)) = 0) (nI_eqi (a := kg ke j) (b := 0) (by omega)) (fun f => rfl) (fun h5 => ?_) (fun h5 => ?_)
      · refine me_seg 1 (pc1 := 126) (ls1 := [some (.ref 138), some (.int 2), some (.int (nI a)), some (.int (nI g)), some (.int (nI j)), some (.int (nI f)), some (.int ((nI j) + 1))]) (st1 := []) (M1 := (mk_M c n m kk (rT (he, ke, ki, fi, fa, or, mi, a, g, l, w, s) xm xi xw im le nu rf ln nn vp xn xc vs))) (fun f => rfl) ?_
        refine me_l (fun q_ => [some (.ref 138), some (.int 2), some (.int (nI a)), some (.int (nI g)), some (.int (nI j)), some (.int (nI f)), some (.int q_)]) (nI_add j 1) ?_
        refine me_seg 1 (pc1 := 39) (ls1 := [some (.ref 138), some (.int 2), some (.int (nI a)), some (.int (nI g)), some (.int (nI j)), some (.int (nI f)), some (.int (nI (j + 1)))]) (st1 := []) (M1 := (mk_M c n m kk (rT (he, ke, ki, fi, fa, or, mi, a, g, l, w, s) xm xi xw im le nu rf ln nn vp xn xc vs))) (fun f => rfl) ?_
        exact IH (j + 1) j f xm xw vp xn xc vs (by omega) ⟨(by assumption), (by assumption), (by assumption), (by assumption)⟩ (by omega) (g1.trans (ktl_t (by omega))) (g2.trans ((kbw_s (P := (fun c => ki1 (kbr (min (a / 5) (g / 5)) (max (a / 5) (g / 5)) (c / 5) && kbr (min (a % 5) (g % 5)) (max (a % 5) (g % 5)) (c % 5)) (kg ke c))) (j := j) (v := 0) (show ki1 ((kbr (min (a / 5) (g / 5)) (max (a / 5) (g / 5)) (j / 5)) && (kbr (min (a % 5) (g % 5)) (max (a % 5) (g % 5)) (j % 5))) (kg ke j) = 0 by rw [h5]; cases ((kbr (min (a / 5) (g / 5)) (max (a / 5) (g / 5)) (j / 5)) && (kbr (min (a % 5) (g % 5)) (max (a % 5) (g % 5)) (j % 5))) <;> rfl)).trans rfl)) (by omega)
      · refine me_seg 3 (pc1 := 92) (ls1 := [some (.ref 138), some (.int 2), some (.int (nI a)), some (.int (nI g)), some (.int (nI j)), some (.int (nI f)), some (.int (nI j))]) (st1 := [.int ((nI j) / (5 : Int32))]) (M1 := (mk_M c n m kk (rT (he, ke, ki, fi, fa, or, mi, a, g, l, w, s) xm xi xw im le nu rf ln nn vp xn xc vs))) (fun f => rfl) ?_
        refine me_v (pk_div (a := j) (d := 5) (by omega) (by decide) (by decide)) ?_
        refine me_seg 3 (pc1 := 95) (ls1 := [some (.ref 138), some (.int 2), some (.int (nI a)), some (.int (nI g)), some (.int (nI j)), some (.int (nI f)), some (.int (nI j))]) (st1 := [.int ((nI a) / (5 : Int32)), .int (nI (j / 5))]) (M1 := (mk_M c n m kk (rT (he, ke, ki, fi, fa, or, mi, a, g, l, w, s) xm xi xw im le nu rf ln nn vp xn xc vs))) (fun f => rfl) ?_
        refine me_v (pk_div (a := a) (d := 5) (by omega) (by decide) (by decide)) ?_
        refine me_seg 3 (pc1 := 98) (ls1 := [some (.ref 138), some (.int 2), some (.int (nI a)), some (.int (nI g)), some (.int (nI j)), some (.int (nI f)), some (.int (nI j))]) (st1 := [.int ((nI g) / (5 : Int32)), .int (nI (a / 5)), .int (nI (j / 5))]) (M1 := (mk_M c n m kk (rT (he, ke, ki, fi, fa, or, mi, a, g, l, w, s) xm xi xw im le nu rf ln nn vp xn xc vs))) (fun f => rfl) ?_
        refine me_v (pk_div (a := g) (d := 5) (by omega) (by decide) (by decide)) ?_
        refine me_call (y := 190) (y0 := 101) (L := [some (.int (nI (j / 5))), some (.int (nI (a / 5))), some (.int (nI (g / 5)))]) (rest := []) (rr := some (.int (nI (ki1 (kbr (min (a / 5) (g / 5)) (max (a / 5) (g / 5)) (j / 5)) 1)))) (M1 := (mk_M c n m kk (rT (he, ke, ki, fi, fa, or, mi, a, g, l, w, s) xm xi xw im le nu rf ln nn vp xn xc vs))) (fun f => rfl) (mf_isb (j / 5) (a / 5) (g / 5) (by omega) (by omega) (by omega) _) ?_
        refine me_ifN (C := (nI (ki1 (kbr (min (a / 5) (g / 5)) (max (a / 5) (g / 5)) (j / 5)) 1)) = 0) (nI_eqi (a := ki1 (kbr (min (a / 5) (g / 5)) (max (a / 5) (g / 5)) (j / 5)) 1) (b := 0) (by omega)) (fun f => rfl) (fun h6 => ?_) (fun h6 => ?_)
        · refine me_seg 1 (pc1 := 126) (ls1 := [some (.ref 138), some (.int 2), some (.int (nI a)), some (.int (nI g)), some (.int (nI j)), some (.int (nI f)), some (.int ((nI j) + 1))]) (st1 := []) (M1 := (mk_M c n m kk (rT (he, ke, ki, fi, fa, or, mi, a, g, l, w, s) xm xi xw im le nu rf ln nn vp xn xc vs))) (fun f => rfl) ?_
          refine me_l (fun q_ => [some (.ref 138), some (.int 2), some (.int (nI a)), some (.int (nI g)), some (.int (nI j)), some (.int (nI f)), some (.int q_)]) (nI_add j 1) ?_
          refine me_seg 1 (pc1 := 39) (ls1 := [some (.ref 138), some (.int 2), some (.int (nI a)), some (.int (nI g)), some (.int (nI j)), some (.int (nI f)), some (.int (nI (j + 1)))]) (st1 := []) (M1 := (mk_M c n m kk (rT (he, ke, ki, fi, fa, or, mi, a, g, l, w, s) xm xi xw im le nu rf ln nn vp xn xc vs))) (fun f => rfl) ?_
          exact IH (j + 1) j f xm xw vp xn xc vs (by omega) ⟨(by assumption), (by assumption), (by assumption), (by assumption)⟩ (by omega) (g1.trans (ktl_t (by omega))) (g2.trans ((kbw_s (P := (fun c => ki1 (kbr (min (a / 5) (g / 5)) (max (a / 5) (g / 5)) (c / 5) && kbr (min (a % 5) (g % 5)) (max (a % 5) (g % 5)) (c % 5)) (kg ke c))) (j := j) (v := 0) (show ki1 ((kbr (min (a / 5) (g / 5)) (max (a / 5) (g / 5)) (j / 5)) && (kbr (min (a % 5) (g % 5)) (max (a % 5) (g % 5)) (j % 5))) (kg ke j) = 0 by rw [ki1_0 h6]; rfl)).trans rfl)) (by omega)
        · refine me_seg 3 (pc1 := 108) (ls1 := [some (.ref 138), some (.int 2), some (.int (nI a)), some (.int (nI g)), some (.int (nI j)), some (.int (nI f)), some (.int (nI j))]) (st1 := [.int ((nI j) - (nI j) / (5 : Int32) * (5 : Int32))]) (M1 := (mk_M c n m kk (rT (he, ke, ki, fi, fa, or, mi, a, g, l, w, s) xm xi xw im le nu rf ln nn vp xn xc vs))) (fun f => rfl) ?_
          refine me_v (pk_rem (a := j) (d := 5) (by omega) (by decide) (by decide)) ?_
          refine me_seg 3 (pc1 := 111) (ls1 := [some (.ref 138), some (.int 2), some (.int (nI a)), some (.int (nI g)), some (.int (nI j)), some (.int (nI f)), some (.int (nI j))]) (st1 := [.int ((nI a) - (nI a) / (5 : Int32) * (5 : Int32)), .int (nI (j % 5))]) (M1 := (mk_M c n m kk (rT (he, ke, ki, fi, fa, or, mi, a, g, l, w, s) xm xi xw im le nu rf ln nn vp xn xc vs))) (fun f => rfl) ?_
          refine me_v (pk_rem (a := a) (d := 5) (by omega) (by decide) (by decide)) ?_
          refine me_seg 3 (pc1 := 114) (ls1 := [some (.ref 138), some (.int 2), some (.int (nI a)), some (.int (nI g)), some (.int (nI j)), some (.int (nI f)), some (.int (nI j))]) (st1 := [.int ((nI g) - (nI g) / (5 : Int32) * (5 : Int32)), .int (nI (a % 5)), .int (nI (j % 5))]) (M1 := (mk_M c n m kk (rT (he, ke, ki, fi, fa, or, mi, a, g, l, w, s) xm xi xw im le nu rf ln nn vp xn xc vs))) (fun f => rfl) ?_
          refine me_v (pk_rem (a := g) (d := 5) (by omega) (by decide) (by decide)) ?_
          refine me_call (y := 190) (y0 := 117) (L := [some (.int (nI (j % 5))), some (.int (nI (a % 5))), some (.int (nI (g % 5)))]) (rest := []) (rr := some (.int (nI (ki1 (kbr (min (a % 5) (g % 5)) (max (a % 5) (g % 5)) (j % 5)) 1)))) (M1 := (mk_M c n m kk (rT (he, ke, ki, fi, fa, or, mi, a, g, l, w, s) xm xi xw im le nu rf ln nn vp xn xc vs))) (fun f => rfl) (mf_isb (j % 5) (a % 5) (g % 5) (by omega) (by omega) (by omega) _) ?_
          refine me_ifN (C := (nI (ki1 (kbr (min (a % 5) (g % 5)) (max (a % 5) (g % 5)) (j % 5)) 1)) = 0) (nI_eqi (a := ki1 (kbr (min (a % 5) (g % 5)) (max (a % 5) (g % 5)) (j % 5)) 1) (b := 0) (by omega)) (fun f => rfl) (fun h7 => ?_) (fun h7 => ?_)
          · refine me_seg 1 (pc1 := 126) (ls1 := [some (.ref 138), some (.int 2), some (.int (nI a)), some (.int (nI g)), some (.int (nI j)), some (.int (nI f)), some (.int ((nI j) + 1))]) (st1 := []) (M1 := (mk_M c n m kk (rT (he, ke, ki, fi, fa, or, mi, a, g, l, w, s) xm xi xw im le nu rf ln nn vp xn xc vs))) (fun f => rfl) ?_
            refine me_l (fun q_ => [some (.ref 138), some (.int 2), some (.int (nI a)), some (.int (nI g)), some (.int (nI j)), some (.int (nI f)), some (.int q_)]) (nI_add j 1) ?_
            refine me_seg 1 (pc1 := 39) (ls1 := [some (.ref 138), some (.int 2), some (.int (nI a)), some (.int (nI g)), some (.int (nI j)), some (.int (nI f)), some (.int (nI (j + 1)))]) (st1 := []) (M1 := (mk_M c n m kk (rT (he, ke, ki, fi, fa, or, mi, a, g, l, w, s) xm xi xw im le nu rf ln nn vp xn xc vs))) (fun f => rfl) ?_
            exact IH (j + 1) j f xm xw vp xn xc vs (by omega) ⟨(by assumption), (by assumption), (by assumption), (by assumption)⟩ (by omega) (g1.trans (ktl_t (by omega))) (g2.trans ((kbw_s (P := (fun c => ki1 (kbr (min (a / 5) (g / 5)) (max (a / 5) (g / 5)) (c / 5) && kbr (min (a % 5) (g % 5)) (max (a % 5) (g % 5)) (c % 5)) (kg ke c))) (j := j) (v := 0) (show ki1 ((kbr (min (a / 5) (g / 5)) (max (a / 5) (g / 5)) (j / 5)) && (kbr (min (a % 5) (g % 5)) (max (a % 5) (g % 5)) (j % 5))) (kg ke j) = 0 by rw [ki1_0 h7, Bool.and_false]; rfl)).trans rfl)) (by omega)
          · refine me_seg 1 (pc1 := 123) (ls1 := [some (.ref 138), some (.int 2), some (.int (nI a)), some (.int (nI g)), some (.int (nI j)), some (.int ((nI f) + 1)), some (.int (nI j))]) (st1 := []) (M1 := (mk_M c n m kk (rT (he, ke, ki, fi, fa, or, mi, a, g, l, w, s) xm xi xw im le nu rf ln nn vp xn xc vs))) (fun f => rfl) ?_
            refine me_l (fun q_ => [some (.ref 138), some (.int 2), some (.int (nI a)), some (.int (nI g)), some (.int (nI j)), some (.int q_), some (.int (nI j))]) (nI_add f 1) ?_
            refine me_seg 1 (pc1 := 126) (ls1 := [some (.ref 138), some (.int 2), some (.int (nI a)), some (.int (nI g)), some (.int (nI j)), some (.int (nI (f + 1))), some (.int ((nI j) + 1))]) (st1 := []) (M1 := (mk_M c n m kk (rT (he, ke, ki, fi, fa, or, mi, a, g, l, w, s) xm xi xw im le nu rf ln nn vp xn xc vs))) (fun f => rfl) ?_
            refine me_l (fun q_ => [some (.ref 138), some (.int 2), some (.int (nI a)), some (.int (nI g)), some (.int (nI j)), some (.int (nI (f + 1))), some (.int q_)]) (nI_add j 1) ?_
            refine me_seg 1 (pc1 := 39) (ls1 := [some (.ref 138), some (.int 2), some (.int (nI a)), some (.int (nI g)), some (.int (nI j)), some (.int (nI (f + 1))), some (.int (nI (j + 1)))]) (st1 := []) (M1 := (mk_M c n m kk (rT (he, ke, ki, fi, fa, or, mi, a, g, l, w, s) xm xi xw im le nu rf ln nn vp xn xc vs))) (fun f => rfl) ?_
            exact IH (j + 1) j (f + 1) xm xw vp xn xc vs (by omega) ⟨(by assumption), (by assumption), (by assumption), (by assumption)⟩ (by omega) (g1.trans (ktl_t (by omega))) (g2.trans (kbw_s (P := (fun c => ki1 (kbr (min (a / 5) (g / 5)) (max (a / 5) (g / 5)) (c / 5) && kbr (min (a % 5) (g % 5)) (max (a % 5) (g % 5)) (c % 5)) (kg ke c))) (j := j) (show ki1 ((kbr (min (a / 5) (g / 5)) (max (a / 5) (g / 5)) (j / 5)) && (kbr (min (a % 5) (g % 5)) (max (a % 5) (g % 5)) (j % 5))) (kg ke j) = 1 by rw [ki1_1 h6, ki1_1 h7]; show kg ke j = 1; omega))) (by omega)
set_option maxRecDepth 100000 in
theorem tm_far_2 (he ke ki fi fa or : List Nat) (mi a g l w s : Nat) (xi : List Int32) (im : Nat) (le nu rf : List Nat) (ln nn : Nat) (c : cC) (n m kk : kG) (hA : iA (he, ke, ki, fi, fa, or, mi, a, g, l, w, s)) (hC : iC nu nn) (xm xw : List Int32) (vp : Int32) (xn xc : List Int32) (vs : Int32) (hR : iR xm xw xn xc) : mm_E 189 0 [some (.ref 138), some (.int 2), none, none, none, none, none] [] (mk_M c n m kk (rT (he, ke, ki, fi, fa, or, mi, a, g, l, w, s) xm xi xw im le nu rf ln nn vp xn xc vs)) (pM (fun r => r = some (.int (nI (ksum ke 25)))) (he, ke, ki, fi, fa, or, mi, a, g, l, w, s) xi im le nu rf ln nn c n m kk) := by
  obtain ⟨hV, hst⟩ := id hA
  have hst2 : s ≤ 999 := hst
  obtain ⟨v1, v2, v3, v4, v5, v6, v7, v8, v9, v10, v11, v12, v13, v14, v15, v16⟩ := id hV
  have v6l := kO_len mi v7 or v6
  obtain ⟨c1, c2, c3⟩ := id hC
  obtain ⟨r1, r2, r3, r4⟩ := id hR
  refine me_seg 3 (pc1 := 3) (ls1 := [some (.ref 138), some (.int 2), none, none, none, none, none]) (st1 := [.int 3, .int 0, .int 2]) (M1 := (mk_M c n m kk (rT (he, ke, ki, fi, fa, or, mi, a, g, l, w, s) xm xi xw im le nu rf ln nn vp xn xc vs))) (fun f => rfl) ?_
  refine me_call (y := 135) (y0 := 6) (L := [some (.int 2), some (.int 0), some (.int 3)]) (rest := []) (rr := some (.int 1)) (M1 := (mk_M c n m kk (rT (he, ke, ki, fi, fa, or, mi, a, g, l, w, s) xm xi xw im le nu rf ln nn vp xn xc vs))) (fun f => rfl) (by
      exact mr_ret 9 (fun f => rfl)) ?_
  refine me_seg 4 (pc1 := 21) (ls1 := [some (.ref 138), some (.int 2), none, none, none, none, none]) (st1 := [.int 2, .ref 139]) (M1 := (mk_M c n m kk (rT (he, ke, ki, fi, fa, or, mi, a, g, l, w, s) xm xi xw im le nu rf ln nn vp xn xc vs))) (fun f => rfl) ?_
  refine me_ldn (xs := (er (he, ke, ki, fi, fa, or, mi, a, g, l, w, s))) rfl rfl (k := 2) (by decide) rfl ?_
  refine me_seg 4 (pc1 := 28) (ls1 := [some (.ref 138), some (.int 2), some (.int (nI a)), none, none, none, none]) (st1 := [.int 3, .ref 139]) (M1 := (mk_M c n m kk (rT (he, ke, ki, fi, fa, or, mi, a, g, l, w, s) xm xi xw im le nu rf ln nn vp xn xc vs))) (fun f => rfl) ?_
  refine me_ldn (xs := (er (he, ke, ki, fi, fa, or, mi, a, g, l, w, s))) rfl rfl (k := 3) (by decide) rfl ?_
  refine me_seg 7 (pc1 := 39) (ls1 := [some (.ref 138), some (.int 2), some (.int (nI a)), some (.int (nI g)), some (.int 0), some (.int 0), some (.int 0)]) (st1 := []) (M1 := (mk_M c n m kk (rT (he, ke, ki, fi, fa, or, mi, a, g, l, w, s) xm xi xw im le nu rf ln nn vp xn xc vs))) (fun f => rfl) ?_
  exact tm_farL2 he ke ki fi fa or mi a g l w s xi im le nu rf ln nn c n m kk hA hC (ktl he 24 1 0) (kbw (fun c => ki1 (kbr (min (a / 5) (g / 5)) (max (a / 5) (g / 5)) (c / 5) && kbr (min (a % 5) (g % 5)) (max (a % 5) (g % 5)) (c % 5)) (kg ke c)) 25 0 0) 25 0 0 0 xm xw vp xn xc vs (by omega) ⟨(by assumption), (by assumption), (by assumption), (by assumption)⟩ (by omega) (ktl_f (by omega)).symm rfl (by omega)
set_option maxRecDepth 100000 in
theorem tm_farL3 (he ke ki fi fa or : List Nat) (mi a g l w s : Nat) (xi : List Int32) (im : Nat) (le nu rf : List Nat) (ln nn : Nat) (c : cC) (n m kk : kG) (hA : iA (he, ke, ki, fi, fa, or, mi, a, g, l, w, s)) (hC : iC nu nn) (A1 A2 : Nat) (k : Nat) : ∀ (j : Nat) (b : Nat) (f : Nat) (xm xw : List Int32) (vp : Int32) (xn xc : List Int32) (vs : Int32), j + k = 25 → iR xm xw xn xc → b < 25 → A1 = ktl he k j b → A2 = kbw (fun c => ki1 (kbr (min (a / 5) (g / 5)) (max (a / 5) (g / 5)) (c / 5) && kbr (min (a % 5) (g % 5)) (max (a % 5) (g % 5)) (c % 5)) (kg ke c)) k j f → f ≤ j → mm_E 189 39 [some (.ref 138), some (.int 3), some (.int (nI a)), some (.int (nI g)), some (.int (nI b)), some (.int (nI f)), some (.int (nI j))] [] (mk_M c n m kk (rT (he, ke, ki, fi, fa, or, mi, a, g, l, w, s) xm xi xw im le nu rf ln nn vp xn xc vs)) (pM (fun r => r = some (.int (nI A2))) (he, ke, ki, fi, fa, or, mi, a, g, l, w, s) xi im le nu rf ln nn c n m kk) := by
  obtain ⟨hV, hst⟩ := id hA
  have hst2 : s ≤ 999 := hst
  obtain ⟨v1, v2, v3, v4, v5, v6, v7, v8, v9, v10, v11, v12, v13, v14, v15, v16⟩ := id hV
  have v6l := kO_len mi v7 or v6
  obtain ⟨c1, c2, c3⟩ := id hC
  induction k with
  | zero =>
    intro j b f xm xw vp xn xc vs hj hR g0 g1 g2 g3
    obtain ⟨r1, r2, r3, r4⟩ := id hR
    have f1 := v12 b
    have f2 := v12 j
    have f3 := v13 j
    have i1 := ki1_le (kbr (min (a / 5) (g / 5)) (max (a / 5) (g / 5)) (j / 5))
    have i2 := ki1_le (kbr (min (a % 5) (g % 5)) (max (a % 5) (g % 5)) (j % 5))
    have k1 := kap_le (show a / 5 < 5 by omega) (show g / 5 < 5 by omega)
    have k2 := kap_le (show a % 5 < 5 by omega) (show g % 5 < 5 by omega)
    refine me_seg 2 (pc1 := 43) (ls1 := [some (.ref 138), some (.int 3), some (.int (nI a)), some (.int (nI g)), some (.int (nI b)), some (.int (nI f)), some (.int (nI j))]) (st1 := [.int 25, .int (nI j)]) (M1 := (mk_M c n m kk (rT (he, ke, ki, fi, fa, or, mi, a, g, l, w, s) xm xi xw im le nu rf ln nn vp xn xc vs))) (fun f => rfl) ?_
    refine me_t (C := 25 ≤ (nI j)) (nI_let (a := 25) (b := j) (by omega)) (fun f => rfl) ?_
    refine me_ret 10 (r := some (.int (nI f))) (M1 := (mk_M c n m kk (rT (he, ke, ki, fi, fa, or, mi, a, g, l, w, s) xm xi xw im le nu rf ln nn vp xn xc vs))) (fun f => rfl) ?_
    exact ⟨(by rw [g2]; rfl), _, _, _, _, _, _, rfl, ⟨(by assumption), (by assumption), (by assumption), (by assumption)⟩⟩
  | succ k IH =>
    intro j b f xm xw vp xn xc vs hj hR g0 g1 g2 g3
    obtain ⟨r1, r2, r3, r4⟩ := id hR
    have f1 := v12 b
    have f2 := v12 j
    have f3 := v13 j
    have i1 := ki1_le (kbr (min (a / 5) (g / 5)) (max (a / 5) (g / 5)) (j / 5))
    have i2 := ki1_le (kbr (min (a % 5) (g % 5)) (max (a % 5) (g % 5)) (j % 5))
    have k1 := kap_le (show a / 5 < 5 by omega) (show g / 5 < 5 by omega)
    have k2 := kap_le (show a % 5 < 5 by omega) (show g % 5 < 5 by omega)
    refine me_seg 2 (pc1 := 43) (ls1 := [some (.ref 138), some (.int 3), some (.int (nI a)), some (.int (nI g)), some (.int (nI b)), some (.int (nI f)), some (.int (nI j))]) (st1 := [.int 25, .int (nI j)]) (M1 := (mk_M c n m kk (rT (he, ke, ki, fi, fa, or, mi, a, g, l, w, s) xm xi xw im le nu rf ln nn vp xn xc vs))) (fun f => rfl) ?_
    refine me_f (C := 25 ≤ (nI j)) (nI_lef (a := 25) (b := j) (by omega)) (fun f => rfl) ?_
    refine me_seg 5 (pc1 := 55) (ls1 := [some (.ref 138), some (.int 3), some (.int (nI a)), some (.int (nI g)), some (.int (nI b)), some (.int (nI f)), some (.int (nI j))]) (st1 := [.int ((7 : Int32) + (nI j)), .ref 139]) (M1 := (mk_M c n m kk (rT (he, ke, ki, fi, fa, or, mi, a, g, l, w, s) xm xi xw im le nu rf ln nn vp xn xc vs))) (fun f => rfl) ?_
    refine me_v (nI_add 7 j) ?_
    refine me_ldn (xs := (er (he, ke, ki, fi, fa, or, mi, a, g, l, w, s))) rfl rfl (k := 7 + j) (by omega) (er_h (K := (he, ke, ki, fi, fa, or, mi, a, g, l, w, s)) v1 (by omega)) ?_
    refine me_seg 5 (pc1 := 65) (ls1 := [some (.ref 138), some (.int 3), some (.int (nI a)), some (.int (nI g)), some (.int (nI b)), some (.int (nI f)), some (.int (nI j))]) (st1 := [.int ((7 : Int32) + (nI b)), .ref 139, .int (nI (kg he j))]) (M1 := (mk_M c n m kk (rT (he, ke, ki, fi, fa, or, mi, a, g, l, w, s) xm xi xw im le nu rf ln nn vp xn xc vs))) (fun f => rfl) ?_
    refine me_v (nI_add 7 b) ?_
    refine me_ldn (xs := (er (he, ke, ki, fi, fa, or, mi, a, g, l, w, s))) rfl rfl (k := 7 + b) (by omega) (er_h (K := (he, ke, ki, fi, fa, or, mi, a, g, l, w, s)) v1 (by omega)) ?_
    refine me_ifN (C := (nI (kg he j)) ≤ (nI (kg he b))) (nI_lei (a := kg he j) (b := kg he b) (by omega)) (fun f => rfl) (fun h1 => ?_) (fun h1 => ?_)
    · refine me_seg 3 (pc1 := 79) (ls1 := [some (.ref 138), some (.int 3), some (.int (nI a)), some (.int (nI g)), some (.int (nI b)), some (.int (nI f)), some (.int (nI j))]) (st1 := [.int 6, .ref 139]) (M1 := (mk_M c n m kk (rT (he, ke, ki, fi, fa, or, mi, a, g, l, w, s) xm xi xw im le nu rf ln nn vp xn xc vs))) (fun f => rfl) ?_
      refine me_ldn (xs := (er (he, ke, ki, fi, fa, or, mi, a, g, l, w, s))) rfl rfl (k := 6) (by decide) rfl ?_
      refine me_seg 1 (pc1 := 82) (ls1 := [some (.ref 138), some (.int 3), some (.int (nI a)), some (.int (nI g)), some (.int (nI b)), some (.int (nI f)), some (.int (nI j))]) (st1 := [.int (nI j), .int (nI (kbits ke))]) (M1 := (mk_M c n m kk (rT (he, ke, ki, fi, fa, or, mi, a, g, l, w, s) xm xi xw im le nu rf ln nn vp xn xc vs))) (fun f => rfl) ?_
      refine me_call (y := 151) (y0 := 85) (L := [some (.int (nI (kbits ke))), some (.int (nI j))]) (rest := []) (rr := some (.int (nI (kg ke j)))) (M1 := (mk_M c n m kk (rT (he, ke, ki, fi, fa, or, mi, a, g, l, w, s) xm xi xw im le nu rf ln nn vp xn xc vs))) (fun f => rfl) (rc_has ke j (by omega) v2 v13 _) ?_
      refine me_ifN (C := (nI (kg ke j)) = 0) (nI_eqi (a := kg ke j) (b := 0) (by omega)) (fun f => rfl) (fun h2 => ?_) (fun h2 => ?_)
      · refine me_seg 1 (pc1 := 126) (ls1 := [some (.ref 138), some (.int 3), some (.int (nI a)), some (.int (nI g)), some (.int (nI b)), some (.int (nI f)), some (.int ((nI j) + 1))]) (st1 := []) (M1 := (mk_M c n m kk (rT (he, ke, ki, fi, fa, or, mi, a, g, l, w, s) xm xi xw im le nu rf ln nn vp xn xc vs))) (fun f => rfl) ?_
        refine me_l (fun q_ => [some (.ref 138), some (.int 3), some (.int (nI a)), some (.int (nI g)), some (.int (nI b)), some (.int (nI f)), some (.int q_)]) (nI_add j 1) ?_
        refine me_seg 1 (pc1 := 39) (ls1 := [some (.ref 138), some (.int 3), some (.int (nI a)), some (.int (nI g)), some (.int (nI b)), some (.int (nI f)), some (.int (nI (j + 1)))]) (st1 := []) (M1 := (mk_M c n m kk (rT (he, ke, ki, fi, fa, or, mi, a, g, l, w, s) xm xi xw im le nu rf ln nn vp xn xc vs))) (fun f => rfl) ?_
        exact IH (j + 1) b f xm xw vp xn xc vs (by omega) ⟨(by assumption), (by assumption), (by assumption), (by assumption)⟩ (by omega) (g1.trans (ktl_f (by omega))) (g2.trans ((kbw_s (P := (fun c => ki1 (kbr (min (a / 5) (g / 5)) (max (a / 5) (g / 5)) (c / 5) && kbr (min (a % 5) (g % 5)) (max (a % 5) (g % 5)) (c % 5)) (kg ke c))) (j := j) (v := 0) (show ki1 ((kbr (min (a / 5) (g / 5)) (max (a / 5) (g / 5)) (j / 5)) && (kbr (min (a % 5) (g % 5)) (max (a % 5) (g % 5)) (j % 5))) (kg ke j) = 0 by rw [h2]; cases ((kbr (min (a / 5) (g / 5)) (max (a / 5) (g / 5)) (j / 5)) && (kbr (min (a % 5) (g % 5)) (max (a % 5) (g % 5)) (j % 5))) <;> rfl)).trans rfl)) (by omega)
      · refine me_seg 3 (pc1 := 92) (ls1 := [some (.ref 138), some (.int 3), some (.int (nI a)), some (.int (nI g)), some (.int (nI b)), some (.int (nI f)), some (.int (nI j))]) (st1 := [.int ((nI j) / (5 : Int32))]) (M1 := (mk_M c n m kk (rT (he, ke, ki, fi, fa, or, mi, a, g, l, w, s) xm xi xw im le nu rf ln nn vp xn xc vs))) (fun f => rfl) ?_
        refine me_v (pk_div (a := j) (d := 5) (by omega) (by decide) (by decide)) ?_
        refine me_seg 3 (pc1 := 95) (ls1 := [some (.ref 138), some (.int 3), some (.int (nI a)), some (.int (nI g)), some (.int (nI b)), some (.int (nI f)), some (.int (nI j))]) (st1 := [.int ((nI a) / (5 : Int32)), .int (nI (j / 5))]) (M1 := (mk_M c n m kk (rT (he, ke, ki, fi, fa, or, mi, a, g, l, w, s) xm xi xw im le nu rf ln nn vp xn xc vs))) (fun f => rfl) ?_
        refine me_v (pk_div (a := a) (d := 5) (by omega) (by decide) (by decide)) ?_
        refine me_seg 3 (pc1 := 98) (ls1 := [some (.ref 138), some (.int 3), some (.int (nI a)), some (.int (nI g)), some (.int (nI b)), some (.int (nI f)), some (.int (nI j))]) (st1 := [.int ((nI g) / (5 : Int32)), .int (nI (a / 5)), .int (nI (j / 5))]) (M1 := (mk_M c n m kk (rT (he, ke, ki, fi, fa, or, mi, a, g, l, w, s) xm xi xw im le nu rf ln nn vp xn xc vs))) (fun f => rfl) ?_
        refine me_v (pk_div (a := g) (d := 5) (by omega) (by decide) (by decide)) ?_
        refine me_call (y := 190) (y0 := 101) (L := [some (.int (nI (j / 5))), some (.int (nI (a / 5))), some (.int (nI (g / 5)))]) (rest := []) (rr := some (.int (nI (ki1 (kbr (min (a / 5) (g / 5)) (max (a / 5) (g / 5)) (j / 5)) 1)))) (M1 := (mk_M c n m kk (rT (he, ke, ki, fi, fa, or, mi, a, g, l, w, s) xm xi xw im le nu rf ln nn vp xn xc vs))) (fun f => rfl) (mf_isb (j / 5) (a / 5) (g / 5) (by omega) (by omega) (by omega) _) ?_
        refine me_ifN (C := (nI (ki1 (kbr (min (a / 5) (g / 5)) (max (a / 5) (g / 5)) (j / 5)) 1)) = 0) (nI_eqi (a := ki1 (kbr (min (a / 5) (g / 5)) (max (a / 5) (g / 5)) (j / 5)) 1) (b := 0) (by omega)) (fun f => rfl) (fun h3 => ?_) (fun h3 => ?_)
        · refine me_seg 1 (pc1 := 126) (ls1 := [some (.ref 138), some (.int 3), some (.int (nI a)), some (.int (nI g)), some (.int (nI b)), some (.int (nI f)), some (.int ((nI j) + 1))]) (st1 := []) (M1 := (mk_M c n m kk (rT (he, ke, ki, fi, fa, or, mi, a, g, l, w, s) xm xi xw im le nu rf ln nn vp xn xc vs))) (fun f => rfl) ?_
          refine me_l (fun q_ => [some (.ref 138), some (.int 3), some (.int (nI a)), some (.int (nI g)), some (.int (nI b)), some (.int (nI f)), some (.int q_)]) (nI_add j 1) ?_
          refine me_seg 1 (pc1 := 39) (ls1 := [some (.ref 138), some (.int 3), some (.int (nI a)), some (.int (nI g)), some (.int (nI b)), some (.int (nI f)), some (.int (nI (j + 1)))]) (st1 := []) (M1 := (mk_M c n m kk (rT (he, ke, ki, fi, fa, or, mi, a, g, l, w, s) xm xi xw im le nu rf ln nn vp xn xc vs))) (fun f => rfl) ?_
          exact IH (j + 1) b f xm xw vp xn xc vs (by omega) ⟨(by assumption), (by assumption), (by assumption), (by assumption)⟩ (by omega) (g1.trans (ktl_f (by omega))) (g2.trans ((kbw_s (P := (fun c => ki1 (kbr (min (a / 5) (g / 5)) (max (a / 5) (g / 5)) (c / 5) && kbr (min (a % 5) (g % 5)) (max (a % 5) (g % 5)) (c % 5)) (kg ke c))) (j := j) (v := 0) (show ki1 ((kbr (min (a / 5) (g / 5)) (max (a / 5) (g / 5)) (j / 5)) && (kbr (min (a % 5) (g % 5)) (max (a % 5) (g % 5)) (j % 5))) (kg ke j) = 0 by rw [ki1_0 h3]; rfl)).trans rfl)) (by omega)
        · refine me_seg 3 (pc1 := 108) (ls1 := [some (.ref 138), some (.int 3), some (.int (nI a)), some (.int (nI g)), some (.int (nI b)), some (.int (nI f)), some (.int (nI j))]) (st1 := [.int ((nI j) - (nI j) / (5 : Int32) * (5 : Int32))]) (M1 := (mk_M c n m kk (rT (he, ke, ki, fi, fa, or, mi, a, g, l, w, s) xm xi xw im le nu rf ln nn vp xn xc vs))) (fun f => rfl) ?_
          refine me_v (pk_rem (a := j) (d := 5) (by omega) (by decide) (by decide)) ?_
          refine me_seg 3 (pc1 := 111) (ls1 := [some (.ref 138), some (.int 3), some (.int (nI a)), some (.int (nI g)), some (.int (nI b)), some (.int (nI f)), some (.int (nI j))]) (st1 := [.int ((nI a) - (nI a) / (5 : Int32) * (5 : Int32)), .int (nI (j % 5))]) (M1 := (mk_M c n m kk (rT (he, ke, ki, fi, fa, or, mi, a, g, l, w, s) xm xi xw im le nu rf ln nn vp xn xc vs))) (fun f => rfl) ?_
          refine me_v (pk_rem (a := a) (d := 5) (by omega) (by decide) (by decide)) ?_
          refine me_seg 3 (pc1 := 114) (ls1 := [some (.ref 138), some (.int 3), some (.int (nI a)), some (.int (nI g)), some (.int (nI b)), some (.int (nI f)), some (.int (nI j))]) (st1 := [.int ((nI g) - (nI g) / (5 : Int32) * (5 : Int32)), .int (nI (a % 5)), .int (nI (j % 5))]) (M1 := (mk_M c n m kk (rT (he, ke, ki, fi, fa, or, mi, a, g, l, w, s) xm xi xw im le nu rf ln nn vp xn xc vs))) (fun f => rfl) ?_
          refine me_v (pk_rem (a := g) (d := 5) (by omega) (by decide) (by decide)) ?_
          refine me_call (y := 190) (y0 := 117) (L := [some (.int (nI (j % 5))), some (.int (nI (a % 5))), some (.int (nI (g % 5)))]) (rest := []) (rr := some (.int (nI (ki1 (kbr (min (a % 5) (g % 5)) (max (a % 5) (g % 5)) (j % 5)) 1)))) (M1 := (mk_M c n m kk (rT (he, ke, ki, fi, fa, or, mi, a, g, l, w, s) xm xi xw im le nu rf ln nn vp xn xc vs))) (fun f => rfl) (mf_isb (j % 5) (a % 5) (g % 5) (by omega) (by omega) (by omega) _) ?_
          refine me_ifN (C := (nI (ki1 (kbr (min (a % 5) (g % 5)) (max (a % 5) (g % 5)) (j % 5)) 1)) = 0) (nI_eqi (a := ki1 (kbr (min (a % 5) (g % 5)) (max (a % 5) (g % 5)) (j % 5)) 1) (b := 0) (by omega)) (fun f => rfl) (fun h4 => ?_) (fun h4 => ?_)
          · refine me_seg 1 (pc1 := 126) (ls1 := [some (.ref 138), some (.int 3), some (.int (nI a)), some (.int (nI g)), some (.int (nI b)), some (.int (nI f)), some (.int ((nI j) + 1))]) (st1 := []) (M1 := (mk_M c n m kk (rT (he, ke, ki, fi, fa, or, mi, a, g, l, w, s) xm xi xw im le nu rf ln nn vp xn xc vs))) (fun f => rfl) ?_
            refine me_l (fun q_ => [some (.ref 138), some (.int 3), some (.int (nI a)), some (.int (nI g)), some (.int (nI b)), some (.int (nI f)), some (.int q_)]) (nI_add j 1) ?_
            refine me_seg 1 (pc1 := 39) (ls1 := [some (.ref 138), some (.int 3), some (.int (nI a)), some (.int (nI g)), some (.int (nI b)), some (.int (nI f)), some (.int (nI (j + 1)))]) (st1 := []) (M1 := (mk_M c n m kk (rT (he, ke, ki, fi, fa, or, mi, a, g, l, w, s) xm xi xw im le nu rf ln nn vp xn xc vs))) (fun f => rfl) ?_
            exact IH (j + 1) b f xm xw vp xn xc vs (by omega) ⟨(by assumption), (by assumption), (by assumption), (by assumption)⟩ (by omega) (g1.trans (ktl_f (by omega))) (g2.trans ((kbw_s (P := (fun c => ki1 (kbr (min (a / 5) (g / 5)) (max (a / 5) (g / 5)) (c / 5) && kbr (min (a % 5) (g % 5)) (max (a % 5) (g % 5)) (c % 5)) (kg ke c))) (j := j) (v := 0) (show ki1 ((kbr (min (a / 5) (g / 5)) (max (a / 5) (g / 5)) (j / 5)) && (kbr (min (a % 5) (g % 5)) (max (a % 5) (g % 5)) (j % 5))) (kg ke j) = 0 by rw [ki1_0 h4, Bool.and_false]; rfl)).trans rfl)) (by omega)
          · refine me_seg 1 (pc1 := 123) (ls1 := [some (.ref 138), some (.int 3), some (.int (nI a)), some (.int (nI g)), some (.int (nI b)), some (.int ((nI f) + 1)), some (.int (nI j))]) (st1 := []) (M1 := (mk_M c n m kk (rT (he, ke, ki, fi, fa, or, mi, a, g, l, w, s) xm xi xw im le nu rf ln nn vp xn xc vs))) (fun f => rfl) ?_
            refine me_l (fun q_ => [some (.ref 138), some (.int 3), some (.int (nI a)), some (.int (nI g)), some (.int (nI b)), some (.int q_), some (.int (nI j))]) (nI_add f 1) ?_
            refine me_seg 1 (pc1 := 126) (ls1 := [some (.ref 138), some (.int 3), some (.int (nI a)), some (.int (nI g)), some (.int (nI b)), some (.int (nI (f + 1))), some (.int ((nI j) + 1))]) (st1 := []) (M1 := (mk_M c n m kk (rT (he, ke, ki, fi, fa, or, mi, a, g, l, w, s) xm xi xw im le nu rf ln nn vp xn xc vs))) (fun f => rfl) ?_
            refine me_l (fun q_ => [some (.ref 138), some (.int 3), some (.int (nI a)), some (.int (nI g)), some (.int (nI b)), some (.int (nI (f + 1))), some (.int q_)]) (nI_add j 1) ?_
            refine me_seg 1 (pc1 := 39) (ls1 := [some (.ref 138), some (.int 3), some (.int (nI a)), some (.int (nI g)), some (.int (nI b)), some (.int (nI (f + 1))), some (.int (nI (j + 1)))]) (st1 := []) (M1 := (mk_M c n m kk (rT (he, ke, ki, fi, fa, or, mi, a, g, l, w, s) xm xi xw im le nu rf ln nn vp xn xc vs))) (fun f => rfl) ?_
            exact IH (j + 1) b (f + 1) xm xw vp xn xc vs (by omega) ⟨(by assumption), (by assumption), (by assumption), (by assumption)⟩ (by omega) (g1.trans (ktl_f (by omega))) (g2.trans (kbw_s (P := (fun c => ki1 (kbr (min (a / 5) (g / 5)) (max (a / 5) (g / 5)) (c / 5) && kbr (min (a % 5) (g % 5)) (max (a % 5) (g % 5)) (c % 5)) (kg ke c))) (j := j) (show ki1 ((kbr (min (a / 5) (g / 5)) (max (a / 5) (g / 5)) (j / 5)) && (kbr (min (a % 5) (g % 5)) (max (a % 5) (g % 5)) (j % 5))) (kg ke j) = 1 by rw [ki1_1 h3, ki1_1 h4]; show kg ke j = 1; omega))) (by omega)
    · refine me_seg 5 (pc1 := 79) (ls1 := [some (.ref 138), some (.int 3), some (.int (nI a)), some (.int (nI g)), some (.int (nI j)), some (.int (nI f)), some (.int (nI j))]) (st1 := [.int 6, .ref 139]) (M1 := (mk_M c n m kk (rT (he, ke, ki, fi, fa, or, mi, a, g, l, w, s) xm xi xw im le nu rf ln nn vp xn xc vs))) (fun f => rfl) ?_
      refine me_ldn (xs := (er (he, ke, ki, fi, fa, or, mi, a, g, l, w, s))) rfl rfl (k := 6) (by decide) rfl ?_
      refine me_seg 1 (pc1 := 82) (ls1 := [some (.ref 138), some (.int 3), some (.int (nI a)), some (.int (nI g)), some (.int (nI j)), some (.int (nI f)), some (.int (nI j))]) (st1 := [.int (nI j), .int (nI (kbits ke))]) (M1 := (mk_M c n m kk (rT (he, ke, ki, fi, fa, or, mi, a, g, l, w, s) xm xi xw im le nu rf ln nn vp xn xc vs))) (fun f => rfl) ?_
      refine me_call (y := 151) (y0 := 85) (L := [some (.int (nI (kbits ke))), some (.int (nI j))]) (rest := []) (rr := some (.int (nI (kg ke j)))) (M1 := (mk_M c n m kk (rT (he, ke, ki, fi, fa, or, mi, a, g, l, w, s) xm xi xw im le nu rf ln nn vp xn xc vs))) (fun f => rfl) (rc_has ke j (by omega) v2 v13 _) ?_
      refine me_ifN (C := (nI (kg ke j)) = 0) (nI_eqi (a := kg ke j) (b := 0) (by omega)) (fun f => rfl) (fun h5 => ?_) (fun h5 => ?_)
      · refine me_seg 1 (pc1 := 126) (ls1 := [some (.ref 138), some (.int 3), some (.int (nI a)), some (.int (nI g)), some (.int (nI j)), some (.int (nI f)), some (.int ((nI j) + 1))]) (st1 := []) (M1 := (mk_M c n m kk (rT (he, ke, ki, fi, fa, or, mi, a, g, l, w, s) xm xi xw im le nu rf ln nn vp xn xc vs))) (fun f => rfl) ?_
        refine me_l (fun q_ => [some (.ref 138), some (.int 3), some (.int (nI a)), some (.int (nI g)), some (.int (nI j)), some (.int (nI f)), some (.int q_)]) (nI_add j 1) ?_
        refine me_seg 1 (pc1 := 39) (ls1 := [some (.ref 138), some (.int 3), some (.int (nI a)), some (.int (nI g)), some (.int (nI j)), some (.int (nI f)), some (.int (nI (j + 1)))]) (st1 := []) (M1 := (mk_M c n m kk (rT (he, ke, ki, fi, fa, or, mi, a, g, l, w, s) xm xi xw im le nu rf ln nn vp xn xc vs))) (fun f => rfl) ?_
        exact IH (j + 1) j f xm xw vp xn xc vs (by omega) ⟨(by assumption), (by assumption), (by assumption), (by assumption)⟩ (by omega) (g1.trans (ktl_t (by omega))) (g2.trans ((kbw_s (P := (fun c => ki1 (kbr (min (a / 5) (g / 5)) (max (a / 5) (g / 5)) (c / 5) && kbr (min (a % 5) (g % 5)) (max (a % 5) (g % 5)) (c % 5)) (kg ke c))) (j := j) (v := 0) (show ki1 ((kbr (min (a / 5) (g / 5)) (max (a / 5) (g / 5)) (j / 5)) && (kbr (min (a % 5) (g % 5)) (max (a % 5) (g % 5)) (j % 5))) (kg ke j) = 0 by rw [h5]; cases ((kbr (min (a / 5) (g / 5)) (max (a / 5) (g / 5)) (j / 5)) && (kbr (min (a % 5) (g % 5)) (max (a % 5) (g % 5)) (j % 5))) <;> rfl)).trans rfl)) (by omega)
      · refine me_seg 3 (pc1 := 92) (ls1 := [some (.ref 138), some (.int 3), some (.int (nI a)), some (.int (nI g)), some (.int (nI j)), some (.int (nI f)), some (.int (nI j))]) (st1 := [.int ((nI j) / (5 : Int32))]) (M1 := (mk_M c n m kk (rT (he, ke, ki, fi, fa, or, mi, a, g, l, w, s) xm xi xw im le nu rf ln nn vp xn xc vs))) (fun f => rfl) ?_
        refine me_v (pk_div (a := j) (d := 5) (by omega) (by decide) (by decide)) ?_
        refine me_seg 3 (pc1 := 95) (ls1 := [some (.ref 138), some (.int 3), some (.int (nI a)), some (.int (nI g)), some (.int (nI j)), some (.int (nI f)), some (.int (nI j))]) (st1 := [.int ((nI a) / (5 : Int32)), .int (nI (j / 5))]) (M1 := (mk_M c n m kk (rT (he, ke, ki, fi, fa, or, mi, a, g, l, w, s) xm xi xw im le nu rf ln nn vp xn xc vs))) (fun f => rfl) ?_
        refine me_v (pk_div (a := a) (d := 5) (by omega) (by decide) (by decide)) ?_
        refine me_seg 3 (pc1 := 98) (ls1 := [some (.ref 138), some (.int 3), some (.int (nI a)), some (.int (nI g)), some (.int (nI j)), some (.int (nI f)), some (.int (nI j))]) (st1 := [.int ((nI g) / (5 : Int32)), .int (nI (a / 5)), .int (nI (j / 5))]) (M1 := (mk_M c n m kk (rT (he, ke, ki, fi, fa, or, mi, a, g, l, w, s) xm xi xw im le nu rf ln nn vp xn xc vs))) (fun f => rfl) ?_
        refine me_v (pk_div (a := g) (d := 5) (by omega) (by decide) (by decide)) ?_
        refine me_call (y := 190) (y0 := 101) (L := [some (.int (nI (j / 5))), some (.int (nI (a / 5))), some (.int (nI (g / 5)))]) (rest := []) (rr := some (.int (nI (ki1 (kbr (min (a / 5) (g / 5)) (max (a / 5) (g / 5)) (j / 5)) 1)))) (M1 := (mk_M c n m kk (rT (he, ke, ki, fi, fa, or, mi, a, g, l, w, s) xm xi xw im le nu rf ln nn vp xn xc vs))) (fun f => rfl) (mf_isb (j / 5) (a / 5) (g / 5) (by omega) (by omega) (by omega) _) ?_
        refine me_ifN (C := (nI (ki1 (kbr (min (a / 5) (g / 5)) (max (a / 5) (g / 5)) (j / 5)) 1)) = 0) (nI_eqi (a := ki1 (kbr (min (a / 5) (g / 5)) (max (a / 5) (g / 5)) (j / 5)) 1) (b := 0) (by omega)) (fun f => rfl) (fun h6 => ?_) (fun h6 => ?_)
        · refine me_seg 1 (pc1 := 126) (ls1 := [some (.ref 138), some (.int 3), some (.int (nI a)), some (.int (nI g)), some (.int (nI j)), some (.int (nI f)), some (.int ((nI j) + 1))]) (st1 := []) (M1 := (mk_M c n m kk (rT (he, ke, ki, fi, fa, or, mi, a, g, l, w, s) xm xi xw im le nu rf ln nn vp xn xc vs))) (fun f => rfl) ?_
          refine me_l (fun q_ => [some (.ref 138), some (.int 3), some (.int (nI a)), some (.int (nI g)), some (.int (nI j)), some (.int (nI f)), some (.int q_)]) (nI_add j 1) ?_
          refine me_seg 1 (pc1 := 39) (ls1 := [some (.ref 138), some (.int 3), some (.int (nI a)), some (.int (nI g)), some (.int (nI j)), some (.int (nI f)), some (.int (nI (j + 1)))]) (st1 := []) (M1 := (mk_M c n m kk (rT (he, ke, ki, fi, fa, or, mi, a, g, l, w, s) xm xi xw im le nu rf ln nn vp xn xc vs))) (fun f => rfl) ?_
          exact IH (j + 1) j f xm xw vp xn xc vs (by omega) ⟨(by assumption), (by assumption), (by assumption), (by assumption)⟩ (by omega) (g1.trans (ktl_t (by omega))) (g2.trans ((kbw_s (P := (fun c => ki1 (kbr (min (a / 5) (g / 5)) (max (a / 5) (g / 5)) (c / 5) && kbr (min (a % 5) (g % 5)) (max (a % 5) (g % 5)) (c % 5)) (kg ke c))) (j := j) (v := 0) (show ki1 ((kbr (min (a / 5) (g / 5)) (max (a / 5) (g / 5)) (j / 5)) && (kbr (min (a % 5) (g % 5)) (max (a % 5) (g % 5)) (j % 5))) (kg ke j) = 0 by rw [ki1_0 h6]; rfl)).trans rfl)) (by omega)
        · refine me_seg 3 (pc1 := 108) (ls1 := [some (.ref 138), some (.int 3), some (.int (nI a)), some (.int (nI g)), some (.int (nI j)), some (.int (nI f)), some (.int (nI j))]) (st1 := [.int ((nI j) - (nI j) / (5 : Int32) * (5 : Int32))]) (M1 := (mk_M c n m kk (rT (he, ke, ki, fi, fa, or, mi, a, g, l, w, s) xm xi xw im le nu rf ln nn vp xn xc vs))) (fun f => rfl) ?_
          refine me_v (pk_rem (a := j) (d := 5) (by omega) (by decide) (by decide)) ?_
          refine me_seg 3 (pc1 := 111) (ls1 := [some (.ref 138), some (.int 3), some (.int (nI a)), some (.int (nI g)), some (.int (nI j)), some (.int (nI f)), some (.int (nI j))]) (st1 := [.int ((nI a) - (nI a) / (5 : Int32) * (5 : Int32)), .int (nI (j % 5))]) (M1 := (mk_M c n m kk (rT (he, ke, ki, fi, fa, or, mi, a, g, l, w, s) xm xi xw im le nu rf ln nn vp xn xc vs))) (fun f => rfl) ?_
          refine me_v (pk_rem (a := a) (d := 5) (by omega) (by decide) (by decide)) ?_
          refine me_seg 3 (pc1 := 114) (ls1 := [some (.ref 138), some (.int 3), some (.int (nI a)), some (.int (nI g)), some (.int (nI j)), some (.int (nI f)), some (.int (nI j))]) (st1 := [.int ((nI g) - (nI g) / (5 : Int32) * (5 : Int32)), .int (nI (a % 5)), .int (nI (j % 5))]) (M1 := (mk_M c n m kk (rT (he, ke, ki, fi, fa, or, mi, a, g, l, w, s) xm xi xw im le nu rf ln nn vp xn xc vs))) (fun f => rfl) ?_
          refine me_v (pk_rem (a := g) (d := 5) (by omega) (by decide) (by decide)) ?_
          refine me_call (y := 190) (y0 := 117) (L := [some (.int (nI (j % 5))), some (.int (nI (a % 5))), some (.int (nI (g % 5)))]) (rest := []) (rr := some (.int (nI (ki1 (kbr (min (a % 5) (g % 5)) (max (a % 5) (g % 5)) (j % 5)) 1)))) (M1 := (mk_M c n m kk (rT (he, ke, ki, fi, fa, or, mi, a, g, l, w, s) xm xi xw im le nu rf ln nn vp xn xc vs))) (fun f => rfl) (mf_isb (j % 5) (a % 5) (g % 5) (by omega) (by omega) (by omega) _) ?_
          refine me_ifN (C := (nI (ki1 (kbr (min (a % 5) (g % 5)) (max (a % 5) (g % 5)) (j % 5)) 1)) = 0) (nI_eqi (a := ki1 (kbr (min (a % 5) (g % 5)) (max (a % 5) (g % 5)) (j % 5)) 1) (b := 0) (by omega)) (fun f => rfl) (fun h7 => ?_) (fun h7 => ?_)
          · refine me_seg 1 (pc1 := 126) (ls1 := [some (.ref 138), some (.int 3), some (.int (nI a)), some (.int (nI g)), some (.int (nI j)), some (.int (nI f)), some (.int ((nI j) + 1))]) (st1 := []) (M1 := (mk_M c n m kk (rT (he, ke, ki, fi, fa, or, mi, a, g, l, w, s) xm xi xw im le nu rf ln nn vp xn xc vs))) (fun f => rfl) ?_
            refine me_l (fun q_ => [some (.ref 138), some (.int 3), some (.int (nI a)), some (.int (nI g)), some (.int (nI j)), some (.int (nI f)), some (.int q_)]) (nI_add j 1) ?_
            refine me_seg 1 (pc1 := 39) (ls1 := [some (.ref 138), some (.int 3), some (.int (nI a)), some (.int (nI g)), some (.int (nI j)), some (.int (nI f)), some (.int (nI (j + 1)))]) (st1 := []) (M1 := (mk_M c n m kk (rT (he, ke, ki, fi, fa, or, mi, a, g, l, w, s) xm xi xw im le nu rf ln nn vp xn xc vs))) (fun f => rfl) ?_
            exact IH (j + 1) j f xm xw vp xn xc vs (by omega) ⟨(by assumption), (by assumption), (by assumption), (by assumption)⟩ (by omega) (g1.trans (ktl_t (by omega))) (g2.trans ((kbw_s (P := (fun c => ki1 (kbr (min (a / 5) (g / 5)) (max (a / 5) (g / 5)) (c / 5) && kbr (min (a % 5) (g % 5)) (max (a % 5) (g % 5)) (c % 5)) (kg ke c))) (j := j) (v := 0) (show ki1 ((kbr (min (a / 5) (g / 5)) (max (a / 5) (g / 5)) (j / 5)) && (kbr (min (a % 5) (g % 5)) (max (a % 5) (g % 5)) (j % 5))) (kg ke j) = 0 by rw [ki1_0 h7, Bool.and_false]; rfl)).trans rfl)) (by omega)
          · refine me_seg 1 (pc1 := 123) (ls1 := [some (.ref 138), some (.int 3), some (.int (nI a)), some (.int (nI g)), some (.int (nI j)), some (.int ((nI f) + 1)), some (.int (nI j))]) (st1 := []) (M1 := (mk_M c n m kk (rT (he, ke, ki, fi, fa, or, mi, a, g, l, w, s) xm xi xw im le nu rf ln nn vp xn xc vs))) (fun f => rfl) ?_
            refine me_l (fun q_ => [some (.ref 138), some (.int 3), some (.int (nI a)), some (.int (nI g)), some (.int (nI j)), some (.int q_), some (.int (nI j))]) (nI_add f 1) ?_
            refine me_seg 1 (pc1 := 126) (ls1 := [some (.ref 138), some (.int 3), some (.int (nI a)), some (.int (nI g)), some (.int (nI j)), some (.int (nI (f + 1))), some (.int ((nI j) + 1))]) (st1 := []) (M1 := (mk_M c n m kk (rT (he, ke, ki, fi, fa, or, mi, a, g, l, w, s) xm xi xw im le nu rf ln nn vp xn xc vs))) (fun f => rfl) ?_
            refine me_l (fun q_ => [some (.ref 138), some (.int 3), some (.int (nI a)), some (.int (nI g)), some (.int (nI j)), some (.int (nI (f + 1))), some (.int q_)]) (nI_add j 1) ?_
            refine me_seg 1 (pc1 := 39) (ls1 := [some (.ref 138), some (.int 3), some (.int (nI a)), some (.int (nI g)), some (.int (nI j)), some (.int (nI (f + 1))), some (.int (nI (j + 1)))]) (st1 := []) (M1 := (mk_M c n m kk (rT (he, ke, ki, fi, fa, or, mi, a, g, l, w, s) xm xi xw im le nu rf ln nn vp xn xc vs))) (fun f => rfl) ?_
            exact IH (j + 1) j (f + 1) xm xw vp xn xc vs (by omega) ⟨(by assumption), (by assumption), (by assumption), (by assumption)⟩ (by omega) (g1.trans (ktl_t (by omega))) (g2.trans (kbw_s (P := (fun c => ki1 (kbr (min (a / 5) (g / 5)) (max (a / 5) (g / 5)) (c / 5) && kbr (min (a % 5) (g % 5)) (max (a % 5) (g % 5)) (c % 5)) (kg ke c))) (j := j) (show ki1 ((kbr (min (a / 5) (g / 5)) (max (a / 5) (g / 5)) (j / 5)) && (kbr (min (a % 5) (g % 5)) (max (a % 5) (g % 5)) (j % 5))) (kg ke j) = 1 by rw [ki1_1 h6, ki1_1 h7]; show kg ke j = 1; omega))) (by omega)
set_option maxRecDepth 100000 in
theorem tm_far_3 (he ke ki fi fa or : List Nat) (mi a g l w s : Nat) (xi : List Int32) (im : Nat) (le nu rf : List Nat) (ln nn : Nat) (c : cC) (n m kk : kG) (hA : iA (he, ke, ki, fi, fa, or, mi, a, g, l, w, s)) (hC : iC nu nn) (xm xw : List Int32) (vp : Int32) (xn xc : List Int32) (vs : Int32) (hR : iR xm xw xn xc) : mm_E 189 0 [some (.ref 138), some (.int 3), none, none, none, none, none] [] (mk_M c n m kk (rT (he, ke, ki, fi, fa, or, mi, a, g, l, w, s) xm xi xw im le nu rf ln nn vp xn xc vs)) (pM (fun r => r = some (.int (nI (kbw (fun c => ki1 (kbr (min (a / 5) (g / 5)) (max (a / 5) (g / 5)) (c / 5) && kbr (min (a % 5) (g % 5)) (max (a % 5) (g % 5)) (c % 5)) (kg ke c)) 25 0 0)))) (he, ke, ki, fi, fa, or, mi, a, g, l, w, s) xi im le nu rf ln nn c n m kk) := by
  obtain ⟨hV, hst⟩ := id hA
  have hst2 : s ≤ 999 := hst
  obtain ⟨v1, v2, v3, v4, v5, v6, v7, v8, v9, v10, v11, v12, v13, v14, v15, v16⟩ := id hV
  have v6l := kO_len mi v7 or v6
  obtain ⟨c1, c2, c3⟩ := id hC
  obtain ⟨r1, r2, r3, r4⟩ := id hR
  refine me_seg 3 (pc1 := 3) (ls1 := [some (.ref 138), some (.int 3), none, none, none, none, none]) (st1 := [.int 3, .int 0, .int 3]) (M1 := (mk_M c n m kk (rT (he, ke, ki, fi, fa, or, mi, a, g, l, w, s) xm xi xw im le nu rf ln nn vp xn xc vs))) (fun f => rfl) ?_
  refine me_call (y := 135) (y0 := 6) (L := [some (.int 3), some (.int 0), some (.int 3)]) (rest := []) (rr := some (.int 1)) (M1 := (mk_M c n m kk (rT (he, ke, ki, fi, fa, or, mi, a, g, l, w, s) xm xi xw im le nu rf ln nn vp xn xc vs))) (fun f => rfl) (by
      exact mr_ret 9 (fun f => rfl)) ?_
  refine me_seg 4 (pc1 := 21) (ls1 := [some (.ref 138), some (.int 3), none, none, none, none, none]) (st1 := [.int 2, .ref 139]) (M1 := (mk_M c n m kk (rT (he, ke, ki, fi, fa, or, mi, a, g, l, w, s) xm xi xw im le nu rf ln nn vp xn xc vs))) (fun f => rfl) ?_
  refine me_ldn (xs := (er (he, ke, ki, fi, fa, or, mi, a, g, l, w, s))) rfl rfl (k := 2) (by decide) rfl ?_
  refine me_seg 4 (pc1 := 28) (ls1 := [some (.ref 138), some (.int 3), some (.int (nI a)), none, none, none, none]) (st1 := [.int 3, .ref 139]) (M1 := (mk_M c n m kk (rT (he, ke, ki, fi, fa, or, mi, a, g, l, w, s) xm xi xw im le nu rf ln nn vp xn xc vs))) (fun f => rfl) ?_
  refine me_ldn (xs := (er (he, ke, ki, fi, fa, or, mi, a, g, l, w, s))) rfl rfl (k := 3) (by decide) rfl ?_
  refine me_seg 7 (pc1 := 39) (ls1 := [some (.ref 138), some (.int 3), some (.int (nI a)), some (.int (nI g)), some (.int 0), some (.int 0), some (.int 0)]) (st1 := []) (M1 := (mk_M c n m kk (rT (he, ke, ki, fi, fa, or, mi, a, g, l, w, s) xm xi xw im le nu rf ln nn vp xn xc vs))) (fun f => rfl) ?_
  exact tm_farL3 he ke ki fi fa or mi a g l w s xi im le nu rf ln nn c n m kk hA hC (ktl he 24 1 0) (kbw (fun c => ki1 (kbr (min (a / 5) (g / 5)) (max (a / 5) (g / 5)) (c / 5) && kbr (min (a % 5) (g % 5)) (max (a % 5) (g % 5)) (c % 5)) (kg ke c)) 25 0 0) 25 0 0 0 xm xw vp xn xc vs (by omega) ⟨(by assumption), (by assumption), (by assumption), (by assumption)⟩ (by omega) (ktl_f (by omega)).symm rfl (by omega)
theorem ot_far {M : mm_H} (hM : kInv M) (x : Int32) : oI 97 189 [some (.ref 100), some (.int x)] [some (.ref 138), some (.int x), none, none, none, none, none] M := by
  obtain ⟨K, m, kk, im, le, ln, ys, vt, nu, nn, rf, vw, vq, yc, yh, yg, xm, xi, xw, vp, xn, xc, vs, rfl, hA, hB, hC, hD, hJ, hR, hK⟩ := hM
  obtain ⟨he, ke, ki, fi, fa, or, mi, a, g, l, w, s⟩ := K
  have v7 : mi ≤ 5 := hA.1.2.2.2.2.2.2.1
  rcases k_cs x 4 0 3 rfl rfl with hx | hx | ⟨x_, hx_, rfl⟩
  · exact oe_far_0 he ke ki fi fa or mi a g l w s m kk im le ln ys vt nu nn rf vw vq yc yh yg xm xi xw vp xn xc vs hA hB hC hD hJ hR hK x hx
  · exact oe_far_1 he ke ki fi fa or mi a g l w s m kk im le ln ys vt nu nn rf vw vq yc yh yg xm xi xw vp xn xc vs hA hB hC hD hJ hR hK x hx
  · rcases (show x_ = 0 ∨ x_ = 1 ∨ x_ = 2 ∨ x_ = 3 by omega) with rfl | rfl | rfl | rfl
    · exact oI_of (nI (kap (a / 5) (g / 5) + kap (a % 5) (g % 5))) hA hB hC hD hK (tc_far_0 he ke ki fi fa or mi a g l w s im le ln ys vt nu nn rf kk _ hA hC vw vq yc yh yg m hJ) (fun c n m kk => tm_far_0 he ke ki fi fa or mi a g l w s xi im le nu rf ln nn c n m kk hA hC xm xw vp xn xc vs hR)
    · exact oI_of (nI (ktl he 24 1 0)) hA hB hC hD hK (tc_far_1 he ke ki fi fa or mi a g l w s im le ln ys vt nu nn rf kk _ hA hC vw vq yc yh yg m hJ) (fun c n m kk => tm_far_1 he ke ki fi fa or mi a g l w s xi im le nu rf ln nn c n m kk hA hC xm xw vp xn xc vs hR)
    · exact oI_of (nI (ksum ke 25)) hA hB hC hD hK (tc_far_2 he ke ki fi fa or mi a g l w s im le ln ys vt nu nn rf kk _ hA hC vw vq yc yh yg m hJ) (fun c n m kk => tm_far_2 he ke ki fi fa or mi a g l w s xi im le nu rf ln nn c n m kk hA hC xm xw vp xn xc vs hR)
    · exact oI_of (nI (kbw (fun c => ki1 (kbr (min (a / 5) (g / 5)) (max (a / 5) (g / 5)) (c / 5) && kbr (min (a % 5) (g % 5)) (max (a % 5) (g % 5)) (c % 5)) (kg ke c)) 25 0 0)) hA hB hC hD hK (tc_far_3 he ke ki fi fa or mi a g l w s im le ln ys vt nu nn rf kk _ hA hC vw vq yc yh yg m hJ) (fun c n m kk => tm_far_3 he ke ki fi fa or mi a g l w s xi im le nu rf ln nn c n m kk hA hC xm xw vp xn xc vs hR)
