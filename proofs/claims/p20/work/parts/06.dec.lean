/-! ===== a method's rows by one walk over its bytes ===== -/
def wz_1 (r : List UInt8) (f : Nat → Bool) : Bool := match r with
  | a :: _ => f a.toNat
  | [] => false
def wz_2 (r : List UInt8) (f : Nat → Bool) : Bool := match r with
  | a :: b :: _ => f (a.toNat * 256 + b.toNat)
  | _ => false
def wz_3 (r : List UInt8) (f : Nat → Nat → Bool) : Bool := match r with
  | a :: b :: _ => f a.toNat b.toNat
  | _ => false
def wz_in : List Nat → Nat → Bool
  | [], _ => false
  | a :: l, p => Nat.beq p a || wz_in l p
theorem wz_in_ok : ∀ {l : List Nat} {p : Nat}, wz_in l p = true → p ∈ l
  | [], _, h => Bool.noConfusion (show false = true from h)
  | a :: l, p, h => by
    have h' : (Nat.beq p a || wz_in l p) = true := h
    cases hc : Nat.beq p a with
    | true => rw [Nat.eq_of_beq_eq_true hc]; exact List.mem_cons_self
    | false =>
      rw [hc] at h'
      exact List.mem_cons_of_mem _ (wz_in_ok (show wz_in l p = true from h'))
noncomputable def wz_k (i : Instr) (b : Nat) (r : List UInt8) : Bool := match i with
  | .iconst n => Nat.ble 2 b && (Nat.ble b 8 && decide (n + 3 = (b : Int)))
  | .bipush v => Nat.beq b 16 && wz_1 r (fun a => decide (Jvm.ClassFile.Reader.signed 8 a = v))
  | .sipush v => Nat.beq b 17 && wz_2 r (fun a => decide (Jvm.ClassFile.Reader.signed 16 a = v))
  | .goto v => Nat.beq b 167 && wz_2 r (fun a => decide (Jvm.ClassFile.Reader.signed 16 a = v))
  | .iinc n v => Nat.beq b 132 && wz_3 r (fun a c => Nat.beq a n && decide (Jvm.ClassFile.Reader.signed 8 c = v))
  | .iaload => Nat.beq b 46
  | .iastore => Nat.beq b 79
  | .aastore => Nat.beq b 83
  | .pop => Nat.beq b 87
  | .dup => Nat.beq b 89
  | .dup2 => Nat.beq b 92
  | .iadd => Nat.beq b 96
  | .isub => Nat.beq b 100
  | .imul => Nat.beq b 104
  | .idiv => Nat.beq b 108
  | .irem => Nat.beq b 112
  | .ishl => Nat.beq b 120
  | .ishr => Nat.beq b 122
  | .iand => Nat.beq b 126
  | .ior => Nat.beq b 128
  | .i2l => Nat.beq b 133
  | .ireturn => Nat.beq b 172
  | .lreturn => Nat.beq b 173
  | .areturn => Nat.beq b 176
  | .return_ => Nat.beq b 177
  | .iload_n n => Nat.beq b (26 + n.val)
  | .aload_n n => Nat.beq b (42 + n.val)
  | .istore_n n => Nat.beq b (59 + n.val)
  | .ldc n => Nat.beq b 18 && wz_1 r (fun a => Nat.beq a n)
  | .iload n => Nat.beq b 21 && wz_1 r (fun a => Nat.beq a n)
  | .lload n => Nat.beq b 22 && wz_1 r (fun a => Nat.beq a n)
  | .aload n => Nat.beq b 25 && wz_1 r (fun a => Nat.beq a n)
  | .istore n => Nat.beq b 54 && wz_1 r (fun a => Nat.beq a n)
  | .lstore n => Nat.beq b 55 && wz_1 r (fun a => Nat.beq a n)
  | .ldc_w n => Nat.beq b 19 && wz_2 r (fun a => Nat.beq a n)
  | .getfield n => Nat.beq b 180 && wz_2 r (fun a => Nat.beq a n)
  | .putfield n => Nat.beq b 181 && wz_2 r (fun a => Nat.beq a n)
  | .invokevirtual n => Nat.beq b 182 && wz_2 r (fun a => Nat.beq a n)
  | .invokespecial n => Nat.beq b 183 && wz_2 r (fun a => Nat.beq a n)
  | .invokestatic n => Nat.beq b 184 && wz_2 r (fun a => Nat.beq a n)
  | .new n => Nat.beq b 187 && wz_2 r (fun a => Nat.beq a n)
  | .ifCond .eq v => Nat.beq b 153 && wz_2 r (fun a => decide (Jvm.ClassFile.Reader.signed 16 a = v))
  | .ifCond .ne v => Nat.beq b 154 && wz_2 r (fun a => decide (Jvm.ClassFile.Reader.signed 16 a = v))
  | .ifCond .lt v => Nat.beq b 155 && wz_2 r (fun a => decide (Jvm.ClassFile.Reader.signed 16 a = v))
  | .ifCond .ge v => Nat.beq b 156 && wz_2 r (fun a => decide (Jvm.ClassFile.Reader.signed 16 a = v))
  | .ifCond .gt v => Nat.beq b 157 && wz_2 r (fun a => decide (Jvm.ClassFile.Reader.signed 16 a = v))
  | .ifCond .le v => Nat.beq b 158 && wz_2 r (fun a => decide (Jvm.ClassFile.Reader.signed 16 a = v))
  | .if_icmp .eq v => Nat.beq b 159 && wz_2 r (fun a => decide (Jvm.ClassFile.Reader.signed 16 a = v))
  | .if_icmp .ne v => Nat.beq b 160 && wz_2 r (fun a => decide (Jvm.ClassFile.Reader.signed 16 a = v))
  | .if_icmp .lt v => Nat.beq b 161 && wz_2 r (fun a => decide (Jvm.ClassFile.Reader.signed 16 a = v))
  | .if_icmp .ge v => Nat.beq b 162 && wz_2 r (fun a => decide (Jvm.ClassFile.Reader.signed 16 a = v))
  | .if_icmp .gt v => Nat.beq b 163 && wz_2 r (fun a => decide (Jvm.ClassFile.Reader.signed 16 a = v))
  | .if_icmp .le v => Nat.beq b 164 && wz_2 r (fun a => decide (Jvm.ClassFile.Reader.signed 16 a = v))
  | _ => false
noncomputable def wz_t (pc : Nat) (i : Instr) (ex : List (Nat × Nat)) : Bool := match i with
  | .goto off => match ex with
    | [(t, _)] => decide ((pc : Int) + off = (t : Int))
    | _ => false
  | .if_icmp _ off => match ex with
    | [(t, _)] => decide ((pc : Int) + off = (t : Int))
    | _ => false
  | .ifCond _ off => match ex with
    | [(t, _)] => decide ((pc : Int) + off = (t : Int))
    | _ => false
  | .lookupswitch _ _ => false
  | .ldc _ => false
  | .getstatic _ => false
  | .ldc_w _ => false
  | .ldc2_w _ => false
  | .getfield _ => false
  | .putfield _ => false
  | .new _ => false
  | .anewarray _ => false
  | .invokestatic _ => false
  | .invokespecial _ => false
  | .invokevirtual _ => false
  | _ => true
theorem wz_t_ok {z pc : Nat} {i : Instr} {ex : List (Nat × Nat)} (h : wz_t pc i ex = true) : mm_ok z pc i ex := by
  cases i
  case goto off =>
    rcases ex with _ | ⟨⟨t, u⟩, _ | ⟨e2, es⟩⟩
    · exact Bool.noConfusion (show false = true from h)
    · show (pc : Int) + off = (t : Int)
      exact of_decide_eq_true h
    · exact Bool.noConfusion (show false = true from h)
  case if_icmp cc off =>
    rcases ex with _ | ⟨⟨t, u⟩, _ | ⟨e2, es⟩⟩
    · exact Bool.noConfusion (show false = true from h)
    · show (pc : Int) + off = (t : Int)
      exact of_decide_eq_true h
    · exact Bool.noConfusion (show false = true from h)
  case ifCond cc off =>
    rcases ex with _ | ⟨⟨t, u⟩, _ | ⟨e2, es⟩⟩
    · exact Bool.noConfusion (show false = true from h)
    · show (pc : Int) + off = (t : Int)
      exact of_decide_eq_true h
    · exact Bool.noConfusion (show false = true from h)
  all_goals first
    | exact trivial
    | exact Bool.noConfusion (show false = true from h)
theorem wz_dr {α : Type} : ∀ (l : List α) (n : Nat) (a : α) (r : List α), l.drop n = a :: r → l.drop (n + 1) = r
  | [], n, a, r, h => by simp at h
  | x :: l, 0, a, r, h => by
    have h' : x :: l = a :: r := h
    cases h'; rfl
  | x :: l, n + 1, a, r, h => wz_dr l n a r h
theorem wz_ix {α : Type} : ∀ (l : List α) (n : Nat) (a : α) (r : List α), l.drop n = a :: r → ∃ h : n < l.length, l[n]'h = a
  | [], n, a, r, h => by simp at h
  | x :: l, 0, a, r, h => by
    have h' : x :: l = a :: r := h
    cases h'; exact ⟨Nat.succ_pos _, rfl⟩
  | x :: l, n + 1, a, r, h => by
    obtain ⟨h1, h2⟩ := wz_ix l n a r h
    exact ⟨Nat.succ_lt_succ h1, h2⟩
theorem wz_ex {α : Type} : ∀ (l : List α) (n : Nat), n < l.length → ∃ (a : α) (r : List α), l.drop n = a :: r
  | [], n, h => absurd h (Nat.not_lt_zero n)
  | x :: l, 0, _ => ⟨x, l, rfl⟩
  | x :: l, n + 1, h => wz_ex l n (Nat.lt_of_succ_lt_succ h)
theorem wz_u1 {c : ByteArray} {pc : Nat} {b : UInt8} {r : List UInt8} (h : c.data.toList.drop pc = b :: r) : (Jvm.ClassFile.Reader.u1 : Jvm.ClassFile.Decoder Nat) c pc = .ok (b.toNat, pc + 1) := by
  obtain ⟨⟨l⟩⟩ := c
  obtain ⟨h1, h2⟩ := wz_ix l pc b r h
  have hs : pc < (ByteArray.mk ⟨l⟩).size := h1
  have h3 : (ByteArray.mk ⟨l⟩)[pc]'hs = b := h2
  show (do if h : pc < (ByteArray.mk ⟨l⟩).size then do MonadStateOf.set (pc + 1); Pure.pure ((ByteArray.mk ⟨l⟩)[pc]'h).toNat else MonadExcept.throw (Jvm.ClassFile.HasTruncated.truncated pc) : Jvm.ClassFile.Decoder Nat) (ByteArray.mk ⟨l⟩) pc = _
  rw [dif_pos hs, h3]
  all_goals rfl
theorem wz_bd {α β : Type} {x : Jvm.ClassFile.Decoder α} {f : α → Jvm.ClassFile.Decoder β} {c : ByteArray} {pc : Nat} {a : α} {s : Nat} (h : x c pc = .ok (a, s)) : (x >>= f) c pc = f a c s := by
  show (do let (a, s) ← x c pc; f a c s : Except Jvm.ClassFile.DecodeError (β × Nat)) = _
  rw [h]
  all_goals rfl
theorem wz_mp {α β : Type} {g : α → β} {x : Jvm.ClassFile.Decoder α} {c : ByteArray} {pc : Nat} {a : α} {s : Nat} (h : x c pc = .ok (a, s)) : (g <$> x) c pc = .ok (g a, s) := by
  show (do let (a, s) ← x c pc; .ok (g a, s) : Except Jvm.ClassFile.DecodeError (β × Nat)) = _
  rw [h]
  all_goals rfl
theorem wz_dc {c : ByteArray} {pc : Nat} {i : Instr} {n : Nat} (h : Jvm.ClassFile.Decoder.instr pc c pc = .ok (i, n)) : decode c pc = .ok (i, n - pc) := by
  show (do let (ii, nn) ← Jvm.ClassFile.Decoder.instr pc c pc; .ok (ii, nn - pc) : Except Jvm.ClassFile.DecodeError (Instr × Nat)) = _
  rw [h]
  all_goals rfl
theorem wz_s1 {c : ByteArray} {pc : Nat} {b : UInt8} {r : List UInt8} (h : c.data.toList.drop pc = b :: r) : (Jvm.ClassFile.Reader.s1 : Jvm.ClassFile.Decoder Int) c pc = .ok (Jvm.ClassFile.Reader.signed 8 b.toNat, pc + 1) := wz_mp (wz_u1 h)
theorem wz_u2 {c : ByteArray} {pc : Nat} {a b : UInt8} {r : List UInt8} (h : c.data.toList.drop pc = a :: b :: r) : (Jvm.ClassFile.Reader.u2 : Jvm.ClassFile.Decoder Nat) c pc = .ok (a.toNat * 256 + b.toNat, pc + 1 + 1) := by
  have e1 := wz_u1 h
  have e2 := wz_u1 (wz_dr _ _ _ _ h)
  show ((Jvm.ClassFile.Reader.u1 : Jvm.ClassFile.Decoder Nat) >>= fun hi => (Jvm.ClassFile.Reader.u1 : Jvm.ClassFile.Decoder Nat) >>= fun lo => Pure.pure (hi * 256 + lo) : Jvm.ClassFile.Decoder Nat) c pc = _
  refine (wz_bd e1).trans ?_
  refine (wz_bd e2).trans ?_
  rfl
theorem wz_s2 {c : ByteArray} {pc : Nat} {a b : UInt8} {r : List UInt8} (h : c.data.toList.drop pc = a :: b :: r) : (Jvm.ClassFile.Reader.s2 : Jvm.ClassFile.Decoder Int) c pc = .ok (Jvm.ClassFile.Reader.signed 16 (a.toNat * 256 + b.toNat), pc + 1 + 1) := wz_mp (wz_u2 h)
theorem wz_d0 {D : Nat → Jvm.ClassFile.Decoder Instr} {c : ByteArray} {pc : Nat} {b : UInt8} {r : List UInt8} {k : Nat} {i : Instr} (h0 : Jvm.ClassFile.Decoder.instr pc = (Jvm.ClassFile.Reader.u1 >>= D)) (ha : c.data.toList.drop pc = b :: r) (hb : b.toNat = k) (hD : D k = Pure.pure i) : decode c pc = .ok (i, 1) := by
  have e2 : Jvm.ClassFile.Decoder.instr pc c pc = .ok (i, pc + 1) := by
    rw [h0]
    refine (wz_bd (wz_u1 ha)).trans ?_
    rw [hb, hD]
    all_goals rfl
  have e3 := wz_dc e2
  have e4 : pc + 1 - pc = 1 := by omega
  rw [e4] at e3
  exact e3
theorem wz_du1 {D : Nat → Jvm.ClassFile.Decoder Instr} {c : ByteArray} {pc : Nat} {b : UInt8} {r : List UInt8} {k n : Nat} {mk : Nat → Instr} (h0 : Jvm.ClassFile.Decoder.instr pc = (Jvm.ClassFile.Reader.u1 >>= D)) (ha : c.data.toList.drop pc = b :: r) (h : (Nat.beq b.toNat k && wz_1 r (fun a => Nat.beq a n)) = true) (hD : D k = ((Jvm.ClassFile.Reader.u1 : Jvm.ClassFile.Decoder Nat) >>= fun v => Pure.pure (mk v))) : decode c pc = .ok (mk n, 2) := by
  obtain ⟨g1, g2⟩ := Bool.and_eq_true_iff.1 h
  cases r with
  | nil => exact Bool.noConfusion (show false = true from g2)
  | cons a r =>
    have g3 : a.toNat = n := Nat.eq_of_beq_eq_true g2
    have e2 : Jvm.ClassFile.Decoder.instr pc c pc = .ok (mk n, pc + 1 + 1) := by
      rw [h0]
      refine (wz_bd (wz_u1 ha)).trans ?_
      rw [Nat.eq_of_beq_eq_true g1, hD]
      refine (wz_bd (wz_u1 (wz_dr _ _ _ _ ha))).trans ?_
      rw [g3]
      all_goals rfl
    have e3 := wz_dc e2
    have e4 : pc + 1 + 1 - pc = 2 := by omega
    rw [e4] at e3
    exact e3
theorem wz_ds1 {D : Nat → Jvm.ClassFile.Decoder Instr} {c : ByteArray} {pc : Nat} {b : UInt8} {r : List UInt8} {k : Nat} {v : Int} {mk : Int → Instr} (h0 : Jvm.ClassFile.Decoder.instr pc = (Jvm.ClassFile.Reader.u1 >>= D)) (ha : c.data.toList.drop pc = b :: r) (h : (Nat.beq b.toNat k && wz_1 r (fun a => decide (Jvm.ClassFile.Reader.signed 8 a = v))) = true) (hD : D k = ((Jvm.ClassFile.Reader.s1 : Jvm.ClassFile.Decoder Int) >>= fun v => Pure.pure (mk v))) : decode c pc = .ok (mk v, 2) := by
  obtain ⟨g1, g2⟩ := Bool.and_eq_true_iff.1 h
  cases r with
  | nil => exact Bool.noConfusion (show false = true from g2)
  | cons a r =>
    have g3 : Jvm.ClassFile.Reader.signed 8 a.toNat = v := of_decide_eq_true g2
    have e2 : Jvm.ClassFile.Decoder.instr pc c pc = .ok (mk v, pc + 1 + 1) := by
      rw [h0]
      refine (wz_bd (wz_u1 ha)).trans ?_
      rw [Nat.eq_of_beq_eq_true g1, hD]
      refine (wz_bd (wz_s1 (wz_dr _ _ _ _ ha))).trans ?_
      rw [g3]
      all_goals rfl
    have e3 := wz_dc e2
    have e4 : pc + 1 + 1 - pc = 2 := by omega
    rw [e4] at e3
    exact e3
theorem wz_du2 {D : Nat → Jvm.ClassFile.Decoder Instr} {c : ByteArray} {pc : Nat} {b : UInt8} {r : List UInt8} {k n : Nat} {mk : Nat → Instr} (h0 : Jvm.ClassFile.Decoder.instr pc = (Jvm.ClassFile.Reader.u1 >>= D)) (ha : c.data.toList.drop pc = b :: r) (h : (Nat.beq b.toNat k && wz_2 r (fun a => Nat.beq a n)) = true) (hD : D k = ((Jvm.ClassFile.Reader.u2 : Jvm.ClassFile.Decoder Nat) >>= fun v => Pure.pure (mk v))) : decode c pc = .ok (mk n, 3) := by
  obtain ⟨g1, g2⟩ := Bool.and_eq_true_iff.1 h
  rcases r with _ | ⟨a, _ | ⟨a2, r⟩⟩
  · exact Bool.noConfusion (show false = true from g2)
  · exact Bool.noConfusion (show false = true from g2)
  · have g3 : a.toNat * 256 + a2.toNat = n := Nat.eq_of_beq_eq_true g2
    have e2 : Jvm.ClassFile.Decoder.instr pc c pc = .ok (mk n, pc + 1 + 1 + 1) := by
      rw [h0]
      refine (wz_bd (wz_u1 ha)).trans ?_
      rw [Nat.eq_of_beq_eq_true g1, hD]
      refine (wz_bd (wz_u2 (wz_dr _ _ _ _ ha))).trans ?_
      rw [g3]
      all_goals rfl
    have e3 := wz_dc e2
    have e4 : pc + 1 + 1 + 1 - pc = 3 := by omega
    rw [e4] at e3
    exact e3
theorem wz_ds2 {D : Nat → Jvm.ClassFile.Decoder Instr} {c : ByteArray} {pc : Nat} {b : UInt8} {r : List UInt8} {k : Nat} {v : Int} {mk : Int → Instr} (h0 : Jvm.ClassFile.Decoder.instr pc = (Jvm.ClassFile.Reader.u1 >>= D)) (ha : c.data.toList.drop pc = b :: r) (h : (Nat.beq b.toNat k && wz_2 r (fun a => decide (Jvm.ClassFile.Reader.signed 16 a = v))) = true) (hD : D k = ((Jvm.ClassFile.Reader.s2 : Jvm.ClassFile.Decoder Int) >>= fun v => Pure.pure (mk v))) : decode c pc = .ok (mk v, 3) := by
  obtain ⟨g1, g2⟩ := Bool.and_eq_true_iff.1 h
  rcases r with _ | ⟨a, _ | ⟨a2, r⟩⟩
  · exact Bool.noConfusion (show false = true from g2)
  · exact Bool.noConfusion (show false = true from g2)
  · have g3 : Jvm.ClassFile.Reader.signed 16 (a.toNat * 256 + a2.toNat) = v := of_decide_eq_true g2
    have e2 : Jvm.ClassFile.Decoder.instr pc c pc = .ok (mk v, pc + 1 + 1 + 1) := by
      rw [h0]
      refine (wz_bd (wz_u1 ha)).trans ?_
      rw [Nat.eq_of_beq_eq_true g1, hD]
      refine (wz_bd (wz_s2 (wz_dr _ _ _ _ ha))).trans ?_
      rw [g3]
      all_goals rfl
    have e3 := wz_dc e2
    have e4 : pc + 1 + 1 + 1 - pc = 3 := by omega
    rw [e4] at e3
    exact e3
theorem wz_dii {D : Nat → Jvm.ClassFile.Decoder Instr} {c : ByteArray} {pc : Nat} {b : UInt8} {r : List UInt8} {k n : Nat} {v : Int} (h0 : Jvm.ClassFile.Decoder.instr pc = (Jvm.ClassFile.Reader.u1 >>= D)) (ha : c.data.toList.drop pc = b :: r) (h : (Nat.beq b.toNat k && wz_3 r (fun a c => Nat.beq a n && decide (Jvm.ClassFile.Reader.signed 8 c = v))) = true) (hD : D k = ((Jvm.ClassFile.Reader.u1 : Jvm.ClassFile.Decoder Nat) >>= fun n => (Jvm.ClassFile.Reader.s1 : Jvm.ClassFile.Decoder Int) >>= fun v => Pure.pure (Instr.iinc n v))) : decode c pc = .ok (Instr.iinc n v, 3) := by
  obtain ⟨g1, g2⟩ := Bool.and_eq_true_iff.1 h
  rcases r with _ | ⟨a, _ | ⟨a2, r⟩⟩
  · exact Bool.noConfusion (show false = true from g2)
  · exact Bool.noConfusion (show false = true from g2)
  · obtain ⟨g4, g5⟩ := Bool.and_eq_true_iff.1 (show (Nat.beq a.toNat n && decide (Jvm.ClassFile.Reader.signed 8 a2.toNat = v)) = true from g2)
    have g3 : Jvm.ClassFile.Reader.signed 8 a2.toNat = v := of_decide_eq_true g5
    have e2 : Jvm.ClassFile.Decoder.instr pc c pc = .ok (Instr.iinc n v, pc + 1 + 1 + 1) := by
      rw [h0]
      refine (wz_bd (wz_u1 ha)).trans ?_
      rw [Nat.eq_of_beq_eq_true g1, hD]
      refine (wz_bd (wz_u1 (wz_dr _ _ _ _ ha))).trans ?_
      refine (wz_bd (wz_s1 (wz_dr _ _ _ _ (wz_dr _ _ _ _ ha)))).trans ?_
      rw [Nat.eq_of_beq_eq_true g4, g3]
      all_goals rfl
    have e3 := wz_dc e2
    have e4 : pc + 1 + 1 + 1 - pc = 3 := by omega
    rw [e4] at e3
    exact e3
set_option maxRecDepth 100000 in
theorem wz_bodies : ∃ D : Nat → Nat → Jvm.ClassFile.Decoder Instr, (∀ pc, Jvm.ClassFile.Decoder.instr pc = (Jvm.ClassFile.Reader.u1 >>= D pc)) ∧ (∀ pc, D pc 2 = Pure.pure (Instr.iconst (-1))) ∧ (∀ pc, D pc 3 = Pure.pure (Instr.iconst 0)) ∧ (∀ pc, D pc 4 = Pure.pure (Instr.iconst 1)) ∧ (∀ pc, D pc 5 = Pure.pure (Instr.iconst 2)) ∧ (∀ pc, D pc 6 = Pure.pure (Instr.iconst 3)) ∧ (∀ pc, D pc 7 = Pure.pure (Instr.iconst 4)) ∧ (∀ pc, D pc 8 = Pure.pure (Instr.iconst 5)) ∧ (∀ pc, D pc 16 = ((Jvm.ClassFile.Reader.s1 : Jvm.ClassFile.Decoder Int) >>= fun v => Pure.pure (Instr.bipush v))) ∧ (∀ pc, D pc 17 = ((Jvm.ClassFile.Reader.s2 : Jvm.ClassFile.Decoder Int) >>= fun v => Pure.pure (Instr.sipush v))) ∧ (∀ pc, D pc 18 = ((Jvm.ClassFile.Reader.u1 : Jvm.ClassFile.Decoder Nat) >>= fun v => Pure.pure (Instr.ldc v))) ∧ (∀ pc, D pc 19 = ((Jvm.ClassFile.Reader.u2 : Jvm.ClassFile.Decoder Nat) >>= fun v => Pure.pure (Instr.ldc_w v))) ∧ (∀ pc, D pc 21 = ((Jvm.ClassFile.Reader.u1 : Jvm.ClassFile.Decoder Nat) >>= fun v => Pure.pure (Instr.iload v))) ∧ (∀ pc, D pc 22 = ((Jvm.ClassFile.Reader.u1 : Jvm.ClassFile.Decoder Nat) >>= fun v => Pure.pure (Instr.lload v))) ∧ (∀ pc, D pc 25 = ((Jvm.ClassFile.Reader.u1 : Jvm.ClassFile.Decoder Nat) >>= fun v => Pure.pure (Instr.aload v))) ∧ (∀ pc, D pc 26 = Pure.pure (Instr.iload_n 0)) ∧ (∀ pc, D pc 27 = Pure.pure (Instr.iload_n 1)) ∧ (∀ pc, D pc 28 = Pure.pure (Instr.iload_n 2)) ∧ (∀ pc, D pc 29 = Pure.pure (Instr.iload_n 3)) ∧ (∀ pc, D pc 42 = Pure.pure (Instr.aload_n 0)) ∧ (∀ pc, D pc 43 = Pure.pure (Instr.aload_n 1)) ∧ (∀ pc, D pc 44 = Pure.pure (Instr.aload_n 2)) ∧ (∀ pc, D pc 45 = Pure.pure (Instr.aload_n 3)) ∧ (∀ pc, D pc 46 = Pure.pure Instr.iaload) ∧ (∀ pc, D pc 54 = ((Jvm.ClassFile.Reader.u1 : Jvm.ClassFile.Decoder Nat) >>= fun v => Pure.pure (Instr.istore v))) ∧ (∀ pc, D pc 55 = ((Jvm.ClassFile.Reader.u1 : Jvm.ClassFile.Decoder Nat) >>= fun v => Pure.pure (Instr.lstore v))) ∧ (∀ pc, D pc 59 = Pure.pure (Instr.istore_n 0)) ∧ (∀ pc, D pc 60 = Pure.pure (Instr.istore_n 1)) ∧ (∀ pc, D pc 61 = Pure.pure (Instr.istore_n 2)) ∧ (∀ pc, D pc 62 = Pure.pure (Instr.istore_n 3)) ∧ (∀ pc, D pc 79 = Pure.pure Instr.iastore) ∧ (∀ pc, D pc 83 = Pure.pure Instr.aastore) ∧ (∀ pc, D pc 87 = Pure.pure Instr.pop) ∧ (∀ pc, D pc 89 = Pure.pure Instr.dup) ∧ (∀ pc, D pc 92 = Pure.pure Instr.dup2) ∧ (∀ pc, D pc 96 = Pure.pure Instr.iadd) ∧ (∀ pc, D pc 100 = Pure.pure Instr.isub) ∧ (∀ pc, D pc 104 = Pure.pure Instr.imul) ∧ (∀ pc, D pc 108 = Pure.pure Instr.idiv) ∧ (∀ pc, D pc 112 = Pure.pure Instr.irem) ∧ (∀ pc, D pc 120 = Pure.pure Instr.ishl) ∧ (∀ pc, D pc 122 = Pure.pure Instr.ishr) ∧ (∀ pc, D pc 126 = Pure.pure Instr.iand) ∧ (∀ pc, D pc 128 = Pure.pure Instr.ior) ∧ (∀ pc, D pc 132 = ((Jvm.ClassFile.Reader.u1 : Jvm.ClassFile.Decoder Nat) >>= fun n => (Jvm.ClassFile.Reader.s1 : Jvm.ClassFile.Decoder Int) >>= fun v => Pure.pure (Instr.iinc n v))) ∧ (∀ pc, D pc 133 = Pure.pure Instr.i2l) ∧ (∀ pc, D pc 153 = ((Jvm.ClassFile.Reader.s2 : Jvm.ClassFile.Decoder Int) >>= fun v => Pure.pure (Instr.ifCond .eq v))) ∧ (∀ pc, D pc 154 = ((Jvm.ClassFile.Reader.s2 : Jvm.ClassFile.Decoder Int) >>= fun v => Pure.pure (Instr.ifCond .ne v))) ∧ (∀ pc, D pc 155 = ((Jvm.ClassFile.Reader.s2 : Jvm.ClassFile.Decoder Int) >>= fun v => Pure.pure (Instr.ifCond .lt v))) ∧ (∀ pc, D pc 156 = ((Jvm.ClassFile.Reader.s2 : Jvm.ClassFile.Decoder Int) >>= fun v => Pure.pure (Instr.ifCond .ge v))) ∧ (∀ pc, D pc 157 = ((Jvm.ClassFile.Reader.s2 : Jvm.ClassFile.Decoder Int) >>= fun v => Pure.pure (Instr.ifCond .gt v))) ∧ (∀ pc, D pc 158 = ((Jvm.ClassFile.Reader.s2 : Jvm.ClassFile.Decoder Int) >>= fun v => Pure.pure (Instr.ifCond .le v))) ∧ (∀ pc, D pc 159 = ((Jvm.ClassFile.Reader.s2 : Jvm.ClassFile.Decoder Int) >>= fun v => Pure.pure (Instr.if_icmp .eq v))) ∧ (∀ pc, D pc 160 = ((Jvm.ClassFile.Reader.s2 : Jvm.ClassFile.Decoder Int) >>= fun v => Pure.pure (Instr.if_icmp .ne v))) ∧ (∀ pc, D pc 161 = ((Jvm.ClassFile.Reader.s2 : Jvm.ClassFile.Decoder Int) >>= fun v => Pure.pure (Instr.if_icmp .lt v))) ∧ (∀ pc, D pc 162 = ((Jvm.ClassFile.Reader.s2 : Jvm.ClassFile.Decoder Int) >>= fun v => Pure.pure (Instr.if_icmp .ge v))) ∧ (∀ pc, D pc 163 = ((Jvm.ClassFile.Reader.s2 : Jvm.ClassFile.Decoder Int) >>= fun v => Pure.pure (Instr.if_icmp .gt v))) ∧ (∀ pc, D pc 164 = ((Jvm.ClassFile.Reader.s2 : Jvm.ClassFile.Decoder Int) >>= fun v => Pure.pure (Instr.if_icmp .le v))) ∧ (∀ pc, D pc 167 = ((Jvm.ClassFile.Reader.s2 : Jvm.ClassFile.Decoder Int) >>= fun v => Pure.pure (Instr.goto v))) ∧ (∀ pc, D pc 172 = Pure.pure Instr.ireturn) ∧ (∀ pc, D pc 173 = Pure.pure Instr.lreturn) ∧ (∀ pc, D pc 176 = Pure.pure Instr.areturn) ∧ (∀ pc, D pc 177 = Pure.pure Instr.return_) ∧ (∀ pc, D pc 180 = ((Jvm.ClassFile.Reader.u2 : Jvm.ClassFile.Decoder Nat) >>= fun v => Pure.pure (Instr.getfield v))) ∧ (∀ pc, D pc 181 = ((Jvm.ClassFile.Reader.u2 : Jvm.ClassFile.Decoder Nat) >>= fun v => Pure.pure (Instr.putfield v))) ∧ (∀ pc, D pc 182 = ((Jvm.ClassFile.Reader.u2 : Jvm.ClassFile.Decoder Nat) >>= fun v => Pure.pure (Instr.invokevirtual v))) ∧ (∀ pc, D pc 183 = ((Jvm.ClassFile.Reader.u2 : Jvm.ClassFile.Decoder Nat) >>= fun v => Pure.pure (Instr.invokespecial v))) ∧ (∀ pc, D pc 184 = ((Jvm.ClassFile.Reader.u2 : Jvm.ClassFile.Decoder Nat) >>= fun v => Pure.pure (Instr.invokestatic v))) ∧ (∀ pc, D pc 187 = ((Jvm.ClassFile.Reader.u2 : Jvm.ClassFile.Decoder Nat) >>= fun v => Pure.pure (Instr.new v))) :=
  ⟨_, fun _ => rfl, fun _ => rfl, fun _ => rfl, fun _ => rfl, fun _ => rfl, fun _ => rfl, fun _ => rfl, fun _ => rfl, fun _ => rfl, fun _ => rfl, fun _ => rfl, fun _ => rfl, fun _ => rfl, fun _ => rfl, fun _ => rfl, fun _ => rfl, fun _ => rfl, fun _ => rfl, fun _ => rfl, fun _ => rfl, fun _ => rfl, fun _ => rfl, fun _ => rfl, fun _ => rfl, fun _ => rfl, fun _ => rfl, fun _ => rfl, fun _ => rfl, fun _ => rfl, fun _ => rfl, fun _ => rfl, fun _ => rfl, fun _ => rfl, fun _ => rfl, fun _ => rfl, fun _ => rfl, fun _ => rfl, fun _ => rfl, fun _ => rfl, fun _ => rfl, fun _ => rfl, fun _ => rfl, fun _ => rfl, fun _ => rfl, fun _ => rfl, fun _ => rfl, fun _ => rfl, fun _ => rfl, fun _ => rfl, fun _ => rfl, fun _ => rfl, fun _ => rfl, fun _ => rfl, fun _ => rfl, fun _ => rfl, fun _ => rfl, fun _ => rfl, fun _ => rfl, fun _ => rfl, fun _ => rfl, fun _ => rfl, fun _ => rfl, fun _ => rfl, fun _ => rfl, fun _ => rfl, fun _ => rfl, fun _ => rfl, fun _ => rfl, fun _ => rfl⟩
theorem wz_k_ok {c : ByteArray} {pc : Nat} {b : UInt8} {r : List UInt8} (ha : c.data.toList.drop pc = b :: r) (i : Instr) (h : wz_k i b.toNat r = true) : decode c pc = .ok (i, mm_len i) := by
  obtain ⟨D, h0, h2, h3, h4, h5, h6, h7, h8, h16, h17, h18, h19, h21, h22, h25, h26, h27, h28, h29, h42, h43, h44, h45, h46, h54, h55, h59, h60, h61, h62, h79, h83, h87, h89, h92, h96, h100, h104, h108, h112, h120, h122, h126, h128, h132, h133, h153, h154, h155, h156, h157, h158, h159, h160, h161, h162, h163, h164, h167, h172, h173, h176, h177, h180, h181, h182, h183, h184, h187⟩ := wz_bodies
  cases i
  case iaload => exact wz_d0 (h0 pc) ha (Nat.eq_of_beq_eq_true (show Nat.beq b.toNat 46 = true from h)) (h46 pc)
  case iastore => exact wz_d0 (h0 pc) ha (Nat.eq_of_beq_eq_true (show Nat.beq b.toNat 79 = true from h)) (h79 pc)
  case aastore => exact wz_d0 (h0 pc) ha (Nat.eq_of_beq_eq_true (show Nat.beq b.toNat 83 = true from h)) (h83 pc)
  case pop => exact wz_d0 (h0 pc) ha (Nat.eq_of_beq_eq_true (show Nat.beq b.toNat 87 = true from h)) (h87 pc)
  case dup => exact wz_d0 (h0 pc) ha (Nat.eq_of_beq_eq_true (show Nat.beq b.toNat 89 = true from h)) (h89 pc)
  case dup2 => exact wz_d0 (h0 pc) ha (Nat.eq_of_beq_eq_true (show Nat.beq b.toNat 92 = true from h)) (h92 pc)
  case iadd => exact wz_d0 (h0 pc) ha (Nat.eq_of_beq_eq_true (show Nat.beq b.toNat 96 = true from h)) (h96 pc)
  case isub => exact wz_d0 (h0 pc) ha (Nat.eq_of_beq_eq_true (show Nat.beq b.toNat 100 = true from h)) (h100 pc)
  case imul => exact wz_d0 (h0 pc) ha (Nat.eq_of_beq_eq_true (show Nat.beq b.toNat 104 = true from h)) (h104 pc)
  case idiv => exact wz_d0 (h0 pc) ha (Nat.eq_of_beq_eq_true (show Nat.beq b.toNat 108 = true from h)) (h108 pc)
  case irem => exact wz_d0 (h0 pc) ha (Nat.eq_of_beq_eq_true (show Nat.beq b.toNat 112 = true from h)) (h112 pc)
  case ishl => exact wz_d0 (h0 pc) ha (Nat.eq_of_beq_eq_true (show Nat.beq b.toNat 120 = true from h)) (h120 pc)
  case ishr => exact wz_d0 (h0 pc) ha (Nat.eq_of_beq_eq_true (show Nat.beq b.toNat 122 = true from h)) (h122 pc)
  case iand => exact wz_d0 (h0 pc) ha (Nat.eq_of_beq_eq_true (show Nat.beq b.toNat 126 = true from h)) (h126 pc)
  case ior => exact wz_d0 (h0 pc) ha (Nat.eq_of_beq_eq_true (show Nat.beq b.toNat 128 = true from h)) (h128 pc)
  case i2l => exact wz_d0 (h0 pc) ha (Nat.eq_of_beq_eq_true (show Nat.beq b.toNat 133 = true from h)) (h133 pc)
  case ireturn => exact wz_d0 (h0 pc) ha (Nat.eq_of_beq_eq_true (show Nat.beq b.toNat 172 = true from h)) (h172 pc)
  case lreturn => exact wz_d0 (h0 pc) ha (Nat.eq_of_beq_eq_true (show Nat.beq b.toNat 173 = true from h)) (h173 pc)
  case areturn => exact wz_d0 (h0 pc) ha (Nat.eq_of_beq_eq_true (show Nat.beq b.toNat 176 = true from h)) (h176 pc)
  case return_ => exact wz_d0 (h0 pc) ha (Nat.eq_of_beq_eq_true (show Nat.beq b.toNat 177 = true from h)) (h177 pc)
  case ldc n => exact wz_du1 (k := 18) (n := n) (mk := Instr.ldc) (h0 pc) ha h (h18 pc)
  case iload n => exact wz_du1 (k := 21) (n := n) (mk := Instr.iload) (h0 pc) ha h (h21 pc)
  case lload n => exact wz_du1 (k := 22) (n := n) (mk := Instr.lload) (h0 pc) ha h (h22 pc)
  case aload n => exact wz_du1 (k := 25) (n := n) (mk := Instr.aload) (h0 pc) ha h (h25 pc)
  case istore n => exact wz_du1 (k := 54) (n := n) (mk := Instr.istore) (h0 pc) ha h (h54 pc)
  case lstore n => exact wz_du1 (k := 55) (n := n) (mk := Instr.lstore) (h0 pc) ha h (h55 pc)
  case ldc_w n => exact wz_du2 (k := 19) (n := n) (mk := Instr.ldc_w) (h0 pc) ha h (h19 pc)
  case getfield n => exact wz_du2 (k := 180) (n := n) (mk := Instr.getfield) (h0 pc) ha h (h180 pc)
  case putfield n => exact wz_du2 (k := 181) (n := n) (mk := Instr.putfield) (h0 pc) ha h (h181 pc)
  case invokevirtual n => exact wz_du2 (k := 182) (n := n) (mk := Instr.invokevirtual) (h0 pc) ha h (h182 pc)
  case invokespecial n => exact wz_du2 (k := 183) (n := n) (mk := Instr.invokespecial) (h0 pc) ha h (h183 pc)
  case invokestatic n => exact wz_du2 (k := 184) (n := n) (mk := Instr.invokestatic) (h0 pc) ha h (h184 pc)
  case new n => exact wz_du2 (k := 187) (n := n) (mk := Instr.new) (h0 pc) ha h (h187 pc)
  case bipush v => exact wz_ds1 (k := 16) (v := v) (mk := Instr.bipush) (h0 pc) ha h (h16 pc)
  case sipush v => exact wz_ds2 (k := 17) (v := v) (mk := Instr.sipush) (h0 pc) ha h (h17 pc)
  case goto v => exact wz_ds2 (k := 167) (v := v) (mk := Instr.goto) (h0 pc) ha h (h167 pc)
  case iinc n v => exact wz_dii (k := 132) (n := n) (v := v) (h0 pc) ha h (h132 pc)
  case iload_n n =>
    have hq : b.toNat = 26 + n.val := Nat.eq_of_beq_eq_true h
    match n, hq with
    | ⟨0, _⟩, hq => exact wz_d0 (k := 26) (h0 pc) ha hq (h26 pc)
    | ⟨1, _⟩, hq => exact wz_d0 (k := 27) (h0 pc) ha hq (h27 pc)
    | ⟨2, _⟩, hq => exact wz_d0 (k := 28) (h0 pc) ha hq (h28 pc)
    | ⟨3, _⟩, hq => exact wz_d0 (k := 29) (h0 pc) ha hq (h29 pc)
  case aload_n n =>
    have hq : b.toNat = 42 + n.val := Nat.eq_of_beq_eq_true h
    match n, hq with
    | ⟨0, _⟩, hq => exact wz_d0 (k := 42) (h0 pc) ha hq (h42 pc)
    | ⟨1, _⟩, hq => exact wz_d0 (k := 43) (h0 pc) ha hq (h43 pc)
    | ⟨2, _⟩, hq => exact wz_d0 (k := 44) (h0 pc) ha hq (h44 pc)
    | ⟨3, _⟩, hq => exact wz_d0 (k := 45) (h0 pc) ha hq (h45 pc)
  case istore_n n =>
    have hq : b.toNat = 59 + n.val := Nat.eq_of_beq_eq_true h
    match n, hq with
    | ⟨0, _⟩, hq => exact wz_d0 (k := 59) (h0 pc) ha hq (h59 pc)
    | ⟨1, _⟩, hq => exact wz_d0 (k := 60) (h0 pc) ha hq (h60 pc)
    | ⟨2, _⟩, hq => exact wz_d0 (k := 61) (h0 pc) ha hq (h61 pc)
    | ⟨3, _⟩, hq => exact wz_d0 (k := 62) (h0 pc) ha hq (h62 pc)
  case ifCond cc v =>
    cases cc
    case eq => exact wz_ds2 (k := 153) (v := v) (mk := Instr.ifCond .eq) (h0 pc) ha h (h153 pc)
    case ne => exact wz_ds2 (k := 154) (v := v) (mk := Instr.ifCond .ne) (h0 pc) ha h (h154 pc)
    case lt => exact wz_ds2 (k := 155) (v := v) (mk := Instr.ifCond .lt) (h0 pc) ha h (h155 pc)
    case ge => exact wz_ds2 (k := 156) (v := v) (mk := Instr.ifCond .ge) (h0 pc) ha h (h156 pc)
    case gt => exact wz_ds2 (k := 157) (v := v) (mk := Instr.ifCond .gt) (h0 pc) ha h (h157 pc)
    case le => exact wz_ds2 (k := 158) (v := v) (mk := Instr.ifCond .le) (h0 pc) ha h (h158 pc)
  case if_icmp cc v =>
    cases cc
    case eq => exact wz_ds2 (k := 159) (v := v) (mk := Instr.if_icmp .eq) (h0 pc) ha h (h159 pc)
    case ne => exact wz_ds2 (k := 160) (v := v) (mk := Instr.if_icmp .ne) (h0 pc) ha h (h160 pc)
    case lt => exact wz_ds2 (k := 161) (v := v) (mk := Instr.if_icmp .lt) (h0 pc) ha h (h161 pc)
    case ge => exact wz_ds2 (k := 162) (v := v) (mk := Instr.if_icmp .ge) (h0 pc) ha h (h162 pc)
    case gt => exact wz_ds2 (k := 163) (v := v) (mk := Instr.if_icmp .gt) (h0 pc) ha h (h163 pc)
    case le => exact wz_ds2 (k := 164) (v := v) (mk := Instr.if_icmp .le) (h0 pc) ha h (h164 pc)
  case iconst n =>
    obtain ⟨g1, g2⟩ := Bool.and_eq_true_iff.1 (show (Nat.ble 2 b.toNat && (Nat.ble b.toNat 8 && decide (n + 3 = (b.toNat : Int)))) = true from h)
    obtain ⟨g3, g4⟩ := Bool.and_eq_true_iff.1 g2
    have k1 := Nat.le_of_ble_eq_true g1
    have k2 := Nat.le_of_ble_eq_true g3
    have k3 : n + 3 = (b.toNat : Int) := of_decide_eq_true g4
    have k4 : (b.toNat = 2 ∧ n = -1) ∨ (b.toNat = 3 ∧ n = 0) ∨ (b.toNat = 4 ∧ n = 1) ∨ (b.toNat = 5 ∧ n = 2) ∨ (b.toNat = 6 ∧ n = 3) ∨ (b.toNat = 7 ∧ n = 4) ∨ (b.toNat = 8 ∧ n = 5) := by omega
    rcases k4 with ⟨k5, k6⟩ | ⟨k5, k6⟩ | ⟨k5, k6⟩ | ⟨k5, k6⟩ | ⟨k5, k6⟩ | ⟨k5, k6⟩ | ⟨k5, k6⟩ <;> subst k6
    · exact wz_d0 (h0 pc) ha k5 (h2 pc)
    · exact wz_d0 (h0 pc) ha k5 (h3 pc)
    · exact wz_d0 (h0 pc) ha k5 (h4 pc)
    · exact wz_d0 (h0 pc) ha k5 (h5 pc)
    · exact wz_d0 (h0 pc) ha k5 (h6 pc)
    · exact wz_d0 (h0 pc) ha k5 (h7 pc)
    · exact wz_d0 (h0 pc) ha k5 (h8 pc)
  all_goals exact Bool.noConfusion (show false = true from h)
noncomputable def wz_o (m : Nat → Option (Instr × List (Nat × Nat))) (S D : List Nat) (b : UInt8) (r : List UInt8) (p : Nat) : Bool := match m p with
  | none => true
  | some x => (wz_k x.1 b.toNat r || wz_in D p) && (wz_t p x.1 x.2 || wz_in S p)
noncomputable def wz_w (m : Nat → Option (Instr × List (Nat × Nat))) (S D : List Nat) (N : Nat) : List UInt8 → Nat → Bool
  | [], p => Nat.beq p N
  | b :: r, p => wz_o m S D b r p && wz_w m S D N r (Nat.succ p)
theorem wz_w_len {m : Nat → Option (Instr × List (Nat × Nat))} {S D : List Nat} {N : Nat} : ∀ (l : List UInt8) (p : Nat), wz_w m S D N l p = true → p + l.length = N
  | [], p, h => Nat.eq_of_beq_eq_true h
  | b :: r, p, h => by
    have h' : (wz_o m S D b r p && wz_w m S D N r (Nat.succ p)) = true := h
    have := wz_w_len r (Nat.succ p) (Bool.and_eq_true_iff.1 h').2
    rw [List.length_cons]; omega
theorem wz_w_ok {m : Nat → Option (Instr × List (Nat × Nat))} {S D : List Nat} {N : Nat} : ∀ (l : List UInt8) (p : Nat), wz_w m S D N l p = true → ∀ (k : Nat) (b : UInt8) (r : List UInt8), l.drop k = b :: r → ∀ (q : Nat), q = p + k → ∀ x, m q = some x → (wz_k x.1 b.toNat r = true ∨ wz_in D q = true) ∧ (wz_t q x.1 x.2 = true ∨ wz_in S q = true)
  | [], p, _, k, b, r, hd, q, hq, x, hx => by simp at hd
  | c :: l, p, h, k, b, r, hd, q, hq, x, hx => by
    have h' : (wz_o m S D c l p && wz_w m S D N l (Nat.succ p)) = true := h
    obtain ⟨g1, g2⟩ := Bool.and_eq_true_iff.1 h'
    cases k with
    | zero =>
      have e1 : c :: l = b :: r := hd
      have e2 : q = p := hq
      subst e2
      cases e1
      have g3 : ((wz_k x.1 c.toNat l || wz_in D q) && (wz_t q x.1 x.2 || wz_in S q)) = true := by
        unfold wz_o at g1
        rw [hx] at g1
        exact g1
      obtain ⟨a1, a2⟩ := Bool.and_eq_true_iff.1 g3
      exact ⟨Bool.or_eq_true_iff.1 a1, Bool.or_eq_true_iff.1 a2⟩
    | succ k => exact wz_w_ok l (Nat.succ p) g2 k b r hd q (by omega) x hx
def wz_PS (z : Nat) (m : Nat → Option (Instr × List (Nat × Nat))) (p : Nat) : Prop := ∀ x, m p = some x → mm_ok z p x.1 x.2
def wz_PD (z : Nat) (m : Nat → Option (Instr × List (Nat × Nat))) (p : Nat) : Prop := ∀ x, m p = some x → ∃ ln, decode (mm_by z) p = .ok (x.1, ln) ∧ (mm_len x.1 = ln ∨ mm_len x.1 = 0)
def wz_A (P : Nat → Prop) (S : List Nat) : Prop := ∀ p ∈ S, P p
theorem wz_n {P : Nat → Prop} : wz_A P [] := fun _ h => absurd h List.not_mem_nil
theorem wz_c {P : Nat → Prop} {a : Nat} {l : List Nat} (h : P a) (hl : wz_A P l) : wz_A P (a :: l) := List.forall_mem_cons.mpr ⟨h, hl⟩
theorem wz_sp {z : Nat} {m : Nat → Option (Instr × List (Nat × Nat))} {p : Nat} (v : Instr × List (Nat × Nat)) (he : m p = some v) (hf : mm_ok z p v.1 v.2) : wz_PS z m p := by
  intro x hx
  rw [he] at hx
  cases hx
  exact hf
theorem wz_sd {z : Nat} {m : Nat → Option (Instr × List (Nat × Nat))} {p : Nat} (v : Instr × List (Nat × Nat)) (ln : Nat) (he : m p = some v) (hf : decode (mm_by z) p = .ok (v.1, ln)) (hl : mm_len v.1 = ln ∨ mm_len v.1 = 0) : wz_PD z m p := by
  intro x hx
  rw [he] at hx
  cases hx
  exact ⟨ln, hf, hl⟩
theorem wz_rs {pc k N : Nat} {a b : Option (Instr × List (Nat × Nat))} (h : N ≤ pc) (hk : Nat.ble N k = false) (hb : b = none) : cond (Nat.ble pc k) a b = none := by
  cases hc : Nat.ble pc k with
  | false => exact hb
  | true =>
    rw [Nat.ble_eq_true_of_le (Nat.le_trans h (Nat.le_of_ble_eq_true hc))] at hk
    cases hk
theorem wz_re {pc k N : Nat} {v : Instr × List (Nat × Nat)} (h : N ≤ pc) (hk : Nat.ble N k = false) : cond (Nat.beq pc k) (some v) none = none := by
  cases hc : Nat.beq pc k with
  | false => rfl
  | true =>
    rw [Nat.eq_of_beq_eq_true hc] at h
    rw [Nat.ble_eq_true_of_le h] at hk
    cases hk
theorem wz_fin {z N : Nat} {m : Nat → Option (Instr × List (Nat × Nat))} {S D : List Nat} (hm : ∀ pc, N ≤ pc → m pc = none) (hw : wz_w m S D N (mm_by z).data.toList 0 = true) (hD : wz_A (wz_PD z m) D) (hS : wz_A (wz_PS z m) S) (pc : Nat) : ∀ x, m pc = some x → mm_K z pc x := by
  intro x hx
  have hl := wz_w_len _ _ hw
  have hlt : pc < (mm_by z).data.toList.length := by
    rcases Nat.lt_or_ge pc N with h | h
    · omega
    · rw [hm pc h] at hx; cases hx
  obtain ⟨b, r, hdr⟩ := wz_ex _ _ hlt
  obtain ⟨g1, g2⟩ := wz_w_ok _ _ hw pc b r hdr pc (Nat.zero_add pc).symm x hx
  refine ⟨?_, ?_⟩
  · rcases g1 with g | g
    · exact ⟨mm_len x.1, wz_k_ok hdr x.1 g, Or.inl rfl⟩
    · exact hD pc (wz_in_ok g) x hx
  · rcases g2 with g | g
    · exact wz_t_ok g
    · exact hS pc (wz_in_ok g) x hx
