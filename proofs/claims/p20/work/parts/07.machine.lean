/-! ===== a small machine over closed data: values, locals, heap of numbered cells; the walk of a method as a function ===== -/
abbrev mm_C : Type := (Nat × List Value) ⊕ (List Int32 ⊕ List Value)
abbrev mm_H : Type := List mm_C
abbrev mm_L : Type := List (Option Value)
/-- by the recursor itself: the kernel goes faster so -/
noncomputable def mm_n {α : Type} (l : List α) : Nat → Option α := List.rec (motive := fun _ => Nat → Option α) (fun _ => none) (fun a _ ih n => Nat.casesOn (motive := fun _ => Option α) n (some a) (fun k => ih k)) l
noncomputable def mm_s {α : Type} (l : List α) : Nat → α → List α := List.rec (motive := fun _ => Nat → α → List α) (fun _ _ => []) (fun a l ih n v => Nat.casesOn (motive := fun _ => List α) n (v :: l) (fun k => a :: ih k v)) l
theorem mm_n_eq {α : Type} : ∀ (l : List α) (n : Nat), mm_n l n = l[n]?
  | [], n => by
    rw [List.getElem?_nil]
    rfl
  | a :: l, 0 => by
    rw [List.getElem?_cons_zero]
    rfl
  | a :: l, k + 1 => by
    show mm_n l k = _
    rw [mm_n_eq l k, List.getElem?_cons_succ]
theorem mm_s_eq {α : Type} : ∀ (l : List α) (n : Nat) (v : α), mm_s l n v = l.set n v
  | [], n, v => by
    rw [List.set_nil]
    rfl
  | a :: l, 0, v => by
    rw [List.set_cons_zero]
    rfl
  | a :: l, k + 1, v => by
    show a :: mm_s l k v = _
    rw [mm_s_eq l k v, List.set_cons_succ]
/-- the cell at a virtual address: below 100 lies what is only read -/
noncomputable def mm_g (M : mm_H) (a : Nat) : Option mm_C := cond (Nat.ble 100 a) (mm_n M (a - 100)) none
noncomputable def mm_ld (ls : mm_L) (i : Nat) : Option Value := match mm_n ls i with
  | some (some v) => some v
  | _ => none
noncomputable def mm_cl (ls : mm_L) (i : Nat) : mm_L := match i with
  | 0 => ls
  | j + 1 => match mm_n ls j with
    | some (some v) => cond (Nat.beq v.category 2) (mm_s ls j none) ls
    | _ => ls
noncomputable def mm_w1 (ls : mm_L) (i : Nat) (v : Value) : mm_L := mm_s (mm_cl ls i) i (some v)
noncomputable def mm_w2 (ls : mm_L) (i : Nat) (v : Value) : mm_L := mm_s (mm_s (mm_cl ls i) i (some v)) (i + 1) none
def mm_sl (vs : List Value) : mm_L := vs.flatMap fun v => if v.category = 2 then [some v, none] else [some v]
def mm_en (n : Nat) (vs : List Value) : mm_L := mm_sl vs ++ List.replicate (n - (mm_sl vs).length) none
def mm_cat (st : List Value) : Nat := (st.map fun v => v.category).sum
abbrev mm_R1 : Type := Option (Nat × mm_L × List Value)
noncomputable def mm_il (pc : Nat) (ls : mm_L) (st : List Value) (i ln : Nat) : mm_R1 := match mm_ld ls i with
  | some (.int x) => some (pc + ln, ls, .int x :: st)
  | _ => none
noncomputable def mm_ll (pc : Nat) (ls : mm_L) (st : List Value) (i ln : Nat) : mm_R1 := match mm_ld ls i with
  | some (.long x) => some (pc + ln, ls, .long x :: st)
  | _ => none
noncomputable def mm_al (pc : Nat) (ls : mm_L) (st : List Value) (i ln : Nat) : mm_R1 := match mm_ld ls i with
  | some (.ref x) => some (pc + ln, ls, .ref x :: st)
  | _ => none
noncomputable def mm_is (pc : Nat) (ls : mm_L) (st : List Value) (i ln : Nat) : mm_R1 := match st with
  | .int x :: r => cond (Nat.blt i ls.length) (some (pc + ln, mm_w1 ls i (.int x), r)) none
  | _ => none
noncomputable def mm_as (pc : Nat) (ls : mm_L) (st : List Value) (i ln : Nat) : mm_R1 := match st with
  | .ref x :: r => cond (Nat.blt i ls.length) (some (pc + ln, mm_w1 ls i (.ref x), r)) none
  | _ => none
noncomputable def mm_lst (pc : Nat) (ls : mm_L) (st : List Value) (i ln : Nat) : mm_R1 := match st with
  | .long x :: r => cond (Nat.blt (i + 1) ls.length) (some (pc + ln, mm_w2 ls i (.long x), r)) none
  | _ => none
def mm_i2 (pc : Nat) (ls : mm_L) (st : List Value) (f : Int32 → Int32 → Int32) : mm_R1 := match st with
  | .int y :: .int x :: r => some (pc + 1, ls, .int (f x y) :: r)
  | _ => none
def mm_l2 (pc : Nat) (ls : mm_L) (st : List Value) (f : Int64 → Int64 → Int64) : mm_R1 := match st with
  | .long y :: .long x :: r => some (pc + 1, ls, .long (f x y) :: r)
  | _ => none
def mm_tg (pc : Nat) (off : Int) (ls : mm_L) (r : List Value) : mm_R1 := if 0 ≤ (pc : Int) + off then some (((pc : Int) + off).toNat, ls, r) else none
/-- an instruction that touches no heap and doesn't ask -/
noncomputable def mm_1 (i : Instr) (ex : List (Nat × Nat)) (pc : Nat) (ls : mm_L) (st : List Value) : mm_R1 := match i with
  | .iconst n => some (pc + 1, ls, .int (Int32.ofInt n) :: st)
  | .bipush n => some (pc + 2, ls, .int (Int8.ofInt n).toInt32 :: st)
  | .sipush n => some (pc + 3, ls, .int (Int16.ofInt n).toInt32 :: st)
  | .lconst n => some (pc + 1, ls, .long (Int64.ofNat (n : Nat)) :: st)
  | .iload_n k => mm_il pc ls st k 1
  | .iload k => mm_il pc ls st k 2
  | .lload_n k => mm_ll pc ls st k 1
  | .lload k => mm_ll pc ls st k 2
  | .aload_n k => mm_al pc ls st k 1
  | .aload k => mm_al pc ls st k 2
  | .istore_n k => mm_is pc ls st k 1
  | .istore k => mm_is pc ls st k 2
  | .lstore_n k => mm_lst pc ls st k 1
  | .lstore k => mm_lst pc ls st k 2
  | .astore_n k => mm_as pc ls st k 1
  | .astore k => mm_as pc ls st k 2
  | .iinc k n => match mm_ld ls k with
    | some (.int x) => some (pc + 3, mm_w1 ls k (.int (x + Int32.ofInt n)), st)
    | _ => none
  | .iadd => mm_i2 pc ls st (fun x y => x + y)
  | .isub => mm_i2 pc ls st (fun x y => x - y)
  | .imul => mm_i2 pc ls st (fun x y => x * y)
  | .iand => mm_i2 pc ls st (fun x y => x &&& y)
  | .ior => mm_i2 pc ls st (fun x y => x ||| y)
  | .ixor => mm_i2 pc ls st (fun x y => x ^^^ y)
  | .ishl => mm_i2 pc ls st (fun x y => x <<< (y &&& 31))
  | .ishr => mm_i2 pc ls st (fun x y => x >>> (y &&& 31))
  | .iushr => mm_i2 pc ls st (fun x y => (x.toUInt32 >>> (y.toUInt32 &&& Int32.toUInt32 31)).toInt32)
  | .ineg => match st with
    | .int x :: r => some (pc + 1, ls, .int (-x) :: r)
    | _ => none
  | .ladd => mm_l2 pc ls st (fun x y => x + y)
  | .lsub => mm_l2 pc ls st (fun x y => x - y)
  | .lmul => mm_l2 pc ls st (fun x y => x * y)
  | .lcmp => match st with
    | .long y :: .long x :: r => some (pc + 1, ls, .int (lg_cmp x y) :: r)
    | _ => none
  | .i2l => match st with
    | .int x :: r => some (pc + 1, ls, .long x.toInt64 :: r)
    | _ => none
  | .i2c => match st with
    | .int x :: r => some (pc + 1, ls, .int (x.toUInt32 % 65536).toInt32 :: r)
    | _ => none
  | .i2b => match st with
    | .int x :: r => some (pc + 1, ls, .int x.toInt8.toInt32 :: r)
    | _ => none
  | .pop => match st with
    | .int _ :: r => some (pc + 1, ls, r)
    | _ => none
  | .pop2 => match st with
    | .long _ :: r => some (pc + 1, ls, r)
    | _ => none
  | .dup => match st with
    | .int x :: r => some (pc + 1, ls, .int x :: .int x :: r)
    | .ref x :: r => some (pc + 1, ls, .ref x :: .ref x :: r)
    | _ => none
  | .dup2 => match st with
    | .int x :: .ref y :: r => some (pc + 1, ls, .int x :: .ref y :: .int x :: .ref y :: r)
    | _ => none
  | .goto _ => match ex with
    | [(t, _)] => some (t, ls, st)
    | _ => none
  | .tableswitch d lo hi offs => match st with
    | .int x :: r => if x.toInt < lo ∨ hi < x.toInt then mm_tg pc d ls r else match mm_n offs.toList (x.toInt - lo).toNat with
      | some off => mm_tg pc off ls r
      | none => none
    | _ => none
  | .lookupswitch d ps => match st with
    | .int x :: r => mm_tg pc (Op.lookupswitch.offset ps.toList d x.toInt) ls r
    | _ => none
  | .ldc _ => match ex with
    | [(0, v)] => some (pc + 2, ls, .int (Int32.ofNat v) :: st)
    | [(1, k)] => cond (Nat.blt k 6) (some (pc + 2, ls, .ref (1 + k) :: st)) none
    | _ => none
  | .ldc_w _ => match ex with
    | [(0, v)] => some (pc + 3, ls, .int (Int32.ofNat v) :: st)
    | _ => none
  | .ldc2_w _ => match ex with
    | [(0, v)] => some (pc + 3, ls, .long (Int64.ofNat v) :: st)
    | _ => none
  | _ => none
def mm_fit (tk : Nat) (v : Value) : Bool := match v with
  | .int x => Nat.beq tk 0 || (Nat.beq tk 1 && (decide (x = 0) || decide (x = 1)))
  | .ref _ => Nat.beq tk 2
  | _ => false
/-- a text's field, its bytes: what is only read -/
def mm_sf (a k : Nat) : Option Value := cond (Nat.ble 1 a && Nat.ble a 6) (match k with
  | 0 => some (.ref (a + 10))
  | 1 => some (.int 0)
  | _ => none) none
noncomputable def mm_sb (a : Nat) : Option (List Int32) := cond (Nat.ble 11 a && Nat.ble a 16) (mm_n mm_byt (a - 11)) none
abbrev mm_R2 : Type := Option (Nat × mm_L × List Value × mm_H × Nat × Nat)
/-- the int array at an address; address 0: the script -/
noncomputable def mm_ia (X : Option (List Int32)) (M : mm_H) (a : Nat) : Option (List Int32) := cond (Nat.beq a 0) X (match mm_g M a with
  | some (.inr (.inl xs)) => some xs
  | _ => none)
/-- an instruction that reads or writes cells -/
noncomputable def mm_2 (X : Option (List Int32)) (i : Instr) (ex : List (Nat × Nat)) (pc : Nat) (ls : mm_L) (st : List Value) (M : mm_H) (bc bs : Nat) : mm_R2 := match i with
  | .getfield _ => match ex, st with
    | [(ci, k)], .ref a :: r => cond (Nat.beq ci 11) (match mm_sf a k with
        | some v => some (pc + 3, ls, v :: r, M, bc, bs)
        | none => none) (match mm_g M a with
      | some (.inl (c, fs)) => cond (Nat.beq c ci) (match mm_n fs k with
        | some v => some (pc + 3, ls, v :: r, M, bc, bs)
        | none => none) none
      | _ => none)
    | _, _ => none
  | .getstatic _ => match ex with
    | [(0, v)] => some (pc + 3, ls, .int (Int32.ofNat v) :: st, M, bc, bs)
    | [(1, _)] => some (pc + 3, ls, .retAddr 0 :: st, M, bc, bs)
    | _ => none
  | .baload => match st with
    | .int i :: .ref a :: r => match mm_sb a with
      | some xs => if i < 0 then none else match mm_n xs i.toNatClampNeg with
        | some v => some (pc + 1, ls, .int v :: r, M, bc, bs)
        | none => none
      | none => none
    | _ => none
  | .putfield _ => match ex, st with
    | [(ci, k), (tk, _)], v :: .ref a :: r => match mm_g M a with
      | some (.inl (c, fs)) => cond (Nat.beq c ci && (mm_fit tk v && Nat.blt k fs.length)) (some (pc + 3, ls, r, mm_s M (a - 100) (.inl (c, mm_s fs k v)), bc, bs)) none
      | _ => none
    | _, _ => none
  | .iaload => match st with
    | .int i :: .ref a :: r => match mm_ia X M a with
      | some xs => if i < 0 then none else match mm_n xs i.toNatClampNeg with
        | some v => some (pc + 1, ls, .int v :: r, M, bc, bs)
        | none => none
      | none => none
    | _ => none
  | .iastore => match st with
    | .int v :: .int i :: .ref a :: r => match mm_g M a with
      | some (.inr (.inl xs)) => if i < 0 ∨ xs.length ≤ i.toNatClampNeg then none else some (pc + 1, ls, r, mm_s M (a - 100) (.inr (.inl (mm_s xs i.toNatClampNeg v))), bc, bs)
      | _ => none
    | _ => none
  | .aaload => match st with
    | .int i :: .ref a :: r => match mm_g M a with
      | some (.inr (.inr xs)) => if i < 0 then none else match mm_n xs i.toNatClampNeg with
        | some (.ref v) => some (pc + 1, ls, .ref v :: r, M, bc, bs)
        | _ => none
      | _ => none
    | _ => none
  | .aastore => match st with
    | .ref v :: .int i :: .ref a :: r => match mm_g M a with
      | some (.inr (.inr xs)) => match mm_g M v with
        | some (.inl (c, _)) => if i < 0 ∨ xs.length ≤ i.toNatClampNeg then none else cond (Nat.beq c 0 || (Nat.beq c 2 || (Nat.beq c 3 || (Nat.beq c 4 || (Nat.beq c 5 || Nat.beq c 7))))) (some (pc + 1, ls, r, mm_s M (a - 100) (.inr (.inr (mm_s xs i.toNatClampNeg (.ref v)))), bc, bs)) none
        | _ => none
      | _ => none
    | _ => none
  | .arraylength => match st with
    | .ref a :: r => match mm_sb a with
      | some xs => some (pc + 1, ls, .int (Int32.ofNat xs.length) :: r, M, bc, bs)
      | none => match mm_ia X M a with
        | some xs => some (pc + 1, ls, .int (Int32.ofNat xs.length) :: r, M, bc, bs)
        | none => none
    | _ => none
  | .new _ => match ex with
    | [(ci, _)] => cond (Nat.ble 1 bc && Nat.ble (mm_df ci).length bs) (some (pc + 3, ls, .ref (100 + M.length) :: st, M ++ [.inl (ci, mm_df ci)], bc - 1, bs - (mm_df ci).length)) none
    | _ => none
  | .newarray .int => match st with
    | .int n :: r => if n < 0 then none else cond (Nat.ble 1 bc && (Nat.ble n.toNatClampNeg bs && Nat.ble n.toNatClampNeg 100000)) (some (pc + 2, ls, .ref (100 + M.length) :: r, M ++ [.inr (.inl (List.replicate n.toNatClampNeg 0))], bc - 1, bs - n.toNatClampNeg)) none
    | _ => none
  | .anewarray _ => match st with
    | .int n :: r => if n < 0 then none else cond (Nat.ble 1 bc && (Nat.ble n.toNatClampNeg bs && Nat.ble n.toNatClampNeg 100000)) (some (pc + 3, ls, .ref (100 + M.length) :: r, M ++ [.inr (.inr (List.replicate n.toNatClampNeg .null))], bc - 1, bs - n.toNatClampNeg)) none
    | _ => none
  | _ => none
abbrev mm_O : Type := Option (Option Value × mm_H)
abbrev mm_F : Type := Nat → Nat → mm_L → List Value → mm_H → Nat → Nat → mm_O
def mm_rok (z : Nat) (v : Int32) : Bool := match (mm_i z).2.2.1 with
  | 1 => true
  | 4 => decide (v = 0) || decide (v = 1)
  | 5 => decide (v.toInt8.toInt32 = v)
  | 6 => decide (v.toUInt32.toUInt16.toUInt32.toInt32 = v)
  | _ => false
noncomputable def mm_inv (ih : mm_F) (z pc : Nat) (ls : mm_L) (st : List Value) (M : mm_H) (bc bs y : Nat) : mm_O :=
  cond (Nat.ble (mm_i y).2.1 st.length && (Nat.ble (mm_cat (st.drop (mm_i y).2.1)) 8 && (Nat.ble (mm_i y).2.2.2.1 bc && (Nat.ble (mm_i y).2.2.2.2 bs && Nat.ble (mm_sl (st.take (mm_i y).2.1).reverse).length (mm_i y).1))))
    (match ih y 0 (mm_en (mm_i y).1 (st.take (mm_i y).2.1).reverse) [] M (mm_i y).2.2.2.1 (mm_i y).2.2.2.2 with
      | some (r, M1) => ih z (pc + 3) ls (r.toList ++ st.drop (mm_i y).2.1) M1 (bc - (mm_i y).2.2.2.1) (bs - (mm_i y).2.2.2.2)
      | none => none) none
noncomputable def mm_acp (ih : mm_F) (z pc : Nat) (ls : mm_L) (st : List Value) (M : mm_H) (bc bs : Nat) : mm_O := match st with
  | [.int n, .int dp, .ref a, .int sp, .ref b] => match mm_g M a, mm_g M b with
    | some (.inr (.inl ys)), some (.inr (.inl xs)) => if sp = 0 ∧ dp = 0 ∧ ¬ n < 0 ∧ n.toNatClampNeg = xs.length ∧ n.toNatClampNeg = ys.length then ih z (pc + 3) ls [] (mm_s M (a - 100) (.inr (.inl xs))) bc bs else none
    | _, _ => none
  | _ => none
/-- a receiver's class: 11 a text -/
noncomputable def mm_rc (M : mm_H) (a : Nat) : Option Nat := cond (Nat.ble 1 a && Nat.ble a 6) (some 11) (match mm_g M a with
  | some (.inl (c, _)) => cond (Nat.blt c 11) (some c) none
  | _ => none)
def mm_sel (es : List (Nat × Nat)) (c : Nat) : Option Nat := match es with
  | [] => none
  | e :: es => cond (Nat.beq e.1 c) (some e.2) (mm_sel es c)
noncomputable def mm_b (X : Option (List Int32)) (ih : mm_F) (z pc : Nat) (ls : mm_L) (st : List Value) (M : mm_H) (bc bs : Nat) : mm_O := match mm_code z pc with
  | none => none
  | some (i, ex) => match i with
    | .ireturn => match st with
      | [.int v] => cond (mm_rok z v && (Nat.beq bc 0 && Nat.beq bs 0)) (some (some (.int v), M)) none
      | _ => none
    | .lreturn => match st with
      | [.long v] => cond (Nat.beq (mm_i z).2.2.1 2 && (Nat.beq bc 0 && Nat.beq bs 0)) (some (some (.long v), M)) none
      | _ => none
    | .areturn => match st with
      | [.ref v] => cond (Nat.beq (mm_i z).2.2.1 3 && (Nat.beq bc 0 && Nat.beq bs 0)) (some (some (.ref v), M)) none
      | _ => none
    | .return_ => match st with
      | [] => cond (Nat.beq (mm_i z).2.2.1 0 && (Nat.beq bc 0 && Nat.beq bs 0)) (some (none, M)) none
      | _ => none
    | .idiv => match st with
      | .int y :: .int x :: r => if y = 0 then none else ih z (pc + 1) ls (.int (x / y) :: r) M bc bs
      | _ => none
    | .irem => match st with
      | .int y :: .int x :: r => if y = 0 then none else ih z (pc + 1) ls (.int (x - x / y * y) :: r) M bc bs
      | _ => none
    | .ldiv => match st with
      | .long y :: .long x :: r => if y = 0 then none else ih z (pc + 1) ls (.long (x / y) :: r) M bc bs
      | _ => none
    | .lrem => match st with
      | .long y :: .long x :: r => if y = 0 then none else ih z (pc + 1) ls (.long (x - x / y * y) :: r) M bc bs
      | _ => none
    | .if_icmp k _ => match ex, st with
      | [(t, _)], .int y :: .int x :: r => match k with
        | .eq => if x = y then ih z t ls r M bc bs else ih z (pc + 3) ls r M bc bs
        | .ne => if x = y then ih z (pc + 3) ls r M bc bs else ih z t ls r M bc bs
        | .lt => if x < y then ih z t ls r M bc bs else ih z (pc + 3) ls r M bc bs
        | .ge => if y ≤ x then ih z t ls r M bc bs else ih z (pc + 3) ls r M bc bs
        | .gt => if y < x then ih z t ls r M bc bs else ih z (pc + 3) ls r M bc bs
        | .le => if x ≤ y then ih z t ls r M bc bs else ih z (pc + 3) ls r M bc bs
      | _, _ => none
    | .ifCond k _ => match ex, st with
      | [(t, _)], .int x :: r => match k with
        | .eq => if x = 0 then ih z t ls r M bc bs else ih z (pc + 3) ls r M bc bs
        | .ne => if x = 0 then ih z (pc + 3) ls r M bc bs else ih z t ls r M bc bs
        | .lt => if x < 0 then ih z t ls r M bc bs else ih z (pc + 3) ls r M bc bs
        | .ge => if 0 ≤ x then ih z t ls r M bc bs else ih z (pc + 3) ls r M bc bs
        | .gt => if 0 < x then ih z t ls r M bc bs else ih z (pc + 3) ls r M bc bs
        | .le => if x ≤ 0 then ih z t ls r M bc bs else ih z (pc + 3) ls r M bc bs
      | _, _ => none
    | .invokestatic _ => match ex with
      | [(0, y)] => cond (Nat.beq (mm_i y).2.1 (mm_rf y).2.2) (mm_inv ih z pc ls st M bc bs y) none
      | [(1, _)] => mm_acp ih z pc ls st M bc bs
      | [(3, _)] => match st with
        | .int x :: r => cond (Nat.ble (mm_cat r) 8) (ih z (pc + 3) ls (.int (if 0 ≤ x then x else 0 - x) :: r) M bc bs) none
        | _ => none
      | [(4, _)] => match st with
        | .int y :: .int x :: r => cond (Nat.ble (mm_cat r) 8) (ih z (pc + 3) ls (.int (if x < y then y else x) :: r) M bc bs) none
        | _ => none
      | [(5, _)] => match st with
        | .int y :: .int x :: r => cond (Nat.ble (mm_cat r) 8) (ih z (pc + 3) ls (.int (if y < x then y else x) :: r) M bc bs) none
        | _ => none
      | _ => none
    | .invokespecial _ => match ex with
      | [(2, _)] => match st with
        | .ref _ :: r => cond (Nat.ble (mm_cat r) 8) (ih z (pc + 3) ls r M bc bs) none
        | _ => none
      | [(0, y)] => match mm_n st (mm_rf y).2.2 with
        | some (.ref _) => cond (Nat.beq (mm_i y).2.1 ((mm_rf y).2.2 + 1)) (mm_inv ih z pc ls st M bc bs y) none
        | _ => none
      | [(1, y)] => match mm_n st (mm_rf y).2.2 with
        | some (.ref a) => match mm_g M a with
          | some (.inl (c, _)) => cond (Nat.blt c 11 && Nat.beq (mm_i y).2.1 ((mm_rf y).2.2 + 1)) (mm_inv ih z pc ls st M bc bs y) none
          | _ => none
        | _ => none
      | _ => none
    | .invokevirtual _ => match ex with
      | [(ci, y)] => match mm_n st (mm_rf y).2.2 with
        | some (.ref a) => match mm_rc M a with
          | some c => cond (Nat.beq c ci && Nat.beq (mm_i y).2.1 ((mm_rf y).2.2 + 1)) (mm_inv ih z pc ls st M bc bs y) none
          | none => none
        | _ => none
      | e0 :: es => match mm_n st (mm_rf e0.2).2.2 with
        | some (.ref a) => match mm_rc M a with
          | some c => match mm_sel (e0 :: es) c with
            | some y => cond (Nat.beq (mm_i y).2.1 ((mm_rf y).2.2 + 1)) (mm_inv ih z pc ls st M bc bs y) none
            | none => none
          | none => none
        | _ => none
      | [] => none
    | .getfield _ | .putfield _ | .getstatic _ | .baload | .iaload | .iastore | .aaload | .aastore | .arraylength | .new _ | .newarray _ | .anewarray _ => match mm_2 X i ex pc ls st M bc bs with
      | some (pc1, ls1, st1, M1, bc1, bs1) => ih z pc1 ls1 st1 M1 bc1 bs1
      | none => none
    | _ => match mm_1 i ex pc ls st with
      | some (pc1, ls1, st1) => ih z pc1 ls1 st1 M bc bs
      | none => none
/-- n steps at most -/
noncomputable def mm_x (X : Option (List Int32)) (n : Nat) : mm_F := Nat.rec (motive := fun _ => mm_F) (fun _ _ _ _ _ _ _ => none) (fun _ ih => mm_b X ih) n
theorem mm_x0 (X : Option (List Int32)) (z pc : Nat) (ls : mm_L) (st : List Value) (M : mm_H) (bc bs : Nat) : mm_x X 0 z pc ls st M bc bs = none := rfl
theorem mm_xs (X : Option (List Int32)) (n z pc : Nat) (ls : mm_L) (st : List Value) (M : mm_H) (bc bs : Nat) : mm_x X (n + 1) z pc ls st M bc bs = mm_b X (mm_x X n) z pc ls st M bc bs := rfl
