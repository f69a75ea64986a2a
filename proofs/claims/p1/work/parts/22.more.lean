theorem mm_c_lsw {X : Option (List Int32)} {n z pc bc bs t : Nat} {d : Int} {ps : Array (Int × Int)} {ex : List (Nat × Nat)} {ls : mm_L} {r : List Value} {M : mm_H} {x : Int32} {R : mm_O} (hc : mm_code z pc = some (.lookupswitch d ps, ex)) (ho : Op.lookupswitch.offset ps.toList d x.toInt = d) (ht : (pc : Int) + d = (t : Int)) (h : mm_x X n z t ls r M bc bs = R) : mm_x X (n + 1) z pc ls (.int x :: r) M bc bs = R := by
  rw [mm_xs]
  unfold mm_b
  rw [hc]
  show (match mm_tg pc (Op.lookupswitch.offset ps.toList d x.toInt) ls r with
    | some (pc1, ls1, st1) => mm_x X n z pc1 ls1 st1 M bc bs
    | none => none) = R
  rw [ho]
  unfold mm_tg
  rw [ht, if_pos (Int.natCast_nonneg t), Int.toNat_natCast]
  exact h
