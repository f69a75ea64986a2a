-- ===== PART A: goes FIRST, ahead of the names: the tables' words, and 'selects' of the private methods out of them =====
/-- a private method of a class that the tables say can be made, by its rows of tables_1 -/
def lw_okq (q : MethodName × Nat) : Prop := (q.1.cls ≠ "java/lang/invoke/MethodHandle" ∧ q.1.cls ≠ "java/lang/invoke/VarHandle") ∧ Cond.instantiable q.1.cls q.2 ∈ tables_1 ∧ Cond.privateMethod q.1 ∈ tables_1 ∧ Cond.instanceMethod q.1 ∈ tables_1
theorem lt_in1 : ∀ w ∈ tables_1_1, w ∈ tables_1 := fun _ h => List.mem_append_left _ h
theorem lt_in2 : ∀ w ∈ tables_1_2, w ∈ tables_1 := fun _ h => List.mem_append_right _ (List.mem_append_left _ h)
theorem lt_in3 : ∀ w ∈ tables_1_3, w ∈ tables_1 := fun _ h => List.mem_append_right _ (List.mem_append_right _ (List.mem_append_left _ h))
theorem lt_in4 : ∀ w ∈ tables_1_4, w ∈ tables_1 := fun _ h => List.mem_append_right _ (List.mem_append_right _ (List.mem_append_right _ (List.mem_append_left _ h)))
theorem lt_in5 : ∀ w ∈ tables_1_5, w ∈ tables_1 := fun _ h => List.mem_append_right _ (List.mem_append_right _ (List.mem_append_right _ (List.mem_append_right _ (h))))
theorem lw_p0 : lw_okq (⟨"SovereignInBarrow", "refuse", "(I)I"⟩, 12) := ⟨⟨by decide +kernel, by decide +kernel⟩, lt_in1 _ (List.mem_of_getElem? (i := 21) rfl), lt_in1 _ (List.mem_of_getElem? (i := 212) rfl), lt_in1 _ (List.mem_of_getElem? (i := 213) rfl)⟩
theorem lw_p1 : lw_okq (⟨"SovereignInBarrow$Telling", "firstMisfit", "()I"⟩, 4) := ⟨⟨by decide +kernel, by decide +kernel⟩, lt_in1 _ (List.mem_of_getElem? (i := 29) rfl), lt_in1 _ (List.mem_of_getElem? (i := 228) rfl), lt_in1 _ (List.mem_of_getElem? (i := 229) rfl)⟩
theorem lw_p2 : lw_okq (⟨"SovereignInBarrow$Telling", "misfitFrom", "(I)I"⟩, 4) := ⟨⟨by decide +kernel, by decide +kernel⟩, lt_in1 _ (List.mem_of_getElem? (i := 29) rfl), lt_in1 _ (List.mem_of_getElem? (i := 232) rfl), lt_in1 _ (List.mem_of_getElem? (i := 233) rfl)⟩
theorem lw_p3 : lw_okq (⟨"SovereignInBarrow$Telling", "firstWrongStatement", "(LSovereignInBarrow$Kingdom;)I"⟩, 4) := ⟨⟨by decide +kernel, by decide +kernel⟩, lt_in1 _ (List.mem_of_getElem? (i := 29) rfl), lt_in2 _ (List.mem_of_getElem? (i := 119) rfl), lt_in2 _ (List.mem_of_getElem? (i := 120) rfl)⟩
theorem lw_p4 : lw_okq (⟨"SovereignInBarrow$Telling", "isWrong", "(III)Z"⟩, 4) := ⟨⟨by decide +kernel, by decide +kernel⟩, lt_in1 _ (List.mem_of_getElem? (i := 29) rfl), lt_in2 _ (List.mem_of_getElem? (i := 123) rfl), lt_in2 _ (List.mem_of_getElem? (i := 124) rfl)⟩
theorem lw_p5 : lw_okq (⟨"SovereignInBarrow$Telling", "twoDigits", "(I)I"⟩, 4) := ⟨⟨by decide +kernel, by decide +kernel⟩, lt_in1 _ (List.mem_of_getElem? (i := 29) rfl), lt_in2 _ (List.mem_of_getElem? (i := 127) rfl), lt_in2 _ (List.mem_of_getElem? (i := 128) rfl)⟩
theorem lw_p6 : lw_okq (⟨"SovereignInBarrow$Telling", "digit", "(I)I"⟩, 4) := ⟨⟨by decide +kernel, by decide +kernel⟩, lt_in1 _ (List.mem_of_getElem? (i := 29) rfl), lt_in2 _ (List.mem_of_getElem? (i := 131) rfl), lt_in2 _ (List.mem_of_getElem? (i := 132) rfl)⟩
theorem lw_p7 : lw_okq (⟨"SovereignInBarrow$Telling", "tellStatement", "(ILSovereignInBarrow$Kingdom;)V"⟩, 4) := ⟨⟨by decide +kernel, by decide +kernel⟩, lt_in1 _ (List.mem_of_getElem? (i := 29) rfl), lt_in2 _ (List.mem_of_getElem? (i := 142) rfl), lt_in2 _ (List.mem_of_getElem? (i := 143) rfl)⟩
theorem lw_p8 : lw_okq (⟨"SovereignInBarrow$Telling", "kindAt", "(I)I"⟩, 4) := ⟨⟨by decide +kernel, by decide +kernel⟩, lt_in1 _ (List.mem_of_getElem? (i := 29) rfl), lt_in2 _ (List.mem_of_getElem? (i := 146) rfl), lt_in2 _ (List.mem_of_getElem? (i := 147) rfl)⟩
theorem lw_p9 : lw_okq (⟨"SovereignInBarrow", "isMinister", "(I)Z"⟩, 12) := ⟨⟨by decide +kernel, by decide +kernel⟩, lt_in1 _ (List.mem_of_getElem? (i := 21) rfl), lt_in2 _ (List.mem_of_getElem? (i := 238) rfl), lt_in2 _ (List.mem_of_getElem? (i := 239) rfl)⟩
theorem lw_p10 : lw_okq (⟨"SovereignInBarrow", "asNow", "()LSovereignInBarrow$Kingdom;"⟩, 12) := ⟨⟨by decide +kernel, by decide +kernel⟩, lt_in1 _ (List.mem_of_getElem? (i := 21) rfl), lt_in3 _ (List.mem_of_getElem? (i := 62) rfl), lt_in3 _ (List.mem_of_getElem? (i := 63) rfl)⟩
theorem lw_p11 : lw_okq (⟨"SovereignInBarrow", "shortenClimbs", "(I)Z"⟩, 12) := ⟨⟨by decide +kernel, by decide +kernel⟩, lt_in1 _ (List.mem_of_getElem? (i := 21) rfl), lt_in3 _ (List.mem_of_getElem? (i := 116) rfl), lt_in3 _ (List.mem_of_getElem? (i := 117) rfl)⟩
theorem lw_p12 : lw_okq (⟨"SovereignInBarrow", "weighPair", "(IIII)V"⟩, 12) := ⟨⟨by decide +kernel, by decide +kernel⟩, lt_in1 _ (List.mem_of_getElem? (i := 21) rfl), lt_in3 _ (List.mem_of_getElem? (i := 198) rfl), lt_in3 _ (List.mem_of_getElem? (i := 199) rfl)⟩
theorem lw_p13 : lw_okq (⟨"SovereignInBarrow", "refuseLong", "(I)J"⟩, 12) := ⟨⟨by decide +kernel, by decide +kernel⟩, lt_in1 _ (List.mem_of_getElem? (i := 21) rfl), lt_in3 _ (List.mem_of_getElem? (i := 206) rfl), lt_in3 _ (List.mem_of_getElem? (i := 207) rfl)⟩
theorem lw_p14 : lw_okq (⟨"SovereignInBarrow", "whereWithPlanks", "(II)I"⟩, 12) := ⟨⟨by decide +kernel, by decide +kernel⟩, lt_in1 _ (List.mem_of_getElem? (i := 21) rfl), lt_in3 _ (List.mem_of_getElem? (i := 211) rfl), lt_in3 _ (List.mem_of_getElem? (i := 212) rfl)⟩
theorem lw_p15 : lw_okq (⟨"SovereignInBarrow", "ministersWhoFit", "()I"⟩, 12) := ⟨⟨by decide +kernel, by decide +kernel⟩, lt_in1 _ (List.mem_of_getElem? (i := 21) rfl), lt_in3 _ (List.mem_of_getElem? (i := 239) rfl), lt_in4 _ (List.mem_of_getElem? (i := 0) rfl)⟩
def lw_privs_1 : List (MethodName × Nat) := [(⟨"SovereignInBarrow", "refuse", "(I)I"⟩, 12), (⟨"SovereignInBarrow$Telling", "firstMisfit", "()I"⟩, 4), (⟨"SovereignInBarrow$Telling", "misfitFrom", "(I)I"⟩, 4), (⟨"SovereignInBarrow$Telling", "firstWrongStatement", "(LSovereignInBarrow$Kingdom;)I"⟩, 4), (⟨"SovereignInBarrow$Telling", "isWrong", "(III)Z"⟩, 4), (⟨"SovereignInBarrow$Telling", "twoDigits", "(I)I"⟩, 4), (⟨"SovereignInBarrow$Telling", "digit", "(I)I"⟩, 4), (⟨"SovereignInBarrow$Telling", "tellStatement", "(ILSovereignInBarrow$Kingdom;)V"⟩, 4), (⟨"SovereignInBarrow$Telling", "kindAt", "(I)I"⟩, 4), (⟨"SovereignInBarrow", "isMinister", "(I)Z"⟩, 12), (⟨"SovereignInBarrow", "asNow", "()LSovereignInBarrow$Kingdom;"⟩, 12), (⟨"SovereignInBarrow", "shortenClimbs", "(I)Z"⟩, 12), (⟨"SovereignInBarrow", "weighPair", "(IIII)V"⟩, 12), (⟨"SovereignInBarrow", "refuseLong", "(I)J"⟩, 12), (⟨"SovereignInBarrow", "whereWithPlanks", "(II)I"⟩, 12), (⟨"SovereignInBarrow", "ministersWhoFit", "()I"⟩, 12)]
theorem lw_r1 : ∀ q ∈ lw_privs_1, lw_okq q := List.forall_mem_cons.mpr ⟨lw_p0, List.forall_mem_cons.mpr ⟨lw_p1, List.forall_mem_cons.mpr ⟨lw_p2, List.forall_mem_cons.mpr ⟨lw_p3, List.forall_mem_cons.mpr ⟨lw_p4, List.forall_mem_cons.mpr ⟨lw_p5, List.forall_mem_cons.mpr ⟨lw_p6, List.forall_mem_cons.mpr ⟨lw_p7, List.forall_mem_cons.mpr ⟨lw_p8, List.forall_mem_cons.mpr ⟨lw_p9, List.forall_mem_cons.mpr ⟨lw_p10, List.forall_mem_cons.mpr ⟨lw_p11, List.forall_mem_cons.mpr ⟨lw_p12, List.forall_mem_cons.mpr ⟨lw_p13, List.forall_mem_cons.mpr ⟨lw_p14, List.forall_mem_cons.mpr ⟨lw_p15, fun _ h => absurd h List.not_mem_nil⟩⟩⟩⟩⟩⟩⟩⟩⟩⟩⟩⟩⟩⟩⟩⟩
theorem lw_p16 : lw_okq (⟨"SovereignInBarrow", "goesByNumbers", "(LSovereignInBarrow$Kingdom;)Z"⟩, 12) := ⟨⟨by decide +kernel, by decide +kernel⟩, lt_in1 _ (List.mem_of_getElem? (i := 21) rfl), lt_in4 _ (List.mem_of_getElem? (i := 3) rfl), lt_in4 _ (List.mem_of_getElem? (i := 4) rfl)⟩
theorem lw_p17 : lw_okq (⟨"SovereignInBarrow", "kindsThatFit", "()I"⟩, 12) := ⟨⟨by decide +kernel, by decide +kernel⟩, lt_in1 _ (List.mem_of_getElem? (i := 21) rfl), lt_in4 _ (List.mem_of_getElem? (i := 7) rfl), lt_in4 _ (List.mem_of_getElem? (i := 8) rfl)⟩
theorem lw_p18 : lw_okq (⟨"SovereignInBarrowModel", "no", "(I)I"⟩, 14) := ⟨⟨by decide +kernel, by decide +kernel⟩, lt_in4 _ (List.mem_of_getElem? (i := 48) rfl), lt_in4 _ (List.mem_of_getElem? (i := 101) rfl), lt_in4 _ (List.mem_of_getElem? (i := 102) rfl)⟩
theorem lw_p19 : lw_okq (⟨"SovereignInBarrowModel", "readsStatement", "()Z"⟩, 14) := ⟨⟨by decide +kernel, by decide +kernel⟩, lt_in4 _ (List.mem_of_getElem? (i := 48) rfl), lt_in4 _ (List.mem_of_getElem? (i := 109) rfl), lt_in4 _ (List.mem_of_getElem? (i := 110) rfl)⟩
theorem lw_p20 : lw_okq (⟨"SovereignInBarrowModel", "here", "()I"⟩, 14) := ⟨⟨by decide +kernel, by decide +kernel⟩, lt_in4 _ (List.mem_of_getElem? (i := 48) rfl), lt_in4 _ (List.mem_of_getElem? (i := 113) rfl), lt_in4 _ (List.mem_of_getElem? (i := 114) rfl)⟩
theorem lw_p21 : lw_okq (⟨"SovereignInBarrowModel", "readsNumber", "(II)Z"⟩, 14) := ⟨⟨by decide +kernel, by decide +kernel⟩, lt_in4 _ (List.mem_of_getElem? (i := 48) rfl), lt_in4 _ (List.mem_of_getElem? (i := 117) rfl), lt_in4 _ (List.mem_of_getElem? (i := 118) rfl)⟩
theorem lw_p22 : lw_okq (⟨"SovereignInBarrowModel", "readsKind", "()Z"⟩, 14) := ⟨⟨by decide +kernel, by decide +kernel⟩, lt_in4 _ (List.mem_of_getElem? (i := 48) rfl), lt_in4 _ (List.mem_of_getElem? (i := 124) rfl), lt_in4 _ (List.mem_of_getElem? (i := 125) rfl)⟩
theorem lw_p23 : lw_okq (⟨"SovereignInBarrowModel", "isDone", "(I)Z"⟩, 14) := ⟨⟨by decide +kernel, by decide +kernel⟩, lt_in4 _ (List.mem_of_getElem? (i := 48) rfl), lt_in4 _ (List.mem_of_getElem? (i := 134) rfl), lt_in4 _ (List.mem_of_getElem? (i := 135) rfl)⟩
theorem lw_p24 : lw_okq (⟨"SovereignInBarrowModel", "isMinister", "(I)Z"⟩, 14) := ⟨⟨by decide +kernel, by decide +kernel⟩, lt_in4 _ (List.mem_of_getElem? (i := 48) rfl), lt_in4 _ (List.mem_of_getElem? (i := 144) rfl), lt_in4 _ (List.mem_of_getElem? (i := 145) rfl)⟩
theorem lw_p25 : lw_okq (⟨"SovereignInBarrowModel", "sets", "(II)I"⟩, 14) := ⟨⟨by decide +kernel, by decide +kernel⟩, lt_in4 _ (List.mem_of_getElem? (i := 48) rfl), lt_in4 _ (List.mem_of_getElem? (i := 203) rfl), lt_in4 _ (List.mem_of_getElem? (i := 204) rfl)⟩
theorem lw_p26 : lw_okq (⟨"SovereignInBarrowModel", "takes", "(I)V"⟩, 14) := ⟨⟨by decide +kernel, by decide +kernel⟩, lt_in4 _ (List.mem_of_getElem? (i := 48) rfl), lt_in4 _ (List.mem_of_getElem? (i := 239) rfl), lt_in5 _ (List.mem_of_getElem? (i := 0) rfl)⟩
theorem lw_p27 : lw_okq (⟨"SovereignInBarrowModel", "comesTo", "(I)I"⟩, 14) := ⟨⟨by decide +kernel, by decide +kernel⟩, lt_in4 _ (List.mem_of_getElem? (i := 48) rfl), lt_in5 _ (List.mem_of_getElem? (i := 14) rfl), lt_in5 _ (List.mem_of_getElem? (i := 15) rfl)⟩
theorem lw_p28 : lw_okq (⟨"SovereignInBarrowModel", "firstDown", "()I"⟩, 14) := ⟨⟨by decide +kernel, by decide +kernel⟩, lt_in4 _ (List.mem_of_getElem? (i := 48) rfl), lt_in5 _ (List.mem_of_getElem? (i := 22) rfl), lt_in5 _ (List.mem_of_getElem? (i := 23) rfl)⟩
theorem lw_p29 : lw_okq (⟨"SovereignInBarrowModel", "downOf", "(I)I"⟩, 14) := ⟨⟨by decide +kernel, by decide +kernel⟩, lt_in4 _ (List.mem_of_getElem? (i := 48) rfl), lt_in5 _ (List.mem_of_getElem? (i := 27) rfl), lt_in5 _ (List.mem_of_getElem? (i := 28) rfl)⟩
theorem lw_p30 : lw_okq (⟨"SovereignInBarrowModel", "thereNow", "()I"⟩, 14) := ⟨⟨by decide +kernel, by decide +kernel⟩, lt_in4 _ (List.mem_of_getElem? (i := 48) rfl), lt_in5 _ (List.mem_of_getElem? (i := 43) rfl), lt_in5 _ (List.mem_of_getElem? (i := 44) rfl)⟩
theorem lw_p31 : lw_okq (⟨"SovereignInBarrowModel", "there", "()I"⟩, 14) := ⟨⟨by decide +kernel, by decide +kernel⟩, lt_in4 _ (List.mem_of_getElem? (i := 48) rfl), lt_in5 _ (List.mem_of_getElem? (i := 47) rfl), lt_in5 _ (List.mem_of_getElem? (i := 48) rfl)⟩
def lw_privs_2 : List (MethodName × Nat) := [(⟨"SovereignInBarrow", "goesByNumbers", "(LSovereignInBarrow$Kingdom;)Z"⟩, 12), (⟨"SovereignInBarrow", "kindsThatFit", "()I"⟩, 12), (⟨"SovereignInBarrowModel", "no", "(I)I"⟩, 14), (⟨"SovereignInBarrowModel", "readsStatement", "()Z"⟩, 14), (⟨"SovereignInBarrowModel", "here", "()I"⟩, 14), (⟨"SovereignInBarrowModel", "readsNumber", "(II)Z"⟩, 14), (⟨"SovereignInBarrowModel", "readsKind", "()Z"⟩, 14), (⟨"SovereignInBarrowModel", "isDone", "(I)Z"⟩, 14), (⟨"SovereignInBarrowModel", "isMinister", "(I)Z"⟩, 14), (⟨"SovereignInBarrowModel", "sets", "(II)I"⟩, 14), (⟨"SovereignInBarrowModel", "takes", "(I)V"⟩, 14), (⟨"SovereignInBarrowModel", "comesTo", "(I)I"⟩, 14), (⟨"SovereignInBarrowModel", "firstDown", "()I"⟩, 14), (⟨"SovereignInBarrowModel", "downOf", "(I)I"⟩, 14), (⟨"SovereignInBarrowModel", "thereNow", "()I"⟩, 14), (⟨"SovereignInBarrowModel", "there", "()I"⟩, 14)]
theorem lw_r2 : ∀ q ∈ lw_privs_2, lw_okq q := List.forall_mem_cons.mpr ⟨lw_p16, List.forall_mem_cons.mpr ⟨lw_p17, List.forall_mem_cons.mpr ⟨lw_p18, List.forall_mem_cons.mpr ⟨lw_p19, List.forall_mem_cons.mpr ⟨lw_p20, List.forall_mem_cons.mpr ⟨lw_p21, List.forall_mem_cons.mpr ⟨lw_p22, List.forall_mem_cons.mpr ⟨lw_p23, List.forall_mem_cons.mpr ⟨lw_p24, List.forall_mem_cons.mpr ⟨lw_p25, List.forall_mem_cons.mpr ⟨lw_p26, List.forall_mem_cons.mpr ⟨lw_p27, List.forall_mem_cons.mpr ⟨lw_p28, List.forall_mem_cons.mpr ⟨lw_p29, List.forall_mem_cons.mpr ⟨lw_p30, List.forall_mem_cons.mpr ⟨lw_p31, fun _ h => absurd h List.not_mem_nil⟩⟩⟩⟩⟩⟩⟩⟩⟩⟩⟩⟩⟩⟩⟩⟩
theorem lw_p32 : lw_okq (⟨"SovereignInBarrowModel", "easyCells", "()I"⟩, 14) := ⟨⟨by decide +kernel, by decide +kernel⟩, lt_in4 _ (List.mem_of_getElem? (i := 48) rfl), lt_in5 _ (List.mem_of_getElem? (i := 94) rfl), lt_in5 _ (List.mem_of_getElem? (i := 95) rfl)⟩
theorem lw_p33 : lw_okq (⟨"SovereignInBarrowModel", "costBy", "(IIIIII)I"⟩, 14) := ⟨⟨by decide +kernel, by decide +kernel⟩, lt_in4 _ (List.mem_of_getElem? (i := 48) rfl), lt_in5 _ (List.mem_of_getElem? (i := 102) rfl), lt_in5 _ (List.mem_of_getElem? (i := 103) rfl)⟩
theorem lw_p34 : lw_okq (⟨"SovereignInBarrowModel", "noWide", "(I)J"⟩, 14) := ⟨⟨by decide +kernel, by decide +kernel⟩, lt_in4 _ (List.mem_of_getElem? (i := 48) rfl), lt_in5 _ (List.mem_of_getElem? (i := 110) rfl), lt_in5 _ (List.mem_of_getElem? (i := 111) rfl)⟩
theorem lw_p35 : lw_okq (⟨"SovereignInBarrowModel", "isPushedSo", "()Z"⟩, 14) := ⟨⟨by decide +kernel, by decide +kernel⟩, lt_in4 _ (List.mem_of_getElem? (i := 48) rfl), lt_in5 _ (List.mem_of_getElem? (i := 130) rfl), lt_in5 _ (List.mem_of_getElem? (i := 131) rfl)⟩
theorem lw_p36 : lw_okq (⟨"SovereignInBarrowModel", "drawn", "(I)I"⟩, 14) := ⟨⟨by decide +kernel, by decide +kernel⟩, lt_in4 _ (List.mem_of_getElem? (i := 48) rfl), lt_in5 _ (List.mem_of_getElem? (i := 150) rfl), lt_in5 _ (List.mem_of_getElem? (i := 151) rfl)⟩
def lw_privs_3 : List (MethodName × Nat) := [(⟨"SovereignInBarrowModel", "easyCells", "()I"⟩, 14), (⟨"SovereignInBarrowModel", "costBy", "(IIIIII)I"⟩, 14), (⟨"SovereignInBarrowModel", "noWide", "(I)J"⟩, 14), (⟨"SovereignInBarrowModel", "isPushedSo", "()Z"⟩, 14), (⟨"SovereignInBarrowModel", "drawn", "(I)I"⟩, 14)]
theorem lw_r3 : ∀ q ∈ lw_privs_3, lw_okq q := List.forall_mem_cons.mpr ⟨lw_p32, List.forall_mem_cons.mpr ⟨lw_p33, List.forall_mem_cons.mpr ⟨lw_p34, List.forall_mem_cons.mpr ⟨lw_p35, List.forall_mem_cons.mpr ⟨lw_p36, fun _ h => absurd h List.not_mem_nil⟩⟩⟩⟩⟩
def lw_privs : List (MethodName × Nat) := lw_privs_1 ++ (lw_privs_2 ++ (lw_privs_3))
def lw_tbl : List Cond := k2_sels lw_privs ++ tables_1
theorem lw_privs_ok : ∀ q ∈ lw_privs, lw_okq q := by
  show ∀ q ∈ lw_privs_1 ++ (lw_privs_2 ++ (lw_privs_3)), lw_okq q
  exact List.forall_mem_append.mpr ⟨lw_r1, List.forall_mem_append.mpr ⟨lw_r2, lw_r3⟩⟩

def RX0 : String := "SovereignInBarrow$Deaf"
def TX0 : u_T := fun k => match k with
  | _ => ("", "", "", false)
def tyX0 : Nat → FieldType := fun k => match k with
  | _ => .int
abbrev wsX00 : List Cond := u_ws RX0 TX0 0
theorem nmX0 : ∀ a, a < 0 → ∀ b, b < 0 → a ≠ b → (TX0 a).2.1 ≠ (TX0 b).2.1 := by decide +kernel
theorem tyX0_ok : ∀ k, k < 0 → parseFieldDescriptor (TX0 k).2.2.1 = some (tyX0 k) := by decide +kernel
abbrev cX0_init : ByteArray := prog_2_method_1_code
def yX0_init : MethodName := ⟨RX0, "<init>", "()V"⟩
abbrev cX0_wayFrom : ByteArray := prog_2_method_2_code
def yX0_wayFrom : MethodName := ⟨RX0, "wayFrom", "(IIII)I"⟩
abbrev cX0_strength : ByteArray := prog_2_method_3_code
def yX0_strength : MethodName := ⟨RX0, "strength", "(I)I"⟩
def RX1 : String := "SovereignInBarrow$Kingdom"
def TX1 : u_T := fun k => match k with
  | 0 => ("SovereignInBarrow$Kingdom", "rules", "[LSovereignInBarrow$Minister;", true)
  | 1 => ("SovereignInBarrow$Kingdom", "heights", "[I", true)
  | 2 => ("SovereignInBarrow$Kingdom", "kerb", "[I", true)
  | 3 => ("SovereignInBarrow$Kingdom", "kinds", "[I", true)
  | 4 => ("SovereignInBarrow$Kingdom", "figures", "[I", true)
  | 5 => ("SovereignInBarrow$Kingdom", "falls", "[I", true)
  | 6 => ("SovereignInBarrow$Kingdom", "order", "[I", true)
  | 7 => ("SovereignInBarrow$Kingdom", "ministers", "I", false)
  | 8 => ("SovereignInBarrow$Kingdom", "at", "I", false)
  | 9 => ("SovereignInBarrow$Kingdom", "goal", "I", false)
  | 10 => ("SovereignInBarrow$Kingdom", "lastWay", "I", false)
  | 11 => ("SovereignInBarrow$Kingdom", "weight", "I", false)
  | _ => ("SovereignInBarrow$Kingdom", "step", "I", false)
def tyX1 : Nat → FieldType := fun k => match k with
  | 0 => .array (.object "SovereignInBarrow$Minister")
  | 1 => .array .int
  | 2 => .array .int
  | 3 => .array .int
  | 4 => .array .int
  | 5 => .array .int
  | 6 => .array .int
  | 7 => .int
  | 8 => .int
  | 9 => .int
  | 10 => .int
  | 11 => .int
  | _ => .int
abbrev wsX10 : List Cond := u_ws RX1 TX1 13
theorem nmX1 : ∀ a, a < 13 → ∀ b, b < 13 → a ≠ b → (TX1 a).2.1 ≠ (TX1 b).2.1 := by decide +kernel
theorem tyX1_ok : ∀ k, k < 13 → parseFieldDescriptor (TX1 k).2.2.1 = some (tyX1 k) := by decide +kernel
abbrev cX1_init : ByteArray := prog_3_method_1_code
def yX1_init : MethodName := ⟨RX1, "<init>", "([LSovereignInBarrow$Minister;)V"⟩
abbrev cX1_become : ByteArray := prog_3_method_2_code
def yX1_become : MethodName := ⟨RX1, "become", "(LSovereignInBarrow$Kingdom;)V"⟩
abbrev cX1_addMinister : ByteArray := prog_3_method_3_code
def yX1_addMinister : MethodName := ⟨RX1, "addMinister", "(II)V"⟩
abbrev cX1_strengthOf : ByteArray := prog_3_method_4_code
def yX1_strengthOf : MethodName := ⟨RX1, "strengthOf", "(I)I"⟩
abbrev cX1_firstInRow : ByteArray := prog_3_method_5_code
def yX1_firstInRow : MethodName := ⟨RX1, "firstInRow", "()I"⟩
abbrev cX1_placeOf : ByteArray := prog_3_method_6_code
def yX1_placeOf : MethodName := ⟨RX1, "placeOf", "(I)I"⟩
abbrev cX1_putLast : ByteArray := prog_3_method_7_code
def yX1_putLast : MethodName := ⟨RX1, "putLast", "(I)V"⟩
abbrev cX1_putFirst : ByteArray := prog_3_method_8_code
def yX1_putFirst : MethodName := ⟨RX1, "putFirst", "(I)V"⟩
abbrev cX1_allFalls : ByteArray := prog_3_method_9_code
def yX1_allFalls : MethodName := ⟨RX1, "allFalls", "()I"⟩
abbrev cX1_sign : ByteArray := prog_3_method_10_code
def yX1_sign : MethodName := ⟨RX1, "sign", "()I"⟩
abbrev cX1_nextWay : ByteArray := prog_3_method_11_code
def yX1_nextWay : MethodName := ⟨RX1, "nextWay", "()I"⟩
abbrev cX1_loadInto : ByteArray := prog_3_method_12_code
def yX1_loadInto : MethodName := ⟨RX1, "loadInto", "(I)I"⟩
abbrev cX1_advance : ByteArray := prog_3_method_13_code
def yX1_advance : MethodName := ⟨RX1, "advance", "(I)V"⟩
abbrev cX1_advanceBy : ByteArray := prog_3_method_14_code
def yX1_advanceBy : MethodName := ⟨RX1, "advanceBy", "(I)V"⟩
abbrev cX1_whenAt : ByteArray := prog_3_method_15_code
def yX1_whenAt : MethodName := ⟨RX1, "whenAt", "(I)I"⟩
abbrev cX1_whenThere : ByteArray := prog_3_method_16_code
def yX1_whenThere : MethodName := ⟨RX1, "whenThere", "()I"⟩
abbrev cX1_whenFalls : ByteArray := prog_3_method_17_code
def yX1_whenFalls : MethodName := ⟨RX1, "whenFalls", "(I)I"⟩
abbrev cX1_distance : ByteArray := prog_3_method_18_code
def yX1_distance : MethodName := ⟨RX1, "distance", "()I"⟩
abbrev cX1_tallest : ByteArray := prog_3_method_19_code
def yX1_tallest : MethodName := ⟨RX1, "tallest", "()I"⟩
abbrev cX1_kerbsIn : ByteArray := prog_3_method_20_code
def yX1_kerbsIn : MethodName := ⟨RX1, "kerbsIn", "(II)I"⟩
abbrev cX1_easyCells : ByteArray := prog_3_method_21_code
def yX1_easyCells : MethodName := ⟨RX1, "easyCells", "()I"⟩
abbrev cX1_sureMinisters : ByteArray := prog_3_method_22_code
def yX1_sureMinisters : MethodName := ⟨RX1, "sureMinisters", "()I"⟩
abbrev cX1_clumsiest : ByteArray := prog_3_method_23_code
def yX1_clumsiest : MethodName := ⟨RX1, "clumsiest", "()I"⟩
def RX2 : String := "SovereignInBarrow$LeftOne"
def TX2 : u_T := fun k => match k with
  | _ => ("", "", "", false)
def tyX2 : Nat → FieldType := fun k => match k with
  | _ => .int
abbrev wsX20 : List Cond := u_ws RX2 TX2 0
theorem nmX2 : ∀ a, a < 0 → ∀ b, b < 0 → a ≠ b → (TX2 a).2.1 ≠ (TX2 b).2.1 := by decide +kernel
theorem tyX2_ok : ∀ k, k < 0 → parseFieldDescriptor (TX2 k).2.2.1 = some (tyX2 k) := by decide +kernel
abbrev cX2_init : ByteArray := prog_4_method_1_code
def yX2_init : MethodName := ⟨RX2, "<init>", "()V"⟩
abbrev cX2_wayFrom : ByteArray := prog_4_method_2_code
def yX2_wayFrom : MethodName := ⟨RX2, "wayFrom", "(IIII)I"⟩
abbrev cX2_strength : ByteArray := prog_4_method_3_code
def yX2_strength : MethodName := ⟨RX2, "strength", "(I)I"⟩
def RX3 : String := "SovereignInBarrow$Minister"
def TX3 : u_T := fun k => match k with
  | _ => ("", "", "", false)
def tyX3 : Nat → FieldType := fun k => match k with
  | _ => .int
abbrev wsX30 : List Cond := u_ws RX3 TX3 0
theorem nmX3 : ∀ a, a < 0 → ∀ b, b < 0 → a ≠ b → (TX3 a).2.1 ≠ (TX3 b).2.1 := by decide +kernel
theorem tyX3_ok : ∀ k, k < 0 → parseFieldDescriptor (TX3 k).2.2.1 = some (tyX3 k) := by decide +kernel
abbrev cX3_init : ByteArray := prog_5_method_1_code
def yX3_init : MethodName := ⟨RX3, "<init>", "()V"⟩
abbrev cX3_wayFrom : ByteArray := prog_5_method_2_code
def yX3_wayFrom : MethodName := ⟨RX3, "wayFrom", "(IIII)I"⟩
abbrev cX3_strength : ByteArray := prog_5_method_3_code
def yX3_strength : MethodName := ⟨RX3, "strength", "(I)I"⟩
def RX4 : String := "SovereignInBarrow$Opposite"
def TX4 : u_T := fun k => match k with
  | _ => ("", "", "", false)
def tyX4 : Nat → FieldType := fun k => match k with
  | _ => .int
abbrev wsX40 : List Cond := u_ws RX4 TX4 0
theorem nmX4 : ∀ a, a < 0 → ∀ b, b < 0 → a ≠ b → (TX4 a).2.1 ≠ (TX4 b).2.1 := by decide +kernel
theorem tyX4_ok : ∀ k, k < 0 → parseFieldDescriptor (TX4 k).2.2.1 = some (tyX4 k) := by decide +kernel
abbrev cX4_init : ByteArray := prog_6_method_1_code
def yX4_init : MethodName := ⟨RX4, "<init>", "()V"⟩
abbrev cX4_wayFrom : ByteArray := prog_6_method_2_code
def yX4_wayFrom : MethodName := ⟨RX4, "wayFrom", "(IIII)I"⟩
def RX5 : String := "SovereignInBarrow$Runner"
def TX5 : u_T := fun k => match k with
  | _ => ("", "", "", false)
def tyX5 : Nat → FieldType := fun k => match k with
  | _ => .int
abbrev wsX50 : List Cond := u_ws RX5 TX5 0
theorem nmX5 : ∀ a, a < 0 → ∀ b, b < 0 → a ≠ b → (TX5 a).2.1 ≠ (TX5 b).2.1 := by decide +kernel
theorem tyX5_ok : ∀ k, k < 0 → parseFieldDescriptor (TX5 k).2.2.1 = some (tyX5 k) := by decide +kernel
abbrev cX5_init : ByteArray := prog_7_method_1_code
def yX5_init : MethodName := ⟨RX5, "<init>", "()V"⟩
abbrev cX5_wayFrom : ByteArray := prog_7_method_2_code
def yX5_wayFrom : MethodName := ⟨RX5, "wayFrom", "(IIII)I"⟩
abbrev cX5_strength : ByteArray := prog_7_method_3_code
def yX5_strength : MethodName := ⟨RX5, "strength", "(I)I"⟩
def RX6 : String := "SovereignInBarrow$Soonest"
def TX6 : u_T := fun k => match k with
  | 0 => ("SovereignInBarrow$Soonest", "which", "I", false)
  | _ => ("SovereignInBarrow$Soonest", "when", "I", false)
def tyX6 : Nat → FieldType := fun k => match k with
  | 0 => .int
  | _ => .int
abbrev wsX60 : List Cond := u_ws RX6 TX6 2
theorem nmX6 : ∀ a, a < 2 → ∀ b, b < 2 → a ≠ b → (TX6 a).2.1 ≠ (TX6 b).2.1 := by decide +kernel
theorem tyX6_ok : ∀ k, k < 2 → parseFieldDescriptor (TX6 k).2.2.1 = some (tyX6 k) := by decide +kernel
abbrev cX6_init : ByteArray := prog_8_method_1_code
def yX6_init : MethodName := ⟨RX6, "<init>", "()V"⟩
abbrev cX6_below : ByteArray := prog_8_method_2_code
def yX6_below : MethodName := ⟨RX6, "below", "(I)V"⟩
abbrev cX6_offer : ByteArray := prog_8_method_3_code
def yX6_offer : MethodName := ⟨RX6, "offer", "(II)V"⟩
abbrev cX6_whenOrNone : ByteArray := prog_8_method_4_code
def yX6_whenOrNone : MethodName := ⟨RX6, "whenOrNone", "()I"⟩
def RX7 : String := "SovereignInBarrow$Speaker"
def TX7 : u_T := fun k => match k with
  | _ => ("", "", "", false)
def tyX7 : Nat → FieldType := fun k => match k with
  | _ => .int
abbrev wsX70 : List Cond := u_ws RX7 TX7 0
theorem nmX7 : ∀ a, a < 0 → ∀ b, b < 0 → a ≠ b → (TX7 a).2.1 ≠ (TX7 b).2.1 := by decide +kernel
theorem tyX7_ok : ∀ k, k < 0 → parseFieldDescriptor (TX7 k).2.2.1 = some (tyX7 k) := by decide +kernel
abbrev cX7_init : ByteArray := prog_9_method_1_code
def yX7_init : MethodName := ⟨RX7, "<init>", "()V"⟩
abbrev cX7_wayFrom : ByteArray := prog_9_method_2_code
def yX7_wayFrom : MethodName := ⟨RX7, "wayFrom", "(IIII)I"⟩
def RX8 : String := "SovereignInBarrow$Telling"
def TX8 : u_T := fun k => match k with
  | 0 => ("SovereignInBarrow$Telling", "letters", "[I", true)
  | 1 => ("SovereignInBarrow$Telling", "size", "I", false)
  | 2 => ("SovereignInBarrow$Telling", "starts", "[I", true)
  | _ => ("SovereignInBarrow$Telling", "statements", "I", false)
def tyX8 : Nat → FieldType := fun k => match k with
  | 0 => .array .int
  | 1 => .int
  | 2 => .array .int
  | _ => .int
abbrev wsX80 : List Cond := u_ws RX8 TX8 4
theorem nmX8 : ∀ a, a < 4 → ∀ b, b < 4 → a ≠ b → (TX8 a).2.1 ≠ (TX8 b).2.1 := by decide +kernel
theorem tyX8_ok : ∀ k, k < 4 → parseFieldDescriptor (TX8 k).2.2.1 = some (tyX8 k) := by decide +kernel
abbrev cX8_init : ByteArray := prog_10_method_1_code
def yX8_init : MethodName := ⟨RX8, "<init>", "()V"⟩
abbrev cX8_hear : ByteArray := prog_10_method_2_code
def yX8_hear : MethodName := ⟨RX8, "hear", "(I)V"⟩
abbrev cX8_faultIn : ByteArray := prog_10_method_3_code
def yX8_faultIn : MethodName := ⟨RX8, "faultIn", "(LSovereignInBarrow$Kingdom;)I"⟩
abbrev cX8_tellTo : ByteArray := prog_10_method_4_code
def yX8_tellTo : MethodName := ⟨RX8, "tellTo", "(LSovereignInBarrow$Kingdom;)I"⟩
abbrev cX8_shapeOf : ByteArray := prog_10_method_5_code
def yX8_shapeOf : MethodName := ⟨RX8, "shapeOf", "(I)Ljava/lang/String;"⟩
abbrev cX8_fits : ByteArray := prog_10_method_6_code
def yX8_fits : MethodName := ⟨RX8, "fits", "(IC)Z"⟩
abbrev cX8_firstMisfit : ByteArray := prog_10_method_7_code
def yX8_firstMisfit : MethodName := ⟨RX8, "firstMisfit", "()I"⟩
abbrev cX8_misfitFrom : ByteArray := prog_10_method_8_code
def yX8_misfitFrom : MethodName := ⟨RX8, "misfitFrom", "(I)I"⟩
abbrev cX8_firstWrongStatement : ByteArray := prog_10_method_9_code
def yX8_firstWrongStatement : MethodName := ⟨RX8, "firstWrongStatement", "(LSovereignInBarrow$Kingdom;)I"⟩
abbrev cX8_isWrong : ByteArray := prog_10_method_10_code
def yX8_isWrong : MethodName := ⟨RX8, "isWrong", "(III)Z"⟩
abbrev cX8_tellStatement : ByteArray := prog_10_method_11_code
def yX8_tellStatement : MethodName := ⟨RX8, "tellStatement", "(ILSovereignInBarrow$Kingdom;)V"⟩
abbrev cX8_kindAt : ByteArray := prog_10_method_12_code
def yX8_kindAt : MethodName := ⟨RX8, "kindAt", "(I)I"⟩
abbrev cX8_digit : ByteArray := prog_10_method_13_code
def yX8_digit : MethodName := ⟨RX8, "digit", "(I)I"⟩
abbrev cX8_twoDigits : ByteArray := prog_10_method_14_code
def yX8_twoDigits : MethodName := ⟨RX8, "twoDigits", "(I)I"⟩
def RX9 : String := "SovereignInBarrow"
def TX9 : u_T := fun k => match k with
  | 0 => ("SovereignInBarrow", "now", "LSovereignInBarrow$Kingdom;", true)
  | 1 => ("SovereignInBarrow", "mind", "LSovereignInBarrow$Kingdom;", true)
  | 2 => ("SovereignInBarrow", "kept", "LSovereignInBarrow$Kingdom;", true)
  | 3 => ("SovereignInBarrow", "imageTaken", "Z", false)
  | 4 => ("SovereignInBarrow", "told", "LSovereignInBarrow$Telling;", true)
  | 5 => ("SovereignInBarrow", "numbers", "[I", true)
  | 6 => ("SovereignInBarrow", "numbersTold", "I", false)
  | 7 => ("SovereignInBarrow", "refusals", "[I", true)
  | 8 => ("SovereignInBarrow", "soonest", "LSovereignInBarrow$Soonest;", true)
  | 9 => ("SovereignInBarrow", "climbs", "[I", true)
  | 10 => ("SovereignInBarrow", "lesserHarm", "[I", true)
  | _ => ("SovereignInBarrow", "greaterHarm", "[I", true)
def tyX9 : Nat → FieldType := fun k => match k with
  | 0 => .object "SovereignInBarrow$Kingdom"
  | 1 => .object "SovereignInBarrow$Kingdom"
  | 2 => .object "SovereignInBarrow$Kingdom"
  | 3 => .boolean
  | 4 => .object "SovereignInBarrow$Telling"
  | 5 => .array .int
  | 6 => .int
  | 7 => .array .int
  | 8 => .object "SovereignInBarrow$Soonest"
  | 9 => .array .int
  | 10 => .array .int
  | _ => .array .int
abbrev wsX90 : List Cond := u_ws RX9 TX9 12
theorem nmX9 : ∀ a, a < 12 → ∀ b, b < 12 → a ≠ b → (TX9 a).2.1 ≠ (TX9 b).2.1 := by decide +kernel
theorem tyX9_ok : ∀ k, k < 12 → parseFieldDescriptor (TX9 k).2.2.1 = some (tyX9 k) := by decide +kernel
abbrev cX9_init : ByteArray := prog_1_method_1_code
def yX9_init : MethodName := ⟨RX9, "<init>", "()V"⟩
abbrev cX9_letter : ByteArray := prog_1_method_2_code
def yX9_letter : MethodName := ⟨RX9, "letter", "(I)I"⟩
abbrev cX9_kingdom : ByteArray := prog_1_method_3_code
def yX9_kingdom : MethodName := ⟨RX9, "kingdom", "()I"⟩
abbrev cX9_minister : ByteArray := prog_1_method_4_code
def yX9_minister : MethodName := ⟨RX9, "minister", "(II)I"⟩
abbrev cX9_cell : ByteArray := prog_1_method_5_code
def yX9_cell : MethodName := ⟨RX9, "cell", "(II)I"⟩
abbrev cX9_pushing : ByteArray := prog_1_method_6_code
def yX9_pushing : MethodName := ⟨RX9, "pushing", "(I)I"⟩
abbrev cX9_heaps : ByteArray := prog_1_method_7_code
def yX9_heaps : MethodName := ⟨RX9, "heaps", "(II)I"⟩
abbrev cX9_kerbs : ByteArray := prog_1_method_8_code
def yX9_kerbs : MethodName := ⟨RX9, "kerbs", "(I)I"⟩
abbrev cX9_stands : ByteArray := prog_1_method_9_code
def yX9_stands : MethodName := ⟨RX9, "stands", "(I)I"⟩
abbrev cX9_goal : ByteArray := prog_1_method_10_code
def yX9_goal : MethodName := ⟨RX9, "goal", "(I)I"⟩
abbrev cX9_weighs : ByteArray := prog_1_method_11_code
def yX9_weighs : MethodName := ⟨RX9, "weighs", "(I)I"⟩
abbrev cX9_steps : ByteArray := prog_1_method_12_code
def yX9_steps : MethodName := ⟨RX9, "steps", "(I)I"⟩
abbrev cX9_turn : ByteArray := prog_1_method_13_code
def yX9_turn : MethodName := ⟨RX9, "turn", "(III)I"⟩
abbrev cX9_goes : ByteArray := prog_1_method_14_code
def yX9_goes : MethodName := ⟨RX9, "goes", "(I)I"⟩
abbrev cX9_then : ByteArray := prog_1_method_15_code
def yX9_then : MethodName := ⟨RX9, "then", "(II)I"⟩
abbrev cX9_fallsThen : ByteArray := prog_1_method_16_code
def yX9_fallsThen : MethodName := ⟨RX9, "fallsThen", "(II)I"⟩
abbrev cX9_comes : ByteArray := prog_1_method_17_code
def yX9_comes : MethodName := ⟨RX9, "comes", "(I)I"⟩
abbrev cX9_down : ByteArray := prog_1_method_18_code
def yX9_down : MethodName := ⟨RX9, "down", "(I)I"⟩
abbrev cX9_stuck : ByteArray := prog_1_method_19_code
def yX9_stuck : MethodName := ⟨RX9, "stuck", "()I"⟩
abbrev cX9_climb : ByteArray := prog_1_method_20_code
def yX9_climb : MethodName := ⟨RX9, "climb", "(II)I"⟩
abbrev cX9_push : ByteArray := prog_1_method_21_code
def yX9_push : MethodName := ⟨RX9, "push", "()I"⟩
abbrev cX9_take : ByteArray := prog_1_method_22_code
def yX9_take : MethodName := ⟨RX9, "take", "()I"⟩
abbrev cX9_flat : ByteArray := prog_1_method_23_code
def yX9_flat : MethodName := ⟨RX9, "flat", "()I"⟩
abbrev cX9_mostWeight : ByteArray := prog_1_method_24_code
def yX9_mostWeight : MethodName := ⟨RX9, "mostWeight", "()I"⟩
abbrev cX9_start : ByteArray := prog_1_method_25_code
def yX9_start : MethodName := ⟨RX9, "start", "(I)I"⟩
abbrev cX9_bestKind : ByteArray := prog_1_method_26_code
def yX9_bestKind : MethodName := ⟨RX9, "bestKind", "(II)I"⟩
abbrev cX9_far : ByteArray := prog_1_method_27_code
def yX9_far : MethodName := ⟨RX9, "far", "(I)I"⟩
abbrev cX9_easy : ByteArray := prog_1_method_28_code
def yX9_easy : MethodName := ⟨RX9, "easy", "(I)I"⟩
abbrev cX9_two : ByteArray := prog_1_method_29_code
def yX9_two : MethodName := ⟨RX9, "two", "(III)I"⟩
abbrev cX9_plank : ByteArray := prog_1_method_30_code
def yX9_plank : MethodName := ⟨RX9, "plank", "(IIII)J"⟩
abbrev cX9_mean : ByteArray := prog_1_method_31_code
def yX9_mean : MethodName := ⟨RX9, "mean", "(I)J"⟩
abbrev cX9_whoPushed : ByteArray := prog_1_method_32_code
def yX9_whoPushed : MethodName := ⟨RX9, "whoPushed", "(I)I"⟩
abbrev cX9_row : ByteArray := prog_1_method_33_code
def yX9_row : MethodName := ⟨RX9, "row", "(I)I"⟩
abbrev cX9_judge : ByteArray := prog_1_method_34_code
def yX9_judge : MethodName := ⟨RX9, "judge", "()I"⟩
abbrev cX9_clear : ByteArray := prog_1_method_35_code
def yX9_clear : MethodName := ⟨RX9, "clear", "()I"⟩
abbrev cX9_lots : ByteArray := prog_1_method_36_code
def yX9_lots : MethodName := ⟨RX9, "lots", "(III)I"⟩
abbrev cX9_image : ByteArray := prog_1_method_37_code
def yX9_image : MethodName := ⟨RX9, "image", "()I"⟩
abbrev cX9_on : ByteArray := prog_1_method_38_code
def yX9_on : MethodName := ⟨RX9, "on", "()I"⟩
abbrev cX9_count : ByteArray := prog_1_method_39_code
def yX9_count : MethodName := ⟨RX9, "count", "(I)I"⟩
abbrev cX9_refuse : ByteArray := prog_1_method_40_code
def yX9_refuse : MethodName := ⟨RX9, "refuse", "(I)I"⟩
abbrev cX9_refuseLong : ByteArray := prog_1_method_41_code
def yX9_refuseLong : MethodName := ⟨RX9, "refuseLong", "(I)J"⟩
abbrev cX9_isMinister : ByteArray := prog_1_method_42_code
def yX9_isMinister : MethodName := ⟨RX9, "isMinister", "(I)Z"⟩
abbrev cX9_isCell : ByteArray := prog_1_method_43_code
def yX9_isCell : MethodName := ⟨RX9, "isCell", "(I)Z"⟩
abbrev cX9_cellBeyond : ByteArray := prog_1_method_44_code
def yX9_cellBeyond : MethodName := ⟨RX9, "cellBeyond", "(II)I"⟩
abbrev cX9_asNow : ByteArray := prog_1_method_45_code
def yX9_asNow : MethodName := ⟨RX9, "asNow", "()LSovereignInBarrow$Kingdom;"⟩
abbrev cX9_shortenClimbs : ByteArray := prog_1_method_46_code
def yX9_shortenClimbs : MethodName := ⟨RX9, "shortenClimbs", "(I)Z"⟩
abbrev cX9_weighPair : ByteArray := prog_1_method_47_code
def yX9_weighPair : MethodName := ⟨RX9, "weighPair", "(IIII)V"⟩
abbrev cX9_whereWithPlanks : ByteArray := prog_1_method_48_code
def yX9_whereWithPlanks : MethodName := ⟨RX9, "whereWithPlanks", "(II)I"⟩
abbrev cX9_ministersWhoFit : ByteArray := prog_1_method_49_code
def yX9_ministersWhoFit : MethodName := ⟨RX9, "ministersWhoFit", "()I"⟩
abbrev cX9_kindsThatFit : ByteArray := prog_1_method_50_code
def yX9_kindsThatFit : MethodName := ⟨RX9, "kindsThatFit", "()I"⟩
abbrev cX9_goesByNumbers : ByteArray := prog_1_method_51_code
def yX9_goesByNumbers : MethodName := ⟨RX9, "goesByNumbers", "(LSovereignInBarrow$Kingdom;)Z"⟩
abbrev cX9_nextSeed : ByteArray := prog_1_method_52_code
def yX9_nextSeed : MethodName := ⟨RX9, "nextSeed", "(I)I"⟩
abbrev cX9_draw : ByteArray := prog_1_method_53_code
def yX9_draw : MethodName := ⟨RX9, "draw", "(II)I"⟩
abbrev cX9_power : ByteArray := prog_1_method_54_code
def yX9_power : MethodName := ⟨RX9, "power", "(JI)J"⟩
abbrev cX9_partOfFraction : ByteArray := prog_1_method_55_code
def yX9_partOfFraction : MethodName := ⟨RX9, "partOfFraction", "(JJI)J"⟩
abbrev cX9_greatestDivisor : ByteArray := prog_1_method_56_code
def yX9_greatestDivisor : MethodName := ⟨RX9, "greatestDivisor", "(JJ)J"⟩
def RX10 : String := "SovereignInBarrowModel"
def TX10 : u_T := fun k => match k with
  | 0 => ("SovereignInBarrowModel", "s", "[I", true)
  | 1 => ("SovereignInBarrowModel", "m", "[I", true)
  | 2 => ("SovereignInBarrowModel", "image", "[I", true)
  | 3 => ("SovereignInBarrowModel", "was", "[I", true)
  | 4 => ("SovereignInBarrowModel", "hasImage", "Z", false)
  | 5 => ("SovereignInBarrowModel", "letters", "[I", true)
  | 6 => ("SovereignInBarrowModel", "row", "[I", true)
  | 7 => ("SovereignInBarrowModel", "refused", "[I", true)
  | 8 => ("SovereignInBarrowModel", "letterMany", "I", false)
  | 9 => ("SovereignInBarrowModel", "rowMany", "I", false)
  | 10 => ("SovereignInBarrowModel", "place", "I", false)
  | 11 => ("SovereignInBarrowModel", "numbers", "[I", true)
  | 12 => ("SovereignInBarrowModel", "cost", "[I", true)
  | _ => ("SovereignInBarrowModel", "seed", "I", false)
def tyX10 : Nat → FieldType := fun k => match k with
  | 0 => .array .int
  | 1 => .array .int
  | 2 => .array .int
  | 3 => .array .int
  | 4 => .boolean
  | 5 => .array .int
  | 6 => .array .int
  | 7 => .array .int
  | 8 => .int
  | 9 => .int
  | 10 => .int
  | 11 => .array .int
  | 12 => .array .int
  | _ => .int
abbrev wsX100 : List Cond := u_ws RX10 TX10 14
theorem nmX10 : ∀ a, a < 14 → ∀ b, b < 14 → a ≠ b → (TX10 a).2.1 ≠ (TX10 b).2.1 := by decide +kernel
theorem tyX10_ok : ∀ k, k < 14 → parseFieldDescriptor (TX10 k).2.2.1 = some (tyX10 k) := by decide +kernel
abbrev cX10_init : ByteArray := prog_12_method_1_code
def yX10_init : MethodName := ⟨RX10, "<init>", "()V"⟩
abbrev cX10_isIn : ByteArray := prog_12_method_2_code
def yX10_isIn : MethodName := ⟨RX10, "isIn", "(III)Z"⟩
abbrev cX10_least : ByteArray := prog_12_method_3_code
def yX10_least : MethodName := ⟨RX10, "least", "(II)I"⟩
abbrev cX10_apart : ByteArray := prog_12_method_4_code
def yX10_apart : MethodName := ⟨RX10, "apart", "(II)I"⟩
abbrev cX10_copies : ByteArray := prog_12_method_5_code
def yX10_copies : MethodName := ⟨RX10, "copies", "([I[I)V"⟩
abbrev cX10_no : ByteArray := prog_12_method_6_code
def yX10_no : MethodName := ⟨RX10, "no", "(I)I"⟩
abbrev cX10_noWide : ByteArray := prog_12_method_7_code
def yX10_noWide : MethodName := ⟨RX10, "noWide", "(I)J"⟩
abbrev cX10_of : ByteArray := prog_12_method_8_code
def yX10_of : MethodName := ⟨RX10, "of", "(II)I"⟩
abbrev cX10_isMinister : ByteArray := prog_12_method_9_code
def yX10_isMinister : MethodName := ⟨RX10, "isMinister", "(I)Z"⟩
abbrev cX10_isCell : ByteArray := prog_12_method_10_code
def yX10_isCell : MethodName := ⟨RX10, "isCell", "(I)Z"⟩
abbrev cX10_has : ByteArray := prog_12_method_11_code
def yX10_has : MethodName := ⟨RX10, "has", "(II)Z"⟩
abbrev cX10_bits : ByteArray := prog_12_method_12_code
def yX10_bits : MethodName := ⟨RX10, "bits", "(I)I"⟩
abbrev cX10_cellThere : ByteArray := prog_12_method_13_code
def yX10_cellThere : MethodName := ⟨RX10, "cellThere", "(II)I"⟩
abbrev cX10_signIn : ByteArray := prog_12_method_14_code
def yX10_signIn : MethodName := ⟨RX10, "signIn", "([I)I"⟩
abbrev cX10_holdsBy : ByteArray := prog_12_method_15_code
def yX10_holdsBy : MethodName := ⟨RX10, "holdsBy", "(II)I"⟩
abbrev cX10_holds : ByteArray := prog_12_method_16_code
def yX10_holds : MethodName := ⟨RX10, "holds", "([II)I"⟩
abbrev cX10_wayOf : ByteArray := prog_12_method_17_code
def yX10_wayOf : MethodName := ⟨RX10, "wayOf", "([III)I"⟩
abbrev cX10_loadTo : ByteArray := prog_12_method_18_code
def yX10_loadTo : MethodName := ⟨RX10, "loadTo", "([II)I"⟩
abbrev cX10_placeOf : ByteArray := prog_12_method_19_code
def yX10_placeOf : MethodName := ⟨RX10, "placeOf", "([II)I"⟩
abbrev cX10_stepsBack : ByteArray := prog_12_method_20_code
def yX10_stepsBack : MethodName := ⟨RX10, "stepsBack", "([II)V"⟩
abbrev cX10_comesFirst : ByteArray := prog_12_method_21_code
def yX10_comesFirst : MethodName := ⟨RX10, "comesFirst", "([II)V"⟩
abbrev cX10_step : ByteArray := prog_12_method_22_code
def yX10_step : MethodName := ⟨RX10, "step", "([II)V"⟩
abbrev cX10_stepsOn : ByteArray := prog_12_method_23_code
def yX10_stepsOn : MethodName := ⟨RX10, "stepsOn", "([II)V"⟩
abbrev cX10_allFalls : ByteArray := prog_12_method_24_code
def yX10_allFalls : MethodName := ⟨RX10, "allFalls", "([I)I"⟩
abbrev cX10_letter : ByteArray := prog_12_method_25_code
def yX10_letter : MethodName := ⟨RX10, "letter", "(I)I"⟩
abbrev cX10_here : ByteArray := prog_12_method_26_code
def yX10_here : MethodName := ⟨RX10, "here", "()I"⟩
abbrev cX10_readsNumber : ByteArray := prog_12_method_27_code
def yX10_readsNumber : MethodName := ⟨RX10, "readsNumber", "(II)Z"⟩
abbrev cX10_kindBy : ByteArray := prog_12_method_28_code
def yX10_kindBy : MethodName := ⟨RX10, "kindBy", "(I)I"⟩
abbrev cX10_readsKind : ByteArray := prog_12_method_29_code
def yX10_readsKind : MethodName := ⟨RX10, "readsKind", "()Z"⟩
abbrev cX10_readsStatement : ByteArray := prog_12_method_30_code
def yX10_readsStatement : MethodName := ⟨RX10, "readsStatement", "()Z"⟩
abbrev cX10_isDone : ByteArray := prog_12_method_31_code
def yX10_isDone : MethodName := ⟨RX10, "isDone", "(I)Z"⟩
abbrev cX10_kingdom : ByteArray := prog_12_method_32_code
def yX10_kingdom : MethodName := ⟨RX10, "kingdom", "()I"⟩
abbrev cX10_minister : ByteArray := prog_12_method_33_code
def yX10_minister : MethodName := ⟨RX10, "minister", "(II)I"⟩
abbrev cX10_cell : ByteArray := prog_12_method_34_code
def yX10_cell : MethodName := ⟨RX10, "cell", "(II)I"⟩
abbrev cX10_pushing : ByteArray := prog_12_method_35_code
def yX10_pushing : MethodName := ⟨RX10, "pushing", "(I)I"⟩
abbrev cX10_wrongBy : ByteArray := prog_12_method_36_code
def yX10_wrongBy : MethodName := ⟨RX10, "wrongBy", "(III)I"⟩
abbrev cX10_sets : ByteArray := prog_12_method_37_code
def yX10_sets : MethodName := ⟨RX10, "sets", "(II)I"⟩
abbrev cX10_heaps : ByteArray := prog_12_method_38_code
def yX10_heaps : MethodName := ⟨RX10, "heaps", "(II)I"⟩
abbrev cX10_kerbs : ByteArray := prog_12_method_39_code
def yX10_kerbs : MethodName := ⟨RX10, "kerbs", "(I)I"⟩
abbrev cX10_stands : ByteArray := prog_12_method_40_code
def yX10_stands : MethodName := ⟨RX10, "stands", "(I)I"⟩
abbrev cX10_goal : ByteArray := prog_12_method_41_code
def yX10_goal : MethodName := ⟨RX10, "goal", "(I)I"⟩
abbrev cX10_weighs : ByteArray := prog_12_method_42_code
def yX10_weighs : MethodName := ⟨RX10, "weighs", "(I)I"⟩
abbrev cX10_steps : ByteArray := prog_12_method_43_code
def yX10_steps : MethodName := ⟨RX10, "steps", "(I)I"⟩
abbrev cX10_turn : ByteArray := prog_12_method_44_code
def yX10_turn : MethodName := ⟨RX10, "turn", "(III)I"⟩
abbrev cX10_goes : ByteArray := prog_12_method_45_code
def yX10_goes : MethodName := ⟨RX10, "goes", "(I)I"⟩
abbrev cX10_takes : ByteArray := prog_12_method_46_code
def yX10_takes : MethodName := ⟨RX10, "takes", "(I)V"⟩
abbrev cX10_then : ByteArray := prog_12_method_47_code
def yX10_then : MethodName := ⟨RX10, "then", "(II)I"⟩
abbrev cX10_fallsThen : ByteArray := prog_12_method_48_code
def yX10_fallsThen : MethodName := ⟨RX10, "fallsThen", "(II)I"⟩
abbrev cX10_comesTo : ByteArray := prog_12_method_49_code
def yX10_comesTo : MethodName := ⟨RX10, "comesTo", "(I)I"⟩
abbrev cX10_comes : ByteArray := prog_12_method_50_code
def yX10_comes : MethodName := ⟨RX10, "comes", "(I)I"⟩
abbrev cX10_downOf : ByteArray := prog_12_method_51_code
def yX10_downOf : MethodName := ⟨RX10, "downOf", "(I)I"⟩
abbrev cX10_firstDown : ByteArray := prog_12_method_52_code
def yX10_firstDown : MethodName := ⟨RX10, "firstDown", "()I"⟩
abbrev cX10_down : ByteArray := prog_12_method_53_code
def yX10_down : MethodName := ⟨RX10, "down", "(I)I"⟩
abbrev cX10_stuck : ByteArray := prog_12_method_54_code
def yX10_stuck : MethodName := ⟨RX10, "stuck", "()I"⟩
abbrev cX10_climb : ByteArray := prog_12_method_55_code
def yX10_climb : MethodName := ⟨RX10, "climb", "(II)I"⟩
abbrev cX10_orNever : ByteArray := prog_12_method_56_code
def yX10_orNever : MethodName := ⟨RX10, "orNever", "(I)I"⟩
abbrev cX10_there : ByteArray := prog_12_method_57_code
def yX10_there : MethodName := ⟨RX10, "there", "()I"⟩
abbrev cX10_thereNow : ByteArray := prog_12_method_58_code
def yX10_thereNow : MethodName := ⟨RX10, "thereNow", "()I"⟩
abbrev cX10_push : ByteArray := prog_12_method_59_code
def yX10_push : MethodName := ⟨RX10, "push", "()I"⟩
abbrev cX10_take : ByteArray := prog_12_method_60_code
def yX10_take : MethodName := ⟨RX10, "take", "()I"⟩
abbrev cX10_flat : ByteArray := prog_12_method_61_code
def yX10_flat : MethodName := ⟨RX10, "flat", "()I"⟩
abbrev cX10_mostWeight : ByteArray := prog_12_method_62_code
def yX10_mostWeight : MethodName := ⟨RX10, "mostWeight", "()I"⟩
abbrev cX10_start : ByteArray := prog_12_method_63_code
def yX10_start : MethodName := ⟨RX10, "start", "(I)I"⟩
abbrev cX10_bestKind : ByteArray := prog_12_method_64_code
def yX10_bestKind : MethodName := ⟨RX10, "bestKind", "(II)I"⟩
abbrev cX10_isBetween : ByteArray := prog_12_method_65_code
def yX10_isBetween : MethodName := ⟨RX10, "isBetween", "(III)Z"⟩
abbrev cX10_far : ByteArray := prog_12_method_66_code
def yX10_far : MethodName := ⟨RX10, "far", "(I)I"⟩
abbrev cX10_easyCells : ByteArray := prog_12_method_67_code
def yX10_easyCells : MethodName := ⟨RX10, "easyCells", "()I"⟩
abbrev cX10_easy : ByteArray := prog_12_method_68_code
def yX10_easy : MethodName := ⟨RX10, "easy", "(I)I"⟩
abbrev cX10_costBy : ByteArray := prog_12_method_69_code
def yX10_costBy : MethodName := ⟨RX10, "costBy", "(IIIIII)I"⟩
abbrev cX10_two : ByteArray := prog_12_method_70_code
def yX10_two : MethodName := ⟨RX10, "two", "(III)I"⟩
abbrev cX10_gcd : ByteArray := prog_12_method_71_code
def yX10_gcd : MethodName := ⟨RX10, "gcd", "(JJ)J"⟩
abbrev cX10_partOf : ByteArray := prog_12_method_72_code
def yX10_partOf : MethodName := ⟨RX10, "partOf", "(JJI)J"⟩
abbrev cX10_plank : ByteArray := prog_12_method_73_code
def yX10_plank : MethodName := ⟨RX10, "plank", "(IIII)J"⟩
abbrev cX10_mean : ByteArray := prog_12_method_74_code
def yX10_mean : MethodName := ⟨RX10, "mean", "(I)J"⟩
abbrev cX10_isPushedSo : ByteArray := prog_12_method_75_code
def yX10_isPushedSo : MethodName := ⟨RX10, "isPushedSo", "()Z"⟩
abbrev cX10_whoPushed : ByteArray := prog_12_method_76_code
def yX10_whoPushed : MethodName := ⟨RX10, "whoPushed", "(I)I"⟩
abbrev cX10_row : ByteArray := prog_12_method_77_code
def yX10_row : MethodName := ⟨RX10, "row", "(I)I"⟩
abbrev cX10_judge : ByteArray := prog_12_method_78_code
def yX10_judge : MethodName := ⟨RX10, "judge", "()I"⟩
abbrev cX10_clear : ByteArray := prog_12_method_79_code
def yX10_clear : MethodName := ⟨RX10, "clear", "()I"⟩
abbrev cX10_drawn : ByteArray := prog_12_method_80_code
def yX10_drawn : MethodName := ⟨RX10, "drawn", "(I)I"⟩
abbrev cX10_lots : ByteArray := prog_12_method_81_code
def yX10_lots : MethodName := ⟨RX10, "lots", "(III)I"⟩
abbrev cX10_image : ByteArray := prog_12_method_82_code
def yX10_image : MethodName := ⟨RX10, "image", "()I"⟩
abbrev cX10_on : ByteArray := prog_12_method_83_code
def yX10_on : MethodName := ⟨RX10, "on", "()I"⟩
abbrev cX10_count : ByteArray := prog_12_method_84_code
def yX10_count : MethodName := ⟨RX10, "count", "(I)I"⟩
def RJ11 : String := "java/lang/Character"
def TJ11 : u_T := fun k => match k with
  | _ => ("", "", "", false)
def tyJ11 : Nat → FieldType := fun k => match k with
  | _ => .int
abbrev wsJ110 : List Cond := u_ws RJ11 TJ11 0
theorem nmJ11 : ∀ a, a < 0 → ∀ b, b < 0 → a ≠ b → (TJ11 a).2.1 ≠ (TJ11 b).2.1 := by decide +kernel
theorem tyJ11_ok : ∀ k, k < 0 → parseFieldDescriptor (TJ11 k).2.2.1 = some (tyJ11 k) := by decide +kernel
abbrev cJ11_isValidCodePoint_9a6ad : ByteArray := prog_13_method_11_code
def yJ11_isValidCodePoint_9a6ad : MethodName := ⟨RJ11, "isValidCodePoint", "(I)Z"⟩
abbrev cJ11_highSurrogate_5068e : ByteArray := prog_13_method_28_code
def yJ11_highSurrogate_5068e : MethodName := ⟨RJ11, "highSurrogate", "(I)C"⟩
abbrev cJ11_lowSurrogate_5068e : ByteArray := prog_13_method_29_code
def yJ11_lowSurrogate_5068e : MethodName := ⟨RJ11, "lowSurrogate", "(I)C"⟩
def RJ6 : String := "java/lang/Integer"
def TJ6 : u_T := fun k => match k with
  | _ => ("", "", "", false)
def tyJ6 : Nat → FieldType := fun k => match k with
  | _ => .int
abbrev wsJ60 : List Cond := u_ws RJ6 TJ6 0
theorem nmJ6 : ∀ a, a < 0 → ∀ b, b < 0 → a ≠ b → (TJ6 a).2.1 ≠ (TJ6 b).2.1 := by decide +kernel
theorem tyJ6_ok : ∀ k, k < 0 → parseFieldDescriptor (TJ6 k).2.2.1 = some (tyJ6 k) := by decide +kernel
abbrev cJ6_bitCount_0f7a4 : ByteArray := prog_14_method_49_code
def yJ6_bitCount_0f7a4 : MethodName := ⟨RJ6, "bitCount", "(I)I"⟩
def RJ9 : String := "java/lang/Math"
def TJ9 : u_T := fun k => match k with
  | _ => ("", "", "", false)
def tyJ9 : Nat → FieldType := fun k => match k with
  | _ => .int
abbrev wsJ90 : List Cond := u_ws RJ9 TJ9 0
theorem nmJ9 : ∀ a, a < 0 → ∀ b, b < 0 → a ≠ b → (TJ9 a).2.1 ≠ (TJ9 b).2.1 := by decide +kernel
theorem tyJ9_ok : ∀ k, k < 0 → parseFieldDescriptor (TJ9 k).2.2.1 = some (tyJ9 k) := by decide +kernel
abbrev cJ9_abs_0f7a4 : ByteArray := prog_15_method_59_code
def yJ9_abs_0f7a4 : MethodName := ⟨RJ9, "abs", "(I)I"⟩
abbrev cJ9_max_7cf53 : ByteArray := prog_15_method_65_code
def yJ9_max_7cf53 : MethodName := ⟨RJ9, "max", "(II)I"⟩
abbrev cJ9_min_7cf53 : ByteArray := prog_15_method_69_code
def yJ9_min_7cf53 : MethodName := ⟨RJ9, "min", "(II)I"⟩
def RJ0 : String := "java/lang/String"
def TJ0 : u_T := fun k => match k with
  | _ => ("", "", "", false)
def tyJ0 : Nat → FieldType := fun k => match k with
  | _ => .int
abbrev wsJ00 : List Cond := u_ws RJ0 TJ0 0
theorem nmJ0 : ∀ a, a < 0 → ∀ b, b < 0 → a ≠ b → (TJ0 a).2.1 ≠ (TJ0 b).2.1 := by decide +kernel
theorem tyJ0_ok : ∀ k, k < 0 → parseFieldDescriptor (TJ0 k).2.2.1 = some (tyJ0 k) := by decide +kernel
abbrev cJ0_length_8abf5 : ByteArray := prog_16_method_54_code
def yJ0_length_8abf5 : MethodName := ⟨RJ0, "length", "()I"⟩
abbrev cJ0_isEmpty_aae02 : ByteArray := prog_16_method_55_code
def yJ0_isEmpty_aae02 : MethodName := ⟨RJ0, "isEmpty", "()Z"⟩
abbrev cJ0_charAt_5068e : ByteArray := prog_16_method_56_code
def yJ0_charAt_5068e : MethodName := ⟨RJ0, "charAt", "(I)C"⟩
abbrev cJ0_indexOf_0f7a4 : ByteArray := prog_16_method_79_code
def yJ0_indexOf_0f7a4 : MethodName := ⟨RJ0, "indexOf", "(I)I"⟩
abbrev cJ0_indexOf_7cf53 : ByteArray := prog_16_method_80_code
def yJ0_indexOf_7cf53 : MethodName := ⟨RJ0, "indexOf", "(II)I"⟩
abbrev cJ0_coder_7d493 : ByteArray := prog_16_method_152_code
def yJ0_coder_7d493 : MethodName := ⟨RJ0, "coder", "()B"⟩
abbrev cJ0_isLatin1_aae02 : ByteArray := prog_16_method_154_code
def yJ0_isLatin1_aae02 : MethodName := ⟨RJ0, "isLatin1", "()Z"⟩
abbrev cJ0_checkIndex_df160 : ByteArray := prog_16_method_155_code
def yJ0_checkIndex_df160 : MethodName := ⟨RJ0, "checkIndex", "(II)V"⟩
abbrev cJ0_checkBoundsBeginEnd_23922 : ByteArray := prog_16_method_158_code
def yJ0_checkBoundsBeginEnd_23922 : MethodName := ⟨RJ0, "checkBoundsBeginEnd", "(III)V"⟩
def RJ1 : String := "java/lang/StringLatin1"
def TJ1 : u_T := fun k => match k with
  | _ => ("", "", "", false)
def tyJ1 : Nat → FieldType := fun k => match k with
  | _ => .int
abbrev wsJ10 : List Cond := u_ws RJ1 TJ1 0
theorem nmJ1 : ∀ a, a < 0 → ∀ b, b < 0 → a ≠ b → (TJ1 a).2.1 ≠ (TJ1 b).2.1 := by decide +kernel
theorem tyJ1_ok : ∀ k, k < 0 → parseFieldDescriptor (TJ1 k).2.2.1 = some (tyJ1 k) := by decide +kernel
abbrev cJ1_charAt_3b067 : ByteArray := prog_17_method_2_code
def yJ1_charAt_3b067 : MethodName := ⟨RJ1, "charAt", "([BI)C"⟩
abbrev cJ1_canEncode_9a6ad : ByteArray := prog_17_method_4_code
def yJ1_canEncode_9a6ad : MethodName := ⟨RJ1, "canEncode", "(I)Z"⟩
abbrev cJ1_indexOf_4cfef : ByteArray := prog_17_method_22_code
def yJ1_indexOf_4cfef : MethodName := ⟨RJ1, "indexOf", "([BIII)I"⟩
abbrev cJ1_indexOfChar_4cfef : ByteArray := prog_17_method_23_code
def yJ1_indexOfChar_4cfef : MethodName := ⟨RJ1, "indexOfChar", "([BIII)I"⟩
def RJ2 : String := "java/lang/StringUTF16"
def TJ2 : u_T := fun k => match k with
  | _ => ("", "", "", false)
def tyJ2 : Nat → FieldType := fun k => match k with
  | _ => .int
abbrev wsJ20 : List Cond := u_ws RJ2 TJ2 0
theorem nmJ2 : ∀ a, a < 0 → ∀ b, b < 0 → a ≠ b → (TJ2 a).2.1 ≠ (TJ2 b).2.1 := by decide +kernel
theorem tyJ2_ok : ∀ k, k < 0 → parseFieldDescriptor (TJ2 k).2.2.1 = some (tyJ2 k) := by decide +kernel
abbrev cJ2_getChar_3b067 : ByteArray := prog_18_method_5_code
def yJ2_getChar_3b067 : MethodName := ⟨RJ2, "getChar", "([BI)C"⟩
abbrev cJ2_length_9d52b : ByteArray := prog_18_method_6_code
def yJ2_length_9d52b : MethodName := ⟨RJ2, "length", "([B)I"⟩
abbrev cJ2_indexOf_4cfef : ByteArray := prog_18_method_40_code
def yJ2_indexOf_4cfef : MethodName := ⟨RJ2, "indexOf", "([BIII)I"⟩
abbrev cJ2_indexOfChar_4cfef : ByteArray := prog_18_method_47_code
def yJ2_indexOfChar_4cfef : MethodName := ⟨RJ2, "indexOfChar", "([BIII)I"⟩
abbrev cJ2_indexOfCharUnsafe_4cfef : ByteArray := prog_18_method_48_code
def yJ2_indexOfCharUnsafe_4cfef : MethodName := ⟨RJ2, "indexOfCharUnsafe", "([BIII)I"⟩
abbrev cJ2_indexOfSupplementary_4cfef : ByteArray := prog_18_method_49_code
def yJ2_indexOfSupplementary_4cfef : MethodName := ⟨RJ2, "indexOfSupplementary", "([BIII)I"⟩
abbrev cJ2_charAt_3b067 : ByteArray := prog_18_method_83_code
def yJ2_charAt_3b067 : MethodName := ⟨RJ2, "charAt", "([BI)C"⟩
abbrev cJ2_checkIndex_2214a : ByteArray := prog_18_method_91_code
def yJ2_checkIndex_2214a : MethodName := ⟨RJ2, "checkIndex", "(I[B)V"⟩
abbrev cJ2_checkBoundsBeginEnd_d044e : ByteArray := prog_18_method_93_code
def yJ2_checkBoundsBeginEnd_d044e : MethodName := ⟨RJ2, "checkBoundsBeginEnd", "(II[B)V"⟩
def RJ10 : String := "java/lang/System"
def TJ10 : u_T := fun k => match k with
  | _ => ("", "", "", false)
def tyJ10 : Nat → FieldType := fun k => match k with
  | _ => .int
abbrev wsJ100 : List Cond := u_ws RJ10 TJ10 0
theorem nmJ10 : ∀ a, a < 0 → ∀ b, b < 0 → a ≠ b → (TJ10 a).2.1 ≠ (TJ10 b).2.1 := by decide +kernel
theorem tyJ10_ok : ∀ k, k < 0 → parseFieldDescriptor (TJ10 k).2.2.1 = some (tyJ10 k) := by decide +kernel
def RJ3 : String := "jdk/internal/util/Preconditions"
def TJ3 : u_T := fun k => match k with
  | _ => ("", "", "", false)
def tyJ3 : Nat → FieldType := fun k => match k with
  | _ => .int
abbrev wsJ30 : List Cond := u_ws RJ3 TJ3 0
theorem nmJ3 : ∀ a, a < 0 → ∀ b, b < 0 → a ≠ b → (TJ3 a).2.1 ≠ (TJ3 b).2.1 := by decide +kernel
theorem tyJ3_ok : ∀ k, k < 0 → parseFieldDescriptor (TJ3 k).2.2.1 = some (tyJ3 k) := by decide +kernel
abbrev cJ3_checkIndex_8e157 : ByteArray := prog_20_method_11_code
def yJ3_checkIndex_8e157 : MethodName := ⟨RJ3, "checkIndex", "(IILjava/util/function/BiFunction;)I"⟩
abbrev cJ3_checkFromToIndex_8c36e : ByteArray := prog_20_method_12_code
def yJ3_checkFromToIndex_8c36e : MethodName := ⟨RJ3, "checkFromToIndex", "(IIILjava/util/function/BiFunction;)I"⟩
def RL : String := "SovereignInBarrowLaw"
abbrev cL_law : ByteArray := code
def yL_law : MethodName := ⟨RL, "law", "([I)Z"⟩
abbrev vwCl : List vw_C := [(RX0, TX0, 0), (RX1, TX1, 13), (RX2, TX2, 0), (RX3, TX3, 0), (RX4, TX4, 0), (RX5, TX5, 0), (RX6, TX6, 2), (RX7, TX7, 0), (RX8, TX8, 4), (RX9, TX9, 12), (RX10, TX10, 14)]
