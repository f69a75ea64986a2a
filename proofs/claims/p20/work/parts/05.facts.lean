theorem mm_cd {z pc k : Nat} {a b : Option (Instr × List (Nat × Nat))} (ha : ∀ x, a = some x → mm_K z pc x) (hb : ∀ x, b = some x → mm_K z pc x) : ∀ x, cond (Nat.ble pc k) a b = some x → mm_K z pc x := by
  intro x h
  cases hc : Nat.ble pc k <;> rw [hc] at h
  · exact hb x h
  · exact ha x h
theorem mm_cz {z pc k : Nat} {a b : Option (Instr × List (Nat × Nat))} (ha : ∀ x, a = some x → mm_K z pc x) (hb : ∀ x, b = some x → mm_K z pc x) : ∀ x, cond (Nat.ble z k) a b = some x → mm_K z pc x := by
  intro x h
  cases hc : Nat.ble z k <;> rw [hc] at h
  · exact hb x h
  · exact ha x h
theorem mm_lf {z pc k : Nat} {v : Instr × List (Nat × Nat)} (h0 : mm_K z k v) : ∀ x, cond (Nat.beq pc k) (some v) none = some x → mm_K z pc x := by
  intro x h
  cases hc : Nat.beq pc k <;> rw [hc] at h
  · cases h
  · rw [Nat.eq_of_beq_eq_true hc]; cases h; exact h0
theorem mm_lz {z pc k : Nat} {v : Option (Instr × List (Nat × Nat))} (h0 : ∀ x, v = some x → mm_K k pc x) : ∀ x, cond (Nat.beq z k) v none = some x → mm_K z pc x := by
  intro x h
  cases hc : Nat.beq z k <;> rw [hc] at h
  · cases h
  · rw [Nat.eq_of_beq_eq_true hc]; exact h0 x h
theorem mmu_0 : ∀ w ∈ u_ws RX0 TX0 0, w ∈ lw_tbl := by
  show ∀ w ∈ ([] : List Cond), w ∈ lw_tbl
  exact fun _ h => absurd h List.not_mem_nil
theorem mmu_1 : ∀ w ∈ u_ws RX1 TX1 13, w ∈ lw_tbl := by
  show ∀ w ∈ ([Cond.laysFinal "SovereignInBarrow$Kingdom" "SovereignInBarrow$Kingdom" "rules" "[LSovereignInBarrow$Minister;", Cond.laysFinal "SovereignInBarrow$Kingdom" "SovereignInBarrow$Kingdom" "heights" "[I", Cond.laysFinal "SovereignInBarrow$Kingdom" "SovereignInBarrow$Kingdom" "kerb" "[I", Cond.laysFinal "SovereignInBarrow$Kingdom" "SovereignInBarrow$Kingdom" "kinds" "[I", Cond.laysFinal "SovereignInBarrow$Kingdom" "SovereignInBarrow$Kingdom" "figures" "[I", Cond.laysFinal "SovereignInBarrow$Kingdom" "SovereignInBarrow$Kingdom" "falls" "[I", Cond.laysFinal "SovereignInBarrow$Kingdom" "SovereignInBarrow$Kingdom" "order" "[I", Cond.lays "SovereignInBarrow$Kingdom" "SovereignInBarrow$Kingdom" "ministers" "I", Cond.lays "SovereignInBarrow$Kingdom" "SovereignInBarrow$Kingdom" "at" "I", Cond.lays "SovereignInBarrow$Kingdom" "SovereignInBarrow$Kingdom" "goal" "I", Cond.lays "SovereignInBarrow$Kingdom" "SovereignInBarrow$Kingdom" "lastWay" "I", Cond.lays "SovereignInBarrow$Kingdom" "SovereignInBarrow$Kingdom" "weight" "I", Cond.lays "SovereignInBarrow$Kingdom" "SovereignInBarrow$Kingdom" "step" "I"] : List Cond), w ∈ lw_tbl
  exact List.forall_mem_cons.mpr ⟨q_180, List.forall_mem_cons.mpr ⟨q_182, List.forall_mem_cons.mpr ⟨q_184, List.forall_mem_cons.mpr ⟨q_186, List.forall_mem_cons.mpr ⟨q_188, List.forall_mem_cons.mpr ⟨q_190, List.forall_mem_cons.mpr ⟨q_192, List.forall_mem_cons.mpr ⟨q_194, List.forall_mem_cons.mpr ⟨q_196, List.forall_mem_cons.mpr ⟨q_198, List.forall_mem_cons.mpr ⟨q_200, List.forall_mem_cons.mpr ⟨q_202, List.forall_mem_cons.mpr ⟨q_204, fun _ h => absurd h List.not_mem_nil⟩⟩⟩⟩⟩⟩⟩⟩⟩⟩⟩⟩⟩
theorem mmu_2 : ∀ w ∈ u_ws RX2 TX2 0, w ∈ lw_tbl := by
  show ∀ w ∈ ([] : List Cond), w ∈ lw_tbl
  exact fun _ h => absurd h List.not_mem_nil
theorem mmu_3 : ∀ w ∈ u_ws RX3 TX3 0, w ∈ lw_tbl := by
  show ∀ w ∈ ([] : List Cond), w ∈ lw_tbl
  exact fun _ h => absurd h List.not_mem_nil
theorem mmu_4 : ∀ w ∈ u_ws RX4 TX4 0, w ∈ lw_tbl := by
  show ∀ w ∈ ([] : List Cond), w ∈ lw_tbl
  exact fun _ h => absurd h List.not_mem_nil
theorem mmu_5 : ∀ w ∈ u_ws RX5 TX5 0, w ∈ lw_tbl := by
  show ∀ w ∈ ([] : List Cond), w ∈ lw_tbl
  exact fun _ h => absurd h List.not_mem_nil
theorem mmu_6 : ∀ w ∈ u_ws RX6 TX6 2, w ∈ lw_tbl := by
  show ∀ w ∈ ([Cond.lays "SovereignInBarrow$Soonest" "SovereignInBarrow$Soonest" "which" "I", Cond.lays "SovereignInBarrow$Soonest" "SovereignInBarrow$Soonest" "when" "I"] : List Cond), w ∈ lw_tbl
  exact List.forall_mem_cons.mpr ⟨q_95, List.forall_mem_cons.mpr ⟨q_97, fun _ h => absurd h List.not_mem_nil⟩⟩
theorem mmu_7 : ∀ w ∈ u_ws RX7 TX7 0, w ∈ lw_tbl := by
  show ∀ w ∈ ([] : List Cond), w ∈ lw_tbl
  exact fun _ h => absurd h List.not_mem_nil
theorem mmu_8 : ∀ w ∈ u_ws RX8 TX8 4, w ∈ lw_tbl := by
  show ∀ w ∈ ([Cond.laysFinal "SovereignInBarrow$Telling" "SovereignInBarrow$Telling" "letters" "[I", Cond.lays "SovereignInBarrow$Telling" "SovereignInBarrow$Telling" "size" "I", Cond.laysFinal "SovereignInBarrow$Telling" "SovereignInBarrow$Telling" "starts" "[I", Cond.lays "SovereignInBarrow$Telling" "SovereignInBarrow$Telling" "statements" "I"] : List Cond), w ∈ lw_tbl
  exact List.forall_mem_cons.mpr ⟨q_76, List.forall_mem_cons.mpr ⟨q_78, List.forall_mem_cons.mpr ⟨q_80, List.forall_mem_cons.mpr ⟨q_82, fun _ h => absurd h List.not_mem_nil⟩⟩⟩⟩
theorem mmu_9 : ∀ w ∈ u_ws RX9 TX9 12, w ∈ lw_tbl := by
  show ∀ w ∈ ([Cond.laysFinal "SovereignInBarrow" "SovereignInBarrow" "now" "LSovereignInBarrow$Kingdom;", Cond.laysFinal "SovereignInBarrow" "SovereignInBarrow" "mind" "LSovereignInBarrow$Kingdom;", Cond.laysFinal "SovereignInBarrow" "SovereignInBarrow" "kept" "LSovereignInBarrow$Kingdom;", Cond.lays "SovereignInBarrow" "SovereignInBarrow" "imageTaken" "Z", Cond.laysFinal "SovereignInBarrow" "SovereignInBarrow" "told" "LSovereignInBarrow$Telling;", Cond.laysFinal "SovereignInBarrow" "SovereignInBarrow" "numbers" "[I", Cond.lays "SovereignInBarrow" "SovereignInBarrow" "numbersTold" "I", Cond.laysFinal "SovereignInBarrow" "SovereignInBarrow" "refusals" "[I", Cond.laysFinal "SovereignInBarrow" "SovereignInBarrow" "soonest" "LSovereignInBarrow$Soonest;", Cond.laysFinal "SovereignInBarrow" "SovereignInBarrow" "climbs" "[I", Cond.laysFinal "SovereignInBarrow" "SovereignInBarrow" "lesserHarm" "[I", Cond.laysFinal "SovereignInBarrow" "SovereignInBarrow" "greaterHarm" "[I"] : List Cond), w ∈ lw_tbl
  exact List.forall_mem_cons.mpr ⟨q_219, List.forall_mem_cons.mpr ⟨q_221, List.forall_mem_cons.mpr ⟨q_223, List.forall_mem_cons.mpr ⟨q_225, List.forall_mem_cons.mpr ⟨q_227, List.forall_mem_cons.mpr ⟨q_229, List.forall_mem_cons.mpr ⟨q_231, List.forall_mem_cons.mpr ⟨q_233, List.forall_mem_cons.mpr ⟨q_235, List.forall_mem_cons.mpr ⟨q_237, List.forall_mem_cons.mpr ⟨q_239, List.forall_mem_cons.mpr ⟨q_241, fun _ h => absurd h List.not_mem_nil⟩⟩⟩⟩⟩⟩⟩⟩⟩⟩⟩⟩
theorem mmu_10 : ∀ w ∈ u_ws RX10 TX10 14, w ∈ lw_tbl := by
  show ∀ w ∈ ([Cond.laysFinal "SovereignInBarrowModel" "SovereignInBarrowModel" "s" "[I", Cond.laysFinal "SovereignInBarrowModel" "SovereignInBarrowModel" "m" "[I", Cond.laysFinal "SovereignInBarrowModel" "SovereignInBarrowModel" "image" "[I", Cond.laysFinal "SovereignInBarrowModel" "SovereignInBarrowModel" "was" "[I", Cond.lays "SovereignInBarrowModel" "SovereignInBarrowModel" "hasImage" "Z", Cond.laysFinal "SovereignInBarrowModel" "SovereignInBarrowModel" "letters" "[I", Cond.laysFinal "SovereignInBarrowModel" "SovereignInBarrowModel" "row" "[I", Cond.laysFinal "SovereignInBarrowModel" "SovereignInBarrowModel" "refused" "[I", Cond.lays "SovereignInBarrowModel" "SovereignInBarrowModel" "letterMany" "I", Cond.lays "SovereignInBarrowModel" "SovereignInBarrowModel" "rowMany" "I", Cond.lays "SovereignInBarrowModel" "SovereignInBarrowModel" "place" "I", Cond.laysFinal "SovereignInBarrowModel" "SovereignInBarrowModel" "numbers" "[I", Cond.laysFinal "SovereignInBarrowModel" "SovereignInBarrowModel" "cost" "[I", Cond.lays "SovereignInBarrowModel" "SovereignInBarrowModel" "seed" "I"] : List Cond), w ∈ lw_tbl
  exact List.forall_mem_cons.mpr ⟨q_824, List.forall_mem_cons.mpr ⟨q_826, List.forall_mem_cons.mpr ⟨q_828, List.forall_mem_cons.mpr ⟨q_830, List.forall_mem_cons.mpr ⟨q_832, List.forall_mem_cons.mpr ⟨q_834, List.forall_mem_cons.mpr ⟨q_836, List.forall_mem_cons.mpr ⟨q_838, List.forall_mem_cons.mpr ⟨q_840, List.forall_mem_cons.mpr ⟨q_842, List.forall_mem_cons.mpr ⟨q_844, List.forall_mem_cons.mpr ⟨q_846, List.forall_mem_cons.mpr ⟨q_848, List.forall_mem_cons.mpr ⟨q_850, fun _ h => absurd h List.not_mem_nil⟩⟩⟩⟩⟩⟩⟩⟩⟩⟩⟩⟩⟩⟩
theorem mmg_0 : plainName "SovereignInBarrow" = true ∧ ("SovereignInBarrow" ≠ "java/lang/invoke/MethodHandle" ∧ "SovereignInBarrow" ≠ "java/lang/invoke/VarHandle") := ⟨by decide +kernel, by decide +kernel⟩
theorem mmg_1 : plainName "SovereignInBarrow$Deaf" = true ∧ ("SovereignInBarrow$Deaf" ≠ "java/lang/invoke/MethodHandle" ∧ "SovereignInBarrow$Deaf" ≠ "java/lang/invoke/VarHandle") := ⟨by decide +kernel, by decide +kernel⟩
theorem mmg_2 : plainName "SovereignInBarrow$Kingdom" = true ∧ ("SovereignInBarrow$Kingdom" ≠ "java/lang/invoke/MethodHandle" ∧ "SovereignInBarrow$Kingdom" ≠ "java/lang/invoke/VarHandle") := ⟨by decide +kernel, by decide +kernel⟩
theorem mmg_3 : plainName "SovereignInBarrow$LeftOne" = true ∧ ("SovereignInBarrow$LeftOne" ≠ "java/lang/invoke/MethodHandle" ∧ "SovereignInBarrow$LeftOne" ≠ "java/lang/invoke/VarHandle") := ⟨by decide +kernel, by decide +kernel⟩
theorem mmg_4 : plainName "SovereignInBarrow$Minister" = true ∧ ("SovereignInBarrow$Minister" ≠ "java/lang/invoke/MethodHandle" ∧ "SovereignInBarrow$Minister" ≠ "java/lang/invoke/VarHandle") := ⟨by decide +kernel, by decide +kernel⟩
theorem mmg_5 : plainName "SovereignInBarrow$Opposite" = true ∧ ("SovereignInBarrow$Opposite" ≠ "java/lang/invoke/MethodHandle" ∧ "SovereignInBarrow$Opposite" ≠ "java/lang/invoke/VarHandle") := ⟨by decide +kernel, by decide +kernel⟩
theorem mmg_6 : plainName "SovereignInBarrow$Runner" = true ∧ ("SovereignInBarrow$Runner" ≠ "java/lang/invoke/MethodHandle" ∧ "SovereignInBarrow$Runner" ≠ "java/lang/invoke/VarHandle") := ⟨by decide +kernel, by decide +kernel⟩
theorem mmg_7 : plainName "SovereignInBarrow$Soonest" = true ∧ ("SovereignInBarrow$Soonest" ≠ "java/lang/invoke/MethodHandle" ∧ "SovereignInBarrow$Soonest" ≠ "java/lang/invoke/VarHandle") := ⟨by decide +kernel, by decide +kernel⟩
theorem mmg_8 : plainName "SovereignInBarrow$Speaker" = true ∧ ("SovereignInBarrow$Speaker" ≠ "java/lang/invoke/MethodHandle" ∧ "SovereignInBarrow$Speaker" ≠ "java/lang/invoke/VarHandle") := ⟨by decide +kernel, by decide +kernel⟩
theorem mmg_9 : plainName "SovereignInBarrow$Telling" = true ∧ ("SovereignInBarrow$Telling" ≠ "java/lang/invoke/MethodHandle" ∧ "SovereignInBarrow$Telling" ≠ "java/lang/invoke/VarHandle") := ⟨by decide +kernel, by decide +kernel⟩
theorem mmg_10 : plainName "SovereignInBarrowModel" = true ∧ ("SovereignInBarrowModel" ≠ "java/lang/invoke/MethodHandle" ∧ "SovereignInBarrowModel" ≠ "java/lang/invoke/VarHandle") := ⟨by decide +kernel, by decide +kernel⟩
theorem mmg_11 : plainName "java/lang/Integer" = true ∧ ("java/lang/Integer" ≠ "java/lang/invoke/MethodHandle" ∧ "java/lang/Integer" ≠ "java/lang/invoke/VarHandle") := ⟨by decide +kernel, by decide +kernel⟩
theorem mmg_12 : plainName "java/lang/String" = true ∧ ("java/lang/String" ≠ "java/lang/invoke/MethodHandle" ∧ "java/lang/String" ≠ "java/lang/invoke/VarHandle") := ⟨by decide +kernel, by decide +kernel⟩
theorem mmg_13 : plainName "java/lang/StringLatin1" = true ∧ ("java/lang/StringLatin1" ≠ "java/lang/invoke/MethodHandle" ∧ "java/lang/StringLatin1" ≠ "java/lang/invoke/VarHandle") := ⟨by decide +kernel, by decide +kernel⟩
theorem mmg_14 : plainName "jdk/internal/util/Preconditions" = true ∧ ("jdk/internal/util/Preconditions" ≠ "java/lang/invoke/MethodHandle" ∧ "jdk/internal/util/Preconditions" ≠ "java/lang/invoke/VarHandle") := ⟨by decide +kernel, by decide +kernel⟩
theorem mmh_0 : (parseMethodDescriptor "()B").map (fun d => d.parameters.length) = some 0 := by decide +kernel
theorem mmh_1 : (parseMethodDescriptor "()I").map (fun d => d.parameters.length) = some 0 := by decide +kernel
theorem mmh_2 : (parseMethodDescriptor "()LSovereignInBarrow$Kingdom;").map (fun d => d.parameters.length) = some 0 := by decide +kernel
theorem mmh_3 : (parseMethodDescriptor "()V").map (fun d => d.parameters.length) = some 0 := by decide +kernel
theorem mmh_4 : (parseMethodDescriptor "()Z").map (fun d => d.parameters.length) = some 0 := by decide +kernel
theorem mmh_5 : (parseMethodDescriptor "(I)C").map (fun d => d.parameters.length) = some 1 := by decide +kernel
theorem mmh_6 : (parseMethodDescriptor "(I)I").map (fun d => d.parameters.length) = some 1 := by decide +kernel
theorem mmh_7 : (parseMethodDescriptor "(I)J").map (fun d => d.parameters.length) = some 1 := by decide +kernel
theorem mmh_8 : (parseMethodDescriptor "(I)Ljava/lang/String;").map (fun d => d.parameters.length) = some 1 := by decide +kernel
theorem mmh_9 : (parseMethodDescriptor "(I)V").map (fun d => d.parameters.length) = some 1 := by decide +kernel
theorem mmh_10 : (parseMethodDescriptor "(I)Z").map (fun d => d.parameters.length) = some 1 := by decide +kernel
theorem mmh_11 : (parseMethodDescriptor "(IC)Z").map (fun d => d.parameters.length) = some 2 := by decide +kernel
theorem mmh_12 : (parseMethodDescriptor "(II)I").map (fun d => d.parameters.length) = some 2 := by decide +kernel
theorem mmh_13 : (parseMethodDescriptor "(II)V").map (fun d => d.parameters.length) = some 2 := by decide +kernel
theorem mmh_14 : (parseMethodDescriptor "(II)Z").map (fun d => d.parameters.length) = some 2 := by decide +kernel
theorem mmh_15 : (parseMethodDescriptor "(III)I").map (fun d => d.parameters.length) = some 3 := by decide +kernel
theorem mmh_16 : (parseMethodDescriptor "(III)Z").map (fun d => d.parameters.length) = some 3 := by decide +kernel
theorem mmh_17 : (parseMethodDescriptor "(IIII)I").map (fun d => d.parameters.length) = some 4 := by decide +kernel
theorem mmh_18 : (parseMethodDescriptor "(IIII)J").map (fun d => d.parameters.length) = some 4 := by decide +kernel
theorem mmh_19 : (parseMethodDescriptor "(IIII)V").map (fun d => d.parameters.length) = some 4 := by decide +kernel
theorem mmh_20 : (parseMethodDescriptor "(IIIIII)I").map (fun d => d.parameters.length) = some 6 := by decide +kernel
theorem mmh_21 : (parseMethodDescriptor "(IILjava/util/function/BiFunction;)I").map (fun d => d.parameters.length) = some 3 := by decide +kernel
theorem mmh_22 : (parseMethodDescriptor "(ILSovereignInBarrow$Kingdom;)V").map (fun d => d.parameters.length) = some 2 := by decide +kernel
theorem mmh_23 : (parseMethodDescriptor "(JI)J").map (fun d => d.parameters.length) = some 2 := by decide +kernel
theorem mmh_24 : (parseMethodDescriptor "(JJ)J").map (fun d => d.parameters.length) = some 2 := by decide +kernel
theorem mmh_25 : (parseMethodDescriptor "(JJI)J").map (fun d => d.parameters.length) = some 3 := by decide +kernel
theorem mmh_26 : (parseMethodDescriptor "(LSovereignInBarrow$Kingdom;)I").map (fun d => d.parameters.length) = some 1 := by decide +kernel
theorem mmh_27 : (parseMethodDescriptor "(LSovereignInBarrow$Kingdom;)V").map (fun d => d.parameters.length) = some 1 := by decide +kernel
theorem mmh_28 : (parseMethodDescriptor "(LSovereignInBarrow$Kingdom;)Z").map (fun d => d.parameters.length) = some 1 := by decide +kernel
theorem mmh_29 : (parseMethodDescriptor "([BI)C").map (fun d => d.parameters.length) = some 2 := by decide +kernel
theorem mmh_30 : (parseMethodDescriptor "([BIII)I").map (fun d => d.parameters.length) = some 4 := by decide +kernel
theorem mmh_31 : (parseMethodDescriptor "([I)I").map (fun d => d.parameters.length) = some 1 := by decide +kernel
theorem mmh_32 : (parseMethodDescriptor "([II)I").map (fun d => d.parameters.length) = some 2 := by decide +kernel
theorem mmh_33 : (parseMethodDescriptor "([II)V").map (fun d => d.parameters.length) = some 2 := by decide +kernel
theorem mmh_34 : (parseMethodDescriptor "([III)I").map (fun d => d.parameters.length) = some 3 := by decide +kernel
theorem mmh_35 : (parseMethodDescriptor "([I[I)V").map (fun d => d.parameters.length) = some 2 := by decide +kernel
theorem mmh_36 : (parseMethodDescriptor "([LSovereignInBarrow$Minister;)V").map (fun d => d.parameters.length) = some 1 := by decide +kernel
theorem mmf_1 : mm_Mok 1 := ⟨q_61, q_38, mmg_0.1, mmg_0.2, mmh_3, rfl⟩
theorem mmf_2 : mm_Mok 2 := ⟨q_69, q_39, mmg_9.1, mmg_9.2, mmh_3, rfl⟩
theorem mmf_3 : mm_Mok 3 := ⟨q_90, q_40, mmg_7.1, mmg_7.2, mmh_3, rfl⟩
theorem mmf_4 : mm_Mok 4 := ⟨q_105, q_41, mmg_4.1, mmg_4.2, mmh_3, rfl⟩
theorem mmf_5 : mm_Mok 5 := ⟨q_112, q_42, mmg_3.1, mmg_3.2, mmh_3, rfl⟩
theorem mmf_6 : mm_Mok 6 := ⟨q_119, q_43, mmg_8.1, mmg_8.2, mmh_3, rfl⟩
theorem mmf_7 : mm_Mok 7 := ⟨q_126, q_44, mmg_1.1, mmg_1.2, mmh_3, rfl⟩
theorem mmf_8 : mm_Mok 8 := ⟨q_133, q_45, mmg_6.1, mmg_6.2, mmh_3, rfl⟩
theorem mmf_9 : mm_Mok 9 := ⟨q_140, q_46, mmg_5.1, mmg_5.2, mmh_3, rfl⟩
theorem mmf_10 : mm_Mok 10 := ⟨q_147, q_47, mmg_2.1, mmg_2.2, mmh_36, rfl⟩
theorem mmf_11 : mm_Mok 11 := ⟨q_247, q_38, mmg_0.1, mmg_0.2, mmh_6, rfl⟩
theorem mmf_12 : mm_Mok 12 := ⟨q_251, q_38, mmg_0.1, mmg_0.2, mmh_6, rfl⟩
theorem mmf_13 : mm_Mok 13 := ⟨q_255, q_39, mmg_9.1, mmg_9.2, mmh_9, rfl⟩
theorem mmf_14 : mm_Mok 14 := ⟨q_259, q_38, mmg_0.1, mmg_0.2, mmh_1, rfl⟩
theorem mmf_15 : mm_Mok 15 := ⟨q_263, q_39, mmg_9.1, mmg_9.2, mmh_26, rfl⟩
theorem mmf_16 : mm_Mok 16 := ⟨q_267, q_39, mmg_9.1, mmg_9.2, mmh_1, rfl⟩
theorem mmf_17 : mm_Mok 17 := ⟨q_271, q_39, mmg_9.1, mmg_9.2, mmh_6, rfl⟩
theorem mmf_18 : mm_Mok 18 := ⟨q_274, q_39, mmg_9.1, mmg_9.2, mmh_8, rfl⟩
theorem mmf_19 : mm_Mok 19 := ⟨q_283, q_49, mmg_12.1, mmg_12.2, mmh_4, rfl⟩
theorem mmf_20 : mm_Mok 20 := ⟨q_287, q_49, mmg_12.1, mmg_12.2, mmh_1, rfl⟩
theorem mmf_21 : mm_Mok 21 := ⟨q_291, q_49, mmg_12.1, mmg_12.2, mmh_0, rfl⟩
theorem mmf_22 : mm_Mok 22 := ⟨q_297, q_49, mmg_12.1, mmg_12.2, mmh_5, rfl⟩
theorem mmf_23 : mm_Mok 23 := ⟨q_301, q_49, mmg_12.1, mmg_12.2, mmh_4, rfl⟩
theorem mmf_24 : mm_Mok 24 := ⟨q_304, q_50, mmg_13.1, mmg_13.2, mmh_29, rfl⟩
theorem mmf_25 : mm_Mok 25 := ⟨q_307, q_49, mmg_12.1, mmg_12.2, mmh_13, rfl⟩
theorem mmf_26 : mm_Mok 26 := ⟨q_312, q_51, mmg_14.1, mmg_14.2, mmh_21, rfl⟩
theorem mmf_27 : mm_Mok 27 := ⟨q_334, q_39, mmg_9.1, mmg_9.2, mmh_11, rfl⟩
theorem mmf_28 : mm_Mok 28 := ⟨q_339, q_49, mmg_12.1, mmg_12.2, mmh_6, rfl⟩
theorem mmf_29 : mm_Mok 29 := ⟨q_343, q_49, mmg_12.1, mmg_12.2, mmh_12, rfl⟩
theorem mmf_30 : mm_Mok 30 := ⟨q_347, q_50, mmg_13.1, mmg_13.2, mmh_30, rfl⟩
theorem mmf_31 : mm_Mok 31 := ⟨q_350, q_50, mmg_13.1, mmg_13.2, mmh_10, rfl⟩
theorem mmf_32 : mm_Mok 32 := ⟨q_359, q_50, mmg_13.1, mmg_13.2, mmh_30, rfl⟩
theorem mmf_33 : mm_Mok 33 := ⟨q_398, q_39, mmg_9.1, mmg_9.2, mmh_26, rfl⟩
theorem mmf_34 : mm_Mok 34 := ⟨q_402, q_39, mmg_9.1, mmg_9.2, mmh_16, rfl⟩
theorem mmf_35 : mm_Mok 35 := ⟨q_406, q_39, mmg_9.1, mmg_9.2, mmh_6, rfl⟩
theorem mmf_36 : mm_Mok 36 := ⟨q_410, q_39, mmg_9.1, mmg_9.2, mmh_6, rfl⟩
theorem mmf_37 : mm_Mok 37 := ⟨q_413, q_38, mmg_0.1, mmg_0.2, mmh_10, rfl⟩
theorem mmf_38 : mm_Mok 38 := ⟨q_417, q_39, mmg_9.1, mmg_9.2, mmh_26, rfl⟩
theorem mmf_39 : mm_Mok 39 := ⟨q_421, q_39, mmg_9.1, mmg_9.2, mmh_22, rfl⟩
theorem mmf_40 : mm_Mok 40 := ⟨q_425, q_39, mmg_9.1, mmg_9.2, mmh_6, rfl⟩
theorem mmf_41 : mm_Mok 41 := ⟨q_429, q_47, mmg_2.1, mmg_2.2, mmh_13, rfl⟩
theorem mmf_42 : mm_Mok 42 := ⟨q_433, q_47, mmg_2.1, mmg_2.2, mmh_9, rfl⟩
theorem mmf_43 : mm_Mok 43 := ⟨q_437, q_47, mmg_2.1, mmg_2.2, mmh_9, rfl⟩
theorem mmf_44 : mm_Mok 44 := ⟨q_441, q_47, mmg_2.1, mmg_2.2, mmh_9, rfl⟩
theorem mmf_45 : mm_Mok 45 := ⟨q_445, q_47, mmg_2.1, mmg_2.2, mmh_1, rfl⟩
theorem mmf_46 : mm_Mok 46 := ⟨q_449, q_47, mmg_2.1, mmg_2.2, mmh_1, rfl⟩
theorem mmf_47 : mm_Mok 47 := ⟨q_456, q_44, mmg_1.1, mmg_1.2, mmh_17, rfl⟩
theorem mmf_48 : mm_Mok 48 := ⟨q_459, q_38, mmg_0.1, mmg_0.2, mmh_12, rfl⟩
theorem mmf_49 : mm_Mok 49 := ⟨q_462, q_42, mmg_3.1, mmg_3.2, mmh_17, rfl⟩
theorem mmf_50 : mm_Mok 50 := ⟨q_465, q_46, mmg_5.1, mmg_5.2, mmh_17, rfl⟩
theorem mmf_51 : mm_Mok 51 := ⟨q_470, q_45, mmg_6.1, mmg_6.2, mmh_17, rfl⟩
theorem mmf_52 : mm_Mok 52 := ⟨q_473, q_43, mmg_8.1, mmg_8.2, mmh_17, rfl⟩
theorem mmf_53 : mm_Mok 53 := ⟨q_475, q_41, mmg_4.1, mmg_4.2, mmh_17, rfl⟩
theorem mmf_54 : mm_Mok 54 := ⟨q_480, q_47, mmg_2.1, mmg_2.2, mmh_6, rfl⟩
theorem mmf_55 : mm_Mok 55 := ⟨q_485, q_47, mmg_2.1, mmg_2.2, mmh_6, rfl⟩
theorem mmf_56 : mm_Mok 56 := ⟨q_492, q_44, mmg_1.1, mmg_1.2, mmh_6, rfl⟩
theorem mmf_57 : mm_Mok 57 := ⟨q_498, q_42, mmg_3.1, mmg_3.2, mmh_6, rfl⟩
theorem mmf_58 : mm_Mok 58 := ⟨q_503, q_45, mmg_6.1, mmg_6.2, mmh_6, rfl⟩
theorem mmf_59 : mm_Mok 59 := ⟨q_506, q_41, mmg_4.1, mmg_4.2, mmh_6, rfl⟩
theorem mmf_60 : mm_Mok 60 := ⟨q_513, q_38, mmg_0.1, mmg_0.2, mmh_12, rfl⟩
theorem mmf_61 : mm_Mok 61 := ⟨q_517, q_38, mmg_0.1, mmg_0.2, mmh_10, rfl⟩
theorem mmf_62 : mm_Mok 62 := ⟨q_521, q_47, mmg_2.1, mmg_2.2, mmh_6, rfl⟩
theorem mmf_63 : mm_Mok 63 := ⟨q_526, q_38, mmg_0.1, mmg_0.2, mmh_12, rfl⟩
theorem mmf_64 : mm_Mok 64 := ⟨q_531, q_38, mmg_0.1, mmg_0.2, mmh_6, rfl⟩
theorem mmf_65 : mm_Mok 65 := ⟨q_539, q_38, mmg_0.1, mmg_0.2, mmh_12, rfl⟩
theorem mmf_66 : mm_Mok 66 := ⟨q_543, q_38, mmg_0.1, mmg_0.2, mmh_6, rfl⟩
theorem mmf_67 : mm_Mok 67 := ⟨q_547, q_38, mmg_0.1, mmg_0.2, mmh_6, rfl⟩
theorem mmf_68 : mm_Mok 68 := ⟨q_551, q_38, mmg_0.1, mmg_0.2, mmh_6, rfl⟩
theorem mmf_69 : mm_Mok 69 := ⟨q_555, q_38, mmg_0.1, mmg_0.2, mmh_6, rfl⟩
theorem mmf_70 : mm_Mok 70 := ⟨q_559, q_38, mmg_0.1, mmg_0.2, mmh_6, rfl⟩
theorem mmf_71 : mm_Mok 71 := ⟨q_564, q_47, mmg_2.1, mmg_2.2, mmh_1, rfl⟩
theorem mmf_72 : mm_Mok 72 := ⟨q_568, q_38, mmg_0.1, mmg_0.2, mmh_15, rfl⟩
theorem mmf_73 : mm_Mok 73 := ⟨q_572, q_38, mmg_0.1, mmg_0.2, mmh_6, rfl⟩
theorem mmf_74 : mm_Mok 74 := ⟨q_577, q_38, mmg_0.1, mmg_0.2, mmh_12, rfl⟩
theorem mmf_75 : mm_Mok 75 := ⟨q_581, q_38, mmg_0.1, mmg_0.2, mmh_2, rfl⟩
theorem mmf_76 : mm_Mok 76 := ⟨q_585, q_47, mmg_2.1, mmg_2.2, mmh_27, rfl⟩
theorem mmf_77 : mm_Mok 77 := ⟨q_592, q_47, mmg_2.1, mmg_2.2, mmh_1, rfl⟩
theorem mmf_78 : mm_Mok 78 := ⟨q_596, q_38, mmg_0.1, mmg_0.2, mmh_12, rfl⟩
theorem mmf_79 : mm_Mok 79 := ⟨q_600, q_38, mmg_0.1, mmg_0.2, mmh_6, rfl⟩
theorem mmf_80 : mm_Mok 80 := ⟨q_604, q_47, mmg_2.1, mmg_2.2, mmh_6, rfl⟩
theorem mmf_81 : mm_Mok 81 := ⟨q_610, q_38, mmg_0.1, mmg_0.2, mmh_6, rfl⟩
theorem mmf_82 : mm_Mok 82 := ⟨q_614, q_40, mmg_7.1, mmg_7.2, mmh_9, rfl⟩
theorem mmf_83 : mm_Mok 83 := ⟨q_618, q_47, mmg_2.1, mmg_2.2, mmh_6, rfl⟩
theorem mmf_84 : mm_Mok 84 := ⟨q_622, q_40, mmg_7.1, mmg_7.2, mmh_13, rfl⟩
theorem mmf_85 : mm_Mok 85 := ⟨q_626, q_38, mmg_0.1, mmg_0.2, mmh_1, rfl⟩
theorem mmf_86 : mm_Mok 86 := ⟨q_631, q_38, mmg_0.1, mmg_0.2, mmh_12, rfl⟩
theorem mmf_87 : mm_Mok 87 := ⟨q_635, q_38, mmg_0.1, mmg_0.2, mmh_10, rfl⟩
theorem mmf_88 : mm_Mok 88 := ⟨q_640, q_38, mmg_0.1, mmg_0.2, mmh_1, rfl⟩
theorem mmf_89 : mm_Mok 89 := ⟨q_644, q_47, mmg_2.1, mmg_2.2, mmh_1, rfl⟩
theorem mmf_90 : mm_Mok 90 := ⟨q_649, q_47, mmg_2.1, mmg_2.2, mmh_9, rfl⟩
theorem mmf_91 : mm_Mok 91 := ⟨q_653, q_38, mmg_0.1, mmg_0.2, mmh_1, rfl⟩
theorem mmf_92 : mm_Mok 92 := ⟨q_657, q_38, mmg_0.1, mmg_0.2, mmh_1, rfl⟩
theorem mmf_93 : mm_Mok 93 := ⟨q_661, q_38, mmg_0.1, mmg_0.2, mmh_1, rfl⟩
theorem mmf_94 : mm_Mok 94 := ⟨q_665, q_38, mmg_0.1, mmg_0.2, mmh_6, rfl⟩
theorem mmf_95 : mm_Mok 95 := ⟨q_669, q_40, mmg_7.1, mmg_7.2, mmh_1, rfl⟩
theorem mmf_96 : mm_Mok 96 := ⟨q_673, q_38, mmg_0.1, mmg_0.2, mmh_12, rfl⟩
theorem mmf_97 : mm_Mok 97 := ⟨q_677, q_38, mmg_0.1, mmg_0.2, mmh_6, rfl⟩
theorem mmf_98 : mm_Mok 98 := ⟨q_681, q_47, mmg_2.1, mmg_2.2, mmh_1, rfl⟩
theorem mmf_99 : mm_Mok 99 := ⟨q_688, q_47, mmg_2.1, mmg_2.2, mmh_1, rfl⟩
theorem mmf_100 : mm_Mok 100 := ⟨q_692, q_47, mmg_2.1, mmg_2.2, mmh_12, rfl⟩
theorem mmf_101 : mm_Mok 101 := ⟨q_696, q_38, mmg_0.1, mmg_0.2, mmh_6, rfl⟩
theorem mmf_102 : mm_Mok 102 := ⟨q_700, q_47, mmg_2.1, mmg_2.2, mmh_1, rfl⟩
theorem mmf_103 : mm_Mok 103 := ⟨q_704, q_47, mmg_2.1, mmg_2.2, mmh_1, rfl⟩
theorem mmf_104 : mm_Mok 104 := ⟨q_708, q_47, mmg_2.1, mmg_2.2, mmh_1, rfl⟩
theorem mmf_105 : mm_Mok 105 := ⟨q_712, q_38, mmg_0.1, mmg_0.2, mmh_15, rfl⟩
theorem mmf_106 : mm_Mok 106 := ⟨q_717, q_38, mmg_0.1, mmg_0.2, mmh_19, rfl⟩
theorem mmf_107 : mm_Mok 107 := ⟨q_721, q_38, mmg_0.1, mmg_0.2, mmh_18, rfl⟩
theorem mmf_108 : mm_Mok 108 := ⟨q_725, q_38, mmg_0.1, mmg_0.2, mmh_7, rfl⟩
theorem mmf_109 : mm_Mok 109 := ⟨q_730, q_38, mmg_0.1, mmg_0.2, mmh_12, rfl⟩
theorem mmf_110 : mm_Mok 110 := ⟨q_733, q_56, mmg_11.1, mmg_11.2, mmh_6, rfl⟩
theorem mmf_111 : mm_Mok 111 := ⟨q_739, q_38, mmg_0.1, mmg_0.2, mmh_23, rfl⟩
theorem mmf_112 : mm_Mok 112 := ⟨q_742, q_38, mmg_0.1, mmg_0.2, mmh_25, rfl⟩
theorem mmf_113 : mm_Mok 113 := ⟨q_745, q_38, mmg_0.1, mmg_0.2, mmh_24, rfl⟩
theorem mmf_114 : mm_Mok 114 := ⟨q_749, q_38, mmg_0.1, mmg_0.2, mmh_7, rfl⟩
theorem mmf_115 : mm_Mok 115 := ⟨q_754, q_38, mmg_0.1, mmg_0.2, mmh_6, rfl⟩
theorem mmf_116 : mm_Mok 116 := ⟨q_758, q_38, mmg_0.1, mmg_0.2, mmh_1, rfl⟩
theorem mmf_117 : mm_Mok 117 := ⟨q_762, q_38, mmg_0.1, mmg_0.2, mmh_28, rfl⟩
theorem mmf_118 : mm_Mok 118 := ⟨q_766, q_38, mmg_0.1, mmg_0.2, mmh_1, rfl⟩
theorem mmf_119 : mm_Mok 119 := ⟨q_770, q_38, mmg_0.1, mmg_0.2, mmh_6, rfl⟩
theorem mmf_120 : mm_Mok 120 := ⟨q_774, q_38, mmg_0.1, mmg_0.2, mmh_1, rfl⟩
theorem mmf_121 : mm_Mok 121 := ⟨q_778, q_38, mmg_0.1, mmg_0.2, mmh_1, rfl⟩
theorem mmf_122 : mm_Mok 122 := ⟨q_782, q_38, mmg_0.1, mmg_0.2, mmh_15, rfl⟩
theorem mmf_123 : mm_Mok 123 := ⟨q_785, q_38, mmg_0.1, mmg_0.2, mmh_6, rfl⟩
theorem mmf_124 : mm_Mok 124 := ⟨q_790, q_38, mmg_0.1, mmg_0.2, mmh_12, rfl⟩
theorem mmf_125 : mm_Mok 125 := ⟨q_795, q_38, mmg_0.1, mmg_0.2, mmh_1, rfl⟩
theorem mmf_126 : mm_Mok 126 := ⟨q_799, q_38, mmg_0.1, mmg_0.2, mmh_1, rfl⟩
theorem mmf_127 : mm_Mok 127 := ⟨q_803, q_38, mmg_0.1, mmg_0.2, mmh_6, rfl⟩
theorem mmf_128 : mm_Mok 128 := ⟨q_808, q_48, mmg_10.1, mmg_10.2, mmh_3, rfl⟩
theorem mmf_129 : mm_Mok 129 := ⟨q_856, q_48, mmg_10.1, mmg_10.2, mmh_6, rfl⟩
theorem mmf_130 : mm_Mok 130 := ⟨q_860, q_48, mmg_10.1, mmg_10.2, mmh_6, rfl⟩
theorem mmf_131 : mm_Mok 131 := ⟨q_864, q_48, mmg_10.1, mmg_10.2, mmh_1, rfl⟩
theorem mmf_132 : mm_Mok 132 := ⟨q_868, q_48, mmg_10.1, mmg_10.2, mmh_4, rfl⟩
theorem mmf_133 : mm_Mok 133 := ⟨q_872, q_48, mmg_10.1, mmg_10.2, mmh_1, rfl⟩
theorem mmf_134 : mm_Mok 134 := ⟨q_876, q_48, mmg_10.1, mmg_10.2, mmh_14, rfl⟩
theorem mmf_135 : mm_Mok 135 := ⟨q_879, q_48, mmg_10.1, mmg_10.2, mmh_16, rfl⟩
theorem mmf_136 : mm_Mok 136 := ⟨q_883, q_48, mmg_10.1, mmg_10.2, mmh_4, rfl⟩
theorem mmf_137 : mm_Mok 137 := ⟨q_886, q_48, mmg_10.1, mmg_10.2, mmh_6, rfl⟩
theorem mmf_138 : mm_Mok 138 := ⟨q_889, q_48, mmg_10.1, mmg_10.2, mmh_35, rfl⟩
theorem mmf_139 : mm_Mok 139 := ⟨q_893, q_48, mmg_10.1, mmg_10.2, mmh_10, rfl⟩
theorem mmf_140 : mm_Mok 140 := ⟨q_896, q_48, mmg_10.1, mmg_10.2, mmh_10, rfl⟩
theorem mmf_141 : mm_Mok 141 := ⟨q_899, q_48, mmg_10.1, mmg_10.2, mmh_12, rfl⟩
theorem mmf_142 : mm_Mok 142 := ⟨q_903, q_48, mmg_10.1, mmg_10.2, mmh_10, rfl⟩
theorem mmf_143 : mm_Mok 143 := ⟨q_906, q_48, mmg_10.1, mmg_10.2, mmh_33, rfl⟩
theorem mmf_144 : mm_Mok 144 := ⟨q_909, q_48, mmg_10.1, mmg_10.2, mmh_32, rfl⟩
theorem mmf_145 : mm_Mok 145 := ⟨q_912, q_48, mmg_10.1, mmg_10.2, mmh_33, rfl⟩
theorem mmf_146 : mm_Mok 146 := ⟨q_915, q_48, mmg_10.1, mmg_10.2, mmh_33, rfl⟩
theorem mmf_147 : mm_Mok 147 := ⟨q_918, q_48, mmg_10.1, mmg_10.2, mmh_34, rfl⟩
theorem mmf_148 : mm_Mok 148 := ⟨q_921, q_48, mmg_10.1, mmg_10.2, mmh_31, rfl⟩
theorem mmf_149 : mm_Mok 149 := ⟨q_924, q_48, mmg_10.1, mmg_10.2, mmh_12, rfl⟩
theorem mmf_150 : mm_Mok 150 := ⟨q_927, q_48, mmg_10.1, mmg_10.2, mmh_32, rfl⟩
theorem mmf_151 : mm_Mok 151 := ⟨q_930, q_48, mmg_10.1, mmg_10.2, mmh_14, rfl⟩
theorem mmf_152 : mm_Mok 152 := ⟨q_933, q_48, mmg_10.1, mmg_10.2, mmh_32, rfl⟩
theorem mmf_153 : mm_Mok 153 := ⟨q_936, q_48, mmg_10.1, mmg_10.2, mmh_12, rfl⟩
theorem mmf_154 : mm_Mok 154 := ⟨q_939, q_48, mmg_10.1, mmg_10.2, mmh_12, rfl⟩
theorem mmf_155 : mm_Mok 155 := ⟨q_943, q_48, mmg_10.1, mmg_10.2, mmh_12, rfl⟩
theorem mmf_156 : mm_Mok 156 := ⟨q_947, q_48, mmg_10.1, mmg_10.2, mmh_12, rfl⟩
theorem mmf_157 : mm_Mok 157 := ⟨q_951, q_48, mmg_10.1, mmg_10.2, mmh_6, rfl⟩
theorem mmf_158 : mm_Mok 158 := ⟨q_955, q_48, mmg_10.1, mmg_10.2, mmh_12, rfl⟩
theorem mmf_159 : mm_Mok 159 := ⟨q_958, q_48, mmg_10.1, mmg_10.2, mmh_15, rfl⟩
theorem mmf_160 : mm_Mok 160 := ⟨q_962, q_48, mmg_10.1, mmg_10.2, mmh_12, rfl⟩
theorem mmf_161 : mm_Mok 161 := ⟨q_966, q_48, mmg_10.1, mmg_10.2, mmh_6, rfl⟩
theorem mmf_162 : mm_Mok 162 := ⟨q_970, q_48, mmg_10.1, mmg_10.2, mmh_6, rfl⟩
theorem mmf_163 : mm_Mok 163 := ⟨q_974, q_48, mmg_10.1, mmg_10.2, mmh_6, rfl⟩
theorem mmf_164 : mm_Mok 164 := ⟨q_978, q_48, mmg_10.1, mmg_10.2, mmh_6, rfl⟩
theorem mmf_165 : mm_Mok 165 := ⟨q_982, q_48, mmg_10.1, mmg_10.2, mmh_6, rfl⟩
theorem mmf_166 : mm_Mok 166 := ⟨q_986, q_48, mmg_10.1, mmg_10.2, mmh_15, rfl⟩
theorem mmf_167 : mm_Mok 167 := ⟨q_990, q_48, mmg_10.1, mmg_10.2, mmh_6, rfl⟩
theorem mmf_168 : mm_Mok 168 := ⟨q_994, q_48, mmg_10.1, mmg_10.2, mmh_12, rfl⟩
theorem mmf_169 : mm_Mok 169 := ⟨q_998, q_48, mmg_10.1, mmg_10.2, mmh_9, rfl⟩
theorem mmf_170 : mm_Mok 170 := ⟨q_1001, q_48, mmg_10.1, mmg_10.2, mmh_31, rfl⟩
theorem mmf_171 : mm_Mok 171 := ⟨q_1005, q_48, mmg_10.1, mmg_10.2, mmh_12, rfl⟩
theorem mmf_172 : mm_Mok 172 := ⟨q_1009, q_48, mmg_10.1, mmg_10.2, mmh_6, rfl⟩
theorem mmf_173 : mm_Mok 173 := ⟨q_1013, q_48, mmg_10.1, mmg_10.2, mmh_6, rfl⟩
theorem mmf_174 : mm_Mok 174 := ⟨q_1017, q_48, mmg_10.1, mmg_10.2, mmh_6, rfl⟩
theorem mmf_175 : mm_Mok 175 := ⟨q_1021, q_48, mmg_10.1, mmg_10.2, mmh_1, rfl⟩
theorem mmf_176 : mm_Mok 176 := ⟨q_1026, q_48, mmg_10.1, mmg_10.2, mmh_6, rfl⟩
theorem mmf_177 : mm_Mok 177 := ⟨q_1030, q_48, mmg_10.1, mmg_10.2, mmh_1, rfl⟩
theorem mmf_178 : mm_Mok 178 := ⟨q_1034, q_48, mmg_10.1, mmg_10.2, mmh_12, rfl⟩
theorem mmf_179 : mm_Mok 179 := ⟨q_1038, q_48, mmg_10.1, mmg_10.2, mmh_1, rfl⟩
theorem mmf_180 : mm_Mok 180 := ⟨q_1042, q_48, mmg_10.1, mmg_10.2, mmh_1, rfl⟩
theorem mmf_181 : mm_Mok 181 := ⟨q_1046, q_48, mmg_10.1, mmg_10.2, mmh_1, rfl⟩
theorem mmf_182 : mm_Mok 182 := ⟨q_1049, q_48, mmg_10.1, mmg_10.2, mmh_6, rfl⟩
theorem mmf_183 : mm_Mok 183 := ⟨q_1052, q_48, mmg_10.1, mmg_10.2, mmh_33, rfl⟩
theorem mmf_184 : mm_Mok 184 := ⟨q_1056, q_48, mmg_10.1, mmg_10.2, mmh_1, rfl⟩
theorem mmf_185 : mm_Mok 185 := ⟨q_1060, q_48, mmg_10.1, mmg_10.2, mmh_1, rfl⟩
theorem mmf_186 : mm_Mok 186 := ⟨q_1064, q_48, mmg_10.1, mmg_10.2, mmh_1, rfl⟩
theorem mmf_187 : mm_Mok 187 := ⟨q_1068, q_48, mmg_10.1, mmg_10.2, mmh_6, rfl⟩
theorem mmf_188 : mm_Mok 188 := ⟨q_1072, q_48, mmg_10.1, mmg_10.2, mmh_12, rfl⟩
theorem mmf_189 : mm_Mok 189 := ⟨q_1076, q_48, mmg_10.1, mmg_10.2, mmh_6, rfl⟩
theorem mmf_190 : mm_Mok 190 := ⟨q_1079, q_48, mmg_10.1, mmg_10.2, mmh_16, rfl⟩
theorem mmf_191 : mm_Mok 191 := ⟨q_1082, q_48, mmg_10.1, mmg_10.2, mmh_12, rfl⟩
theorem mmf_192 : mm_Mok 192 := ⟨q_1085, q_48, mmg_10.1, mmg_10.2, mmh_6, rfl⟩
theorem mmf_193 : mm_Mok 193 := ⟨q_1089, q_48, mmg_10.1, mmg_10.2, mmh_6, rfl⟩
theorem mmf_194 : mm_Mok 194 := ⟨q_1093, q_48, mmg_10.1, mmg_10.2, mmh_1, rfl⟩
theorem mmf_195 : mm_Mok 195 := ⟨q_1097, q_48, mmg_10.1, mmg_10.2, mmh_15, rfl⟩
theorem mmf_196 : mm_Mok 196 := ⟨q_1101, q_48, mmg_10.1, mmg_10.2, mmh_20, rfl⟩
theorem mmf_197 : mm_Mok 197 := ⟨q_1105, q_48, mmg_10.1, mmg_10.2, mmh_18, rfl⟩
theorem mmf_198 : mm_Mok 198 := ⟨q_1109, q_48, mmg_10.1, mmg_10.2, mmh_7, rfl⟩
theorem mmf_199 : mm_Mok 199 := ⟨q_1113, q_48, mmg_10.1, mmg_10.2, mmh_25, rfl⟩
theorem mmf_200 : mm_Mok 200 := ⟨q_1116, q_48, mmg_10.1, mmg_10.2, mmh_24, rfl⟩
theorem mmf_201 : mm_Mok 201 := ⟨q_1120, q_48, mmg_10.1, mmg_10.2, mmh_7, rfl⟩
theorem mmf_202 : mm_Mok 202 := ⟨q_1125, q_48, mmg_10.1, mmg_10.2, mmh_6, rfl⟩
theorem mmf_203 : mm_Mok 203 := ⟨q_1129, q_48, mmg_10.1, mmg_10.2, mmh_4, rfl⟩
theorem mmf_204 : mm_Mok 204 := ⟨q_1133, q_48, mmg_10.1, mmg_10.2, mmh_6, rfl⟩
theorem mmf_205 : mm_Mok 205 := ⟨q_1137, q_48, mmg_10.1, mmg_10.2, mmh_1, rfl⟩
theorem mmf_206 : mm_Mok 206 := ⟨q_1141, q_48, mmg_10.1, mmg_10.2, mmh_1, rfl⟩
theorem mmf_207 : mm_Mok 207 := ⟨q_1145, q_48, mmg_10.1, mmg_10.2, mmh_15, rfl⟩
theorem mmf_208 : mm_Mok 208 := ⟨q_1149, q_48, mmg_10.1, mmg_10.2, mmh_6, rfl⟩
theorem mmf_209 : mm_Mok 209 := ⟨q_1156, q_48, mmg_10.1, mmg_10.2, mmh_1, rfl⟩
theorem mmf_210 : mm_Mok 210 := ⟨q_1160, q_48, mmg_10.1, mmg_10.2, mmh_1, rfl⟩
theorem mmf_211 : mm_Mok 211 := ⟨q_1164, q_48, mmg_10.1, mmg_10.2, mmh_6, rfl⟩
theorem mm_mok : ∀ z, 0 < z → z < 212 → mm_Mok z := by
  intro z h0 h1
  match z, h0, h1 with
  | 1, _, _ => exact mmf_1
  | 2, _, _ => exact mmf_2
  | 3, _, _ => exact mmf_3
  | 4, _, _ => exact mmf_4
  | 5, _, _ => exact mmf_5
  | 6, _, _ => exact mmf_6
  | 7, _, _ => exact mmf_7
  | 8, _, _ => exact mmf_8
  | 9, _, _ => exact mmf_9
  | 10, _, _ => exact mmf_10
  | 11, _, _ => exact mmf_11
  | 12, _, _ => exact mmf_12
  | 13, _, _ => exact mmf_13
  | 14, _, _ => exact mmf_14
  | 15, _, _ => exact mmf_15
  | 16, _, _ => exact mmf_16
  | 17, _, _ => exact mmf_17
  | 18, _, _ => exact mmf_18
  | 19, _, _ => exact mmf_19
  | 20, _, _ => exact mmf_20
  | 21, _, _ => exact mmf_21
  | 22, _, _ => exact mmf_22
  | 23, _, _ => exact mmf_23
  | 24, _, _ => exact mmf_24
  | 25, _, _ => exact mmf_25
  | 26, _, _ => exact mmf_26
  | 27, _, _ => exact mmf_27
  | 28, _, _ => exact mmf_28
  | 29, _, _ => exact mmf_29
  | 30, _, _ => exact mmf_30
  | 31, _, _ => exact mmf_31
  | 32, _, _ => exact mmf_32
  | 33, _, _ => exact mmf_33
  | 34, _, _ => exact mmf_34
  | 35, _, _ => exact mmf_35
  | 36, _, _ => exact mmf_36
  | 37, _, _ => exact mmf_37
  | 38, _, _ => exact mmf_38
  | 39, _, _ => exact mmf_39
  | 40, _, _ => exact mmf_40
  | 41, _, _ => exact mmf_41
  | 42, _, _ => exact mmf_42
  | 43, _, _ => exact mmf_43
  | 44, _, _ => exact mmf_44
  | 45, _, _ => exact mmf_45
  | 46, _, _ => exact mmf_46
  | 47, _, _ => exact mmf_47
  | 48, _, _ => exact mmf_48
  | 49, _, _ => exact mmf_49
  | 50, _, _ => exact mmf_50
  | 51, _, _ => exact mmf_51
  | 52, _, _ => exact mmf_52
  | 53, _, _ => exact mmf_53
  | 54, _, _ => exact mmf_54
  | 55, _, _ => exact mmf_55
  | 56, _, _ => exact mmf_56
  | 57, _, _ => exact mmf_57
  | 58, _, _ => exact mmf_58
  | 59, _, _ => exact mmf_59
  | 60, _, _ => exact mmf_60
  | 61, _, _ => exact mmf_61
  | 62, _, _ => exact mmf_62
  | 63, _, _ => exact mmf_63
  | 64, _, _ => exact mmf_64
  | 65, _, _ => exact mmf_65
  | 66, _, _ => exact mmf_66
  | 67, _, _ => exact mmf_67
  | 68, _, _ => exact mmf_68
  | 69, _, _ => exact mmf_69
  | 70, _, _ => exact mmf_70
  | 71, _, _ => exact mmf_71
  | 72, _, _ => exact mmf_72
  | 73, _, _ => exact mmf_73
  | 74, _, _ => exact mmf_74
  | 75, _, _ => exact mmf_75
  | 76, _, _ => exact mmf_76
  | 77, _, _ => exact mmf_77
  | 78, _, _ => exact mmf_78
  | 79, _, _ => exact mmf_79
  | 80, _, _ => exact mmf_80
  | 81, _, _ => exact mmf_81
  | 82, _, _ => exact mmf_82
  | 83, _, _ => exact mmf_83
  | 84, _, _ => exact mmf_84
  | 85, _, _ => exact mmf_85
  | 86, _, _ => exact mmf_86
  | 87, _, _ => exact mmf_87
  | 88, _, _ => exact mmf_88
  | 89, _, _ => exact mmf_89
  | 90, _, _ => exact mmf_90
  | 91, _, _ => exact mmf_91
  | 92, _, _ => exact mmf_92
  | 93, _, _ => exact mmf_93
  | 94, _, _ => exact mmf_94
  | 95, _, _ => exact mmf_95
  | 96, _, _ => exact mmf_96
  | 97, _, _ => exact mmf_97
  | 98, _, _ => exact mmf_98
  | 99, _, _ => exact mmf_99
  | 100, _, _ => exact mmf_100
  | 101, _, _ => exact mmf_101
  | 102, _, _ => exact mmf_102
  | 103, _, _ => exact mmf_103
  | 104, _, _ => exact mmf_104
  | 105, _, _ => exact mmf_105
  | 106, _, _ => exact mmf_106
  | 107, _, _ => exact mmf_107
  | 108, _, _ => exact mmf_108
  | 109, _, _ => exact mmf_109
  | 110, _, _ => exact mmf_110
  | 111, _, _ => exact mmf_111
  | 112, _, _ => exact mmf_112
  | 113, _, _ => exact mmf_113
  | 114, _, _ => exact mmf_114
  | 115, _, _ => exact mmf_115
  | 116, _, _ => exact mmf_116
  | 117, _, _ => exact mmf_117
  | 118, _, _ => exact mmf_118
  | 119, _, _ => exact mmf_119
  | 120, _, _ => exact mmf_120
  | 121, _, _ => exact mmf_121
  | 122, _, _ => exact mmf_122
  | 123, _, _ => exact mmf_123
  | 124, _, _ => exact mmf_124
  | 125, _, _ => exact mmf_125
  | 126, _, _ => exact mmf_126
  | 127, _, _ => exact mmf_127
  | 128, _, _ => exact mmf_128
  | 129, _, _ => exact mmf_129
  | 130, _, _ => exact mmf_130
  | 131, _, _ => exact mmf_131
  | 132, _, _ => exact mmf_132
  | 133, _, _ => exact mmf_133
  | 134, _, _ => exact mmf_134
  | 135, _, _ => exact mmf_135
  | 136, _, _ => exact mmf_136
  | 137, _, _ => exact mmf_137
  | 138, _, _ => exact mmf_138
  | 139, _, _ => exact mmf_139
  | 140, _, _ => exact mmf_140
  | 141, _, _ => exact mmf_141
  | 142, _, _ => exact mmf_142
  | 143, _, _ => exact mmf_143
  | 144, _, _ => exact mmf_144
  | 145, _, _ => exact mmf_145
  | 146, _, _ => exact mmf_146
  | 147, _, _ => exact mmf_147
  | 148, _, _ => exact mmf_148
  | 149, _, _ => exact mmf_149
  | 150, _, _ => exact mmf_150
  | 151, _, _ => exact mmf_151
  | 152, _, _ => exact mmf_152
  | 153, _, _ => exact mmf_153
  | 154, _, _ => exact mmf_154
  | 155, _, _ => exact mmf_155
  | 156, _, _ => exact mmf_156
  | 157, _, _ => exact mmf_157
  | 158, _, _ => exact mmf_158
  | 159, _, _ => exact mmf_159
  | 160, _, _ => exact mmf_160
  | 161, _, _ => exact mmf_161
  | 162, _, _ => exact mmf_162
  | 163, _, _ => exact mmf_163
  | 164, _, _ => exact mmf_164
  | 165, _, _ => exact mmf_165
  | 166, _, _ => exact mmf_166
  | 167, _, _ => exact mmf_167
  | 168, _, _ => exact mmf_168
  | 169, _, _ => exact mmf_169
  | 170, _, _ => exact mmf_170
  | 171, _, _ => exact mmf_171
  | 172, _, _ => exact mmf_172
  | 173, _, _ => exact mmf_173
  | 174, _, _ => exact mmf_174
  | 175, _, _ => exact mmf_175
  | 176, _, _ => exact mmf_176
  | 177, _, _ => exact mmf_177
  | 178, _, _ => exact mmf_178
  | 179, _, _ => exact mmf_179
  | 180, _, _ => exact mmf_180
  | 181, _, _ => exact mmf_181
  | 182, _, _ => exact mmf_182
  | 183, _, _ => exact mmf_183
  | 184, _, _ => exact mmf_184
  | 185, _, _ => exact mmf_185
  | 186, _, _ => exact mmf_186
  | 187, _, _ => exact mmf_187
  | 188, _, _ => exact mmf_188
  | 189, _, _ => exact mmf_189
  | 190, _, _ => exact mmf_190
  | 191, _, _ => exact mmf_191
  | 192, _, _ => exact mmf_192
  | 193, _, _ => exact mmf_193
  | 194, _, _ => exact mmf_194
  | 195, _, _ => exact mmf_195
  | 196, _, _ => exact mmf_196
  | 197, _, _ => exact mmf_197
  | 198, _, _ => exact mmf_198
  | 199, _, _ => exact mmf_199
  | 200, _, _ => exact mmf_200
  | 201, _, _ => exact mmf_201
  | 202, _, _ => exact mmf_202
  | 203, _, _ => exact mmf_203
  | 204, _, _ => exact mmf_204
  | 205, _, _ => exact mmf_205
  | 206, _, _ => exact mmf_206
  | 207, _, _ => exact mmf_207
  | 208, _, _ => exact mmf_208
  | 209, _, _ => exact mmf_209
  | 210, _, _ => exact mmf_210
  | 211, _, _ => exact mmf_211
  | k + 212, _, h => exact absurd h (by omega)
theorem mm_qM3 : Cond.static Lib.Math.abs.name ∈ lw_tbl := q_683
theorem mm_qM4 : Cond.static Lib.Math.max.name ∈ lw_tbl := q_352
theorem mm_qM5 : Cond.static Lib.Math.min.name ∈ lw_tbl := q_355
theorem mm_qC3 : Cond.code Lib.Math.abs.name Lib.Math.abs.code 1 (some .int) ∈ lw_tbl := q_684
theorem mm_qC4 : Cond.code Lib.Math.max.name Lib.Math.max.code 2 (some .int) ∈ lw_tbl := q_353
theorem mm_qC5 : Cond.code Lib.Math.min.name Lib.Math.min.code 2 (some .int) ∈ lw_tbl := q_356
theorem mm_qMi : Cond.initialized "java/lang/Math" ∈ lw_tbl := q_53
theorem mm_qSi : Cond.initialized "java/lang/System" ∈ lw_tbl := q_55
theorem mm_qSn : Cond.native arraycopyName ∈ lw_tbl := q_588
theorem mm_qSs : Cond.static arraycopyName ∈ lw_tbl := q_587
theorem mm_qOi : Cond.instanceMethod objectInit ∈ lw_tbl := q_63
theorem mm_qOc : Cond.code objectInit ⟨#[0xb1]⟩ 1 none ∈ lw_tbl := q_64
theorem mm_qZ1 : Cond.laysStatic "java/lang/String" "COMPACT_STRINGS" "Z" ∈ lw_tbl := q_293
theorem mm_qZ2 : Cond.laysStatic "jdk/internal/util/Preconditions" "SIOOBE_FORMATTER" "Ljava/util/function/BiFunction;" ∈ lw_tbl := q_309
theorem mm_qZ3 : Cond.initialized "java/lang/String" ∈ lw_tbl := q_49
theorem mm_qZ4 : Cond.initialized "jdk/internal/util/Preconditions" ∈ lw_tbl := q_51
theorem mm_qT0 : Cond.stringRef "SovereignInBarrow$Telling" (mm_six 0) (mm_stx 0) ∈ lw_tbl := q_275
theorem mm_qT1 : Cond.stringRef "SovereignInBarrow$Telling" (mm_six 1) (mm_stx 1) ∈ lw_tbl := q_276
theorem mm_qT2 : Cond.stringRef "SovereignInBarrow$Telling" (mm_six 2) (mm_stx 2) ∈ lw_tbl := q_277
theorem mm_qT3 : Cond.stringRef "SovereignInBarrow$Telling" (mm_six 3) (mm_stx 3) ∈ lw_tbl := q_278
theorem mm_qT4 : Cond.stringRef "SovereignInBarrow$Telling" (mm_six 4) (mm_stx 4) ∈ lw_tbl := q_279
theorem mm_qT5 : Cond.stringRef "SovereignInBarrow$Telling" (mm_six 5) (mm_stx 5) ∈ lw_tbl := q_335
theorem mm_qAi : Cond.arrayClass .int ∈ lw_tbl := q_85
theorem mm_qAo : Cond.arrayOver (.object "SovereignInBarrow$Minister") ∈ lw_tbl := q_101
theorem mm_qK2 : Cond.castable RX2 "SovereignInBarrow$Minister" ∈ lw_tbl := q_1167
theorem mm_qK7 : Cond.castable RX7 "SovereignInBarrow$Minister" ∈ lw_tbl := q_1168
theorem mm_qK0 : Cond.castable RX0 "SovereignInBarrow$Minister" ∈ lw_tbl := q_1169
theorem mm_qK5 : Cond.castable RX5 "SovereignInBarrow$Minister" ∈ lw_tbl := q_1170
theorem mm_qK4 : Cond.castable RX4 "SovereignInBarrow$Minister" ∈ lw_tbl := q_1171
theorem mm_qN0 : Cond.instantiable RX0 0 ∈ lw_tbl := q_123
theorem mm_qI0 : Cond.initialized RX0 ∈ lw_tbl := q_44
theorem mm_qN1 : Cond.instantiable RX1 13 ∈ lw_tbl := q_144
theorem mm_qI1 : Cond.initialized RX1 ∈ lw_tbl := q_47
theorem mm_qN2 : Cond.instantiable RX2 0 ∈ lw_tbl := q_109
theorem mm_qI2 : Cond.initialized RX2 ∈ lw_tbl := q_42
theorem mm_qN3 : Cond.instantiable RX3 0 ∈ lw_tbl := q_102
theorem mm_qI3 : Cond.initialized RX3 ∈ lw_tbl := q_41
theorem mm_qN4 : Cond.instantiable RX4 0 ∈ lw_tbl := q_137
theorem mm_qI4 : Cond.initialized RX4 ∈ lw_tbl := q_46
theorem mm_qN5 : Cond.instantiable RX5 0 ∈ lw_tbl := q_130
theorem mm_qI5 : Cond.initialized RX5 ∈ lw_tbl := q_45
theorem mm_qN6 : Cond.instantiable RX6 2 ∈ lw_tbl := q_87
theorem mm_qI6 : Cond.initialized RX6 ∈ lw_tbl := q_40
theorem mm_qN7 : Cond.instantiable RX7 0 ∈ lw_tbl := q_116
theorem mm_qI7 : Cond.initialized RX7 ∈ lw_tbl := q_43
theorem mm_qN8 : Cond.instantiable RX8 4 ∈ lw_tbl := q_66
theorem mm_qI8 : Cond.initialized RX8 ∈ lw_tbl := q_39
theorem mm_qN9 : Cond.instantiable RX9 12 ∈ lw_tbl := q_58
theorem mm_qI9 : Cond.initialized RX9 ∈ lw_tbl := q_38
theorem mm_qN10 : Cond.instantiable RX10 14 ∈ lw_tbl := q_805
theorem mm_qI10 : Cond.initialized RX10 ∈ lw_tbl := q_48
