set_option maxRecDepth 100000 in
theorem mmkw_0 : wz_w mmc_0 [0, 4, 8, 12, 206, 216, 224, 229, 247, 262, 280, 295, 308, 318, 336, 351, 364, 374, 387, 397, 410, 420, 433, 443, 456, 466, 489, 509, 522, 532, 550, 565, 583, 598, 611, 621, 634, 644, 652, 657, 675, 689, 698, 703, 711, 716, 724, 729, 737, 742, 755, 765, 783, 798, 811, 821, 834, 844, 867, 887, 915, 940, 953, 963, 976, 986, 999, 1009, 1017, 1022, 1030, 1035, 1058, 1078, 1086, 1091, 1099, 1104, 1117, 1127] [7, 15, 20, 32, 918, 943, 956, 966] 1142 (mm_by 0).data.toList 0 = true := by decide +kernel
set_option maxRecDepth 100000 in
set_option maxHeartbeats 4000000 in
theorem mmkn_0 (pc : Nat) (h : 1142 ≤ pc) : mmc_0 pc = none :=
  wz_rs h rfl (wz_rs h rfl (wz_rs h rfl (wz_rs h rfl (wz_rs h rfl (wz_rs h rfl (wz_rs h rfl (wz_rs h rfl (wz_rs h rfl (wz_rs h rfl (wz_re h rfl))))))))))
set_option maxRecDepth 100000 in
set_option maxHeartbeats 4000000 in
theorem mmks_0 : wz_A (wz_PS 0 mmc_0) [0, 4, 8, 12, 206, 216, 224, 229, 247, 262, 280, 295, 308, 318, 336, 351, 364, 374, 387, 397, 410, 420, 433, 443, 456, 466, 489, 509, 522, 532, 550, 565, 583, 598, 611, 621, 634, 644, 652, 657, 675, 689, 698, 703, 711, 716, 724, 729, 737, 742, 755, 765, 783, 798, 811, 821, 834, 844, 867, 887, 915, 940, 953, 963, 976, 986, 999, 1009, 1017, 1022, 1030, 1035, 1058, 1078, 1086, 1091, 1099, 1104, 1117, 1127] :=
  wz_c (wz_sp (.new 7, [(9, 0)]) rfl (⟨_, rfl, q_57⟩)) (wz_c (wz_sp (.invokespecial 9, [(0, 1)]) rfl (⟨Or.inl q_59, q_60, rfl, rfl, rfl⟩)) (wz_c (wz_sp (.new 10, [(10, 0)]) rfl (⟨_, rfl, q_804⟩)) (wz_c (wz_sp (.invokespecial 12, [(0, 128)]) rfl (⟨Or.inl q_806, q_807, rfl, rfl, rfl⟩)) (wz_c (wz_sp (.invokevirtual 13, [(9, 11)]) rfl (⟨_, rfl, q_244, q_245, q_246, rfl⟩)) (wz_c (wz_sp (.invokevirtual 17, [(10, 129)]) rfl (⟨_, rfl, q_853, q_854, q_855, rfl⟩)) (wz_c (wz_sp (.invokevirtual 18, [(9, 14)]) rfl (⟨_, rfl, q_256, q_257, q_258, rfl⟩)) (wz_c (wz_sp (.invokevirtual 22, [(10, 131)]) rfl (⟨_, rfl, q_861, q_862, q_863, rfl⟩)) (wz_c (wz_sp (.invokevirtual 23, [(9, 60)]) rfl (⟨_, rfl, q_510, q_511, q_512, rfl⟩)) (wz_c (wz_sp (.invokevirtual 27, [(10, 155)]) rfl (⟨_, rfl, q_940, q_941, q_942, rfl⟩)) (wz_c (wz_sp (.invokevirtual 28, [(9, 63)]) rfl (⟨_, rfl, q_523, q_524, q_525, rfl⟩)) (wz_c (wz_sp (.invokevirtual 31, [(10, 156)]) rfl (⟨_, rfl, q_944, q_945, q_946, rfl⟩)) (wz_c (wz_sp (.invokevirtual 32, [(9, 64)]) rfl (⟨_, rfl, q_528, q_529, q_530, rfl⟩)) (wz_c (wz_sp (.invokevirtual 35, [(10, 157)]) rfl (⟨_, rfl, q_948, q_949, q_950, rfl⟩)) (wz_c (wz_sp (.invokevirtual 36, [(9, 65)]) rfl (⟨_, rfl, q_536, q_537, q_538, rfl⟩)) (wz_c (wz_sp (.invokevirtual 39, [(10, 158)]) rfl (⟨_, rfl, q_952, q_953, q_954, rfl⟩)) (wz_c (wz_sp (.invokevirtual 40, [(9, 66)]) rfl (⟨_, rfl, q_540, q_541, q_542, rfl⟩)) (wz_c (wz_sp (.invokevirtual 43, [(10, 161)]) rfl (⟨_, rfl, q_963, q_964, q_965, rfl⟩)) (wz_c (wz_sp (.invokevirtual 44, [(9, 67)]) rfl (⟨_, rfl, q_544, q_545, q_546, rfl⟩)) (wz_c (wz_sp (.invokevirtual 47, [(10, 162)]) rfl (⟨_, rfl, q_967, q_968, q_969, rfl⟩)) (wz_c (wz_sp (.invokevirtual 48, [(9, 68)]) rfl (⟨_, rfl, q_548, q_549, q_550, rfl⟩)) (wz_c (wz_sp (.invokevirtual 51, [(10, 163)]) rfl (⟨_, rfl, q_971, q_972, q_973, rfl⟩)) (wz_c (wz_sp (.invokevirtual 52, [(9, 69)]) rfl (⟨_, rfl, q_552, q_553, q_554, rfl⟩)) (wz_c (wz_sp (.invokevirtual 55, [(10, 164)]) rfl (⟨_, rfl, q_975, q_976, q_977, rfl⟩)) (wz_c (wz_sp (.invokevirtual 56, [(9, 70)]) rfl (⟨_, rfl, q_556, q_557, q_558, rfl⟩)) (wz_c (wz_sp (.invokevirtual 59, [(10, 165)]) rfl (⟨_, rfl, q_979, q_980, q_981, rfl⟩)) (wz_c (wz_sp (.invokevirtual 60, [(9, 72)]) rfl (⟨_, rfl, q_565, q_566, q_567, rfl⟩)) (wz_c (wz_sp (.invokevirtual 64, [(10, 166)]) rfl (⟨_, rfl, q_983, q_984, q_985, rfl⟩)) (wz_c (wz_sp (.invokevirtual 65, [(9, 73)]) rfl (⟨_, rfl, q_569, q_570, q_571, rfl⟩)) (wz_c (wz_sp (.invokevirtual 68, [(10, 167)]) rfl (⟨_, rfl, q_987, q_988, q_989, rfl⟩)) (wz_c (wz_sp (.invokevirtual 69, [(9, 74)]) rfl (⟨_, rfl, q_574, q_575, q_576, rfl⟩)) (wz_c (wz_sp (.invokevirtual 72, [(10, 168)]) rfl (⟨_, rfl, q_991, q_992, q_993, rfl⟩)) (wz_c (wz_sp (.invokevirtual 73, [(9, 78)]) rfl (⟨_, rfl, q_593, q_594, q_595, rfl⟩)) (wz_c (wz_sp (.invokevirtual 76, [(10, 171)]) rfl (⟨_, rfl, q_1002, q_1003, q_1004, rfl⟩)) (wz_c (wz_sp (.invokevirtual 77, [(9, 79)]) rfl (⟨_, rfl, q_597, q_598, q_599, rfl⟩)) (wz_c (wz_sp (.invokevirtual 80, [(10, 172)]) rfl (⟨_, rfl, q_1006, q_1007, q_1008, rfl⟩)) (wz_c (wz_sp (.invokevirtual 81, [(9, 81)]) rfl (⟨_, rfl, q_607, q_608, q_609, rfl⟩)) (wz_c (wz_sp (.invokevirtual 84, [(10, 174)]) rfl (⟨_, rfl, q_1014, q_1015, q_1016, rfl⟩)) (wz_c (wz_sp (.invokevirtual 85, [(9, 85)]) rfl (⟨_, rfl, q_623, q_624, q_625, rfl⟩)) (wz_c (wz_sp (.invokevirtual 88, [(10, 177)]) rfl (⟨_, rfl, q_1027, q_1028, q_1029, rfl⟩)) (wz_c (wz_sp (.invokevirtual 89, [(9, 86)]) rfl (⟨_, rfl, q_628, q_629, q_630, rfl⟩)) (wz_c (wz_sp (.invokevirtual 92, [(10, 178)]) rfl (⟨_, rfl, q_1031, q_1032, q_1033, rfl⟩)) (wz_c (wz_sp (.invokevirtual 93, [(9, 88)]) rfl (⟨_, rfl, q_637, q_638, q_639, rfl⟩)) (wz_c (wz_sp (.invokevirtual 96, [(10, 179)]) rfl (⟨_, rfl, q_1035, q_1036, q_1037, rfl⟩)) (wz_c (wz_sp (.invokevirtual 97, [(9, 91)]) rfl (⟨_, rfl, q_650, q_651, q_652, rfl⟩)) (wz_c (wz_sp (.invokevirtual 100, [(10, 184)]) rfl (⟨_, rfl, q_1053, q_1054, q_1055, rfl⟩)) (wz_c (wz_sp (.invokevirtual 101, [(9, 92)]) rfl (⟨_, rfl, q_654, q_655, q_656, rfl⟩)) (wz_c (wz_sp (.invokevirtual 104, [(10, 185)]) rfl (⟨_, rfl, q_1057, q_1058, q_1059, rfl⟩)) (wz_c (wz_sp (.invokevirtual 105, [(9, 93)]) rfl (⟨_, rfl, q_658, q_659, q_660, rfl⟩)) (wz_c (wz_sp (.invokevirtual 108, [(10, 186)]) rfl (⟨_, rfl, q_1061, q_1062, q_1063, rfl⟩)) (wz_c (wz_sp (.invokevirtual 109, [(9, 94)]) rfl (⟨_, rfl, q_662, q_663, q_664, rfl⟩)) (wz_c (wz_sp (.invokevirtual 112, [(10, 187)]) rfl (⟨_, rfl, q_1065, q_1066, q_1067, rfl⟩)) (wz_c (wz_sp (.invokevirtual 113, [(9, 96)]) rfl (⟨_, rfl, q_670, q_671, q_672, rfl⟩)) (wz_c (wz_sp (.invokevirtual 116, [(10, 188)]) rfl (⟨_, rfl, q_1069, q_1070, q_1071, rfl⟩)) (wz_c (wz_sp (.invokevirtual 117, [(9, 97)]) rfl (⟨_, rfl, q_674, q_675, q_676, rfl⟩)) (wz_c (wz_sp (.invokevirtual 120, [(10, 189)]) rfl (⟨_, rfl, q_1073, q_1074, q_1075, rfl⟩)) (wz_c (wz_sp (.invokevirtual 121, [(9, 101)]) rfl (⟨_, rfl, q_693, q_694, q_695, rfl⟩)) (wz_c (wz_sp (.invokevirtual 124, [(10, 193)]) rfl (⟨_, rfl, q_1086, q_1087, q_1088, rfl⟩)) (wz_c (wz_sp (.invokevirtual 125, [(9, 105)]) rfl (⟨_, rfl, q_709, q_710, q_711, rfl⟩)) (wz_c (wz_sp (.invokevirtual 128, [(10, 195)]) rfl (⟨_, rfl, q_1094, q_1095, q_1096, rfl⟩)) (wz_c (wz_sp (.invokevirtual 129, [(9, 107)]) rfl (⟨_, rfl, q_718, q_719, q_720, rfl⟩)) (wz_c (wz_sp (.invokevirtual 133, [(10, 197)]) rfl (⟨_, rfl, q_1102, q_1103, q_1104, rfl⟩)) (wz_c (wz_sp (.invokevirtual 134, [(9, 114)]) rfl (⟨_, rfl, q_746, q_747, q_748, rfl⟩)) (wz_c (wz_sp (.invokevirtual 138, [(10, 201)]) rfl (⟨_, rfl, q_1117, q_1118, q_1119, rfl⟩)) (wz_c (wz_sp (.invokevirtual 139, [(9, 115)]) rfl (⟨_, rfl, q_751, q_752, q_753, rfl⟩)) (wz_c (wz_sp (.invokevirtual 142, [(10, 202)]) rfl (⟨_, rfl, q_1122, q_1123, q_1124, rfl⟩)) (wz_c (wz_sp (.invokevirtual 143, [(9, 119)]) rfl (⟨_, rfl, q_767, q_768, q_769, rfl⟩)) (wz_c (wz_sp (.invokevirtual 146, [(10, 204)]) rfl (⟨_, rfl, q_1130, q_1131, q_1132, rfl⟩)) (wz_c (wz_sp (.invokevirtual 147, [(9, 120)]) rfl (⟨_, rfl, q_771, q_772, q_773, rfl⟩)) (wz_c (wz_sp (.invokevirtual 150, [(10, 205)]) rfl (⟨_, rfl, q_1134, q_1135, q_1136, rfl⟩)) (wz_c (wz_sp (.invokevirtual 151, [(9, 121)]) rfl (⟨_, rfl, q_775, q_776, q_777, rfl⟩)) (wz_c (wz_sp (.invokevirtual 154, [(10, 206)]) rfl (⟨_, rfl, q_1138, q_1139, q_1140, rfl⟩)) (wz_c (wz_sp (.invokevirtual 155, [(9, 122)]) rfl (⟨_, rfl, q_779, q_780, q_781, rfl⟩)) (wz_c (wz_sp (.invokevirtual 158, [(10, 207)]) rfl (⟨_, rfl, q_1142, q_1143, q_1144, rfl⟩)) (wz_c (wz_sp (.invokevirtual 159, [(9, 125)]) rfl (⟨_, rfl, q_792, q_793, q_794, rfl⟩)) (wz_c (wz_sp (.invokevirtual 162, [(10, 209)]) rfl (⟨_, rfl, q_1153, q_1154, q_1155, rfl⟩)) (wz_c (wz_sp (.invokevirtual 163, [(9, 126)]) rfl (⟨_, rfl, q_796, q_797, q_798, rfl⟩)) (wz_c (wz_sp (.invokevirtual 166, [(10, 210)]) rfl (⟨_, rfl, q_1157, q_1158, q_1159, rfl⟩)) (wz_c (wz_sp (.invokevirtual 167, [(9, 127)]) rfl (⟨_, rfl, q_800, q_801, q_802, rfl⟩)) (wz_c (wz_sp (.invokevirtual 170, [(10, 211)]) rfl (⟨_, rfl, q_1161, q_1162, q_1163, rfl⟩)) (wz_n))))))))))))))))))))))))))))))))))))))))))))))))))))))))))))))))))))))))))))))))
set_option maxRecDepth 100000 in
set_option maxHeartbeats 4000000 in
theorem mmkd_0 : wz_A (wz_PD 0 mmc_0) [7, 15, 20, 32, 918, 943, 956, 966] :=
  wz_c (wz_sd (.astore_n 1, []) 1 rfl (by decide +kernel) (Or.inl rfl)) (wz_c (wz_sd (.astore_n 2, []) 1 rfl (by decide +kernel) (Or.inl rfl)) (wz_c (wz_sd (.arraylength, []) 1 rfl (by decide +kernel) (Or.inl rfl)) (wz_c (wz_sd (.tableswitch 1102 0 37 #[168, 191, 204, 237, 270, 293, 326, 349, 372, 395, 418, 441, 484, 507, 540, 573, 596, 619, 632, 665, 678, 691, 704, 717, 740, 773, 796, 819, 862, 915, 938, 961, 984, 997, 1010, 1053, 1066, 1079], []) 168 rfl (by decide +kernel) (Or.inr rfl)) (wz_c (wz_sd (.pop2, []) 1 rfl (by decide +kernel) (Or.inl rfl)) (wz_c (wz_sd (.pop2, []) 1 rfl (by decide +kernel) (Or.inl rfl)) (wz_c (wz_sd (.pop2, []) 1 rfl (by decide +kernel) (Or.inl rfl)) (wz_c (wz_sd (.pop2, []) 1 rfl (by decide +kernel) (Or.inl rfl)) (wz_n))))))))
theorem mmk_0 (pc : Nat) : ∀ x, mmc_0 pc = some x → mm_K 0 pc x := wz_fin mmkn_0 mmkw_0 mmkd_0 mmks_0 pc
set_option maxRecDepth 100000 in
theorem mmkw_1 : wz_w mmc_1 [1, 5, 9, 12, 20, 28, 32, 36, 39, 47, 54, 61, 66, 71, 75, 81, 85, 91, 95, 101, 105, 111, 115, 121, 125, 131, 136, 139, 143, 148, 151, 155, 160, 163] [18, 26, 45, 52, 59, 66, 129] 167 (mm_by 1).data.toList 0 = true := by decide +kernel
set_option maxRecDepth 100000 in
set_option maxHeartbeats 4000000 in
theorem mmkn_1 (pc : Nat) (h : 167 ≤ pc) : mmc_1 pc = none :=
  wz_rs h rfl (wz_rs h rfl (wz_rs h rfl (wz_rs h rfl (wz_rs h rfl (wz_rs h rfl (wz_rs h rfl (wz_re h rfl)))))))
set_option maxRecDepth 100000 in
set_option maxHeartbeats 4000000 in
theorem mmks_1 : wz_A (wz_PS 1 mmc_1) [1, 5, 9, 12, 20, 28, 32, 36, 39, 47, 54, 61, 66, 71, 75, 81, 85, 91, 95, 101, 105, 111, 115, 121, 125, 131, 136, 139, 143, 148, 151, 155, 160, 163] :=
  wz_c (wz_sp (.invokespecial 1, [(2, 0)]) rfl (⟨q_62, by decide, by decide⟩)) (wz_c (wz_sp (.new 7, [(8, 0)]) rfl (⟨_, rfl, q_65⟩)) (wz_c (wz_sp (.invokespecial 9, [(0, 2)]) rfl (⟨Or.inr ⟨_, q_67⟩, q_68, rfl, rfl, rfl⟩)) (wz_c (wz_sp (.putfield 10, [(9, 4), (2, 1)]) rfl (⟨_, rfl, by decide, q_211, _, rfl, Or.inr ⟨_, rfl⟩, ⟨rfl, rfl, rfl⟩⟩)) (wz_c (wz_sp (.putfield 16, [(9, 5), (2, 1)]) rfl (⟨_, rfl, by decide, q_212, _, rfl, Or.inl ⟨_, rfl⟩, ⟨rfl, rfl, rfl⟩⟩)) (wz_c (wz_sp (.putfield 20, [(9, 7), (2, 1)]) rfl (⟨_, rfl, by decide, q_214, _, rfl, Or.inl ⟨_, rfl⟩, ⟨rfl, rfl, rfl⟩⟩)) (wz_c (wz_sp (.new 23, [(6, 0)]) rfl (⟨_, rfl, q_86⟩)) (wz_c (wz_sp (.invokespecial 25, [(0, 3)]) rfl (⟨Or.inr ⟨_, q_88⟩, q_89, rfl, rfl, rfl⟩)) (wz_c (wz_sp (.putfield 26, [(9, 8), (2, 1)]) rfl (⟨_, rfl, by decide, q_215, _, rfl, Or.inr ⟨_, rfl⟩, ⟨rfl, rfl, rfl⟩⟩)) (wz_c (wz_sp (.putfield 30, [(9, 9), (2, 1)]) rfl (⟨_, rfl, by decide, q_216, _, rfl, Or.inl ⟨_, rfl⟩, ⟨rfl, rfl, rfl⟩⟩)) (wz_c (wz_sp (.putfield 33, [(9, 10), (2, 1)]) rfl (⟨_, rfl, by decide, q_217, _, rfl, Or.inl ⟨_, rfl⟩, ⟨rfl, rfl, rfl⟩⟩)) (wz_c (wz_sp (.putfield 36, [(9, 11), (2, 1)]) rfl (⟨_, rfl, by decide, q_218, _, rfl, Or.inl ⟨_, rfl⟩, ⟨rfl, rfl, rfl⟩⟩)) (wz_c (wz_sp (.anewarray 39, []) rfl (q_100)) (wz_c (wz_sp (.new 39, [(3, 0)]) rfl (⟨_, rfl, q_100⟩)) (wz_c (wz_sp (.invokespecial 41, [(0, 4)]) rfl (⟨Or.inr ⟨_, q_103⟩, q_104, rfl, rfl, rfl⟩)) (wz_c (wz_sp (.new 42, [(2, 0)]) rfl (⟨_, rfl, q_108⟩)) (wz_c (wz_sp (.invokespecial 44, [(0, 5)]) rfl (⟨Or.inr ⟨_, q_110⟩, q_111, rfl, rfl, rfl⟩)) (wz_c (wz_sp (.new 45, [(7, 0)]) rfl (⟨_, rfl, q_115⟩)) (wz_c (wz_sp (.invokespecial 47, [(0, 6)]) rfl (⟨Or.inr ⟨_, q_117⟩, q_118, rfl, rfl, rfl⟩)) (wz_c (wz_sp (.new 48, [(0, 0)]) rfl (⟨_, rfl, q_122⟩)) (wz_c (wz_sp (.invokespecial 50, [(0, 7)]) rfl (⟨Or.inr ⟨_, q_124⟩, q_125, rfl, rfl, rfl⟩)) (wz_c (wz_sp (.new 51, [(5, 0)]) rfl (⟨_, rfl, q_129⟩)) (wz_c (wz_sp (.invokespecial 53, [(0, 8)]) rfl (⟨Or.inr ⟨_, q_131⟩, q_132, rfl, rfl, rfl⟩)) (wz_c (wz_sp (.new 54, [(4, 0)]) rfl (⟨_, rfl, q_136⟩)) (wz_c (wz_sp (.invokespecial 56, [(0, 9)]) rfl (⟨Or.inr ⟨_, q_138⟩, q_139, rfl, rfl, rfl⟩)) (wz_c (wz_sp (.new 57, [(1, 0)]) rfl (⟨_, rfl, q_143⟩)) (wz_c (wz_sp (.invokespecial 59, [(0, 10)]) rfl (⟨Or.inl q_145, q_146, rfl, rfl, rfl⟩)) (wz_c (wz_sp (.putfield 62, [(9, 0), (2, 1)]) rfl (⟨_, rfl, by decide, q_207, _, rfl, Or.inr ⟨_, rfl⟩, ⟨rfl, rfl, rfl⟩⟩)) (wz_c (wz_sp (.new 57, [(1, 0)]) rfl (⟨_, rfl, q_143⟩)) (wz_c (wz_sp (.invokespecial 59, [(0, 10)]) rfl (⟨Or.inl q_145, q_146, rfl, rfl, rfl⟩)) (wz_c (wz_sp (.putfield 66, [(9, 1), (2, 1)]) rfl (⟨_, rfl, by decide, q_208, _, rfl, Or.inr ⟨_, rfl⟩, ⟨rfl, rfl, rfl⟩⟩)) (wz_c (wz_sp (.new 57, [(1, 0)]) rfl (⟨_, rfl, q_143⟩)) (wz_c (wz_sp (.invokespecial 59, [(0, 10)]) rfl (⟨Or.inl q_145, q_146, rfl, rfl, rfl⟩)) (wz_c (wz_sp (.putfield 69, [(9, 2), (2, 1)]) rfl (⟨_, rfl, by decide, q_209, _, rfl, Or.inr ⟨_, rfl⟩, ⟨rfl, rfl, rfl⟩⟩)) (wz_n))))))))))))))))))))))))))))))))))
set_option maxRecDepth 100000 in
set_option maxHeartbeats 4000000 in
theorem mmkd_1 : wz_A (wz_PD 1 mmc_1) [18, 26, 45, 52, 59, 66, 129] :=
  wz_c (wz_sd (.newarray .int, []) 2 rfl (by decide +kernel) (Or.inl rfl)) (wz_c (wz_sd (.newarray .int, []) 2 rfl (by decide +kernel) (Or.inl rfl)) (wz_c (wz_sd (.newarray .int, []) 2 rfl (by decide +kernel) (Or.inl rfl)) (wz_c (wz_sd (.newarray .int, []) 2 rfl (by decide +kernel) (Or.inl rfl)) (wz_c (wz_sd (.newarray .int, []) 2 rfl (by decide +kernel) (Or.inl rfl)) (wz_c (wz_sd (.anewarray 39, []) 3 rfl (by decide +kernel) (Or.inl rfl)) (wz_c (wz_sd (.astore_n 1, []) 1 rfl (by decide +kernel) (Or.inl rfl)) (wz_n)))))))
theorem mmk_1 (pc : Nat) : ∀ x, mmc_1 pc = some x → mm_K 1 pc x := wz_fin mmkn_1 mmkw_1 mmkd_1 mmks_1 pc
set_option maxRecDepth 100000 in
theorem mmkw_2 : wz_w mmc_2 [1, 9, 17] [7, 15] 21 (mm_by 2).data.toList 0 = true := by decide +kernel
set_option maxRecDepth 100000 in
set_option maxHeartbeats 4000000 in
theorem mmkn_2 (pc : Nat) (h : 21 ≤ pc) : mmc_2 pc = none :=
  wz_rs h rfl (wz_rs h rfl (wz_rs h rfl (wz_rs h rfl (wz_re h rfl))))
set_option maxRecDepth 100000 in
set_option maxHeartbeats 4000000 in
theorem mmks_2 : wz_A (wz_PS 2 mmc_2) [1, 9, 17] :=
  wz_c (wz_sp (.invokespecial 3, [(2, 0)]) rfl (⟨q_70, by decide, by decide⟩)) (wz_c (wz_sp (.putfield 9, [(8, 0), (2, 1)]) rfl (⟨_, rfl, by decide, q_71, _, rfl, Or.inl ⟨_, rfl⟩, ⟨rfl, rfl, rfl⟩⟩)) (wz_c (wz_sp (.putfield 15, [(8, 2), (2, 1)]) rfl (⟨_, rfl, by decide, q_74, _, rfl, Or.inl ⟨_, rfl⟩, ⟨rfl, rfl, rfl⟩⟩)) (wz_n)))
set_option maxRecDepth 100000 in
set_option maxHeartbeats 4000000 in
theorem mmkd_2 : wz_A (wz_PD 2 mmc_2) [7, 15] :=
  wz_c (wz_sd (.newarray .int, []) 2 rfl (by decide +kernel) (Or.inl rfl)) (wz_c (wz_sd (.newarray .int, []) 2 rfl (by decide +kernel) (Or.inl rfl)) (wz_n))
theorem mmk_2 (pc : Nat) : ∀ x, mmc_2 pc = some x → mm_K 2 pc x := wz_fin mmkn_2 mmkw_2 mmkd_2 mmks_2 pc
set_option maxRecDepth 100000 in
theorem mmkw_3 : wz_w mmc_3 [1] [] 5 (mm_by 3).data.toList 0 = true := by decide +kernel
set_option maxRecDepth 100000 in
set_option maxHeartbeats 4000000 in
theorem mmkn_3 (pc : Nat) (h : 5 ≤ pc) : mmc_3 pc = none :=
  wz_rs h rfl (wz_rs h rfl (wz_re h rfl))
set_option maxRecDepth 100000 in
set_option maxHeartbeats 4000000 in
theorem mmks_3 : wz_A (wz_PS 3 mmc_3) [1] :=
  wz_c (wz_sp (.invokespecial 3, [(2, 0)]) rfl (⟨q_91, by decide, by decide⟩)) (wz_n)
set_option maxRecDepth 100000 in
set_option maxHeartbeats 4000000 in
theorem mmkd_3 : wz_A (wz_PD 3 mmc_3) [] :=
  wz_n
theorem mmk_3 (pc : Nat) : ∀ x, mmc_3 pc = some x → mm_K 3 pc x := wz_fin mmkn_3 mmkw_3 mmkd_3 mmks_3 pc
set_option maxRecDepth 100000 in
theorem mmkw_4 : wz_w mmc_4 [1] [] 5 (mm_by 4).data.toList 0 = true := by decide +kernel
set_option maxRecDepth 100000 in
set_option maxHeartbeats 4000000 in
theorem mmkn_4 (pc : Nat) (h : 5 ≤ pc) : mmc_4 pc = none :=
  wz_rs h rfl (wz_rs h rfl (wz_re h rfl))
set_option maxRecDepth 100000 in
set_option maxHeartbeats 4000000 in
theorem mmks_4 : wz_A (wz_PS 4 mmc_4) [1] :=
  wz_c (wz_sp (.invokespecial 1, [(2, 0)]) rfl (⟨q_106, by decide, by decide⟩)) (wz_n)
set_option maxRecDepth 100000 in
set_option maxHeartbeats 4000000 in
theorem mmkd_4 : wz_A (wz_PD 4 mmc_4) [] :=
  wz_n
theorem mmk_4 (pc : Nat) : ∀ x, mmc_4 pc = some x → mm_K 4 pc x := wz_fin mmkn_4 mmkw_4 mmkd_4 mmks_4 pc
set_option maxRecDepth 100000 in
theorem mmkw_5 : wz_w mmc_5 [1] [] 5 (mm_by 5).data.toList 0 = true := by decide +kernel
set_option maxRecDepth 100000 in
set_option maxHeartbeats 4000000 in
theorem mmkn_5 (pc : Nat) (h : 5 ≤ pc) : mmc_5 pc = none :=
  wz_rs h rfl (wz_rs h rfl (wz_re h rfl))
set_option maxRecDepth 100000 in
set_option maxHeartbeats 4000000 in
theorem mmks_5 : wz_A (wz_PS 5 mmc_5) [1] :=
  wz_c (wz_sp (.invokespecial 3, [(0, 4)]) rfl (⟨Or.inr ⟨_, q_113⟩, q_104, rfl, rfl, rfl⟩)) (wz_n)
set_option maxRecDepth 100000 in
set_option maxHeartbeats 4000000 in
theorem mmkd_5 : wz_A (wz_PD 5 mmc_5) [] :=
  wz_n
theorem mmk_5 (pc : Nat) : ∀ x, mmc_5 pc = some x → mm_K 5 pc x := wz_fin mmkn_5 mmkw_5 mmkd_5 mmks_5 pc
set_option maxRecDepth 100000 in
theorem mmkw_6 : wz_w mmc_6 [1] [] 5 (mm_by 6).data.toList 0 = true := by decide +kernel
set_option maxRecDepth 100000 in
set_option maxHeartbeats 4000000 in
theorem mmkn_6 (pc : Nat) (h : 5 ≤ pc) : mmc_6 pc = none :=
  wz_rs h rfl (wz_rs h rfl (wz_re h rfl))
set_option maxRecDepth 100000 in
set_option maxHeartbeats 4000000 in
theorem mmks_6 : wz_A (wz_PS 6 mmc_6) [1] :=
  wz_c (wz_sp (.invokespecial 3, [(0, 4)]) rfl (⟨Or.inr ⟨_, q_120⟩, q_104, rfl, rfl, rfl⟩)) (wz_n)
set_option maxRecDepth 100000 in
set_option maxHeartbeats 4000000 in
theorem mmkd_6 : wz_A (wz_PD 6 mmc_6) [] :=
  wz_n
theorem mmk_6 (pc : Nat) : ∀ x, mmc_6 pc = some x → mm_K 6 pc x := wz_fin mmkn_6 mmkw_6 mmkd_6 mmks_6 pc
set_option maxRecDepth 100000 in
theorem mmkw_7 : wz_w mmc_7 [1] [] 5 (mm_by 7).data.toList 0 = true := by decide +kernel
set_option maxRecDepth 100000 in
set_option maxHeartbeats 4000000 in
theorem mmkn_7 (pc : Nat) (h : 5 ≤ pc) : mmc_7 pc = none :=
  wz_rs h rfl (wz_rs h rfl (wz_re h rfl))
set_option maxRecDepth 100000 in
set_option maxHeartbeats 4000000 in
theorem mmks_7 : wz_A (wz_PS 7 mmc_7) [1] :=
  wz_c (wz_sp (.invokespecial 3, [(0, 6)]) rfl (⟨Or.inr ⟨_, q_127⟩, q_118, rfl, rfl, rfl⟩)) (wz_n)
set_option maxRecDepth 100000 in
set_option maxHeartbeats 4000000 in
theorem mmkd_7 : wz_A (wz_PD 7 mmc_7) [] :=
  wz_n
theorem mmk_7 (pc : Nat) : ∀ x, mmc_7 pc = some x → mm_K 7 pc x := wz_fin mmkn_7 mmkw_7 mmkd_7 mmks_7 pc
set_option maxRecDepth 100000 in
theorem mmkw_8 : wz_w mmc_8 [1] [] 5 (mm_by 8).data.toList 0 = true := by decide +kernel
set_option maxRecDepth 100000 in
set_option maxHeartbeats 4000000 in
theorem mmkn_8 (pc : Nat) (h : 5 ≤ pc) : mmc_8 pc = none :=
  wz_rs h rfl (wz_rs h rfl (wz_re h rfl))
set_option maxRecDepth 100000 in
set_option maxHeartbeats 4000000 in
theorem mmks_8 : wz_A (wz_PS 8 mmc_8) [1] :=
  wz_c (wz_sp (.invokespecial 1, [(0, 5)]) rfl (⟨Or.inr ⟨_, q_134⟩, q_111, rfl, rfl, rfl⟩)) (wz_n)
set_option maxRecDepth 100000 in
set_option maxHeartbeats 4000000 in
theorem mmkd_8 : wz_A (wz_PD 8 mmc_8) [] :=
  wz_n
theorem mmk_8 (pc : Nat) : ∀ x, mmc_8 pc = some x → mm_K 8 pc x := wz_fin mmkn_8 mmkw_8 mmkd_8 mmks_8 pc
set_option maxRecDepth 100000 in
theorem mmkw_9 : wz_w mmc_9 [1] [] 5 (mm_by 9).data.toList 0 = true := by decide +kernel
set_option maxRecDepth 100000 in
set_option maxHeartbeats 4000000 in
theorem mmkn_9 (pc : Nat) (h : 5 ≤ pc) : mmc_9 pc = none :=
  wz_rs h rfl (wz_rs h rfl (wz_re h rfl))
set_option maxRecDepth 100000 in
set_option maxHeartbeats 4000000 in
theorem mmks_9 : wz_A (wz_PS 9 mmc_9) [1] :=
  wz_c (wz_sp (.invokespecial 3, [(0, 5)]) rfl (⟨Or.inr ⟨_, q_141⟩, q_111, rfl, rfl, rfl⟩)) (wz_n)
set_option maxRecDepth 100000 in
set_option maxHeartbeats 4000000 in
theorem mmkd_9 : wz_A (wz_PD 9 mmc_9) [] :=
  wz_n
theorem mmk_9 (pc : Nat) : ∀ x, mmc_9 pc = some x → mm_K 9 pc x := wz_fin mmkn_9 mmkw_9 mmkd_9 mmks_9 pc
set_option maxRecDepth 100000 in
theorem mmkw_10 : wz_w mmc_10 [1, 9, 17, 24, 31, 38, 45, 51, 56, 61, 66] [7, 15, 22, 29, 36, 43] 70 (mm_by 10).data.toList 0 = true := by decide +kernel
set_option maxRecDepth 100000 in
set_option maxHeartbeats 4000000 in
theorem mmkn_10 (pc : Nat) (h : 70 ≤ pc) : mmc_10 pc = none :=
  wz_rs h rfl (wz_rs h rfl (wz_rs h rfl (wz_rs h rfl (wz_rs h rfl (wz_re h rfl)))))
set_option maxRecDepth 100000 in
set_option maxHeartbeats 4000000 in
theorem mmks_10 : wz_A (wz_PS 10 mmc_10) [1, 9, 17, 24, 31, 38, 45, 51, 56, 61, 66] :=
  wz_c (wz_sp (.invokespecial 3, [(2, 0)]) rfl (⟨q_148, by decide, by decide⟩)) (wz_c (wz_sp (.putfield 9, [(1, 1), (2, 1)]) rfl (⟨_, rfl, by decide, q_150, _, rfl, Or.inl ⟨_, rfl⟩, ⟨rfl, rfl, rfl⟩⟩)) (wz_c (wz_sp (.putfield 15, [(1, 2), (2, 1)]) rfl (⟨_, rfl, by decide, q_153, _, rfl, Or.inl ⟨_, rfl⟩, ⟨rfl, rfl, rfl⟩⟩)) (wz_c (wz_sp (.putfield 18, [(1, 3), (2, 1)]) rfl (⟨_, rfl, by decide, q_156, _, rfl, Or.inl ⟨_, rfl⟩, ⟨rfl, rfl, rfl⟩⟩)) (wz_c (wz_sp (.putfield 21, [(1, 4), (2, 1)]) rfl (⟨_, rfl, by decide, q_158, _, rfl, Or.inl ⟨_, rfl⟩, ⟨rfl, rfl, rfl⟩⟩)) (wz_c (wz_sp (.putfield 24, [(1, 5), (2, 1)]) rfl (⟨_, rfl, by decide, q_160, _, rfl, Or.inl ⟨_, rfl⟩, ⟨rfl, rfl, rfl⟩⟩)) (wz_c (wz_sp (.putfield 27, [(1, 6), (2, 1)]) rfl (⟨_, rfl, by decide, q_162, _, rfl, Or.inl ⟨_, rfl⟩, ⟨rfl, rfl, rfl⟩⟩)) (wz_c (wz_sp (.putfield 30, [(1, 9), (0, 0)]) rfl (⟨_, rfl, by decide, q_170, _, rfl, rfl, rfl⟩)) (wz_c (wz_sp (.putfield 34, [(1, 10), (0, 0)]) rfl (⟨_, rfl, by decide, q_173, _, rfl, rfl, rfl⟩)) (wz_c (wz_sp (.putfield 37, [(1, 11), (0, 0)]) rfl (⟨_, rfl, by decide, q_174, _, rfl, rfl, rfl⟩)) (wz_c (wz_sp (.putfield 40, [(1, 0), (2, 1)]) rfl (⟨_, rfl, by decide, q_149, _, rfl, Or.inl ⟨_, rfl⟩, ⟨rfl, rfl, rfl⟩⟩)) (wz_n)))))))))))
set_option maxRecDepth 100000 in
set_option maxHeartbeats 4000000 in
theorem mmkd_10 : wz_A (wz_PD 10 mmc_10) [7, 15, 22, 29, 36, 43] :=
  wz_c (wz_sd (.newarray .int, []) 2 rfl (by decide +kernel) (Or.inl rfl)) (wz_c (wz_sd (.newarray .int, []) 2 rfl (by decide +kernel) (Or.inl rfl)) (wz_c (wz_sd (.newarray .int, []) 2 rfl (by decide +kernel) (Or.inl rfl)) (wz_c (wz_sd (.newarray .int, []) 2 rfl (by decide +kernel) (Or.inl rfl)) (wz_c (wz_sd (.newarray .int, []) 2 rfl (by decide +kernel) (Or.inl rfl)) (wz_c (wz_sd (.newarray .int, []) 2 rfl (by decide +kernel) (Or.inl rfl)) (wz_n))))))
theorem mmk_10 (pc : Nat) : ∀ x, mmc_10 pc = some x → mm_K 10 pc x := wz_fin mmkn_10 mmkw_10 mmkd_10 mmks_10 pc
set_option maxRecDepth 100000 in
theorem mmkw_11 : wz_w mmc_11 [7, 19, 22, 33, 38, 42, 46, 49] [] 53 (mm_by 11).data.toList 0 = true := by decide +kernel
set_option maxRecDepth 100000 in
set_option maxHeartbeats 4000000 in
theorem mmkn_11 (pc : Nat) (h : 53 ≤ pc) : mmc_11 pc = none :=
  wz_rs h rfl (wz_rs h rfl (wz_rs h rfl (wz_rs h rfl (wz_rs h rfl (wz_re h rfl)))))
set_option maxRecDepth 100000 in
set_option maxHeartbeats 4000000 in
theorem mmks_11 : wz_A (wz_PS 11 mmc_11) [7, 19, 22, 33, 38, 42, 46, 49] :=
  wz_c (wz_sp (.invokevirtual 72, [(9, 12)]) rfl (⟨_, rfl, q_248, q_250, q_0, rfl⟩)) (wz_c (wz_sp (.getfield 10, [(9, 4)]) rfl (⟨_, rfl, by decide, q_211⟩)) (wz_c (wz_sp (.getfield 76, [(8, 1)]) rfl (⟨_, rfl, by decide, q_73⟩)) (wz_c (wz_sp (.invokevirtual 72, [(9, 12)]) rfl (⟨_, rfl, q_248, q_250, q_0, rfl⟩)) (wz_c (wz_sp (.getfield 10, [(9, 4)]) rfl (⟨_, rfl, by decide, q_211⟩)) (wz_c (wz_sp (.invokevirtual 80, [(8, 13)]) rfl (⟨_, rfl, q_252, q_253, q_254, rfl⟩)) (wz_c (wz_sp (.getfield 10, [(9, 4)]) rfl (⟨_, rfl, by decide, q_211⟩)) (wz_c (wz_sp (.getfield 76, [(8, 1)]) rfl (⟨_, rfl, by decide, q_73⟩)) (wz_n))))))))
set_option maxRecDepth 100000 in
set_option maxHeartbeats 4000000 in
theorem mmkd_11 : wz_A (wz_PD 11 mmc_11) [] :=
  wz_n
theorem mmk_11 (pc : Nat) : ∀ x, mmc_11 pc = some x → mm_K 11 pc x := wz_fin mmkn_11 mmkw_11 mmkd_11 mmks_11 pc
set_option maxRecDepth 100000 in
theorem mmkw_12 : wz_w mmc_12 [1] [5] 13 (mm_by 12).data.toList 0 = true := by decide +kernel
set_option maxRecDepth 100000 in
set_option maxHeartbeats 4000000 in
theorem mmkn_12 (pc : Nat) (h : 13 ≤ pc) : mmc_12 pc = none :=
  wz_rs h rfl (wz_rs h rfl (wz_rs h rfl (wz_rs h rfl (wz_re h rfl))))
set_option maxRecDepth 100000 in
set_option maxHeartbeats 4000000 in
theorem mmks_12 : wz_A (wz_PS 12 mmc_12) [1] :=
  wz_c (wz_sp (.getfield 20, [(9, 7)]) rfl (⟨_, rfl, by decide, q_214⟩)) (wz_n)
set_option maxRecDepth 100000 in
set_option maxHeartbeats 4000000 in
theorem mmkd_12 : wz_A (wz_PD 12 mmc_12) [5] :=
  wz_c (wz_sd (.ineg, []) 1 rfl (by decide +kernel) (Or.inl rfl)) (wz_n)
theorem mmk_12 (pc : Nat) : ∀ x, mmc_12 pc = some x → mm_K 12 pc x := wz_fin mmkn_12 mmkw_12 mmkd_12 mmks_12 pc
set_option maxRecDepth 100000 in
theorem mmkw_13 : wz_w mmc_13 [1, 10, 14, 21, 26] [] 30 (mm_by 13).data.toList 0 = true := by decide +kernel
set_option maxRecDepth 100000 in
set_option maxHeartbeats 4000000 in
theorem mmkn_13 (pc : Nat) (h : 30 ≤ pc) : mmc_13 pc = none :=
  wz_rs h rfl (wz_re h rfl)
set_option maxRecDepth 100000 in
set_option maxHeartbeats 4000000 in
theorem mmks_13 : wz_A (wz_PS 13 mmc_13) [1, 10, 14, 21, 26] :=
  wz_c (wz_sp (.getfield 18, [(8, 1)]) rfl (⟨_, rfl, by decide, q_72⟩)) (wz_c (wz_sp (.getfield 9, [(8, 0)]) rfl (⟨_, rfl, by decide, q_71⟩)) (wz_c (wz_sp (.getfield 18, [(8, 1)]) rfl (⟨_, rfl, by decide, q_72⟩)) (wz_c (wz_sp (.getfield 18, [(8, 1)]) rfl (⟨_, rfl, by decide, q_72⟩)) (wz_c (wz_sp (.putfield 18, [(8, 1), (0, 0)]) rfl (⟨_, rfl, by decide, q_72, _, rfl, rfl, rfl⟩)) (wz_n)))))
set_option maxRecDepth 100000 in
set_option maxHeartbeats 4000000 in
theorem mmkd_13 : wz_A (wz_PD 13 mmc_13) [] :=
  wz_n
theorem mmk_13 (pc : Nat) : ∀ x, mmc_13 pc = some x → mm_K 13 pc x := wz_fin mmkn_13 mmkw_13 mmkd_13 mmks_13 pc
set_option maxRecDepth 100000 in
theorem mmkw_14 : wz_w mmc_14 [1, 5, 8, 19, 23, 26, 31, 35] [] 40 (mm_by 14).data.toList 0 = true := by decide +kernel
set_option maxRecDepth 100000 in
set_option maxHeartbeats 4000000 in
theorem mmkn_14 (pc : Nat) (h : 40 ≤ pc) : mmc_14 pc = none :=
  wz_rs h rfl (wz_rs h rfl (wz_rs h rfl (wz_rs h rfl (wz_re h rfl))))
set_option maxRecDepth 100000 in
set_option maxHeartbeats 4000000 in
theorem mmks_14 : wz_A (wz_PS 14 mmc_14) [1, 5, 8, 19, 23, 26, 31, 35] :=
  wz_c (wz_sp (.getfield 10, [(9, 4)]) rfl (⟨_, rfl, by decide, q_211⟩)) (wz_c (wz_sp (.getfield 62, [(9, 0)]) rfl (⟨_, rfl, by decide, q_207⟩)) (wz_c (wz_sp (.invokevirtual 84, [(8, 15)]) rfl (⟨_, rfl, q_260, q_261, q_262, rfl⟩)) (wz_c (wz_sp (.getfield 10, [(9, 4)]) rfl (⟨_, rfl, by decide, q_211⟩)) (wz_c (wz_sp (.getfield 62, [(9, 0)]) rfl (⟨_, rfl, by decide, q_207⟩)) (wz_c (wz_sp (.invokevirtual 88, [(8, 38)]) rfl (⟨_, rfl, q_414, q_415, q_416, rfl⟩)) (wz_c (wz_sp (.getfield 10, [(9, 4)]) rfl (⟨_, rfl, by decide, q_211⟩)) (wz_c (wz_sp (.putfield 76, [(8, 1), (0, 0)]) rfl (⟨_, rfl, by decide, q_73, _, rfl, rfl, rfl⟩)) (wz_n))))))))
set_option maxRecDepth 100000 in
set_option maxHeartbeats 4000000 in
theorem mmkd_14 : wz_A (wz_PD 14 mmc_14) [] :=
  wz_n
theorem mmk_14 (pc : Nat) : ∀ x, mmc_14 pc = some x → mm_K 14 pc x := wz_fin mmkn_14 mmkw_14 mmkd_14 mmks_14 pc
set_option maxRecDepth 100000 in
theorem mmkw_15 : wz_w mmc_15 [1, 19] [] 40 (mm_by 15).data.toList 0 = true := by decide +kernel
set_option maxRecDepth 100000 in
set_option maxHeartbeats 4000000 in
theorem mmkn_15 (pc : Nat) (h : 40 ≤ pc) : mmc_15 pc = none :=
  wz_rs h rfl (wz_rs h rfl (wz_rs h rfl (wz_rs h rfl (wz_re h rfl))))
set_option maxRecDepth 100000 in
set_option maxHeartbeats 4000000 in
theorem mmks_15 : wz_A (wz_PS 15 mmc_15) [1, 19] :=
  wz_c (wz_sp (.invokevirtual 22, [(8, 16)]) rfl (⟨_, rfl, q_264, q_266, q_1, rfl⟩)) (wz_c (wz_sp (.invokevirtual 26, [(8, 33)]) rfl (⟨_, rfl, q_395, q_397, q_3, rfl⟩)) (wz_n))
set_option maxRecDepth 100000 in
set_option maxHeartbeats 4000000 in
theorem mmkd_15 : wz_A (wz_PD 15 mmc_15) [] :=
  wz_n
theorem mmk_15 (pc : Nat) : ∀ x, mmc_15 pc = some x → mm_K 15 pc x := wz_fin mmkn_15 mmkw_15 mmkd_15 mmks_15 pc
set_option maxRecDepth 100000 in
theorem mmkw_16 : wz_w mmc_16 [2, 9, 22, 26, 33, 38, 44, 49, 52, 60] [] 69 (mm_by 16).data.toList 0 = true := by decide +kernel
set_option maxRecDepth 100000 in
set_option maxHeartbeats 4000000 in
theorem mmkn_16 (pc : Nat) (h : 69 ≤ pc) : mmc_16 pc = none :=
  wz_rs h rfl (wz_rs h rfl (wz_rs h rfl (wz_rs h rfl (wz_rs h rfl (wz_rs h rfl (wz_re h rfl))))))
set_option maxRecDepth 100000 in
set_option maxHeartbeats 4000000 in
theorem mmks_16 : wz_A (wz_PS 16 mmc_16) [2, 9, 22, 26, 33, 38, 44, 49, 52, 60] :=
  wz_c (wz_sp (.putfield 30, [(8, 3), (0, 0)]) rfl (⟨_, rfl, by decide, q_75, _, rfl, rfl, rfl⟩)) (wz_c (wz_sp (.invokevirtual 55, [(8, 17)]) rfl (⟨_, rfl, q_268, q_270, q_2, rfl⟩)) (wz_c (wz_sp (.getfield 15, [(8, 2)]) rfl (⟨_, rfl, by decide, q_74⟩)) (wz_c (wz_sp (.getfield 30, [(8, 3)]) rfl (⟨_, rfl, by decide, q_75⟩)) (wz_c (wz_sp (.getfield 30, [(8, 3)]) rfl (⟨_, rfl, by decide, q_75⟩)) (wz_c (wz_sp (.putfield 30, [(8, 3), (0, 0)]) rfl (⟨_, rfl, by decide, q_75, _, rfl, rfl, rfl⟩)) (wz_c (wz_sp (.getfield 9, [(8, 0)]) rfl (⟨_, rfl, by decide, q_71⟩)) (wz_c (wz_sp (.invokestatic 58, [(0, 18)]) rfl (⟨Or.inl q_272, q_273, rfl⟩)) (wz_c (wz_sp (.invokevirtual 62, [(11, 20)]) rfl (⟨_, rfl, q_284, q_285, q_286, rfl⟩)) (wz_c (wz_sp (.getfield 18, [(8, 1)]) rfl (⟨_, rfl, by decide, q_72⟩)) (wz_n))))))))))
set_option maxRecDepth 100000 in
set_option maxHeartbeats 4000000 in
theorem mmkd_16 : wz_A (wz_PD 16 mmc_16) [] :=
  wz_n
theorem mmk_16 (pc : Nat) : ∀ x, mmc_16 pc = some x → mm_K 16 pc x := wz_fin mmkn_16 mmkw_16 mmkd_16 mmks_16 pc
set_option maxRecDepth 100000 in
theorem mmkw_17 : wz_w mmc_17 [2, 11, 16, 21, 33, 49, 56, 64, 67] [19] 85 (mm_by 17).data.toList 0 = true := by decide +kernel
set_option maxRecDepth 100000 in
set_option maxHeartbeats 4000000 in
theorem mmkn_17 (pc : Nat) (h : 85 ≤ pc) : mmc_17 pc = none :=
  wz_rs h rfl (wz_rs h rfl (wz_rs h rfl (wz_rs h rfl (wz_rs h rfl (wz_rs h rfl (wz_re h rfl))))))
set_option maxRecDepth 100000 in
set_option maxHeartbeats 4000000 in
theorem mmks_17 : wz_A (wz_PS 17 mmc_17) [2, 11, 16, 21, 33, 49, 56, 64, 67] :=
  wz_c (wz_sp (.getfield 18, [(8, 1)]) rfl (⟨_, rfl, by decide, q_72⟩)) (wz_c (wz_sp (.getfield 9, [(8, 0)]) rfl (⟨_, rfl, by decide, q_71⟩)) (wz_c (wz_sp (.invokestatic 58, [(0, 18)]) rfl (⟨Or.inl q_272, q_273, rfl⟩)) (wz_c (wz_sp (.invokevirtual 65, [(11, 19)]) rfl (⟨_, rfl, q_280, q_281, q_282, rfl⟩)) (wz_c (wz_sp (.invokevirtual 62, [(11, 20)]) rfl (⟨_, rfl, q_284, q_285, q_286, rfl⟩)) (wz_c (wz_sp (.getfield 18, [(8, 1)]) rfl (⟨_, rfl, by decide, q_72⟩)) (wz_c (wz_sp (.getfield 9, [(8, 0)]) rfl (⟨_, rfl, by decide, q_71⟩)) (wz_c (wz_sp (.invokevirtual 69, [(11, 22)]) rfl (⟨_, rfl, q_294, q_295, q_296, rfl⟩)) (wz_c (wz_sp (.invokestatic 73, [(0, 27)]) rfl (⟨Or.inl q_332, q_333, rfl⟩)) (wz_n)))))))))
set_option maxRecDepth 100000 in
set_option maxHeartbeats 4000000 in
theorem mmkd_17 : wz_A (wz_PD 17 mmc_17) [19] :=
  wz_c (wz_sd (.astore_n 2, []) 1 rfl (by decide +kernel) (Or.inl rfl)) (wz_n)
theorem mmk_17 (pc : Nat) : ∀ x, mmc_17 pc = some x → mm_K 17 pc x := wz_fin mmkn_17 mmkw_17 mmkd_17 mmks_17 pc
set_option maxRecDepth 100000 in
theorem mmkw_18 : wz_w mmc_18 [108, 111, 114, 117, 120] [1] 123 (mm_by 18).data.toList 0 = true := by decide +kernel
set_option maxRecDepth 100000 in
set_option maxHeartbeats 4000000 in
theorem mmkn_18 (pc : Nat) (h : 123 ≤ pc) : mmc_18 pc = none :=
  wz_rs h rfl (wz_rs h rfl (wz_rs h rfl (wz_rs h rfl (wz_re h rfl))))
set_option maxRecDepth 100000 in
set_option maxHeartbeats 4000000 in
theorem mmks_18 : wz_A (wz_PS 18 mmc_18) [108, 111, 114, 117, 120] :=
  wz_c (wz_sp (.ldc 37, [(1, 0)]) rfl (⟨rfl, rfl⟩)) (wz_c (wz_sp (.ldc 39, [(1, 1)]) rfl (⟨rfl, rfl⟩)) (wz_c (wz_sp (.ldc 41, [(1, 2)]) rfl (⟨rfl, rfl⟩)) (wz_c (wz_sp (.ldc 43, [(1, 3)]) rfl (⟨rfl, rfl⟩)) (wz_c (wz_sp (.ldc 45, [(1, 4)]) rfl (⟨rfl, rfl⟩)) (wz_n)))))
set_option maxRecDepth 100000 in
set_option maxHeartbeats 4000000 in
theorem mmkd_18 : wz_A (wz_PD 18 mmc_18) [1] :=
  wz_c (wz_sd (.tableswitch 119 98 120 #[116, 107, 119, 119, 119, 116, 119, 119, 119, 116, 119, 110, 119, 119, 119, 119, 119, 116, 119, 119, 119, 116, 113], []) 107 rfl (by decide +kernel) (Or.inr rfl)) (wz_n)
theorem mmk_18 (pc : Nat) : ∀ x, mmc_18 pc = some x → mm_K 18 pc x := wz_fin mmkn_18 mmkw_18 mmkd_18 mmks_18 pc
set_option maxRecDepth 100000 in
theorem mmkw_19 : wz_w mmc_19 [1] [4] 14 (mm_by 19).data.toList 0 = true := by decide +kernel
set_option maxRecDepth 100000 in
set_option maxHeartbeats 4000000 in
theorem mmkn_19 (pc : Nat) (h : 14 ≤ pc) : mmc_19 pc = none :=
  wz_rs h rfl (wz_rs h rfl (wz_rs h rfl (wz_re h rfl)))
set_option maxRecDepth 100000 in
set_option maxHeartbeats 4000000 in
theorem mmks_19 : wz_A (wz_PS 19 mmc_19) [1] :=
  wz_c (wz_sp (.getfield 9, [(11, 0)]) rfl (q_1172)) (wz_n)
set_option maxRecDepth 100000 in
set_option maxHeartbeats 4000000 in
theorem mmkd_19 : wz_A (wz_PD 19 mmc_19) [4] :=
  wz_c (wz_sd (.arraylength, []) 1 rfl (by decide +kernel) (Or.inl rfl)) (wz_n)
theorem mmk_19 (pc : Nat) : ∀ x, mmc_19 pc = some x → mm_K 19 pc x := wz_fin mmkn_19 mmkw_19 mmkd_19 mmks_19 pc
set_option maxRecDepth 100000 in
theorem mmkw_20 : wz_w mmc_20 [1, 6] [4] 11 (mm_by 20).data.toList 0 = true := by decide +kernel
set_option maxRecDepth 100000 in
set_option maxHeartbeats 4000000 in
theorem mmkn_20 (pc : Nat) (h : 11 ≤ pc) : mmc_20 pc = none :=
  wz_rs h rfl (wz_rs h rfl (wz_rs h rfl (wz_re h rfl)))
set_option maxRecDepth 100000 in
set_option maxHeartbeats 4000000 in
theorem mmks_20 : wz_A (wz_PS 20 mmc_20) [1, 6] :=
  wz_c (wz_sp (.getfield 9, [(11, 0)]) rfl (q_1172)) (wz_c (wz_sp (.invokevirtual 335, [(11, 21)]) rfl (⟨_, rfl, q_288, q_289, q_290, rfl⟩)) (wz_n))
set_option maxRecDepth 100000 in
set_option maxHeartbeats 4000000 in
theorem mmkd_20 : wz_A (wz_PD 20 mmc_20) [4] :=
  wz_c (wz_sd (.arraylength, []) 1 rfl (by decide +kernel) (Or.inl rfl)) (wz_n)
theorem mmk_20 (pc : Nat) : ∀ x, mmc_20 pc = some x → mm_K 20 pc x := wz_fin mmkn_20 mmkw_20 mmkd_20 mmks_20 pc
set_option maxRecDepth 100000 in
theorem mmkw_21 : wz_w mmc_21 [0, 7] [0] 15 (mm_by 21).data.toList 0 = true := by decide +kernel
set_option maxRecDepth 100000 in
set_option maxHeartbeats 4000000 in
theorem mmkn_21 (pc : Nat) (h : 15 ≤ pc) : mmc_21 pc = none :=
  wz_rs h rfl (wz_rs h rfl (wz_rs h rfl (wz_re h rfl)))
set_option maxRecDepth 100000 in
set_option maxHeartbeats 4000000 in
theorem mmks_21 : wz_A (wz_PS 21 mmc_21) [0, 7] :=
  wz_c (wz_sp (.getstatic 38, [(0, 1)]) rfl (⟨q_292, rfl⟩)) (wz_c (wz_sp (.getfield 15, [(11, 1)]) rfl (q_1173)) (wz_n))
set_option maxRecDepth 100000 in
set_option maxHeartbeats 4000000 in
theorem mmkd_21 : wz_A (wz_PD 21 mmc_21) [0] :=
  wz_c (wz_sd (.getstatic 38, [(0, 1)]) 3 rfl (by decide +kernel) (Or.inl rfl)) (wz_n)
theorem mmk_21 (pc : Nat) : ∀ x, mmc_21 pc = some x → mm_K 21 pc x := wz_fin mmkn_21 mmkw_21 mmkd_21 mmks_21 pc
set_option maxRecDepth 100000 in
theorem mmkw_22 : wz_w mmc_22 [1, 8, 12, 17, 21] [] 25 (mm_by 22).data.toList 0 = true := by decide +kernel
set_option maxRecDepth 100000 in
set_option maxHeartbeats 4000000 in
theorem mmkn_22 (pc : Nat) (h : 25 ≤ pc) : mmc_22 pc = none :=
  wz_rs h rfl (wz_rs h rfl (wz_rs h rfl (wz_rs h rfl (wz_re h rfl))))
set_option maxRecDepth 100000 in
set_option maxHeartbeats 4000000 in
theorem mmks_22 : wz_A (wz_PS 22 mmc_22) [1, 8, 12, 17, 21] :=
  wz_c (wz_sp (.invokevirtual 492, [(11, 23)]) rfl (⟨_, rfl, q_298, q_299, q_300, rfl⟩)) (wz_c (wz_sp (.getfield 9, [(11, 0)]) rfl (q_1172)) (wz_c (wz_sp (.invokestatic 495, [(0, 24)]) rfl (⟨Or.inl q_302, q_303, rfl⟩)) (wz_c (wz_sp (.getfield 9, [(11, 0)]) rfl (q_1172)) (wz_c (wz_sp (.invokestatic 498, []) rfl (trivial)) (wz_n)))))
set_option maxRecDepth 100000 in
set_option maxHeartbeats 4000000 in
theorem mmkd_22 : wz_A (wz_PD 22 mmc_22) [] :=
  wz_n
theorem mmk_22 (pc : Nat) : ∀ x, mmc_22 pc = some x → mm_K 22 pc x := wz_fin mmkn_22 mmkw_22 mmkd_22 mmks_22 pc
set_option maxRecDepth 100000 in
theorem mmkw_23 : wz_w mmc_23 [0, 7] [0] 19 (mm_by 23).data.toList 0 = true := by decide +kernel
set_option maxRecDepth 100000 in
set_option maxHeartbeats 4000000 in
theorem mmkn_23 (pc : Nat) (h : 19 ≤ pc) : mmc_23 pc = none :=
  wz_rs h rfl (wz_rs h rfl (wz_rs h rfl (wz_rs h rfl (wz_re h rfl))))
set_option maxRecDepth 100000 in
set_option maxHeartbeats 4000000 in
theorem mmks_23 : wz_A (wz_PS 23 mmc_23) [0, 7] :=
  wz_c (wz_sp (.getstatic 38, [(0, 1)]) rfl (⟨q_292, rfl⟩)) (wz_c (wz_sp (.getfield 15, [(11, 1)]) rfl (q_1173)) (wz_n))
set_option maxRecDepth 100000 in
set_option maxHeartbeats 4000000 in
theorem mmkd_23 : wz_A (wz_PD 23 mmc_23) [0] :=
  wz_c (wz_sd (.getstatic 38, [(0, 1)]) 3 rfl (by decide +kernel) (Or.inl rfl)) (wz_n)
theorem mmk_23 (pc : Nat) : ∀ x, mmc_23 pc = some x → mm_K 23 pc x := wz_fin mmkn_23 mmkw_23 mmkd_23 mmks_23 pc
set_option maxRecDepth 100000 in
theorem mmkw_24 : wz_w mmc_24 [3] [2, 8, 13] 15 (mm_by 24).data.toList 0 = true := by decide +kernel
set_option maxRecDepth 100000 in
set_option maxHeartbeats 4000000 in
theorem mmkn_24 (pc : Nat) (h : 15 ≤ pc) : mmc_24 pc = none :=
  wz_rs h rfl (wz_rs h rfl (wz_rs h rfl (wz_rs h rfl (wz_re h rfl))))
set_option maxRecDepth 100000 in
set_option maxHeartbeats 4000000 in
theorem mmks_24 : wz_A (wz_PS 24 mmc_24) [3] :=
  wz_c (wz_sp (.invokestatic 9, [(0, 25)]) rfl (⟨Or.inl q_305, q_306, rfl⟩)) (wz_n)
set_option maxRecDepth 100000 in
set_option maxHeartbeats 4000000 in
theorem mmkd_24 : wz_A (wz_PD 24 mmc_24) [2, 8, 13] :=
  wz_c (wz_sd (.arraylength, []) 1 rfl (by decide +kernel) (Or.inl rfl)) (wz_c (wz_sd (.baload, []) 1 rfl (by decide +kernel) (Or.inl rfl)) (wz_c (wz_sd (.i2c, []) 1 rfl (by decide +kernel) (Or.inl rfl)) (wz_n)))
theorem mmk_24 (pc : Nat) : ∀ x, mmc_24 pc = some x → mm_K 24 pc x := wz_fin mmkn_24 mmkw_24 mmkd_24 mmks_24 pc
set_option maxRecDepth 100000 in
theorem mmkw_25 : wz_w mmc_25 [2, 5] [2] 10 (mm_by 25).data.toList 0 = true := by decide +kernel
set_option maxRecDepth 100000 in
set_option maxHeartbeats 4000000 in
theorem mmkn_25 (pc : Nat) (h : 10 ≤ pc) : mmc_25 pc = none :=
  wz_rs h rfl (wz_rs h rfl (wz_rs h rfl (wz_re h rfl)))
set_option maxRecDepth 100000 in
set_option maxHeartbeats 4000000 in
theorem mmks_25 : wz_A (wz_PS 25 mmc_25) [2, 5] :=
  wz_c (wz_sp (.getstatic 1053, [(1, 0)]) rfl (⟨q_308, rfl⟩)) (wz_c (wz_sp (.invokestatic 1059, [(0, 26)]) rfl (⟨Or.inl q_310, q_311, rfl⟩)) (wz_n))
set_option maxRecDepth 100000 in
set_option maxHeartbeats 4000000 in
theorem mmkd_25 : wz_A (wz_PD 25 mmc_25) [2] :=
  wz_c (wz_sd (.getstatic 1053, [(1, 0)]) 3 rfl (by decide +kernel) (Or.inl rfl)) (wz_n)
theorem mmk_25 (pc : Nat) : ∀ x, mmc_25 pc = some x → mm_K 25 pc x := wz_fin mmkn_25 mmkw_25 mmkd_25 mmks_25 pc
set_option maxRecDepth 100000 in
theorem mmkw_26 : wz_w mmc_26 [12] [15] 18 (mm_by 26).data.toList 0 = true := by decide +kernel
set_option maxRecDepth 100000 in
set_option maxHeartbeats 4000000 in
theorem mmkn_26 (pc : Nat) (h : 18 ≤ pc) : mmc_26 pc = none :=
  wz_rs h rfl (wz_rs h rfl (wz_rs h rfl (wz_rs h rfl (wz_re h rfl))))
set_option maxRecDepth 100000 in
set_option maxHeartbeats 4000000 in
theorem mmks_26 : wz_A (wz_PS 26 mmc_26) [12] :=
  wz_c (wz_sp (.invokestatic 95, []) rfl (trivial)) (wz_n)
set_option maxRecDepth 100000 in
set_option maxHeartbeats 4000000 in
theorem mmkd_26 : wz_A (wz_PD 26 mmc_26) [15] :=
  wz_c (wz_sd (.athrow, []) 1 rfl (by decide +kernel) (Or.inr rfl)) (wz_n)
theorem mmk_26 (pc : Nat) : ∀ x, mmc_26 pc = some x → mm_K 26 pc x := wz_fin mmkn_26 mmkw_26 mmkd_26 mmks_26 pc
set_option maxRecDepth 100000 in
theorem mmkw_27 : wz_w mmc_27 [30, 34] [33] 57 (mm_by 27).data.toList 0 = true := by decide +kernel
set_option maxRecDepth 100000 in
set_option maxHeartbeats 4000000 in
theorem mmkn_27 (pc : Nat) (h : 57 ≤ pc) : mmc_27 pc = none :=
  wz_rs h rfl (wz_rs h rfl (wz_rs h rfl (wz_rs h rfl (wz_rs h rfl (wz_re h rfl)))))
set_option maxRecDepth 100000 in
set_option maxHeartbeats 4000000 in
theorem mmks_27 : wz_A (wz_PS 27 mmc_27) [30, 34] :=
  wz_c (wz_sp (.ldc 47, [(1, 5)]) rfl (⟨rfl, rfl⟩)) (wz_c (wz_sp (.invokevirtual 49, [(11, 28)]) rfl (⟨_, rfl, q_336, q_337, q_338, rfl⟩)) (wz_n))
set_option maxRecDepth 100000 in
set_option maxHeartbeats 4000000 in
theorem mmkd_27 : wz_A (wz_PD 27 mmc_27) [33] :=
  wz_c (wz_sd (.i2c, []) 1 rfl (by decide +kernel) (Or.inl rfl)) (wz_n)
theorem mmk_27 (pc : Nat) : ∀ x, mmc_27 pc = some x → mm_K 27 pc x := wz_fin mmkn_27 mmkw_27 mmkd_27 mmks_27 pc
set_option maxRecDepth 100000 in
theorem mmkw_28 : wz_w mmc_28 [3] [] 7 (mm_by 28).data.toList 0 = true := by decide +kernel
set_option maxRecDepth 100000 in
set_option maxHeartbeats 4000000 in
theorem mmkn_28 (pc : Nat) (h : 7 ≤ pc) : mmc_28 pc = none :=
  wz_rs h rfl (wz_rs h rfl (wz_rs h rfl (wz_re h rfl)))
set_option maxRecDepth 100000 in
set_option maxHeartbeats 4000000 in
theorem mmks_28 : wz_A (wz_PS 28 mmc_28) [3] :=
  wz_c (wz_sp (.invokevirtual 633, [(11, 29)]) rfl (⟨_, rfl, q_340, q_341, q_342, rfl⟩)) (wz_n)
set_option maxRecDepth 100000 in
set_option maxHeartbeats 4000000 in
theorem mmkd_28 : wz_A (wz_PD 28 mmc_28) [] :=
  wz_n
theorem mmk_28 (pc : Nat) : ∀ x, mmc_28 pc = some x → mm_K 28 pc x := wz_fin mmkn_28 mmkw_28 mmkd_28 mmks_28 pc
set_option maxRecDepth 100000 in
theorem mmkw_29 : wz_w mmc_29 [1, 8, 14, 17, 24, 30, 33] [] 37 (mm_by 29).data.toList 0 = true := by decide +kernel
set_option maxRecDepth 100000 in
set_option maxHeartbeats 4000000 in
theorem mmkn_29 (pc : Nat) (h : 37 ≤ pc) : mmc_29 pc = none :=
  wz_rs h rfl (wz_rs h rfl (wz_rs h rfl (wz_re h rfl)))
set_option maxRecDepth 100000 in
set_option maxHeartbeats 4000000 in
theorem mmks_29 : wz_A (wz_PS 29 mmc_29) [1, 8, 14, 17, 24, 30, 33] :=
  wz_c (wz_sp (.invokevirtual 492, [(11, 23)]) rfl (⟨_, rfl, q_298, q_299, q_300, rfl⟩)) (wz_c (wz_sp (.getfield 9, [(11, 0)]) rfl (q_1172)) (wz_c (wz_sp (.invokevirtual 505, [(11, 20)]) rfl (⟨_, rfl, q_344, q_285, q_286, rfl⟩)) (wz_c (wz_sp (.invokestatic 637, [(0, 30)]) rfl (⟨Or.inl q_345, q_346, rfl⟩)) (wz_c (wz_sp (.getfield 9, [(11, 0)]) rfl (q_1172)) (wz_c (wz_sp (.invokevirtual 505, [(11, 20)]) rfl (⟨_, rfl, q_344, q_285, q_286, rfl⟩)) (wz_c (wz_sp (.invokestatic 640, []) rfl (trivial)) (wz_n)))))))
set_option maxRecDepth 100000 in
set_option maxHeartbeats 4000000 in
theorem mmkd_29 : wz_A (wz_PD 29 mmc_29) [] :=
  wz_n
theorem mmk_29 (pc : Nat) : ∀ x, mmc_29 pc = some x → mm_K 29 pc x := wz_fin mmkn_29 mmkw_29 mmkd_29 mmks_29 pc
set_option maxRecDepth 100000 in
theorem mmkw_30 : wz_w mmc_30 [1, 11, 18, 33] [17] 37 (mm_by 30).data.toList 0 = true := by decide +kernel
set_option maxRecDepth 100000 in
set_option maxHeartbeats 4000000 in
theorem mmkn_30 (pc : Nat) (h : 37 ≤ pc) : mmc_30 pc = none :=
  wz_rs h rfl (wz_rs h rfl (wz_rs h rfl (wz_rs h rfl (wz_rs h rfl (wz_re h rfl)))))
set_option maxRecDepth 100000 in
set_option maxHeartbeats 4000000 in
theorem mmks_30 : wz_A (wz_PS 30 mmc_30) [1, 11, 18, 33] :=
  wz_c (wz_sp (.invokestatic 88, [(0, 31)]) rfl (⟨Or.inl q_348, q_349, rfl⟩)) (wz_c (wz_sp (.invokestatic 92, [(4, 0)]) rfl (⟨q_351, by decide, by decide⟩)) (wz_c (wz_sp (.invokestatic 38, [(5, 0)]) rfl (⟨q_354, by decide, by decide⟩)) (wz_c (wz_sp (.invokestatic 95, [(0, 32)]) rfl (⟨Or.inl q_357, q_358, rfl⟩)) (wz_n))))
set_option maxRecDepth 100000 in
set_option maxHeartbeats 4000000 in
theorem mmkd_30 : wz_A (wz_PD 30 mmc_30) [17] :=
  wz_c (wz_sd (.arraylength, []) 1 rfl (by decide +kernel) (Or.inl rfl)) (wz_n)
theorem mmk_30 (pc : Nat) : ∀ x, mmc_30 pc = some x → mm_K 30 pc x := wz_fin mmkn_30 mmkw_30 mmkd_30 mmks_30 pc
set_option maxRecDepth 100000 in
theorem mmkw_31 : wz_w mmc_31 [] [] 17 (mm_by 31).data.toList 0 = true := by decide +kernel
set_option maxRecDepth 100000 in
set_option maxHeartbeats 4000000 in
theorem mmkn_31 (pc : Nat) (h : 17 ≤ pc) : mmc_31 pc = none :=
  wz_rs h rfl (wz_rs h rfl (wz_rs h rfl (wz_rs h rfl (wz_re h rfl))))
set_option maxRecDepth 100000 in
set_option maxHeartbeats 4000000 in
theorem mmks_31 : wz_A (wz_PS 31 mmc_31) [] :=
  wz_n
set_option maxRecDepth 100000 in
set_option maxHeartbeats 4000000 in
theorem mmkd_31 : wz_A (wz_PD 31 mmc_31) [] :=
  wz_n
theorem mmk_31 (pc : Nat) : ∀ x, mmc_31 pc = some x → mm_K 31 pc x := wz_fin mmkn_31 mmkw_31 mmkd_31 mmks_31 pc
set_option maxRecDepth 100000 in
theorem mmkw_32 : wz_w mmc_32 [] [1, 16] 33 (mm_by 32).data.toList 0 = true := by decide +kernel
set_option maxRecDepth 100000 in
set_option maxHeartbeats 4000000 in
theorem mmkn_32 (pc : Nat) (h : 33 ≤ pc) : mmc_32 pc = none :=
  wz_rs h rfl (wz_rs h rfl (wz_rs h rfl (wz_re h rfl)))
set_option maxRecDepth 100000 in
set_option maxHeartbeats 4000000 in
theorem mmks_32 : wz_A (wz_PS 32 mmc_32) [] :=
  wz_n
set_option maxRecDepth 100000 in
set_option maxHeartbeats 4000000 in
theorem mmkd_32 : wz_A (wz_PD 32 mmc_32) [1, 16] :=
  wz_c (wz_sd (.i2b, []) 1 rfl (by decide +kernel) (Or.inl rfl)) (wz_c (wz_sd (.baload, []) 1 rfl (by decide +kernel) (Or.inl rfl)) (wz_n))
theorem mmk_32 (pc : Nat) : ∀ x, mmc_32 pc = some x → mm_K 32 pc x := wz_fin mmkn_32 mmkw_32 mmkd_32 mmks_32 pc
set_option maxRecDepth 100000 in
theorem mmkw_33 : wz_w mmc_33 [1, 6, 16, 23, 36, 46, 61, 78] [] 92 (mm_by 33).data.toList 0 = true := by decide +kernel
set_option maxRecDepth 100000 in
set_option maxHeartbeats 4000000 in
theorem mmkn_33 (pc : Nat) (h : 92 ≤ pc) : mmc_33 pc = none :=
  wz_rs h rfl (wz_rs h rfl (wz_rs h rfl (wz_re h rfl)))
set_option maxRecDepth 100000 in
set_option maxHeartbeats 4000000 in
theorem mmks_33 : wz_A (wz_PS 33 mmc_33) [1, 6, 16, 23, 36, 46, 61, 78] :=
  wz_c (wz_sp (.getfield 77, [(1, 7)]) rfl (⟨_, rfl, by decide, q_165⟩)) (wz_c (wz_sp (.getfield 82, [(1, 12)]) rfl (⟨_, rfl, by decide, q_178⟩)) (wz_c (wz_sp (.getfield 30, [(8, 3)]) rfl (⟨_, rfl, by decide, q_75⟩)) (wz_c (wz_sp (.getfield 15, [(8, 2)]) rfl (⟨_, rfl, by decide, q_74⟩)) (wz_c (wz_sp (.invokevirtual 85, [(8, 34)]) rfl (⟨_, rfl, q_399, q_401, q_4, rfl⟩)) (wz_c (wz_sp (.getfield 9, [(8, 0)]) rfl (⟨_, rfl, by decide, q_71⟩)) (wz_c (wz_sp (.getfield 9, [(8, 0)]) rfl (⟨_, rfl, by decide, q_71⟩)) (wz_c (wz_sp (.invokevirtual 89, [(8, 35)]) rfl (⟨_, rfl, q_403, q_405, q_5, rfl⟩)) (wz_n))))))))
set_option maxRecDepth 100000 in
set_option maxHeartbeats 4000000 in
theorem mmkd_33 : wz_A (wz_PD 33 mmc_33) [] :=
  wz_n
theorem mmk_33 (pc : Nat) : ∀ x, mmc_33 pc = some x → mm_K 33 pc x := wz_fin mmkn_33 mmkw_33 mmkd_33 mmks_33 pc
set_option maxRecDepth 100000 in
theorem mmkw_34 : wz_w mmc_34 [4, 10, 15, 71, 128] [15] 140 (mm_by 34).data.toList 0 = true := by decide +kernel
set_option maxRecDepth 100000 in
set_option maxHeartbeats 4000000 in
theorem mmkn_34 (pc : Nat) (h : 140 ≤ pc) : mmc_34 pc = none :=
  wz_rs h rfl (wz_rs h rfl (wz_rs h rfl (wz_rs h rfl (wz_rs h rfl (wz_rs h rfl (wz_re h rfl))))))
set_option maxRecDepth 100000 in
set_option maxHeartbeats 4000000 in
theorem mmks_34 : wz_A (wz_PS 34 mmc_34) [4, 10, 15, 71, 128] :=
  wz_c (wz_sp (.invokevirtual 89, [(8, 35)]) rfl (⟨_, rfl, q_403, q_405, q_5, rfl⟩)) (wz_c (wz_sp (.getfield 9, [(8, 0)]) rfl (⟨_, rfl, by decide, q_71⟩)) (wz_c (wz_sp (.lookupswitch 111 #[(109, 41), (115, 82), (119, 69), (120, 52)], []) rfl (rfl)) (wz_c (wz_sp (.invokevirtual 92, [(8, 36)]) rfl (⟨_, rfl, q_407, q_409, q_6, rfl⟩)) (wz_c (wz_sp (.invokestatic 95, [(0, 37)]) rfl (⟨Or.inr ⟨_, q_411⟩, q_412, rfl⟩)) (wz_n)))))
set_option maxRecDepth 100000 in
set_option maxHeartbeats 4000000 in
theorem mmkd_34 : wz_A (wz_PD 34 mmc_34) [15] :=
  wz_c (wz_sd (.lookupswitch 111 #[(109, 41), (115, 82), (119, 69), (120, 52)], []) 41 rfl (by decide +kernel) (Or.inr rfl)) (wz_n)
theorem mmk_34 (pc : Nat) : ∀ x, mmc_34 pc = some x → mm_K 34 pc x := wz_fin mmkn_34 mmkw_34 mmkd_34 mmks_34 pc
set_option maxRecDepth 100000 in
theorem mmkw_35 : wz_w mmc_35 [4, 12] [] 17 (mm_by 35).data.toList 0 = true := by decide +kernel
set_option maxRecDepth 100000 in
set_option maxHeartbeats 4000000 in
theorem mmkn_35 (pc : Nat) (h : 17 ≤ pc) : mmc_35 pc = none :=
  wz_rs h rfl (wz_rs h rfl (wz_rs h rfl (wz_rs h rfl (wz_re h rfl))))
set_option maxRecDepth 100000 in
set_option maxHeartbeats 4000000 in
theorem mmks_35 : wz_A (wz_PS 35 mmc_35) [4, 12] :=
  wz_c (wz_sp (.invokevirtual 92, [(8, 36)]) rfl (⟨_, rfl, q_407, q_409, q_6, rfl⟩)) (wz_c (wz_sp (.invokevirtual 92, [(8, 36)]) rfl (⟨_, rfl, q_407, q_409, q_6, rfl⟩)) (wz_n))
set_option maxRecDepth 100000 in
set_option maxHeartbeats 4000000 in
theorem mmkd_35 : wz_A (wz_PD 35 mmc_35) [] :=
  wz_n
theorem mmk_35 (pc : Nat) : ∀ x, mmc_35 pc = some x → mm_K 35 pc x := wz_fin mmkn_35 mmkw_35 mmkd_35 mmks_35 pc
set_option maxRecDepth 100000 in
theorem mmkw_36 : wz_w mmc_36 [2, 9] [] 22 (mm_by 36).data.toList 0 = true := by decide +kernel
set_option maxRecDepth 100000 in
set_option maxHeartbeats 4000000 in
theorem mmkn_36 (pc : Nat) (h : 22 ≤ pc) : mmc_36 pc = none :=
  wz_rs h rfl (wz_rs h rfl (wz_rs h rfl (wz_rs h rfl (wz_re h rfl))))
set_option maxRecDepth 100000 in
set_option maxHeartbeats 4000000 in
theorem mmks_36 : wz_A (wz_PS 36 mmc_36) [2, 9] :=
  wz_c (wz_sp (.getfield 18, [(8, 1)]) rfl (⟨_, rfl, by decide, q_72⟩)) (wz_c (wz_sp (.getfield 9, [(8, 0)]) rfl (⟨_, rfl, by decide, q_71⟩)) (wz_n))
set_option maxRecDepth 100000 in
set_option maxHeartbeats 4000000 in
theorem mmkd_36 : wz_A (wz_PD 36 mmc_36) [] :=
  wz_n
theorem mmk_36 (pc : Nat) : ∀ x, mmc_36 pc = some x → mm_K 36 pc x := wz_fin mmkn_36 mmkw_36 mmkd_36 mmks_36 pc
set_option maxRecDepth 100000 in
theorem mmkw_37 : wz_w mmc_37 [] [] 16 (mm_by 37).data.toList 0 = true := by decide +kernel
set_option maxRecDepth 100000 in
set_option maxHeartbeats 4000000 in
theorem mmkn_37 (pc : Nat) (h : 16 ≤ pc) : mmc_37 pc = none :=
  wz_rs h rfl (wz_rs h rfl (wz_rs h rfl (wz_rs h rfl (wz_re h rfl))))
set_option maxRecDepth 100000 in
set_option maxHeartbeats 4000000 in
theorem mmks_37 : wz_A (wz_PS 37 mmc_37) [] :=
  wz_n
set_option maxRecDepth 100000 in
set_option maxHeartbeats 4000000 in
theorem mmkd_37 : wz_A (wz_PD 37 mmc_37) [] :=
  wz_n
theorem mmk_37 (pc : Nat) : ∀ x, mmc_37 pc = some x → mm_K 37 pc x := wz_fin mmkn_37 mmkw_37 mmkd_37 mmks_37 pc
set_option maxRecDepth 100000 in
theorem mmkw_38 : wz_w mmc_38 [4, 12, 18, 28] [] 32 (mm_by 38).data.toList 0 = true := by decide +kernel
set_option maxRecDepth 100000 in
set_option maxHeartbeats 4000000 in
theorem mmkn_38 (pc : Nat) (h : 32 ≤ pc) : mmc_38 pc = none :=
  wz_rs h rfl (wz_rs h rfl (wz_re h rfl))
set_option maxRecDepth 100000 in
set_option maxHeartbeats 4000000 in
theorem mmks_38 : wz_A (wz_PS 38 mmc_38) [4, 12, 18, 28] :=
  wz_c (wz_sp (.getfield 30, [(8, 3)]) rfl (⟨_, rfl, by decide, q_75⟩)) (wz_c (wz_sp (.getfield 15, [(8, 2)]) rfl (⟨_, rfl, by decide, q_74⟩)) (wz_c (wz_sp (.invokevirtual 33, [(8, 39)]) rfl (⟨_, rfl, q_418, q_420, q_7, rfl⟩)) (wz_c (wz_sp (.getfield 30, [(8, 3)]) rfl (⟨_, rfl, by decide, q_75⟩)) (wz_n))))
set_option maxRecDepth 100000 in
set_option maxHeartbeats 4000000 in
theorem mmkd_38 : wz_A (wz_PD 38 mmc_38) [] :=
  wz_n
theorem mmk_38 (pc : Nat) : ∀ x, mmc_38 pc = some x → mm_K 38 pc x := wz_fin mmkn_38 mmkw_38 mmkd_38 mmks_38 pc
set_option maxRecDepth 100000 in
theorem mmkw_39 : wz_w mmc_39 [4, 9, 121, 129, 137, 143, 158, 165, 168, 176, 184, 192, 203, 206, 214] [14] 221 (mm_by 39).data.toList 0 = true := by decide +kernel
set_option maxRecDepth 100000 in
set_option maxHeartbeats 4000000 in
theorem mmkn_39 (pc : Nat) (h : 221 ≤ pc) : mmc_39 pc = none :=
  wz_rs h rfl (wz_rs h rfl (wz_rs h rfl (wz_rs h rfl (wz_rs h rfl (wz_rs h rfl (wz_re h rfl))))))
set_option maxRecDepth 100000 in
set_option maxHeartbeats 4000000 in
theorem mmks_39 : wz_A (wz_PS 39 mmc_39) [4, 9, 121, 129, 137, 143, 158, 165, 168, 176, 184, 192, 203, 206, 214] :=
  wz_c (wz_sp (.invokevirtual 89, [(8, 35)]) rfl (⟨_, rfl, q_403, q_405, q_5, rfl⟩)) (wz_c (wz_sp (.getfield 9, [(8, 0)]) rfl (⟨_, rfl, by decide, q_71⟩)) (wz_c (wz_sp (.getfield 99, [(1, 1)]) rfl (⟨_, rfl, by decide, q_152⟩)) (wz_c (wz_sp (.invokevirtual 92, [(8, 36)]) rfl (⟨_, rfl, q_407, q_409, q_6, rfl⟩)) (wz_c (wz_sp (.getfield 102, [(1, 2)]) rfl (⟨_, rfl, by decide, q_155⟩)) (wz_c (wz_sp (.getfield 102, [(1, 2)]) rfl (⟨_, rfl, by decide, q_155⟩)) (wz_c (wz_sp (.invokevirtual 105, [(8, 40)]) rfl (⟨_, rfl, q_422, q_424, q_8, rfl⟩)) (wz_c (wz_sp (.invokevirtual 92, [(8, 36)]) rfl (⟨_, rfl, q_407, q_409, q_6, rfl⟩)) (wz_c (wz_sp (.invokevirtual 108, [(1, 41)]) rfl (⟨_, rfl, q_426, q_427, q_428, rfl⟩)) (wz_c (wz_sp (.putfield 112, [(1, 8), (0, 0)]) rfl (⟨_, rfl, by decide, q_169, _, rfl, rfl, rfl⟩)) (wz_c (wz_sp (.putfield 115, [(1, 9), (0, 0)]) rfl (⟨_, rfl, by decide, q_172, _, rfl, rfl, rfl⟩)) (wz_c (wz_sp (.putfield 118, [(1, 11), (0, 0)]) rfl (⟨_, rfl, by decide, q_176, _, rfl, rfl, rfl⟩)) (wz_c (wz_sp (.invokevirtual 92, [(8, 36)]) rfl (⟨_, rfl, q_407, q_409, q_6, rfl⟩)) (wz_c (wz_sp (.invokevirtual 121, [(1, 42)]) rfl (⟨_, rfl, q_430, q_431, q_432, rfl⟩)) (wz_c (wz_sp (.invokevirtual 125, [(1, 43)]) rfl (⟨_, rfl, q_434, q_435, q_436, rfl⟩)) (wz_n)))))))))))))))
set_option maxRecDepth 100000 in
set_option maxHeartbeats 4000000 in
theorem mmkd_39 : wz_A (wz_PD 39 mmc_39) [14] :=
  wz_c (wz_sd (.tableswitch 206 98 120 #[160, 106, 206, 206, 206, 168, 206, 206, 206, 122, 206, 139, 206, 206, 206, 206, 206, 198, 206, 206, 206, 176, 184], []) 106 rfl (by decide +kernel) (Or.inr rfl)) (wz_n)
theorem mmk_39 (pc : Nat) : ∀ x, mmc_39 pc = some x → mm_K 39 pc x := wz_fin mmkn_39 mmkw_39 mmkd_39 mmks_39 pc
set_option maxRecDepth 100000 in
theorem mmkw_40 : wz_w mmc_40 [0, 3, 9] [8] 13 (mm_by 40).data.toList 0 = true := by decide +kernel
set_option maxRecDepth 100000 in
set_option maxHeartbeats 4000000 in
theorem mmkn_40 (pc : Nat) (h : 13 ≤ pc) : mmc_40 pc = none :=
  wz_rs h rfl (wz_rs h rfl (wz_rs h rfl (wz_re h rfl)))
set_option maxRecDepth 100000 in
set_option maxHeartbeats 4000000 in
theorem mmks_40 : wz_A (wz_PS 40 mmc_40) [0, 3, 9] :=
  wz_c (wz_sp (.ldc 47, [(1, 5)]) rfl (⟨rfl, rfl⟩)) (wz_c (wz_sp (.getfield 9, [(8, 0)]) rfl (⟨_, rfl, by decide, q_71⟩)) (wz_c (wz_sp (.invokevirtual 49, [(11, 28)]) rfl (⟨_, rfl, q_336, q_337, q_338, rfl⟩)) (wz_n)))
set_option maxRecDepth 100000 in
set_option maxHeartbeats 4000000 in
theorem mmkd_40 : wz_A (wz_PD 40 mmc_40) [8] :=
  wz_c (wz_sd (.i2c, []) 1 rfl (by decide +kernel) (Or.inl rfl)) (wz_n)
theorem mmk_40 (pc : Nat) : ∀ x, mmc_40 pc = some x → mm_K 40 pc x := wz_fin mmkn_40 mmkw_40 mmkd_40 mmks_40 pc
set_option maxRecDepth 100000 in
theorem mmkw_41 : wz_w mmc_41 [1, 9, 13, 19, 23, 29, 33, 39, 43, 47, 53, 58] [] 62 (mm_by 41).data.toList 0 = true := by decide +kernel
set_option maxRecDepth 100000 in
set_option maxHeartbeats 4000000 in
theorem mmkn_41 (pc : Nat) (h : 62 ≤ pc) : mmc_41 pc = none :=
  wz_rs h rfl (wz_rs h rfl (wz_rs h rfl (wz_rs h rfl (wz_re h rfl))))
set_option maxRecDepth 100000 in
set_option maxHeartbeats 4000000 in
theorem mmks_41 : wz_A (wz_PS 41 mmc_41) [1, 9, 13, 19, 23, 29, 33, 39, 43, 47, 53, 58] :=
  wz_c (wz_sp (.getfield 50, [(1, 7)]) rfl (⟨_, rfl, by decide, q_164⟩)) (wz_c (wz_sp (.getfield 18, [(1, 3)]) rfl (⟨_, rfl, by decide, q_156⟩)) (wz_c (wz_sp (.getfield 50, [(1, 7)]) rfl (⟨_, rfl, by decide, q_164⟩)) (wz_c (wz_sp (.getfield 21, [(1, 4)]) rfl (⟨_, rfl, by decide, q_158⟩)) (wz_c (wz_sp (.getfield 50, [(1, 7)]) rfl (⟨_, rfl, by decide, q_164⟩)) (wz_c (wz_sp (.getfield 24, [(1, 5)]) rfl (⟨_, rfl, by decide, q_160⟩)) (wz_c (wz_sp (.getfield 50, [(1, 7)]) rfl (⟨_, rfl, by decide, q_164⟩)) (wz_c (wz_sp (.getfield 27, [(1, 6)]) rfl (⟨_, rfl, by decide, q_162⟩)) (wz_c (wz_sp (.getfield 50, [(1, 7)]) rfl (⟨_, rfl, by decide, q_164⟩)) (wz_c (wz_sp (.getfield 50, [(1, 7)]) rfl (⟨_, rfl, by decide, q_164⟩)) (wz_c (wz_sp (.getfield 50, [(1, 7)]) rfl (⟨_, rfl, by decide, q_164⟩)) (wz_c (wz_sp (.putfield 50, [(1, 7), (0, 0)]) rfl (⟨_, rfl, by decide, q_164, _, rfl, rfl, rfl⟩)) (wz_n))))))))))))
set_option maxRecDepth 100000 in
set_option maxHeartbeats 4000000 in
theorem mmkd_41 : wz_A (wz_PD 41 mmc_41) [] :=
  wz_n
theorem mmk_41 (pc : Nat) : ∀ x, mmc_41 pc = some x → mm_K 41 pc x := wz_fin mmkn_41 mmkw_41 mmkd_41 mmks_41 pc
set_option maxRecDepth 100000 in
theorem mmkw_42 : wz_w mmc_42 [6, 13, 23, 28, 45, 52] [] 59 (mm_by 42).data.toList 0 = true := by decide +kernel
set_option maxRecDepth 100000 in
set_option maxHeartbeats 4000000 in
theorem mmkn_42 (pc : Nat) (h : 59 ≤ pc) : mmc_42 pc = none :=
  wz_rs h rfl (wz_rs h rfl (wz_rs h rfl (wz_rs h rfl (wz_re h rfl))))
set_option maxRecDepth 100000 in
set_option maxHeartbeats 4000000 in
theorem mmks_42 : wz_A (wz_PS 42 mmc_42) [6, 13, 23, 28, 45, 52] :=
  wz_c (wz_sp (.getfield 50, [(1, 7)]) rfl (⟨_, rfl, by decide, q_164⟩)) (wz_c (wz_sp (.getfield 27, [(1, 6)]) rfl (⟨_, rfl, by decide, q_162⟩)) (wz_c (wz_sp (.getfield 27, [(1, 6)]) rfl (⟨_, rfl, by decide, q_162⟩)) (wz_c (wz_sp (.getfield 27, [(1, 6)]) rfl (⟨_, rfl, by decide, q_162⟩)) (wz_c (wz_sp (.getfield 50, [(1, 7)]) rfl (⟨_, rfl, by decide, q_164⟩)) (wz_c (wz_sp (.getfield 27, [(1, 6)]) rfl (⟨_, rfl, by decide, q_162⟩)) (wz_n))))))
set_option maxRecDepth 100000 in
set_option maxHeartbeats 4000000 in
theorem mmkd_42 : wz_A (wz_PD 42 mmc_42) [] :=
  wz_n
theorem mmk_42 (pc : Nat) : ∀ x, mmc_42 pc = some x → mm_K 42 pc x := wz_fin mmkn_42 mmkw_42 mmkd_42 mmks_42 pc
set_option maxRecDepth 100000 in
theorem mmkw_43 : wz_w mmc_43 [9] [] 19 (mm_by 43).data.toList 0 = true := by decide +kernel
set_option maxRecDepth 100000 in
set_option maxHeartbeats 4000000 in
theorem mmkn_43 (pc : Nat) (h : 19 ≤ pc) : mmc_43 pc = none :=
  wz_rs h rfl (wz_rs h rfl (wz_rs h rfl (wz_rs h rfl (wz_re h rfl))))
set_option maxRecDepth 100000 in
set_option maxHeartbeats 4000000 in
theorem mmks_43 : wz_A (wz_PS 43 mmc_43) [9] :=
  wz_c (wz_sp (.invokevirtual 98, [(1, 44)]) rfl (⟨_, rfl, q_438, q_439, q_440, rfl⟩)) (wz_n)
set_option maxRecDepth 100000 in
set_option maxHeartbeats 4000000 in
theorem mmkd_43 : wz_A (wz_PD 43 mmc_43) [] :=
  wz_n
theorem mmk_43 (pc : Nat) : ∀ x, mmc_43 pc = some x → mm_K 43 pc x := wz_fin mmkn_43 mmkw_43 mmkd_43 mmks_43 pc
set_option maxRecDepth 100000 in
theorem mmkw_44 : wz_w mmc_44 [1, 6, 10, 16, 21, 32, 41, 49, 56, 64, 72, 79, 87, 92] [] 96 (mm_by 44).data.toList 0 = true := by decide +kernel
set_option maxRecDepth 100000 in
set_option maxHeartbeats 4000000 in
theorem mmkn_44 (pc : Nat) (h : 96 ≤ pc) : mmc_44 pc = none :=
  wz_rs h rfl (wz_rs h rfl (wz_rs h rfl (wz_rs h rfl (wz_rs h rfl (wz_re h rfl)))))
set_option maxRecDepth 100000 in
set_option maxHeartbeats 4000000 in
theorem mmks_44 : wz_A (wz_PS 44 mmc_44) [1, 6, 10, 16, 21, 32, 41, 49, 56, 64, 72, 79, 87, 92] :=
  wz_c (wz_sp (.invokevirtual 79, [(1, 45)]) rfl (⟨_, rfl, q_442, q_443, q_444, rfl⟩)) (wz_c (wz_sp (.getfield 53, [(1, 8)]) rfl (⟨_, rfl, by decide, q_167⟩)) (wz_c (wz_sp (.invokestatic 82, [(0, 48)]) rfl (⟨Or.inr ⟨_, q_476⟩, q_458, rfl⟩)) (wz_c (wz_sp (.getfield 56, [(1, 12)]) rfl (⟨_, rfl, by decide, q_177⟩)) (wz_c (wz_sp (.putfield 56, [(1, 12), (0, 0)]) rfl (⟨_, rfl, by decide, q_177, _, rfl, rfl, rfl⟩)) (wz_c (wz_sp (.getfield 27, [(1, 6)]) rfl (⟨_, rfl, by decide, q_162⟩)) (wz_c (wz_sp (.invokevirtual 85, [(1, 54)]) rfl (⟨_, rfl, q_477, q_478, q_479, rfl⟩)) (wz_c (wz_sp (.invokevirtual 88, [(1, 55)]) rfl (⟨_, rfl, q_482, q_483, q_484, rfl⟩)) (wz_c (wz_sp (.getfield 24, [(1, 5)]) rfl (⟨_, rfl, by decide, q_160⟩)) (wz_c (wz_sp (.getfield 24, [(1, 5)]) rfl (⟨_, rfl, by decide, q_160⟩)) (wz_c (wz_sp (.invokestatic 91, [(5, 0)]) rfl (⟨q_507, by decide, by decide⟩)) (wz_c (wz_sp (.invokevirtual 94, [(1, 42)]) rfl (⟨_, rfl, q_508, q_431, q_432, rfl⟩)) (wz_c (wz_sp (.putfield 53, [(1, 8), (0, 0)]) rfl (⟨_, rfl, by decide, q_167, _, rfl, rfl, rfl⟩)) (wz_c (wz_sp (.putfield 34, [(1, 10), (0, 0)]) rfl (⟨_, rfl, by decide, q_173, _, rfl, rfl, rfl⟩)) (wz_n))))))))))))))
set_option maxRecDepth 100000 in
set_option maxHeartbeats 4000000 in
theorem mmkd_44 : wz_A (wz_PD 44 mmc_44) [] :=
  wz_n
theorem mmk_44 (pc : Nat) : ∀ x, mmc_44 pc = some x → mm_K 44 pc x := wz_fin mmkn_44 mmkw_44 mmkd_44 mmks_44 pc
set_option maxRecDepth 100000 in
theorem mmkw_45 : wz_w mmc_45 [1, 8, 12, 22, 26, 30, 38, 42, 46, 50, 55] [36] 59 (mm_by 45).data.toList 0 = true := by decide +kernel
set_option maxRecDepth 100000 in
set_option maxHeartbeats 4000000 in
theorem mmkn_45 (pc : Nat) (h : 59 ≤ pc) : mmc_45 pc = none :=
  wz_rs h rfl (wz_rs h rfl (wz_rs h rfl (wz_rs h rfl (wz_rs h rfl (wz_re h rfl)))))
set_option maxRecDepth 100000 in
set_option maxHeartbeats 4000000 in
theorem mmks_45 : wz_A (wz_PS 45 mmc_45) [1, 8, 12, 22, 26, 30, 38, 42, 46, 50, 55] :=
  wz_c (wz_sp (.getfield 50, [(1, 7)]) rfl (⟨_, rfl, by decide, q_164⟩)) (wz_c (wz_sp (.getfield 53, [(1, 8)]) rfl (⟨_, rfl, by decide, q_167⟩)) (wz_c (wz_sp (.getfield 30, [(1, 9)]) rfl (⟨_, rfl, by decide, q_170⟩)) (wz_c (wz_sp (.getfield 40, [(1, 0)]) rfl (⟨_, rfl, by decide, q_149⟩)) (wz_c (wz_sp (.getfield 18, [(1, 3)]) rfl (⟨_, rfl, by decide, q_156⟩)) (wz_c (wz_sp (.getfield 27, [(1, 6)]) rfl (⟨_, rfl, by decide, q_162⟩)) (wz_c (wz_sp (.getfield 53, [(1, 8)]) rfl (⟨_, rfl, by decide, q_167⟩)) (wz_c (wz_sp (.invokevirtual 65, [(1, 46)]) rfl (⟨_, rfl, q_446, q_447, q_448, rfl⟩)) (wz_c (wz_sp (.getfield 34, [(1, 10)]) rfl (⟨_, rfl, by decide, q_173⟩)) (wz_c (wz_sp (.getfield 56, [(1, 12)]) rfl (⟨_, rfl, by decide, q_177⟩)) (wz_c (wz_sp (.invokevirtual 69, [(3, 53), (0, 47), (2, 49), (4, 50), (5, 51), (7, 52)]) rfl (⟨q_450, q_453, by decide, by decide, List.forall_mem_cons.mpr ⟨⟨⟨_, rfl, q_452, q_451, rfl⟩, rfl⟩, List.forall_mem_cons.mpr ⟨⟨⟨_, rfl, q_454, q_455, rfl⟩, rfl⟩, List.forall_mem_cons.mpr ⟨⟨⟨_, rfl, q_460, q_461, rfl⟩, rfl⟩, List.forall_mem_cons.mpr ⟨⟨⟨_, rfl, q_463, q_464, rfl⟩, rfl⟩, List.forall_mem_cons.mpr ⟨⟨⟨_, rfl, q_468, q_469, rfl⟩, rfl⟩, List.forall_mem_cons.mpr ⟨⟨⟨_, rfl, q_471, q_472, rfl⟩, rfl⟩, fun _ h => absurd h List.not_mem_nil⟩⟩⟩⟩⟩⟩⟩)) (wz_n)))))))))))
set_option maxRecDepth 100000 in
set_option maxHeartbeats 4000000 in
theorem mmkd_45 : wz_A (wz_PD 45 mmc_45) [36] :=
  wz_c (wz_sd (.aaload, []) 1 rfl (by decide +kernel) (Or.inl rfl)) (wz_n)
theorem mmk_45 (pc : Nat) : ∀ x, mmc_45 pc = some x → mm_K 45 pc x := wz_fin mmkn_45 mmkw_45 mmkd_45 mmks_45 pc
set_option maxRecDepth 100000 in
theorem mmkw_46 : wz_w mmc_46 [1, 7, 29, 33, 43, 47] [] 59 (mm_by 46).data.toList 0 = true := by decide +kernel
set_option maxRecDepth 100000 in
set_option maxHeartbeats 4000000 in
theorem mmkn_46 (pc : Nat) (h : 59 ≤ pc) : mmc_46 pc = none :=
  wz_rs h rfl (wz_rs h rfl (wz_rs h rfl (wz_re h rfl)))
set_option maxRecDepth 100000 in
set_option maxHeartbeats 4000000 in
theorem mmks_46 : wz_A (wz_PS 46 mmc_46) [1, 7, 29, 33, 43, 47] :=
  wz_c (wz_sp (.getfield 30, [(1, 9)]) rfl (⟨_, rfl, by decide, q_170⟩)) (wz_c (wz_sp (.getfield 53, [(1, 8)]) rfl (⟨_, rfl, by decide, q_167⟩)) (wz_c (wz_sp (.getfield 30, [(1, 9)]) rfl (⟨_, rfl, by decide, q_170⟩)) (wz_c (wz_sp (.getfield 53, [(1, 8)]) rfl (⟨_, rfl, by decide, q_167⟩)) (wz_c (wz_sp (.getfield 30, [(1, 9)]) rfl (⟨_, rfl, by decide, q_170⟩)) (wz_c (wz_sp (.getfield 53, [(1, 8)]) rfl (⟨_, rfl, by decide, q_167⟩)) (wz_n))))))
set_option maxRecDepth 100000 in
set_option maxHeartbeats 4000000 in
theorem mmkd_46 : wz_A (wz_PD 46 mmc_46) [] :=
  wz_n
theorem mmk_46 (pc : Nat) : ∀ x, mmc_46 pc = some x → mm_K 46 pc x := wz_fin mmkn_46 mmkw_46 mmkd_46 mmks_46 pc
set_option maxRecDepth 100000 in
theorem mmkw_47 : wz_w mmc_47 [2] [] 16 (mm_by 47).data.toList 0 = true := by decide +kernel
set_option maxRecDepth 100000 in
set_option maxHeartbeats 4000000 in
theorem mmkn_47 (pc : Nat) (h : 16 ≤ pc) : mmc_47 pc = none :=
  wz_rs h rfl (wz_rs h rfl (wz_rs h rfl (wz_rs h rfl (wz_re h rfl))))
set_option maxRecDepth 100000 in
set_option maxHeartbeats 4000000 in
theorem mmks_47 : wz_A (wz_PS 47 mmc_47) [2] :=
  wz_c (wz_sp (.invokestatic 9, [(0, 48)]) rfl (⟨Or.inr ⟨_, q_457⟩, q_458, rfl⟩)) (wz_n)
set_option maxRecDepth 100000 in
set_option maxHeartbeats 4000000 in
theorem mmkd_47 : wz_A (wz_PD 47 mmc_47) [] :=
  wz_n
theorem mmk_47 (pc : Nat) : ∀ x, mmc_47 pc = some x → mm_K 47 pc x := wz_fin mmkn_47 mmkw_47 mmkd_47 mmks_47 pc
set_option maxRecDepth 100000 in
theorem mmkw_48 : wz_w mmc_48 [] [1] 95 (mm_by 48).data.toList 0 = true := by decide +kernel
set_option maxRecDepth 100000 in
set_option maxHeartbeats 4000000 in
theorem mmkn_48 (pc : Nat) (h : 95 ≤ pc) : mmc_48 pc = none :=
  wz_rs h rfl (wz_rs h rfl (wz_rs h rfl (wz_rs h rfl (wz_rs h rfl (wz_rs h rfl (wz_re h rfl))))))
set_option maxRecDepth 100000 in
set_option maxHeartbeats 4000000 in
theorem mmks_48 : wz_A (wz_PS 48 mmc_48) [] :=
  wz_n
set_option maxRecDepth 100000 in
set_option maxHeartbeats 4000000 in
theorem mmkd_48 : wz_A (wz_PD 48 mmc_48) [1] :=
  wz_c (wz_sd (.tableswitch 91 0 3 #[31, 45, 61, 76], []) 31 rfl (by decide +kernel) (Or.inr rfl)) (wz_n)
theorem mmk_48 (pc : Nat) : ∀ x, mmc_48 pc = some x → mm_K 48 pc x := wz_fin mmkn_48 mmkw_48 mmkd_48 mmks_48 pc
set_option maxRecDepth 100000 in
theorem mmkw_49 : wz_w mmc_49 [] [] 19 (mm_by 49).data.toList 0 = true := by decide +kernel
set_option maxRecDepth 100000 in
set_option maxHeartbeats 4000000 in
theorem mmkn_49 (pc : Nat) (h : 19 ≤ pc) : mmc_49 pc = none :=
  wz_rs h rfl (wz_rs h rfl (wz_rs h rfl (wz_rs h rfl (wz_re h rfl))))
set_option maxRecDepth 100000 in
set_option maxHeartbeats 4000000 in
theorem mmks_49 : wz_A (wz_PS 49 mmc_49) [] :=
  wz_n
set_option maxRecDepth 100000 in
set_option maxHeartbeats 4000000 in
theorem mmkd_49 : wz_A (wz_PD 49 mmc_49) [] :=
  wz_n
theorem mmk_49 (pc : Nat) : ∀ x, mmc_49 pc = some x → mm_K 49 pc x := wz_fin mmkn_49 mmkw_49 mmkd_49 mmks_49 pc
set_option maxRecDepth 100000 in
theorem mmkw_50 : wz_w mmc_50 [6, 22] [] 38 (mm_by 50).data.toList 0 = true := by decide +kernel
set_option maxRecDepth 100000 in
set_option maxHeartbeats 4000000 in
theorem mmkn_50 (pc : Nat) (h : 38 ≤ pc) : mmc_50 pc = none :=
  wz_rs h rfl (wz_rs h rfl (wz_rs h rfl (wz_rs h rfl (wz_re h rfl))))
set_option maxRecDepth 100000 in
set_option maxHeartbeats 4000000 in
theorem mmks_50 : wz_A (wz_PS 50 mmc_50) [6, 22] :=
  wz_c (wz_sp (.invokespecial 9, [(1, 49)]) rfl (⟨_, q_466, q_1165, q_142, Or.inl rfl, by decide, q_461, rfl⟩)) (wz_c (wz_sp (.invokestatic 13, [(0, 48)]) rfl (⟨Or.inr ⟨_, q_467⟩, q_458, rfl⟩)) (wz_n))
set_option maxRecDepth 100000 in
set_option maxHeartbeats 4000000 in
theorem mmkd_50 : wz_A (wz_PD 50 mmc_50) [] :=
  wz_n
theorem mmk_50 (pc : Nat) : ∀ x, mmc_50 pc = some x → mm_K 50 pc x := wz_fin mmkn_50 mmkw_50 mmkd_50 mmks_50 pc
set_option maxRecDepth 100000 in
theorem mmkw_51 : wz_w mmc_51 [] [] 2 (mm_by 51).data.toList 0 = true := by decide +kernel
set_option maxRecDepth 100000 in
set_option maxHeartbeats 4000000 in
theorem mmkn_51 (pc : Nat) (h : 2 ≤ pc) : mmc_51 pc = none :=
  wz_rs h rfl (wz_re h rfl)
set_option maxRecDepth 100000 in
set_option maxHeartbeats 4000000 in
theorem mmks_51 : wz_A (wz_PS 51 mmc_51) [] :=
  wz_n
set_option maxRecDepth 100000 in
set_option maxHeartbeats 4000000 in
theorem mmkd_51 : wz_A (wz_PD 51 mmc_51) [] :=
  wz_n
theorem mmk_51 (pc : Nat) : ∀ x, mmc_51 pc = some x → mm_K 51 pc x := wz_fin mmkn_51 mmkw_51 mmkd_51 mmks_51 pc
set_option maxRecDepth 100000 in
theorem mmkw_52 : wz_w mmc_52 [9] [] 23 (mm_by 52).data.toList 0 = true := by decide +kernel
set_option maxRecDepth 100000 in
set_option maxHeartbeats 4000000 in
theorem mmkn_52 (pc : Nat) (h : 23 ≤ pc) : mmc_52 pc = none :=
  wz_rs h rfl (wz_rs h rfl (wz_rs h rfl (wz_rs h rfl (wz_re h rfl))))
set_option maxRecDepth 100000 in
set_option maxHeartbeats 4000000 in
theorem mmks_52 : wz_A (wz_PS 52 mmc_52) [9] :=
  wz_c (wz_sp (.invokestatic 9, [(0, 48)]) rfl (⟨Or.inr ⟨_, q_474⟩, q_458, rfl⟩)) (wz_n)
set_option maxRecDepth 100000 in
set_option maxHeartbeats 4000000 in
theorem mmkd_52 : wz_A (wz_PD 52 mmc_52) [] :=
  wz_n
theorem mmk_52 (pc : Nat) : ∀ x, mmc_52 pc = some x → mm_K 52 pc x := wz_fin mmkn_52 mmkw_52 mmkd_52 mmks_52 pc
set_option maxRecDepth 100000 in
theorem mmkw_53 : wz_w mmc_53 [] [] 2 (mm_by 53).data.toList 0 = true := by decide +kernel
set_option maxRecDepth 100000 in
set_option maxHeartbeats 4000000 in
theorem mmkn_53 (pc : Nat) (h : 2 ≤ pc) : mmc_53 pc = none :=
  wz_rs h rfl (wz_re h rfl)
set_option maxRecDepth 100000 in
set_option maxHeartbeats 4000000 in
theorem mmks_53 : wz_A (wz_PS 53 mmc_53) [] :=
  wz_n
set_option maxRecDepth 100000 in
set_option maxHeartbeats 4000000 in
theorem mmkd_53 : wz_A (wz_PD 53 mmc_53) [] :=
  wz_n
theorem mmk_53 (pc : Nat) : ∀ x, mmc_53 pc = some x → mm_K 53 pc x := wz_fin mmkn_53 mmkw_53 mmkd_53 mmks_53 pc
set_option maxRecDepth 100000 in
theorem mmkw_54 : wz_w mmc_54 [11, 17, 21, 26, 31, 40] [] 48 (mm_by 54).data.toList 0 = true := by decide +kernel
set_option maxRecDepth 100000 in
set_option maxHeartbeats 4000000 in
theorem mmkn_54 (pc : Nat) (h : 48 ≤ pc) : mmc_54 pc = none :=
  wz_rs h rfl (wz_rs h rfl (wz_rs h rfl (wz_rs h rfl (wz_rs h rfl (wz_re h rfl)))))
set_option maxRecDepth 100000 in
set_option maxHeartbeats 4000000 in
theorem mmks_54 : wz_A (wz_PS 54 mmc_54) [11, 17, 21, 26, 31, 40] :=
  wz_c (wz_sp (.getfield 9, [(1, 1)]) rfl (⟨_, rfl, by decide, q_150⟩)) (wz_c (wz_sp (.getfield 9, [(1, 1)]) rfl (⟨_, rfl, by decide, q_150⟩)) (wz_c (wz_sp (.getfield 53, [(1, 8)]) rfl (⟨_, rfl, by decide, q_167⟩)) (wz_c (wz_sp (.invokestatic 73, [(4, 0)]) rfl (⟨q_481, by decide, by decide⟩)) (wz_c (wz_sp (.getfield 37, [(1, 11)]) rfl (⟨_, rfl, by decide, q_174⟩)) (wz_c (wz_sp (.getfield 15, [(1, 2)]) rfl (⟨_, rfl, by decide, q_153⟩)) (wz_n))))))
set_option maxRecDepth 100000 in
set_option maxHeartbeats 4000000 in
theorem mmkd_54 : wz_A (wz_PD 54 mmc_54) [] :=
  wz_n
theorem mmk_54 (pc : Nat) : ∀ x, mmc_54 pc = some x → mm_K 54 pc x := wz_fin mmkn_54 mmkw_54 mmkd_54 mmks_54 pc
set_option maxRecDepth 100000 in
theorem mmkw_55 : wz_w mmc_55 [1, 5, 12, 17] [10] 21 (mm_by 55).data.toList 0 = true := by decide +kernel
set_option maxRecDepth 100000 in
set_option maxHeartbeats 4000000 in
theorem mmkn_55 (pc : Nat) (h : 21 ≤ pc) : mmc_55 pc = none :=
  wz_rs h rfl (wz_rs h rfl (wz_rs h rfl (wz_rs h rfl (wz_re h rfl))))
set_option maxRecDepth 100000 in
set_option maxHeartbeats 4000000 in
theorem mmks_55 : wz_A (wz_PS 55 mmc_55) [1, 5, 12, 17] :=
  wz_c (wz_sp (.getfield 40, [(1, 0)]) rfl (⟨_, rfl, by decide, q_149⟩)) (wz_c (wz_sp (.getfield 18, [(1, 3)]) rfl (⟨_, rfl, by decide, q_156⟩)) (wz_c (wz_sp (.getfield 21, [(1, 4)]) rfl (⟨_, rfl, by decide, q_158⟩)) (wz_c (wz_sp (.invokevirtual 59, [(3, 59), (0, 56), (2, 57), (4, 57), (5, 58), (7, 59)]) rfl (⟨q_486, q_489, by decide, by decide, List.forall_mem_cons.mpr ⟨⟨⟨_, rfl, q_488, q_487, rfl⟩, rfl⟩, List.forall_mem_cons.mpr ⟨⟨⟨_, rfl, q_490, q_491, rfl⟩, rfl⟩, List.forall_mem_cons.mpr ⟨⟨⟨_, rfl, q_496, q_497, rfl⟩, rfl⟩, List.forall_mem_cons.mpr ⟨⟨⟨_, rfl, q_500, q_497, rfl⟩, rfl⟩, List.forall_mem_cons.mpr ⟨⟨⟨_, rfl, q_501, q_502, rfl⟩, rfl⟩, List.forall_mem_cons.mpr ⟨⟨⟨_, rfl, q_505, q_487, rfl⟩, rfl⟩, fun _ h => absurd h List.not_mem_nil⟩⟩⟩⟩⟩⟩⟩)) (wz_n))))
set_option maxRecDepth 100000 in
set_option maxHeartbeats 4000000 in
theorem mmkd_55 : wz_A (wz_PD 55 mmc_55) [10] :=
  wz_c (wz_sd (.aaload, []) 1 rfl (by decide +kernel) (Or.inl rfl)) (wz_n)
theorem mmk_55 (pc : Nat) : ∀ x, mmc_55 pc = some x → mm_K 55 pc x := wz_fin mmkn_55 mmkw_55 mmkd_55 mmks_55 pc
set_option maxRecDepth 100000 in
theorem mmkw_56 : wz_w mmc_56 [2] [] 8 (mm_by 56).data.toList 0 = true := by decide +kernel
set_option maxRecDepth 100000 in
set_option maxHeartbeats 4000000 in
theorem mmkn_56 (pc : Nat) (h : 8 ≤ pc) : mmc_56 pc = none :=
  wz_rs h rfl (wz_rs h rfl (wz_rs h rfl (wz_re h rfl)))
set_option maxRecDepth 100000 in
set_option maxHeartbeats 4000000 in
theorem mmks_56 : wz_A (wz_PS 56 mmc_56) [2] :=
  wz_c (wz_sp (.invokespecial 13, [(1, 59)]) rfl (⟨_, q_493, q_494, q_128, Or.inr q_121, by decide, q_487, rfl⟩)) (wz_n)
set_option maxRecDepth 100000 in
set_option maxHeartbeats 4000000 in
theorem mmkd_56 : wz_A (wz_PD 56 mmc_56) [] :=
  wz_n
theorem mmk_56 (pc : Nat) : ∀ x, mmc_56 pc = some x → mm_K 56 pc x := wz_fin mmkn_56 mmkw_56 mmkd_56 mmks_56 pc
set_option maxRecDepth 100000 in
theorem mmkw_57 : wz_w mmc_57 [2] [] 8 (mm_by 57).data.toList 0 = true := by decide +kernel
set_option maxRecDepth 100000 in
set_option maxHeartbeats 4000000 in
theorem mmkn_57 (pc : Nat) (h : 8 ≤ pc) : mmc_57 pc = none :=
  wz_rs h rfl (wz_rs h rfl (wz_rs h rfl (wz_re h rfl)))
set_option maxRecDepth 100000 in
set_option maxHeartbeats 4000000 in
theorem mmks_57 : wz_A (wz_PS 57 mmc_57) [2] :=
  wz_c (wz_sp (.invokespecial 9, [(1, 59)]) rfl (⟨_, q_499, q_489, q_114, Or.inl rfl, by decide, q_487, rfl⟩)) (wz_n)
set_option maxRecDepth 100000 in
set_option maxHeartbeats 4000000 in
theorem mmkd_57 : wz_A (wz_PD 57 mmc_57) [] :=
  wz_n
theorem mmk_57 (pc : Nat) : ∀ x, mmc_57 pc = some x → mm_K 57 pc x := wz_fin mmkn_57 mmkw_57 mmkd_57 mmks_57 pc
set_option maxRecDepth 100000 in
theorem mmkw_58 : wz_w mmc_58 [3] [] 8 (mm_by 58).data.toList 0 = true := by decide +kernel
set_option maxRecDepth 100000 in
set_option maxHeartbeats 4000000 in
theorem mmkn_58 (pc : Nat) (h : 8 ≤ pc) : mmc_58 pc = none :=
  wz_rs h rfl (wz_rs h rfl (wz_rs h rfl (wz_re h rfl)))
set_option maxRecDepth 100000 in
set_option maxHeartbeats 4000000 in
theorem mmks_58 : wz_A (wz_PS 58 mmc_58) [3] :=
  wz_c (wz_sp (.invokespecial 7, [(1, 57)]) rfl (⟨_, q_504, q_1166, q_135, Or.inl rfl, by decide, q_497, rfl⟩)) (wz_n)
set_option maxRecDepth 100000 in
set_option maxHeartbeats 4000000 in
theorem mmkd_58 : wz_A (wz_PD 58 mmc_58) [] :=
  wz_n
theorem mmk_58 (pc : Nat) : ∀ x, mmc_58 pc = some x → mm_K 58 pc x := wz_fin mmkn_58 mmkw_58 mmkd_58 mmks_58 pc
set_option maxRecDepth 100000 in
theorem mmkw_59 : wz_w mmc_59 [] [] 5 (mm_by 59).data.toList 0 = true := by decide +kernel
set_option maxRecDepth 100000 in
set_option maxHeartbeats 4000000 in
theorem mmkn_59 (pc : Nat) (h : 5 ≤ pc) : mmc_59 pc = none :=
  wz_rs h rfl (wz_rs h rfl (wz_re h rfl))
set_option maxRecDepth 100000 in
set_option maxHeartbeats 4000000 in
theorem mmks_59 : wz_A (wz_PS 59 mmc_59) [] :=
  wz_n
set_option maxRecDepth 100000 in
set_option maxHeartbeats 4000000 in
theorem mmkd_59 : wz_A (wz_PD 59 mmc_59) [] :=
  wz_n
theorem mmk_59 (pc : Nat) : ∀ x, mmc_59 pc = some x → mm_K 59 pc x := wz_fin mmkn_59 mmkw_59 mmkd_59 mmks_59 pc
set_option maxRecDepth 100000 in
theorem mmkw_60 : wz_w mmc_60 [2, 10, 49, 52, 59, 62, 69, 72, 79, 83, 88, 92, 99] [15] 103 (mm_by 60).data.toList 0 = true := by decide +kernel
set_option maxRecDepth 100000 in
set_option maxHeartbeats 4000000 in
theorem mmkn_60 (pc : Nat) (h : 103 ≤ pc) : mmc_60 pc = none :=
  wz_rs h rfl (wz_rs h rfl (wz_rs h rfl (wz_rs h rfl (wz_rs h rfl (wz_rs h rfl (wz_re h rfl))))))
set_option maxRecDepth 100000 in
set_option maxHeartbeats 4000000 in
theorem mmks_60 : wz_A (wz_PS 60 mmc_60) [2, 10, 49, 52, 59, 62, 69, 72, 79, 83, 88, 92, 99] :=
  wz_c (wz_sp (.invokevirtual 91, [(9, 61)]) rfl (⟨_, rfl, q_514, q_516, q_9, rfl⟩)) (wz_c (wz_sp (.invokevirtual 72, [(9, 12)]) rfl (⟨_, rfl, q_248, q_250, q_0, rfl⟩)) (wz_c (wz_sp (.getfield 62, [(9, 0)]) rfl (⟨_, rfl, by decide, q_207⟩)) (wz_c (wz_sp (.getfield 95, [(1, 3)]) rfl (⟨_, rfl, by decide, q_157⟩)) (wz_c (wz_sp (.getfield 62, [(9, 0)]) rfl (⟨_, rfl, by decide, q_207⟩)) (wz_c (wz_sp (.getfield 98, [(1, 4)]) rfl (⟨_, rfl, by decide, q_159⟩)) (wz_c (wz_sp (.getfield 62, [(9, 0)]) rfl (⟨_, rfl, by decide, q_207⟩)) (wz_c (wz_sp (.getfield 101, [(1, 5)]) rfl (⟨_, rfl, by decide, q_161⟩)) (wz_c (wz_sp (.getfield 62, [(9, 0)]) rfl (⟨_, rfl, by decide, q_207⟩)) (wz_c (wz_sp (.invokevirtual 104, [(1, 62)]) rfl (⟨_, rfl, q_518, q_519, q_520, rfl⟩)) (wz_c (wz_sp (.getfield 62, [(9, 0)]) rfl (⟨_, rfl, by decide, q_207⟩)) (wz_c (wz_sp (.invokevirtual 107, [(1, 55)]) rfl (⟨_, rfl, q_522, q_483, q_484, rfl⟩)) (wz_c (wz_sp (.invokevirtual 72, [(9, 12)]) rfl (⟨_, rfl, q_248, q_250, q_0, rfl⟩)) (wz_n)))))))))))))
set_option maxRecDepth 100000 in
set_option maxHeartbeats 4000000 in
theorem mmkd_60 : wz_A (wz_PD 60 mmc_60) [15] :=
  wz_c (wz_sd (.tableswitch 81 0 4 #[33, 43, 53, 63, 72], []) 33 rfl (by decide +kernel) (Or.inr rfl)) (wz_n)
theorem mmk_60 (pc : Nat) : ∀ x, mmc_60 pc = some x → mm_K 60 pc x := wz_fin mmkn_60 mmkw_60 mmkd_60 mmks_60 pc
set_option maxRecDepth 100000 in
theorem mmkw_61 : wz_w mmc_61 [6, 9] [] 21 (mm_by 61).data.toList 0 = true := by decide +kernel
set_option maxRecDepth 100000 in
set_option maxHeartbeats 4000000 in
theorem mmkn_61 (pc : Nat) (h : 21 ≤ pc) : mmc_61 pc = none :=
  wz_rs h rfl (wz_rs h rfl (wz_rs h rfl (wz_rs h rfl (wz_re h rfl))))
set_option maxRecDepth 100000 in
set_option maxHeartbeats 4000000 in
theorem mmks_61 : wz_A (wz_PS 61 mmc_61) [6, 9] :=
  wz_c (wz_sp (.getfield 62, [(9, 0)]) rfl (⟨_, rfl, by decide, q_207⟩)) (wz_c (wz_sp (.getfield 168, [(1, 7)]) rfl (⟨_, rfl, by decide, q_166⟩)) (wz_n))
set_option maxRecDepth 100000 in
set_option maxHeartbeats 4000000 in
theorem mmkd_61 : wz_A (wz_PD 61 mmc_61) [] :=
  wz_n
theorem mmk_61 (pc : Nat) : ∀ x, mmc_61 pc = some x → mm_K 61 pc x := wz_fin mmkn_61 mmkw_61 mmkd_61 mmks_61 pc
set_option maxRecDepth 100000 in
theorem mmkw_62 : wz_w mmc_62 [4, 11] [] 31 (mm_by 62).data.toList 0 = true := by decide +kernel
set_option maxRecDepth 100000 in
set_option maxHeartbeats 4000000 in
theorem mmkn_62 (pc : Nat) (h : 31 ≤ pc) : mmc_62 pc = none :=
  wz_rs h rfl (wz_rs h rfl (wz_re h rfl))
set_option maxRecDepth 100000 in
set_option maxHeartbeats 4000000 in
theorem mmks_62 : wz_A (wz_PS 62 mmc_62) [4, 11] :=
  wz_c (wz_sp (.getfield 50, [(1, 7)]) rfl (⟨_, rfl, by decide, q_164⟩)) (wz_c (wz_sp (.getfield 27, [(1, 6)]) rfl (⟨_, rfl, by decide, q_162⟩)) (wz_n))
set_option maxRecDepth 100000 in
set_option maxHeartbeats 4000000 in
theorem mmkd_62 : wz_A (wz_PD 62 mmc_62) [] :=
  wz_n
theorem mmk_62 (pc : Nat) : ∀ x, mmc_62 pc = some x → mm_K 62 pc x := wz_fin mmkn_62 mmkw_62 mmkd_62 mmks_62 pc
set_option maxRecDepth 100000 in
theorem mmkw_63 : wz_w mmc_63 [1, 9, 14, 41, 44, 51, 54, 63] [14] 67 (mm_by 63).data.toList 0 = true := by decide +kernel
set_option maxRecDepth 100000 in
set_option maxHeartbeats 4000000 in
theorem mmkn_63 (pc : Nat) (h : 67 ≤ pc) : mmc_63 pc = none :=
  wz_rs h rfl (wz_rs h rfl (wz_rs h rfl (wz_rs h rfl (wz_rs h rfl (wz_re h rfl)))))
set_option maxRecDepth 100000 in
set_option maxHeartbeats 4000000 in
theorem mmks_63 : wz_A (wz_PS 63 mmc_63) [1, 9, 14, 41, 44, 51, 54, 63] :=
  wz_c (wz_sp (.invokestatic 110, [(0, 37)]) rfl (⟨Or.inl q_527, q_412, rfl⟩)) (wz_c (wz_sp (.invokevirtual 72, [(9, 12)]) rfl (⟨_, rfl, q_248, q_250, q_0, rfl⟩)) (wz_c (wz_sp (.lookupswitch 46 #[(0, 26), (1, 36)], []) rfl (rfl)) (wz_c (wz_sp (.getfield 62, [(9, 0)]) rfl (⟨_, rfl, by decide, q_207⟩)) (wz_c (wz_sp (.getfield 113, [(1, 1)]) rfl (⟨_, rfl, by decide, q_151⟩)) (wz_c (wz_sp (.getfield 62, [(9, 0)]) rfl (⟨_, rfl, by decide, q_207⟩)) (wz_c (wz_sp (.getfield 116, [(1, 2)]) rfl (⟨_, rfl, by decide, q_154⟩)) (wz_c (wz_sp (.invokevirtual 72, [(9, 12)]) rfl (⟨_, rfl, q_248, q_250, q_0, rfl⟩)) (wz_n))))))))
set_option maxRecDepth 100000 in
set_option maxHeartbeats 4000000 in
theorem mmkd_63 : wz_A (wz_PD 63 mmc_63) [14] :=
  wz_c (wz_sd (.lookupswitch 46 #[(0, 26), (1, 36)], []) 26 rfl (by decide +kernel) (Or.inr rfl)) (wz_n)
theorem mmk_63 (pc : Nat) : ∀ x, mmc_63 pc = some x → mm_K 63 pc x := wz_fin mmkn_63 mmkw_63 mmkd_63 mmks_63 pc
set_option maxRecDepth 100000 in
theorem mmkw_64 : wz_w mmc_64 [29, 32, 37, 40, 45, 49, 52, 56, 59, 62, 65, 72] [1] 76 (mm_by 64).data.toList 0 = true := by decide +kernel
set_option maxRecDepth 100000 in
set_option maxHeartbeats 4000000 in
theorem mmkn_64 (pc : Nat) (h : 76 ≤ pc) : mmc_64 pc = none :=
  wz_rs h rfl (wz_rs h rfl (wz_rs h rfl (wz_rs h rfl (wz_rs h rfl (wz_re h rfl)))))
set_option maxRecDepth 100000 in
set_option maxHeartbeats 4000000 in
theorem mmks_64 : wz_A (wz_PS 64 mmc_64) [29, 32, 37, 40, 45, 49, 52, 56, 59, 62, 65, 72] :=
  wz_c (wz_sp (.getfield 62, [(9, 0)]) rfl (⟨_, rfl, by decide, q_207⟩)) (wz_c (wz_sp (.invokevirtual 119, [(1, 46)]) rfl (⟨_, rfl, q_532, q_447, q_448, rfl⟩)) (wz_c (wz_sp (.getfield 62, [(9, 0)]) rfl (⟨_, rfl, by decide, q_207⟩)) (wz_c (wz_sp (.invokevirtual 123, [(1, 45)]) rfl (⟨_, rfl, q_533, q_443, q_444, rfl⟩)) (wz_c (wz_sp (.getfield 62, [(9, 0)]) rfl (⟨_, rfl, by decide, q_207⟩)) (wz_c (wz_sp (.getfield 62, [(9, 0)]) rfl (⟨_, rfl, by decide, q_207⟩)) (wz_c (wz_sp (.getfield 126, [(1, 8)]) rfl (⟨_, rfl, by decide, q_168⟩)) (wz_c (wz_sp (.getfield 62, [(9, 0)]) rfl (⟨_, rfl, by decide, q_207⟩)) (wz_c (wz_sp (.invokevirtual 123, [(1, 45)]) rfl (⟨_, rfl, q_533, q_443, q_444, rfl⟩)) (wz_c (wz_sp (.invokestatic 129, [(0, 48)]) rfl (⟨Or.inl q_534, q_458, rfl⟩)) (wz_c (wz_sp (.invokevirtual 133, [(1, 54)]) rfl (⟨_, rfl, q_535, q_478, q_479, rfl⟩)) (wz_c (wz_sp (.invokevirtual 72, [(9, 12)]) rfl (⟨_, rfl, q_248, q_250, q_0, rfl⟩)) (wz_n))))))))))))
set_option maxRecDepth 100000 in
set_option maxHeartbeats 4000000 in
theorem mmkd_64 : wz_A (wz_PD 64 mmc_64) [1] :=
  wz_c (wz_sd (.tableswitch 68 0 2 #[27, 35, 43], []) 27 rfl (by decide +kernel) (Or.inr rfl)) (wz_n)
theorem mmk_64 (pc : Nat) : ∀ x, mmc_64 pc = some x → mm_K 64 pc x := wz_fin mmkn_64 mmkw_64 mmkd_64 mmks_64 pc
set_option maxRecDepth 100000 in
theorem mmkw_65 : wz_w mmc_65 [1, 9, 20, 33, 38, 41, 48, 51] [] 59 (mm_by 65).data.toList 0 = true := by decide +kernel
set_option maxRecDepth 100000 in
set_option maxHeartbeats 4000000 in
theorem mmkn_65 (pc : Nat) (h : 59 ≤ pc) : mmc_65 pc = none :=
  wz_rs h rfl (wz_rs h rfl (wz_rs h rfl (wz_re h rfl)))
set_option maxRecDepth 100000 in
set_option maxHeartbeats 4000000 in
theorem mmks_65 : wz_A (wz_PS 65 mmc_65) [1, 9, 20, 33, 38, 41, 48, 51] :=
  wz_c (wz_sp (.invokestatic 110, [(0, 37)]) rfl (⟨Or.inl q_527, q_412, rfl⟩)) (wz_c (wz_sp (.invokevirtual 72, [(9, 12)]) rfl (⟨_, rfl, q_248, q_250, q_0, rfl⟩)) (wz_c (wz_sp (.invokevirtual 72, [(9, 12)]) rfl (⟨_, rfl, q_248, q_250, q_0, rfl⟩)) (wz_c (wz_sp (.invokevirtual 72, [(9, 12)]) rfl (⟨_, rfl, q_248, q_250, q_0, rfl⟩)) (wz_c (wz_sp (.getfield 62, [(9, 0)]) rfl (⟨_, rfl, by decide, q_207⟩)) (wz_c (wz_sp (.getfield 113, [(1, 1)]) rfl (⟨_, rfl, by decide, q_151⟩)) (wz_c (wz_sp (.getfield 62, [(9, 0)]) rfl (⟨_, rfl, by decide, q_207⟩)) (wz_c (wz_sp (.getfield 113, [(1, 1)]) rfl (⟨_, rfl, by decide, q_151⟩)) (wz_n))))))))
set_option maxRecDepth 100000 in
set_option maxHeartbeats 4000000 in
theorem mmkd_65 : wz_A (wz_PD 65 mmc_65) [] :=
  wz_n
theorem mmk_65 (pc : Nat) : ∀ x, mmc_65 pc = some x → mm_K 65 pc x := wz_fin mmkn_65 mmkw_65 mmkd_65 mmks_65 pc
set_option maxRecDepth 100000 in
theorem mmkw_66 : wz_w mmc_66 [1, 9, 14, 17, 23, 26, 34, 37] [] 43 (mm_by 66).data.toList 0 = true := by decide +kernel
set_option maxRecDepth 100000 in
set_option maxHeartbeats 4000000 in
theorem mmkn_66 (pc : Nat) (h : 43 ≤ pc) : mmc_66 pc = none :=
  wz_rs h rfl (wz_rs h rfl (wz_rs h rfl (wz_rs h rfl (wz_rs h rfl (wz_re h rfl)))))
set_option maxRecDepth 100000 in
set_option maxHeartbeats 4000000 in
theorem mmks_66 : wz_A (wz_PS 66 mmc_66) [1, 9, 14, 17, 23, 26, 34, 37] :=
  wz_c (wz_sp (.invokestatic 110, [(0, 37)]) rfl (⟨Or.inl q_527, q_412, rfl⟩)) (wz_c (wz_sp (.invokevirtual 72, [(9, 12)]) rfl (⟨_, rfl, q_248, q_250, q_0, rfl⟩)) (wz_c (wz_sp (.getfield 62, [(9, 0)]) rfl (⟨_, rfl, by decide, q_207⟩)) (wz_c (wz_sp (.getfield 116, [(1, 2)]) rfl (⟨_, rfl, by decide, q_154⟩)) (wz_c (wz_sp (.getfield 62, [(9, 0)]) rfl (⟨_, rfl, by decide, q_207⟩)) (wz_c (wz_sp (.getfield 116, [(1, 2)]) rfl (⟨_, rfl, by decide, q_154⟩)) (wz_c (wz_sp (.getfield 62, [(9, 0)]) rfl (⟨_, rfl, by decide, q_207⟩)) (wz_c (wz_sp (.getfield 116, [(1, 2)]) rfl (⟨_, rfl, by decide, q_154⟩)) (wz_n))))))))
set_option maxRecDepth 100000 in
set_option maxHeartbeats 4000000 in
theorem mmkd_66 : wz_A (wz_PD 66 mmc_66) [] :=
  wz_n
theorem mmk_66 (pc : Nat) : ∀ x, mmc_66 pc = some x → mm_K 66 pc x := wz_fin mmkn_66 mmkw_66 mmkd_66 mmks_66 pc
set_option maxRecDepth 100000 in
theorem mmkw_67 : wz_w mmc_67 [1, 9, 14, 17, 22, 26] [] 31 (mm_by 67).data.toList 0 = true := by decide +kernel
set_option maxRecDepth 100000 in
set_option maxHeartbeats 4000000 in
theorem mmkn_67 (pc : Nat) (h : 31 ≤ pc) : mmc_67 pc = none :=
  wz_rs h rfl (wz_re h rfl)
set_option maxRecDepth 100000 in
set_option maxHeartbeats 4000000 in
theorem mmks_67 : wz_A (wz_PS 67 mmc_67) [1, 9, 14, 17, 22, 26] :=
  wz_c (wz_sp (.invokestatic 110, [(0, 37)]) rfl (⟨Or.inl q_527, q_412, rfl⟩)) (wz_c (wz_sp (.invokevirtual 72, [(9, 12)]) rfl (⟨_, rfl, q_248, q_250, q_0, rfl⟩)) (wz_c (wz_sp (.getfield 62, [(9, 0)]) rfl (⟨_, rfl, by decide, q_207⟩)) (wz_c (wz_sp (.getfield 126, [(1, 8)]) rfl (⟨_, rfl, by decide, q_168⟩)) (wz_c (wz_sp (.getfield 62, [(9, 0)]) rfl (⟨_, rfl, by decide, q_207⟩)) (wz_c (wz_sp (.putfield 126, [(1, 8), (0, 0)]) rfl (⟨_, rfl, by decide, q_168, _, rfl, rfl, rfl⟩)) (wz_n))))))
set_option maxRecDepth 100000 in
set_option maxHeartbeats 4000000 in
theorem mmkd_67 : wz_A (wz_PD 67 mmc_67) [] :=
  wz_n
theorem mmk_67 (pc : Nat) : ∀ x, mmc_67 pc = some x → mm_K 67 pc x := wz_fin mmkn_67 mmkw_67 mmkd_67 mmks_67 pc
set_option maxRecDepth 100000 in
theorem mmkw_68 : wz_w mmc_68 [1, 9, 14, 17, 22, 26] [] 31 (mm_by 68).data.toList 0 = true := by decide +kernel
set_option maxRecDepth 100000 in
set_option maxHeartbeats 4000000 in
theorem mmkn_68 (pc : Nat) (h : 31 ≤ pc) : mmc_68 pc = none :=
  wz_rs h rfl (wz_re h rfl)
set_option maxRecDepth 100000 in
set_option maxHeartbeats 4000000 in
theorem mmks_68 : wz_A (wz_PS 68 mmc_68) [1, 9, 14, 17, 22, 26] :=
  wz_c (wz_sp (.invokestatic 110, [(0, 37)]) rfl (⟨Or.inl q_527, q_412, rfl⟩)) (wz_c (wz_sp (.invokevirtual 72, [(9, 12)]) rfl (⟨_, rfl, q_248, q_250, q_0, rfl⟩)) (wz_c (wz_sp (.getfield 62, [(9, 0)]) rfl (⟨_, rfl, by decide, q_207⟩)) (wz_c (wz_sp (.getfield 136, [(1, 9)]) rfl (⟨_, rfl, by decide, q_171⟩)) (wz_c (wz_sp (.getfield 62, [(9, 0)]) rfl (⟨_, rfl, by decide, q_207⟩)) (wz_c (wz_sp (.putfield 136, [(1, 9), (0, 0)]) rfl (⟨_, rfl, by decide, q_171, _, rfl, rfl, rfl⟩)) (wz_n))))))
set_option maxRecDepth 100000 in
set_option maxHeartbeats 4000000 in
theorem mmkd_68 : wz_A (wz_PD 68 mmc_68) [] :=
  wz_n
theorem mmk_68 (pc : Nat) : ∀ x, mmc_68 pc = some x → mm_K 68 pc x := wz_fin mmkn_68 mmkw_68 mmkd_68 mmks_68 pc
set_option maxRecDepth 100000 in
theorem mmkw_69 : wz_w mmc_69 [7, 20, 25, 28, 33, 37] [] 42 (mm_by 69).data.toList 0 = true := by decide +kernel
set_option maxRecDepth 100000 in
set_option maxHeartbeats 4000000 in
theorem mmkn_69 (pc : Nat) (h : 42 ≤ pc) : mmc_69 pc = none :=
  wz_rs h rfl (wz_rs h rfl (wz_rs h rfl (wz_rs h rfl (wz_re h rfl))))
set_option maxRecDepth 100000 in
set_option maxHeartbeats 4000000 in
theorem mmks_69 : wz_A (wz_PS 69 mmc_69) [7, 20, 25, 28, 33, 37] :=
  wz_c (wz_sp (.invokevirtual 72, [(9, 12)]) rfl (⟨_, rfl, q_248, q_250, q_0, rfl⟩)) (wz_c (wz_sp (.invokevirtual 72, [(9, 12)]) rfl (⟨_, rfl, q_248, q_250, q_0, rfl⟩)) (wz_c (wz_sp (.getfield 62, [(9, 0)]) rfl (⟨_, rfl, by decide, q_207⟩)) (wz_c (wz_sp (.getfield 139, [(1, 11)]) rfl (⟨_, rfl, by decide, q_175⟩)) (wz_c (wz_sp (.getfield 62, [(9, 0)]) rfl (⟨_, rfl, by decide, q_207⟩)) (wz_c (wz_sp (.putfield 139, [(1, 11), (0, 0)]) rfl (⟨_, rfl, by decide, q_175, _, rfl, rfl, rfl⟩)) (wz_n))))))
set_option maxRecDepth 100000 in
set_option maxHeartbeats 4000000 in
theorem mmkd_69 : wz_A (wz_PD 69 mmc_69) [] :=
  wz_n
theorem mmk_69 (pc : Nat) : ∀ x, mmc_69 pc = some x → mm_K 69 pc x := wz_fin mmkn_69 mmkw_69 mmkd_69 mmks_69 pc
set_option maxRecDepth 100000 in
theorem mmkw_70 : wz_w mmc_70 [2, 10, 15, 19, 23, 26] [] 30 (mm_by 70).data.toList 0 = true := by decide +kernel
set_option maxRecDepth 100000 in
set_option maxHeartbeats 4000000 in
theorem mmkn_70 (pc : Nat) (h : 30 ≤ pc) : mmc_70 pc = none :=
  wz_rs h rfl (wz_rs h rfl (wz_rs h rfl (wz_rs h rfl (wz_re h rfl))))
set_option maxRecDepth 100000 in
set_option maxHeartbeats 4000000 in
theorem mmks_70 : wz_A (wz_PS 70 mmc_70) [2, 10, 15, 19, 23, 26] :=
  wz_c (wz_sp (.invokevirtual 91, [(9, 61)]) rfl (⟨_, rfl, q_514, q_516, q_9, rfl⟩)) (wz_c (wz_sp (.invokevirtual 72, [(9, 12)]) rfl (⟨_, rfl, q_248, q_250, q_0, rfl⟩)) (wz_c (wz_sp (.getfield 62, [(9, 0)]) rfl (⟨_, rfl, by decide, q_207⟩)) (wz_c (wz_sp (.invokevirtual 142, [(1, 42)]) rfl (⟨_, rfl, q_560, q_431, q_432, rfl⟩)) (wz_c (wz_sp (.getfield 62, [(9, 0)]) rfl (⟨_, rfl, by decide, q_207⟩)) (wz_c (wz_sp (.invokevirtual 145, [(1, 71)]) rfl (⟨_, rfl, q_561, q_562, q_563, rfl⟩)) (wz_n))))))
set_option maxRecDepth 100000 in
set_option maxHeartbeats 4000000 in
theorem mmkd_70 : wz_A (wz_PD 70 mmc_70) [] :=
  wz_n
theorem mmk_70 (pc : Nat) : ∀ x, mmc_70 pc = some x → mm_K 70 pc x := wz_fin mmkn_70 mmkw_70 mmkd_70 mmks_70 pc
set_option maxRecDepth 100000 in
theorem mmkw_71 : wz_w mmc_71 [1, 13] [] 19 (mm_by 71).data.toList 0 = true := by decide +kernel
set_option maxRecDepth 100000 in
set_option maxHeartbeats 4000000 in
theorem mmkn_71 (pc : Nat) (h : 19 ≤ pc) : mmc_71 pc = none :=
  wz_rs h rfl (wz_rs h rfl (wz_rs h rfl (wz_rs h rfl (wz_re h rfl))))
set_option maxRecDepth 100000 in
set_option maxHeartbeats 4000000 in
theorem mmks_71 : wz_A (wz_PS 71 mmc_71) [1, 13] :=
  wz_c (wz_sp (.getfield 50, [(1, 7)]) rfl (⟨_, rfl, by decide, q_164⟩)) (wz_c (wz_sp (.getfield 27, [(1, 6)]) rfl (⟨_, rfl, by decide, q_162⟩)) (wz_n))
set_option maxRecDepth 100000 in
set_option maxHeartbeats 4000000 in
theorem mmkd_71 : wz_A (wz_PD 71 mmc_71) [] :=
  wz_n
theorem mmk_71 (pc : Nat) : ∀ x, mmc_71 pc = some x → mm_K 71 pc x := wz_fin mmkn_71 mmkw_71 mmkd_71 mmks_71 pc
set_option maxRecDepth 100000 in
theorem mmkw_72 : wz_w mmc_72 [2, 10, 27, 38, 51, 58, 61, 68, 71, 80, 83, 90, 93] [] 102 (mm_by 72).data.toList 0 = true := by decide +kernel
set_option maxRecDepth 100000 in
set_option maxHeartbeats 4000000 in
theorem mmkn_72 (pc : Nat) (h : 102 ≤ pc) : mmc_72 pc = none :=
  wz_rs h rfl (wz_rs h rfl (wz_rs h rfl (wz_rs h rfl (wz_rs h rfl (wz_rs h rfl (wz_re h rfl))))))
set_option maxRecDepth 100000 in
set_option maxHeartbeats 4000000 in
theorem mmks_72 : wz_A (wz_PS 72 mmc_72) [2, 10, 27, 38, 51, 58, 61, 68, 71, 80, 83, 90, 93] :=
  wz_c (wz_sp (.invokevirtual 91, [(9, 61)]) rfl (⟨_, rfl, q_514, q_516, q_9, rfl⟩)) (wz_c (wz_sp (.invokevirtual 72, [(9, 12)]) rfl (⟨_, rfl, q_248, q_250, q_0, rfl⟩)) (wz_c (wz_sp (.invokevirtual 72, [(9, 12)]) rfl (⟨_, rfl, q_248, q_250, q_0, rfl⟩)) (wz_c (wz_sp (.invokevirtual 72, [(9, 12)]) rfl (⟨_, rfl, q_248, q_250, q_0, rfl⟩)) (wz_c (wz_sp (.invokevirtual 72, [(9, 12)]) rfl (⟨_, rfl, q_248, q_250, q_0, rfl⟩)) (wz_c (wz_sp (.getfield 62, [(9, 0)]) rfl (⟨_, rfl, by decide, q_207⟩)) (wz_c (wz_sp (.getfield 95, [(1, 3)]) rfl (⟨_, rfl, by decide, q_157⟩)) (wz_c (wz_sp (.getfield 62, [(9, 0)]) rfl (⟨_, rfl, by decide, q_207⟩)) (wz_c (wz_sp (.getfield 98, [(1, 4)]) rfl (⟨_, rfl, by decide, q_159⟩)) (wz_c (wz_sp (.getfield 62, [(9, 0)]) rfl (⟨_, rfl, by decide, q_207⟩)) (wz_c (wz_sp (.getfield 95, [(1, 3)]) rfl (⟨_, rfl, by decide, q_157⟩)) (wz_c (wz_sp (.getfield 62, [(9, 0)]) rfl (⟨_, rfl, by decide, q_207⟩)) (wz_c (wz_sp (.getfield 98, [(1, 4)]) rfl (⟨_, rfl, by decide, q_159⟩)) (wz_n)))))))))))))
set_option maxRecDepth 100000 in
set_option maxHeartbeats 4000000 in
theorem mmkd_72 : wz_A (wz_PD 72 mmc_72) [] :=
  wz_n
theorem mmk_72 (pc : Nat) : ∀ x, mmc_72 pc = some x → mm_K 72 pc x := wz_fin mmkn_72 mmkw_72 mmkd_72 mmks_72 pc
set_option maxRecDepth 100000 in
theorem mmkw_73 : wz_w mmc_73 [8, 19, 22, 36, 41, 45, 49, 52] [] 56 (mm_by 73).data.toList 0 = true := by decide +kernel
set_option maxRecDepth 100000 in
set_option maxHeartbeats 4000000 in
theorem mmkn_73 (pc : Nat) (h : 56 ≤ pc) : mmc_73 pc = none :=
  wz_rs h rfl (wz_rs h rfl (wz_rs h rfl (wz_rs h rfl (wz_rs h rfl (wz_re h rfl)))))
set_option maxRecDepth 100000 in
set_option maxHeartbeats 4000000 in
theorem mmks_73 : wz_A (wz_PS 73 mmc_73) [8, 19, 22, 36, 41, 45, 49, 52] :=
  wz_c (wz_sp (.invokevirtual 72, [(9, 12)]) rfl (⟨_, rfl, q_248, q_250, q_0, rfl⟩)) (wz_c (wz_sp (.getfield 62, [(9, 0)]) rfl (⟨_, rfl, by decide, q_207⟩)) (wz_c (wz_sp (.getfield 148, [(1, 12)]) rfl (⟨_, rfl, by decide, q_179⟩)) (wz_c (wz_sp (.invokevirtual 72, [(9, 12)]) rfl (⟨_, rfl, q_248, q_250, q_0, rfl⟩)) (wz_c (wz_sp (.getfield 62, [(9, 0)]) rfl (⟨_, rfl, by decide, q_207⟩)) (wz_c (wz_sp (.invokevirtual 151, [(1, 43)]) rfl (⟨_, rfl, q_573, q_435, q_436, rfl⟩)) (wz_c (wz_sp (.getfield 62, [(9, 0)]) rfl (⟨_, rfl, by decide, q_207⟩)) (wz_c (wz_sp (.getfield 126, [(1, 8)]) rfl (⟨_, rfl, by decide, q_168⟩)) (wz_n))))))))
set_option maxRecDepth 100000 in
set_option maxHeartbeats 4000000 in
theorem mmkd_73 : wz_A (wz_PD 73 mmc_73) [] :=
  wz_n
theorem mmk_73 (pc : Nat) : ∀ x, mmc_73 pc = some x → mm_K 73 pc x := wz_fin mmkn_73 mmkw_73 mmkd_73 mmks_73 pc
set_option maxRecDepth 100000 in
theorem mmkw_74 : wz_w mmc_74 [7, 20, 36, 41, 47, 55, 65, 72] [44] 76 (mm_by 74).data.toList 0 = true := by decide +kernel
set_option maxRecDepth 100000 in
set_option maxHeartbeats 4000000 in
theorem mmkn_74 (pc : Nat) (h : 76 ≤ pc) : mmc_74 pc = none :=
  wz_rs h rfl (wz_rs h rfl (wz_rs h rfl (wz_rs h rfl (wz_rs h rfl (wz_rs h rfl (wz_re h rfl))))))
set_option maxRecDepth 100000 in
set_option maxHeartbeats 4000000 in
theorem mmks_74 : wz_A (wz_PS 74 mmc_74) [7, 20, 36, 41, 47, 55, 65, 72] :=
  wz_c (wz_sp (.invokevirtual 72, [(9, 12)]) rfl (⟨_, rfl, q_248, q_250, q_0, rfl⟩)) (wz_c (wz_sp (.invokevirtual 72, [(9, 12)]) rfl (⟨_, rfl, q_248, q_250, q_0, rfl⟩)) (wz_c (wz_sp (.invokevirtual 72, [(9, 12)]) rfl (⟨_, rfl, q_248, q_250, q_0, rfl⟩)) (wz_c (wz_sp (.invokevirtual 154, [(9, 75)]) rfl (⟨_, rfl, q_578, q_580, q_10, rfl⟩)) (wz_c (wz_sp (.invokevirtual 151, [(1, 43)]) rfl (⟨_, rfl, q_573, q_435, q_436, rfl⟩)) (wz_c (wz_sp (.getfield 126, [(1, 8)]) rfl (⟨_, rfl, by decide, q_168⟩)) (wz_c (wz_sp (.invokevirtual 145, [(1, 71)]) rfl (⟨_, rfl, q_561, q_562, q_563, rfl⟩)) (wz_c (wz_sp (.invokevirtual 158, [(1, 77)]) rfl (⟨_, rfl, q_589, q_590, q_591, rfl⟩)) (wz_n))))))))
set_option maxRecDepth 100000 in
set_option maxHeartbeats 4000000 in
theorem mmkd_74 : wz_A (wz_PD 74 mmc_74) [44] :=
  wz_c (wz_sd (.astore_n 3, []) 1 rfl (by decide +kernel) (Or.inl rfl)) (wz_n)
theorem mmk_74 (pc : Nat) : ∀ x, mmc_74 pc = some x → mm_K 74 pc x := wz_fin mmkn_74 mmkw_74 mmkd_74 mmks_74 pc
set_option maxRecDepth 100000 in
theorem mmkw_75 : wz_w mmc_75 [1, 5, 8, 12] [] 16 (mm_by 75).data.toList 0 = true := by decide +kernel
set_option maxRecDepth 100000 in
set_option maxHeartbeats 4000000 in
theorem mmkn_75 (pc : Nat) (h : 16 ≤ pc) : mmc_75 pc = none :=
  wz_rs h rfl (wz_rs h rfl (wz_rs h rfl (wz_re h rfl)))
set_option maxRecDepth 100000 in
set_option maxHeartbeats 4000000 in
theorem mmks_75 : wz_A (wz_PS 75 mmc_75) [1, 5, 8, 12] :=
  wz_c (wz_sp (.getfield 66, [(9, 1)]) rfl (⟨_, rfl, by decide, q_208⟩)) (wz_c (wz_sp (.getfield 62, [(9, 0)]) rfl (⟨_, rfl, by decide, q_207⟩)) (wz_c (wz_sp (.invokevirtual 263, [(1, 76)]) rfl (⟨_, rfl, q_582, q_583, q_584, rfl⟩)) (wz_c (wz_sp (.getfield 66, [(9, 1)]) rfl (⟨_, rfl, by decide, q_208⟩)) (wz_n))))
set_option maxRecDepth 100000 in
set_option maxHeartbeats 4000000 in
theorem mmkd_75 : wz_A (wz_PD 75 mmc_75) [] :=
  wz_n
theorem mmk_75 (pc : Nat) : ∀ x, mmc_75 pc = some x → mm_K 75 pc x := wz_fin mmkn_75 mmkw_75 mmkd_75 mmks_75 pc
set_option maxRecDepth 100000 in
theorem mmkw_76 : wz_w mmc_76 [1, 6, 12, 16, 21, 27, 31, 36, 41, 45, 50, 55, 59, 64, 69, 73, 78, 83, 88, 91, 96, 99, 104, 107, 112, 115, 120, 123, 128, 131] [] 135 (mm_by 76).data.toList 0 = true := by decide +kernel
set_option maxRecDepth 100000 in
set_option maxHeartbeats 4000000 in
theorem mmkn_76 (pc : Nat) (h : 135 ≤ pc) : mmc_76 pc = none :=
  wz_rs h rfl (wz_rs h rfl (wz_rs h rfl (wz_rs h rfl (wz_rs h rfl (wz_rs h rfl (wz_rs h rfl (wz_re h rfl)))))))
set_option maxRecDepth 100000 in
set_option maxHeartbeats 4000000 in
theorem mmks_76 : wz_A (wz_PS 76 mmc_76) [1, 6, 12, 16, 21, 27, 31, 36, 41, 45, 50, 55, 59, 64, 69, 73, 78, 83, 88, 91, 96, 99, 104, 107, 112, 115, 120, 123, 128, 131] :=
  wz_c (wz_sp (.getfield 9, [(1, 1)]) rfl (⟨_, rfl, by decide, q_150⟩)) (wz_c (wz_sp (.getfield 9, [(1, 1)]) rfl (⟨_, rfl, by decide, q_150⟩)) (wz_c (wz_sp (.invokestatic 44, [(1, 0)]) rfl (⟨q_586, by decide, by decide +kernel⟩)) (wz_c (wz_sp (.getfield 15, [(1, 2)]) rfl (⟨_, rfl, by decide, q_153⟩)) (wz_c (wz_sp (.getfield 15, [(1, 2)]) rfl (⟨_, rfl, by decide, q_153⟩)) (wz_c (wz_sp (.invokestatic 44, [(1, 0)]) rfl (⟨q_586, by decide, by decide +kernel⟩)) (wz_c (wz_sp (.getfield 18, [(1, 3)]) rfl (⟨_, rfl, by decide, q_156⟩)) (wz_c (wz_sp (.getfield 18, [(1, 3)]) rfl (⟨_, rfl, by decide, q_156⟩)) (wz_c (wz_sp (.invokestatic 44, [(1, 0)]) rfl (⟨q_586, by decide, by decide +kernel⟩)) (wz_c (wz_sp (.getfield 21, [(1, 4)]) rfl (⟨_, rfl, by decide, q_158⟩)) (wz_c (wz_sp (.getfield 21, [(1, 4)]) rfl (⟨_, rfl, by decide, q_158⟩)) (wz_c (wz_sp (.invokestatic 44, [(1, 0)]) rfl (⟨q_586, by decide, by decide +kernel⟩)) (wz_c (wz_sp (.getfield 24, [(1, 5)]) rfl (⟨_, rfl, by decide, q_160⟩)) (wz_c (wz_sp (.getfield 24, [(1, 5)]) rfl (⟨_, rfl, by decide, q_160⟩)) (wz_c (wz_sp (.invokestatic 44, [(1, 0)]) rfl (⟨q_586, by decide, by decide +kernel⟩)) (wz_c (wz_sp (.getfield 27, [(1, 6)]) rfl (⟨_, rfl, by decide, q_162⟩)) (wz_c (wz_sp (.getfield 27, [(1, 6)]) rfl (⟨_, rfl, by decide, q_162⟩)) (wz_c (wz_sp (.invokestatic 44, [(1, 0)]) rfl (⟨q_586, by decide, by decide +kernel⟩)) (wz_c (wz_sp (.getfield 50, [(1, 7)]) rfl (⟨_, rfl, by decide, q_164⟩)) (wz_c (wz_sp (.putfield 50, [(1, 7), (0, 0)]) rfl (⟨_, rfl, by decide, q_164, _, rfl, rfl, rfl⟩)) (wz_c (wz_sp (.getfield 53, [(1, 8)]) rfl (⟨_, rfl, by decide, q_167⟩)) (wz_c (wz_sp (.putfield 53, [(1, 8), (0, 0)]) rfl (⟨_, rfl, by decide, q_167, _, rfl, rfl, rfl⟩)) (wz_c (wz_sp (.getfield 30, [(1, 9)]) rfl (⟨_, rfl, by decide, q_170⟩)) (wz_c (wz_sp (.putfield 30, [(1, 9), (0, 0)]) rfl (⟨_, rfl, by decide, q_170, _, rfl, rfl, rfl⟩)) (wz_c (wz_sp (.getfield 34, [(1, 10)]) rfl (⟨_, rfl, by decide, q_173⟩)) (wz_c (wz_sp (.putfield 34, [(1, 10), (0, 0)]) rfl (⟨_, rfl, by decide, q_173, _, rfl, rfl, rfl⟩)) (wz_c (wz_sp (.getfield 37, [(1, 11)]) rfl (⟨_, rfl, by decide, q_174⟩)) (wz_c (wz_sp (.putfield 37, [(1, 11), (0, 0)]) rfl (⟨_, rfl, by decide, q_174, _, rfl, rfl, rfl⟩)) (wz_c (wz_sp (.getfield 56, [(1, 12)]) rfl (⟨_, rfl, by decide, q_177⟩)) (wz_c (wz_sp (.putfield 56, [(1, 12), (0, 0)]) rfl (⟨_, rfl, by decide, q_177, _, rfl, rfl, rfl⟩)) (wz_n))))))))))))))))))))))))))))))
set_option maxRecDepth 100000 in
set_option maxHeartbeats 4000000 in
theorem mmkd_76 : wz_A (wz_PD 76 mmc_76) [] :=
  wz_n
theorem mmk_76 (pc : Nat) : ∀ x, mmc_76 pc = some x → mm_K 76 pc x := wz_fin mmkn_76 mmkw_76 mmkd_76 mmks_76 pc
set_option maxRecDepth 100000 in
theorem mmkw_77 : wz_w mmc_77 [6, 14] [] 29 (mm_by 77).data.toList 0 = true := by decide +kernel
set_option maxRecDepth 100000 in
set_option maxHeartbeats 4000000 in
theorem mmkn_77 (pc : Nat) (h : 29 ≤ pc) : mmc_77 pc = none :=
  wz_rs h rfl (wz_rs h rfl (wz_rs h rfl (wz_re h rfl)))
set_option maxRecDepth 100000 in
set_option maxHeartbeats 4000000 in
theorem mmks_77 : wz_A (wz_PS 77 mmc_77) [6, 14] :=
  wz_c (wz_sp (.getfield 50, [(1, 7)]) rfl (⟨_, rfl, by decide, q_164⟩)) (wz_c (wz_sp (.getfield 24, [(1, 5)]) rfl (⟨_, rfl, by decide, q_160⟩)) (wz_n))
set_option maxRecDepth 100000 in
set_option maxHeartbeats 4000000 in
theorem mmkd_77 : wz_A (wz_PD 77 mmc_77) [] :=
  wz_n
theorem mmk_77 (pc : Nat) : ∀ x, mmc_77 pc = some x → mm_K 77 pc x := wz_fin mmkn_77 mmkw_77 mmkd_77 mmks_77 pc
set_option maxRecDepth 100000 in
theorem mmkw_78 : wz_w mmc_78 [2, 10, 21, 34, 39, 45, 49] [42] 55 (mm_by 78).data.toList 0 = true := by decide +kernel
set_option maxRecDepth 100000 in
set_option maxHeartbeats 4000000 in
theorem mmkn_78 (pc : Nat) (h : 55 ≤ pc) : mmc_78 pc = none :=
  wz_rs h rfl (wz_rs h rfl (wz_rs h rfl (wz_rs h rfl (wz_rs h rfl (wz_re h rfl)))))
set_option maxRecDepth 100000 in
set_option maxHeartbeats 4000000 in
theorem mmks_78 : wz_A (wz_PS 78 mmc_78) [2, 10, 21, 34, 39, 45, 49] :=
  wz_c (wz_sp (.invokevirtual 91, [(9, 61)]) rfl (⟨_, rfl, q_514, q_516, q_9, rfl⟩)) (wz_c (wz_sp (.invokevirtual 72, [(9, 12)]) rfl (⟨_, rfl, q_248, q_250, q_0, rfl⟩)) (wz_c (wz_sp (.invokevirtual 72, [(9, 12)]) rfl (⟨_, rfl, q_248, q_250, q_0, rfl⟩)) (wz_c (wz_sp (.invokevirtual 72, [(9, 12)]) rfl (⟨_, rfl, q_248, q_250, q_0, rfl⟩)) (wz_c (wz_sp (.invokevirtual 154, [(9, 75)]) rfl (⟨_, rfl, q_578, q_580, q_10, rfl⟩)) (wz_c (wz_sp (.invokevirtual 151, [(1, 43)]) rfl (⟨_, rfl, q_573, q_435, q_436, rfl⟩)) (wz_c (wz_sp (.getfield 101, [(1, 5)]) rfl (⟨_, rfl, by decide, q_161⟩)) (wz_n)))))))
set_option maxRecDepth 100000 in
set_option maxHeartbeats 4000000 in
theorem mmkd_78 : wz_A (wz_PD 78 mmc_78) [42] :=
  wz_c (wz_sd (.astore_n 3, []) 1 rfl (by decide +kernel) (Or.inl rfl)) (wz_n)
theorem mmk_78 (pc : Nat) : ∀ x, mmc_78 pc = some x → mm_K 78 pc x := wz_fin mmkn_78 mmkw_78 mmkd_78 mmks_78 pc
set_option maxRecDepth 100000 in
theorem mmkw_79 : wz_w mmc_79 [6, 14, 19, 28, 31, 38, 43] [] 55 (mm_by 79).data.toList 0 = true := by decide +kernel
set_option maxRecDepth 100000 in
set_option maxHeartbeats 4000000 in
theorem mmkn_79 (pc : Nat) (h : 55 ≤ pc) : mmc_79 pc = none :=
  wz_rs h rfl (wz_rs h rfl (wz_rs h rfl (wz_rs h rfl (wz_rs h rfl (wz_re h rfl)))))
set_option maxRecDepth 100000 in
set_option maxHeartbeats 4000000 in
theorem mmks_79 : wz_A (wz_PS 79 mmc_79) [6, 14, 19, 28, 31, 38, 43] :=
  wz_c (wz_sp (.invokestatic 110, [(0, 37)]) rfl (⟨Or.inl q_527, q_412, rfl⟩)) (wz_c (wz_sp (.invokevirtual 72, [(9, 12)]) rfl (⟨_, rfl, q_248, q_250, q_0, rfl⟩)) (wz_c (wz_sp (.invokevirtual 154, [(9, 75)]) rfl (⟨_, rfl, q_578, q_580, q_10, rfl⟩)) (wz_c (wz_sp (.getfield 62, [(9, 0)]) rfl (⟨_, rfl, by decide, q_207⟩)) (wz_c (wz_sp (.getfield 136, [(1, 9)]) rfl (⟨_, rfl, by decide, q_171⟩)) (wz_c (wz_sp (.invokevirtual 161, [(1, 80)]) rfl (⟨_, rfl, q_601, q_602, q_603, rfl⟩)) (wz_c (wz_sp (.ldc 164, [(0, 1000000)]) rfl (q_606)) (wz_n)))))))
set_option maxRecDepth 100000 in
set_option maxHeartbeats 4000000 in
theorem mmkd_79 : wz_A (wz_PD 79 mmc_79) [] :=
  wz_n
theorem mmk_79 (pc : Nat) : ∀ x, mmc_79 pc = some x → mm_K 79 pc x := wz_fin mmkn_79 mmkw_79 mmkd_79 mmks_79 pc
set_option maxRecDepth 100000 in
theorem mmkw_80 : wz_w mmc_80 [9, 20, 30, 42] [] 45 (mm_by 80).data.toList 0 = true := by decide +kernel
set_option maxRecDepth 100000 in
set_option maxHeartbeats 4000000 in
theorem mmkn_80 (pc : Nat) (h : 45 ≤ pc) : mmc_80 pc = none :=
  wz_rs h rfl (wz_rs h rfl (wz_rs h rfl (wz_rs h rfl (wz_re h rfl))))
set_option maxRecDepth 100000 in
set_option maxHeartbeats 4000000 in
theorem mmks_80 : wz_A (wz_PS 80 mmc_80) [9, 20, 30, 42] :=
  wz_c (wz_sp (.getfield 53, [(1, 8)]) rfl (⟨_, rfl, by decide, q_167⟩)) (wz_c (wz_sp (.invokevirtual 98, [(1, 44)]) rfl (⟨_, rfl, q_438, q_439, q_440, rfl⟩)) (wz_c (wz_sp (.getfield 53, [(1, 8)]) rfl (⟨_, rfl, by decide, q_167⟩)) (wz_c (wz_sp (.ldc 101, [(0, 1000000)]) rfl (q_605)) (wz_n))))
set_option maxRecDepth 100000 in
set_option maxHeartbeats 4000000 in
theorem mmkd_80 : wz_A (wz_PD 80 mmc_80) [] :=
  wz_n
theorem mmk_80 (pc : Nat) : ∀ x, mmc_80 pc = some x → mm_K 80 pc x := wz_fin mmkn_80 mmkw_80 mmkd_80 mmks_80 pc
set_option maxRecDepth 100000 in
theorem mmkw_81 : wz_w mmc_81 [6, 9, 11, 18, 21, 28, 33, 37, 40, 50, 53, 59, 67, 72, 76, 81] [] 93 (mm_by 81).data.toList 0 = true := by decide +kernel
set_option maxRecDepth 100000 in
set_option maxHeartbeats 4000000 in
theorem mmkn_81 (pc : Nat) (h : 93 ≤ pc) : mmc_81 pc = none :=
  wz_rs h rfl (wz_rs h rfl (wz_rs h rfl (wz_rs h rfl (wz_rs h rfl (wz_rs h rfl (wz_re h rfl))))))
set_option maxRecDepth 100000 in
set_option maxHeartbeats 4000000 in
theorem mmks_81 : wz_A (wz_PS 81 mmc_81) [6, 9, 11, 18, 21, 28, 33, 37, 40, 50, 53, 59, 67, 72, 76, 81] :=
  wz_c (wz_sp (.getfield 26, [(9, 8)]) rfl (⟨_, rfl, by decide, q_215⟩)) (wz_c (wz_sp (.ldc 164, [(0, 1000000)]) rfl (q_606)) (wz_c (wz_sp (.invokevirtual 165, [(6, 82)]) rfl (⟨_, rfl, q_611, q_612, q_613, rfl⟩)) (wz_c (wz_sp (.getfield 62, [(9, 0)]) rfl (⟨_, rfl, by decide, q_207⟩)) (wz_c (wz_sp (.getfield 168, [(1, 7)]) rfl (⟨_, rfl, by decide, q_166⟩)) (wz_c (wz_sp (.getfield 26, [(9, 8)]) rfl (⟨_, rfl, by decide, q_215⟩)) (wz_c (wz_sp (.invokevirtual 154, [(9, 75)]) rfl (⟨_, rfl, q_578, q_580, q_10, rfl⟩)) (wz_c (wz_sp (.invokevirtual 171, [(1, 83)]) rfl (⟨_, rfl, q_615, q_616, q_617, rfl⟩)) (wz_c (wz_sp (.invokevirtual 174, [(6, 84)]) rfl (⟨_, rfl, q_619, q_620, q_621, rfl⟩)) (wz_c (wz_sp (.getfield 26, [(9, 8)]) rfl (⟨_, rfl, by decide, q_215⟩)) (wz_c (wz_sp (.getfield 178, [(6, 0)]) rfl (⟨_, rfl, by decide, q_93⟩)) (wz_c (wz_sp (.invokevirtual 91, [(9, 61)]) rfl (⟨_, rfl, q_514, q_516, q_9, rfl⟩)) (wz_c (wz_sp (.invokevirtual 72, [(9, 12)]) rfl (⟨_, rfl, q_248, q_250, q_0, rfl⟩)) (wz_c (wz_sp (.invokevirtual 154, [(9, 75)]) rfl (⟨_, rfl, q_578, q_580, q_10, rfl⟩)) (wz_c (wz_sp (.invokevirtual 171, [(1, 83)]) rfl (⟨_, rfl, q_615, q_616, q_617, rfl⟩)) (wz_c (wz_sp (.ldc 164, [(0, 1000000)]) rfl (q_606)) (wz_n))))))))))))))))
set_option maxRecDepth 100000 in
set_option maxHeartbeats 4000000 in
theorem mmkd_81 : wz_A (wz_PD 81 mmc_81) [] :=
  wz_n
theorem mmk_81 (pc : Nat) : ∀ x, mmc_81 pc = some x → mm_K 81 pc x := wz_fin mmkn_81 mmkw_81 mmkd_81 mmks_81 pc
set_option maxRecDepth 100000 in
theorem mmkw_82 : wz_w mmc_82 [3, 8] [] 12 (mm_by 82).data.toList 0 = true := by decide +kernel
set_option maxRecDepth 100000 in
set_option maxHeartbeats 4000000 in
theorem mmkn_82 (pc : Nat) (h : 12 ≤ pc) : mmc_82 pc = none :=
  wz_rs h rfl (wz_rs h rfl (wz_rs h rfl (wz_re h rfl)))
set_option maxRecDepth 100000 in
set_option maxHeartbeats 4000000 in
theorem mmks_82 : wz_A (wz_PS 82 mmc_82) [3, 8] :=
  wz_c (wz_sp (.putfield 9, [(6, 0), (0, 0)]) rfl (⟨_, rfl, by decide, q_92, _, rfl, rfl, rfl⟩)) (wz_c (wz_sp (.putfield 15, [(6, 1), (0, 0)]) rfl (⟨_, rfl, by decide, q_94, _, rfl, rfl, rfl⟩)) (wz_n))
set_option maxRecDepth 100000 in
set_option maxHeartbeats 4000000 in
theorem mmkd_82 : wz_A (wz_PD 82 mmc_82) [] :=
  wz_n
theorem mmk_82 (pc : Nat) : ∀ x, mmc_82 pc = some x → mm_K 82 pc x := wz_fin mmkn_82 mmkw_82 mmkd_82 mmks_82 pc
set_option maxRecDepth 100000 in
theorem mmkw_83 : wz_w mmc_83 [1, 17, 21, 38] [] 41 (mm_by 83).data.toList 0 = true := by decide +kernel
set_option maxRecDepth 100000 in
set_option maxHeartbeats 4000000 in
theorem mmkn_83 (pc : Nat) (h : 41 ≤ pc) : mmc_83 pc = none :=
  wz_rs h rfl (wz_rs h rfl (wz_rs h rfl (wz_rs h rfl (wz_rs h rfl (wz_re h rfl)))))
set_option maxRecDepth 100000 in
set_option maxHeartbeats 4000000 in
theorem mmks_83 : wz_A (wz_PS 83 mmc_83) [1, 17, 21, 38] :=
  wz_c (wz_sp (.getfield 24, [(1, 5)]) rfl (⟨_, rfl, by decide, q_160⟩)) (wz_c (wz_sp (.invokevirtual 98, [(1, 44)]) rfl (⟨_, rfl, q_438, q_439, q_440, rfl⟩)) (wz_c (wz_sp (.getfield 24, [(1, 5)]) rfl (⟨_, rfl, by decide, q_160⟩)) (wz_c (wz_sp (.ldc 101, [(0, 1000000)]) rfl (q_605)) (wz_n))))
set_option maxRecDepth 100000 in
set_option maxHeartbeats 4000000 in
theorem mmkd_83 : wz_A (wz_PD 83 mmc_83) [] :=
  wz_n
theorem mmk_83 (pc : Nat) : ∀ x, mmc_83 pc = some x → mm_K 83 pc x := wz_fin mmkn_83 mmkw_83 mmkd_83 mmks_83 pc
set_option maxRecDepth 100000 in
theorem mmkw_84 : wz_w mmc_84 [2, 10, 15] [] 19 (mm_by 84).data.toList 0 = true := by decide +kernel
set_option maxRecDepth 100000 in
set_option maxHeartbeats 4000000 in
theorem mmkn_84 (pc : Nat) (h : 19 ≤ pc) : mmc_84 pc = none :=
  wz_rs h rfl (wz_rs h rfl (wz_rs h rfl (wz_rs h rfl (wz_re h rfl))))
set_option maxRecDepth 100000 in
set_option maxHeartbeats 4000000 in
theorem mmks_84 : wz_A (wz_PS 84 mmc_84) [2, 10, 15] :=
  wz_c (wz_sp (.getfield 15, [(6, 1)]) rfl (⟨_, rfl, by decide, q_94⟩)) (wz_c (wz_sp (.putfield 9, [(6, 0), (0, 0)]) rfl (⟨_, rfl, by decide, q_92, _, rfl, rfl, rfl⟩)) (wz_c (wz_sp (.putfield 15, [(6, 1), (0, 0)]) rfl (⟨_, rfl, by decide, q_94, _, rfl, rfl, rfl⟩)) (wz_n)))
set_option maxRecDepth 100000 in
set_option maxHeartbeats 4000000 in
theorem mmkd_84 : wz_A (wz_PD 84 mmc_84) [] :=
  wz_n
theorem mmk_84 (pc : Nat) : ∀ x, mmc_84 pc = some x → mm_K 84 pc x := wz_fin mmkn_84 mmkw_84 mmkd_84 mmks_84 pc
set_option maxRecDepth 100000 in
theorem mmkw_85 : wz_w mmc_85 [1, 16, 23, 27] [4] 56 (mm_by 85).data.toList 0 = true := by decide +kernel
set_option maxRecDepth 100000 in
set_option maxHeartbeats 4000000 in
theorem mmkn_85 (pc : Nat) (h : 56 ≤ pc) : mmc_85 pc = none :=
  wz_rs h rfl (wz_rs h rfl (wz_re h rfl))
set_option maxRecDepth 100000 in
set_option maxHeartbeats 4000000 in
theorem mmks_85 : wz_A (wz_PS 85 mmc_85) [1, 16, 23, 27] :=
  wz_c (wz_sp (.invokevirtual 154, [(9, 75)]) rfl (⟨_, rfl, q_578, q_580, q_10, rfl⟩)) (wz_c (wz_sp (.getfield 126, [(1, 8)]) rfl (⟨_, rfl, by decide, q_168⟩)) (wz_c (wz_sp (.invokevirtual 181, [(1, 44)]) rfl (⟨_, rfl, q_627, q_439, q_440, rfl⟩)) (wz_c (wz_sp (.getfield 126, [(1, 8)]) rfl (⟨_, rfl, by decide, q_168⟩)) (wz_n))))
set_option maxRecDepth 100000 in
set_option maxHeartbeats 4000000 in
theorem mmkd_85 : wz_A (wz_PD 85 mmc_85) [4] :=
  wz_c (wz_sd (.astore_n 1, []) 1 rfl (by decide +kernel) (Or.inl rfl)) (wz_n)
theorem mmk_85 (pc : Nat) : ∀ x, mmc_85 pc = some x → mm_K 85 pc x := wz_fin mmkn_85 mmkw_85 mmkd_85 mmks_85 pc
set_option maxRecDepth 100000 in
theorem mmkw_86 : wz_w mmc_86 [1, 9, 25, 38, 42, 52, 56, 59, 91, 102] [] 108 (mm_by 86).data.toList 0 = true := by decide +kernel
set_option maxRecDepth 100000 in
set_option maxHeartbeats 4000000 in
theorem mmkn_86 (pc : Nat) (h : 108 ≤ pc) : mmc_86 pc = none :=
  wz_rs h rfl (wz_rs h rfl (wz_rs h rfl (wz_rs h rfl (wz_rs h rfl (wz_rs h rfl (wz_re h rfl))))))
set_option maxRecDepth 100000 in
set_option maxHeartbeats 4000000 in
theorem mmks_86 : wz_A (wz_PS 86 mmc_86) [1, 9, 25, 38, 42, 52, 56, 59, 91, 102] :=
  wz_c (wz_sp (.invokestatic 110, [(0, 37)]) rfl (⟨Or.inl q_527, q_412, rfl⟩)) (wz_c (wz_sp (.invokevirtual 72, [(9, 12)]) rfl (⟨_, rfl, q_248, q_250, q_0, rfl⟩)) (wz_c (wz_sp (.invokevirtual 72, [(9, 12)]) rfl (⟨_, rfl, q_248, q_250, q_0, rfl⟩)) (wz_c (wz_sp (.getfield 30, [(9, 9)]) rfl (⟨_, rfl, by decide, q_216⟩)) (wz_c (wz_sp (.ldc 164, [(0, 1000000)]) rfl (q_606)) (wz_c (wz_sp (.getfield 30, [(9, 9)]) rfl (⟨_, rfl, by decide, q_216⟩)) (wz_c (wz_sp (.getfield 62, [(9, 0)]) rfl (⟨_, rfl, by decide, q_207⟩)) (wz_c (wz_sp (.getfield 126, [(1, 8)]) rfl (⟨_, rfl, by decide, q_168⟩)) (wz_c (wz_sp (.invokevirtual 184, [(9, 87)]) rfl (⟨_, rfl, q_632, q_634, q_11, rfl⟩)) (wz_c (wz_sp (.getfield 30, [(9, 9)]) rfl (⟨_, rfl, by decide, q_216⟩)) (wz_n))))))))))
set_option maxRecDepth 100000 in
set_option maxHeartbeats 4000000 in
theorem mmkd_86 : wz_A (wz_PD 86 mmc_86) [] :=
  wz_n
theorem mmk_86 (pc : Nat) : ∀ x, mmc_86 pc = some x → mm_K 86 pc x := wz_fin mmkn_86 mmkw_86 mmkd_86 mmks_86 pc
set_option maxRecDepth 100000 in
theorem mmkw_87 : wz_w mmc_87 [22, 36, 39, 46, 49, 55, 61, 71, 74, 87, 97] [] 121 (mm_by 87).data.toList 0 = true := by decide +kernel
set_option maxRecDepth 100000 in
set_option maxHeartbeats 4000000 in
theorem mmkn_87 (pc : Nat) (h : 121 ≤ pc) : mmc_87 pc = none :=
  wz_rs h rfl (wz_rs h rfl (wz_rs h rfl (wz_rs h rfl (wz_rs h rfl (wz_re h rfl)))))
set_option maxRecDepth 100000 in
set_option maxHeartbeats 4000000 in
theorem mmks_87 : wz_A (wz_PS 87 mmc_87) [22, 36, 39, 46, 49, 55, 61, 71, 74, 87, 97] :=
  wz_c (wz_sp (.invokestatic 129, [(0, 48)]) rfl (⟨Or.inl q_534, q_458, rfl⟩)) (wz_c (wz_sp (.getfield 62, [(9, 0)]) rfl (⟨_, rfl, by decide, q_207⟩)) (wz_c (wz_sp (.getfield 113, [(1, 1)]) rfl (⟨_, rfl, by decide, q_151⟩)) (wz_c (wz_sp (.getfield 62, [(9, 0)]) rfl (⟨_, rfl, by decide, q_207⟩)) (wz_c (wz_sp (.getfield 113, [(1, 1)]) rfl (⟨_, rfl, by decide, q_151⟩)) (wz_c (wz_sp (.invokestatic 219, [(4, 0)]) rfl (⟨q_636, by decide, by decide⟩)) (wz_c (wz_sp (.getfield 30, [(9, 9)]) rfl (⟨_, rfl, by decide, q_216⟩)) (wz_c (wz_sp (.getfield 62, [(9, 0)]) rfl (⟨_, rfl, by decide, q_207⟩)) (wz_c (wz_sp (.getfield 116, [(1, 2)]) rfl (⟨_, rfl, by decide, q_154⟩)) (wz_c (wz_sp (.getfield 30, [(9, 9)]) rfl (⟨_, rfl, by decide, q_216⟩)) (wz_c (wz_sp (.getfield 30, [(9, 9)]) rfl (⟨_, rfl, by decide, q_216⟩)) (wz_n)))))))))))
set_option maxRecDepth 100000 in
set_option maxHeartbeats 4000000 in
theorem mmkd_87 : wz_A (wz_PD 87 mmc_87) [] :=
  wz_n
theorem mmk_87 (pc : Nat) : ∀ x, mmc_87 pc = some x → mm_K 87 pc x := wz_fin mmkn_87 mmkw_87 mmkd_87 mmks_87 pc
set_option maxRecDepth 100000 in
theorem mmkw_88 : wz_w mmc_88 [1, 5, 8, 11, 18, 21, 28, 34, 38, 43, 46, 56, 59] [31] 63 (mm_by 88).data.toList 0 = true := by decide +kernel
set_option maxRecDepth 100000 in
set_option maxHeartbeats 4000000 in
theorem mmkn_88 (pc : Nat) (h : 63 ≤ pc) : mmc_88 pc = none :=
  wz_rs h rfl (wz_rs h rfl (wz_rs h rfl (wz_rs h rfl (wz_rs h rfl (wz_re h rfl)))))
set_option maxRecDepth 100000 in
set_option maxHeartbeats 4000000 in
theorem mmks_88 : wz_A (wz_PS 88 mmc_88) [1, 5, 8, 11, 18, 21, 28, 34, 38, 43, 46, 56, 59] :=
  wz_c (wz_sp (.getfield 26, [(9, 8)]) rfl (⟨_, rfl, by decide, q_215⟩)) (wz_c (wz_sp (.invokevirtual 154, [(9, 75)]) rfl (⟨_, rfl, q_578, q_580, q_10, rfl⟩)) (wz_c (wz_sp (.invokevirtual 187, [(1, 89)]) rfl (⟨_, rfl, q_641, q_642, q_643, rfl⟩)) (wz_c (wz_sp (.invokevirtual 165, [(6, 82)]) rfl (⟨_, rfl, q_611, q_612, q_613, rfl⟩)) (wz_c (wz_sp (.getfield 62, [(9, 0)]) rfl (⟨_, rfl, by decide, q_207⟩)) (wz_c (wz_sp (.getfield 168, [(1, 7)]) rfl (⟨_, rfl, by decide, q_166⟩)) (wz_c (wz_sp (.invokevirtual 154, [(9, 75)]) rfl (⟨_, rfl, q_578, q_580, q_10, rfl⟩)) (wz_c (wz_sp (.invokevirtual 190, [(1, 90)]) rfl (⟨_, rfl, q_646, q_647, q_648, rfl⟩)) (wz_c (wz_sp (.getfield 26, [(9, 8)]) rfl (⟨_, rfl, by decide, q_215⟩)) (wz_c (wz_sp (.invokevirtual 187, [(1, 89)]) rfl (⟨_, rfl, q_641, q_642, q_643, rfl⟩)) (wz_c (wz_sp (.invokevirtual 174, [(6, 84)]) rfl (⟨_, rfl, q_619, q_620, q_621, rfl⟩)) (wz_c (wz_sp (.getfield 26, [(9, 8)]) rfl (⟨_, rfl, by decide, q_215⟩)) (wz_c (wz_sp (.getfield 178, [(6, 0)]) rfl (⟨_, rfl, by decide, q_93⟩)) (wz_n)))))))))))))
set_option maxRecDepth 100000 in
set_option maxHeartbeats 4000000 in
theorem mmkd_88 : wz_A (wz_PD 88 mmc_88) [31] :=
  wz_c (wz_sd (.astore_n 2, []) 1 rfl (by decide +kernel) (Or.inl rfl)) (wz_n)
theorem mmk_88 (pc : Nat) : ∀ x, mmc_88 pc = some x → mm_K 88 pc x := wz_fin mmkn_88 mmkw_88 mmkd_88 mmks_88 pc
set_option maxRecDepth 100000 in
theorem mmkw_89 : wz_w mmc_89 [2, 5] [] 9 (mm_by 89).data.toList 0 = true := by decide +kernel
set_option maxRecDepth 100000 in
set_option maxHeartbeats 4000000 in
theorem mmkn_89 (pc : Nat) (h : 9 ≤ pc) : mmc_89 pc = none :=
  wz_rs h rfl (wz_rs h rfl (wz_rs h rfl (wz_re h rfl)))
set_option maxRecDepth 100000 in
set_option maxHeartbeats 4000000 in
theorem mmks_89 : wz_A (wz_PS 89 mmc_89) [2, 5] :=
  wz_c (wz_sp (.getfield 30, [(1, 9)]) rfl (⟨_, rfl, by decide, q_170⟩)) (wz_c (wz_sp (.invokevirtual 102, [(1, 80)]) rfl (⟨_, rfl, q_645, q_602, q_603, rfl⟩)) (wz_n))
set_option maxRecDepth 100000 in
set_option maxHeartbeats 4000000 in
theorem mmkd_89 : wz_A (wz_PD 89 mmc_89) [] :=
  wz_n
theorem mmk_89 (pc : Nat) : ∀ x, mmc_89 pc = some x → mm_K 89 pc x := wz_fin mmkn_89 mmkw_89 mmkd_89 mmks_89 pc
set_option maxRecDepth 100000 in
theorem mmkw_90 : wz_w mmc_90 [1, 8, 19, 29, 34, 54] [] 61 (mm_by 90).data.toList 0 = true := by decide +kernel
set_option maxRecDepth 100000 in
set_option maxHeartbeats 4000000 in
theorem mmkn_90 (pc : Nat) (h : 61 ≤ pc) : mmc_90 pc = none :=
  wz_rs h rfl (wz_rs h rfl (wz_rs h rfl (wz_rs h rfl (wz_rs h rfl (wz_re h rfl)))))
set_option maxRecDepth 100000 in
set_option maxHeartbeats 4000000 in
theorem mmks_90 : wz_A (wz_PS 90 mmc_90) [1, 8, 19, 29, 34, 54] :=
  wz_c (wz_sp (.getfield 50, [(1, 7)]) rfl (⟨_, rfl, by decide, q_164⟩)) (wz_c (wz_sp (.getfield 50, [(1, 7)]) rfl (⟨_, rfl, by decide, q_164⟩)) (wz_c (wz_sp (.getfield 27, [(1, 6)]) rfl (⟨_, rfl, by decide, q_162⟩)) (wz_c (wz_sp (.getfield 27, [(1, 6)]) rfl (⟨_, rfl, by decide, q_162⟩)) (wz_c (wz_sp (.getfield 27, [(1, 6)]) rfl (⟨_, rfl, by decide, q_162⟩)) (wz_c (wz_sp (.getfield 27, [(1, 6)]) rfl (⟨_, rfl, by decide, q_162⟩)) (wz_n))))))
set_option maxRecDepth 100000 in
set_option maxHeartbeats 4000000 in
theorem mmkd_90 : wz_A (wz_PD 90 mmc_90) [] :=
  wz_n
theorem mmk_90 (pc : Nat) : ∀ x, mmc_90 pc = some x → mm_K 90 pc x := wz_fin mmkn_90 mmkw_90 mmkd_90 mmks_90 pc
set_option maxRecDepth 100000 in
theorem mmkw_91 : wz_w mmc_91 [1, 5, 8, 11, 23, 26, 36, 41, 48, 53, 56, 66, 69] [39] 73 (mm_by 91).data.toList 0 = true := by decide +kernel
set_option maxRecDepth 100000 in
set_option maxHeartbeats 4000000 in
theorem mmkn_91 (pc : Nat) (h : 73 ≤ pc) : mmc_91 pc = none :=
  wz_rs h rfl (wz_rs h rfl (wz_rs h rfl (wz_rs h rfl (wz_rs h rfl (wz_re h rfl)))))
set_option maxRecDepth 100000 in
set_option maxHeartbeats 4000000 in
theorem mmks_91 : wz_A (wz_PS 91 mmc_91) [1, 5, 8, 11, 23, 26, 36, 41, 48, 53, 56, 66, 69] :=
  wz_c (wz_sp (.getfield 26, [(9, 8)]) rfl (⟨_, rfl, by decide, q_215⟩)) (wz_c (wz_sp (.invokevirtual 154, [(9, 75)]) rfl (⟨_, rfl, q_578, q_580, q_10, rfl⟩)) (wz_c (wz_sp (.invokevirtual 187, [(1, 89)]) rfl (⟨_, rfl, q_641, q_642, q_643, rfl⟩)) (wz_c (wz_sp (.invokevirtual 165, [(6, 82)]) rfl (⟨_, rfl, q_611, q_612, q_613, rfl⟩)) (wz_c (wz_sp (.getfield 62, [(9, 0)]) rfl (⟨_, rfl, by decide, q_207⟩)) (wz_c (wz_sp (.getfield 116, [(1, 2)]) rfl (⟨_, rfl, by decide, q_154⟩)) (wz_c (wz_sp (.invokevirtual 154, [(9, 75)]) rfl (⟨_, rfl, q_578, q_580, q_10, rfl⟩)) (wz_c (wz_sp (.getfield 116, [(1, 2)]) rfl (⟨_, rfl, by decide, q_154⟩)) (wz_c (wz_sp (.getfield 26, [(9, 8)]) rfl (⟨_, rfl, by decide, q_215⟩)) (wz_c (wz_sp (.invokevirtual 187, [(1, 89)]) rfl (⟨_, rfl, q_641, q_642, q_643, rfl⟩)) (wz_c (wz_sp (.invokevirtual 174, [(6, 84)]) rfl (⟨_, rfl, q_619, q_620, q_621, rfl⟩)) (wz_c (wz_sp (.getfield 26, [(9, 8)]) rfl (⟨_, rfl, by decide, q_215⟩)) (wz_c (wz_sp (.getfield 178, [(6, 0)]) rfl (⟨_, rfl, by decide, q_93⟩)) (wz_n)))))))))))))
set_option maxRecDepth 100000 in
set_option maxHeartbeats 4000000 in
theorem mmkd_91 : wz_A (wz_PD 91 mmc_91) [39] :=
  wz_c (wz_sd (.astore_n 2, []) 1 rfl (by decide +kernel) (Or.inl rfl)) (wz_n)
theorem mmk_91 (pc : Nat) : ∀ x, mmc_91 pc = some x → mm_K 91 pc x := wz_fin mmkn_91 mmkw_91 mmkd_91 mmks_91 pc
set_option maxRecDepth 100000 in
theorem mmkw_92 : wz_w mmc_92 [1, 5, 8, 11, 23, 28, 35, 40, 43, 53, 56] [26] 60 (mm_by 92).data.toList 0 = true := by decide +kernel
set_option maxRecDepth 100000 in
set_option maxHeartbeats 4000000 in
theorem mmkn_92 (pc : Nat) (h : 60 ≤ pc) : mmc_92 pc = none :=
  wz_rs h rfl (wz_rs h rfl (wz_rs h rfl (wz_rs h rfl (wz_rs h rfl (wz_re h rfl)))))
set_option maxRecDepth 100000 in
set_option maxHeartbeats 4000000 in
theorem mmks_92 : wz_A (wz_PS 92 mmc_92) [1, 5, 8, 11, 23, 28, 35, 40, 43, 53, 56] :=
  wz_c (wz_sp (.getfield 26, [(9, 8)]) rfl (⟨_, rfl, by decide, q_215⟩)) (wz_c (wz_sp (.invokevirtual 154, [(9, 75)]) rfl (⟨_, rfl, q_578, q_580, q_10, rfl⟩)) (wz_c (wz_sp (.invokevirtual 187, [(1, 89)]) rfl (⟨_, rfl, q_641, q_642, q_643, rfl⟩)) (wz_c (wz_sp (.invokevirtual 165, [(6, 82)]) rfl (⟨_, rfl, q_611, q_612, q_613, rfl⟩)) (wz_c (wz_sp (.invokevirtual 154, [(9, 75)]) rfl (⟨_, rfl, q_578, q_580, q_10, rfl⟩)) (wz_c (wz_sp (.getfield 113, [(1, 1)]) rfl (⟨_, rfl, by decide, q_151⟩)) (wz_c (wz_sp (.getfield 26, [(9, 8)]) rfl (⟨_, rfl, by decide, q_215⟩)) (wz_c (wz_sp (.invokevirtual 187, [(1, 89)]) rfl (⟨_, rfl, q_641, q_642, q_643, rfl⟩)) (wz_c (wz_sp (.invokevirtual 174, [(6, 84)]) rfl (⟨_, rfl, q_619, q_620, q_621, rfl⟩)) (wz_c (wz_sp (.getfield 26, [(9, 8)]) rfl (⟨_, rfl, by decide, q_215⟩)) (wz_c (wz_sp (.getfield 178, [(6, 0)]) rfl (⟨_, rfl, by decide, q_93⟩)) (wz_n)))))))))))
set_option maxRecDepth 100000 in
set_option maxHeartbeats 4000000 in
theorem mmkd_92 : wz_A (wz_PD 92 mmc_92) [26] :=
  wz_c (wz_sd (.astore_n 2, []) 1 rfl (by decide +kernel) (Or.inl rfl)) (wz_n)
theorem mmk_92 (pc : Nat) : ∀ x, mmc_92 pc = some x → mm_K 92 pc x := wz_fin mmkn_92 mmkw_92 mmkd_92 mmks_92 pc
set_option maxRecDepth 100000 in
theorem mmkw_93 : wz_w mmc_93 [8, 14, 18, 21] [11] 37 (mm_by 93).data.toList 0 = true := by decide +kernel
set_option maxRecDepth 100000 in
set_option maxHeartbeats 4000000 in
theorem mmkn_93 (pc : Nat) (h : 37 ≤ pc) : mmc_93 pc = none :=
  wz_rs h rfl (wz_rs h rfl (wz_rs h rfl (wz_re h rfl)))
set_option maxRecDepth 100000 in
set_option maxHeartbeats 4000000 in
theorem mmks_93 : wz_A (wz_PS 93 mmc_93) [8, 14, 18, 21] :=
  wz_c (wz_sp (.invokevirtual 154, [(9, 75)]) rfl (⟨_, rfl, q_578, q_580, q_10, rfl⟩)) (wz_c (wz_sp (.putfield 139, [(1, 11), (0, 0)]) rfl (⟨_, rfl, by decide, q_175, _, rfl, rfl, rfl⟩)) (wz_c (wz_sp (.invokevirtual 187, [(1, 89)]) rfl (⟨_, rfl, q_641, q_642, q_643, rfl⟩)) (wz_c (wz_sp (.ldc 164, [(0, 1000000)]) rfl (q_606)) (wz_n))))
set_option maxRecDepth 100000 in
set_option maxHeartbeats 4000000 in
theorem mmkd_93 : wz_A (wz_PD 93 mmc_93) [11] :=
  wz_c (wz_sd (.astore_n 2, []) 1 rfl (by decide +kernel) (Or.inl rfl)) (wz_n)
theorem mmk_93 (pc : Nat) : ∀ x, mmc_93 pc = some x → mm_K 93 pc x := wz_fin mmkn_93 mmkw_93 mmkd_93 mmks_93 pc
set_option maxRecDepth 100000 in
theorem mmkw_94 : wz_w mmc_94 [12, 17, 20, 22, 35, 38, 45, 51, 55, 60, 63, 77, 80, 87, 90] [48] 94 (mm_by 94).data.toList 0 = true := by decide +kernel
set_option maxRecDepth 100000 in
set_option maxHeartbeats 4000000 in
theorem mmkn_94 (pc : Nat) (h : 94 ≤ pc) : mmc_94 pc = none :=
  wz_rs h rfl (wz_rs h rfl (wz_rs h rfl (wz_rs h rfl (wz_rs h rfl (wz_rs h rfl (wz_re h rfl))))))
set_option maxRecDepth 100000 in
set_option maxHeartbeats 4000000 in
theorem mmks_94 : wz_A (wz_PS 94 mmc_94) [12, 17, 20, 22, 35, 38, 45, 51, 55, 60, 63, 77, 80, 87, 90] :=
  wz_c (wz_sp (.invokevirtual 72, [(9, 12)]) rfl (⟨_, rfl, q_248, q_250, q_0, rfl⟩)) (wz_c (wz_sp (.getfield 26, [(9, 8)]) rfl (⟨_, rfl, by decide, q_215⟩)) (wz_c (wz_sp (.ldc 164, [(0, 1000000)]) rfl (q_606)) (wz_c (wz_sp (.invokevirtual 165, [(6, 82)]) rfl (⟨_, rfl, q_611, q_612, q_613, rfl⟩)) (wz_c (wz_sp (.getfield 62, [(9, 0)]) rfl (⟨_, rfl, by decide, q_207⟩)) (wz_c (wz_sp (.getfield 136, [(1, 9)]) rfl (⟨_, rfl, by decide, q_171⟩)) (wz_c (wz_sp (.invokevirtual 154, [(9, 75)]) rfl (⟨_, rfl, q_578, q_580, q_10, rfl⟩)) (wz_c (wz_sp (.putfield 126, [(1, 8), (0, 0)]) rfl (⟨_, rfl, by decide, q_168, _, rfl, rfl, rfl⟩)) (wz_c (wz_sp (.getfield 26, [(9, 8)]) rfl (⟨_, rfl, by decide, q_215⟩)) (wz_c (wz_sp (.invokevirtual 187, [(1, 89)]) rfl (⟨_, rfl, q_641, q_642, q_643, rfl⟩)) (wz_c (wz_sp (.invokevirtual 174, [(6, 84)]) rfl (⟨_, rfl, q_619, q_620, q_621, rfl⟩)) (wz_c (wz_sp (.getfield 26, [(9, 8)]) rfl (⟨_, rfl, by decide, q_215⟩)) (wz_c (wz_sp (.getfield 178, [(6, 0)]) rfl (⟨_, rfl, by decide, q_93⟩)) (wz_c (wz_sp (.getfield 26, [(9, 8)]) rfl (⟨_, rfl, by decide, q_215⟩)) (wz_c (wz_sp (.invokevirtual 193, [(6, 95)]) rfl (⟨_, rfl, q_666, q_667, q_668, rfl⟩)) (wz_n)))))))))))))))
set_option maxRecDepth 100000 in
set_option maxHeartbeats 4000000 in
theorem mmkd_94 : wz_A (wz_PD 94 mmc_94) [48] :=
  wz_c (wz_sd (.astore_n 3, []) 1 rfl (by decide +kernel) (Or.inl rfl)) (wz_n)
theorem mmk_94 (pc : Nat) : ∀ x, mmc_94 pc = some x → mm_K 94 pc x := wz_fin mmkn_94 mmkw_94 mmkd_94 mmks_94 pc
set_option maxRecDepth 100000 in
theorem mmkw_95 : wz_w mmc_95 [1, 15] [] 19 (mm_by 95).data.toList 0 = true := by decide +kernel
set_option maxRecDepth 100000 in
set_option maxHeartbeats 4000000 in
theorem mmkn_95 (pc : Nat) (h : 19 ≤ pc) : mmc_95 pc = none :=
  wz_rs h rfl (wz_rs h rfl (wz_rs h rfl (wz_rs h rfl (wz_re h rfl))))
set_option maxRecDepth 100000 in
set_option maxHeartbeats 4000000 in
theorem mmks_95 : wz_A (wz_PS 95 mmc_95) [1, 15] :=
  wz_c (wz_sp (.getfield 9, [(6, 0)]) rfl (⟨_, rfl, by decide, q_92⟩)) (wz_c (wz_sp (.getfield 15, [(6, 1)]) rfl (⟨_, rfl, by decide, q_94⟩)) (wz_n))
set_option maxRecDepth 100000 in
set_option maxHeartbeats 4000000 in
theorem mmkd_95 : wz_A (wz_PD 95 mmc_95) [] :=
  wz_n
theorem mmk_95 (pc : Nat) : ∀ x, mmc_95 pc = some x → mm_K 95 pc x := wz_fin mmkn_95 mmkw_95 mmkd_95 mmks_95 pc
set_option maxRecDepth 100000 in
theorem mmkw_96 : wz_w mmc_96 [2, 10, 26, 31, 34, 36, 48, 55, 62, 68, 71, 85, 88, 95, 98] [51] 102 (mm_by 96).data.toList 0 = true := by decide +kernel
set_option maxRecDepth 100000 in
set_option maxHeartbeats 4000000 in
theorem mmkn_96 (pc : Nat) (h : 102 ≤ pc) : mmc_96 pc = none :=
  wz_rs h rfl (wz_rs h rfl (wz_rs h rfl (wz_rs h rfl (wz_re h rfl))))
set_option maxRecDepth 100000 in
set_option maxHeartbeats 4000000 in
theorem mmks_96 : wz_A (wz_PS 96 mmc_96) [2, 10, 26, 31, 34, 36, 48, 55, 62, 68, 71, 85, 88, 95, 98] :=
  wz_c (wz_sp (.invokevirtual 91, [(9, 61)]) rfl (⟨_, rfl, q_514, q_516, q_9, rfl⟩)) (wz_c (wz_sp (.invokevirtual 72, [(9, 12)]) rfl (⟨_, rfl, q_248, q_250, q_0, rfl⟩)) (wz_c (wz_sp (.invokevirtual 72, [(9, 12)]) rfl (⟨_, rfl, q_248, q_250, q_0, rfl⟩)) (wz_c (wz_sp (.getfield 26, [(9, 8)]) rfl (⟨_, rfl, by decide, q_215⟩)) (wz_c (wz_sp (.ldc 164, [(0, 1000000)]) rfl (q_606)) (wz_c (wz_sp (.invokevirtual 165, [(6, 82)]) rfl (⟨_, rfl, q_611, q_612, q_613, rfl⟩)) (wz_c (wz_sp (.invokevirtual 154, [(9, 75)]) rfl (⟨_, rfl, q_578, q_580, q_10, rfl⟩)) (wz_c (wz_sp (.getfield 95, [(1, 3)]) rfl (⟨_, rfl, by decide, q_157⟩)) (wz_c (wz_sp (.getfield 26, [(9, 8)]) rfl (⟨_, rfl, by decide, q_215⟩)) (wz_c (wz_sp (.invokevirtual 187, [(1, 89)]) rfl (⟨_, rfl, q_641, q_642, q_643, rfl⟩)) (wz_c (wz_sp (.invokevirtual 174, [(6, 84)]) rfl (⟨_, rfl, q_619, q_620, q_621, rfl⟩)) (wz_c (wz_sp (.getfield 26, [(9, 8)]) rfl (⟨_, rfl, by decide, q_215⟩)) (wz_c (wz_sp (.getfield 178, [(6, 0)]) rfl (⟨_, rfl, by decide, q_93⟩)) (wz_c (wz_sp (.getfield 26, [(9, 8)]) rfl (⟨_, rfl, by decide, q_215⟩)) (wz_c (wz_sp (.invokevirtual 193, [(6, 95)]) rfl (⟨_, rfl, q_666, q_667, q_668, rfl⟩)) (wz_n)))))))))))))))
set_option maxRecDepth 100000 in
set_option maxHeartbeats 4000000 in
theorem mmkd_96 : wz_A (wz_PD 96 mmc_96) [51] :=
  wz_c (wz_sd (.astore 4, []) 2 rfl (by decide +kernel) (Or.inl rfl)) (wz_n)
theorem mmk_96 (pc : Nat) : ∀ x, mmc_96 pc = some x → mm_K 96 pc x := wz_fin mmkn_96 mmkw_96 mmkd_96 mmks_96 pc
set_option maxRecDepth 100000 in
theorem mmkw_97 : wz_w mmc_97 [33, 36, 41, 44, 49, 55, 60, 64, 67, 71, 74, 77, 84] [1] 88 (mm_by 97).data.toList 0 = true := by decide +kernel
set_option maxRecDepth 100000 in
set_option maxHeartbeats 4000000 in
theorem mmkn_97 (pc : Nat) (h : 88 ≤ pc) : mmc_97 pc = none :=
  wz_rs h rfl (wz_rs h rfl (wz_rs h rfl (wz_rs h rfl (wz_rs h rfl (wz_re h rfl)))))
set_option maxRecDepth 100000 in
set_option maxHeartbeats 4000000 in
theorem mmks_97 : wz_A (wz_PS 97 mmc_97) [33, 36, 41, 44, 49, 55, 60, 64, 67, 71, 74, 77, 84] :=
  wz_c (wz_sp (.getfield 62, [(9, 0)]) rfl (⟨_, rfl, by decide, q_207⟩)) (wz_c (wz_sp (.invokevirtual 196, [(1, 98)]) rfl (⟨_, rfl, q_678, q_679, q_680, rfl⟩)) (wz_c (wz_sp (.getfield 62, [(9, 0)]) rfl (⟨_, rfl, by decide, q_207⟩)) (wz_c (wz_sp (.invokevirtual 199, [(1, 99)]) rfl (⟨_, rfl, q_685, q_686, q_687, rfl⟩)) (wz_c (wz_sp (.getfield 62, [(9, 0)]) rfl (⟨_, rfl, by decide, q_207⟩)) (wz_c (wz_sp (.invokevirtual 202, [(1, 100)]) rfl (⟨_, rfl, q_689, q_690, q_691, rfl⟩)) (wz_c (wz_sp (.getfield 62, [(9, 0)]) rfl (⟨_, rfl, by decide, q_207⟩)) (wz_c (wz_sp (.getfield 62, [(9, 0)]) rfl (⟨_, rfl, by decide, q_207⟩)) (wz_c (wz_sp (.getfield 126, [(1, 8)]) rfl (⟨_, rfl, by decide, q_168⟩)) (wz_c (wz_sp (.getfield 62, [(9, 0)]) rfl (⟨_, rfl, by decide, q_207⟩)) (wz_c (wz_sp (.getfield 136, [(1, 9)]) rfl (⟨_, rfl, by decide, q_171⟩)) (wz_c (wz_sp (.invokevirtual 202, [(1, 100)]) rfl (⟨_, rfl, q_689, q_690, q_691, rfl⟩)) (wz_c (wz_sp (.invokevirtual 72, [(9, 12)]) rfl (⟨_, rfl, q_248, q_250, q_0, rfl⟩)) (wz_n)))))))))))))
set_option maxRecDepth 100000 in
set_option maxHeartbeats 4000000 in
theorem mmkd_97 : wz_A (wz_PD 97 mmc_97) [1] :=
  wz_c (wz_sd (.tableswitch 80 0 3 #[31, 39, 47, 58], []) 31 rfl (by decide +kernel) (Or.inr rfl)) (wz_n)
theorem mmk_97 (pc : Nat) : ∀ x, mmc_97 pc = some x → mm_K 97 pc x := wz_fin mmkn_97 mmkw_97 mmkd_97 mmks_97 pc
set_option maxRecDepth 100000 in
theorem mmkw_98 : wz_w mmc_98 [1, 7, 13, 18, 24, 30] [] 38 (mm_by 98).data.toList 0 = true := by decide +kernel
set_option maxRecDepth 100000 in
set_option maxHeartbeats 4000000 in
theorem mmkn_98 (pc : Nat) (h : 38 ≤ pc) : mmc_98 pc = none :=
  wz_rs h rfl (wz_rs h rfl (wz_rs h rfl (wz_rs h rfl (wz_rs h rfl (wz_re h rfl)))))
set_option maxRecDepth 100000 in
set_option maxHeartbeats 4000000 in
theorem mmks_98 : wz_A (wz_PS 98 mmc_98) [1, 7, 13, 18, 24, 30] :=
  wz_c (wz_sp (.getfield 30, [(1, 9)]) rfl (⟨_, rfl, by decide, q_170⟩)) (wz_c (wz_sp (.getfield 53, [(1, 8)]) rfl (⟨_, rfl, by decide, q_167⟩)) (wz_c (wz_sp (.invokestatic 105, [(3, 0)]) rfl (⟨q_682, by decide, by decide⟩)) (wz_c (wz_sp (.getfield 30, [(1, 9)]) rfl (⟨_, rfl, by decide, q_170⟩)) (wz_c (wz_sp (.getfield 53, [(1, 8)]) rfl (⟨_, rfl, by decide, q_167⟩)) (wz_c (wz_sp (.invokestatic 105, [(3, 0)]) rfl (⟨q_682, by decide, by decide⟩)) (wz_n))))))
set_option maxRecDepth 100000 in
set_option maxHeartbeats 4000000 in
theorem mmkd_98 : wz_A (wz_PD 98 mmc_98) [] :=
  wz_n
theorem mmk_98 (pc : Nat) : ∀ x, mmc_98 pc = some x → mm_K 98 pc x := wz_fin mmkn_98 mmkw_98 mmkd_98 mmks_98 pc
set_option maxRecDepth 100000 in
theorem mmkw_99 : wz_w mmc_99 [11, 17] [] 35 (mm_by 99).data.toList 0 = true := by decide +kernel
set_option maxRecDepth 100000 in
set_option maxHeartbeats 4000000 in
theorem mmkn_99 (pc : Nat) (h : 35 ≤ pc) : mmc_99 pc = none :=
  wz_rs h rfl (wz_rs h rfl (wz_rs h rfl (wz_rs h rfl (wz_re h rfl))))
set_option maxRecDepth 100000 in
set_option maxHeartbeats 4000000 in
theorem mmks_99 : wz_A (wz_PS 99 mmc_99) [11, 17] :=
  wz_c (wz_sp (.getfield 9, [(1, 1)]) rfl (⟨_, rfl, by decide, q_150⟩)) (wz_c (wz_sp (.getfield 9, [(1, 1)]) rfl (⟨_, rfl, by decide, q_150⟩)) (wz_n))
set_option maxRecDepth 100000 in
set_option maxHeartbeats 4000000 in
theorem mmkd_99 : wz_A (wz_PD 99 mmc_99) [] :=
  wz_n
theorem mmk_99 (pc : Nat) : ∀ x, mmc_99 pc = some x → mm_K 99 pc x := wz_fin mmkn_99 mmkw_99 mmkd_99 mmks_99 pc
set_option maxRecDepth 100000 in
theorem mmkw_100 : wz_w mmc_100 [6, 16, 27, 38, 70] [] 99 (mm_by 100).data.toList 0 = true := by decide +kernel
set_option maxRecDepth 100000 in
set_option maxHeartbeats 4000000 in
theorem mmkn_100 (pc : Nat) (h : 99 ≤ pc) : mmc_100 pc = none :=
  wz_rs h rfl (wz_rs h rfl (wz_rs h rfl (wz_rs h rfl (wz_rs h rfl (wz_rs h rfl (wz_re h rfl))))))
set_option maxRecDepth 100000 in
set_option maxHeartbeats 4000000 in
theorem mmks_100 : wz_A (wz_PS 100 mmc_100) [6, 16, 27, 38, 70] :=
  wz_c (wz_sp (.invokestatic 91, [(5, 0)]) rfl (⟨q_507, by decide, by decide⟩)) (wz_c (wz_sp (.invokestatic 73, [(4, 0)]) rfl (⟨q_481, by decide, by decide⟩)) (wz_c (wz_sp (.invokestatic 91, [(5, 0)]) rfl (⟨q_507, by decide, by decide⟩)) (wz_c (wz_sp (.invokestatic 73, [(4, 0)]) rfl (⟨q_481, by decide, by decide⟩)) (wz_c (wz_sp (.getfield 15, [(1, 2)]) rfl (⟨_, rfl, by decide, q_153⟩)) (wz_n)))))
set_option maxRecDepth 100000 in
set_option maxHeartbeats 4000000 in
theorem mmkd_100 : wz_A (wz_PD 100 mmc_100) [] :=
  wz_n
theorem mmk_100 (pc : Nat) : ∀ x, mmc_100 pc = some x → mm_K 100 pc x := wz_fin mmkn_100 mmkw_100 mmkd_100 mmks_100 pc
set_option maxRecDepth 100000 in
theorem mmkw_101 : wz_w mmc_101 [29, 32, 37, 40, 45, 48, 55] [1] 59 (mm_by 101).data.toList 0 = true := by decide +kernel
set_option maxRecDepth 100000 in
set_option maxHeartbeats 4000000 in
theorem mmkn_101 (pc : Nat) (h : 59 ≤ pc) : mmc_101 pc = none :=
  wz_rs h rfl (wz_rs h rfl (wz_re h rfl))
set_option maxRecDepth 100000 in
set_option maxHeartbeats 4000000 in
theorem mmks_101 : wz_A (wz_PS 101 mmc_101) [29, 32, 37, 40, 45, 48, 55] :=
  wz_c (wz_sp (.getfield 62, [(9, 0)]) rfl (⟨_, rfl, by decide, q_207⟩)) (wz_c (wz_sp (.invokevirtual 205, [(1, 102)]) rfl (⟨_, rfl, q_697, q_698, q_699, rfl⟩)) (wz_c (wz_sp (.getfield 62, [(9, 0)]) rfl (⟨_, rfl, by decide, q_207⟩)) (wz_c (wz_sp (.invokevirtual 208, [(1, 103)]) rfl (⟨_, rfl, q_701, q_702, q_703, rfl⟩)) (wz_c (wz_sp (.getfield 62, [(9, 0)]) rfl (⟨_, rfl, by decide, q_207⟩)) (wz_c (wz_sp (.invokevirtual 211, [(1, 104)]) rfl (⟨_, rfl, q_705, q_706, q_707, rfl⟩)) (wz_c (wz_sp (.invokevirtual 72, [(9, 12)]) rfl (⟨_, rfl, q_248, q_250, q_0, rfl⟩)) (wz_n)))))))
set_option maxRecDepth 100000 in
set_option maxHeartbeats 4000000 in
theorem mmkd_101 : wz_A (wz_PD 101 mmc_101) [1] :=
  wz_c (wz_sd (.tableswitch 51 0 2 #[27, 35, 43], []) 27 rfl (by decide +kernel) (Or.inr rfl)) (wz_n)
theorem mmk_101 (pc : Nat) : ∀ x, mmc_101 pc = some x → mm_K 101 pc x := wz_fin mmkn_101 mmkw_101 mmkd_101 mmks_101 pc
set_option maxRecDepth 100000 in
theorem mmkw_102 : wz_w mmc_102 [1, 19, 23, 35, 40, 45] [] 65 (mm_by 102).data.toList 0 = true := by decide +kernel
set_option maxRecDepth 100000 in
set_option maxHeartbeats 4000000 in
theorem mmkn_102 (pc : Nat) (h : 65 ≤ pc) : mmc_102 pc = none :=
  wz_rs h rfl (wz_rs h rfl (wz_rs h rfl (wz_rs h rfl (wz_rs h rfl (wz_re h rfl)))))
set_option maxRecDepth 100000 in
set_option maxHeartbeats 4000000 in
theorem mmks_102 : wz_A (wz_PS 102 mmc_102) [1, 19, 23, 35, 40, 45] :=
  wz_c (wz_sp (.getfield 50, [(1, 7)]) rfl (⟨_, rfl, by decide, q_164⟩)) (wz_c (wz_sp (.getfield 53, [(1, 8)]) rfl (⟨_, rfl, by decide, q_167⟩)) (wz_c (wz_sp (.invokestatic 82, [(0, 48)]) rfl (⟨Or.inr ⟨_, q_476⟩, q_458, rfl⟩)) (wz_c (wz_sp (.invokevirtual 85, [(1, 54)]) rfl (⟨_, rfl, q_477, q_478, q_479, rfl⟩)) (wz_c (wz_sp (.getfield 27, [(1, 6)]) rfl (⟨_, rfl, by decide, q_162⟩)) (wz_c (wz_sp (.invokevirtual 88, [(1, 55)]) rfl (⟨_, rfl, q_482, q_483, q_484, rfl⟩)) (wz_n))))))
set_option maxRecDepth 100000 in
set_option maxHeartbeats 4000000 in
theorem mmkd_102 : wz_A (wz_PD 102 mmc_102) [] :=
  wz_n
theorem mmk_102 (pc : Nat) : ∀ x, mmc_102 pc = some x → mm_K 102 pc x := wz_fin mmkn_102 mmkw_102 mmkd_102 mmks_102 pc
set_option maxRecDepth 100000 in
theorem mmkw_103 : wz_w mmc_103 [6, 14, 18] [] 41 (mm_by 103).data.toList 0 = true := by decide +kernel
set_option maxRecDepth 100000 in
set_option maxHeartbeats 4000000 in
theorem mmkn_103 (pc : Nat) (h : 41 ≤ pc) : mmc_103 pc = none :=
  wz_rs h rfl (wz_rs h rfl (wz_rs h rfl (wz_rs h rfl (wz_rs h rfl (wz_re h rfl)))))
set_option maxRecDepth 100000 in
set_option maxHeartbeats 4000000 in
theorem mmks_103 : wz_A (wz_PS 103 mmc_103) [6, 14, 18] :=
  wz_c (wz_sp (.getfield 50, [(1, 7)]) rfl (⟨_, rfl, by decide, q_164⟩)) (wz_c (wz_sp (.invokevirtual 88, [(1, 55)]) rfl (⟨_, rfl, q_482, q_483, q_484, rfl⟩)) (wz_c (wz_sp (.getfield 37, [(1, 11)]) rfl (⟨_, rfl, by decide, q_174⟩)) (wz_n)))
set_option maxRecDepth 100000 in
set_option maxHeartbeats 4000000 in
theorem mmkd_103 : wz_A (wz_PD 103 mmc_103) [] :=
  wz_n
theorem mmk_103 (pc : Nat) : ∀ x, mmc_103 pc = some x → mm_K 103 pc x := wz_fin mmkn_103 mmkw_103 mmkd_103 mmks_103 pc
set_option maxRecDepth 100000 in
theorem mmkw_104 : wz_w mmc_104 [1, 18, 25, 31] [] 49 (mm_by 104).data.toList 0 = true := by decide +kernel
set_option maxRecDepth 100000 in
set_option maxHeartbeats 4000000 in
theorem mmkn_104 (pc : Nat) (h : 49 ≤ pc) : mmc_104 pc = none :=
  wz_rs h rfl (wz_rs h rfl (wz_rs h rfl (wz_rs h rfl (wz_rs h rfl (wz_re h rfl)))))
set_option maxRecDepth 100000 in
set_option maxHeartbeats 4000000 in
theorem mmks_104 : wz_A (wz_PS 104 mmc_104) [1, 18, 25, 31] :=
  wz_c (wz_sp (.getfield 50, [(1, 7)]) rfl (⟨_, rfl, by decide, q_164⟩)) (wz_c (wz_sp (.getfield 50, [(1, 7)]) rfl (⟨_, rfl, by decide, q_164⟩)) (wz_c (wz_sp (.getfield 24, [(1, 5)]) rfl (⟨_, rfl, by decide, q_160⟩)) (wz_c (wz_sp (.getfield 24, [(1, 5)]) rfl (⟨_, rfl, by decide, q_160⟩)) (wz_n))))
set_option maxRecDepth 100000 in
set_option maxHeartbeats 4000000 in
theorem mmkd_104 : wz_A (wz_PD 104 mmc_104) [] :=
  wz_n
theorem mmk_104 (pc : Nat) : ∀ x, mmc_104 pc = some x → mm_K 104 pc x := wz_fin mmkn_104 mmkw_104 mmkd_104 mmks_104 pc
set_option maxRecDepth 100000 in
theorem mmkw_105 : wz_w mmc_105 [2, 10, 23, 34, 47, 63, 68, 74, 93, 100, 119, 126] [106, 132] 176 (mm_by 105).data.toList 0 = true := by decide +kernel
set_option maxRecDepth 100000 in
set_option maxHeartbeats 4000000 in
theorem mmkn_105 (pc : Nat) (h : 176 ≤ pc) : mmc_105 pc = none :=
  wz_rs h rfl (wz_rs h rfl (wz_rs h rfl (wz_rs h rfl (wz_re h rfl))))
set_option maxRecDepth 100000 in
set_option maxHeartbeats 4000000 in
theorem mmks_105 : wz_A (wz_PS 105 mmc_105) [2, 10, 23, 34, 47, 63, 68, 74, 93, 100, 119, 126] :=
  wz_c (wz_sp (.invokevirtual 91, [(9, 61)]) rfl (⟨_, rfl, q_514, q_516, q_9, rfl⟩)) (wz_c (wz_sp (.invokevirtual 91, [(9, 61)]) rfl (⟨_, rfl, q_514, q_516, q_9, rfl⟩)) (wz_c (wz_sp (.invokevirtual 72, [(9, 12)]) rfl (⟨_, rfl, q_248, q_250, q_0, rfl⟩)) (wz_c (wz_sp (.invokevirtual 72, [(9, 12)]) rfl (⟨_, rfl, q_248, q_250, q_0, rfl⟩)) (wz_c (wz_sp (.invokevirtual 72, [(9, 12)]) rfl (⟨_, rfl, q_248, q_250, q_0, rfl⟩)) (wz_c (wz_sp (.invokestatic 214, [(5, 0)]) rfl (⟨q_713, by decide, by decide⟩)) (wz_c (wz_sp (.invokestatic 219, [(4, 0)]) rfl (⟨q_636, by decide, by decide⟩)) (wz_c (wz_sp (.invokevirtual 222, [(9, 106)]) rfl (⟨_, rfl, q_714, q_716, q_12, rfl⟩)) (wz_c (wz_sp (.getfield 33, [(9, 10)]) rfl (⟨_, rfl, by decide, q_217⟩)) (wz_c (wz_sp (.getfield 33, [(9, 10)]) rfl (⟨_, rfl, by decide, q_217⟩)) (wz_c (wz_sp (.getfield 36, [(9, 11)]) rfl (⟨_, rfl, by decide, q_218⟩)) (wz_c (wz_sp (.getfield 36, [(9, 11)]) rfl (⟨_, rfl, by decide, q_218⟩)) (wz_n))))))))))))
set_option maxRecDepth 100000 in
set_option maxHeartbeats 4000000 in
theorem mmkd_105 : wz_A (wz_PD 105 mmc_105) [106, 132] :=
  wz_c (wz_sd (.ixor, []) 1 rfl (by decide +kernel) (Or.inl rfl)) (wz_c (wz_sd (.ixor, []) 1 rfl (by decide +kernel) (Or.inl rfl)) (wz_n))
theorem mmk_105 (pc : Nat) : ∀ x, mmc_105 pc = some x → mm_K 105 pc x := wz_fin mmkn_105 mmkw_105 mmkd_105 mmks_105 pc
set_option maxRecDepth 100000 in
theorem mmkw_106 : wz_w mmc_106 [11, 25, 37, 44, 48, 54, 60, 63, 74, 80, 86, 89] [14] 100 (mm_by 106).data.toList 0 = true := by decide +kernel
set_option maxRecDepth 100000 in
set_option maxHeartbeats 4000000 in
theorem mmkn_106 (pc : Nat) (h : 100 ≤ pc) : mmc_106 pc = none :=
  wz_rs h rfl (wz_rs h rfl (wz_rs h rfl (wz_rs h rfl (wz_rs h rfl (wz_rs h rfl (wz_re h rfl))))))
set_option maxRecDepth 100000 in
set_option maxHeartbeats 4000000 in
theorem mmks_106 : wz_A (wz_PS 106 mmc_106) [11, 25, 37, 44, 48, 54, 60, 63, 74, 80, 86, 89] :=
  wz_c (wz_sp (.invokevirtual 154, [(9, 75)]) rfl (⟨_, rfl, q_578, q_580, q_10, rfl⟩)) (wz_c (wz_sp (.invokevirtual 142, [(1, 42)]) rfl (⟨_, rfl, q_560, q_431, q_432, rfl⟩)) (wz_c (wz_sp (.invokevirtual 142, [(1, 42)]) rfl (⟨_, rfl, q_560, q_431, q_432, rfl⟩)) (wz_c (wz_sp (.invokevirtual 151, [(1, 43)]) rfl (⟨_, rfl, q_573, q_435, q_436, rfl⟩)) (wz_c (wz_sp (.getfield 33, [(9, 10)]) rfl (⟨_, rfl, by decide, q_217⟩)) (wz_c (wz_sp (.getfield 101, [(1, 5)]) rfl (⟨_, rfl, by decide, q_161⟩)) (wz_c (wz_sp (.getfield 62, [(9, 0)]) rfl (⟨_, rfl, by decide, q_207⟩)) (wz_c (wz_sp (.getfield 101, [(1, 5)]) rfl (⟨_, rfl, by decide, q_161⟩)) (wz_c (wz_sp (.getfield 36, [(9, 11)]) rfl (⟨_, rfl, by decide, q_218⟩)) (wz_c (wz_sp (.getfield 101, [(1, 5)]) rfl (⟨_, rfl, by decide, q_161⟩)) (wz_c (wz_sp (.getfield 62, [(9, 0)]) rfl (⟨_, rfl, by decide, q_207⟩)) (wz_c (wz_sp (.getfield 101, [(1, 5)]) rfl (⟨_, rfl, by decide, q_161⟩)) (wz_n))))))))))))
set_option maxRecDepth 100000 in
set_option maxHeartbeats 4000000 in
theorem mmkd_106 : wz_A (wz_PD 106 mmc_106) [14] :=
  wz_c (wz_sd (.astore 7, []) 2 rfl (by decide +kernel) (Or.inl rfl)) (wz_n)
theorem mmk_106 (pc : Nat) : ∀ x, mmc_106 pc = some x → mm_K 106 pc x := wz_fin mmkn_106 mmkw_106 mmkd_106 mmks_106 pc
set_option maxRecDepth 100000 in
theorem mmkw_107 : wz_w mmc_107 [1, 9, 25, 44, 62, 84, 100, 104, 121, 126] [66, 107] 130 (mm_by 107).data.toList 0 = true := by decide +kernel
set_option maxRecDepth 100000 in
set_option maxHeartbeats 4000000 in
theorem mmkn_107 (pc : Nat) (h : 130 ≤ pc) : mmc_107 pc = none :=
  wz_rs h rfl (wz_rs h rfl (wz_rs h rfl (wz_rs h rfl (wz_rs h rfl (wz_rs h rfl (wz_re h rfl))))))
set_option maxRecDepth 100000 in
set_option maxHeartbeats 4000000 in
theorem mmks_107 : wz_A (wz_PS 107 mmc_107) [1, 9, 25, 44, 62, 84, 100, 104, 121, 126] :=
  wz_c (wz_sp (.invokestatic 110, [(0, 37)]) rfl (⟨Or.inl q_527, q_412, rfl⟩)) (wz_c (wz_sp (.invokevirtual 226, [(9, 108)]) rfl (⟨_, rfl, q_722, q_724, q_13, rfl⟩)) (wz_c (wz_sp (.invokevirtual 226, [(9, 108)]) rfl (⟨_, rfl, q_722, q_724, q_13, rfl⟩)) (wz_c (wz_sp (.invokevirtual 226, [(9, 108)]) rfl (⟨_, rfl, q_722, q_724, q_13, rfl⟩)) (wz_c (wz_sp (.invokevirtual 226, [(9, 108)]) rfl (⟨_, rfl, q_722, q_724, q_13, rfl⟩)) (wz_c (wz_sp (.invokevirtual 230, [(9, 109)]) rfl (⟨_, rfl, q_727, q_729, q_14, rfl⟩)) (wz_c (wz_sp (.invokestatic 233, [(0, 110)]) rfl (⟨Or.inl q_731, q_732, rfl⟩)) (wz_c (wz_sp (.invokestatic 238, [(0, 111)]) rfl (⟨Or.inl q_737, q_738, rfl⟩)) (wz_c (wz_sp (.invokestatic 238, [(0, 111)]) rfl (⟨Or.inl q_737, q_738, rfl⟩)) (wz_c (wz_sp (.invokestatic 242, [(0, 112)]) rfl (⟨Or.inl q_740, q_741, rfl⟩)) (wz_n))))))))))
set_option maxRecDepth 100000 in
set_option maxHeartbeats 4000000 in
theorem mmkd_107 : wz_A (wz_PD 107 mmc_107) [66, 107] :=
  wz_c (wz_sd (.lconst 0, []) 1 rfl (by decide +kernel) (Or.inl rfl)) (wz_c (wz_sd (.ladd, []) 1 rfl (by decide +kernel) (Or.inl rfl)) (wz_n))
theorem mmk_107 (pc : Nat) : ∀ x, mmc_107 pc = some x → mm_K 107 pc x := wz_fin mmkn_107 mmkw_107 mmkd_107 mmks_107 pc
set_option maxRecDepth 100000 in
theorem mmkw_108 : wz_w mmc_108 [0, 5] [0, 9] 11 (mm_by 108).data.toList 0 = true := by decide +kernel
set_option maxRecDepth 100000 in
set_option maxHeartbeats 4000000 in
theorem mmkn_108 (pc : Nat) (h : 11 ≤ pc) : mmc_108 pc = none :=
  wz_rs h rfl (wz_rs h rfl (wz_rs h rfl (wz_re h rfl)))
set_option maxRecDepth 100000 in
set_option maxHeartbeats 4000000 in
theorem mmks_108 : wz_A (wz_PS 108 mmc_108) [0, 5] :=
  wz_c (wz_sp (.ldc2_w 271, [(0, 4000000000000000000)]) rfl (q_726)) (wz_c (wz_sp (.invokevirtual 72, [(9, 12)]) rfl (⟨_, rfl, q_248, q_250, q_0, rfl⟩)) (wz_n))
set_option maxRecDepth 100000 in
set_option maxHeartbeats 4000000 in
theorem mmkd_108 : wz_A (wz_PD 108 mmc_108) [0, 9] :=
  wz_c (wz_sd (.ldc2_w 271, [(0, 4000000000000000000)]) 3 rfl (by decide +kernel) (Or.inl rfl)) (wz_c (wz_sd (.lsub, []) 1 rfl (by decide +kernel) (Or.inl rfl)) (wz_n))
theorem mmk_108 (pc : Nat) : ∀ x, mmc_108 pc = some x → mm_K 108 pc x := wz_fin mmkn_108 mmkw_108 mmkd_108 mmks_108 pc
set_option maxRecDepth 100000 in
theorem mmkw_109 : wz_w mmc_109 [1, 30, 40] [4] 44 (mm_by 109).data.toList 0 = true := by decide +kernel
set_option maxRecDepth 100000 in
set_option maxHeartbeats 4000000 in
theorem mmkn_109 (pc : Nat) (h : 44 ≤ pc) : mmc_109 pc = none :=
  wz_rs h rfl (wz_rs h rfl (wz_rs h rfl (wz_rs h rfl (wz_rs h rfl (wz_re h rfl)))))
set_option maxRecDepth 100000 in
set_option maxHeartbeats 4000000 in
theorem mmks_109 : wz_A (wz_PS 109 mmc_109) [1, 30, 40] :=
  wz_c (wz_sp (.invokevirtual 154, [(9, 75)]) rfl (⟨_, rfl, q_578, q_580, q_10, rfl⟩)) (wz_c (wz_sp (.invokevirtual 181, [(1, 44)]) rfl (⟨_, rfl, q_627, q_439, q_440, rfl⟩)) (wz_c (wz_sp (.getfield 126, [(1, 8)]) rfl (⟨_, rfl, by decide, q_168⟩)) (wz_n)))
set_option maxRecDepth 100000 in
set_option maxHeartbeats 4000000 in
theorem mmkd_109 : wz_A (wz_PD 109 mmc_109) [4] :=
  wz_c (wz_sd (.astore_n 3, []) 1 rfl (by decide +kernel) (Or.inl rfl)) (wz_n)
theorem mmk_109 (pc : Nat) : ∀ x, mmc_109 pc = some x → mm_K 109 pc x := wz_fin mmkn_109 mmkw_109 mmkd_109 mmks_109 pc
set_option maxRecDepth 100000 in
theorem mmkw_110 : wz_w mmc_110 [4, 11, 18, 29] [3, 17, 27, 38, 45] 53 (mm_by 110).data.toList 0 = true := by decide +kernel
set_option maxRecDepth 100000 in
set_option maxHeartbeats 4000000 in
theorem mmkn_110 (pc : Nat) (h : 53 ≤ pc) : mmc_110 pc = none :=
  wz_rs h rfl (wz_rs h rfl (wz_rs h rfl (wz_rs h rfl (wz_rs h rfl (wz_rs h rfl (wz_re h rfl))))))
set_option maxRecDepth 100000 in
set_option maxHeartbeats 4000000 in
theorem mmks_110 : wz_A (wz_PS 110 mmc_110) [4, 11, 18, 29] :=
  wz_c (wz_sp (.ldc_w 265, [(0, 1431655765)]) rfl (q_734)) (wz_c (wz_sp (.ldc_w 266, [(0, 858993459)]) rfl (q_735)) (wz_c (wz_sp (.ldc_w 266, [(0, 858993459)]) rfl (q_735)) (wz_c (wz_sp (.ldc_w 267, [(0, 252645135)]) rfl (q_736)) (wz_n))))
set_option maxRecDepth 100000 in
set_option maxHeartbeats 4000000 in
theorem mmkd_110 : wz_A (wz_PD 110 mmc_110) [3, 17, 27, 38, 45] :=
  wz_c (wz_sd (.iushr, []) 1 rfl (by decide +kernel) (Or.inl rfl)) (wz_c (wz_sd (.iushr, []) 1 rfl (by decide +kernel) (Or.inl rfl)) (wz_c (wz_sd (.iushr, []) 1 rfl (by decide +kernel) (Or.inl rfl)) (wz_c (wz_sd (.iushr, []) 1 rfl (by decide +kernel) (Or.inl rfl)) (wz_c (wz_sd (.iushr, []) 1 rfl (by decide +kernel) (Or.inl rfl)) (wz_n)))))
theorem mmk_110 (pc : Nat) : ∀ x, mmc_110 pc = some x → mm_K 110 pc x := wz_fin mmkn_110 mmkw_110 mmkd_110 mmks_110 pc
set_option maxRecDepth 100000 in
theorem mmkw_111 : wz_w mmc_111 [] [0, 1, 11, 12, 13, 14, 21] 23 (mm_by 111).data.toList 0 = true := by decide +kernel
set_option maxRecDepth 100000 in
set_option maxHeartbeats 4000000 in
theorem mmkn_111 (pc : Nat) (h : 23 ≤ pc) : mmc_111 pc = none :=
  wz_rs h rfl (wz_rs h rfl (wz_rs h rfl (wz_rs h rfl (wz_re h rfl))))
set_option maxRecDepth 100000 in
set_option maxHeartbeats 4000000 in
theorem mmks_111 : wz_A (wz_PS 111 mmc_111) [] :=
  wz_n
set_option maxRecDepth 100000 in
set_option maxHeartbeats 4000000 in
theorem mmkd_111 : wz_A (wz_PD 111 mmc_111) [0, 1, 11, 12, 13, 14, 21] :=
  wz_c (wz_sd (.lconst 1, []) 1 rfl (by decide +kernel) (Or.inl rfl)) (wz_c (wz_sd (.lstore_n 3, []) 1 rfl (by decide +kernel) (Or.inl rfl)) (wz_c (wz_sd (.lload_n 3, []) 1 rfl (by decide +kernel) (Or.inl rfl)) (wz_c (wz_sd (.lload_n 0, []) 1 rfl (by decide +kernel) (Or.inl rfl)) (wz_c (wz_sd (.lmul, []) 1 rfl (by decide +kernel) (Or.inl rfl)) (wz_c (wz_sd (.lstore_n 3, []) 1 rfl (by decide +kernel) (Or.inl rfl)) (wz_c (wz_sd (.lload_n 3, []) 1 rfl (by decide +kernel) (Or.inl rfl)) (wz_n)))))))
theorem mmk_111 (pc : Nat) : ∀ x, mmc_111 pc = some x → mm_K 111 pc x := wz_fin mmkn_111 mmkw_111 mmkd_111 mmks_111 pc
set_option maxRecDepth 100000 in
theorem mmkw_112 : wz_w mmc_112 [2] [0, 1, 9, 10, 14, 21, 25, 28] 30 (mm_by 112).data.toList 0 = true := by decide +kernel
set_option maxRecDepth 100000 in
set_option maxHeartbeats 4000000 in
theorem mmkn_112 (pc : Nat) (h : 30 ≤ pc) : mmc_112 pc = none :=
  wz_rs h rfl (wz_rs h rfl (wz_re h rfl))
set_option maxRecDepth 100000 in
set_option maxHeartbeats 4000000 in
theorem mmks_112 : wz_A (wz_PS 112 mmc_112) [2] :=
  wz_c (wz_sp (.invokestatic 283, [(0, 113)]) rfl (⟨Or.inl q_743, q_744, rfl⟩)) (wz_n)
set_option maxRecDepth 100000 in
set_option maxHeartbeats 4000000 in
theorem mmkd_112 : wz_A (wz_PD 112 mmc_112) [0, 1, 9, 10, 14, 21, 25, 28] :=
  wz_c (wz_sd (.lload_n 0, []) 1 rfl (by decide +kernel) (Or.inl rfl)) (wz_c (wz_sd (.lload_n 2, []) 1 rfl (by decide +kernel) (Or.inl rfl)) (wz_c (wz_sd (.lconst 0, []) 1 rfl (by decide +kernel) (Or.inl rfl)) (wz_c (wz_sd (.lcmp, []) 1 rfl (by decide +kernel) (Or.inl rfl)) (wz_c (wz_sd (.lconst 0, []) 1 rfl (by decide +kernel) (Or.inl rfl)) (wz_c (wz_sd (.lload_n 0, []) 1 rfl (by decide +kernel) (Or.inl rfl)) (wz_c (wz_sd (.lload_n 2, []) 1 rfl (by decide +kernel) (Or.inl rfl)) (wz_c (wz_sd (.ldiv, []) 1 rfl (by decide +kernel) (Or.inl rfl)) (wz_n))))))))
theorem mmk_112 (pc : Nat) : ∀ x, mmc_112 pc = some x → mm_K 112 pc x := wz_fin mmkn_112 mmkw_112 mmkd_112 mmks_112 pc
set_option maxRecDepth 100000 in
theorem mmkw_113 : wz_w mmc_113 [] [0, 3, 19, 20, 28] 48 (mm_by 113).data.toList 0 = true := by decide +kernel
set_option maxRecDepth 100000 in
set_option maxHeartbeats 4000000 in
theorem mmkn_113 (pc : Nat) (h : 48 ≤ pc) : mmc_113 pc = none :=
  wz_rs h rfl (wz_rs h rfl (wz_rs h rfl (wz_rs h rfl (wz_rs h rfl (wz_re h rfl)))))
set_option maxRecDepth 100000 in
set_option maxHeartbeats 4000000 in
theorem mmks_113 : wz_A (wz_PS 113 mmc_113) [] :=
  wz_n
set_option maxRecDepth 100000 in
set_option maxHeartbeats 4000000 in
theorem mmkd_113 : wz_A (wz_PD 113 mmc_113) [0, 3, 19, 20, 28] :=
  wz_c (wz_sd (.lload_n 0, []) 1 rfl (by decide +kernel) (Or.inl rfl)) (wz_c (wz_sd (.lload_n 2, []) 1 rfl (by decide +kernel) (Or.inl rfl)) (wz_c (wz_sd (.lconst 0, []) 1 rfl (by decide +kernel) (Or.inl rfl)) (wz_c (wz_sd (.lcmp, []) 1 rfl (by decide +kernel) (Or.inl rfl)) (wz_c (wz_sd (.lrem, []) 1 rfl (by decide +kernel) (Or.inl rfl)) (wz_n)))))
theorem mmk_113 (pc : Nat) : ∀ x, mmc_113 pc = some x → mm_K 113 pc x := wz_fin mmkn_113 mmkw_113 mmkd_113 mmks_113 pc
set_option maxRecDepth 100000 in
theorem mmkw_114 : wz_w mmc_114 [12, 28, 31, 46, 50] [46] 54 (mm_by 114).data.toList 0 = true := by decide +kernel
set_option maxRecDepth 100000 in
set_option maxHeartbeats 4000000 in
theorem mmkn_114 (pc : Nat) (h : 54 ≤ pc) : mmc_114 pc = none :=
  wz_rs h rfl (wz_rs h rfl (wz_rs h rfl (wz_rs h rfl (wz_rs h rfl (wz_re h rfl)))))
set_option maxRecDepth 100000 in
set_option maxHeartbeats 4000000 in
theorem mmks_114 : wz_A (wz_PS 114 mmc_114) [12, 28, 31, 46, 50] :=
  wz_c (wz_sp (.invokevirtual 226, [(9, 108)]) rfl (⟨_, rfl, q_722, q_724, q_13, rfl⟩)) (wz_c (wz_sp (.getfield 62, [(9, 0)]) rfl (⟨_, rfl, by decide, q_207⟩)) (wz_c (wz_sp (.getfield 113, [(1, 1)]) rfl (⟨_, rfl, by decide, q_151⟩)) (wz_c (wz_sp (.ldc2_w 246, [(0, 25)]) rfl (q_750)) (wz_c (wz_sp (.invokestatic 242, [(0, 112)]) rfl (⟨Or.inl q_740, q_741, rfl⟩)) (wz_n)))))
set_option maxRecDepth 100000 in
set_option maxHeartbeats 4000000 in
theorem mmkd_114 : wz_A (wz_PD 114 mmc_114) [46] :=
  wz_c (wz_sd (.ldc2_w 246, [(0, 25)]) 3 rfl (by decide +kernel) (Or.inl rfl)) (wz_n)
theorem mmk_114 (pc : Nat) : ∀ x, mmc_114 pc = some x → mm_K 114 pc x := wz_fin mmkn_114 mmkw_114 mmkd_114 mmks_114 pc
set_option maxRecDepth 100000 in
theorem mmkw_115 : wz_w mmc_115 [12, 21, 28] [] 32 (mm_by 115).data.toList 0 = true := by decide +kernel
set_option maxRecDepth 100000 in
set_option maxHeartbeats 4000000 in
theorem mmkn_115 (pc : Nat) (h : 32 ≤ pc) : mmc_115 pc = none :=
  wz_rs h rfl (wz_re h rfl)
set_option maxRecDepth 100000 in
set_option maxHeartbeats 4000000 in
theorem mmks_115 : wz_A (wz_PS 115 mmc_115) [12, 21, 28] :=
  wz_c (wz_sp (.invokevirtual 72, [(9, 12)]) rfl (⟨_, rfl, q_248, q_250, q_0, rfl⟩)) (wz_c (wz_sp (.invokevirtual 248, [(9, 116)]) rfl (⟨_, rfl, q_755, q_757, q_15, rfl⟩)) (wz_c (wz_sp (.invokevirtual 251, [(9, 118)]) rfl (⟨_, rfl, q_763, q_765, q_17, rfl⟩)) (wz_n)))
set_option maxRecDepth 100000 in
set_option maxHeartbeats 4000000 in
theorem mmkd_115 : wz_A (wz_PD 115 mmc_115) [] :=
  wz_n
theorem mmk_115 (pc : Nat) : ∀ x, mmc_115 pc = some x → mm_K 115 pc x := wz_fin mmkn_115 mmkw_115 mmkd_115 mmks_115 pc
set_option maxRecDepth 100000 in
theorem mmkw_116 : wz_w mmc_116 [6, 9, 16, 22, 27] [19] 47 (mm_by 116).data.toList 0 = true := by decide +kernel
set_option maxRecDepth 100000 in
set_option maxHeartbeats 4000000 in
theorem mmkn_116 (pc : Nat) (h : 47 ≤ pc) : mmc_116 pc = none :=
  wz_rs h rfl (wz_rs h rfl (wz_rs h rfl (wz_rs h rfl (wz_rs h rfl (wz_re h rfl)))))
set_option maxRecDepth 100000 in
set_option maxHeartbeats 4000000 in
theorem mmks_116 : wz_A (wz_PS 116 mmc_116) [6, 9, 16, 22, 27] :=
  wz_c (wz_sp (.getfield 62, [(9, 0)]) rfl (⟨_, rfl, by decide, q_207⟩)) (wz_c (wz_sp (.getfield 168, [(1, 7)]) rfl (⟨_, rfl, by decide, q_166⟩)) (wz_c (wz_sp (.invokevirtual 154, [(9, 75)]) rfl (⟨_, rfl, q_578, q_580, q_10, rfl⟩)) (wz_c (wz_sp (.invokevirtual 190, [(1, 90)]) rfl (⟨_, rfl, q_646, q_647, q_648, rfl⟩)) (wz_c (wz_sp (.invokevirtual 273, [(9, 117)]) rfl (⟨_, rfl, q_759, q_761, q_16, rfl⟩)) (wz_n)))))
set_option maxRecDepth 100000 in
set_option maxHeartbeats 4000000 in
theorem mmkd_116 : wz_A (wz_PD 116 mmc_116) [19] :=
  wz_c (wz_sd (.astore_n 3, []) 1 rfl (by decide +kernel) (Or.inl rfl)) (wz_n)
theorem mmk_116 (pc : Nat) : ∀ x, mmc_116 pc = some x → mm_K 116 pc x := wz_fin mmkn_116 mmkw_116 mmkd_116 mmks_116 pc
set_option maxRecDepth 100000 in
theorem mmkw_117 : wz_w mmc_117 [4, 11, 15, 27] [] 38 (mm_by 117).data.toList 0 = true := by decide +kernel
set_option maxRecDepth 100000 in
set_option maxHeartbeats 4000000 in
theorem mmkn_117 (pc : Nat) (h : 38 ≤ pc) : mmc_117 pc = none :=
  wz_rs h rfl (wz_rs h rfl (wz_rs h rfl (wz_rs h rfl (wz_re h rfl))))
set_option maxRecDepth 100000 in
set_option maxHeartbeats 4000000 in
theorem mmks_117 : wz_A (wz_PS 117 mmc_117) [4, 11, 15, 27] :=
  wz_c (wz_sp (.getfield 254, [(9, 6)]) rfl (⟨_, rfl, by decide, q_213⟩)) (wz_c (wz_sp (.getfield 126, [(1, 8)]) rfl (⟨_, rfl, by decide, q_168⟩)) (wz_c (wz_sp (.getfield 16, [(9, 5)]) rfl (⟨_, rfl, by decide, q_212⟩)) (wz_c (wz_sp (.invokevirtual 181, [(1, 44)]) rfl (⟨_, rfl, q_627, q_439, q_440, rfl⟩)) (wz_n))))
set_option maxRecDepth 100000 in
set_option maxHeartbeats 4000000 in
theorem mmkd_117 : wz_A (wz_PD 117 mmc_117) [] :=
  wz_n
theorem mmk_117 (pc : Nat) : ∀ x, mmc_117 pc = some x → mm_K 117 pc x := wz_fin mmkn_117 mmkw_117 mmkd_117 mmks_117 pc
set_option maxRecDepth 100000 in
theorem mmkw_118 : wz_w mmc_118 [1, 4, 23, 28, 32, 41] [26] 61 (mm_by 118).data.toList 0 = true := by decide +kernel
set_option maxRecDepth 100000 in
set_option maxHeartbeats 4000000 in
theorem mmkn_118 (pc : Nat) (h : 61 ≤ pc) : mmc_118 pc = none :=
  wz_rs h rfl (wz_rs h rfl (wz_rs h rfl (wz_rs h rfl (wz_rs h rfl (wz_re h rfl)))))
set_option maxRecDepth 100000 in
set_option maxHeartbeats 4000000 in
theorem mmks_118 : wz_A (wz_PS 118 mmc_118) [1, 4, 23, 28, 32, 41] :=
  wz_c (wz_sp (.getfield 62, [(9, 0)]) rfl (⟨_, rfl, by decide, q_207⟩)) (wz_c (wz_sp (.getfield 168, [(1, 7)]) rfl (⟨_, rfl, by decide, q_166⟩)) (wz_c (wz_sp (.invokevirtual 154, [(9, 75)]) rfl (⟨_, rfl, q_578, q_580, q_10, rfl⟩)) (wz_c (wz_sp (.getfield 95, [(1, 3)]) rfl (⟨_, rfl, by decide, q_157⟩)) (wz_c (wz_sp (.getfield 277, [(1, 6)]) rfl (⟨_, rfl, by decide, q_163⟩)) (wz_c (wz_sp (.invokevirtual 273, [(9, 117)]) rfl (⟨_, rfl, q_759, q_761, q_16, rfl⟩)) (wz_n))))))
set_option maxRecDepth 100000 in
set_option maxHeartbeats 4000000 in
theorem mmkd_118 : wz_A (wz_PD 118 mmc_118) [26] :=
  wz_c (wz_sd (.astore_n 3, []) 1 rfl (by decide +kernel) (Or.inl rfl)) (wz_n)
theorem mmk_118 (pc : Nat) : ∀ x, mmc_118 pc = some x → mm_K 118 pc x := wz_fin mmkn_118 mmkw_118 mmkd_118 mmks_118 pc
set_option maxRecDepth 100000 in
theorem mmkw_119 : wz_w mmc_119 [7, 18, 29, 34, 38, 45, 50, 54] [] 58 (mm_by 119).data.toList 0 = true := by decide +kernel
set_option maxRecDepth 100000 in
set_option maxHeartbeats 4000000 in
theorem mmkn_119 (pc : Nat) (h : 58 ≤ pc) : mmc_119 pc = none :=
  wz_rs h rfl (wz_rs h rfl (wz_rs h rfl (wz_rs h rfl (wz_rs h rfl (wz_re h rfl)))))
set_option maxRecDepth 100000 in
set_option maxHeartbeats 4000000 in
theorem mmks_119 : wz_A (wz_PS 119 mmc_119) [7, 18, 29, 34, 38, 45, 50, 54] :=
  wz_c (wz_sp (.invokevirtual 72, [(9, 12)]) rfl (⟨_, rfl, q_248, q_250, q_0, rfl⟩)) (wz_c (wz_sp (.getfield 254, [(9, 6)]) rfl (⟨_, rfl, by decide, q_213⟩)) (wz_c (wz_sp (.invokevirtual 72, [(9, 12)]) rfl (⟨_, rfl, q_248, q_250, q_0, rfl⟩)) (wz_c (wz_sp (.getfield 16, [(9, 5)]) rfl (⟨_, rfl, by decide, q_212⟩)) (wz_c (wz_sp (.getfield 254, [(9, 6)]) rfl (⟨_, rfl, by decide, q_213⟩)) (wz_c (wz_sp (.getfield 254, [(9, 6)]) rfl (⟨_, rfl, by decide, q_213⟩)) (wz_c (wz_sp (.putfield 254, [(9, 6), (0, 0)]) rfl (⟨_, rfl, by decide, q_213, _, rfl, rfl, rfl⟩)) (wz_c (wz_sp (.getfield 254, [(9, 6)]) rfl (⟨_, rfl, by decide, q_213⟩)) (wz_n))))))))
set_option maxRecDepth 100000 in
set_option maxHeartbeats 4000000 in
theorem mmkd_119 : wz_A (wz_PD 119 mmc_119) [] :=
  wz_n
theorem mmk_119 (pc : Nat) : ∀ x, mmc_119 pc = some x → mm_K 119 pc x := wz_fin mmkn_119 mmkw_119 mmkd_119 mmks_119 pc
set_option maxRecDepth 100000 in
theorem mmkw_120 : wz_w mmc_120 [4, 15, 21, 24, 42] [] 47 (mm_by 120).data.toList 0 = true := by decide +kernel
set_option maxRecDepth 100000 in
set_option maxHeartbeats 4000000 in
theorem mmkn_120 (pc : Nat) (h : 47 ≤ pc) : mmc_120 pc = none :=
  wz_rs h rfl (wz_rs h rfl (wz_rs h rfl (wz_rs h rfl (wz_rs h rfl (wz_re h rfl)))))
set_option maxRecDepth 100000 in
set_option maxHeartbeats 4000000 in
theorem mmks_120 : wz_A (wz_PS 120 mmc_120) [4, 15, 21, 24, 42] :=
  wz_c (wz_sp (.getfield 254, [(9, 6)]) rfl (⟨_, rfl, by decide, q_213⟩)) (wz_c (wz_sp (.getfield 16, [(9, 5)]) rfl (⟨_, rfl, by decide, q_212⟩)) (wz_c (wz_sp (.getfield 62, [(9, 0)]) rfl (⟨_, rfl, by decide, q_207⟩)) (wz_c (wz_sp (.getfield 113, [(1, 1)]) rfl (⟨_, rfl, by decide, q_151⟩)) (wz_c (wz_sp (.putfield 254, [(9, 6), (0, 0)]) rfl (⟨_, rfl, by decide, q_213, _, rfl, rfl, rfl⟩)) (wz_n)))))
set_option maxRecDepth 100000 in
set_option maxHeartbeats 4000000 in
theorem mmkd_120 : wz_A (wz_PD 120 mmc_120) [] :=
  wz_n
theorem mmk_120 (pc : Nat) : ∀ x, mmc_120 pc = some x → mm_K 120 pc x := wz_fin mmkn_120 mmkw_120 mmkd_120 mmks_120 pc
set_option maxRecDepth 100000 in
theorem mmkw_121 : wz_w mmc_121 [1, 7] [] 12 (mm_by 121).data.toList 0 = true := by decide +kernel
set_option maxRecDepth 100000 in
set_option maxHeartbeats 4000000 in
theorem mmkn_121 (pc : Nat) (h : 12 ≤ pc) : mmc_121 pc = none :=
  wz_rs h rfl (wz_rs h rfl (wz_rs h rfl (wz_re h rfl)))
set_option maxRecDepth 100000 in
set_option maxHeartbeats 4000000 in
theorem mmks_121 : wz_A (wz_PS 121 mmc_121) [1, 7] :=
  wz_c (wz_sp (.getfield 254, [(9, 6)]) rfl (⟨_, rfl, by decide, q_213⟩)) (wz_c (wz_sp (.putfield 254, [(9, 6), (0, 0)]) rfl (⟨_, rfl, by decide, q_213, _, rfl, rfl, rfl⟩)) (wz_n))
set_option maxRecDepth 100000 in
set_option maxHeartbeats 4000000 in
theorem mmkd_121 : wz_A (wz_PD 121 mmc_121) [] :=
  wz_n
theorem mmk_121 (pc : Nat) : ∀ x, mmc_121 pc = some x → mm_K 121 pc x := wz_fin mmkn_121 mmkw_121 mmkd_121 mmks_121 pc
set_option maxRecDepth 100000 in
theorem mmkw_122 : wz_w mmc_122 [8, 21, 37, 60, 67, 78, 81, 86, 97, 100, 105, 116, 119, 126, 133, 138, 156, 160, 163] [63] 188 (mm_by 122).data.toList 0 = true := by decide +kernel
set_option maxRecDepth 100000 in
set_option maxHeartbeats 4000000 in
theorem mmkn_122 (pc : Nat) (h : 188 ≤ pc) : mmc_122 pc = none :=
  wz_rs h rfl (wz_rs h rfl (wz_rs h rfl (wz_rs h rfl (wz_rs h rfl (wz_rs h rfl (wz_rs h rfl (wz_re h rfl)))))))
set_option maxRecDepth 100000 in
set_option maxHeartbeats 4000000 in
theorem mmks_122 : wz_A (wz_PS 122 mmc_122) [8, 21, 37, 60, 67, 78, 81, 86, 97, 100, 105, 116, 119, 126, 133, 138, 156, 160, 163] :=
  wz_c (wz_sp (.invokevirtual 72, [(9, 12)]) rfl (⟨_, rfl, q_248, q_250, q_0, rfl⟩)) (wz_c (wz_sp (.invokevirtual 72, [(9, 12)]) rfl (⟨_, rfl, q_248, q_250, q_0, rfl⟩)) (wz_c (wz_sp (.invokevirtual 72, [(9, 12)]) rfl (⟨_, rfl, q_248, q_250, q_0, rfl⟩)) (wz_c (wz_sp (.invokevirtual 154, [(9, 75)]) rfl (⟨_, rfl, q_578, q_580, q_10, rfl⟩)) (wz_c (wz_sp (.invokestatic 257, [(0, 123)]) rfl (⟨Or.inl q_783, q_784, rfl⟩)) (wz_c (wz_sp (.invokestatic 260, [(0, 124)]) rfl (⟨Or.inl q_788, q_789, rfl⟩)) (wz_c (wz_sp (.putfield 126, [(1, 8), (0, 0)]) rfl (⟨_, rfl, by decide, q_168, _, rfl, rfl, rfl⟩)) (wz_c (wz_sp (.invokestatic 257, [(0, 123)]) rfl (⟨Or.inl q_783, q_784, rfl⟩)) (wz_c (wz_sp (.invokestatic 260, [(0, 124)]) rfl (⟨Or.inl q_788, q_789, rfl⟩)) (wz_c (wz_sp (.putfield 136, [(1, 9), (0, 0)]) rfl (⟨_, rfl, by decide, q_171, _, rfl, rfl, rfl⟩)) (wz_c (wz_sp (.invokestatic 257, [(0, 123)]) rfl (⟨Or.inl q_783, q_784, rfl⟩)) (wz_c (wz_sp (.invokestatic 260, [(0, 124)]) rfl (⟨Or.inl q_788, q_789, rfl⟩)) (wz_c (wz_sp (.putfield 139, [(1, 11), (0, 0)]) rfl (⟨_, rfl, by decide, q_175, _, rfl, rfl, rfl⟩)) (wz_c (wz_sp (.invokevirtual 151, [(1, 43)]) rfl (⟨_, rfl, q_573, q_435, q_436, rfl⟩)) (wz_c (wz_sp (.getfield 126, [(1, 8)]) rfl (⟨_, rfl, by decide, q_168⟩)) (wz_c (wz_sp (.getfield 136, [(1, 9)]) rfl (⟨_, rfl, by decide, q_171⟩)) (wz_c (wz_sp (.invokevirtual 158, [(1, 77)]) rfl (⟨_, rfl, q_589, q_590, q_591, rfl⟩)) (wz_c (wz_sp (.getfield 62, [(9, 0)]) rfl (⟨_, rfl, by decide, q_207⟩)) (wz_c (wz_sp (.invokevirtual 158, [(1, 77)]) rfl (⟨_, rfl, q_589, q_590, q_591, rfl⟩)) (wz_n)))))))))))))))))))
set_option maxRecDepth 100000 in
set_option maxHeartbeats 4000000 in
theorem mmkd_122 : wz_A (wz_PD 122 mmc_122) [63] :=
  wz_c (wz_sd (.astore 8, []) 2 rfl (by decide +kernel) (Or.inl rfl)) (wz_n)
theorem mmk_122 (pc : Nat) : ∀ x, mmc_122 pc = some x → mm_K 122 pc x := wz_fin mmkn_122 mmkw_122 mmkd_122 mmks_122 pc
set_option maxRecDepth 100000 in
theorem mmkw_123 : wz_w mmc_123 [1, 5] [] 10 (mm_by 123).data.toList 0 = true := by decide +kernel
set_option maxRecDepth 100000 in
set_option maxHeartbeats 4000000 in
theorem mmkn_123 (pc : Nat) (h : 10 ≤ pc) : mmc_123 pc = none :=
  wz_rs h rfl (wz_rs h rfl (wz_rs h rfl (wz_re h rfl)))
set_option maxRecDepth 100000 in
set_option maxHeartbeats 4000000 in
theorem mmks_123 : wz_A (wz_PS 123 mmc_123) [1, 5] :=
  wz_c (wz_sp (.ldc_w 280, [(0, 1664525)]) rfl (q_786)) (wz_c (wz_sp (.ldc_w 281, [(0, 1013904223)]) rfl (q_787)) (wz_n))
set_option maxRecDepth 100000 in
set_option maxHeartbeats 4000000 in
theorem mmkd_123 : wz_A (wz_PD 123 mmc_123) [] :=
  wz_n
theorem mmk_123 (pc : Nat) : ∀ x, mmc_123 pc = some x → mm_K 123 pc x := wz_fin mmkn_123 mmkw_123 mmkd_123 mmks_123 pc
set_option maxRecDepth 100000 in
theorem mmkw_124 : wz_w mmc_124 [1] [] 12 (mm_by 124).data.toList 0 = true := by decide +kernel
set_option maxRecDepth 100000 in
set_option maxHeartbeats 4000000 in
theorem mmkn_124 (pc : Nat) (h : 12 ≤ pc) : mmc_124 pc = none :=
  wz_rs h rfl (wz_rs h rfl (wz_rs h rfl (wz_re h rfl)))
set_option maxRecDepth 100000 in
set_option maxHeartbeats 4000000 in
theorem mmks_124 : wz_A (wz_PS 124 mmc_124) [1] :=
  wz_c (wz_sp (.ldc_w 282, [(0, 2147483647)]) rfl (q_791)) (wz_n)
set_option maxRecDepth 100000 in
set_option maxHeartbeats 4000000 in
theorem mmkd_124 : wz_A (wz_PD 124 mmc_124) [] :=
  wz_n
theorem mmk_124 (pc : Nat) : ∀ x, mmc_124 pc = some x → mm_K 124 pc x := wz_fin mmkn_124 mmkw_124 mmkd_124 mmks_124 pc
set_option maxRecDepth 100000 in
theorem mmkw_125 : wz_w mmc_125 [1, 5, 8, 13, 17, 20] [] 24 (mm_by 125).data.toList 0 = true := by decide +kernel
set_option maxRecDepth 100000 in
set_option maxHeartbeats 4000000 in
theorem mmkn_125 (pc : Nat) (h : 24 ≤ pc) : mmc_125 pc = none :=
  wz_rs h rfl (wz_rs h rfl (wz_rs h rfl (wz_rs h rfl (wz_re h rfl))))
set_option maxRecDepth 100000 in
set_option maxHeartbeats 4000000 in
theorem mmks_125 : wz_A (wz_PS 125 mmc_125) [1, 5, 8, 13, 17, 20] :=
  wz_c (wz_sp (.getfield 69, [(9, 2)]) rfl (⟨_, rfl, by decide, q_209⟩)) (wz_c (wz_sp (.getfield 62, [(9, 0)]) rfl (⟨_, rfl, by decide, q_207⟩)) (wz_c (wz_sp (.invokevirtual 263, [(1, 76)]) rfl (⟨_, rfl, q_582, q_583, q_584, rfl⟩)) (wz_c (wz_sp (.putfield 267, [(9, 3), (1, 0)]) rfl (⟨_, rfl, by decide, q_210, _, rfl, rfl, rfl⟩)) (wz_c (wz_sp (.getfield 62, [(9, 0)]) rfl (⟨_, rfl, by decide, q_207⟩)) (wz_c (wz_sp (.getfield 148, [(1, 12)]) rfl (⟨_, rfl, by decide, q_179⟩)) (wz_n))))))
set_option maxRecDepth 100000 in
set_option maxHeartbeats 4000000 in
theorem mmkd_125 : wz_A (wz_PD 125 mmc_125) [] :=
  wz_n
theorem mmk_125 (pc : Nat) : ∀ x, mmc_125 pc = some x → mm_K 125 pc x := wz_fin mmkn_125 mmkw_125 mmkd_125 mmks_125 pc
set_option maxRecDepth 100000 in
theorem mmkw_126 : wz_w mmc_126 [1, 10, 15, 19, 22, 26, 29] [] 33 (mm_by 126).data.toList 0 = true := by decide +kernel
set_option maxRecDepth 100000 in
set_option maxHeartbeats 4000000 in
theorem mmkn_126 (pc : Nat) (h : 33 ≤ pc) : mmc_126 pc = none :=
  wz_rs h rfl (wz_rs h rfl (wz_rs h rfl (wz_rs h rfl (wz_re h rfl))))
set_option maxRecDepth 100000 in
set_option maxHeartbeats 4000000 in
theorem mmks_126 : wz_A (wz_PS 126 mmc_126) [1, 10, 15, 19, 22, 26, 29] :=
  wz_c (wz_sp (.getfield 267, [(9, 3)]) rfl (⟨_, rfl, by decide, q_210⟩)) (wz_c (wz_sp (.invokevirtual 72, [(9, 12)]) rfl (⟨_, rfl, q_248, q_250, q_0, rfl⟩)) (wz_c (wz_sp (.getfield 62, [(9, 0)]) rfl (⟨_, rfl, by decide, q_207⟩)) (wz_c (wz_sp (.getfield 69, [(9, 2)]) rfl (⟨_, rfl, by decide, q_209⟩)) (wz_c (wz_sp (.invokevirtual 263, [(1, 76)]) rfl (⟨_, rfl, q_582, q_583, q_584, rfl⟩)) (wz_c (wz_sp (.getfield 62, [(9, 0)]) rfl (⟨_, rfl, by decide, q_207⟩)) (wz_c (wz_sp (.getfield 148, [(1, 12)]) rfl (⟨_, rfl, by decide, q_179⟩)) (wz_n)))))))
set_option maxRecDepth 100000 in
set_option maxHeartbeats 4000000 in
theorem mmkd_126 : wz_A (wz_PD 126 mmc_126) [] :=
  wz_n
theorem mmk_126 (pc : Nat) : ∀ x, mmc_126 pc = some x → mm_K 126 pc x := wz_fin mmkn_126 mmkw_126 mmkd_126 mmks_126 pc
set_option maxRecDepth 100000 in
theorem mmkw_127 : wz_w mmc_127 [49, 52, 57, 60, 65, 68, 73, 76, 81, 84, 89, 92, 97, 102, 105, 122] [1] 136 (mm_by 127).data.toList 0 = true := by decide +kernel
set_option maxRecDepth 100000 in
set_option maxHeartbeats 4000000 in
theorem mmkn_127 (pc : Nat) (h : 136 ≤ pc) : mmc_127 pc = none :=
  wz_rs h rfl (wz_rs h rfl (wz_rs h rfl (wz_rs h rfl (wz_rs h rfl (wz_rs h rfl (wz_re h rfl))))))
set_option maxRecDepth 100000 in
set_option maxHeartbeats 4000000 in
theorem mmks_127 : wz_A (wz_PS 127 mmc_127) [49, 52, 57, 60, 65, 68, 73, 76, 81, 84, 89, 92, 97, 102, 105, 122] :=
  wz_c (wz_sp (.getfield 62, [(9, 0)]) rfl (⟨_, rfl, by decide, q_207⟩)) (wz_c (wz_sp (.getfield 168, [(1, 7)]) rfl (⟨_, rfl, by decide, q_166⟩)) (wz_c (wz_sp (.getfield 62, [(9, 0)]) rfl (⟨_, rfl, by decide, q_207⟩)) (wz_c (wz_sp (.getfield 148, [(1, 12)]) rfl (⟨_, rfl, by decide, q_179⟩)) (wz_c (wz_sp (.getfield 62, [(9, 0)]) rfl (⟨_, rfl, by decide, q_207⟩)) (wz_c (wz_sp (.getfield 126, [(1, 8)]) rfl (⟨_, rfl, by decide, q_168⟩)) (wz_c (wz_sp (.getfield 62, [(9, 0)]) rfl (⟨_, rfl, by decide, q_207⟩)) (wz_c (wz_sp (.getfield 136, [(1, 9)]) rfl (⟨_, rfl, by decide, q_171⟩)) (wz_c (wz_sp (.getfield 62, [(9, 0)]) rfl (⟨_, rfl, by decide, q_207⟩)) (wz_c (wz_sp (.getfield 139, [(1, 11)]) rfl (⟨_, rfl, by decide, q_175⟩)) (wz_c (wz_sp (.getfield 62, [(9, 0)]) rfl (⟨_, rfl, by decide, q_207⟩)) (wz_c (wz_sp (.invokevirtual 158, [(1, 77)]) rfl (⟨_, rfl, q_589, q_590, q_591, rfl⟩)) (wz_c (wz_sp (.getfield 254, [(9, 6)]) rfl (⟨_, rfl, by decide, q_213⟩)) (wz_c (wz_sp (.getfield 10, [(9, 4)]) rfl (⟨_, rfl, by decide, q_211⟩)) (wz_c (wz_sp (.getfield 76, [(8, 1)]) rfl (⟨_, rfl, by decide, q_73⟩)) (wz_c (wz_sp (.getfield 20, [(9, 7)]) rfl (⟨_, rfl, by decide, q_214⟩)) (wz_n))))))))))))))))
set_option maxRecDepth 100000 in
set_option maxHeartbeats 4000000 in
theorem mmkd_127 : wz_A (wz_PD 127 mmc_127) [1] :=
  wz_c (wz_sd (.tableswitch 108 0 7 #[47, 55, 63, 71, 79, 87, 95, 100], []) 47 rfl (by decide +kernel) (Or.inr rfl)) (wz_n)
theorem mmk_127 (pc : Nat) : ∀ x, mmc_127 pc = some x → mm_K 127 pc x := wz_fin mmkn_127 mmkw_127 mmkd_127 mmks_127 pc
set_option maxRecDepth 100000 in
theorem mmkw_128 : wz_w mmc_128 [1, 9, 17, 25, 33, 41, 49, 57, 64, 72, 76, 84, 91] [7, 15, 23, 31, 39, 47, 55, 62, 70] 98 (mm_by 128).data.toList 0 = true := by decide +kernel
set_option maxRecDepth 100000 in
set_option maxHeartbeats 4000000 in
theorem mmkn_128 (pc : Nat) (h : 98 ≤ pc) : mmc_128 pc = none :=
  wz_rs h rfl (wz_rs h rfl (wz_rs h rfl (wz_rs h rfl (wz_rs h rfl (wz_re h rfl)))))
set_option maxRecDepth 100000 in
set_option maxHeartbeats 4000000 in
theorem mmks_128 : wz_A (wz_PS 128 mmc_128) [1, 9, 17, 25, 33, 41, 49, 57, 64, 72, 76, 84, 91] :=
  wz_c (wz_sp (.invokespecial 1, [(2, 0)]) rfl (⟨q_809, by decide, by decide⟩)) (wz_c (wz_sp (.putfield 9, [(10, 0), (2, 1)]) rfl (⟨_, rfl, by decide, q_810, _, rfl, Or.inl ⟨_, rfl⟩, ⟨rfl, rfl, rfl⟩⟩)) (wz_c (wz_sp (.putfield 13, [(10, 1), (2, 1)]) rfl (⟨_, rfl, by decide, q_811, _, rfl, Or.inl ⟨_, rfl⟩, ⟨rfl, rfl, rfl⟩⟩)) (wz_c (wz_sp (.putfield 16, [(10, 2), (2, 1)]) rfl (⟨_, rfl, by decide, q_812, _, rfl, Or.inl ⟨_, rfl⟩, ⟨rfl, rfl, rfl⟩⟩)) (wz_c (wz_sp (.putfield 19, [(10, 3), (2, 1)]) rfl (⟨_, rfl, by decide, q_813, _, rfl, Or.inl ⟨_, rfl⟩, ⟨rfl, rfl, rfl⟩⟩)) (wz_c (wz_sp (.putfield 22, [(10, 5), (2, 1)]) rfl (⟨_, rfl, by decide, q_815, _, rfl, Or.inl ⟨_, rfl⟩, ⟨rfl, rfl, rfl⟩⟩)) (wz_c (wz_sp (.putfield 25, [(10, 6), (2, 1)]) rfl (⟨_, rfl, by decide, q_816, _, rfl, Or.inl ⟨_, rfl⟩, ⟨rfl, rfl, rfl⟩⟩)) (wz_c (wz_sp (.putfield 28, [(10, 7), (2, 1)]) rfl (⟨_, rfl, by decide, q_817, _, rfl, Or.inl ⟨_, rfl⟩, ⟨rfl, rfl, rfl⟩⟩)) (wz_c (wz_sp (.putfield 31, [(10, 11), (2, 1)]) rfl (⟨_, rfl, by decide, q_821, _, rfl, Or.inl ⟨_, rfl⟩, ⟨rfl, rfl, rfl⟩⟩)) (wz_c (wz_sp (.putfield 34, [(10, 12), (2, 1)]) rfl (⟨_, rfl, by decide, q_822, _, rfl, Or.inl ⟨_, rfl⟩, ⟨rfl, rfl, rfl⟩⟩)) (wz_c (wz_sp (.getfield 9, [(10, 0)]) rfl (⟨_, rfl, by decide, q_810⟩)) (wz_c (wz_sp (.getfield 9, [(10, 0)]) rfl (⟨_, rfl, by decide, q_810⟩)) (wz_c (wz_sp (.getfield 9, [(10, 0)]) rfl (⟨_, rfl, by decide, q_810⟩)) (wz_n)))))))))))))
set_option maxRecDepth 100000 in
set_option maxHeartbeats 4000000 in
theorem mmkd_128 : wz_A (wz_PD 128 mmc_128) [7, 15, 23, 31, 39, 47, 55, 62, 70] :=
  wz_c (wz_sd (.newarray .int, []) 2 rfl (by decide +kernel) (Or.inl rfl)) (wz_c (wz_sd (.newarray .int, []) 2 rfl (by decide +kernel) (Or.inl rfl)) (wz_c (wz_sd (.newarray .int, []) 2 rfl (by decide +kernel) (Or.inl rfl)) (wz_c (wz_sd (.newarray .int, []) 2 rfl (by decide +kernel) (Or.inl rfl)) (wz_c (wz_sd (.newarray .int, []) 2 rfl (by decide +kernel) (Or.inl rfl)) (wz_c (wz_sd (.newarray .int, []) 2 rfl (by decide +kernel) (Or.inl rfl)) (wz_c (wz_sd (.newarray .int, []) 2 rfl (by decide +kernel) (Or.inl rfl)) (wz_c (wz_sd (.newarray .int, []) 2 rfl (by decide +kernel) (Or.inl rfl)) (wz_c (wz_sd (.newarray .int, []) 2 rfl (by decide +kernel) (Or.inl rfl)) (wz_n)))))))))
theorem mmk_128 (pc : Nat) : ∀ x, mmc_128 pc = some x → mm_K 128 pc x := wz_fin mmkn_128 mmkw_128 mmkd_128 mmks_128 pc
set_option maxRecDepth 100000 in
theorem mmkw_129 : wz_w mmc_129 [7, 19, 30, 35, 39, 46, 51, 55] [] 59 (mm_by 129).data.toList 0 = true := by decide +kernel
set_option maxRecDepth 100000 in
set_option maxHeartbeats 4000000 in
theorem mmkn_129 (pc : Nat) (h : 59 ≤ pc) : mmc_129 pc = none :=
  wz_rs h rfl (wz_rs h rfl (wz_rs h rfl (wz_rs h rfl (wz_rs h rfl (wz_re h rfl)))))
set_option maxRecDepth 100000 in
set_option maxHeartbeats 4000000 in
theorem mmks_129 : wz_A (wz_PS 129 mmc_129) [7, 19, 30, 35, 39, 46, 51, 55] :=
  wz_c (wz_sp (.invokevirtual 39, [(10, 130)]) rfl (⟨_, rfl, q_857, q_859, q_18, rfl⟩)) (wz_c (wz_sp (.getfield 89, [(10, 8)]) rfl (⟨_, rfl, by decide, q_818⟩)) (wz_c (wz_sp (.invokevirtual 39, [(10, 130)]) rfl (⟨_, rfl, q_857, q_859, q_18, rfl⟩)) (wz_c (wz_sp (.getfield 22, [(10, 5)]) rfl (⟨_, rfl, by decide, q_815⟩)) (wz_c (wz_sp (.getfield 89, [(10, 8)]) rfl (⟨_, rfl, by decide, q_818⟩)) (wz_c (wz_sp (.getfield 89, [(10, 8)]) rfl (⟨_, rfl, by decide, q_818⟩)) (wz_c (wz_sp (.putfield 89, [(10, 8), (0, 0)]) rfl (⟨_, rfl, by decide, q_818, _, rfl, rfl, rfl⟩)) (wz_c (wz_sp (.getfield 89, [(10, 8)]) rfl (⟨_, rfl, by decide, q_818⟩)) (wz_n))))))))
set_option maxRecDepth 100000 in
set_option maxHeartbeats 4000000 in
theorem mmkd_129 : wz_A (wz_PD 129 mmc_129) [] :=
  wz_n
theorem mmk_129 (pc : Nat) : ∀ x, mmc_129 pc = some x → mm_K 129 pc x := wz_fin mmkn_129 mmkw_129 mmkd_129 mmks_129 pc
set_option maxRecDepth 100000 in
theorem mmkw_130 : wz_w mmc_130 [1] [5] 13 (mm_by 130).data.toList 0 = true := by decide +kernel
set_option maxRecDepth 100000 in
set_option maxHeartbeats 4000000 in
theorem mmkn_130 (pc : Nat) (h : 13 ≤ pc) : mmc_130 pc = none :=
  wz_rs h rfl (wz_rs h rfl (wz_rs h rfl (wz_rs h rfl (wz_re h rfl))))
set_option maxRecDepth 100000 in
set_option maxHeartbeats 4000000 in
theorem mmks_130 : wz_A (wz_PS 130 mmc_130) [1] :=
  wz_c (wz_sp (.getfield 28, [(10, 7)]) rfl (⟨_, rfl, by decide, q_817⟩)) (wz_n)
set_option maxRecDepth 100000 in
set_option maxHeartbeats 4000000 in
theorem mmkd_130 : wz_A (wz_PD 130 mmc_130) [5] :=
  wz_c (wz_sd (.ineg, []) 1 rfl (by decide +kernel) (Or.inl rfl)) (wz_n)
theorem mmk_130 (pc : Nat) : ∀ x, mmc_130 pc = some x → mm_K 130 pc x := wz_fin mmkn_130 mmkw_130 mmkd_130 mmks_130 pc
set_option maxRecDepth 100000 in
theorem mmkw_131 : wz_w mmc_131 [2, 11, 21, 36, 40, 47, 51, 54, 59, 69, 73, 80, 85, 91, 99, 115, 119, 122, 130] [] 145 (mm_by 131).data.toList 0 = true := by decide +kernel
set_option maxRecDepth 100000 in
set_option maxHeartbeats 4000000 in
theorem mmkn_131 (pc : Nat) (h : 145 ≤ pc) : mmc_131 pc = none :=
  wz_rs h rfl (wz_rs h rfl (wz_rs h rfl (wz_rs h rfl (wz_rs h rfl (wz_rs h rfl (wz_rs h rfl (wz_re h rfl)))))))
set_option maxRecDepth 100000 in
set_option maxHeartbeats 4000000 in
theorem mmks_131 : wz_A (wz_PS 131 mmc_131) [2, 11, 21, 36, 40, 47, 51, 54, 59, 69, 73, 80, 85, 91, 99, 115, 119, 122, 130] :=
  wz_c (wz_sp (.putfield 93, [(10, 10), (0, 0)]) rfl (⟨_, rfl, by decide, q_820, _, rfl, rfl, rfl⟩)) (wz_c (wz_sp (.invokevirtual 120, [(10, 132)]) rfl (⟨_, rfl, q_865, q_867, q_19, rfl⟩)) (wz_c (wz_sp (.getfield 93, [(10, 10)]) rfl (⟨_, rfl, by decide, q_820⟩)) (wz_c (wz_sp (.getfield 93, [(10, 10)]) rfl (⟨_, rfl, by decide, q_820⟩)) (wz_c (wz_sp (.getfield 89, [(10, 8)]) rfl (⟨_, rfl, by decide, q_818⟩)) (wz_c (wz_sp (.getfield 9, [(10, 0)]) rfl (⟨_, rfl, by decide, q_810⟩)) (wz_c (wz_sp (.getfield 19, [(10, 3)]) rfl (⟨_, rfl, by decide, q_813⟩)) (wz_c (wz_sp (.invokestatic 123, [(0, 138)]) rfl (⟨Or.inl q_887, q_888, rfl⟩)) (wz_c (wz_sp (.putfield 93, [(10, 10), (0, 0)]) rfl (⟨_, rfl, by decide, q_820, _, rfl, rfl, rfl⟩)) (wz_c (wz_sp (.getfield 93, [(10, 10)]) rfl (⟨_, rfl, by decide, q_820⟩)) (wz_c (wz_sp (.getfield 89, [(10, 8)]) rfl (⟨_, rfl, by decide, q_818⟩)) (wz_c (wz_sp (.getfield 93, [(10, 10)]) rfl (⟨_, rfl, by decide, q_820⟩)) (wz_c (wz_sp (.invokevirtual 96, [(10, 133)]) rfl (⟨_, rfl, q_869, q_871, q_20, rfl⟩)) (wz_c (wz_sp (.invokevirtual 120, [(10, 132)]) rfl (⟨_, rfl, q_865, q_867, q_19, rfl⟩)) (wz_c (wz_sp (.invokevirtual 127, [(10, 139)]) rfl (⟨_, rfl, q_890, q_892, q_23, rfl⟩)) (wz_c (wz_sp (.getfield 19, [(10, 3)]) rfl (⟨_, rfl, by decide, q_813⟩)) (wz_c (wz_sp (.getfield 9, [(10, 0)]) rfl (⟨_, rfl, by decide, q_810⟩)) (wz_c (wz_sp (.invokestatic 123, [(0, 138)]) rfl (⟨Or.inl q_887, q_888, rfl⟩)) (wz_c (wz_sp (.putfield 89, [(10, 8), (0, 0)]) rfl (⟨_, rfl, by decide, q_818, _, rfl, rfl, rfl⟩)) (wz_n)))))))))))))))))))
set_option maxRecDepth 100000 in
set_option maxHeartbeats 4000000 in
theorem mmkd_131 : wz_A (wz_PD 131 mmc_131) [] :=
  wz_n
theorem mmk_131 (pc : Nat) : ∀ x, mmc_131 pc = some x → mm_K 131 pc x := wz_fin mmkn_131 mmkw_131 mmkd_131 mmks_131 pc
set_option maxRecDepth 100000 in
theorem mmkw_132 : wz_w mmc_132 [1, 7, 12, 127, 136, 154, 162, 171, 189, 198, 203, 213, 225, 230] [16] 235 (mm_by 132).data.toList 0 = true := by decide +kernel
set_option maxRecDepth 100000 in
set_option maxHeartbeats 4000000 in
theorem mmkn_132 (pc : Nat) (h : 235 ≤ pc) : mmc_132 pc = none :=
  wz_rs h rfl (wz_rs h rfl (wz_rs h rfl (wz_rs h rfl (wz_rs h rfl (wz_rs h rfl (wz_rs h rfl (wz_re h rfl)))))))
set_option maxRecDepth 100000 in
set_option maxHeartbeats 4000000 in
theorem mmks_132 : wz_A (wz_PS 132 mmc_132) [1, 7, 12, 127, 136, 154, 162, 171, 189, 198, 203, 213, 225, 230] :=
  wz_c (wz_sp (.invokevirtual 96, [(10, 133)]) rfl (⟨_, rfl, q_869, q_871, q_20, rfl⟩)) (wz_c (wz_sp (.getfield 93, [(10, 10)]) rfl (⟨_, rfl, by decide, q_820⟩)) (wz_c (wz_sp (.putfield 93, [(10, 10), (0, 0)]) rfl (⟨_, rfl, by decide, q_820, _, rfl, rfl, rfl⟩)) (wz_c (wz_sp (.invokevirtual 103, [(10, 134)]) rfl (⟨_, rfl, q_873, q_875, q_21, rfl⟩)) (wz_c (wz_sp (.invokevirtual 103, [(10, 134)]) rfl (⟨_, rfl, q_873, q_875, q_21, rfl⟩)) (wz_c (wz_sp (.invokevirtual 103, [(10, 134)]) rfl (⟨_, rfl, q_873, q_875, q_21, rfl⟩)) (wz_c (wz_sp (.invokevirtual 106, [(10, 136)]) rfl (⟨_, rfl, q_880, q_882, q_22, rfl⟩)) (wz_c (wz_sp (.invokevirtual 103, [(10, 134)]) rfl (⟨_, rfl, q_873, q_875, q_21, rfl⟩)) (wz_c (wz_sp (.invokevirtual 103, [(10, 134)]) rfl (⟨_, rfl, q_873, q_875, q_21, rfl⟩)) (wz_c (wz_sp (.getfield 93, [(10, 10)]) rfl (⟨_, rfl, by decide, q_820⟩)) (wz_c (wz_sp (.putfield 93, [(10, 10), (0, 0)]) rfl (⟨_, rfl, by decide, q_820, _, rfl, rfl, rfl⟩)) (wz_c (wz_sp (.invokevirtual 96, [(10, 133)]) rfl (⟨_, rfl, q_869, q_871, q_20, rfl⟩)) (wz_c (wz_sp (.getfield 93, [(10, 10)]) rfl (⟨_, rfl, by decide, q_820⟩)) (wz_c (wz_sp (.putfield 93, [(10, 10), (0, 0)]) rfl (⟨_, rfl, by decide, q_820, _, rfl, rfl, rfl⟩)) (wz_n))))))))))))))
set_option maxRecDepth 100000 in
set_option maxHeartbeats 4000000 in
theorem mmkd_132 : wz_A (wz_PD 132 mmc_132) [16] :=
  wz_c (wz_sd (.tableswitch 180 98 120 #[135, 108, 180, 180, 180, 135, 180, 180, 180, 135, 180, 145, 180, 180, 180, 180, 180, 135, 180, 180, 180, 135, 170], []) 108 rfl (by decide +kernel) (Or.inr rfl)) (wz_n)
theorem mmk_132 (pc : Nat) : ∀ x, mmc_132 pc = some x → mm_K 132 pc x := wz_fin mmkn_132 mmkw_132 mmkd_132 mmks_132 pc
set_option maxRecDepth 100000 in
theorem mmkw_133 : wz_w mmc_133 [1, 5, 12, 16] [] 25 (mm_by 133).data.toList 0 = true := by decide +kernel
set_option maxRecDepth 100000 in
set_option maxHeartbeats 4000000 in
theorem mmkn_133 (pc : Nat) (h : 25 ≤ pc) : mmc_133 pc = none :=
  wz_rs h rfl (wz_rs h rfl (wz_rs h rfl (wz_rs h rfl (wz_re h rfl))))
set_option maxRecDepth 100000 in
set_option maxHeartbeats 4000000 in
theorem mmks_133 : wz_A (wz_PS 133 mmc_133) [1, 5, 12, 16] :=
  wz_c (wz_sp (.getfield 93, [(10, 10)]) rfl (⟨_, rfl, by decide, q_820⟩)) (wz_c (wz_sp (.getfield 89, [(10, 8)]) rfl (⟨_, rfl, by decide, q_818⟩)) (wz_c (wz_sp (.getfield 22, [(10, 5)]) rfl (⟨_, rfl, by decide, q_815⟩)) (wz_c (wz_sp (.getfield 93, [(10, 10)]) rfl (⟨_, rfl, by decide, q_820⟩)) (wz_n))))
set_option maxRecDepth 100000 in
set_option maxHeartbeats 4000000 in
theorem mmkd_133 : wz_A (wz_PD 133 mmc_133) [] :=
  wz_n
theorem mmk_133 (pc : Nat) : ∀ x, mmc_133 pc = some x → mm_K 133 pc x := wz_fin mmkn_133 mmkw_133 mmkd_133 mmks_133 pc
set_option maxRecDepth 100000 in
theorem mmkw_134 : wz_w mmc_134 [1, 15, 22, 31, 38, 45, 55, 60] [] 71 (mm_by 134).data.toList 0 = true := by decide +kernel
set_option maxRecDepth 100000 in
set_option maxHeartbeats 4000000 in
theorem mmkn_134 (pc : Nat) (h : 71 ≤ pc) : mmc_134 pc = none :=
  wz_rs h rfl (wz_rs h rfl (wz_rs h rfl (wz_rs h rfl (wz_rs h rfl (wz_rs h rfl (wz_re h rfl))))))
set_option maxRecDepth 100000 in
set_option maxHeartbeats 4000000 in
theorem mmks_134 : wz_A (wz_PS 134 mmc_134) [1, 15, 22, 31, 38, 45, 55, 60] :=
  wz_c (wz_sp (.getfield 31, [(10, 11)]) rfl (⟨_, rfl, by decide, q_821⟩)) (wz_c (wz_sp (.invokevirtual 96, [(10, 133)]) rfl (⟨_, rfl, q_869, q_871, q_20, rfl⟩)) (wz_c (wz_sp (.invokestatic 43, [(0, 135)]) rfl (⟨Or.inl q_877, q_878, rfl⟩)) (wz_c (wz_sp (.getfield 31, [(10, 11)]) rfl (⟨_, rfl, by decide, q_821⟩)) (wz_c (wz_sp (.getfield 31, [(10, 11)]) rfl (⟨_, rfl, by decide, q_821⟩)) (wz_c (wz_sp (.invokevirtual 96, [(10, 133)]) rfl (⟨_, rfl, q_869, q_871, q_20, rfl⟩)) (wz_c (wz_sp (.getfield 93, [(10, 10)]) rfl (⟨_, rfl, by decide, q_820⟩)) (wz_c (wz_sp (.putfield 93, [(10, 10), (0, 0)]) rfl (⟨_, rfl, by decide, q_820, _, rfl, rfl, rfl⟩)) (wz_n))))))))
set_option maxRecDepth 100000 in
set_option maxHeartbeats 4000000 in
theorem mmkd_134 : wz_A (wz_PD 134 mmc_134) [] :=
  wz_n
theorem mmk_134 (pc : Nat) : ∀ x, mmc_134 pc = some x → mm_K 134 pc x := wz_fin mmkn_134 mmkw_134 mmkd_134 mmks_134 pc
set_option maxRecDepth 100000 in
theorem mmkw_135 : wz_w mmc_135 [] [] 16 (mm_by 135).data.toList 0 = true := by decide +kernel
set_option maxRecDepth 100000 in
set_option maxHeartbeats 4000000 in
theorem mmkn_135 (pc : Nat) (h : 16 ≤ pc) : mmc_135 pc = none :=
  wz_rs h rfl (wz_rs h rfl (wz_rs h rfl (wz_rs h rfl (wz_re h rfl))))
set_option maxRecDepth 100000 in
set_option maxHeartbeats 4000000 in
theorem mmks_135 : wz_A (wz_PS 135 mmc_135) [] :=
  wz_n
set_option maxRecDepth 100000 in
set_option maxHeartbeats 4000000 in
theorem mmkd_135 : wz_A (wz_PD 135 mmc_135) [] :=
  wz_n
theorem mmk_135 (pc : Nat) : ∀ x, mmc_135 pc = some x → mm_K 135 pc x := wz_fin mmkn_135 mmkw_135 mmkd_135 mmks_135 pc
set_option maxRecDepth 100000 in
theorem mmkw_136 : wz_w mmc_136 [1, 6, 9, 15, 19, 33, 37] [] 51 (mm_by 136).data.toList 0 = true := by decide +kernel
set_option maxRecDepth 100000 in
set_option maxHeartbeats 4000000 in
theorem mmkn_136 (pc : Nat) (h : 51 ≤ pc) : mmc_136 pc = none :=
  wz_rs h rfl (wz_rs h rfl (wz_rs h rfl (wz_rs h rfl (wz_rs h rfl (wz_re h rfl)))))
set_option maxRecDepth 100000 in
set_option maxHeartbeats 4000000 in
theorem mmks_136 : wz_A (wz_PS 136 mmc_136) [1, 6, 9, 15, 19, 33, 37] :=
  wz_c (wz_sp (.getfield 31, [(10, 11)]) rfl (⟨_, rfl, by decide, q_821⟩)) (wz_c (wz_sp (.invokevirtual 96, [(10, 133)]) rfl (⟨_, rfl, q_869, q_871, q_20, rfl⟩)) (wz_c (wz_sp (.invokestatic 100, [(0, 137)]) rfl (⟨Or.inl q_884, q_885, rfl⟩)) (wz_c (wz_sp (.getfield 93, [(10, 10)]) rfl (⟨_, rfl, by decide, q_820⟩)) (wz_c (wz_sp (.getfield 31, [(10, 11)]) rfl (⟨_, rfl, by decide, q_821⟩)) (wz_c (wz_sp (.putfield 93, [(10, 10), (0, 0)]) rfl (⟨_, rfl, by decide, q_820, _, rfl, rfl, rfl⟩)) (wz_c (wz_sp (.getfield 31, [(10, 11)]) rfl (⟨_, rfl, by decide, q_821⟩)) (wz_n)))))))
set_option maxRecDepth 100000 in
set_option maxHeartbeats 4000000 in
theorem mmkd_136 : wz_A (wz_PD 136 mmc_136) [] :=
  wz_n
theorem mmk_136 (pc : Nat) : ∀ x, mmc_136 pc = some x → mm_K 136 pc x := wz_fin mmkn_136 mmkw_136 mmkd_136 mmks_136 pc
set_option maxRecDepth 100000 in
theorem mmkw_137 : wz_w mmc_137 [] [1] 95 (mm_by 137).data.toList 0 = true := by decide +kernel
set_option maxRecDepth 100000 in
set_option maxHeartbeats 4000000 in
theorem mmkn_137 (pc : Nat) (h : 95 ≤ pc) : mmc_137 pc = none :=
  wz_rs h rfl (wz_rs h rfl (wz_rs h rfl (wz_rs h rfl (wz_re h rfl))))
set_option maxRecDepth 100000 in
set_option maxHeartbeats 4000000 in
theorem mmks_137 : wz_A (wz_PS 137 mmc_137) [] :=
  wz_n
set_option maxRecDepth 100000 in
set_option maxHeartbeats 4000000 in
theorem mmkd_137 : wz_A (wz_PD 137 mmc_137) [1] :=
  wz_c (wz_sd (.tableswitch 91 100 115 #[85, 91, 91, 91, 91, 91, 91, 91, 81, 79, 91, 89, 91, 91, 87, 83], []) 79 rfl (by decide +kernel) (Or.inr rfl)) (wz_n)
theorem mmk_137 (pc : Nat) : ∀ x, mmc_137 pc = some x → mm_K 137 pc x := wz_fin mmkn_137 mmkw_137 mmkd_137 mmks_137 pc
set_option maxRecDepth 100000 in
theorem mmkw_138 : wz_w mmc_138 [] [] 21 (mm_by 138).data.toList 0 = true := by decide +kernel
set_option maxRecDepth 100000 in
set_option maxHeartbeats 4000000 in
theorem mmkn_138 (pc : Nat) (h : 21 ≤ pc) : mmc_138 pc = none :=
  wz_rs h rfl (wz_rs h rfl (wz_rs h rfl (wz_rs h rfl (wz_re h rfl))))
set_option maxRecDepth 100000 in
set_option maxHeartbeats 4000000 in
theorem mmks_138 : wz_A (wz_PS 138 mmc_138) [] :=
  wz_n
set_option maxRecDepth 100000 in
set_option maxHeartbeats 4000000 in
theorem mmkd_138 : wz_A (wz_PD 138 mmc_138) [] :=
  wz_n
theorem mmk_138 (pc : Nat) : ∀ x, mmc_138 pc = some x → mm_K 138 pc x := wz_fin mmkn_138 mmkw_138 mmkd_138 mmks_138 pc
set_option maxRecDepth 100000 in
theorem mmkw_139 : wz_w mmc_139 [1, 117, 126, 134, 143, 152, 167, 179, 183, 189, 195, 199, 205, 209, 216, 220, 226, 232, 238, 245, 252, 264, 273, 292, 312, 321, 325, 334, 341, 357, 361] [8, 162] 366 (mm_by 139).data.toList 0 = true := by decide +kernel
set_option maxRecDepth 100000 in
set_option maxHeartbeats 4000000 in
theorem mmkn_139 (pc : Nat) (h : 366 ≤ pc) : mmc_139 pc = none :=
  wz_rs h rfl (wz_rs h rfl (wz_rs h rfl (wz_rs h rfl (wz_rs h rfl (wz_rs h rfl (wz_rs h rfl (wz_re h rfl)))))))
set_option maxRecDepth 100000 in
set_option maxHeartbeats 4000000 in
theorem mmks_139 : wz_A (wz_PS 139 mmc_139) [1, 117, 126, 134, 143, 152, 167, 179, 183, 189, 195, 199, 205, 209, 216, 220, 226, 232, 238, 245, 252, 264, 273, 292, 312, 321, 325, 334, 341, 357, 361] :=
  wz_c (wz_sp (.getfield 31, [(10, 11)]) rfl (⟨_, rfl, by decide, q_821⟩)) (wz_c (wz_sp (.invokestatic 110, [(0, 140)]) rfl (⟨Or.inl q_894, q_895, rfl⟩)) (wz_c (wz_sp (.getfield 9, [(10, 0)]) rfl (⟨_, rfl, by decide, q_810⟩)) (wz_c (wz_sp (.getfield 31, [(10, 11)]) rfl (⟨_, rfl, by decide, q_821⟩)) (wz_c (wz_sp (.invokestatic 110, [(0, 140)]) rfl (⟨Or.inl q_894, q_895, rfl⟩)) (wz_c (wz_sp (.getfield 9, [(10, 0)]) rfl (⟨_, rfl, by decide, q_810⟩)) (wz_c (wz_sp (.getfield 9, [(10, 0)]) rfl (⟨_, rfl, by decide, q_810⟩)) (wz_c (wz_sp (.getfield 9, [(10, 0)]) rfl (⟨_, rfl, by decide, q_810⟩)) (wz_c (wz_sp (.getfield 9, [(10, 0)]) rfl (⟨_, rfl, by decide, q_810⟩)) (wz_c (wz_sp (.invokestatic 47, [(0, 141)]) rfl (⟨Or.inl q_897, q_898, rfl⟩)) (wz_c (wz_sp (.getfield 9, [(10, 0)]) rfl (⟨_, rfl, by decide, q_810⟩)) (wz_c (wz_sp (.getfield 9, [(10, 0)]) rfl (⟨_, rfl, by decide, q_810⟩)) (wz_c (wz_sp (.invokestatic 47, [(0, 141)]) rfl (⟨Or.inl q_897, q_898, rfl⟩)) (wz_c (wz_sp (.getfield 31, [(10, 11)]) rfl (⟨_, rfl, by decide, q_821⟩)) (wz_c (wz_sp (.getfield 9, [(10, 0)]) rfl (⟨_, rfl, by decide, q_810⟩)) (wz_c (wz_sp (.getfield 9, [(10, 0)]) rfl (⟨_, rfl, by decide, q_810⟩)) (wz_c (wz_sp (.invokestatic 47, [(0, 141)]) rfl (⟨Or.inl q_897, q_898, rfl⟩)) (wz_c (wz_sp (.getfield 9, [(10, 0)]) rfl (⟨_, rfl, by decide, q_810⟩)) (wz_c (wz_sp (.getfield 9, [(10, 0)]) rfl (⟨_, rfl, by decide, q_810⟩)) (wz_c (wz_sp (.getfield 9, [(10, 0)]) rfl (⟨_, rfl, by decide, q_810⟩)) (wz_c (wz_sp (.getfield 9, [(10, 0)]) rfl (⟨_, rfl, by decide, q_810⟩)) (wz_c (wz_sp (.invokestatic 110, [(0, 140)]) rfl (⟨Or.inl q_894, q_895, rfl⟩)) (wz_c (wz_sp (.getfield 9, [(10, 0)]) rfl (⟨_, rfl, by decide, q_810⟩)) (wz_c (wz_sp (.getfield 9, [(10, 0)]) rfl (⟨_, rfl, by decide, q_810⟩)) (wz_c (wz_sp (.invokevirtual 114, [(10, 142)]) rfl (⟨_, rfl, q_900, q_902, q_24, rfl⟩)) (wz_c (wz_sp (.getfield 9, [(10, 0)]) rfl (⟨_, rfl, by decide, q_810⟩)) (wz_c (wz_sp (.invokestatic 82, [(0, 143)]) rfl (⟨Or.inl q_904, q_905, rfl⟩)) (wz_c (wz_sp (.invokestatic 43, [(0, 135)]) rfl (⟨Or.inl q_877, q_878, rfl⟩)) (wz_c (wz_sp (.getfield 9, [(10, 0)]) rfl (⟨_, rfl, by decide, q_810⟩)) (wz_c (wz_sp (.getfield 9, [(10, 0)]) rfl (⟨_, rfl, by decide, q_810⟩)) (wz_c (wz_sp (.invokestatic 117, [(0, 145)]) rfl (⟨Or.inl q_910, q_911, rfl⟩)) (wz_n)))))))))))))))))))))))))))))))
set_option maxRecDepth 100000 in
set_option maxHeartbeats 4000000 in
theorem mmkd_139 : wz_A (wz_PD 139 mmc_139) [8, 162] :=
  wz_c (wz_sd (.tableswitch 322 98 120 #[255, 108, 322, 322, 322, 255, 322, 322, 322, 134, 322, 158, 322, 322, 322, 322, 322, 322, 322, 322, 322, 283, 302], []) 108 rfl (by decide +kernel) (Or.inr rfl)) (wz_c (wz_sd (.ixor, []) 1 rfl (by decide +kernel) (Or.inl rfl)) (wz_n))
theorem mmk_139 (pc : Nat) : ∀ x, mmc_139 pc = some x → mm_K 139 pc x := wz_fin mmkn_139 mmkw_139 mmkd_139 mmks_139 pc
set_option maxRecDepth 100000 in
theorem mmkw_140 : wz_w mmc_140 [4] [] 8 (mm_by 140).data.toList 0 = true := by decide +kernel
set_option maxRecDepth 100000 in
set_option maxHeartbeats 4000000 in
theorem mmkn_140 (pc : Nat) (h : 8 ≤ pc) : mmc_140 pc = none :=
  wz_rs h rfl (wz_rs h rfl (wz_rs h rfl (wz_re h rfl)))
set_option maxRecDepth 100000 in
set_option maxHeartbeats 4000000 in
theorem mmks_140 : wz_A (wz_PS 140 mmc_140) [4] :=
  wz_c (wz_sp (.invokestatic 43, [(0, 135)]) rfl (⟨Or.inl q_877, q_878, rfl⟩)) (wz_n)
set_option maxRecDepth 100000 in
set_option maxHeartbeats 4000000 in
theorem mmkd_140 : wz_A (wz_PD 140 mmc_140) [] :=
  wz_n
theorem mmk_140 (pc : Nat) : ∀ x, mmc_140 pc = some x → mm_K 140 pc x := wz_fin mmkn_140 mmkw_140 mmkd_140 mmks_140 pc
set_option maxRecDepth 100000 in
theorem mmkw_141 : wz_w mmc_141 [] [] 9 (mm_by 141).data.toList 0 = true := by decide +kernel
set_option maxRecDepth 100000 in
set_option maxHeartbeats 4000000 in
theorem mmkn_141 (pc : Nat) (h : 9 ≤ pc) : mmc_141 pc = none :=
  wz_rs h rfl (wz_rs h rfl (wz_rs h rfl (wz_re h rfl)))
set_option maxRecDepth 100000 in
set_option maxHeartbeats 4000000 in
theorem mmks_141 : wz_A (wz_PS 141 mmc_141) [] :=
  wz_n
set_option maxRecDepth 100000 in
set_option maxHeartbeats 4000000 in
theorem mmkd_141 : wz_A (wz_PD 141 mmc_141) [] :=
  wz_n
theorem mmk_141 (pc : Nat) : ∀ x, mmc_141 pc = some x → mm_K 141 pc x := wz_fin mmkn_141 mmkw_141 mmkd_141 mmks_141 pc
set_option maxRecDepth 100000 in
theorem mmkw_142 : wz_w mmc_142 [3, 10] [] 14 (mm_by 142).data.toList 0 = true := by decide +kernel
set_option maxRecDepth 100000 in
set_option maxHeartbeats 4000000 in
theorem mmkn_142 (pc : Nat) (h : 14 ≤ pc) : mmc_142 pc = none :=
  wz_rs h rfl (wz_rs h rfl (wz_rs h rfl (wz_rs h rfl (wz_re h rfl))))
set_option maxRecDepth 100000 in
set_option maxHeartbeats 4000000 in
theorem mmks_142 : wz_A (wz_PS 142 mmc_142) [3, 10] :=
  wz_c (wz_sp (.getfield 9, [(10, 0)]) rfl (⟨_, rfl, by decide, q_810⟩)) (wz_c (wz_sp (.invokestatic 43, [(0, 135)]) rfl (⟨Or.inl q_877, q_878, rfl⟩)) (wz_n))
set_option maxRecDepth 100000 in
set_option maxHeartbeats 4000000 in
theorem mmkd_142 : wz_A (wz_PD 142 mmc_142) [] :=
  wz_n
theorem mmk_142 (pc : Nat) : ∀ x, mmc_142 pc = some x → mm_K 142 pc x := wz_fin mmkn_142 mmkw_142 mmkd_142 mmks_142 pc
set_option maxRecDepth 100000 in
theorem mmkw_143 : wz_w mmc_143 [2] [] 47 (mm_by 143).data.toList 0 = true := by decide +kernel
set_option maxRecDepth 100000 in
set_option maxHeartbeats 4000000 in
theorem mmkn_143 (pc : Nat) (h : 47 ≤ pc) : mmc_143 pc = none :=
  wz_rs h rfl (wz_rs h rfl (wz_rs h rfl (wz_rs h rfl (wz_re h rfl))))
set_option maxRecDepth 100000 in
set_option maxHeartbeats 4000000 in
theorem mmks_143 : wz_A (wz_PS 143 mmc_143) [2] :=
  wz_c (wz_sp (.invokestatic 65, [(0, 144)]) rfl (⟨Or.inl q_907, q_908, rfl⟩)) (wz_n)
set_option maxRecDepth 100000 in
set_option maxHeartbeats 4000000 in
theorem mmkd_143 : wz_A (wz_PD 143 mmc_143) [] :=
  wz_n
theorem mmk_143 (pc : Nat) : ∀ x, mmc_143 pc = some x → mm_K 143 pc x := wz_fin mmkn_143 mmkw_143 mmkd_143 mmks_143 pc
set_option maxRecDepth 100000 in
theorem mmkw_144 : wz_w mmc_144 [] [] 20 (mm_by 144).data.toList 0 = true := by decide +kernel
set_option maxRecDepth 100000 in
set_option maxHeartbeats 4000000 in
theorem mmkn_144 (pc : Nat) (h : 20 ≤ pc) : mmc_144 pc = none :=
  wz_rs h rfl (wz_rs h rfl (wz_rs h rfl (wz_rs h rfl (wz_re h rfl))))
set_option maxRecDepth 100000 in
set_option maxHeartbeats 4000000 in
theorem mmks_144 : wz_A (wz_PS 144 mmc_144) [] :=
  wz_n
set_option maxRecDepth 100000 in
set_option maxHeartbeats 4000000 in
theorem mmkd_144 : wz_A (wz_PD 144 mmc_144) [] :=
  wz_n
theorem mmk_144 (pc : Nat) : ∀ x, mmc_144 pc = some x → mm_K 144 pc x := wz_fin mmkn_144 mmkw_144 mmkd_144 mmks_144 pc
set_option maxRecDepth 100000 in
theorem mmkw_145 : wz_w mmc_145 [9] [] 19 (mm_by 145).data.toList 0 = true := by decide +kernel
set_option maxRecDepth 100000 in
set_option maxHeartbeats 4000000 in
theorem mmkn_145 (pc : Nat) (h : 19 ≤ pc) : mmc_145 pc = none :=
  wz_rs h rfl (wz_rs h rfl (wz_rs h rfl (wz_rs h rfl (wz_re h rfl))))
set_option maxRecDepth 100000 in
set_option maxHeartbeats 4000000 in
theorem mmks_145 : wz_A (wz_PS 145 mmc_145) [9] :=
  wz_c (wz_sp (.invokestatic 86, [(0, 146)]) rfl (⟨Or.inl q_913, q_914, rfl⟩)) (wz_n)
set_option maxRecDepth 100000 in
set_option maxHeartbeats 4000000 in
theorem mmkd_145 : wz_A (wz_PD 145 mmc_145) [] :=
  wz_n
theorem mmk_145 (pc : Nat) : ∀ x, mmc_145 pc = some x → mm_K 145 pc x := wz_fin mmkn_145 mmkw_145 mmkd_145 mmks_145 pc
set_option maxRecDepth 100000 in
theorem mmkw_146 : wz_w mmc_146 [33, 41, 55, 62, 71, 79, 85, 91] [] 105 (mm_by 146).data.toList 0 = true := by decide +kernel
set_option maxRecDepth 100000 in
set_option maxHeartbeats 4000000 in
theorem mmkn_146 (pc : Nat) (h : 105 ≤ pc) : mmc_146 pc = none :=
  wz_rs h rfl (wz_rs h rfl (wz_rs h rfl (wz_rs h rfl (wz_rs h rfl (wz_rs h rfl (wz_rs h rfl (wz_re h rfl)))))))
set_option maxRecDepth 100000 in
set_option maxHeartbeats 4000000 in
theorem mmks_146 : wz_A (wz_PS 146 mmc_146) [33, 41, 55, 62, 71, 79, 85, 91] :=
  wz_c (wz_sp (.invokestatic 69, [(0, 147)]) rfl (⟨Or.inl q_916, q_917, rfl⟩)) (wz_c (wz_sp (.invokestatic 58, [(0, 149)]) rfl (⟨Or.inl q_922, q_923, rfl⟩)) (wz_c (wz_sp (.invokestatic 73, [(0, 150)]) rfl (⟨Or.inl q_925, q_926, rfl⟩)) (wz_c (wz_sp (.invokestatic 76, [(0, 152)]) rfl (⟨Or.inl q_931, q_932, rfl⟩)) (wz_c (wz_sp (.invokestatic 47, [(0, 141)]) rfl (⟨Or.inl q_897, q_898, rfl⟩)) (wz_c (wz_sp (.invokestatic 47, [(0, 141)]) rfl (⟨Or.inl q_897, q_898, rfl⟩)) (wz_c (wz_sp (.invokestatic 79, [(0, 154)]) rfl (⟨Or.inl q_937, q_938, rfl⟩)) (wz_c (wz_sp (.invokestatic 82, [(0, 143)]) rfl (⟨Or.inl q_904, q_905, rfl⟩)) (wz_n))))))))
set_option maxRecDepth 100000 in
set_option maxHeartbeats 4000000 in
theorem mmkd_146 : wz_A (wz_PD 146 mmc_146) [] :=
  wz_n
theorem mmk_146 (pc : Nat) : ∀ x, mmc_146 pc = some x → mm_K 146 pc x := wz_fin mmkn_146 mmkw_146 mmkd_146 mmks_146 pc
set_option maxRecDepth 100000 in
theorem mmkw_147 : wz_w mmc_147 [1, 28, 44, 128] [48] 148 (mm_by 147).data.toList 0 = true := by decide +kernel
set_option maxRecDepth 100000 in
set_option maxHeartbeats 4000000 in
theorem mmkn_147 (pc : Nat) (h : 148 ≤ pc) : mmc_147 pc = none :=
  wz_rs h rfl (wz_rs h rfl (wz_rs h rfl (wz_rs h rfl (wz_rs h rfl (wz_rs h rfl (wz_rs h rfl (wz_re h rfl)))))))
set_option maxRecDepth 100000 in
set_option maxHeartbeats 4000000 in
theorem mmks_147 : wz_A (wz_PS 147 mmc_147) [1, 28, 44, 128] :=
  wz_c (wz_sp (.invokestatic 54, [(0, 148)]) rfl (⟨Or.inl q_919, q_920, rfl⟩)) (wz_c (wz_sp (.invokestatic 58, [(0, 149)]) rfl (⟨Or.inl q_922, q_923, rfl⟩)) (wz_c (wz_sp (.invokestatic 47, [(0, 141)]) rfl (⟨Or.inl q_897, q_898, rfl⟩)) (wz_c (wz_sp (.invokestatic 58, [(0, 149)]) rfl (⟨Or.inl q_922, q_923, rfl⟩)) (wz_n))))
set_option maxRecDepth 100000 in
set_option maxHeartbeats 4000000 in
theorem mmkd_147 : wz_A (wz_PD 147 mmc_147) [48] :=
  wz_c (wz_sd (.tableswitch 98 1 5 #[36, 39, 58, 98, 71], []) 36 rfl (by decide +kernel) (Or.inr rfl)) (wz_n)
theorem mmk_147 (pc : Nat) : ∀ x, mmc_147 pc = some x → mm_K 147 pc x := wz_fin mmkn_147 mmkw_147 mmkd_147 mmks_147 pc
set_option maxRecDepth 100000 in
theorem mmkw_148 : wz_w mmc_148 [] [] 49 (mm_by 148).data.toList 0 = true := by decide +kernel
set_option maxRecDepth 100000 in
set_option maxHeartbeats 4000000 in
theorem mmkn_148 (pc : Nat) (h : 49 ≤ pc) : mmc_148 pc = none :=
  wz_rs h rfl (wz_rs h rfl (wz_rs h rfl (wz_re h rfl)))
set_option maxRecDepth 100000 in
set_option maxHeartbeats 4000000 in
theorem mmks_148 : wz_A (wz_PS 148 mmc_148) [] :=
  wz_n
set_option maxRecDepth 100000 in
set_option maxHeartbeats 4000000 in
theorem mmkd_148 : wz_A (wz_PD 148 mmc_148) [] :=
  wz_n
theorem mmk_148 (pc : Nat) : ∀ x, mmc_148 pc = some x → mm_K 148 pc x := wz_fin mmkn_148 mmkw_148 mmkd_148 mmks_148 pc
set_option maxRecDepth 100000 in
theorem mmkw_149 : wz_w mmc_149 [] [1] 88 (mm_by 149).data.toList 0 = true := by decide +kernel
set_option maxRecDepth 100000 in
set_option maxHeartbeats 4000000 in
theorem mmkn_149 (pc : Nat) (h : 88 ≤ pc) : mmc_149 pc = none :=
  wz_rs h rfl (wz_rs h rfl (wz_rs h rfl (wz_rs h rfl (wz_rs h rfl (wz_rs h rfl (wz_re h rfl))))))
set_option maxRecDepth 100000 in
set_option maxHeartbeats 4000000 in
theorem mmks_149 : wz_A (wz_PS 149 mmc_149) [] :=
  wz_n
set_option maxRecDepth 100000 in
set_option maxHeartbeats 4000000 in
theorem mmkd_149 : wz_A (wz_PD 149 mmc_149) [1] :=
  wz_c (wz_sd (.tableswitch 72 0 2 #[27, 41, 57], []) 27 rfl (by decide +kernel) (Or.inr rfl)) (wz_n)
theorem mmk_149 (pc : Nat) : ∀ x, mmc_149 pc = some x → mm_K 149 pc x := wz_fin mmkn_149 mmkw_149 mmkd_149 mmks_149 pc
set_option maxRecDepth 100000 in
theorem mmkw_150 : wz_w mmc_150 [36] [] 49 (mm_by 150).data.toList 0 = true := by decide +kernel
set_option maxRecDepth 100000 in
set_option maxHeartbeats 4000000 in
theorem mmkn_150 (pc : Nat) (h : 49 ≤ pc) : mmc_150 pc = none :=
  wz_rs h rfl (wz_rs h rfl (wz_rs h rfl (wz_rs h rfl (wz_re h rfl))))
set_option maxRecDepth 100000 in
set_option maxHeartbeats 4000000 in
theorem mmks_150 : wz_A (wz_PS 150 mmc_150) [36] :=
  wz_c (wz_sp (.invokestatic 61, [(0, 151)]) rfl (⟨Or.inl q_928, q_929, rfl⟩)) (wz_n)
set_option maxRecDepth 100000 in
set_option maxHeartbeats 4000000 in
theorem mmkd_150 : wz_A (wz_PD 150 mmc_150) [] :=
  wz_n
theorem mmk_150 (pc : Nat) : ∀ x, mmc_150 pc = some x → mm_K 150 pc x := wz_fin mmkn_150 mmkw_150 mmkd_150 mmks_150 pc
set_option maxRecDepth 100000 in
theorem mmkw_151 : wz_w mmc_151 [] [] 15 (mm_by 151).data.toList 0 = true := by decide +kernel
set_option maxRecDepth 100000 in
set_option maxHeartbeats 4000000 in
theorem mmkn_151 (pc : Nat) (h : 15 ≤ pc) : mmc_151 pc = none :=
  wz_rs h rfl (wz_rs h rfl (wz_rs h rfl (wz_rs h rfl (wz_re h rfl))))
set_option maxRecDepth 100000 in
set_option maxHeartbeats 4000000 in
theorem mmks_151 : wz_A (wz_PS 151 mmc_151) [] :=
  wz_n
set_option maxRecDepth 100000 in
set_option maxHeartbeats 4000000 in
theorem mmkd_151 : wz_A (wz_PD 151 mmc_151) [] :=
  wz_n
theorem mmk_151 (pc : Nat) : ∀ x, mmc_151 pc = some x → mm_K 151 pc x := wz_fin mmkn_151 mmkw_151 mmkd_151 mmks_151 pc
set_option maxRecDepth 100000 in
theorem mmkw_152 : wz_w mmc_152 [3, 10, 14] [] 18 (mm_by 152).data.toList 0 = true := by decide +kernel
set_option maxRecDepth 100000 in
set_option maxHeartbeats 4000000 in
theorem mmkn_152 (pc : Nat) (h : 18 ≤ pc) : mmc_152 pc = none :=
  wz_rs h rfl (wz_rs h rfl (wz_rs h rfl (wz_rs h rfl (wz_re h rfl))))
set_option maxRecDepth 100000 in
set_option maxHeartbeats 4000000 in
theorem mmks_152 : wz_A (wz_PS 152 mmc_152) [3, 10, 14] :=
  wz_c (wz_sp (.invokestatic 47, [(0, 141)]) rfl (⟨Or.inl q_897, q_898, rfl⟩)) (wz_c (wz_sp (.invokestatic 47, [(0, 141)]) rfl (⟨Or.inl q_897, q_898, rfl⟩)) (wz_c (wz_sp (.invokestatic 51, [(0, 153)]) rfl (⟨Or.inl q_934, q_935, rfl⟩)) (wz_n)))
set_option maxRecDepth 100000 in
set_option maxHeartbeats 4000000 in
theorem mmkd_152 : wz_A (wz_PD 152 mmc_152) [] :=
  wz_n
theorem mmk_152 (pc : Nat) : ∀ x, mmc_152 pc = some x → mm_K 152 pc x := wz_fin mmkn_152 mmkw_152 mmkd_152 mmks_152 pc
set_option maxRecDepth 100000 in
theorem mmkw_153 : wz_w mmc_153 [] [1] 57 (mm_by 153).data.toList 0 = true := by decide +kernel
set_option maxRecDepth 100000 in
set_option maxHeartbeats 4000000 in
theorem mmkn_153 (pc : Nat) (h : 57 ≤ pc) : mmc_153 pc = none :=
  wz_rs h rfl (wz_rs h rfl (wz_rs h rfl (wz_re h rfl)))
set_option maxRecDepth 100000 in
set_option maxHeartbeats 4000000 in
theorem mmks_153 : wz_A (wz_PS 153 mmc_153) [] :=
  wz_n
set_option maxRecDepth 100000 in
set_option maxHeartbeats 4000000 in
theorem mmkd_153 : wz_A (wz_PD 153 mmc_153) [1] :=
  wz_c (wz_sd (.tableswitch 51 1 5 #[35, 51, 40, 44, 35], []) 35 rfl (by decide +kernel) (Or.inr rfl)) (wz_n)
theorem mmk_153 (pc : Nat) : ∀ x, mmc_153 pc = some x → mm_K 153 pc x := wz_fin mmkn_153 mmkw_153 mmkd_153 mmks_153 pc
set_option maxRecDepth 100000 in
theorem mmkw_154 : wz_w mmc_154 [] [] 11 (mm_by 154).data.toList 0 = true := by decide +kernel
set_option maxRecDepth 100000 in
set_option maxHeartbeats 4000000 in
theorem mmkn_154 (pc : Nat) (h : 11 ≤ pc) : mmc_154 pc = none :=
  wz_rs h rfl (wz_rs h rfl (wz_rs h rfl (wz_re h rfl)))
set_option maxRecDepth 100000 in
set_option maxHeartbeats 4000000 in
theorem mmks_154 : wz_A (wz_PS 154 mmc_154) [] :=
  wz_n
set_option maxRecDepth 100000 in
set_option maxHeartbeats 4000000 in
theorem mmkd_154 : wz_A (wz_PD 154 mmc_154) [] :=
  wz_n
theorem mmk_154 (pc : Nat) : ∀ x, mmc_154 pc = some x → mm_K 154 pc x := wz_fin mmkn_154 mmkw_154 mmkd_154 mmks_154 pc
set_option maxRecDepth 100000 in
theorem mmkw_155 : wz_w mmc_155 [2, 10, 17, 24, 29, 40, 44, 56, 60, 69] [] 73 (mm_by 155).data.toList 0 = true := by decide +kernel
set_option maxRecDepth 100000 in
set_option maxHeartbeats 4000000 in
theorem mmkn_155 (pc : Nat) (h : 73 ≤ pc) : mmc_155 pc = none :=
  wz_rs h rfl (wz_rs h rfl (wz_rs h rfl (wz_rs h rfl (wz_rs h rfl (wz_re h rfl)))))
set_option maxRecDepth 100000 in
set_option maxHeartbeats 4000000 in
theorem mmks_155 : wz_A (wz_PS 155 mmc_155) [2, 10, 17, 24, 29, 40, 44, 56, 60, 69] :=
  wz_c (wz_sp (.invokevirtual 114, [(10, 142)]) rfl (⟨_, rfl, q_900, q_902, q_24, rfl⟩)) (wz_c (wz_sp (.invokevirtual 39, [(10, 130)]) rfl (⟨_, rfl, q_857, q_859, q_18, rfl⟩)) (wz_c (wz_sp (.invokestatic 43, [(0, 135)]) rfl (⟨Or.inl q_877, q_878, rfl⟩)) (wz_c (wz_sp (.getfield 9, [(10, 0)]) rfl (⟨_, rfl, by decide, q_810⟩)) (wz_c (wz_sp (.invokestatic 47, [(0, 141)]) rfl (⟨Or.inl q_897, q_898, rfl⟩)) (wz_c (wz_sp (.getfield 9, [(10, 0)]) rfl (⟨_, rfl, by decide, q_810⟩)) (wz_c (wz_sp (.invokestatic 65, [(0, 144)]) rfl (⟨Or.inl q_907, q_908, rfl⟩)) (wz_c (wz_sp (.getfield 9, [(10, 0)]) rfl (⟨_, rfl, by decide, q_810⟩)) (wz_c (wz_sp (.invokestatic 76, [(0, 152)]) rfl (⟨Or.inl q_931, q_932, rfl⟩)) (wz_c (wz_sp (.invokevirtual 39, [(10, 130)]) rfl (⟨_, rfl, q_857, q_859, q_18, rfl⟩)) (wz_n))))))))))
set_option maxRecDepth 100000 in
set_option maxHeartbeats 4000000 in
theorem mmkd_155 : wz_A (wz_PD 155 mmc_155) [] :=
  wz_n
theorem mmk_155 (pc : Nat) : ∀ x, mmc_155 pc = some x → mm_K 155 pc x := wz_fin mmkn_155 mmkw_155 mmkd_155 mmks_155 pc
set_option maxRecDepth 100000 in
theorem mmkw_156 : wz_w mmc_156 [1, 9, 18, 35, 51] [] 55 (mm_by 156).data.toList 0 = true := by decide +kernel
set_option maxRecDepth 100000 in
set_option maxHeartbeats 4000000 in
theorem mmkn_156 (pc : Nat) (h : 55 ≤ pc) : mmc_156 pc = none :=
  wz_rs h rfl (wz_rs h rfl (wz_rs h rfl (wz_rs h rfl (wz_rs h rfl (wz_re h rfl)))))
set_option maxRecDepth 100000 in
set_option maxHeartbeats 4000000 in
theorem mmks_156 : wz_A (wz_PS 156 mmc_156) [1, 9, 18, 35, 51] :=
  wz_c (wz_sp (.invokestatic 110, [(0, 140)]) rfl (⟨Or.inl q_894, q_895, rfl⟩)) (wz_c (wz_sp (.invokevirtual 39, [(10, 130)]) rfl (⟨_, rfl, q_857, q_859, q_18, rfl⟩)) (wz_c (wz_sp (.getfield 9, [(10, 0)]) rfl (⟨_, rfl, by decide, q_810⟩)) (wz_c (wz_sp (.getfield 9, [(10, 0)]) rfl (⟨_, rfl, by decide, q_810⟩)) (wz_c (wz_sp (.invokevirtual 39, [(10, 130)]) rfl (⟨_, rfl, q_857, q_859, q_18, rfl⟩)) (wz_n)))))
set_option maxRecDepth 100000 in
set_option maxHeartbeats 4000000 in
theorem mmkd_156 : wz_A (wz_PD 156 mmc_156) [] :=
  wz_n
theorem mmk_156 (pc : Nat) : ∀ x, mmc_156 pc = some x → mm_K 156 pc x := wz_fin mmkn_156 mmkw_156 mmkd_156 mmks_156 pc
set_option maxRecDepth 100000 in
theorem mmkw_157 : wz_w mmc_157 [3, 12, 21, 24, 29, 38, 44, 56, 60, 67, 74, 79, 85, 108, 112] [] 116 (mm_by 157).data.toList 0 = true := by decide +kernel
set_option maxRecDepth 100000 in
set_option maxHeartbeats 4000000 in
theorem mmkn_157 (pc : Nat) (h : 116 ≤ pc) : mmc_157 pc = none :=
  wz_rs h rfl (wz_rs h rfl (wz_rs h rfl (wz_rs h rfl (wz_re h rfl))))
set_option maxRecDepth 100000 in
set_option maxHeartbeats 4000000 in
theorem mmks_157 : wz_A (wz_PS 157 mmc_157) [3, 12, 21, 24, 29, 38, 44, 56, 60, 67, 74, 79, 85, 108, 112] :=
  wz_c (wz_sp (.invokestatic 43, [(0, 135)]) rfl (⟨Or.inl q_877, q_878, rfl⟩)) (wz_c (wz_sp (.invokevirtual 39, [(10, 130)]) rfl (⟨_, rfl, q_857, q_859, q_18, rfl⟩)) (wz_c (wz_sp (.getfield 9, [(10, 0)]) rfl (⟨_, rfl, by decide, q_810⟩)) (wz_c (wz_sp (.invokestatic 54, [(0, 148)]) rfl (⟨Or.inl q_919, q_920, rfl⟩)) (wz_c (wz_sp (.getfield 9, [(10, 0)]) rfl (⟨_, rfl, by decide, q_810⟩)) (wz_c (wz_sp (.getfield 9, [(10, 0)]) rfl (⟨_, rfl, by decide, q_810⟩)) (wz_c (wz_sp (.getfield 9, [(10, 0)]) rfl (⟨_, rfl, by decide, q_810⟩)) (wz_c (wz_sp (.getfield 9, [(10, 0)]) rfl (⟨_, rfl, by decide, q_810⟩)) (wz_c (wz_sp (.getfield 9, [(10, 0)]) rfl (⟨_, rfl, by decide, q_810⟩)) (wz_c (wz_sp (.getfield 9, [(10, 0)]) rfl (⟨_, rfl, by decide, q_810⟩)) (wz_c (wz_sp (.invokestatic 69, [(0, 147)]) rfl (⟨Or.inl q_916, q_917, rfl⟩)) (wz_c (wz_sp (.getfield 9, [(10, 0)]) rfl (⟨_, rfl, by decide, q_810⟩)) (wz_c (wz_sp (.invokestatic 58, [(0, 149)]) rfl (⟨Or.inl q_922, q_923, rfl⟩)) (wz_c (wz_sp (.getfield 9, [(10, 0)]) rfl (⟨_, rfl, by decide, q_810⟩)) (wz_c (wz_sp (.invokestatic 73, [(0, 150)]) rfl (⟨Or.inl q_925, q_926, rfl⟩)) (wz_n)))))))))))))))
set_option maxRecDepth 100000 in
set_option maxHeartbeats 4000000 in
theorem mmkd_157 : wz_A (wz_PD 157 mmc_157) [] :=
  wz_n
theorem mmk_157 (pc : Nat) : ∀ x, mmc_157 pc = some x → mm_K 157 pc x := wz_fin mmkn_157 mmkw_157 mmkd_157 mmks_157 pc
set_option maxRecDepth 100000 in
theorem mmkw_158 : wz_w mmc_158 [1, 11, 25, 37] [] 41 (mm_by 158).data.toList 0 = true := by decide +kernel
set_option maxRecDepth 100000 in
set_option maxHeartbeats 4000000 in
theorem mmkn_158 (pc : Nat) (h : 41 ≤ pc) : mmc_158 pc = none :=
  wz_rs h rfl (wz_rs h rfl (wz_rs h rfl (wz_rs h rfl (wz_re h rfl))))
set_option maxRecDepth 100000 in
set_option maxHeartbeats 4000000 in
theorem mmks_158 : wz_A (wz_PS 158 mmc_158) [1, 11, 25, 37] :=
  wz_c (wz_sp (.invokestatic 110, [(0, 140)]) rfl (⟨Or.inl q_894, q_895, rfl⟩)) (wz_c (wz_sp (.invokestatic 130, [(0, 159)]) rfl (⟨Or.inl q_956, q_957, rfl⟩)) (wz_c (wz_sp (.invokevirtual 39, [(10, 130)]) rfl (⟨_, rfl, q_857, q_859, q_18, rfl⟩)) (wz_c (wz_sp (.invokevirtual 134, [(10, 160)]) rfl (⟨_, rfl, q_959, q_961, q_25, rfl⟩)) (wz_n))))
set_option maxRecDepth 100000 in
set_option maxHeartbeats 4000000 in
theorem mmkd_158 : wz_A (wz_PD 158 mmc_158) [] :=
  wz_n
theorem mmk_158 (pc : Nat) : ∀ x, mmc_158 pc = some x → mm_K 158 pc x := wz_fin mmkn_158 mmkw_158 mmkd_158 mmks_158 pc
set_option maxRecDepth 100000 in
theorem mmkw_159 : wz_w mmc_159 [] [] 22 (mm_by 159).data.toList 0 = true := by decide +kernel
set_option maxRecDepth 100000 in
set_option maxHeartbeats 4000000 in
theorem mmkn_159 (pc : Nat) (h : 22 ≤ pc) : mmc_159 pc = none :=
  wz_rs h rfl (wz_rs h rfl (wz_rs h rfl (wz_rs h rfl (wz_re h rfl))))
set_option maxRecDepth 100000 in
set_option maxHeartbeats 4000000 in
theorem mmks_159 : wz_A (wz_PS 159 mmc_159) [] :=
  wz_n
set_option maxRecDepth 100000 in
set_option maxHeartbeats 4000000 in
theorem mmkd_159 : wz_A (wz_PD 159 mmc_159) [] :=
  wz_n
theorem mmk_159 (pc : Nat) : ∀ x, mmc_159 pc = some x → mm_K 159 pc x := wz_fin mmkn_159 mmkw_159 mmkd_159 mmks_159 pc
set_option maxRecDepth 100000 in
theorem mmkw_160 : wz_w mmc_160 [1, 8] [] 16 (mm_by 160).data.toList 0 = true := by decide +kernel
set_option maxRecDepth 100000 in
set_option maxHeartbeats 4000000 in
theorem mmkn_160 (pc : Nat) (h : 16 ≤ pc) : mmc_160 pc = none :=
  wz_rs h rfl (wz_rs h rfl (wz_rs h rfl (wz_rs h rfl (wz_re h rfl))))
set_option maxRecDepth 100000 in
set_option maxHeartbeats 4000000 in
theorem mmks_160 : wz_A (wz_PS 160 mmc_160) [1, 8] :=
  wz_c (wz_sp (.getfield 9, [(10, 0)]) rfl (⟨_, rfl, by decide, q_810⟩)) (wz_c (wz_sp (.getfield 9, [(10, 0)]) rfl (⟨_, rfl, by decide, q_810⟩)) (wz_n))
set_option maxRecDepth 100000 in
set_option maxHeartbeats 4000000 in
theorem mmkd_160 : wz_A (wz_PD 160 mmc_160) [] :=
  wz_n
theorem mmk_160 (pc : Nat) : ∀ x, mmc_160 pc = some x → mm_K 160 pc x := wz_fin mmkn_160 mmkw_160 mmkd_160 mmks_160 pc
set_option maxRecDepth 100000 in
theorem mmkw_161 : wz_w mmc_161 [1, 9, 14, 27] [24] 38 (mm_by 161).data.toList 0 = true := by decide +kernel
set_option maxRecDepth 100000 in
set_option maxHeartbeats 4000000 in
theorem mmkn_161 (pc : Nat) (h : 38 ≤ pc) : mmc_161 pc = none :=
  wz_rs h rfl (wz_rs h rfl (wz_rs h rfl (wz_rs h rfl (wz_rs h rfl (wz_re h rfl)))))
set_option maxRecDepth 100000 in
set_option maxHeartbeats 4000000 in
theorem mmks_161 : wz_A (wz_PS 161 mmc_161) [1, 9, 14, 27] :=
  wz_c (wz_sp (.invokestatic 110, [(0, 140)]) rfl (⟨Or.inl q_894, q_895, rfl⟩)) (wz_c (wz_sp (.invokevirtual 39, [(10, 130)]) rfl (⟨_, rfl, q_857, q_859, q_18, rfl⟩)) (wz_c (wz_sp (.getfield 9, [(10, 0)]) rfl (⟨_, rfl, by decide, q_810⟩)) (wz_c (wz_sp (.getfield 9, [(10, 0)]) rfl (⟨_, rfl, by decide, q_810⟩)) (wz_n))))
set_option maxRecDepth 100000 in
set_option maxHeartbeats 4000000 in
theorem mmkd_161 : wz_A (wz_PD 161 mmc_161) [24] :=
  wz_c (wz_sd (.ixor, []) 1 rfl (by decide +kernel) (Or.inl rfl)) (wz_n)
theorem mmk_161 (pc : Nat) : ∀ x, mmc_161 pc = some x → mm_K 161 pc x := wz_fin mmkn_161 mmkw_161 mmkd_161 mmks_161 pc
set_option maxRecDepth 100000 in
theorem mmkw_162 : wz_w mmc_162 [1, 10, 18] [] 22 (mm_by 162).data.toList 0 = true := by decide +kernel
set_option maxRecDepth 100000 in
set_option maxHeartbeats 4000000 in
theorem mmkn_162 (pc : Nat) (h : 22 ≤ pc) : mmc_162 pc = none :=
  wz_rs h rfl (wz_rs h rfl (wz_rs h rfl (wz_rs h rfl (wz_re h rfl))))
set_option maxRecDepth 100000 in
set_option maxHeartbeats 4000000 in
theorem mmks_162 : wz_A (wz_PS 162 mmc_162) [1, 10, 18] :=
  wz_c (wz_sp (.invokestatic 110, [(0, 140)]) rfl (⟨Or.inl q_894, q_895, rfl⟩)) (wz_c (wz_sp (.invokevirtual 134, [(10, 160)]) rfl (⟨_, rfl, q_959, q_961, q_25, rfl⟩)) (wz_c (wz_sp (.invokevirtual 39, [(10, 130)]) rfl (⟨_, rfl, q_857, q_859, q_18, rfl⟩)) (wz_n)))
set_option maxRecDepth 100000 in
set_option maxHeartbeats 4000000 in
theorem mmkd_162 : wz_A (wz_PD 162 mmc_162) [] :=
  wz_n
theorem mmk_162 (pc : Nat) : ∀ x, mmc_162 pc = some x → mm_K 162 pc x := wz_fin mmkn_162 mmkw_162 mmkd_162 mmks_162 pc
set_option maxRecDepth 100000 in
theorem mmkw_163 : wz_w mmc_163 [1, 10, 18] [] 22 (mm_by 163).data.toList 0 = true := by decide +kernel
set_option maxRecDepth 100000 in
set_option maxHeartbeats 4000000 in
theorem mmkn_163 (pc : Nat) (h : 22 ≤ pc) : mmc_163 pc = none :=
  wz_rs h rfl (wz_rs h rfl (wz_rs h rfl (wz_rs h rfl (wz_re h rfl))))
set_option maxRecDepth 100000 in
set_option maxHeartbeats 4000000 in
theorem mmks_163 : wz_A (wz_PS 163 mmc_163) [1, 10, 18] :=
  wz_c (wz_sp (.invokestatic 110, [(0, 140)]) rfl (⟨Or.inl q_894, q_895, rfl⟩)) (wz_c (wz_sp (.invokevirtual 134, [(10, 160)]) rfl (⟨_, rfl, q_959, q_961, q_25, rfl⟩)) (wz_c (wz_sp (.invokevirtual 39, [(10, 130)]) rfl (⟨_, rfl, q_857, q_859, q_18, rfl⟩)) (wz_n)))
set_option maxRecDepth 100000 in
set_option maxHeartbeats 4000000 in
theorem mmkd_163 : wz_A (wz_PD 163 mmc_163) [] :=
  wz_n
theorem mmk_163 (pc : Nat) : ∀ x, mmc_163 pc = some x → mm_K 163 pc x := wz_fin mmkn_163 mmkw_163 mmkd_163 mmks_163 pc
set_option maxRecDepth 100000 in
theorem mmkw_164 : wz_w mmc_164 [4, 14, 23] [] 27 (mm_by 164).data.toList 0 = true := by decide +kernel
set_option maxRecDepth 100000 in
set_option maxHeartbeats 4000000 in
theorem mmkn_164 (pc : Nat) (h : 27 ≤ pc) : mmc_164 pc = none :=
  wz_rs h rfl (wz_rs h rfl (wz_rs h rfl (wz_rs h rfl (wz_re h rfl))))
set_option maxRecDepth 100000 in
set_option maxHeartbeats 4000000 in
theorem mmks_164 : wz_A (wz_PS 164 mmc_164) [4, 14, 23] :=
  wz_c (wz_sp (.invokestatic 130, [(0, 159)]) rfl (⟨Or.inl q_956, q_957, rfl⟩)) (wz_c (wz_sp (.invokevirtual 39, [(10, 130)]) rfl (⟨_, rfl, q_857, q_859, q_18, rfl⟩)) (wz_c (wz_sp (.invokevirtual 134, [(10, 160)]) rfl (⟨_, rfl, q_959, q_961, q_25, rfl⟩)) (wz_n)))
set_option maxRecDepth 100000 in
set_option maxHeartbeats 4000000 in
theorem mmkd_164 : wz_A (wz_PD 164 mmc_164) [] :=
  wz_n
theorem mmk_164 (pc : Nat) : ∀ x, mmc_164 pc = some x → mm_K 164 pc x := wz_fin mmkn_164 mmkw_164 mmkd_164 mmks_164 pc
set_option maxRecDepth 100000 in
theorem mmkw_165 : wz_w mmc_165 [2, 10, 15, 19, 23] [] 30 (mm_by 165).data.toList 0 = true := by decide +kernel
set_option maxRecDepth 100000 in
set_option maxHeartbeats 4000000 in
theorem mmkn_165 (pc : Nat) (h : 30 ≤ pc) : mmc_165 pc = none :=
  wz_rs h rfl (wz_re h rfl)
set_option maxRecDepth 100000 in
set_option maxHeartbeats 4000000 in
theorem mmks_165 : wz_A (wz_PS 165 mmc_165) [2, 10, 15, 19, 23] :=
  wz_c (wz_sp (.invokevirtual 114, [(10, 142)]) rfl (⟨_, rfl, q_900, q_902, q_24, rfl⟩)) (wz_c (wz_sp (.invokevirtual 39, [(10, 130)]) rfl (⟨_, rfl, q_857, q_859, q_18, rfl⟩)) (wz_c (wz_sp (.getfield 9, [(10, 0)]) rfl (⟨_, rfl, by decide, q_810⟩)) (wz_c (wz_sp (.invokestatic 82, [(0, 143)]) rfl (⟨Or.inl q_904, q_905, rfl⟩)) (wz_c (wz_sp (.getfield 9, [(10, 0)]) rfl (⟨_, rfl, by decide, q_810⟩)) (wz_n)))))
set_option maxRecDepth 100000 in
set_option maxHeartbeats 4000000 in
theorem mmkd_165 : wz_A (wz_PD 165 mmc_165) [] :=
  wz_n
theorem mmk_165 (pc : Nat) : ∀ x, mmc_165 pc = some x → mm_K 165 pc x := wz_fin mmkn_165 mmkw_165 mmkd_165 mmks_165 pc
set_option maxRecDepth 100000 in
theorem mmkw_166 : wz_w mmc_166 [2, 15, 30, 43, 50, 55, 61, 66, 74, 79, 85, 90] [] 98 (mm_by 166).data.toList 0 = true := by decide +kernel
set_option maxRecDepth 100000 in
set_option maxHeartbeats 4000000 in
theorem mmkn_166 (pc : Nat) (h : 98 ≤ pc) : mmc_166 pc = none :=
  wz_rs h rfl (wz_rs h rfl (wz_rs h rfl (wz_rs h rfl (wz_rs h rfl (wz_re h rfl)))))
set_option maxRecDepth 100000 in
set_option maxHeartbeats 4000000 in
theorem mmks_166 : wz_A (wz_PS 166 mmc_166) [2, 15, 30, 43, 50, 55, 61, 66, 74, 79, 85, 90] :=
  wz_c (wz_sp (.invokevirtual 114, [(10, 142)]) rfl (⟨_, rfl, q_900, q_902, q_24, rfl⟩)) (wz_c (wz_sp (.invokestatic 43, [(0, 135)]) rfl (⟨Or.inl q_877, q_878, rfl⟩)) (wz_c (wz_sp (.invokestatic 130, [(0, 159)]) rfl (⟨Or.inl q_956, q_957, rfl⟩)) (wz_c (wz_sp (.invokevirtual 39, [(10, 130)]) rfl (⟨_, rfl, q_857, q_859, q_18, rfl⟩)) (wz_c (wz_sp (.getfield 9, [(10, 0)]) rfl (⟨_, rfl, by decide, q_810⟩)) (wz_c (wz_sp (.invokestatic 47, [(0, 141)]) rfl (⟨Or.inl q_897, q_898, rfl⟩)) (wz_c (wz_sp (.getfield 9, [(10, 0)]) rfl (⟨_, rfl, by decide, q_810⟩)) (wz_c (wz_sp (.invokestatic 47, [(0, 141)]) rfl (⟨Or.inl q_897, q_898, rfl⟩)) (wz_c (wz_sp (.getfield 9, [(10, 0)]) rfl (⟨_, rfl, by decide, q_810⟩)) (wz_c (wz_sp (.invokestatic 47, [(0, 141)]) rfl (⟨Or.inl q_897, q_898, rfl⟩)) (wz_c (wz_sp (.getfield 9, [(10, 0)]) rfl (⟨_, rfl, by decide, q_810⟩)) (wz_c (wz_sp (.invokestatic 47, [(0, 141)]) rfl (⟨Or.inl q_897, q_898, rfl⟩)) (wz_n))))))))))))
set_option maxRecDepth 100000 in
set_option maxHeartbeats 4000000 in
theorem mmkd_166 : wz_A (wz_PD 166 mmc_166) [] :=
  wz_n
theorem mmk_166 (pc : Nat) : ∀ x, mmc_166 pc = some x → mm_K 166 pc x := wz_fin mmkn_166 mmkw_166 mmkd_166 mmks_166 pc
set_option maxRecDepth 100000 in
theorem mmkw_167 : wz_w mmc_167 [8, 19, 35, 40, 44, 48] [] 54 (mm_by 167).data.toList 0 = true := by decide +kernel
set_option maxRecDepth 100000 in
set_option maxHeartbeats 4000000 in
theorem mmkn_167 (pc : Nat) (h : 54 ≤ pc) : mmc_167 pc = none :=
  wz_rs h rfl (wz_rs h rfl (wz_rs h rfl (wz_rs h rfl (wz_rs h rfl (wz_re h rfl)))))
set_option maxRecDepth 100000 in
set_option maxHeartbeats 4000000 in
theorem mmks_167 : wz_A (wz_PS 167 mmc_167) [8, 19, 35, 40, 44, 48] :=
  wz_c (wz_sp (.invokevirtual 39, [(10, 130)]) rfl (⟨_, rfl, q_857, q_859, q_18, rfl⟩)) (wz_c (wz_sp (.getfield 9, [(10, 0)]) rfl (⟨_, rfl, by decide, q_810⟩)) (wz_c (wz_sp (.invokevirtual 39, [(10, 130)]) rfl (⟨_, rfl, q_857, q_859, q_18, rfl⟩)) (wz_c (wz_sp (.getfield 9, [(10, 0)]) rfl (⟨_, rfl, by decide, q_810⟩)) (wz_c (wz_sp (.invokestatic 117, [(0, 145)]) rfl (⟨Or.inl q_910, q_911, rfl⟩)) (wz_c (wz_sp (.getfield 9, [(10, 0)]) rfl (⟨_, rfl, by decide, q_810⟩)) (wz_n))))))
set_option maxRecDepth 100000 in
set_option maxHeartbeats 4000000 in
theorem mmkd_167 : wz_A (wz_PD 167 mmc_167) [] :=
  wz_n
theorem mmk_167 (pc : Nat) : ∀ x, mmc_167 pc = some x → mm_K 167 pc x := wz_fin mmkn_167 mmkw_167 mmkd_167 mmks_167 pc
set_option maxRecDepth 100000 in
theorem mmkw_168 : wz_w mmc_168 [4, 15, 30, 36, 44, 58, 61, 68, 82] [] 89 (mm_by 168).data.toList 0 = true := by decide +kernel
set_option maxRecDepth 100000 in
set_option maxHeartbeats 4000000 in
theorem mmkn_168 (pc : Nat) (h : 89 ≤ pc) : mmc_168 pc = none :=
  wz_rs h rfl (wz_rs h rfl (wz_re h rfl))
set_option maxRecDepth 100000 in
set_option maxHeartbeats 4000000 in
theorem mmks_168 : wz_A (wz_PS 168 mmc_168) [4, 15, 30, 36, 44, 58, 61, 68, 82] :=
  wz_c (wz_sp (.invokestatic 130, [(0, 159)]) rfl (⟨Or.inl q_956, q_957, rfl⟩)) (wz_c (wz_sp (.invokestatic 43, [(0, 135)]) rfl (⟨Or.inl q_877, q_878, rfl⟩)) (wz_c (wz_sp (.invokevirtual 39, [(10, 130)]) rfl (⟨_, rfl, q_857, q_859, q_18, rfl⟩)) (wz_c (wz_sp (.invokevirtual 137, [(10, 169)]) rfl (⟨_, rfl, q_995, q_997, q_26, rfl⟩)) (wz_c (wz_sp (.getfield 13, [(10, 1)]) rfl (⟨_, rfl, by decide, q_811⟩)) (wz_c (wz_sp (.getfield 13, [(10, 1)]) rfl (⟨_, rfl, by decide, q_811⟩)) (wz_c (wz_sp (.invokestatic 141, [(0, 170)]) rfl (⟨Or.inl q_999, q_1000, rfl⟩)) (wz_c (wz_sp (.getfield 13, [(10, 1)]) rfl (⟨_, rfl, by decide, q_811⟩)) (wz_c (wz_sp (.getfield 13, [(10, 1)]) rfl (⟨_, rfl, by decide, q_811⟩)) (wz_n)))))))))
set_option maxRecDepth 100000 in
set_option maxHeartbeats 4000000 in
theorem mmkd_168 : wz_A (wz_PD 168 mmc_168) [] :=
  wz_n
theorem mmk_168 (pc : Nat) : ∀ x, mmc_168 pc = some x → mm_K 168 pc x := wz_fin mmkn_168 mmkw_168 mmkd_168 mmks_168 pc
set_option maxRecDepth 100000 in
theorem mmkw_169 : wz_w mmc_169 [1, 5, 8, 12, 16] [] 20 (mm_by 169).data.toList 0 = true := by decide +kernel
set_option maxRecDepth 100000 in
set_option maxHeartbeats 4000000 in
theorem mmkn_169 (pc : Nat) (h : 20 ≤ pc) : mmc_169 pc = none :=
  wz_rs h rfl (wz_rs h rfl (wz_rs h rfl (wz_rs h rfl (wz_re h rfl))))
set_option maxRecDepth 100000 in
set_option maxHeartbeats 4000000 in
theorem mmks_169 : wz_A (wz_PS 169 mmc_169) [1, 5, 8, 12, 16] :=
  wz_c (wz_sp (.getfield 9, [(10, 0)]) rfl (⟨_, rfl, by decide, q_810⟩)) (wz_c (wz_sp (.getfield 13, [(10, 1)]) rfl (⟨_, rfl, by decide, q_811⟩)) (wz_c (wz_sp (.invokestatic 123, [(0, 138)]) rfl (⟨Or.inl q_887, q_888, rfl⟩)) (wz_c (wz_sp (.getfield 13, [(10, 1)]) rfl (⟨_, rfl, by decide, q_811⟩)) (wz_c (wz_sp (.invokestatic 117, [(0, 145)]) rfl (⟨Or.inl q_910, q_911, rfl⟩)) (wz_n)))))
set_option maxRecDepth 100000 in
set_option maxHeartbeats 4000000 in
theorem mmkd_169 : wz_A (wz_PD 169 mmc_169) [] :=
  wz_n
theorem mmk_169 (pc : Nat) : ∀ x, mmc_169 pc = some x → mm_K 169 pc x := wz_fin mmkn_169 mmkw_169 mmkd_169 mmks_169 pc
set_option maxRecDepth 100000 in
theorem mmkw_170 : wz_w mmc_170 [15] [] 29 (mm_by 170).data.toList 0 = true := by decide +kernel
set_option maxRecDepth 100000 in
set_option maxHeartbeats 4000000 in
theorem mmkn_170 (pc : Nat) (h : 29 ≤ pc) : mmc_170 pc = none :=
  wz_rs h rfl (wz_rs h rfl (wz_rs h rfl (wz_rs h rfl (wz_re h rfl))))
set_option maxRecDepth 100000 in
set_option maxHeartbeats 4000000 in
theorem mmks_170 : wz_A (wz_PS 170 mmc_170) [15] :=
  wz_c (wz_sp (.invokestatic 47, [(0, 141)]) rfl (⟨Or.inl q_897, q_898, rfl⟩)) (wz_n)
set_option maxRecDepth 100000 in
set_option maxHeartbeats 4000000 in
theorem mmkd_170 : wz_A (wz_PD 170 mmc_170) [] :=
  wz_n
theorem mmk_170 (pc : Nat) : ∀ x, mmc_170 pc = some x → mm_K 170 pc x := wz_fin mmkn_170 mmkw_170 mmkd_170 mmks_170 pc
set_option maxRecDepth 100000 in
theorem mmkw_171 : wz_w mmc_171 [2, 12, 26, 32, 36, 41] [] 46 (mm_by 171).data.toList 0 = true := by decide +kernel
set_option maxRecDepth 100000 in
set_option maxHeartbeats 4000000 in
theorem mmkn_171 (pc : Nat) (h : 46 ≤ pc) : mmc_171 pc = none :=
  wz_rs h rfl (wz_rs h rfl (wz_rs h rfl (wz_rs h rfl (wz_rs h rfl (wz_re h rfl)))))
set_option maxRecDepth 100000 in
set_option maxHeartbeats 4000000 in
theorem mmks_171 : wz_A (wz_PS 171 mmc_171) [2, 12, 26, 32, 36, 41] :=
  wz_c (wz_sp (.invokevirtual 114, [(10, 142)]) rfl (⟨_, rfl, q_900, q_902, q_24, rfl⟩)) (wz_c (wz_sp (.invokestatic 130, [(0, 159)]) rfl (⟨Or.inl q_956, q_957, rfl⟩)) (wz_c (wz_sp (.invokevirtual 39, [(10, 130)]) rfl (⟨_, rfl, q_857, q_859, q_18, rfl⟩)) (wz_c (wz_sp (.invokevirtual 137, [(10, 169)]) rfl (⟨_, rfl, q_995, q_997, q_26, rfl⟩)) (wz_c (wz_sp (.getfield 13, [(10, 1)]) rfl (⟨_, rfl, by decide, q_811⟩)) (wz_c (wz_sp (.invokestatic 47, [(0, 141)]) rfl (⟨Or.inl q_897, q_898, rfl⟩)) (wz_n))))))
set_option maxRecDepth 100000 in
set_option maxHeartbeats 4000000 in
theorem mmkd_171 : wz_A (wz_PD 171 mmc_171) [] :=
  wz_n
theorem mmk_171 (pc : Nat) : ∀ x, mmc_171 pc = some x → mm_K 171 pc x := wz_fin mmkn_171 mmkw_171 mmkd_171 mmks_171 pc
set_option maxRecDepth 100000 in
theorem mmkw_172 : wz_w mmc_172 [6, 14, 19, 23, 26, 35, 44] [] 48 (mm_by 172).data.toList 0 = true := by decide +kernel
set_option maxRecDepth 100000 in
set_option maxHeartbeats 4000000 in
theorem mmkn_172 (pc : Nat) (h : 48 ≤ pc) : mmc_172 pc = none :=
  wz_rs h rfl (wz_rs h rfl (wz_rs h rfl (wz_rs h rfl (wz_rs h rfl (wz_re h rfl)))))
set_option maxRecDepth 100000 in
set_option maxHeartbeats 4000000 in
theorem mmks_172 : wz_A (wz_PS 172 mmc_172) [6, 14, 19, 23, 26, 35, 44] :=
  wz_c (wz_sp (.invokestatic 110, [(0, 140)]) rfl (⟨Or.inl q_894, q_895, rfl⟩)) (wz_c (wz_sp (.invokevirtual 39, [(10, 130)]) rfl (⟨_, rfl, q_857, q_859, q_18, rfl⟩)) (wz_c (wz_sp (.getfield 9, [(10, 0)]) rfl (⟨_, rfl, by decide, q_810⟩)) (wz_c (wz_sp (.getfield 13, [(10, 1)]) rfl (⟨_, rfl, by decide, q_811⟩)) (wz_c (wz_sp (.invokestatic 123, [(0, 138)]) rfl (⟨Or.inl q_887, q_888, rfl⟩)) (wz_c (wz_sp (.getfield 9, [(10, 0)]) rfl (⟨_, rfl, by decide, q_810⟩)) (wz_c (wz_sp (.invokevirtual 144, [(10, 173)]) rfl (⟨_, rfl, q_1010, q_1012, q_27, rfl⟩)) (wz_n)))))))
set_option maxRecDepth 100000 in
set_option maxHeartbeats 4000000 in
theorem mmkd_172 : wz_A (wz_PD 172 mmc_172) [] :=
  wz_n
theorem mmk_172 (pc : Nat) : ∀ x, mmc_172 pc = some x → mm_K 172 pc x := wz_fin mmkn_172 mmkw_172 mmkd_172 mmks_172 pc
set_option maxRecDepth 100000 in
theorem mmkw_173 : wz_w mmc_173 [9, 21, 25] [] 37 (mm_by 173).data.toList 0 = true := by decide +kernel
set_option maxRecDepth 100000 in
set_option maxHeartbeats 4000000 in
theorem mmkn_173 (pc : Nat) (h : 37 ≤ pc) : mmc_173 pc = none :=
  wz_rs h rfl (wz_rs h rfl (wz_rs h rfl (wz_rs h rfl (wz_re h rfl))))
set_option maxRecDepth 100000 in
set_option maxHeartbeats 4000000 in
theorem mmks_173 : wz_A (wz_PS 173 mmc_173) [9, 21, 25] :=
  wz_c (wz_sp (.getfield 13, [(10, 1)]) rfl (⟨_, rfl, by decide, q_811⟩)) (wz_c (wz_sp (.getfield 13, [(10, 1)]) rfl (⟨_, rfl, by decide, q_811⟩)) (wz_c (wz_sp (.invokestatic 86, [(0, 146)]) rfl (⟨Or.inl q_913, q_914, rfl⟩)) (wz_n)))
set_option maxRecDepth 100000 in
set_option maxHeartbeats 4000000 in
theorem mmkd_173 : wz_A (wz_PD 173 mmc_173) [] :=
  wz_n
theorem mmk_173 (pc : Nat) : ∀ x, mmc_173 pc = some x → mm_K 173 pc x := wz_fin mmkn_173 mmkw_173 mmkd_173 mmks_173 pc
set_option maxRecDepth 100000 in
theorem mmkw_174 : wz_w mmc_174 [6, 14, 22, 30] [] 34 (mm_by 174).data.toList 0 = true := by decide +kernel
set_option maxRecDepth 100000 in
set_option maxHeartbeats 4000000 in
theorem mmkn_174 (pc : Nat) (h : 34 ≤ pc) : mmc_174 pc = none :=
  wz_rs h rfl (wz_rs h rfl (wz_re h rfl))
set_option maxRecDepth 100000 in
set_option maxHeartbeats 4000000 in
theorem mmks_174 : wz_A (wz_PS 174 mmc_174) [6, 14, 22, 30] :=
  wz_c (wz_sp (.invokevirtual 151, [(10, 175)]) rfl (⟨_, rfl, q_1018, q_1020, q_28, rfl⟩)) (wz_c (wz_sp (.invokevirtual 114, [(10, 142)]) rfl (⟨_, rfl, q_900, q_902, q_24, rfl⟩)) (wz_c (wz_sp (.invokevirtual 148, [(10, 176)]) rfl (⟨_, rfl, q_1023, q_1025, q_29, rfl⟩)) (wz_c (wz_sp (.invokevirtual 39, [(10, 130)]) rfl (⟨_, rfl, q_857, q_859, q_18, rfl⟩)) (wz_n))))
set_option maxRecDepth 100000 in
set_option maxHeartbeats 4000000 in
theorem mmkd_174 : wz_A (wz_PD 174 mmc_174) [] :=
  wz_n
theorem mmk_174 (pc : Nat) : ∀ x, mmc_174 pc = some x → mm_K 174 pc x := wz_fin mmkn_174 mmkw_174 mmkd_174 mmks_174 pc
set_option maxRecDepth 100000 in
theorem mmkw_175 : wz_w mmc_175 [3, 10, 20] [] 52 (mm_by 175).data.toList 0 = true := by decide +kernel
set_option maxRecDepth 100000 in
set_option maxHeartbeats 4000000 in
theorem mmkn_175 (pc : Nat) (h : 52 ≤ pc) : mmc_175 pc = none :=
  wz_rs h rfl (wz_rs h rfl (wz_rs h rfl (wz_rs h rfl (wz_rs h rfl (wz_re h rfl)))))
set_option maxRecDepth 100000 in
set_option maxHeartbeats 4000000 in
theorem mmks_175 : wz_A (wz_PS 175 mmc_175) [3, 10, 20] :=
  wz_c (wz_sp (.ldc 147, [(0, 1000000000)]) rfl (q_1022)) (wz_c (wz_sp (.getfield 9, [(10, 0)]) rfl (⟨_, rfl, by decide, q_810⟩)) (wz_c (wz_sp (.invokevirtual 148, [(10, 176)]) rfl (⟨_, rfl, q_1023, q_1025, q_29, rfl⟩)) (wz_n)))
set_option maxRecDepth 100000 in
set_option maxHeartbeats 4000000 in
theorem mmkd_175 : wz_A (wz_PD 175 mmc_175) [] :=
  wz_n
theorem mmk_175 (pc : Nat) : ∀ x, mmc_175 pc = some x → mm_K 175 pc x := wz_fin mmkn_175 mmkw_175 mmkd_175 mmks_175 pc
set_option maxRecDepth 100000 in
theorem mmkw_176 : wz_w mmc_176 [1, 5, 8, 20, 25, 30, 35, 45, 49] [] 61 (mm_by 176).data.toList 0 = true := by decide +kernel
set_option maxRecDepth 100000 in
set_option maxHeartbeats 4000000 in
theorem mmkn_176 (pc : Nat) (h : 61 ≤ pc) : mmc_176 pc = none :=
  wz_rs h rfl (wz_rs h rfl (wz_re h rfl))
set_option maxRecDepth 100000 in
set_option maxHeartbeats 4000000 in
theorem mmks_176 : wz_A (wz_PS 176 mmc_176) [1, 5, 8, 20, 25, 30, 35, 45, 49] :=
  wz_c (wz_sp (.getfield 9, [(10, 0)]) rfl (⟨_, rfl, by decide, q_810⟩)) (wz_c (wz_sp (.getfield 13, [(10, 1)]) rfl (⟨_, rfl, by decide, q_811⟩)) (wz_c (wz_sp (.invokestatic 123, [(0, 138)]) rfl (⟨Or.inl q_887, q_888, rfl⟩)) (wz_c (wz_sp (.getfield 13, [(10, 1)]) rfl (⟨_, rfl, by decide, q_811⟩)) (wz_c (wz_sp (.invokestatic 47, [(0, 141)]) rfl (⟨Or.inl q_897, q_898, rfl⟩)) (wz_c (wz_sp (.getfield 9, [(10, 0)]) rfl (⟨_, rfl, by decide, q_810⟩)) (wz_c (wz_sp (.invokestatic 47, [(0, 141)]) rfl (⟨Or.inl q_897, q_898, rfl⟩)) (wz_c (wz_sp (.getfield 13, [(10, 1)]) rfl (⟨_, rfl, by decide, q_811⟩)) (wz_c (wz_sp (.invokestatic 86, [(0, 146)]) rfl (⟨Or.inl q_913, q_914, rfl⟩)) (wz_n)))))))))
set_option maxRecDepth 100000 in
set_option maxHeartbeats 4000000 in
theorem mmkd_176 : wz_A (wz_PD 176 mmc_176) [] :=
  wz_n
theorem mmk_176 (pc : Nat) : ∀ x, mmc_176 pc = some x → mm_K 176 pc x := wz_fin mmkn_176 mmkw_176 mmkd_176 mmks_176 pc
set_option maxRecDepth 100000 in
theorem mmkw_177 : wz_w mmc_177 [1, 5, 8, 22, 29, 33, 37] [] 74 (mm_by 177).data.toList 0 = true := by decide +kernel
set_option maxRecDepth 100000 in
set_option maxHeartbeats 4000000 in
theorem mmkn_177 (pc : Nat) (h : 74 ≤ pc) : mmc_177 pc = none :=
  wz_rs h rfl (wz_rs h rfl (wz_rs h rfl (wz_rs h rfl (wz_rs h rfl (wz_rs h rfl (wz_re h rfl))))))
set_option maxRecDepth 100000 in
set_option maxHeartbeats 4000000 in
theorem mmks_177 : wz_A (wz_PS 177 mmc_177) [1, 5, 8, 22, 29, 33, 37] :=
  wz_c (wz_sp (.getfield 9, [(10, 0)]) rfl (⟨_, rfl, by decide, q_810⟩)) (wz_c (wz_sp (.getfield 13, [(10, 1)]) rfl (⟨_, rfl, by decide, q_811⟩)) (wz_c (wz_sp (.invokestatic 123, [(0, 138)]) rfl (⟨Or.inl q_887, q_888, rfl⟩)) (wz_c (wz_sp (.getfield 13, [(10, 1)]) rfl (⟨_, rfl, by decide, q_811⟩)) (wz_c (wz_sp (.getfield 13, [(10, 1)]) rfl (⟨_, rfl, by decide, q_811⟩)) (wz_c (wz_sp (.invokestatic 86, [(0, 146)]) rfl (⟨Or.inl q_913, q_914, rfl⟩)) (wz_c (wz_sp (.getfield 13, [(10, 1)]) rfl (⟨_, rfl, by decide, q_811⟩)) (wz_n)))))))
set_option maxRecDepth 100000 in
set_option maxHeartbeats 4000000 in
theorem mmkd_177 : wz_A (wz_PD 177 mmc_177) [] :=
  wz_n
theorem mmk_177 (pc : Nat) : ∀ x, mmc_177 pc = some x → mm_K 177 pc x := wz_fin mmkn_177 mmkw_177 mmkd_177 mmks_177 pc
set_option maxRecDepth 100000 in
theorem mmkw_178 : wz_w mmc_178 [1, 9, 16, 25, 38, 44, 56, 96, 107, 113, 122, 132, 145, 151, 158, 182, 190, 202, 225] [] 231 (mm_by 178).data.toList 0 = true := by decide +kernel
set_option maxRecDepth 100000 in
set_option maxHeartbeats 4000000 in
theorem mmkn_178 (pc : Nat) (h : 231 ≤ pc) : mmc_178 pc = none :=
  wz_rs h rfl (wz_rs h rfl (wz_rs h rfl (wz_rs h rfl (wz_rs h rfl (wz_rs h rfl (wz_rs h rfl (wz_re h rfl)))))))
set_option maxRecDepth 100000 in
set_option maxHeartbeats 4000000 in
theorem mmks_178 : wz_A (wz_PS 178 mmc_178) [1, 9, 16, 25, 38, 44, 56, 96, 107, 113, 122, 132, 145, 151, 158, 182, 190, 202, 225] :=
  wz_c (wz_sp (.invokestatic 110, [(0, 140)]) rfl (⟨Or.inl q_894, q_895, rfl⟩)) (wz_c (wz_sp (.invokevirtual 39, [(10, 130)]) rfl (⟨_, rfl, q_857, q_859, q_18, rfl⟩)) (wz_c (wz_sp (.invokestatic 43, [(0, 135)]) rfl (⟨Or.inl q_877, q_878, rfl⟩)) (wz_c (wz_sp (.invokevirtual 39, [(10, 130)]) rfl (⟨_, rfl, q_857, q_859, q_18, rfl⟩)) (wz_c (wz_sp (.getfield 34, [(10, 12)]) rfl (⟨_, rfl, by decide, q_822⟩)) (wz_c (wz_sp (.getfield 9, [(10, 0)]) rfl (⟨_, rfl, by decide, q_810⟩)) (wz_c (wz_sp (.ldc 147, [(0, 1000000000)]) rfl (q_1022)) (wz_c (wz_sp (.invokestatic 58, [(0, 149)]) rfl (⟨Or.inl q_922, q_923, rfl⟩)) (wz_c (wz_sp (.getfield 34, [(10, 12)]) rfl (⟨_, rfl, by decide, q_822⟩)) (wz_c (wz_sp (.ldc 147, [(0, 1000000000)]) rfl (q_1022)) (wz_c (wz_sp (.getfield 9, [(10, 0)]) rfl (⟨_, rfl, by decide, q_810⟩)) (wz_c (wz_sp (.getfield 9, [(10, 0)]) rfl (⟨_, rfl, by decide, q_810⟩)) (wz_c (wz_sp (.getfield 34, [(10, 12)]) rfl (⟨_, rfl, by decide, q_822⟩)) (wz_c (wz_sp (.getfield 34, [(10, 12)]) rfl (⟨_, rfl, by decide, q_822⟩)) (wz_c (wz_sp (.getfield 34, [(10, 12)]) rfl (⟨_, rfl, by decide, q_822⟩)) (wz_c (wz_sp (.getfield 9, [(10, 0)]) rfl (⟨_, rfl, by decide, q_810⟩)) (wz_c (wz_sp (.invokestatic 61, [(0, 151)]) rfl (⟨Or.inl q_928, q_929, rfl⟩)) (wz_c (wz_sp (.invokestatic 79, [(0, 154)]) rfl (⟨Or.inl q_937, q_938, rfl⟩)) (wz_c (wz_sp (.getfield 34, [(10, 12)]) rfl (⟨_, rfl, by decide, q_822⟩)) (wz_n)))))))))))))))))))
set_option maxRecDepth 100000 in
set_option maxHeartbeats 4000000 in
theorem mmkd_178 : wz_A (wz_PD 178 mmc_178) [] :=
  wz_n
theorem mmk_178 (pc : Nat) : ∀ x, mmc_178 pc = some x → mm_K 178 pc x := wz_fin mmkn_178 mmkw_178 mmkd_178 mmks_178 pc
set_option maxRecDepth 100000 in
theorem mmkw_179 : wz_w mmc_179 [1, 12, 21, 25, 28, 32, 36, 40] [] 67 (mm_by 179).data.toList 0 = true := by decide +kernel
set_option maxRecDepth 100000 in
set_option maxHeartbeats 4000000 in
theorem mmkn_179 (pc : Nat) (h : 67 ≤ pc) : mmc_179 pc = none :=
  wz_rs h rfl (wz_rs h rfl (wz_rs h rfl (wz_rs h rfl (wz_rs h rfl (wz_re h rfl)))))
set_option maxRecDepth 100000 in
set_option maxHeartbeats 4000000 in
theorem mmks_179 : wz_A (wz_PS 179 mmc_179) [1, 12, 21, 25, 28, 32, 36, 40] :=
  wz_c (wz_sp (.invokevirtual 160, [(10, 180)]) rfl (⟨_, rfl, q_1039, q_1041, q_30, rfl⟩)) (wz_c (wz_sp (.getfield 9, [(10, 0)]) rfl (⟨_, rfl, by decide, q_810⟩)) (wz_c (wz_sp (.getfield 9, [(10, 0)]) rfl (⟨_, rfl, by decide, q_810⟩)) (wz_c (wz_sp (.getfield 13, [(10, 1)]) rfl (⟨_, rfl, by decide, q_811⟩)) (wz_c (wz_sp (.invokestatic 123, [(0, 138)]) rfl (⟨Or.inl q_887, q_888, rfl⟩)) (wz_c (wz_sp (.getfield 13, [(10, 1)]) rfl (⟨_, rfl, by decide, q_811⟩)) (wz_c (wz_sp (.invokestatic 163, [(0, 183)]) rfl (⟨Or.inl q_1050, q_1051, rfl⟩)) (wz_c (wz_sp (.invokevirtual 157, [(10, 181)]) rfl (⟨_, rfl, q_1043, q_1045, q_31, rfl⟩)) (wz_n))))))))
set_option maxRecDepth 100000 in
set_option maxHeartbeats 4000000 in
theorem mmkd_179 : wz_A (wz_PD 179 mmc_179) [] :=
  wz_n
theorem mmk_179 (pc : Nat) : ∀ x, mmc_179 pc = some x → mm_K 179 pc x := wz_fin mmkn_179 mmkw_179 mmkd_179 mmks_179 pc
set_option maxRecDepth 100000 in
theorem mmkw_180 : wz_w mmc_180 [1, 5, 8, 12] [] 16 (mm_by 180).data.toList 0 = true := by decide +kernel
set_option maxRecDepth 100000 in
set_option maxHeartbeats 4000000 in
theorem mmkn_180 (pc : Nat) (h : 16 ≤ pc) : mmc_180 pc = none :=
  wz_rs h rfl (wz_rs h rfl (wz_rs h rfl (wz_re h rfl)))
set_option maxRecDepth 100000 in
set_option maxHeartbeats 4000000 in
theorem mmks_180 : wz_A (wz_PS 180 mmc_180) [1, 5, 8, 12] :=
  wz_c (wz_sp (.getfield 9, [(10, 0)]) rfl (⟨_, rfl, by decide, q_810⟩)) (wz_c (wz_sp (.getfield 13, [(10, 1)]) rfl (⟨_, rfl, by decide, q_811⟩)) (wz_c (wz_sp (.invokestatic 123, [(0, 138)]) rfl (⟨Or.inl q_887, q_888, rfl⟩)) (wz_c (wz_sp (.invokevirtual 157, [(10, 181)]) rfl (⟨_, rfl, q_1043, q_1045, q_31, rfl⟩)) (wz_n))))
set_option maxRecDepth 100000 in
set_option maxHeartbeats 4000000 in
theorem mmkd_180 : wz_A (wz_PD 180 mmc_180) [] :=
  wz_n
theorem mmk_180 (pc : Nat) : ∀ x, mmc_180 pc = some x → mm_K 180 pc x := wz_fin mmkn_180 mmkw_180 mmkd_180 mmks_180 pc
set_option maxRecDepth 100000 in
theorem mmkw_181 : wz_w mmc_181 [2, 7, 10] [] 14 (mm_by 181).data.toList 0 = true := by decide +kernel
set_option maxRecDepth 100000 in
set_option maxHeartbeats 4000000 in
theorem mmkn_181 (pc : Nat) (h : 14 ≤ pc) : mmc_181 pc = none :=
  wz_rs h rfl (wz_rs h rfl (wz_rs h rfl (wz_re h rfl)))
set_option maxRecDepth 100000 in
set_option maxHeartbeats 4000000 in
theorem mmks_181 : wz_A (wz_PS 181 mmc_181) [2, 7, 10] :=
  wz_c (wz_sp (.getfield 13, [(10, 1)]) rfl (⟨_, rfl, by decide, q_811⟩)) (wz_c (wz_sp (.invokevirtual 144, [(10, 173)]) rfl (⟨_, rfl, q_1010, q_1012, q_27, rfl⟩)) (wz_c (wz_sp (.invokestatic 154, [(0, 182)]) rfl (⟨Or.inl q_1047, q_1048, rfl⟩)) (wz_n)))
set_option maxRecDepth 100000 in
set_option maxHeartbeats 4000000 in
theorem mmkd_181 : wz_A (wz_PD 181 mmc_181) [] :=
  wz_n
theorem mmk_181 (pc : Nat) : ∀ x, mmc_181 pc = some x → mm_K 181 pc x := wz_fin mmkn_181 mmkw_181 mmkd_181 mmks_181 pc
set_option maxRecDepth 100000 in
theorem mmkw_182 : wz_w mmc_182 [] [] 11 (mm_by 182).data.toList 0 = true := by decide +kernel
set_option maxRecDepth 100000 in
set_option maxHeartbeats 4000000 in
theorem mmkn_182 (pc : Nat) (h : 11 ≤ pc) : mmc_182 pc = none :=
  wz_rs h rfl (wz_rs h rfl (wz_rs h rfl (wz_re h rfl)))
set_option maxRecDepth 100000 in
set_option maxHeartbeats 4000000 in
theorem mmks_182 : wz_A (wz_PS 182 mmc_182) [] :=
  wz_n
set_option maxRecDepth 100000 in
set_option maxHeartbeats 4000000 in
theorem mmkd_182 : wz_A (wz_PD 182 mmc_182) [] :=
  wz_n
theorem mmk_182 (pc : Nat) : ∀ x, mmc_182 pc = some x → mm_K 182 pc x := wz_fin mmkn_182 mmkw_182 mmkd_182 mmks_182 pc
set_option maxRecDepth 100000 in
theorem mmkw_183 : wz_w mmc_183 [2] [] 36 (mm_by 183).data.toList 0 = true := by decide +kernel
set_option maxRecDepth 100000 in
set_option maxHeartbeats 4000000 in
theorem mmkn_183 (pc : Nat) (h : 36 ≤ pc) : mmc_183 pc = none :=
  wz_rs h rfl (wz_rs h rfl (wz_rs h rfl (wz_rs h rfl (wz_rs h rfl (wz_re h rfl)))))
set_option maxRecDepth 100000 in
set_option maxHeartbeats 4000000 in
theorem mmks_183 : wz_A (wz_PS 183 mmc_183) [2] :=
  wz_c (wz_sp (.invokestatic 65, [(0, 144)]) rfl (⟨Or.inl q_907, q_908, rfl⟩)) (wz_n)
set_option maxRecDepth 100000 in
set_option maxHeartbeats 4000000 in
theorem mmkd_183 : wz_A (wz_PD 183 mmc_183) [] :=
  wz_n
theorem mmk_183 (pc : Nat) : ∀ x, mmc_183 pc = some x → mm_K 183 pc x := wz_fin mmkn_183 mmkw_183 mmkd_183 mmks_183 pc
set_option maxRecDepth 100000 in
theorem mmkw_184 : wz_w mmc_184 [1, 17, 24, 34, 38, 41, 45, 60] [56] 87 (mm_by 184).data.toList 0 = true := by decide +kernel
set_option maxRecDepth 100000 in
set_option maxHeartbeats 4000000 in
theorem mmkn_184 (pc : Nat) (h : 87 ≤ pc) : mmc_184 pc = none :=
  wz_rs h rfl (wz_rs h rfl (wz_rs h rfl (wz_re h rfl)))
set_option maxRecDepth 100000 in
set_option maxHeartbeats 4000000 in
theorem mmks_184 : wz_A (wz_PS 184 mmc_184) [1, 17, 24, 34, 38, 41, 45, 60] :=
  wz_c (wz_sp (.invokevirtual 160, [(10, 180)]) rfl (⟨_, rfl, q_1039, q_1041, q_30, rfl⟩)) (wz_c (wz_sp (.getfield 9, [(10, 0)]) rfl (⟨_, rfl, by decide, q_810⟩)) (wz_c (wz_sp (.invokestatic 61, [(0, 151)]) rfl (⟨Or.inl q_928, q_929, rfl⟩)) (wz_c (wz_sp (.getfield 9, [(10, 0)]) rfl (⟨_, rfl, by decide, q_810⟩)) (wz_c (wz_sp (.getfield 13, [(10, 1)]) rfl (⟨_, rfl, by decide, q_811⟩)) (wz_c (wz_sp (.invokestatic 123, [(0, 138)]) rfl (⟨Or.inl q_887, q_888, rfl⟩)) (wz_c (wz_sp (.getfield 13, [(10, 1)]) rfl (⟨_, rfl, by decide, q_811⟩)) (wz_c (wz_sp (.invokevirtual 157, [(10, 181)]) rfl (⟨_, rfl, q_1043, q_1045, q_31, rfl⟩)) (wz_n))))))))
set_option maxRecDepth 100000 in
set_option maxHeartbeats 4000000 in
theorem mmkd_184 : wz_A (wz_PD 184 mmc_184) [56] :=
  wz_c (wz_sd (.ixor, []) 1 rfl (by decide +kernel) (Or.inl rfl)) (wz_n)
theorem mmk_184 (pc : Nat) : ∀ x, mmc_184 pc = some x → mm_K 184 pc x := wz_fin mmkn_184 mmkw_184 mmkd_184 mmks_184 pc
set_option maxRecDepth 100000 in
theorem mmkw_185 : wz_w mmc_185 [1, 17, 21, 24, 28, 38] [] 65 (mm_by 185).data.toList 0 = true := by decide +kernel
set_option maxRecDepth 100000 in
set_option maxHeartbeats 4000000 in
theorem mmkn_185 (pc : Nat) (h : 65 ≤ pc) : mmc_185 pc = none :=
  wz_rs h rfl (wz_rs h rfl (wz_rs h rfl (wz_rs h rfl (wz_rs h rfl (wz_re h rfl)))))
set_option maxRecDepth 100000 in
set_option maxHeartbeats 4000000 in
theorem mmks_185 : wz_A (wz_PS 185 mmc_185) [1, 17, 21, 24, 28, 38] :=
  wz_c (wz_sp (.invokevirtual 160, [(10, 180)]) rfl (⟨_, rfl, q_1039, q_1041, q_30, rfl⟩)) (wz_c (wz_sp (.getfield 9, [(10, 0)]) rfl (⟨_, rfl, by decide, q_810⟩)) (wz_c (wz_sp (.getfield 13, [(10, 1)]) rfl (⟨_, rfl, by decide, q_811⟩)) (wz_c (wz_sp (.invokestatic 123, [(0, 138)]) rfl (⟨Or.inl q_887, q_888, rfl⟩)) (wz_c (wz_sp (.getfield 13, [(10, 1)]) rfl (⟨_, rfl, by decide, q_811⟩)) (wz_c (wz_sp (.invokevirtual 157, [(10, 181)]) rfl (⟨_, rfl, q_1043, q_1045, q_31, rfl⟩)) (wz_n))))))
set_option maxRecDepth 100000 in
set_option maxHeartbeats 4000000 in
theorem mmkd_185 : wz_A (wz_PD 185 mmc_185) [] :=
  wz_n
theorem mmk_185 (pc : Nat) : ∀ x, mmc_185 pc = some x → mm_K 185 pc x := wz_fin mmkn_185 mmkw_185 mmkd_185 mmks_185 pc
set_option maxRecDepth 100000 in
theorem mmkw_186 : wz_w mmc_186 [8, 12, 15, 19, 26] [] 45 (mm_by 186).data.toList 0 = true := by decide +kernel
set_option maxRecDepth 100000 in
set_option maxHeartbeats 4000000 in
theorem mmkn_186 (pc : Nat) (h : 45 ≤ pc) : mmc_186 pc = none :=
  wz_rs h rfl (wz_rs h rfl (wz_rs h rfl (wz_rs h rfl (wz_re h rfl))))
set_option maxRecDepth 100000 in
set_option maxHeartbeats 4000000 in
theorem mmks_186 : wz_A (wz_PS 186 mmc_186) [8, 12, 15, 19, 26] :=
  wz_c (wz_sp (.getfield 9, [(10, 0)]) rfl (⟨_, rfl, by decide, q_810⟩)) (wz_c (wz_sp (.getfield 13, [(10, 1)]) rfl (⟨_, rfl, by decide, q_811⟩)) (wz_c (wz_sp (.invokestatic 123, [(0, 138)]) rfl (⟨Or.inl q_887, q_888, rfl⟩)) (wz_c (wz_sp (.getfield 13, [(10, 1)]) rfl (⟨_, rfl, by decide, q_811⟩)) (wz_c (wz_sp (.invokevirtual 157, [(10, 181)]) rfl (⟨_, rfl, q_1043, q_1045, q_31, rfl⟩)) (wz_n)))))
set_option maxRecDepth 100000 in
set_option maxHeartbeats 4000000 in
theorem mmkd_186 : wz_A (wz_PD 186 mmc_186) [] :=
  wz_n
theorem mmk_186 (pc : Nat) : ∀ x, mmc_186 pc = some x → mm_K 186 pc x := wz_fin mmkn_186 mmkw_186 mmkd_186 mmks_186 pc
set_option maxRecDepth 100000 in
theorem mmkw_187 : wz_w mmc_187 [3, 12, 35, 47, 51, 54, 58, 66] [] 106 (mm_by 187).data.toList 0 = true := by decide +kernel
set_option maxRecDepth 100000 in
set_option maxHeartbeats 4000000 in
theorem mmkn_187 (pc : Nat) (h : 106 ≤ pc) : mmc_187 pc = none :=
  wz_rs h rfl (wz_rs h rfl (wz_rs h rfl (wz_rs h rfl (wz_rs h rfl (wz_re h rfl)))))
set_option maxRecDepth 100000 in
set_option maxHeartbeats 4000000 in
theorem mmks_187 : wz_A (wz_PS 187 mmc_187) [3, 12, 35, 47, 51, 54, 58, 66] :=
  wz_c (wz_sp (.invokestatic 43, [(0, 135)]) rfl (⟨Or.inl q_877, q_878, rfl⟩)) (wz_c (wz_sp (.invokevirtual 39, [(10, 130)]) rfl (⟨_, rfl, q_857, q_859, q_18, rfl⟩)) (wz_c (wz_sp (.getfield 9, [(10, 0)]) rfl (⟨_, rfl, by decide, q_810⟩)) (wz_c (wz_sp (.getfield 9, [(10, 0)]) rfl (⟨_, rfl, by decide, q_810⟩)) (wz_c (wz_sp (.getfield 13, [(10, 1)]) rfl (⟨_, rfl, by decide, q_811⟩)) (wz_c (wz_sp (.invokestatic 123, [(0, 138)]) rfl (⟨Or.inl q_887, q_888, rfl⟩)) (wz_c (wz_sp (.getfield 13, [(10, 1)]) rfl (⟨_, rfl, by decide, q_811⟩)) (wz_c (wz_sp (.invokevirtual 157, [(10, 181)]) rfl (⟨_, rfl, q_1043, q_1045, q_31, rfl⟩)) (wz_n))))))))
set_option maxRecDepth 100000 in
set_option maxHeartbeats 4000000 in
theorem mmkd_187 : wz_A (wz_PD 187 mmc_187) [] :=
  wz_n
theorem mmk_187 (pc : Nat) : ∀ x, mmc_187 pc = some x → mm_K 187 pc x := wz_fin mmkn_187 mmkw_187 mmkd_187 mmks_187 pc
set_option maxRecDepth 100000 in
theorem mmkw_188 : wz_w mmc_188 [2, 10, 17, 26, 48, 52, 55, 59, 64, 71] [] 114 (mm_by 188).data.toList 0 = true := by decide +kernel
set_option maxRecDepth 100000 in
set_option maxHeartbeats 4000000 in
theorem mmkn_188 (pc : Nat) (h : 114 ≤ pc) : mmc_188 pc = none :=
  wz_rs h rfl (wz_rs h rfl (wz_rs h rfl (wz_rs h rfl (wz_rs h rfl (wz_rs h rfl (wz_re h rfl))))))
set_option maxRecDepth 100000 in
set_option maxHeartbeats 4000000 in
theorem mmks_188 : wz_A (wz_PS 188 mmc_188) [2, 10, 17, 26, 48, 52, 55, 59, 64, 71] :=
  wz_c (wz_sp (.invokevirtual 114, [(10, 142)]) rfl (⟨_, rfl, q_900, q_902, q_24, rfl⟩)) (wz_c (wz_sp (.invokevirtual 39, [(10, 130)]) rfl (⟨_, rfl, q_857, q_859, q_18, rfl⟩)) (wz_c (wz_sp (.invokestatic 43, [(0, 135)]) rfl (⟨Or.inl q_877, q_878, rfl⟩)) (wz_c (wz_sp (.invokevirtual 39, [(10, 130)]) rfl (⟨_, rfl, q_857, q_859, q_18, rfl⟩)) (wz_c (wz_sp (.getfield 9, [(10, 0)]) rfl (⟨_, rfl, by decide, q_810⟩)) (wz_c (wz_sp (.getfield 13, [(10, 1)]) rfl (⟨_, rfl, by decide, q_811⟩)) (wz_c (wz_sp (.invokestatic 123, [(0, 138)]) rfl (⟨Or.inl q_887, q_888, rfl⟩)) (wz_c (wz_sp (.getfield 13, [(10, 1)]) rfl (⟨_, rfl, by decide, q_811⟩)) (wz_c (wz_sp (.invokestatic 47, [(0, 141)]) rfl (⟨Or.inl q_897, q_898, rfl⟩)) (wz_c (wz_sp (.invokevirtual 157, [(10, 181)]) rfl (⟨_, rfl, q_1043, q_1045, q_31, rfl⟩)) (wz_n))))))))))
set_option maxRecDepth 100000 in
set_option maxHeartbeats 4000000 in
theorem mmkd_188 : wz_A (wz_PD 188 mmc_188) [] :=
  wz_n
theorem mmk_188 (pc : Nat) : ∀ x, mmc_188 pc = some x → mm_K 188 pc x := wz_fin mmkn_188 mmkw_188 mmkd_188 mmks_188 pc
set_option maxRecDepth 100000 in
theorem mmkw_189 : wz_w mmc_189 [3, 12, 17, 24, 47, 57, 74, 82, 98, 114, 139, 148, 171, 177] [] 186 (mm_by 189).data.toList 0 = true := by decide +kernel
set_option maxRecDepth 100000 in
set_option maxHeartbeats 4000000 in
theorem mmkn_189 (pc : Nat) (h : 186 ≤ pc) : mmc_189 pc = none :=
  wz_rs h rfl (wz_rs h rfl (wz_rs h rfl (wz_rs h rfl (wz_rs h rfl (wz_rs h rfl (wz_rs h rfl (wz_re h rfl)))))))
set_option maxRecDepth 100000 in
set_option maxHeartbeats 4000000 in
theorem mmks_189 : wz_A (wz_PS 189 mmc_189) [3, 12, 17, 24, 47, 57, 74, 82, 98, 114, 139, 148, 171, 177] :=
  wz_c (wz_sp (.invokestatic 43, [(0, 135)]) rfl (⟨Or.inl q_877, q_878, rfl⟩)) (wz_c (wz_sp (.invokevirtual 39, [(10, 130)]) rfl (⟨_, rfl, q_857, q_859, q_18, rfl⟩)) (wz_c (wz_sp (.getfield 9, [(10, 0)]) rfl (⟨_, rfl, by decide, q_810⟩)) (wz_c (wz_sp (.getfield 9, [(10, 0)]) rfl (⟨_, rfl, by decide, q_810⟩)) (wz_c (wz_sp (.getfield 9, [(10, 0)]) rfl (⟨_, rfl, by decide, q_810⟩)) (wz_c (wz_sp (.getfield 9, [(10, 0)]) rfl (⟨_, rfl, by decide, q_810⟩)) (wz_c (wz_sp (.getfield 9, [(10, 0)]) rfl (⟨_, rfl, by decide, q_810⟩)) (wz_c (wz_sp (.invokestatic 61, [(0, 151)]) rfl (⟨Or.inl q_928, q_929, rfl⟩)) (wz_c (wz_sp (.invokestatic 166, [(0, 190)]) rfl (⟨Or.inl q_1077, q_1078, rfl⟩)) (wz_c (wz_sp (.invokestatic 166, [(0, 190)]) rfl (⟨Or.inl q_1077, q_1078, rfl⟩)) (wz_c (wz_sp (.invokestatic 169, [(0, 191)]) rfl (⟨Or.inl q_1080, q_1081, rfl⟩)) (wz_c (wz_sp (.invokestatic 169, [(0, 191)]) rfl (⟨Or.inl q_1080, q_1081, rfl⟩)) (wz_c (wz_sp (.getfield 9, [(10, 0)]) rfl (⟨_, rfl, by decide, q_810⟩)) (wz_c (wz_sp (.invokestatic 172, [(0, 192)]) rfl (⟨Or.inl q_1083, q_1084, rfl⟩)) (wz_n))))))))))))))
set_option maxRecDepth 100000 in
set_option maxHeartbeats 4000000 in
theorem mmkd_189 : wz_A (wz_PD 189 mmc_189) [] :=
  wz_n
theorem mmk_189 (pc : Nat) : ∀ x, mmc_189 pc = some x → mm_K 189 pc x := wz_fin mmkn_189 mmkw_189 mmkd_189 mmks_189 pc
set_option maxRecDepth 100000 in
theorem mmkw_190 : wz_w mmc_190 [8, 17] [] 21 (mm_by 190).data.toList 0 = true := by decide +kernel
set_option maxRecDepth 100000 in
set_option maxHeartbeats 4000000 in
theorem mmkn_190 (pc : Nat) (h : 21 ≤ pc) : mmc_190 pc = none :=
  wz_rs h rfl (wz_rs h rfl (wz_rs h rfl (wz_rs h rfl (wz_re h rfl))))
set_option maxRecDepth 100000 in
set_option maxHeartbeats 4000000 in
theorem mmks_190 : wz_A (wz_PS 190 mmc_190) [8, 17] :=
  wz_c (wz_sp (.invokestatic 43, [(0, 135)]) rfl (⟨Or.inl q_877, q_878, rfl⟩)) (wz_c (wz_sp (.invokestatic 43, [(0, 135)]) rfl (⟨Or.inl q_877, q_878, rfl⟩)) (wz_n))
set_option maxRecDepth 100000 in
set_option maxHeartbeats 4000000 in
theorem mmkd_190 : wz_A (wz_PD 190 mmc_190) [] :=
  wz_n
theorem mmk_190 (pc : Nat) : ∀ x, mmc_190 pc = some x → mm_K 190 pc x := wz_fin mmkn_190 mmkw_190 mmkd_190 mmks_190 pc
set_option maxRecDepth 100000 in
theorem mmkw_191 : wz_w mmc_191 [] [] 15 (mm_by 191).data.toList 0 = true := by decide +kernel
set_option maxRecDepth 100000 in
set_option maxHeartbeats 4000000 in
theorem mmkn_191 (pc : Nat) (h : 15 ≤ pc) : mmc_191 pc = none :=
  wz_rs h rfl (wz_rs h rfl (wz_rs h rfl (wz_rs h rfl (wz_re h rfl))))
set_option maxRecDepth 100000 in
set_option maxHeartbeats 4000000 in
theorem mmks_191 : wz_A (wz_PS 191 mmc_191) [] :=
  wz_n
set_option maxRecDepth 100000 in
set_option maxHeartbeats 4000000 in
theorem mmkd_191 : wz_A (wz_PD 191 mmc_191) [] :=
  wz_n
theorem mmk_191 (pc : Nat) : ∀ x, mmc_191 pc = some x → mm_K 191 pc x := wz_fin mmkn_191 mmkw_191 mmkd_191 mmks_191 pc
set_option maxRecDepth 100000 in
theorem mmkw_192 : wz_w mmc_192 [] [] 26 (mm_by 192).data.toList 0 = true := by decide +kernel
set_option maxRecDepth 100000 in
set_option maxHeartbeats 4000000 in
theorem mmkn_192 (pc : Nat) (h : 26 ≤ pc) : mmc_192 pc = none :=
  wz_rs h rfl (wz_rs h rfl (wz_rs h rfl (wz_re h rfl)))
set_option maxRecDepth 100000 in
set_option maxHeartbeats 4000000 in
theorem mmks_192 : wz_A (wz_PS 192 mmc_192) [] :=
  wz_n
set_option maxRecDepth 100000 in
set_option maxHeartbeats 4000000 in
theorem mmkd_192 : wz_A (wz_PD 192 mmc_192) [] :=
  wz_n
theorem mmk_192 (pc : Nat) : ∀ x, mmc_192 pc = some x → mm_K 192 pc x := wz_fin mmkn_192 mmkw_192 mmkd_192 mmks_192 pc
set_option maxRecDepth 100000 in
theorem mmkw_193 : wz_w mmc_193 [3, 12, 27, 37, 42, 46, 72, 78, 83, 88, 109] [] 126 (mm_by 193).data.toList 0 = true := by decide +kernel
set_option maxRecDepth 100000 in
set_option maxHeartbeats 4000000 in
theorem mmkn_193 (pc : Nat) (h : 126 ≤ pc) : mmc_193 pc = none :=
  wz_rs h rfl (wz_rs h rfl (wz_rs h rfl (wz_rs h rfl (wz_rs h rfl (wz_rs h rfl (wz_re h rfl))))))
set_option maxRecDepth 100000 in
set_option maxHeartbeats 4000000 in
theorem mmks_193 : wz_A (wz_PS 193 mmc_193) [3, 12, 27, 37, 42, 46, 72, 78, 83, 88, 109] :=
  wz_c (wz_sp (.invokestatic 43, [(0, 135)]) rfl (⟨Or.inl q_877, q_878, rfl⟩)) (wz_c (wz_sp (.invokevirtual 39, [(10, 130)]) rfl (⟨_, rfl, q_857, q_859, q_18, rfl⟩)) (wz_c (wz_sp (.getfield 9, [(10, 0)]) rfl (⟨_, rfl, by decide, q_810⟩)) (wz_c (wz_sp (.getfield 9, [(10, 0)]) rfl (⟨_, rfl, by decide, q_810⟩)) (wz_c (wz_sp (.invokestatic 76, [(0, 152)]) rfl (⟨Or.inl q_931, q_932, rfl⟩)) (wz_c (wz_sp (.getfield 9, [(10, 0)]) rfl (⟨_, rfl, by decide, q_810⟩)) (wz_c (wz_sp (.getfield 9, [(10, 0)]) rfl (⟨_, rfl, by decide, q_810⟩)) (wz_c (wz_sp (.invokestatic 47, [(0, 141)]) rfl (⟨Or.inl q_897, q_898, rfl⟩)) (wz_c (wz_sp (.getfield 9, [(10, 0)]) rfl (⟨_, rfl, by decide, q_810⟩)) (wz_c (wz_sp (.invokestatic 47, [(0, 141)]) rfl (⟨Or.inl q_897, q_898, rfl⟩)) (wz_c (wz_sp (.invokevirtual 175, [(10, 194)]) rfl (⟨_, rfl, q_1090, q_1092, q_32, rfl⟩)) (wz_n)))))))))))
set_option maxRecDepth 100000 in
set_option maxHeartbeats 4000000 in
theorem mmkd_193 : wz_A (wz_PD 193 mmc_193) [] :=
  wz_n
theorem mmk_193 (pc : Nat) : ∀ x, mmc_193 pc = some x → mm_K 193 pc x := wz_fin mmkn_193 mmkw_193 mmkd_193 mmks_193 pc
set_option maxRecDepth 100000 in
theorem mmkw_194 : wz_w mmc_194 [10, 19, 25, 35, 39, 43, 47, 53] [] 76 (mm_by 194).data.toList 0 = true := by decide +kernel
set_option maxRecDepth 100000 in
set_option maxHeartbeats 4000000 in
theorem mmkn_194 (pc : Nat) (h : 76 ≤ pc) : mmc_194 pc = none :=
  wz_rs h rfl (wz_rs h rfl (wz_rs h rfl (wz_rs h rfl (wz_rs h rfl (wz_rs h rfl (wz_re h rfl))))))
set_option maxRecDepth 100000 in
set_option maxHeartbeats 4000000 in
theorem mmks_194 : wz_A (wz_PS 194 mmc_194) [10, 19, 25, 35, 39, 43, 47, 53] :=
  wz_c (wz_sp (.getfield 9, [(10, 0)]) rfl (⟨_, rfl, by decide, q_810⟩)) (wz_c (wz_sp (.getfield 9, [(10, 0)]) rfl (⟨_, rfl, by decide, q_810⟩)) (wz_c (wz_sp (.invokestatic 58, [(0, 149)]) rfl (⟨Or.inl q_922, q_923, rfl⟩)) (wz_c (wz_sp (.getfield 9, [(10, 0)]) rfl (⟨_, rfl, by decide, q_810⟩)) (wz_c (wz_sp (.invokestatic 73, [(0, 150)]) rfl (⟨Or.inl q_925, q_926, rfl⟩)) (wz_c (wz_sp (.getfield 9, [(10, 0)]) rfl (⟨_, rfl, by decide, q_810⟩)) (wz_c (wz_sp (.getfield 9, [(10, 0)]) rfl (⟨_, rfl, by decide, q_810⟩)) (wz_c (wz_sp (.invokestatic 76, [(0, 152)]) rfl (⟨Or.inl q_931, q_932, rfl⟩)) (wz_n))))))))
set_option maxRecDepth 100000 in
set_option maxHeartbeats 4000000 in
theorem mmkd_194 : wz_A (wz_PD 194 mmc_194) [] :=
  wz_n
theorem mmk_194 (pc : Nat) : ∀ x, mmc_194 pc = some x → mm_K 194 pc x := wz_fin mmkn_194 mmkw_194 mmkd_194 mmks_194 pc
set_option maxRecDepth 100000 in
theorem mmkw_195 : wz_w mmc_195 [2, 10, 25, 42, 78, 90, 107, 119] [] 143 (mm_by 195).data.toList 0 = true := by decide +kernel
set_option maxRecDepth 100000 in
set_option maxHeartbeats 4000000 in
theorem mmkn_195 (pc : Nat) (h : 143 ≤ pc) : mmc_195 pc = none :=
  wz_rs h rfl (wz_rs h rfl (wz_rs h rfl (wz_rs h rfl (wz_rs h rfl (wz_rs h rfl (wz_re h rfl))))))
set_option maxRecDepth 100000 in
set_option maxHeartbeats 4000000 in
theorem mmks_195 : wz_A (wz_PS 195 mmc_195) [2, 10, 25, 42, 78, 90, 107, 119] :=
  wz_c (wz_sp (.invokevirtual 114, [(10, 142)]) rfl (⟨_, rfl, q_900, q_902, q_24, rfl⟩)) (wz_c (wz_sp (.invokevirtual 114, [(10, 142)]) rfl (⟨_, rfl, q_900, q_902, q_24, rfl⟩)) (wz_c (wz_sp (.invokestatic 130, [(0, 159)]) rfl (⟨Or.inl q_956, q_957, rfl⟩)) (wz_c (wz_sp (.invokevirtual 39, [(10, 130)]) rfl (⟨_, rfl, q_857, q_859, q_18, rfl⟩)) (wz_c (wz_sp (.invokevirtual 178, [(10, 196)]) rfl (⟨_, rfl, q_1098, q_1100, q_33, rfl⟩)) (wz_c (wz_sp (.invokevirtual 178, [(10, 196)]) rfl (⟨_, rfl, q_1098, q_1100, q_33, rfl⟩)) (wz_c (wz_sp (.invokevirtual 178, [(10, 196)]) rfl (⟨_, rfl, q_1098, q_1100, q_33, rfl⟩)) (wz_c (wz_sp (.invokevirtual 178, [(10, 196)]) rfl (⟨_, rfl, q_1098, q_1100, q_33, rfl⟩)) (wz_n))))))))
set_option maxRecDepth 100000 in
set_option maxHeartbeats 4000000 in
theorem mmkd_195 : wz_A (wz_PD 195 mmc_195) [] :=
  wz_n
theorem mmk_195 (pc : Nat) : ∀ x, mmc_195 pc = some x → mm_K 195 pc x := wz_fin mmkn_195 mmkw_195 mmkd_195 mmks_195 pc
set_option maxRecDepth 100000 in
theorem mmkw_196 : wz_w mmc_196 [1, 5, 8, 14, 45, 50, 70, 75, 79, 84, 88, 93, 98, 103] [] 121 (mm_by 196).data.toList 0 = true := by decide +kernel
set_option maxRecDepth 100000 in
set_option maxHeartbeats 4000000 in
theorem mmkn_196 (pc : Nat) (h : 121 ≤ pc) : mmc_196 pc = none :=
  wz_rs h rfl (wz_rs h rfl (wz_rs h rfl (wz_rs h rfl (wz_rs h rfl (wz_rs h rfl (wz_re h rfl))))))
set_option maxRecDepth 100000 in
set_option maxHeartbeats 4000000 in
theorem mmks_196 : wz_A (wz_PS 196 mmc_196) [1, 5, 8, 14, 45, 50, 70, 75, 79, 84, 88, 93, 98, 103] :=
  wz_c (wz_sp (.getfield 9, [(10, 0)]) rfl (⟨_, rfl, by decide, q_810⟩)) (wz_c (wz_sp (.getfield 13, [(10, 1)]) rfl (⟨_, rfl, by decide, q_811⟩)) (wz_c (wz_sp (.invokestatic 123, [(0, 138)]) rfl (⟨Or.inl q_887, q_888, rfl⟩)) (wz_c (wz_sp (.invokestatic 79, [(0, 154)]) rfl (⟨Or.inl q_937, q_938, rfl⟩)) (wz_c (wz_sp (.getfield 13, [(10, 1)]) rfl (⟨_, rfl, by decide, q_811⟩)) (wz_c (wz_sp (.invokestatic 82, [(0, 143)]) rfl (⟨Or.inl q_904, q_905, rfl⟩)) (wz_c (wz_sp (.getfield 13, [(10, 1)]) rfl (⟨_, rfl, by decide, q_811⟩)) (wz_c (wz_sp (.invokestatic 82, [(0, 143)]) rfl (⟨Or.inl q_904, q_905, rfl⟩)) (wz_c (wz_sp (.getfield 13, [(10, 1)]) rfl (⟨_, rfl, by decide, q_811⟩)) (wz_c (wz_sp (.invokestatic 117, [(0, 145)]) rfl (⟨Or.inl q_910, q_911, rfl⟩)) (wz_c (wz_sp (.getfield 13, [(10, 1)]) rfl (⟨_, rfl, by decide, q_811⟩)) (wz_c (wz_sp (.invokestatic 47, [(0, 141)]) rfl (⟨Or.inl q_897, q_898, rfl⟩)) (wz_c (wz_sp (.getfield 9, [(10, 0)]) rfl (⟨_, rfl, by decide, q_810⟩)) (wz_c (wz_sp (.invokestatic 47, [(0, 141)]) rfl (⟨Or.inl q_897, q_898, rfl⟩)) (wz_n))))))))))))))
set_option maxRecDepth 100000 in
set_option maxHeartbeats 4000000 in
theorem mmkd_196 : wz_A (wz_PD 196 mmc_196) [] :=
  wz_n
theorem mmk_196 (pc : Nat) : ∀ x, mmc_196 pc = some x → mm_K 196 pc x := wz_fin mmkn_196 mmkw_196 mmkd_196 mmks_196 pc
set_option maxRecDepth 100000 in
theorem mmkw_197 : wz_w mmc_197 [1, 9, 25, 44, 52, 61, 108, 112, 115, 133, 151, 158, 169, 181, 211] [65, 68, 84, 104, 139, 147, 195, 196] 215 (mm_by 197).data.toList 0 = true := by decide +kernel
set_option maxRecDepth 100000 in
set_option maxHeartbeats 4000000 in
theorem mmkn_197 (pc : Nat) (h : 215 ≤ pc) : mmc_197 pc = none :=
  wz_rs h rfl (wz_rs h rfl (wz_rs h rfl (wz_rs h rfl (wz_re h rfl))))
set_option maxRecDepth 100000 in
set_option maxHeartbeats 4000000 in
theorem mmks_197 : wz_A (wz_PS 197 mmc_197) [1, 9, 25, 44, 52, 61, 108, 112, 115, 133, 151, 158, 169, 181, 211] :=
  wz_c (wz_sp (.invokestatic 110, [(0, 140)]) rfl (⟨Or.inl q_894, q_895, rfl⟩)) (wz_c (wz_sp (.invokevirtual 186, [(10, 198)]) rfl (⟨_, rfl, q_1106, q_1108, q_34, rfl⟩)) (wz_c (wz_sp (.invokevirtual 186, [(10, 198)]) rfl (⟨_, rfl, q_1106, q_1108, q_34, rfl⟩)) (wz_c (wz_sp (.invokevirtual 186, [(10, 198)]) rfl (⟨_, rfl, q_1106, q_1108, q_34, rfl⟩)) (wz_c (wz_sp (.invokestatic 43, [(0, 135)]) rfl (⟨Or.inl q_877, q_878, rfl⟩)) (wz_c (wz_sp (.invokevirtual 186, [(10, 198)]) rfl (⟨_, rfl, q_1106, q_1108, q_34, rfl⟩)) (wz_c (wz_sp (.getfield 9, [(10, 0)]) rfl (⟨_, rfl, by decide, q_810⟩)) (wz_c (wz_sp (.getfield 13, [(10, 1)]) rfl (⟨_, rfl, by decide, q_811⟩)) (wz_c (wz_sp (.invokestatic 123, [(0, 138)]) rfl (⟨Or.inl q_887, q_888, rfl⟩)) (wz_c (wz_sp (.invokestatic 61, [(0, 151)]) rfl (⟨Or.inl q_928, q_929, rfl⟩)) (wz_c (wz_sp (.getfield 13, [(10, 1)]) rfl (⟨_, rfl, by decide, q_811⟩)) (wz_c (wz_sp (.invokestatic 61, [(0, 151)]) rfl (⟨Or.inl q_928, q_929, rfl⟩)) (wz_c (wz_sp (.invokestatic 86, [(0, 146)]) rfl (⟨Or.inl q_913, q_914, rfl⟩)) (wz_c (wz_sp (.getfield 13, [(10, 1)]) rfl (⟨_, rfl, by decide, q_811⟩)) (wz_c (wz_sp (.invokestatic 190, [(0, 199)]) rfl (⟨Or.inl q_1111, q_1112, rfl⟩)) (wz_n)))))))))))))))
set_option maxRecDepth 100000 in
set_option maxHeartbeats 4000000 in
theorem mmkd_197 : wz_A (wz_PD 197 mmc_197) [65, 68, 84, 104, 139, 147, 195, 196] :=
  wz_c (wz_sd (.lconst 0, []) 1 rfl (by decide +kernel) (Or.inl rfl)) (wz_c (wz_sd (.lconst 1, []) 1 rfl (by decide +kernel) (Or.inl rfl)) (wz_c (wz_sd (.lmul, []) 1 rfl (by decide +kernel) (Or.inl rfl)) (wz_c (wz_sd (.lconst 1, []) 1 rfl (by decide +kernel) (Or.inl rfl)) (wz_c (wz_sd (.lconst 1, []) 1 rfl (by decide +kernel) (Or.inl rfl)) (wz_c (wz_sd (.lmul, []) 1 rfl (by decide +kernel) (Or.inl rfl)) (wz_c (wz_sd (.lconst 0, []) 1 rfl (by decide +kernel) (Or.inl rfl)) (wz_c (wz_sd (.ladd, []) 1 rfl (by decide +kernel) (Or.inl rfl)) (wz_n))))))))
theorem mmk_197 (pc : Nat) : ∀ x, mmc_197 pc = some x → mm_K 197 pc x := wz_fin mmkn_197 mmkw_197 mmkd_197 mmks_197 pc
set_option maxRecDepth 100000 in
theorem mmkw_198 : wz_w mmc_198 [0, 5] [0, 9] 11 (mm_by 198).data.toList 0 = true := by decide +kernel
set_option maxRecDepth 100000 in
set_option maxHeartbeats 4000000 in
theorem mmkn_198 (pc : Nat) (h : 11 ≤ pc) : mmc_198 pc = none :=
  wz_rs h rfl (wz_rs h rfl (wz_rs h rfl (wz_re h rfl)))
set_option maxRecDepth 100000 in
set_option maxHeartbeats 4000000 in
theorem mmks_198 : wz_A (wz_PS 198 mmc_198) [0, 5] :=
  wz_c (wz_sp (.ldc2_w 37, [(0, 4000000000000000000)]) rfl (q_1110)) (wz_c (wz_sp (.invokevirtual 39, [(10, 130)]) rfl (⟨_, rfl, q_857, q_859, q_18, rfl⟩)) (wz_n))
set_option maxRecDepth 100000 in
set_option maxHeartbeats 4000000 in
theorem mmkd_198 : wz_A (wz_PD 198 mmc_198) [0, 9] :=
  wz_c (wz_sd (.ldc2_w 37, [(0, 4000000000000000000)]) 3 rfl (by decide +kernel) (Or.inl rfl)) (wz_c (wz_sd (.lsub, []) 1 rfl (by decide +kernel) (Or.inl rfl)) (wz_n))
theorem mmk_198 (pc : Nat) : ∀ x, mmc_198 pc = some x → mm_K 198 pc x := wz_fin mmkn_198 mmkw_198 mmkd_198 mmks_198 pc
set_option maxRecDepth 100000 in
theorem mmkw_199 : wz_w mmc_199 [22] [0, 1, 2, 15, 19, 20, 21, 25] 27 (mm_by 199).data.toList 0 = true := by decide +kernel
set_option maxRecDepth 100000 in
set_option maxHeartbeats 4000000 in
theorem mmkn_199 (pc : Nat) (h : 27 ≤ pc) : mmc_199 pc = none :=
  wz_rs h rfl (wz_re h rfl)
set_option maxRecDepth 100000 in
set_option maxHeartbeats 4000000 in
theorem mmks_199 : wz_A (wz_PS 199 mmc_199) [22] :=
  wz_c (wz_sp (.invokestatic 182, [(0, 200)]) rfl (⟨Or.inl q_1114, q_1115, rfl⟩)) (wz_n)
set_option maxRecDepth 100000 in
set_option maxHeartbeats 4000000 in
theorem mmkd_199 : wz_A (wz_PD 199 mmc_199) [0, 1, 2, 15, 19, 20, 21, 25] :=
  wz_c (wz_sd (.lload_n 0, []) 1 rfl (by decide +kernel) (Or.inl rfl)) (wz_c (wz_sd (.lconst 0, []) 1 rfl (by decide +kernel) (Or.inl rfl)) (wz_c (wz_sd (.lcmp, []) 1 rfl (by decide +kernel) (Or.inl rfl)) (wz_c (wz_sd (.lload_n 0, []) 1 rfl (by decide +kernel) (Or.inl rfl)) (wz_c (wz_sd (.lload_n 2, []) 1 rfl (by decide +kernel) (Or.inl rfl)) (wz_c (wz_sd (.lload_n 0, []) 1 rfl (by decide +kernel) (Or.inl rfl)) (wz_c (wz_sd (.lload_n 2, []) 1 rfl (by decide +kernel) (Or.inl rfl)) (wz_c (wz_sd (.ldiv, []) 1 rfl (by decide +kernel) (Or.inl rfl)) (wz_n))))))))
theorem mmk_199 (pc : Nat) : ∀ x, mmc_199 pc = some x → mm_K 199 pc x := wz_fin mmkn_199 mmkw_199 mmkd_199 mmks_199 pc
set_option maxRecDepth 100000 in
theorem mmkw_200 : wz_w mmc_200 [] [0, 3, 8, 9, 17] 34 (mm_by 200).data.toList 0 = true := by decide +kernel
set_option maxRecDepth 100000 in
set_option maxHeartbeats 4000000 in
theorem mmkn_200 (pc : Nat) (h : 34 ≤ pc) : mmc_200 pc = none :=
  wz_rs h rfl (wz_rs h rfl (wz_rs h rfl (wz_re h rfl)))
set_option maxRecDepth 100000 in
set_option maxHeartbeats 4000000 in
theorem mmks_200 : wz_A (wz_PS 200 mmc_200) [] :=
  wz_n
set_option maxRecDepth 100000 in
set_option maxHeartbeats 4000000 in
theorem mmkd_200 : wz_A (wz_PD 200 mmc_200) [0, 3, 8, 9, 17] :=
  wz_c (wz_sd (.lload_n 0, []) 1 rfl (by decide +kernel) (Or.inl rfl)) (wz_c (wz_sd (.lload_n 2, []) 1 rfl (by decide +kernel) (Or.inl rfl)) (wz_c (wz_sd (.lconst 0, []) 1 rfl (by decide +kernel) (Or.inl rfl)) (wz_c (wz_sd (.lcmp, []) 1 rfl (by decide +kernel) (Or.inl rfl)) (wz_c (wz_sd (.lrem, []) 1 rfl (by decide +kernel) (Or.inl rfl)) (wz_n)))))
theorem mmk_200 (pc : Nat) : ∀ x, mmc_200 pc = some x → mm_K 200 pc x := wz_fin mmkn_200 mmkw_200 mmkd_200 mmks_200 pc
set_option maxRecDepth 100000 in
theorem mmkw_201 : wz_w mmc_201 [3, 12, 30, 49, 53] [16, 17, 28, 40, 41, 48, 49] 57 (mm_by 201).data.toList 0 = true := by decide +kernel
set_option maxRecDepth 100000 in
set_option maxHeartbeats 4000000 in
theorem mmkn_201 (pc : Nat) (h : 57 ≤ pc) : mmc_201 pc = none :=
  wz_rs h rfl (wz_rs h rfl (wz_re h rfl))
set_option maxRecDepth 100000 in
set_option maxHeartbeats 4000000 in
theorem mmks_201 : wz_A (wz_PS 201 mmc_201) [3, 12, 30, 49, 53] :=
  wz_c (wz_sp (.invokestatic 43, [(0, 135)]) rfl (⟨Or.inl q_877, q_878, rfl⟩)) (wz_c (wz_sp (.invokevirtual 186, [(10, 198)]) rfl (⟨_, rfl, q_1106, q_1108, q_34, rfl⟩)) (wz_c (wz_sp (.getfield 9, [(10, 0)]) rfl (⟨_, rfl, by decide, q_810⟩)) (wz_c (wz_sp (.ldc2_w 194, [(0, 25)]) rfl (q_1121)) (wz_c (wz_sp (.invokestatic 190, [(0, 199)]) rfl (⟨Or.inl q_1111, q_1112, rfl⟩)) (wz_n)))))
set_option maxRecDepth 100000 in
set_option maxHeartbeats 4000000 in
theorem mmkd_201 : wz_A (wz_PD 201 mmc_201) [16, 17, 28, 40, 41, 48, 49] :=
  wz_c (wz_sd (.lconst 0, []) 1 rfl (by decide +kernel) (Or.inl rfl)) (wz_c (wz_sd (.lstore_n 2, []) 1 rfl (by decide +kernel) (Or.inl rfl)) (wz_c (wz_sd (.lload_n 2, []) 1 rfl (by decide +kernel) (Or.inl rfl)) (wz_c (wz_sd (.ladd, []) 1 rfl (by decide +kernel) (Or.inl rfl)) (wz_c (wz_sd (.lstore_n 2, []) 1 rfl (by decide +kernel) (Or.inl rfl)) (wz_c (wz_sd (.lload_n 2, []) 1 rfl (by decide +kernel) (Or.inl rfl)) (wz_c (wz_sd (.ldc2_w 194, [(0, 25)]) 3 rfl (by decide +kernel) (Or.inl rfl)) (wz_n)))))))
theorem mmk_201 (pc : Nat) : ∀ x, mmc_201 pc = some x → mm_K 201 pc x := wz_fin mmkn_201 mmkw_201 mmkd_201 mmks_201 pc
set_option maxRecDepth 100000 in
theorem mmkw_202 : wz_w mmc_202 [3, 12, 26, 35, 53, 57, 60, 68, 72, 79, 83, 90, 97] [] 120 (mm_by 202).data.toList 0 = true := by decide +kernel
set_option maxRecDepth 100000 in
set_option maxHeartbeats 4000000 in
theorem mmkn_202 (pc : Nat) (h : 120 ≤ pc) : mmc_202 pc = none :=
  wz_rs h rfl (wz_rs h rfl (wz_rs h rfl (wz_rs h rfl (wz_rs h rfl (wz_re h rfl)))))
set_option maxRecDepth 100000 in
set_option maxHeartbeats 4000000 in
theorem mmks_202 : wz_A (wz_PS 202 mmc_202) [3, 12, 26, 35, 53, 57, 60, 68, 72, 79, 83, 90, 97] :=
  wz_c (wz_sp (.invokestatic 43, [(0, 135)]) rfl (⟨Or.inl q_877, q_878, rfl⟩)) (wz_c (wz_sp (.invokevirtual 39, [(10, 130)]) rfl (⟨_, rfl, q_857, q_859, q_18, rfl⟩)) (wz_c (wz_sp (.getfield 9, [(10, 0)]) rfl (⟨_, rfl, by decide, q_810⟩)) (wz_c (wz_sp (.getfield 9, [(10, 0)]) rfl (⟨_, rfl, by decide, q_810⟩)) (wz_c (wz_sp (.getfield 9, [(10, 0)]) rfl (⟨_, rfl, by decide, q_810⟩)) (wz_c (wz_sp (.getfield 13, [(10, 1)]) rfl (⟨_, rfl, by decide, q_811⟩)) (wz_c (wz_sp (.invokestatic 123, [(0, 138)]) rfl (⟨Or.inl q_887, q_888, rfl⟩)) (wz_c (wz_sp (.getfield 13, [(10, 1)]) rfl (⟨_, rfl, by decide, q_811⟩)) (wz_c (wz_sp (.invokestatic 163, [(0, 183)]) rfl (⟨Or.inl q_1050, q_1051, rfl⟩)) (wz_c (wz_sp (.getfield 13, [(10, 1)]) rfl (⟨_, rfl, by decide, q_811⟩)) (wz_c (wz_sp (.getfield 9, [(10, 0)]) rfl (⟨_, rfl, by decide, q_810⟩)) (wz_c (wz_sp (.invokestatic 47, [(0, 141)]) rfl (⟨Or.inl q_897, q_898, rfl⟩)) (wz_c (wz_sp (.invokevirtual 199, [(10, 203)]) rfl (⟨_, rfl, q_1126, q_1128, q_35, rfl⟩)) (wz_n)))))))))))))
set_option maxRecDepth 100000 in
set_option maxHeartbeats 4000000 in
theorem mmkd_202 : wz_A (wz_PD 202 mmc_202) [] :=
  wz_n
theorem mmk_202 (pc : Nat) : ∀ x, mmc_202 pc = some x → mm_K 202 pc x := wz_fin mmkn_202 mmkw_202 mmkd_202 mmks_202 pc
set_option maxRecDepth 100000 in
theorem mmkw_203 : wz_w mmc_203 [6, 14, 20, 36, 40] [] 51 (mm_by 203).data.toList 0 = true := by decide +kernel
set_option maxRecDepth 100000 in
set_option maxHeartbeats 4000000 in
theorem mmkn_203 (pc : Nat) (h : 51 ≤ pc) : mmc_203 pc = none :=
  wz_rs h rfl (wz_rs h rfl (wz_rs h rfl (wz_rs h rfl (wz_rs h rfl (wz_re h rfl)))))
set_option maxRecDepth 100000 in
set_option maxHeartbeats 4000000 in
theorem mmks_203 : wz_A (wz_PS 203 mmc_203) [6, 14, 20, 36, 40] :=
  wz_c (wz_sp (.getfield 196, [(10, 9)]) rfl (⟨_, rfl, by decide, q_819⟩)) (wz_c (wz_sp (.getfield 13, [(10, 1)]) rfl (⟨_, rfl, by decide, q_811⟩)) (wz_c (wz_sp (.getfield 25, [(10, 6)]) rfl (⟨_, rfl, by decide, q_816⟩)) (wz_c (wz_sp (.getfield 13, [(10, 1)]) rfl (⟨_, rfl, by decide, q_811⟩)) (wz_c (wz_sp (.invokestatic 86, [(0, 146)]) rfl (⟨Or.inl q_913, q_914, rfl⟩)) (wz_n)))))
set_option maxRecDepth 100000 in
set_option maxHeartbeats 4000000 in
theorem mmkd_203 : wz_A (wz_PD 203 mmc_203) [] :=
  wz_n
theorem mmk_203 (pc : Nat) : ∀ x, mmc_203 pc = some x → mm_K 203 pc x := wz_fin mmkn_203 mmkw_203 mmkd_203 mmks_203 pc
set_option maxRecDepth 100000 in
theorem mmkw_204 : wz_w mmc_204 [4, 13, 30, 35, 39, 46, 51, 55] [] 59 (mm_by 204).data.toList 0 = true := by decide +kernel
set_option maxRecDepth 100000 in
set_option maxHeartbeats 4000000 in
theorem mmkn_204 (pc : Nat) (h : 59 ≤ pc) : mmc_204 pc = none :=
  wz_rs h rfl (wz_rs h rfl (wz_rs h rfl (wz_re h rfl)))
set_option maxRecDepth 100000 in
set_option maxHeartbeats 4000000 in
theorem mmks_204 : wz_A (wz_PS 204 mmc_204) [4, 13, 30, 35, 39, 46, 51, 55] :=
  wz_c (wz_sp (.invokestatic 130, [(0, 159)]) rfl (⟨Or.inl q_956, q_957, rfl⟩)) (wz_c (wz_sp (.getfield 196, [(10, 9)]) rfl (⟨_, rfl, by decide, q_819⟩)) (wz_c (wz_sp (.invokevirtual 39, [(10, 130)]) rfl (⟨_, rfl, q_857, q_859, q_18, rfl⟩)) (wz_c (wz_sp (.getfield 25, [(10, 6)]) rfl (⟨_, rfl, by decide, q_816⟩)) (wz_c (wz_sp (.getfield 196, [(10, 9)]) rfl (⟨_, rfl, by decide, q_819⟩)) (wz_c (wz_sp (.getfield 196, [(10, 9)]) rfl (⟨_, rfl, by decide, q_819⟩)) (wz_c (wz_sp (.putfield 196, [(10, 9), (0, 0)]) rfl (⟨_, rfl, by decide, q_819, _, rfl, rfl, rfl⟩)) (wz_c (wz_sp (.getfield 196, [(10, 9)]) rfl (⟨_, rfl, by decide, q_819⟩)) (wz_n))))))))
set_option maxRecDepth 100000 in
set_option maxHeartbeats 4000000 in
theorem mmkd_204 : wz_A (wz_PD 204 mmc_204) [] :=
  wz_n
theorem mmk_204 (pc : Nat) : ∀ x, mmc_204 pc = some x → mm_K 204 pc x := wz_fin mmkn_204 mmkw_204 mmkd_204 mmks_204 pc
set_option maxRecDepth 100000 in
theorem mmkw_205 : wz_w mmc_205 [1, 7, 18, 27] [] 46 (mm_by 205).data.toList 0 = true := by decide +kernel
set_option maxRecDepth 100000 in
set_option maxHeartbeats 4000000 in
theorem mmkn_205 (pc : Nat) (h : 46 ≤ pc) : mmc_205 pc = none :=
  wz_rs h rfl (wz_rs h rfl (wz_rs h rfl (wz_rs h rfl (wz_rs h rfl (wz_re h rfl)))))
set_option maxRecDepth 100000 in
set_option maxHeartbeats 4000000 in
theorem mmks_205 : wz_A (wz_PS 205 mmc_205) [1, 7, 18, 27] :=
  wz_c (wz_sp (.getfield 196, [(10, 9)]) rfl (⟨_, rfl, by decide, q_819⟩)) (wz_c (wz_sp (.putfield 196, [(10, 9), (0, 0)]) rfl (⟨_, rfl, by decide, q_819, _, rfl, rfl, rfl⟩)) (wz_c (wz_sp (.getfield 9, [(10, 0)]) rfl (⟨_, rfl, by decide, q_810⟩)) (wz_c (wz_sp (.getfield 25, [(10, 6)]) rfl (⟨_, rfl, by decide, q_816⟩)) (wz_n))))
set_option maxRecDepth 100000 in
set_option maxHeartbeats 4000000 in
theorem mmkd_205 : wz_A (wz_PD 205 mmc_205) [] :=
  wz_n
theorem mmk_205 (pc : Nat) : ∀ x, mmc_205 pc = some x → mm_K 205 pc x := wz_fin mmkn_205 mmkw_205 mmkd_205 mmks_205 pc
set_option maxRecDepth 100000 in
theorem mmkw_206 : wz_w mmc_206 [1, 7] [] 12 (mm_by 206).data.toList 0 = true := by decide +kernel
set_option maxRecDepth 100000 in
set_option maxHeartbeats 4000000 in
theorem mmkn_206 (pc : Nat) (h : 12 ≤ pc) : mmc_206 pc = none :=
  wz_rs h rfl (wz_rs h rfl (wz_rs h rfl (wz_re h rfl)))
set_option maxRecDepth 100000 in
set_option maxHeartbeats 4000000 in
theorem mmks_206 : wz_A (wz_PS 206 mmc_206) [1, 7] :=
  wz_c (wz_sp (.getfield 196, [(10, 9)]) rfl (⟨_, rfl, by decide, q_819⟩)) (wz_c (wz_sp (.putfield 196, [(10, 9), (0, 0)]) rfl (⟨_, rfl, by decide, q_819, _, rfl, rfl, rfl⟩)) (wz_n))
set_option maxRecDepth 100000 in
set_option maxHeartbeats 4000000 in
theorem mmkd_206 : wz_A (wz_PD 206 mmc_206) [] :=
  wz_n
theorem mmk_206 (pc : Nat) : ∀ x, mmc_206 pc = some x → mm_K 206 pc x := wz_fin mmkn_206 mmkw_206 mmkd_206 mmks_206 pc
set_option maxRecDepth 100000 in
theorem mmkw_207 : wz_w mmc_207 [8, 21, 28, 37, 43, 59, 63, 66, 70, 77, 82, 89, 94, 101, 106, 111, 122, 125, 129, 132, 140, 146] [] 171 (mm_by 207).data.toList 0 = true := by decide +kernel
set_option maxRecDepth 100000 in
set_option maxHeartbeats 4000000 in
theorem mmkn_207 (pc : Nat) (h : 171 ≤ pc) : mmc_207 pc = none :=
  wz_rs h rfl (wz_rs h rfl (wz_rs h rfl (wz_rs h rfl (wz_rs h rfl (wz_rs h rfl (wz_rs h rfl (wz_re h rfl)))))))
set_option maxRecDepth 100000 in
set_option maxHeartbeats 4000000 in
theorem mmks_207 : wz_A (wz_PS 207 mmc_207) [8, 21, 28, 37, 43, 59, 63, 66, 70, 77, 82, 89, 94, 101, 106, 111, 122, 125, 129, 132, 140, 146] :=
  wz_c (wz_sp (.invokevirtual 39, [(10, 130)]) rfl (⟨_, rfl, q_857, q_859, q_18, rfl⟩)) (wz_c (wz_sp (.invokevirtual 39, [(10, 130)]) rfl (⟨_, rfl, q_857, q_859, q_18, rfl⟩)) (wz_c (wz_sp (.invokestatic 43, [(0, 135)]) rfl (⟨Or.inl q_877, q_878, rfl⟩)) (wz_c (wz_sp (.invokevirtual 39, [(10, 130)]) rfl (⟨_, rfl, q_857, q_859, q_18, rfl⟩)) (wz_c (wz_sp (.putfield 202, [(10, 13), (0, 0)]) rfl (⟨_, rfl, by decide, q_823, _, rfl, rfl, rfl⟩)) (wz_c (wz_sp (.getfield 9, [(10, 0)]) rfl (⟨_, rfl, by decide, q_810⟩)) (wz_c (wz_sp (.getfield 13, [(10, 1)]) rfl (⟨_, rfl, by decide, q_811⟩)) (wz_c (wz_sp (.invokestatic 123, [(0, 138)]) rfl (⟨Or.inl q_887, q_888, rfl⟩)) (wz_c (wz_sp (.getfield 13, [(10, 1)]) rfl (⟨_, rfl, by decide, q_811⟩)) (wz_c (wz_sp (.invokevirtual 208, [(10, 208)]) rfl (⟨_, rfl, q_1146, q_1148, q_36, rfl⟩)) (wz_c (wz_sp (.getfield 13, [(10, 1)]) rfl (⟨_, rfl, by decide, q_811⟩)) (wz_c (wz_sp (.invokevirtual 208, [(10, 208)]) rfl (⟨_, rfl, q_1146, q_1148, q_36, rfl⟩)) (wz_c (wz_sp (.getfield 13, [(10, 1)]) rfl (⟨_, rfl, by decide, q_811⟩)) (wz_c (wz_sp (.invokevirtual 208, [(10, 208)]) rfl (⟨_, rfl, q_1146, q_1148, q_36, rfl⟩)) (wz_c (wz_sp (.getfield 13, [(10, 1)]) rfl (⟨_, rfl, by decide, q_811⟩)) (wz_c (wz_sp (.invokestatic 117, [(0, 145)]) rfl (⟨Or.inl q_910, q_911, rfl⟩)) (wz_c (wz_sp (.getfield 13, [(10, 1)]) rfl (⟨_, rfl, by decide, q_811⟩)) (wz_c (wz_sp (.invokestatic 141, [(0, 170)]) rfl (⟨Or.inl q_999, q_1000, rfl⟩)) (wz_c (wz_sp (.getfield 9, [(10, 0)]) rfl (⟨_, rfl, by decide, q_810⟩)) (wz_c (wz_sp (.invokestatic 141, [(0, 170)]) rfl (⟨Or.inl q_999, q_1000, rfl⟩)) (wz_c (wz_sp (.getfield 13, [(10, 1)]) rfl (⟨_, rfl, by decide, q_811⟩)) (wz_c (wz_sp (.getfield 13, [(10, 1)]) rfl (⟨_, rfl, by decide, q_811⟩)) (wz_n))))))))))))))))))))))
set_option maxRecDepth 100000 in
set_option maxHeartbeats 4000000 in
theorem mmkd_207 : wz_A (wz_PD 207 mmc_207) [] :=
  wz_n
theorem mmk_207 (pc : Nat) : ∀ x, mmc_207 pc = some x → mm_K 207 pc x := wz_fin mmkn_207 mmkw_207 mmkd_207 mmks_207 pc
set_option maxRecDepth 100000 in
theorem mmkw_208 : wz_w mmc_208 [2, 5, 8, 11, 15, 18] [] 28 (mm_by 208).data.toList 0 = true := by decide +kernel
set_option maxRecDepth 100000 in
set_option maxHeartbeats 4000000 in
theorem mmkn_208 (pc : Nat) (h : 28 ≤ pc) : mmc_208 pc = none :=
  wz_rs h rfl (wz_re h rfl)
set_option maxRecDepth 100000 in
set_option maxHeartbeats 4000000 in
theorem mmks_208 : wz_A (wz_PS 208 mmc_208) [2, 5, 8, 11, 15, 18] :=
  wz_c (wz_sp (.getfield 202, [(10, 13)]) rfl (⟨_, rfl, by decide, q_823⟩)) (wz_c (wz_sp (.ldc 205, [(0, 1664525)]) rfl (q_1150)) (wz_c (wz_sp (.ldc 206, [(0, 1013904223)]) rfl (q_1151)) (wz_c (wz_sp (.putfield 202, [(10, 13), (0, 0)]) rfl (⟨_, rfl, by decide, q_823, _, rfl, rfl, rfl⟩)) (wz_c (wz_sp (.getfield 202, [(10, 13)]) rfl (⟨_, rfl, by decide, q_823⟩)) (wz_c (wz_sp (.ldc 207, [(0, 2147483647)]) rfl (q_1152)) (wz_n))))))
set_option maxRecDepth 100000 in
set_option maxHeartbeats 4000000 in
theorem mmkd_208 : wz_A (wz_PD 208 mmc_208) [] :=
  wz_n
theorem mmk_208 (pc : Nat) : ∀ x, mmc_208 pc = some x → mm_K 208 pc x := wz_fin mmkn_208 mmkw_208 mmkd_208 mmks_208 pc
set_option maxRecDepth 100000 in
theorem mmkw_209 : wz_w mmc_209 [1, 5, 8, 13, 17] [] 23 (mm_by 209).data.toList 0 = true := by decide +kernel
set_option maxRecDepth 100000 in
set_option maxHeartbeats 4000000 in
theorem mmkn_209 (pc : Nat) (h : 23 ≤ pc) : mmc_209 pc = none :=
  wz_rs h rfl (wz_rs h rfl (wz_rs h rfl (wz_rs h rfl (wz_re h rfl))))
set_option maxRecDepth 100000 in
set_option maxHeartbeats 4000000 in
theorem mmks_209 : wz_A (wz_PS 209 mmc_209) [1, 5, 8, 13, 17] :=
  wz_c (wz_sp (.getfield 9, [(10, 0)]) rfl (⟨_, rfl, by decide, q_810⟩)) (wz_c (wz_sp (.getfield 16, [(10, 2)]) rfl (⟨_, rfl, by decide, q_812⟩)) (wz_c (wz_sp (.invokestatic 123, [(0, 138)]) rfl (⟨Or.inl q_887, q_888, rfl⟩)) (wz_c (wz_sp (.putfield 211, [(10, 4), (1, 0)]) rfl (⟨_, rfl, by decide, q_814, _, rfl, rfl, rfl⟩)) (wz_c (wz_sp (.getfield 9, [(10, 0)]) rfl (⟨_, rfl, by decide, q_810⟩)) (wz_n)))))
set_option maxRecDepth 100000 in
set_option maxHeartbeats 4000000 in
theorem mmkd_209 : wz_A (wz_PD 209 mmc_209) [] :=
  wz_n
theorem mmk_209 (pc : Nat) : ∀ x, mmc_209 pc = some x → mm_K 209 pc x := wz_fin mmkn_209 mmkw_209 mmkd_209 mmks_209 pc
set_option maxRecDepth 100000 in
theorem mmkw_210 : wz_w mmc_210 [1, 10, 15, 19, 22, 26] [] 32 (mm_by 210).data.toList 0 = true := by decide +kernel
set_option maxRecDepth 100000 in
set_option maxHeartbeats 4000000 in
theorem mmkn_210 (pc : Nat) (h : 32 ≤ pc) : mmc_210 pc = none :=
  wz_rs h rfl (wz_re h rfl)
set_option maxRecDepth 100000 in
set_option maxHeartbeats 4000000 in
theorem mmks_210 : wz_A (wz_PS 210 mmc_210) [1, 10, 15, 19, 22, 26] :=
  wz_c (wz_sp (.getfield 211, [(10, 4)]) rfl (⟨_, rfl, by decide, q_814⟩)) (wz_c (wz_sp (.invokevirtual 39, [(10, 130)]) rfl (⟨_, rfl, q_857, q_859, q_18, rfl⟩)) (wz_c (wz_sp (.getfield 16, [(10, 2)]) rfl (⟨_, rfl, by decide, q_812⟩)) (wz_c (wz_sp (.getfield 9, [(10, 0)]) rfl (⟨_, rfl, by decide, q_810⟩)) (wz_c (wz_sp (.invokestatic 123, [(0, 138)]) rfl (⟨Or.inl q_887, q_888, rfl⟩)) (wz_c (wz_sp (.getfield 9, [(10, 0)]) rfl (⟨_, rfl, by decide, q_810⟩)) (wz_n))))))
set_option maxRecDepth 100000 in
set_option maxHeartbeats 4000000 in
theorem mmkd_210 : wz_A (wz_PD 210 mmc_210) [] :=
  wz_n
theorem mmk_210 (pc : Nat) : ∀ x, mmc_210 pc = some x → mm_K 210 pc x := wz_fin mmkn_210 mmkw_210 mmkd_210 mmks_210 pc
set_option maxRecDepth 100000 in
theorem mmkw_211 : wz_w mmc_211 [5, 12, 69, 76, 83, 86, 91, 96] [22] 103 (mm_by 211).data.toList 0 = true := by decide +kernel
set_option maxRecDepth 100000 in
set_option maxHeartbeats 4000000 in
theorem mmkn_211 (pc : Nat) (h : 103 ≤ pc) : mmc_211 pc = none :=
  wz_rs h rfl (wz_rs h rfl (wz_rs h rfl (wz_rs h rfl (wz_re h rfl))))
set_option maxRecDepth 100000 in
set_option maxHeartbeats 4000000 in
theorem mmks_211 : wz_A (wz_PS 211 mmc_211) [5, 12, 69, 76, 83, 86, 91, 96] :=
  wz_c (wz_sp (.invokestatic 43, [(0, 135)]) rfl (⟨Or.inl q_877, q_878, rfl⟩)) (wz_c (wz_sp (.getfield 28, [(10, 7)]) rfl (⟨_, rfl, by decide, q_817⟩)) (wz_c (wz_sp (.getfield 9, [(10, 0)]) rfl (⟨_, rfl, by decide, q_810⟩)) (wz_c (wz_sp (.getfield 9, [(10, 0)]) rfl (⟨_, rfl, by decide, q_810⟩)) (wz_c (wz_sp (.getfield 9, [(10, 0)]) rfl (⟨_, rfl, by decide, q_810⟩)) (wz_c (wz_sp (.invokestatic 141, [(0, 170)]) rfl (⟨Or.inl q_999, q_1000, rfl⟩)) (wz_c (wz_sp (.getfield 196, [(10, 9)]) rfl (⟨_, rfl, by decide, q_819⟩)) (wz_c (wz_sp (.getfield 89, [(10, 8)]) rfl (⟨_, rfl, by decide, q_818⟩)) (wz_n))))))))
set_option maxRecDepth 100000 in
set_option maxHeartbeats 4000000 in
theorem mmkd_211 : wz_A (wz_PD 211 mmc_211) [22] :=
  wz_c (wz_sd (.tableswitch 78 0 7 #[46, 46, 46, 46, 53, 60, 68, 73], []) 46 rfl (by decide +kernel) (Or.inr rfl)) (wz_n)
theorem mmk_211 (pc : Nat) : ∀ x, mmc_211 pc = some x → mm_K 211 pc x := wz_fin mmkn_211 mmkw_211 mmkd_211 mmks_211 pc
