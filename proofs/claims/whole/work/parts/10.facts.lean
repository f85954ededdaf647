/-! the words that rows use, by their places -/
theorem iw_X0_k : ∀ k, k < 4 → u_lay RX0 TX0 k ∈ wB := fun k h => match k, h with
  | 0, _ => mw_148
  | 1, _ => mw_150
  | 2, _ => mw_152
  | 3, _ => mw_154
  | k + 4, h => absurd h (by omega)
theorem iw_X0 : ∀ w ∈ u_ws RX0 TX0 4, w ∈ wB := fun w h => by obtain ⟨k, hk, rfl⟩ := List.mem_map.mp h; exact iw_X0_k k (List.mem_range.mp hk)
theorem iw_X1_k : ∀ k, k < 15 → u_lay RX1 TX1 k ∈ wB := fun k h => match k, h with
  | 0, _ => mw_72
  | 1, _ => mw_74
  | 2, _ => mw_76
  | 3, _ => mw_78
  | 4, _ => mw_80
  | 5, _ => mw_82
  | 6, _ => mw_84
  | 7, _ => mw_86
  | 8, _ => mw_88
  | 9, _ => mw_90
  | 10, _ => mw_92
  | 11, _ => mw_94
  | 12, _ => mw_96
  | 13, _ => mw_98
  | 14, _ => mw_100
  | k + 15, h => absurd h (by omega)
theorem iw_X1 : ∀ w ∈ u_ws RX1 TX1 15, w ∈ wB := fun w h => by obtain ⟨k, hk, rfl⟩ := List.mem_map.mp h; exact iw_X1_k k (List.mem_range.mp hk)
theorem iw_X2_k : ∀ k, k < 3 → u_lay RX2 TX2 k ∈ wB := fun k h => match k, h with
  | 0, _ => mw_116
  | 1, _ => mw_118
  | 2, _ => mw_120
  | k + 3, h => absurd h (by omega)
theorem iw_X2 : ∀ w ∈ u_ws RX2 TX2 3, w ∈ wB := fun w h => by obtain ⟨k, hk, rfl⟩ := List.mem_map.mp h; exact iw_X2_k k (List.mem_range.mp hk)
theorem iw_X4_k : ∀ k, k < 2 → u_lay RX4 TX4 k ∈ wB := fun k h => match k, h with
  | 0, _ => mw_131
  | 1, _ => mw_133
  | k + 2, h => absurd h (by omega)
theorem iw_X4 : ∀ w ∈ u_ws RX4 TX4 2, w ∈ wB := fun w h => by obtain ⟨k, hk, rfl⟩ := List.mem_map.mp h; exact iw_X4_k k (List.mem_range.mp hk)
theorem iw_X5_k : ∀ k, k < 7 → u_lay RX5 TX5 k ∈ wB := fun k h => match k, h with
  | 0, _ => mw_164
  | 1, _ => mw_166
  | 2, _ => mw_168
  | 3, _ => mw_170
  | 4, _ => mw_172
  | 5, _ => mw_174
  | 6, _ => mw_176
  | k + 7, h => absurd h (by omega)
theorem iw_X5 : ∀ w ∈ u_ws RX5 TX5 7, w ∈ wB := fun w h => by obtain ⟨k, hk, rfl⟩ := List.mem_map.mp h; exact iw_X5_k k (List.mem_range.mp hk)
theorem iw_X6_k : ∀ k, k < 13 → u_lay RX6 TX6 k ∈ wB := fun k h => match k, h with
  | 0, _ => mw_1012
  | 1, _ => mw_1014
  | 2, _ => mw_1016
  | 3, _ => mw_1018
  | 4, _ => mw_1020
  | 5, _ => mw_1022
  | 6, _ => mw_1024
  | 7, _ => mw_1026
  | 8, _ => mw_1028
  | 9, _ => mw_1030
  | 10, _ => mw_1032
  | 11, _ => mw_1034
  | 12, _ => mw_1036
  | k + 13, h => absurd h (by omega)
theorem iw_X6 : ∀ w ∈ u_ws RX6 TX6 13, w ∈ wB := fun w h => by obtain ⟨k, hk, rfl⟩ := List.mem_map.mp h; exact iw_X6_k k (List.mem_range.mp hk)
theorem ff_X1_9 : xFld RX1 9 1 0 := ⟨RX1, TX1, 15, rfl, by decide, iw_X1, mw_39⟩
theorem fp_X1_9 : xFldP RX1 9 1 0 (.array .int) true := ⟨RX1, TX1, 15, tyX1, rfl, by decide, iw_X1, mw_39, tyX1_ok, nmX1, rfl, by decide +kernel, fun _ => rfl⟩
theorem ff_X0_21 : xFld RX0 21 1 0 := ⟨RX1, TX1, 15, rfl, by decide, iw_X1, mw_40⟩
theorem ff_X5_117 : xFld RX5 117 1 0 := ⟨RX1, TX1, 15, rfl, by decide, iw_X1, mw_41⟩
theorem ff_X1_15 : xFld RX1 15 1 1 := ⟨RX1, TX1, 15, rfl, by decide, iw_X1, mw_42⟩
theorem fp_X1_15 : xFldP RX1 15 1 1 (.array .int) true := ⟨RX1, TX1, 15, tyX1, rfl, by decide, iw_X1, mw_42, tyX1_ok, nmX1, rfl, by decide +kernel, fun _ => rfl⟩
theorem ff_X5_121 : xFld RX5 121 1 1 := ⟨RX1, TX1, 15, rfl, by decide, iw_X1, mw_43⟩
theorem ff_X1_18 : xFld RX1 18 1 2 := ⟨RX1, TX1, 15, rfl, by decide, iw_X1, mw_44⟩
theorem fp_X1_18 : xFldP RX1 18 1 2 (.array .int) true := ⟨RX1, TX1, 15, tyX1, rfl, by decide, iw_X1, mw_44, tyX1_ok, nmX1, rfl, by decide +kernel, fun _ => rfl⟩
theorem ff_X3_36 : xFld RX3 36 1 2 := ⟨RX1, TX1, 15, rfl, by decide, iw_X1, mw_45⟩
theorem ff_X5_124 : xFld RX5 124 1 2 := ⟨RX1, TX1, 15, rfl, by decide, iw_X1, mw_46⟩
theorem ff_X1_21 : xFld RX1 21 1 3 := ⟨RX1, TX1, 15, rfl, by decide, iw_X1, mw_47⟩
theorem fp_X1_21 : xFldP RX1 21 1 3 (.array .int) true := ⟨RX1, TX1, 15, tyX1, rfl, by decide, iw_X1, mw_47, tyX1_ok, nmX1, rfl, by decide +kernel, fun _ => rfl⟩
theorem ff_X3_43 : xFld RX3 43 1 3 := ⟨RX1, TX1, 15, rfl, by decide, iw_X1, mw_48⟩
theorem ff_X5_136 : xFld RX5 136 1 3 := ⟨RX1, TX1, 15, rfl, by decide, iw_X1, mw_49⟩
theorem ff_X1_24 : xFld RX1 24 1 4 := ⟨RX1, TX1, 15, rfl, by decide, iw_X1, mw_50⟩
theorem fp_X1_24 : xFldP RX1 24 1 4 (.array .int) true := ⟨RX1, TX1, 15, tyX1, rfl, by decide, iw_X1, mw_50, tyX1_ok, nmX1, rfl, by decide +kernel, fun _ => rfl⟩
theorem ff_X5_139 : xFld RX5 139 1 4 := ⟨RX1, TX1, 15, rfl, by decide, iw_X1, mw_51⟩
theorem ff_X1_27 : xFld RX1 27 1 5 := ⟨RX1, TX1, 15, rfl, by decide, iw_X1, mw_52⟩
theorem fp_X1_27 : xFldP RX1 27 1 5 (.array .int) true := ⟨RX1, TX1, 15, tyX1, rfl, by decide, iw_X1, mw_52, tyX1_ok, nmX1, rfl, by decide +kernel, fun _ => rfl⟩
theorem ff_X0_41 : xFld RX0 41 1 5 := ⟨RX1, TX1, 15, rfl, by decide, iw_X1, mw_53⟩
theorem ff_X5_145 : xFld RX5 145 1 5 := ⟨RX1, TX1, 15, rfl, by decide, iw_X1, mw_54⟩
theorem ff_X1_30 : xFld RX1 30 1 6 := ⟨RX1, TX1, 15, rfl, by decide, iw_X1, mw_55⟩
theorem fp_X1_30 : xFldP RX1 30 1 6 (.array .int) true := ⟨RX1, TX1, 15, tyX1, rfl, by decide, iw_X1, mw_55, tyX1_ok, nmX1, rfl, by decide +kernel, fun _ => rfl⟩
theorem ff_X5_204 : xFld RX5 204 1 6 := ⟨RX1, TX1, 15, rfl, by decide, iw_X1, mw_56⟩
theorem ff_X1_33 : xFld RX1 33 1 7 := ⟨RX1, TX1, 15, rfl, by decide, iw_X1, mw_57⟩
theorem fp_X1_33 : xFldP RX1 33 1 7 (.array .int) true := ⟨RX1, TX1, 15, tyX1, rfl, by decide, iw_X1, mw_57, tyX1_ok, nmX1, rfl, by decide +kernel, fun _ => rfl⟩
theorem ff_X5_153 : xFld RX5 153 1 7 := ⟨RX1, TX1, 15, rfl, by decide, iw_X1, mw_58⟩
theorem ff_X1_36 : xFld RX1 36 1 8 := ⟨RX1, TX1, 15, rfl, by decide, iw_X1, mw_59⟩
theorem fp_X1_36 : xFldP RX1 36 1 8 (.array .int) true := ⟨RX1, TX1, 15, tyX1, rfl, by decide, iw_X1, mw_59, tyX1_ok, nmX1, rfl, by decide +kernel, fun _ => rfl⟩
theorem ff_X1_39 : xFld RX1 39 1 9 := ⟨RX1, TX1, 15, rfl, by decide, iw_X1, mw_60⟩
theorem fp_X1_39 : xFldP RX1 39 1 9 (.array .int) true := ⟨RX1, TX1, 15, tyX1, rfl, by decide, iw_X1, mw_60, tyX1_ok, nmX1, rfl, by decide +kernel, fun _ => rfl⟩
theorem ff_X1_45 : xFld RX1 45 1 10 := ⟨RX1, TX1, 15, rfl, by decide, iw_X1, mw_61⟩
theorem fp_X1_45 : xFldP RX1 45 1 10 .int false := ⟨RX1, TX1, 15, tyX1, rfl, by decide, iw_X1, mw_61, tyX1_ok, nmX1, rfl, by decide +kernel, fun _ => rfl⟩
theorem ff_X3_50 : xFld RX3 50 1 10 := ⟨RX1, TX1, 15, rfl, by decide, iw_X1, mw_62⟩
theorem fp_X3_50 : xFldP RX3 50 1 10 .int false := ⟨RX1, TX1, 15, tyX1, rfl, by decide, iw_X1, mw_62, tyX1_ok, nmX1, rfl, by decide +kernel, fun h => by first | (exact absurd h (by decide))⟩
theorem ff_X0_34 : xFld RX0 34 1 10 := ⟨RX1, TX1, 15, rfl, by decide, iw_X1, mw_63⟩
theorem fp_X0_34 : xFldP RX0 34 1 10 .int false := ⟨RX1, TX1, 15, tyX1, rfl, by decide, iw_X1, mw_63, tyX1_ok, nmX1, rfl, by decide +kernel, fun h => by first | (exact absurd h (by decide))⟩
theorem ff_X5_91 : xFld RX5 91 1 10 := ⟨RX1, TX1, 15, rfl, by decide, iw_X1, mw_64⟩
theorem fp_X5_91 : xFldP RX5 91 1 10 .int false := ⟨RX1, TX1, 15, tyX1, rfl, by decide, iw_X1, mw_64, tyX1_ok, nmX1, rfl, by decide +kernel, fun h => by first | (exact absurd h (by decide))⟩
theorem ff_X1_49 : xFld RX1 49 1 11 := ⟨RX1, TX1, 15, rfl, by decide, iw_X1, mw_65⟩
theorem fp_X1_49 : xFldP RX1 49 1 11 .int false := ⟨RX1, TX1, 15, tyX1, rfl, by decide, iw_X1, mw_65, tyX1_ok, nmX1, rfl, by decide +kernel, fun _ => rfl⟩
theorem ff_X5_95 : xFld RX5 95 1 11 := ⟨RX1, TX1, 15, rfl, by decide, iw_X1, mw_66⟩
theorem fp_X5_95 : xFldP RX5 95 1 11 .int false := ⟨RX1, TX1, 15, tyX1, rfl, by decide, iw_X1, mw_66, tyX1_ok, nmX1, rfl, by decide +kernel, fun h => by first | (exact absurd h (by decide))⟩
theorem ff_X1_52 : xFld RX1 52 1 12 := ⟨RX1, TX1, 15, rfl, by decide, iw_X1, mw_67⟩
theorem fp_X1_52 : xFldP RX1 52 1 12 .boolean false := ⟨RX1, TX1, 15, tyX1, rfl, by decide, iw_X1, mw_67, tyX1_ok, nmX1, rfl, by decide +kernel, fun _ => rfl⟩
theorem ff_X3_46 : xFld RX3 46 1 12 := ⟨RX1, TX1, 15, rfl, by decide, iw_X1, mw_68⟩
theorem fp_X3_46 : xFldP RX3 46 1 12 .boolean false := ⟨RX1, TX1, 15, tyX1, rfl, by decide, iw_X1, mw_68, tyX1_ok, nmX1, rfl, by decide +kernel, fun h => by first | (exact absurd h (by decide))⟩
theorem ff_X5_98 : xFld RX5 98 1 12 := ⟨RX1, TX1, 15, rfl, by decide, iw_X1, mw_69⟩
theorem fp_X5_98 : xFldP RX5 98 1 12 .boolean false := ⟨RX1, TX1, 15, tyX1, rfl, by decide, iw_X1, mw_69, tyX1_ok, nmX1, rfl, by decide +kernel, fun h => by first | (exact absurd h (by decide))⟩
theorem ff_X1_56 : xFld RX1 56 1 13 := ⟨RX1, TX1, 15, rfl, by decide, iw_X1, mw_70⟩
theorem fp_X1_56 : xFldP RX1 56 1 13 .int false := ⟨RX1, TX1, 15, tyX1, rfl, by decide, iw_X1, mw_70, tyX1_ok, nmX1, rfl, by decide +kernel, fun _ => rfl⟩
theorem ff_X1_59 : xFld RX1 59 1 14 := ⟨RX1, TX1, 15, rfl, by decide, iw_X1, mw_71⟩
theorem fp_X1_59 : xFldP RX1 59 1 14 .int false := ⟨RX1, TX1, 15, tyX1, rfl, by decide, iw_X1, mw_71, tyX1_ok, nmX1, rfl, by decide +kernel, fun _ => rfl⟩
theorem ff_X2_11 : xFld RX2 11 2 0 := ⟨RX2, TX2, 3, rfl, by decide, iw_X2, mw_113⟩
theorem fp_X2_11 : xFldP RX2 11 2 0 (.array (.object "ClockLots$Auction")) true := ⟨RX2, TX2, 3, tyX2, rfl, by decide, iw_X2, mw_113, tyX2_ok, nmX2, rfl, by decide +kernel, fun _ => rfl⟩
theorem ff_X2_22 : xFld RX2 22 2 1 := ⟨RX2, TX2, 3, rfl, by decide, iw_X2, mw_114⟩
theorem fp_X2_22 : xFldP RX2 22 2 1 .int false := ⟨RX2, TX2, 3, tyX2, rfl, by decide, iw_X2, mw_114, tyX2_ok, nmX2, rfl, by decide +kernel, fun _ => rfl⟩
theorem ff_X2_18 : xFld RX2 18 2 2 := ⟨RX2, TX2, 3, rfl, by decide, iw_X2, mw_115⟩
theorem fp_X2_18 : xFldP RX2 18 2 2 .int false := ⟨RX2, TX2, 3, tyX2, rfl, by decide, iw_X2, mw_115, tyX2_ok, nmX2, rfl, by decide +kernel, fun _ => rfl⟩
theorem ff_X4_9 : xFld RX4 9 3 0 := ⟨RX4, TX4, 2, rfl, by decide, iw_X4, mw_129⟩
theorem fp_X4_9 : xFldP RX4 9 3 0 (.array .char) true := ⟨RX4, TX4, 2, tyX4, rfl, by decide, iw_X4, mw_129, tyX4_ok, nmX4, rfl, by decide +kernel, fun _ => rfl⟩
theorem ff_X4_15 : xFld RX4 15 3 1 := ⟨RX4, TX4, 2, rfl, by decide, iw_X4, mw_130⟩
theorem fp_X4_15 : xFldP RX4 15 3 1 .int false := ⟨RX4, TX4, 2, tyX4, rfl, by decide, iw_X4, mw_130, tyX4_ok, nmX4, rfl, by decide +kernel, fun _ => rfl⟩
theorem ff_X0_9 : xFld RX0 9 0 0 := ⟨RX0, TX0, 4, rfl, by decide, iw_X0, mw_144⟩
theorem fp_X0_9 : xFldP RX0 9 0 0 (.array .int) true := ⟨RX0, TX0, 4, tyX0, rfl, by decide, iw_X0, mw_144, tyX0_ok, nmX0, rfl, by decide +kernel, fun _ => rfl⟩
theorem ff_X0_15 : xFld RX0 15 0 1 := ⟨RX0, TX0, 4, rfl, by decide, iw_X0, mw_145⟩
theorem fp_X0_15 : xFldP RX0 15 0 1 (.array .int) true := ⟨RX0, TX0, 4, tyX0, rfl, by decide, iw_X0, mw_145, tyX0_ok, nmX0, rfl, by decide +kernel, fun _ => rfl⟩
theorem ff_X0_18 : xFld RX0 18 0 2 := ⟨RX0, TX0, 4, rfl, by decide, iw_X0, mw_146⟩
theorem fp_X0_18 : xFldP RX0 18 0 2 (.array .int) true := ⟨RX0, TX0, 4, tyX0, rfl, by decide, iw_X0, mw_146, tyX0_ok, nmX0, rfl, by decide +kernel, fun _ => rfl⟩
theorem ff_X0_26 : xFld RX0 26 0 3 := ⟨RX0, TX0, 4, rfl, by decide, iw_X0, mw_147⟩
theorem fp_X0_26 : xFldP RX0 26 0 3 .int false := ⟨RX0, TX0, 4, tyX0, rfl, by decide, iw_X0, mw_147, tyX0_ok, nmX0, rfl, by decide +kernel, fun _ => rfl⟩
theorem ff_X5_10 : xFld RX5 10 4 0 := ⟨RX5, TX5, 7, rfl, by decide, iw_X5, mw_157⟩
theorem fp_X5_10 : xFldP RX5 10 4 0 (.object "ClockLots$Auction") true := ⟨RX5, TX5, 7, tyX5, rfl, by decide, iw_X5, mw_157, tyX5_ok, nmX5, rfl, by decide +kernel, fun _ => rfl⟩
theorem ff_X5_16 : xFld RX5 16 4 1 := ⟨RX5, TX5, 7, rfl, by decide, iw_X5, mw_158⟩
theorem fp_X5_16 : xFldP RX5 16 4 1 (.object "ClockLots$Auction") true := ⟨RX5, TX5, 7, tyX5, rfl, by decide, iw_X5, mw_158, tyX5_ok, nmX5, rfl, by decide +kernel, fun _ => rfl⟩
theorem ff_X5_22 : xFld RX5 22 4 2 := ⟨RX5, TX5, 7, rfl, by decide, iw_X5, mw_159⟩
theorem fp_X5_22 : xFldP RX5 22 4 2 (.object "ClockLots$History") true := ⟨RX5, TX5, 7, tyX5, rfl, by decide, iw_X5, mw_159, tyX5_ok, nmX5, rfl, by decide +kernel, fun _ => rfl⟩
theorem ff_X5_26 : xFld RX5 26 4 3 := ⟨RX5, TX5, 7, rfl, by decide, iw_X5, mw_160⟩
theorem fp_X5_26 : xFldP RX5 26 4 3 (.array (.object "ClockLots$Auction")) true := ⟨RX5, TX5, 7, tyX5, rfl, by decide, iw_X5, mw_160, tyX5_ok, nmX5, rfl, by decide +kernel, fun _ => rfl⟩
theorem ff_X5_30 : xFld RX5 30 4 4 := ⟨RX5, TX5, 7, rfl, by decide, iw_X5, mw_161⟩
theorem fp_X5_30 : xFldP RX5 30 4 4 (.array .boolean) true := ⟨RX5, TX5, 7, tyX5, rfl, by decide, iw_X5, mw_161, tyX5_ok, nmX5, rfl, by decide +kernel, fun _ => rfl⟩
theorem ff_X5_37 : xFld RX5 37 4 5 := ⟨RX5, TX5, 7, rfl, by decide, iw_X5, mw_162⟩
theorem fp_X5_37 : xFldP RX5 37 4 5 (.object "ClockLots$Text") true := ⟨RX5, TX5, 7, tyX5, rfl, by decide, iw_X5, mw_162, tyX5_ok, nmX5, rfl, by decide +kernel, fun _ => rfl⟩
theorem ff_X5_44 : xFld RX5 44 4 6 := ⟨RX5, TX5, 7, rfl, by decide, iw_X5, mw_163⟩
theorem fp_X5_44 : xFldP RX5 44 4 6 (.object "ClockLots$Assignment") true := ⟨RX5, TX5, 7, tyX5, rfl, by decide, iw_X5, mw_163, tyX5_ok, nmX5, rfl, by decide +kernel, fun _ => rfl⟩
theorem ff_X6_39 : xFld RX6 39 5 0 := ⟨RX6, TX6, 13, rfl, by decide, iw_X6, mw_999⟩
theorem fp_X6_39 : xFldP RX6 39 5 0 .int false := ⟨RX6, TX6, 13, tyX6, rfl, by decide, iw_X6, mw_999, tyX6_ok, nmX6, rfl, by decide +kernel, fun _ => rfl⟩
theorem ff_X6_7 : xFld RX6 7 5 1 := ⟨RX6, TX6, 13, rfl, by decide, iw_X6, mw_1000⟩
theorem fp_X6_7 : xFldP RX6 7 5 1 (.array .int) true := ⟨RX6, TX6, 13, tyX6, rfl, by decide, iw_X6, mw_1000, tyX6_ok, nmX6, rfl, by decide +kernel, fun _ => rfl⟩
theorem ff_X6_100 : xFld RX6 100 5 2 := ⟨RX6, TX6, 13, rfl, by decide, iw_X6, mw_1001⟩
theorem fp_X6_100 : xFldP RX6 100 5 2 .int false := ⟨RX6, TX6, 13, tyX6, rfl, by decide, iw_X6, mw_1001, tyX6_ok, nmX6, rfl, by decide +kernel, fun _ => rfl⟩
theorem ff_X6_13 : xFld RX6 13 5 3 := ⟨RX6, TX6, 13, rfl, by decide, iw_X6, mw_1002⟩
theorem fp_X6_13 : xFldP RX6 13 5 3 (.array .int) true := ⟨RX6, TX6, 13, tyX6, rfl, by decide, iw_X6, mw_1002, tyX6_ok, nmX6, rfl, by decide +kernel, fun _ => rfl⟩
theorem ff_X6_16 : xFld RX6 16 5 4 := ⟨RX6, TX6, 13, rfl, by decide, iw_X6, mw_1003⟩
theorem fp_X6_16 : xFldP RX6 16 5 4 (.array .int) true := ⟨RX6, TX6, 13, tyX6, rfl, by decide, iw_X6, mw_1003, tyX6_ok, nmX6, rfl, by decide +kernel, fun _ => rfl⟩
theorem ff_X6_19 : xFld RX6 19 5 5 := ⟨RX6, TX6, 13, rfl, by decide, iw_X6, mw_1004⟩
theorem fp_X6_19 : xFldP RX6 19 5 5 (.array .int) true := ⟨RX6, TX6, 13, tyX6, rfl, by decide, iw_X6, mw_1004, tyX6_ok, nmX6, rfl, by decide +kernel, fun _ => rfl⟩
theorem ff_X6_158 : xFld RX6 158 5 6 := ⟨RX6, TX6, 13, rfl, by decide, iw_X6, mw_1005⟩
theorem fp_X6_158 : xFldP RX6 158 5 6 .int false := ⟨RX6, TX6, 13, tyX6, rfl, by decide, iw_X6, mw_1005, tyX6_ok, nmX6, rfl, by decide +kernel, fun _ => rfl⟩
theorem ff_X6_22 : xFld RX6 22 5 7 := ⟨RX6, TX6, 13, rfl, by decide, iw_X6, mw_1006⟩
theorem fp_X6_22 : xFldP RX6 22 5 7 (.array .int) true := ⟨RX6, TX6, 13, tyX6, rfl, by decide, iw_X6, mw_1006, tyX6_ok, nmX6, rfl, by decide +kernel, fun _ => rfl⟩
theorem ff_X6_25 : xFld RX6 25 5 8 := ⟨RX6, TX6, 13, rfl, by decide, iw_X6, mw_1007⟩
theorem fp_X6_25 : xFldP RX6 25 5 8 (.array .boolean) true := ⟨RX6, TX6, 13, tyX6, rfl, by decide, iw_X6, mw_1007, tyX6_ok, nmX6, rfl, by decide +kernel, fun _ => rfl⟩
theorem ff_X6_29 : xFld RX6 29 5 9 := ⟨RX6, TX6, 13, rfl, by decide, iw_X6, mw_1008⟩
theorem fp_X6_29 : xFldP RX6 29 5 9 (.array .int) true := ⟨RX6, TX6, 13, tyX6, rfl, by decide, iw_X6, mw_1008, tyX6_ok, nmX6, rfl, by decide +kernel, fun _ => rfl⟩
theorem ff_X6_32 : xFld RX6 32 5 10 := ⟨RX6, TX6, 13, rfl, by decide, iw_X6, mw_1009⟩
theorem fp_X6_32 : xFldP RX6 32 5 10 (.array .int) true := ⟨RX6, TX6, 13, tyX6, rfl, by decide, iw_X6, mw_1009, tyX6_ok, nmX6, rfl, by decide +kernel, fun _ => rfl⟩
theorem ff_X6_106 : xFld RX6 106 5 11 := ⟨RX6, TX6, 13, rfl, by decide, iw_X6, mw_1010⟩
theorem fp_X6_106 : xFldP RX6 106 5 11 .int false := ⟨RX6, TX6, 13, tyX6, rfl, by decide, iw_X6, mw_1010, tyX6_ok, nmX6, rfl, by decide +kernel, fun _ => rfl⟩
theorem ff_X6_140 : xFld RX6 140 5 12 := ⟨RX6, TX6, 13, rfl, by decide, iw_X6, mw_1011⟩
theorem fp_X6_140 : xFldP RX6 140 5 12 .int false := ⟨RX6, TX6, 13, tyX6, rfl, by decide, iw_X6, mw_1011, tyX6_ok, nmX6, rfl, by decide +kernel, fun _ => rfl⟩
theorem cw_L_7 : xcV RL 7 yX5_append cX5_append 2 (some .int) 1 := xcV_of mw_443 mw_444 mw_445 mw_1 mw_446 (by decide) (by decide +kernel)
theorem cw_L_17 : xcV RL 17 yX5_load cX5_load 2 (some .int) 0 := xcV_of mw_544 mw_545 mw_546 mw_1 mw_547 (by decide) (by decide +kernel)
theorem cw_L_21 : xcV RL 21 yX5_about cX5_about 2 (some .int) 1 := xcV_of mw_635 mw_636 mw_637 mw_1 mw_638 (by decide) (by decide +kernel)
theorem cw_L_24 : xcV RL 24 yX5_kind cX5_kind 3 (some .int) 2 := xcV_of mw_656 mw_657 mw_658 mw_1 mw_659 (by decide) (by decide +kernel)
theorem cw_L_30 : xcV RL 30 yX5_bidder cX5_bidder 3 (some .int) 2 := xcV_of mw_686 mw_687 mw_688 mw_1 mw_689 (by decide) (by decide +kernel)
theorem cw_L_33 : xcV RL 33 yX5_demand cX5_demand 3 (some .int) 2 := xcV_of mw_705 mw_706 mw_707 mw_1 mw_708 (by decide) (by decide +kernel)
theorem cw_L_36 : xcV RL 36 yX5_pack cX5_pack 4 (some .int) 3 := xcV_of mw_713 mw_714 mw_715 mw_1 mw_716 (by decide) (by decide +kernel)
theorem cw_L_40 : xcV RL 40 yX5_setting cX5_setting 2 (some .int) 1 := xcV_of mw_723 mw_724 mw_725 mw_1 mw_726 (by decide) (by decide +kernel)
theorem cw_L_43 : xcV RL 43 yX5_offer cX5_offer 5 (some .int) 3 := xcV_of mw_735 mw_736 mw_737 mw_1 mw_738 (by decide) (by decide +kernel)
theorem cw_L_46 : xcV RL 46 yX5_price cX5_price 4 (some .int) 2 := xcV_of mw_756 mw_757 mw_758 mw_1 mw_759 (by decide) (by decide +kernel)
theorem cw_L_49 : xcV RL 49 yX5_join cX5_join 3 (some .int) 2 := xcV_of mw_767 mw_768 mw_769 mw_1 mw_770 (by decide) (by decide +kernel)
theorem cw_L_52 : xcV RL 52 yX5_value cX5_value 5 (some .int) 3 := xcV_of mw_776 mw_777 mw_778 mw_1 mw_779 (by decide) (by decide +kernel)
theorem cw_L_55 : xcV RL 55 yX5_ask cX5_ask 4 (some .int) 3 := xcV_of mw_784 mw_785 mw_786 mw_1 mw_787 (by decide) (by decide +kernel)
theorem cw_L_58 : xcV RL 58 yX5_bid cX5_bid 2 (some .int) 1 := xcV_of mw_792 mw_793 mw_794 mw_1 mw_795 (by decide) (by decide +kernel)
theorem cw_L_61 : xcV RL 61 yX5_close cX5_close 1 (some .int) 0 := xcV_of mw_800 mw_801 mw_802 mw_1 mw_803 (by decide) (by decide +kernel)
theorem cw_L_64 : xcV RL 64 yX5_add cX5_add 6 (some .int) 5 := xcV_of mw_808 mw_809 mw_810 mw_1 mw_811 (by decide) (by decide +kernel)
theorem cw_L_68 : xcV RL 68 yX5_drop cX5_drop 3 (some .int) 2 := xcV_of mw_828 mw_829 mw_830 mw_1 mw_831 (by decide) (by decide +kernel)
theorem cw_L_71 : xcV RL 71 yX5_set cX5_set 4 (some .int) 2 := xcV_of mw_843 mw_844 mw_845 mw_1 mw_846 (by decide) (by decide +kernel)
theorem cw_L_74 : xcV RL 74 yX5_undo cX5_undo 1 (some .int) 0 := xcV_of mw_858 mw_859 mw_860 mw_1 mw_861 (by decide) (by decide +kernel)
theorem cw_L_77 : xcV RL 77 yX5_gets cX5_gets 2 (some .int) 1 := xcV_of mw_878 mw_879 mw_880 mw_1 mw_881 (by decide) (by decide +kernel)
theorem cw_L_80 : xcV RL 80 yX5_pays cX5_pays 5 (some .int) 1 := xcV_of mw_889 mw_890 mw_891 mw_1 mw_892 (by decide) (by decide +kernel)
theorem cw_L_83 : xcV RL 83 yX5_oneMore cX5_oneMore 3 (some .int) 1 := xcV_of mw_896 mw_897 mw_898 mw_1 mw_899 (by decide) (by decide +kernel)
theorem cw_L_86 : xcV RL 86 yX5_wouldAsk cX5_wouldAsk 3 (some .int) 2 := xcV_of mw_903 mw_904 mw_905 mw_1 mw_906 (by decide) (by decide +kernel)
theorem cw_L_89 : xcV RL 89 yX5_endPrice cX5_endPrice 2 (some .int) 1 := xcV_of mw_910 mw_911 mw_912 mw_1 mw_913 (by decide) (by decide +kernel)
theorem cw_L_92 : xcV RL 92 yX5_runScript cX5_runScript 7 (some .int) 2 := xcV_of mw_917 mw_918 mw_919 mw_1 mw_920 (by decide) (by decide +kernel)
theorem cw_L_96 : xcV RL 96 yX5_simulate cX5_simulate 7 (some .int) 2 := xcV_of mw_948 mw_949 mw_950 mw_1 mw_951 (by decide) (by decide +kernel)
theorem cw_L_100 : xcV RL 100 yX5_save cX5_save 2 (some .int) 1 := xcV_of mw_973 mw_974 mw_975 mw_1 mw_976 (by decide) (by decide +kernel)
theorem cw_L_103 : xcV RL 103 yX5_restore cX5_restore 2 (some .int) 1 := xcV_of mw_985 mw_986 mw_987 mw_1 mw_988 (by decide) (by decide +kernel)
theorem cw_L_115 : xcV RL 115 yX6_append cX6_append 2 (some .int) 1 := xcV_of mw_1043 mw_1044 mw_1045 mw_6 mw_1046 (by decide) (by decide +kernel)
theorem cw_L_116 : xcV RL 116 yX6_thrown cX6_thrown 1 (some .int) 0 := xcV_of mw_1039 mw_1040 mw_1041 mw_6 mw_1042 (by decide) (by decide +kernel)
theorem cw_L_119 : xcV RL 119 yX5_clearText cX5_clearText 1 (some .int) 0 := xcV_of mw_179 mw_180 mw_181 mw_1 mw_182 (by decide) (by decide +kernel)
theorem cw_L_122 : xcV RL 122 yX6_clearText cX6_clearText 2 (some .int) 0 := xcV_of mw_1055 mw_1056 mw_1057 mw_6 mw_1058 (by decide) (by decide +kernel)
theorem cw_L_123 : xcV RL 123 yX5_errorPosition cX5_errorPosition 1 (some .int) 0 := xcV_of mw_187 mw_188 mw_189 mw_1 mw_190 (by decide) (by decide +kernel)
theorem cw_L_126 : xcV RL 126 yX6_errorPosition cX6_errorPosition 1 (some .int) 0 := xcV_of mw_1059 mw_1060 mw_1061 mw_6 mw_1062 (by decide) (by decide +kernel)
theorem cw_L_130 : xcV RL 130 yX6_load cX6_load 1 (some .int) 0 := xcV_of mw_1138 mw_1139 mw_1140 mw_6 mw_1141 (by decide) (by decide +kernel)
theorem cw_L_133 : xcV RL 133 yX6_about cX6_about 5 (some .int) 1 := xcV_of mw_1145 mw_1146 mw_1147 mw_6 mw_1148 (by decide) (by decide +kernel)
theorem cw_L_137 : xcV RL 137 yX6_kind cX6_kind 3 (some .int) 2 := xcV_of mw_1153 mw_1154 mw_1155 mw_6 mw_1156 (by decide) (by decide +kernel)
theorem cw_L_140 : xcV RL 140 yX6_bidder cX6_bidder 3 (some .int) 2 := xcV_of mw_1158 mw_1159 mw_1160 mw_6 mw_1161 (by decide) (by decide +kernel)
theorem cw_L_143 : xcV RL 143 yX6_demand cX6_demand 3 (some .int) 2 := xcV_of mw_1163 mw_1164 mw_1165 mw_6 mw_1166 (by decide) (by decide +kernel)
theorem cw_L_147 : xcV RL 147 yX6_pack cX6_pack 4 (some .int) 3 := xcV_of mw_1167 mw_1168 mw_1169 mw_6 mw_1170 (by decide) (by decide +kernel)
theorem cw_L_150 : xcV RL 150 yX6_setting cX6_setting 2 (some .int) 1 := xcV_of mw_1171 mw_1172 mw_1173 mw_6 mw_1174 (by decide) (by decide +kernel)
theorem cw_L_153 : xcV RL 153 yX6_offer cX6_offer 5 (some .int) 3 := xcV_of mw_1175 mw_1176 mw_1177 mw_6 mw_1178 (by decide) (by decide +kernel)
theorem cw_L_156 : xcV RL 156 yX6_price cX6_price 4 (some .int) 2 := xcV_of mw_1183 mw_1184 mw_1185 mw_6 mw_1186 (by decide) (by decide +kernel)
theorem cw_L_159 : xcV RL 159 yX6_join cX6_join 3 (some .int) 2 := xcV_of mw_1187 mw_1188 mw_1189 mw_6 mw_1190 (by decide) (by decide +kernel)
theorem cw_L_162 : xcV RL 162 yX6_value cX6_value 4 (some .int) 3 := xcV_of mw_1191 mw_1192 mw_1193 mw_6 mw_1194 (by decide) (by decide +kernel)
theorem cw_L_165 : xcV RL 165 yX6_ask cX6_ask 4 (some .int) 3 := xcV_of mw_1195 mw_1196 mw_1197 mw_6 mw_1198 (by decide) (by decide +kernel)
theorem cw_L_168 : xcV RL 168 yX6_bid cX6_bid 2 (some .int) 1 := xcV_of mw_1199 mw_1200 mw_1201 mw_6 mw_1202 (by decide) (by decide +kernel)
theorem cw_L_171 : xcV RL 171 yX6_close cX6_close 1 (some .int) 0 := xcV_of mw_1203 mw_1204 mw_1205 mw_6 mw_1206 (by decide) (by decide +kernel)
theorem cw_L_175 : xcV RL 175 yX6_add cX6_add 6 (some .int) 5 := xcV_of mw_1207 mw_1208 mw_1209 mw_6 mw_1210 (by decide) (by decide +kernel)
theorem cw_L_178 : xcV RL 178 yX6_drop cX6_drop 3 (some .int) 2 := xcV_of mw_1218 mw_1219 mw_1220 mw_6 mw_1221 (by decide) (by decide +kernel)
theorem cw_L_181 : xcV RL 181 yX6_set cX6_set 4 (some .int) 2 := xcV_of mw_1228 mw_1229 mw_1230 mw_6 mw_1231 (by decide) (by decide +kernel)
theorem cw_L_184 : xcV RL 184 yX6_undo cX6_undo 1 (some .int) 0 := xcV_of mw_1237 mw_1238 mw_1239 mw_6 mw_1240 (by decide) (by decide +kernel)
theorem cw_L_185 : xcV RL 185 yX5_best cX5_best 1 (some .int) 0 := xcV_of mw_330 mw_331 mw_332 mw_1 mw_333 (by decide) (by decide +kernel)
theorem cw_L_188 : xcV RL 188 yX6_best cX6_best 1 (some .int) 0 := xcV_of mw_1241 mw_1242 mw_1243 mw_6 mw_1244 (by decide) (by decide +kernel)
theorem cw_L_191 : xcV RL 191 yX6_gets cX6_gets 2 (some .int) 1 := xcV_of mw_1253 mw_1254 mw_1255 mw_6 mw_1256 (by decide) (by decide +kernel)
theorem cw_L_194 : xcV RL 194 yX6_pays cX6_pays 4 (some .int) 1 := xcV_of mw_1257 mw_1258 mw_1259 mw_6 mw_1260 (by decide) (by decide +kernel)
theorem cw_L_197 : xcV RL 197 yX6_oneMore cX6_oneMore 2 (some .int) 1 := xcV_of mw_1261 mw_1262 mw_1263 mw_6 mw_1264 (by decide) (by decide +kernel)
theorem cw_L_198 : xcV RL 198 yX5_leastMissed cX5_leastMissed 5 (some .int) 0 := xcV_of mw_379 mw_380 mw_381 mw_1 mw_382 (by decide) (by decide +kernel)
theorem cw_L_201 : xcV RL 201 yX6_leastMissed cX6_leastMissed 5 (some .int) 0 := xcV_of mw_1265 mw_1266 mw_1267 mw_6 mw_1268 (by decide) (by decide +kernel)
theorem cw_L_204 : xcV RL 204 yX6_wouldAsk cX6_wouldAsk 3 (some .int) 2 := xcV_of mw_1269 mw_1270 mw_1271 mw_6 mw_1272 (by decide) (by decide +kernel)
theorem cw_L_205 : xcV RL 205 yX5_roundsLeft cX5_roundsLeft 2 (some .int) 0 := xcV_of mw_383 mw_384 mw_385 mw_1 mw_386 (by decide) (by decide +kernel)
theorem cw_L_208 : xcV RL 208 yX6_roundsLeft cX6_roundsLeft 2 (some .int) 0 := xcV_of mw_1273 mw_1274 mw_1275 mw_6 mw_1276 (by decide) (by decide +kernel)
theorem cw_L_211 : xcV RL 211 yX6_endPrice cX6_endPrice 2 (some .int) 1 := xcV_of mw_1281 mw_1282 mw_1283 mw_6 mw_1284 (by decide) (by decide +kernel)
theorem cw_L_217 : xcV RL 217 yX6_runScript cX6_runScript 8 (some .int) 2 := xcV_of mw_1285 mw_1286 mw_1287 mw_6 mw_1288 (by decide) (by decide +kernel)
theorem cw_L_221 : xcV RL 221 yX6_simulate cX6_simulate 7 (some .int) 2 := xcV_of mw_1294 mw_1295 mw_1296 mw_6 mw_1297 (by decide) (by decide +kernel)
theorem cw_L_224 : xcV RL 224 yX6_save cX6_save 2 (some .int) 1 := xcV_of mw_1305 mw_1306 mw_1307 mw_6 mw_1308 (by decide) (by decide +kernel)
theorem cw_L_227 : xcV RL 227 yX6_restore cX6_restore 2 (some .int) 1 := xcV_of mw_1309 mw_1310 mw_1311 mw_6 mw_1312 (by decide) (by decide +kernel)
theorem cw_X0_30 : xcV RX0 30 yX0_tryFrom cX0_tryFrom 7 none 4 := xcV_of mw_338 mw_340 mv_0 mw_5 mw_341 (by decide) (by decide +kernel)
theorem cw_X0_37 : xcV RX0 37 yX0_keepIfBetter cX0_keepIfBetter 2 none 1 := xcV_of mw_342 mw_344 mv_1 mw_5 mw_345 (by decide) (by decide +kernel)
theorem cw_X0_44 : xcV RX0 44 yX0_tryWith cX0_tryWith 6 none 5 := xcV_of mw_349 mw_351 mv_2 mw_5 mw_352 (by decide) (by decide +kernel)
theorem cw_X0_48 : xcV RX0 48 yX0_fits cX0_fits 5 (some .boolean) 3 := xcV_of mw_353 mw_355 mv_3 mw_5 mw_356 (by decide) (by decide +kernel)
theorem cw_X0_52 : xcV RX0 52 yX0_take cX0_take 6 none 4 := xcV_of mw_367 mw_369 mv_4 mw_5 mw_370 (by decide) (by decide +kernel)
theorem cw_X0_55 : xcV RX0 55 yX1_packValue cX1_packValue 3 (some .int) 2 := xcV_of mw_371 mw_372 mw_373 mw_2 mw_374 (by decide) (by decide +kernel)
theorem cw_X0_59 : xcV RX0 59 yX1_packLots cX1_packLots 4 (some .int) 3 := xcV_of mw_357 mw_358 mw_359 mw_2 mw_360 (by decide) (by decide +kernel)
theorem cw_X1_42 : xcV RX1 42 yX1_renew cX1_renew 2 none 0 := xcV_of mw_35 mw_36 mw_37 mw_2 mw_38 (by decide) (by decide +kernel)
theorem cw_X1_68 : xcN RX1 68 yX5_outside RX5 cX5_outside 3 (some .boolean) 3 := xcN_of (by simp [xNest]) mw_448 mw_1 mw_449 (by decide) (by decide +kernel)
theorem cw_X1_72 : xcN RX1 72 yX5_cell RX5 cX5_cell 2 (some .int) 2 := xcN_of (by simp [xNest]) mw_362 mw_1 mw_363 (by decide) (by decide +kernel)
theorem cw_X1_76 : xcV RX1 76 yX1_askedOf cX1_askedOf 4 (some .int) 1 := xcV_of mw_428 mw_429 mw_430 mw_2 mw_431 (by decide) (by decide +kernel)
theorem cw_X1_80 : xcV RX1 80 yX1_margin cX1_margin 3 (some .int) 2 := xcV_of mw_412 mw_413 mw_414 mw_2 mw_415 (by decide) (by decide +kernel)
theorem cw_X1_88 : xcS RX1 88 yX1_packCell cX1_packCell 2 (some .int) 2 := xcS_of mw_364 mw_365 mw_2 mw_366 (by decide) (by decide +kernel)
theorem cw_X1_91 : xcV RX1 91 yX1_costOf cX1_costOf 4 (some .int) 3 := xcV_of mw_375 mw_376 mw_377 mw_2 mw_378 (by decide) (by decide +kernel)
theorem cw_X1_95 : xcN RX1 95 yX5_noKind RX5 cX5_noKind 1 (some .boolean) 1 := xcN_of (by simp [xNest]) mw_575 mw_1 mw_576 (by decide) (by decide +kernel)
theorem cw_X1_100 : xcV RX1 100 yX1_noBidder cX1_noBidder 2 (some .boolean) 1 := xcV_of mw_602 mw_603 mw_604 mw_2 mw_605 (by decide) (by decide +kernel)
theorem cw_X1_103 : xcV RX1 103 yX1_mostLots cX1_mostLots 3 (some .int) 2 := xcV_of mw_404 mw_405 mw_406 mw_2 mw_407 (by decide) (by decide +kernel)
theorem cw_X1_106 : xcV RX1 106 yX1_activity cX1_activity 4 (some .int) 1 := xcV_of mw_424 mw_425 mw_426 mw_2 mw_427 (by decide) (by decide +kernel)
theorem cw_X1_110 : xcV RX1 110 yX1_mayHave cX1_mayHave 5 (some .boolean) 4 := xcV_of mw_817 mw_818 mw_819 mw_2 mw_820 (by decide) (by decide +kernel)
theorem cw_X1_114 : xcV RX1 114 yX1_changeDemands cX1_changeDemands 5 none 4 := xcV_of mw_416 mw_417 mw_418 mw_2 mw_419 (by decide) (by decide +kernel)
theorem cw_X1_118 : xcV RX1 118 yX1_mostWanted cX1_mostWanted 3 (some .int) 2 := xcV_of mw_400 mw_401 mw_402 mw_2 mw_403 (by decide) (by decide +kernel)
theorem cw_X1_121 : xcN RX1 121 yX5_quotient RX5 cX5_quotient 2 (some .int) 2 := xcN_of (by simp [xNest]) mw_410 mw_1 mw_411 (by decide) (by decide +kernel)
theorem cw_X1_124 : xcV RX1 124 yX1_raisePrice cX1_raisePrice 3 none 1 := xcV_of mw_432 mw_433 mw_434 mw_2 mw_435 (by decide) (by decide +kernel)
theorem cw_X1_131 : xcV RX1 131 yX1_whyNotOffer cX1_whyNotOffer 4 (some .int) 3 := xcV_of mw_570 mw_571 mw_572 mw_2 mw_573 (by decide) (by decide +kernel)
theorem cw_X1_134 : xcV RX1 134 yX1_changeOffer cX1_changeOffer 4 none 3 := xcV_of mw_578 mw_579 mw_580 mw_2 mw_581 (by decide) (by decide +kernel)
theorem cw_X1_138 : xcV RX1 138 yX1_whyNotJoin cX1_whyNotJoin 3 (some .int) 2 := xcV_of mw_586 mw_587 mw_588 mw_2 mw_589 (by decide) (by decide +kernel)
theorem cw_X1_141 : xcV RX1 141 yX1_addBidder cX1_addBidder 5 none 2 := xcV_of mw_590 mw_591 mw_592 mw_2 mw_593 (by decide) (by decide +kernel)
theorem cw_X1_145 : xcV RX1 145 yX1_whyNotValue cX1_whyNotValue 4 (some .int) 3 := xcV_of mw_598 mw_599 mw_600 mw_2 mw_601 (by decide) (by decide +kernel)
theorem cw_X1_148 : xcV RX1 148 yX1_whyNotAsk cX1_whyNotAsk 5 (some .int) 3 := xcV_of mw_610 mw_611 mw_612 mw_2 mw_613 (by decide) (by decide +kernel)
theorem cw_X1_151 : xcV RX1 151 yX1_whyNotBid cX1_whyNotBid 2 (some .int) 1 := xcV_of mw_618 mw_619 mw_620 mw_2 mw_621 (by decide) (by decide +kernel)
theorem cw_X1_154 : xcV RX1 154 yX1_bidByValues cX1_bidByValues 11 none 1 := xcV_of mw_622 mw_397 mw_398 mw_2 mw_399 (by decide) (by decide +kernel)
theorem cw_X1_157 : xcV RX1 157 yX1_whyNotClose cX1_whyNotClose 1 (some .int) 0 := xcV_of mw_627 mw_628 mw_629 mw_2 mw_630 (by decide) (by decide +kernel)
theorem cw_X1_161 : xcV RX1 161 yX1_closeRound cX1_closeRound 3 (some .int) 0 := xcV_of mw_631 mw_421 mw_422 mw_2 mw_423 (by decide) (by decide +kernel)
theorem cw_X1_164 : xcV RX1 164 yX1_whyNotAdd cX1_whyNotAdd 6 (some .int) 5 := xcV_of mw_964 mw_813 mw_814 mw_2 mw_815 (by decide) (by decide +kernel)
theorem cw_X1_168 : xcV RX1 168 yX1_addPack cX1_addPack 7 none 5 := xcV_of mw_965 mw_822 mw_823 mw_2 mw_824 (by decide) (by decide +kernel)
theorem cw_X1_172 : xcV RX1 172 yX1_whyNotDrop cX1_whyNotDrop 3 (some .int) 2 := xcV_of mw_941 mw_833 mw_834 mw_2 mw_835 (by decide) (by decide +kernel)
theorem cw_X1_175 : xcV RX1 175 yX1_dropPack cX1_dropPack 6 none 2 := xcV_of mw_942 mw_837 mw_838 mw_2 mw_839 (by decide) (by decide +kernel)
theorem cw_X1_178 : xcV RX1 178 yX1_whyNotSet cX1_whyNotSet 3 (some .int) 2 := xcV_of mw_935 mw_848 mw_849 mw_2 mw_850 (by decide) (by decide +kernel)
theorem cw_X1_181 : xcV RX1 181 yX1_changeSetting cX1_changeSetting 3 none 2 := xcV_of mw_936 mw_852 mw_853 mw_2 mw_854 (by decide) (by decide +kernel)
theorem cw_X2_25 : xcV RX2 25 yX1_become cX1_become 2 none 1 := xcV_of mw_750 mw_392 mw_393 mw_2 mw_394 (by decide) (by decide +kernel)
theorem cw_X3_9 : xcV RX3 9 yX1_tryAsk cX1_tryAsk 4 (some .boolean) 3 := xcV_of mw_927 mw_607 mw_608 mw_2 mw_609 (by decide) (by decide +kernel)
theorem cw_X3_15 : xcV RX3 15 yX1_tryBid cX1_tryBid 2 (some .boolean) 1 := xcV_of mw_928 mw_615 mw_616 mw_2 mw_617 (by decide) (by decide +kernel)
theorem cw_X3_19 : xcV RX3 19 yX1_tryClose cX1_tryClose 1 (some .boolean) 0 := xcV_of mw_929 mw_624 mw_625 mw_2 mw_626 (by decide) (by decide +kernel)
theorem cw_X3_23 : xcV RX3 23 yX1_tryValue cX1_tryValue 4 (some .boolean) 3 := xcV_of mw_930 mw_595 mw_596 mw_2 mw_597 (by decide) (by decide +kernel)
theorem cw_X3_26 : xcV RX3 26 yX1_trySet cX1_trySet 3 (some .boolean) 2 := xcV_of mw_931 mw_932 mw_933 mw_2 mw_934 (by decide) (by decide +kernel)
theorem cw_X3_30 : xcV RX3 30 yX1_tryDrop cX1_tryDrop 3 (some .boolean) 2 := xcV_of mw_937 mw_938 mw_939 mw_2 mw_940 (by decide) (by decide +kernel)
theorem cw_X3_33 : xcN RX3 33 yX5_noKind RX5 cX5_noKind 1 (some .boolean) 1 := xcN_of (by simp [xNest]) mw_575 mw_1 mw_576 (by decide) (by decide +kernel)
theorem cw_X3_40 : xcV RX3 40 yX1_noBidder cX1_noBidder 2 (some .boolean) 1 := xcV_of mw_944 mw_603 mw_604 mw_2 mw_605 (by decide) (by decide +kernel)
theorem cw_X3_54 : xcV RX3 54 yX1_tryJoin cX1_tryJoin 3 (some .boolean) 2 := xcV_of mw_958 mw_583 mw_584 mw_2 mw_585 (by decide) (by decide +kernel)
theorem cw_X3_58 : xcV RX3 58 yX1_tryAdd cX1_tryAdd 6 (some .boolean) 5 := xcV_of mw_960 mw_961 mw_962 mw_2 mw_963 (by decide) (by decide +kernel)
theorem cw_X4_19 : xcS RX4 19 yX4_isCommand cX4_isCommand 1 (some .boolean) 1 := xcS_of mw_195 mw_196 mw_4 mw_197 (by decide) (by decide +kernel)
theorem cw_X4_23 : xcS RX4 23 yX4_digitsOf cX4_digitsOf 1 (some .int) 1 := xcS_of mw_285 mw_286 mw_4 mw_287 (by decide) (by decide +kernel)
theorem cw_X4_27 : xcS RX4 27 yX4_allows cX4_allows 5 (some .boolean) 3 := xcS_of mw_298 mw_299 mw_4 mw_300 (by decide) (by decide +kernel)
theorem cw_X4_31 : xcV RX4 31 yX4_doCommand cX4_doCommand 3 (some .boolean) 2 := xcV_of mw_558 mw_560 mv_7 mw_4 mw_561 (by decide) (by decide +kernel)
theorem cw_X4_35 : xcV RX4 35 yX4_number cX4_number 5 (some .int) 2 := xcV_of mw_562 mw_564 mv_8 mw_4 mw_565 (by decide) (by decide +kernel)
theorem cw_X4_39 : xcV RX4 39 yX1_tryOffer cX1_tryOffer 4 (some .boolean) 3 := xcV_of mw_566 mw_567 mw_568 mw_2 mw_569 (by decide) (by decide +kernel)
theorem cw_X4_45 : xcV RX4 45 yX1_tryJoin cX1_tryJoin 3 (some .boolean) 2 := xcV_of mw_582 mw_583 mw_584 mw_2 mw_585 (by decide) (by decide +kernel)
theorem cw_X4_49 : xcV RX4 49 yX1_tryValue cX1_tryValue 4 (some .boolean) 3 := xcV_of mw_594 mw_595 mw_596 mw_2 mw_597 (by decide) (by decide +kernel)
theorem cw_X4_52 : xcV RX4 52 yX1_tryAsk cX1_tryAsk 4 (some .boolean) 3 := xcV_of mw_606 mw_607 mw_608 mw_2 mw_609 (by decide) (by decide +kernel)
theorem cw_X4_55 : xcV RX4 55 yX1_tryBid cX1_tryBid 2 (some .boolean) 1 := xcV_of mw_614 mw_615 mw_616 mw_2 mw_617 (by decide) (by decide +kernel)
theorem cw_X4_59 : xcV RX4 59 yX1_tryClose cX1_tryClose 1 (some .boolean) 0 := xcV_of mw_623 mw_624 mw_625 mw_2 mw_626 (by decide) (by decide +kernel)
theorem cw_X4_71 : xcS RX4 71 yX4_greatestDigits cX4_greatestDigits 1 (Option.some (ClassFile.FieldType.object "java/lang/String")) 1 := xcS_of mw_288 mw_289 mw_4 mw_290 (by decide) (by decide +kernel)
theorem cw_X4_78 : xcS RX4 78 yX4_leastDigits cX4_leastDigits 1 (Option.some (ClassFile.FieldType.object "java/lang/String")) 1 := xcS_of mw_301 mw_302 mw_4 mw_303 (by decide) (by decide +kernel)
theorem cw_X5_48 : xcS RX5 48 yX5_outside cX5_outside 3 (some .boolean) 3 := xcS_of mw_447 mw_448 mw_1 mw_449 (by decide) (by decide +kernel)
theorem cw_X5_59 : xcV RX5 59 yX4_isFull cX4_isFull 1 (some .boolean) 0 := xcV_of mw_517 mw_518 mw_519 mw_4 mw_520 (by decide) (by decide +kernel)
theorem cw_X5_68 : xcV RX5 68 yX4_put cX4_put 2 (some .int) 1 := xcV_of mw_537 mw_538 mw_539 mw_4 mw_540 (by decide) (by decide +kernel)
theorem cw_X5_72 : xcV RX5 72 yX4_empty cX4_empty 2 (some .int) 0 := xcV_of mw_183 mw_184 mw_185 mw_4 mw_186 (by decide) (by decide +kernel)
theorem cw_X5_76 : xcV RX5 76 yX4_firstError cX4_firstError 5 (some .int) 0 := xcV_of mw_191 mw_192 mw_193 mw_4 mw_194 (by decide) (by decide +kernel)
theorem cw_X5_81 : xcV RX5 81 yX1_renew cX1_renew 2 none 0 := xcV_of mw_549 mw_36 mw_37 mw_2 mw_38 (by decide) (by decide +kernel)
theorem cw_X5_84 : xcV RX5 84 yX2_forgetAll cX2_forgetAll 1 none 0 := xcV_of mw_550 mw_551 mw_552 mw_3 mw_553 (by decide) (by decide +kernel)
theorem cw_X5_87 : xcV RX5 87 yX4_doCommands cX4_doCommands 4 (some .int) 1 := xcV_of mw_554 mw_555 mw_556 mw_4 mw_557 (by decide) (by decide +kernel)
theorem cw_X5_102 : xcV RX5 102 yX1_scarceKinds cX1_scarceKinds 3 (some .int) 0 := xcV_of mw_639 mw_640 mw_641 mw_2 mw_642 (by decide) (by decide +kernel)
theorem cw_X5_105 : xcV RX5 105 yX1_allPacks cX1_allPacks 3 (some .int) 0 := xcV_of mw_643 mw_644 mw_645 mw_2 mw_646 (by decide) (by decide +kernel)
theorem cw_X5_108 : xcV RX5 108 yX1_allCosts cX1_allCosts 3 (some .int) 0 := xcV_of mw_647 mw_648 mw_649 mw_2 mw_650 (by decide) (by decide +kernel)
theorem cw_X5_113 : xcV RX5 113 yX5_needKind cX5_needKind 2 none 1 := xcV_of mw_660 mw_662 mv_9 mw_1 mw_663 (by decide) (by decide +kernel)
theorem cw_X5_127 : xcV RX5 127 yX1_askedOf cX1_askedOf 4 (some .int) 1 := xcV_of mw_681 mw_429 mw_430 mw_2 mw_431 (by decide) (by decide +kernel)
theorem cw_X5_133 : xcV RX5 133 yX5_needBidder cX5_needBidder 2 none 1 := xcV_of mw_690 mw_692 mv_10 mw_1 mw_693 (by decide) (by decide +kernel)
theorem cw_X5_142 : xcV RX5 142 yX1_activity cX1_activity 4 (some .int) 1 := xcV_of mw_696 mw_425 mw_426 mw_2 mw_427 (by decide) (by decide +kernel)
theorem cw_X5_148 : xcV RX5 148 yX1_profit cX1_profit 4 (some .int) 1 := xcV_of mw_697 mw_698 mw_699 mw_2 mw_700 (by decide) (by decide +kernel)
theorem cw_X5_156 : xcS RX5 156 yX5_cell cX5_cell 2 (some .int) 2 := xcS_of mw_709 mw_362 mw_1 mw_363 (by decide) (by decide +kernel)
theorem cw_X5_165 : xcV RX5 165 yX1_packValue cX1_packValue 3 (some .int) 2 := xcV_of mw_718 mw_372 mw_373 mw_2 mw_374 (by decide) (by decide +kernel)
theorem cw_X5_168 : xcV RX5 168 yX1_packLots cX1_packLots 4 (some .int) 3 := xcV_of mw_719 mw_358 mw_359 mw_2 mw_360 (by decide) (by decide +kernel)
theorem cw_X5_174 : xcV RX5 174 yX1_settingOf cX1_settingOf 2 (some .int) 1 := xcV_of mw_728 mw_729 mw_730 mw_2 mw_731 (by decide) (by decide +kernel)
theorem cw_X5_177 : xcV RX5 177 yX1_whyNotOffer cX1_whyNotOffer 4 (some .int) 3 := xcV_of mw_739 mw_571 mw_572 mw_2 mw_573 (by decide) (by decide +kernel)
theorem cw_X5_180 : xcS RX5 180 yX5_refuse cX5_refuse 1 none 1 := xcS_of mw_740 mw_741 mw_1 mw_742 (by decide) (by decide +kernel)
theorem cw_X5_183 : xcV RX5 183 yX2_remember cX2_remember 2 none 1 := xcV_of mw_746 mw_747 mw_748 mw_3 mw_749 (by decide) (by decide +kernel)
theorem cw_X5_187 : xcV RX5 187 yX1_changeOffer cX1_changeOffer 4 none 3 := xcV_of mw_752 mw_579 mw_580 mw_2 mw_581 (by decide) (by decide +kernel)
theorem cw_X5_191 : xcV RX5 191 yX1_whyNotPrice cX1_whyNotPrice 3 (some .int) 2 := xcV_of mw_760 mw_761 mw_762 mw_2 mw_763 (by decide) (by decide +kernel)
theorem cw_X5_194 : xcV RX5 194 yX1_whyNotJoin cX1_whyNotJoin 3 (some .int) 2 := xcV_of mw_771 mw_587 mw_588 mw_2 mw_589 (by decide) (by decide +kernel)
theorem cw_X5_197 : xcV RX5 197 yX1_addBidder cX1_addBidder 5 none 2 := xcV_of mw_772 mw_591 mw_592 mw_2 mw_593 (by decide) (by decide +kernel)
theorem cw_X5_201 : xcV RX5 201 yX1_whyNotValue cX1_whyNotValue 4 (some .int) 3 := xcV_of mw_780 mw_599 mw_600 mw_2 mw_601 (by decide) (by decide +kernel)
theorem cw_X5_207 : xcV RX5 207 yX1_whyNotAsk cX1_whyNotAsk 5 (some .int) 3 := xcV_of mw_788 mw_611 mw_612 mw_2 mw_613 (by decide) (by decide +kernel)
theorem cw_X5_210 : xcV RX5 210 yX1_whyNotBid cX1_whyNotBid 2 (some .int) 1 := xcV_of mw_796 mw_619 mw_620 mw_2 mw_621 (by decide) (by decide +kernel)
theorem cw_X5_213 : xcV RX5 213 yX1_bidByValues cX1_bidByValues 11 none 1 := xcV_of mw_396 mw_397 mw_398 mw_2 mw_399 (by decide) (by decide +kernel)
theorem cw_X5_216 : xcV RX5 216 yX1_whyNotClose cX1_whyNotClose 1 (some .int) 0 := xcV_of mw_804 mw_628 mw_629 mw_2 mw_630 (by decide) (by decide +kernel)
theorem cw_X5_219 : xcV RX5 219 yX1_closeRound cX1_closeRound 3 (some .int) 0 := xcV_of mw_420 mw_421 mw_422 mw_2 mw_423 (by decide) (by decide +kernel)
theorem cw_X5_222 : xcV RX5 222 yX1_whyNotAdd cX1_whyNotAdd 6 (some .int) 5 := xcV_of mw_812 mw_813 mw_814 mw_2 mw_815 (by decide) (by decide +kernel)
theorem cw_X5_226 : xcV RX5 226 yX1_addPack cX1_addPack 7 none 5 := xcV_of mw_821 mw_822 mw_823 mw_2 mw_824 (by decide) (by decide +kernel)
theorem cw_X5_230 : xcV RX5 230 yX1_whyNotDrop cX1_whyNotDrop 3 (some .int) 2 := xcV_of mw_832 mw_833 mw_834 mw_2 mw_835 (by decide) (by decide +kernel)
theorem cw_X5_233 : xcV RX5 233 yX1_dropPack cX1_dropPack 6 none 2 := xcV_of mw_836 mw_837 mw_838 mw_2 mw_839 (by decide) (by decide +kernel)
theorem cw_X5_236 : xcV RX5 236 yX1_whyNotSet cX1_whyNotSet 3 (some .int) 2 := xcV_of mw_847 mw_848 mw_849 mw_2 mw_850 (by decide) (by decide +kernel)
theorem cw_X5_239 : xcV RX5 239 yX1_changeSetting cX1_changeSetting 3 none 2 := xcV_of mw_851 mw_852 mw_853 mw_2 mw_854 (by decide) (by decide +kernel)
theorem cw_X5_242 : xcV RX5 242 yX2_isEmpty cX2_isEmpty 1 (some .boolean) 0 := xcV_of mw_862 mw_863 mw_864 mw_3 mw_865 (by decide) (by decide +kernel)
theorem cw_X5_247 : xcV RX5 247 yX2_takeBack cX2_takeBack 2 none 1 := xcV_of mw_867 mw_868 mw_869 mw_3 mw_870 (by decide) (by decide +kernel)
theorem cw_X5_250 : xcV RX5 250 yX2_size cX2_size 1 (some .int) 0 := xcV_of mw_871 mw_872 mw_873 mw_3 mw_874 (by decide) (by decide +kernel)
theorem cw_X5_253 : xcV RX5 253 yX0_find cX0_find 5 (some .int) 3 := xcV_of mw_334 mw_335 mw_336 mw_5 mw_337 (by decide) (by decide +kernel)
theorem cw_X5_257 : xcV RX5 257 yX0_packOf cX0_packOf 2 (some .int) 1 := xcV_of mw_882 mw_883 mw_884 mw_5 mw_885 (by decide) (by decide +kernel)
theorem cw_X5_260 : xcV RX5 260 yX1_become cX1_become 2 none 1 := xcV_of mw_391 mw_392 mw_393 mw_2 mw_394 (by decide) (by decide +kernel)
theorem cw_X5_263 : xcV RX5 263 yX5_runToTheEnd cX5_runToTheEnd 3 (some .int) 0 := xcV_of mw_387 mw_389 mv_5 mw_1 mw_390 (by decide) (by decide +kernel)
theorem cw_X5_272 : xcS RX5 272 yX3_succeeds cX3_succeeds 5 (some .boolean) 2 := xcS_of mw_924 mw_925 mw_20 mw_926 (by decide) (by decide +kernel)
theorem cw_X5_284 : xcS RX5 284 yX3_takeTurn cX3_takeTurn 6 none 2 := xcS_of mw_955 mw_956 mw_20 mw_957 (by decide) (by decide +kernel)
theorem cw_X5_288 : xcV RX5 288 yX1_allDemands cX1_allDemands 3 (some .int) 0 := xcV_of mw_966 mw_967 mw_968 mw_2 mw_969 (by decide) (by decide +kernel)
theorem cw_X5_291 : xcV RX5 291 yX5_needSlot cX5_needSlot 2 none 1 := xcV_of mw_977 mw_979 mv_11 mw_1 mw_980 (by decide) (by decide +kernel)
theorem cw_X5_296 : xcS RX5 296 yX5_noKind cX5_noKind 1 (some .boolean) 1 := xcS_of mw_664 mw_575 mw_1 mw_576 (by decide) (by decide +kernel)
theorem cw_X5_302 : xcV RX5 302 yX1_noBidder cX1_noBidder 2 (some .boolean) 1 := xcV_of mw_694 mw_603 mw_604 mw_2 mw_605 (by decide) (by decide +kernel)
theorem cw_X6_35 : xcS RX6 35 yX6_begin cX6_begin 2 none 1 := xcS_of mw_996 mw_997 mw_6 mw_998 (by decide) (by decide +kernel)
theorem cw_X6_45 : xcS RX6 45 yX6_in cX6_in 6 (some .boolean) 3 := xcS_of mw_1048 mw_1049 mw_6 mw_1050 (by decide) (by decide +kernel)
theorem cw_X6_49 : xcS RX6 49 yX6_at cX6_at 1 (some .int) 1 := xcS_of mw_1090 mw_1091 mw_6 mw_1092 (by decide) (by decide +kernel)
theorem cw_X6_53 : xcS RX6 53 yX6_asked cX6_asked 4 (some .int) 2 := xcS_of mw_1134 mw_1135 mw_6 mw_1136 (by decide) (by decide +kernel)
theorem cw_X6_57 : xcS RX6 57 yX6_digit cX6_digit 2 (some .int) 2 := xcS_of mw_1119 mw_1120 mw_6 mw_1121 (by decide) (by decide +kernel)
theorem cw_X6_61 : xcS RX6 61 yX6_less cX6_less 2 (some .int) 2 := xcS_of mw_1122 mw_1123 mw_6 mw_1124 (by decide) (by decide +kernel)
theorem cw_X6_64 : xcS RX6 64 yX6_profit cX6_profit 4 (some .int) 2 := xcS_of mw_1125 mw_1126 mw_6 mw_1127 (by decide) (by decide +kernel)
theorem cw_X6_67 : xcS RX6 67 yX6_activity cX6_activity 4 (some .int) 2 := xcS_of mw_1110 mw_1111 mw_6 mw_1112 (by decide) (by decide +kernel)
theorem cw_X6_70 : xcS RX6 70 yX6_excess cX6_excess 3 (some .int) 1 := xcS_of mw_1131 mw_1132 mw_6 mw_1133 (by decide) (by decide +kernel)
theorem cw_X6_79 : xcS RX6 79 yX6_isBidder cX6_isBidder 2 (some .boolean) 2 := xcS_of mw_1096 mw_1097 mw_6 mw_1098 (by decide) (by decide +kernel)
theorem cw_X6_83 : xcS RX6 83 yX6_isKind cX6_isKind 1 (some .boolean) 1 := xcS_of mw_1099 mw_1100 mw_6 mw_1101 (by decide) (by decide +kernel)
theorem cw_X6_91 : xcS RX6 91 yX6_packOf cX6_packOf 6 (some .int) 4 := xcS_of mw_1150 mw_1151 mw_6 mw_1152 (by decide) (by decide +kernel)
theorem cw_X6_95 : xcV RX6 95 yX6_fits cX6_fits 7 (some .boolean) 2 := xcV_of mw_1249 mw_1251 mv_19 mw_6 mw_1252 (by decide) (by decide +kernel)
theorem cw_X6_103 : xcV RX6 103 yX6_refused cX6_refused 2 (some .boolean) 1 := xcV_of mw_1051 mw_1053 mv_12 mw_6 mw_1054 (by decide) (by decide +kernel)
theorem cw_X6_109 : xcV RX6 109 yX6_figure cX6_figure 4 (some .int) 2 := xcV_of mw_1071 mw_1073 mv_15 mw_6 mw_1074 (by decide) (by decide +kernel)
theorem cw_X6_112 : xcS RX6 112 yX6_whyNotJoin cX6_whyNotJoin 3 (some .int) 3 := xcS_of mw_1082 mw_1083 mw_6 mw_1084 (by decide) (by decide +kernel)
theorem cw_X6_116 : xcS RX6 116 yX6_joinOn cX6_joinOn 4 (some .int) 3 := xcS_of mw_1087 mw_1088 mw_6 mw_1089 (by decide) (by decide +kernel)
theorem cw_X6_119 : xcS RX6 119 yX6_whyNotValue cX6_whyNotValue 4 (some .int) 4 := xcS_of mw_1093 mw_1094 mw_6 mw_1095 (by decide) (by decide +kernel)
theorem cw_X6_122 : xcS RX6 122 yX6_valueOn cX6_valueOn 5 (some .int) 4 := xcS_of mw_1104 mw_1105 mw_6 mw_1106 (by decide) (by decide +kernel)
theorem cw_X6_125 : xcS RX6 125 yX6_whyNotAsk cX6_whyNotAsk 5 (some .int) 4 := xcS_of mw_1107 mw_1108 mw_6 mw_1109 (by decide) (by decide +kernel)
theorem cw_X6_128 : xcS RX6 128 yX6_askOn cX6_askOn 4 (some .int) 4 := xcS_of mw_1113 mw_1114 mw_6 mw_1115 (by decide) (by decide +kernel)
theorem cw_X6_131 : xcS RX6 131 yX6_bidOn cX6_bidOn 12 (some .int) 2 := xcS_of mw_1116 mw_1117 mw_6 mw_1118 (by decide) (by decide +kernel)
theorem cw_X6_134 : xcS RX6 134 yX6_closeOn cX6_closeOn 4 (some .int) 1 := xcS_of mw_1128 mw_1129 mw_6 mw_1130 (by decide) (by decide +kernel)
theorem cw_X6_137 : xcV RX6 137 yX6_figures cX6_figures 6 (some .int) 2 := xcV_of mw_1075 mw_1077 mv_16 mw_6 mw_1078 (by decide) (by decide +kernel)
theorem cw_X6_143 : xcS RX6 143 yX6_does cX6_does 5 (some .boolean) 5 := xcS_of mw_1079 mw_1080 mw_6 mw_1081 (by decide) (by decide +kernel)
theorem cw_X6_147 : xcV RX6 147 yX6_readCommand cX6_readCommand 6 (some .boolean) 1 := xcV_of mw_1067 mw_1069 mv_14 mw_6 mw_1070 (by decide) (by decide +kernel)
theorem cw_X6_151 : xcV RX6 151 yX6_readText cX6_readText 2 (some .int) 1 := xcV_of mw_1063 mw_1065 mv_13 mw_6 mw_1066 (by decide) (by decide +kernel)
theorem cw_X6_154 : xcS RX6 154 yX6_copyState cX6_copyState 5 none 4 := xcS_of mw_1142 mw_1143 mw_6 mw_1144 (by decide) (by decide +kernel)
theorem cw_X6_167 : xcV RX6 167 yX6_remember cX6_remember 2 none 0 := xcV_of mw_1179 mw_1181 mv_17 mw_6 mw_1182 (by decide) (by decide +kernel)
theorem cw_X6_170 : xcS RX6 170 yX6_whyNotAdd cX6_whyNotAdd 9 (some .int) 6 := xcS_of mw_1211 mw_1212 mw_6 mw_1213 (by decide) (by decide +kernel)
theorem cw_X6_174 : xcS RX6 174 yX6_addOn cX6_addOn 7 (some .int) 6 := xcS_of mw_1215 mw_1216 mw_6 mw_1217 (by decide) (by decide +kernel)
theorem cw_X6_177 : xcS RX6 177 yX6_canDrop cX6_canDrop 3 (some .boolean) 3 := xcS_of mw_1222 mw_1223 mw_6 mw_1224 (by decide) (by decide +kernel)
theorem cw_X6_181 : xcS RX6 181 yX6_dropOn cX6_dropOn 5 (some .int) 3 := xcS_of mw_1225 mw_1226 mw_6 mw_1227 (by decide) (by decide +kernel)
theorem cw_X6_188 : xcS RX6 188 yX6_isSetting cX6_isSetting 2 (some .boolean) 2 := xcS_of mw_1232 mw_1233 mw_6 mw_1234 (by decide) (by decide +kernel)
theorem cw_X6_192 : xcV RX6 192 yX6_assign cX6_assign 11 (some .int) 3 := xcV_of mw_1245 mw_1247 mv_18 mw_6 mw_1248 (by decide) (by decide +kernel)
theorem cw_X6_195 : xcV RX6 195 yX6_goOn cX6_goOn 3 (some .int) 0 := xcV_of mw_1277 mw_1279 mv_20 mw_6 mw_1280 (by decide) (by decide +kernel)
theorem cw_X6_201 : xcV RX6 201 yX6_command cX6_command 6 (some .boolean) 5 := xcV_of mw_1290 mw_1292 mv_21 mw_6 mw_1293 (by decide) (by decide +kernel)
theorem cw_X6_210 : xcV RX6 210 yX6_turn cX6_turn 6 none 1 := xcV_of mw_1300 mw_1302 mv_22 mw_6 mw_1303 (by decide) (by decide +kernel)
