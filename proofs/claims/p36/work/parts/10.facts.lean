/-! the words that rows use, by their places -/
theorem iw_X0_k : ∀ k, k < 4 → u_lay RX0 TX0 k ∈ wB := fun k h => match k, h with
  | 0, _ => mw_147
  | 1, _ => mw_149
  | 2, _ => mw_151
  | 3, _ => mw_153
  | k + 4, h => absurd h (by omega)
theorem iw_X0 : ∀ w ∈ u_ws RX0 TX0 4, w ∈ wB := fun w h => by obtain ⟨k, hk, rfl⟩ := List.mem_map.mp h; exact iw_X0_k k (List.mem_range.mp hk)
theorem iw_X1_k : ∀ k, k < 15 → u_lay RX1 TX1 k ∈ wB := fun k h => match k, h with
  | 0, _ => mw_71
  | 1, _ => mw_73
  | 2, _ => mw_75
  | 3, _ => mw_77
  | 4, _ => mw_79
  | 5, _ => mw_81
  | 6, _ => mw_83
  | 7, _ => mw_85
  | 8, _ => mw_87
  | 9, _ => mw_89
  | 10, _ => mw_91
  | 11, _ => mw_93
  | 12, _ => mw_95
  | 13, _ => mw_97
  | 14, _ => mw_99
  | k + 15, h => absurd h (by omega)
theorem iw_X1 : ∀ w ∈ u_ws RX1 TX1 15, w ∈ wB := fun w h => by obtain ⟨k, hk, rfl⟩ := List.mem_map.mp h; exact iw_X1_k k (List.mem_range.mp hk)
theorem iw_X2_k : ∀ k, k < 3 → u_lay RX2 TX2 k ∈ wB := fun k h => match k, h with
  | 0, _ => mw_115
  | 1, _ => mw_117
  | 2, _ => mw_119
  | k + 3, h => absurd h (by omega)
theorem iw_X2 : ∀ w ∈ u_ws RX2 TX2 3, w ∈ wB := fun w h => by obtain ⟨k, hk, rfl⟩ := List.mem_map.mp h; exact iw_X2_k k (List.mem_range.mp hk)
theorem iw_X4_k : ∀ k, k < 2 → u_lay RX4 TX4 k ∈ wB := fun k h => match k, h with
  | 0, _ => mw_130
  | 1, _ => mw_132
  | k + 2, h => absurd h (by omega)
theorem iw_X4 : ∀ w ∈ u_ws RX4 TX4 2, w ∈ wB := fun w h => by obtain ⟨k, hk, rfl⟩ := List.mem_map.mp h; exact iw_X4_k k (List.mem_range.mp hk)
theorem iw_X5_k : ∀ k, k < 7 → u_lay RX5 TX5 k ∈ wB := fun k h => match k, h with
  | 0, _ => mw_163
  | 1, _ => mw_165
  | 2, _ => mw_167
  | 3, _ => mw_169
  | 4, _ => mw_171
  | 5, _ => mw_173
  | 6, _ => mw_175
  | k + 7, h => absurd h (by omega)
theorem iw_X5 : ∀ w ∈ u_ws RX5 TX5 7, w ∈ wB := fun w h => by obtain ⟨k, hk, rfl⟩ := List.mem_map.mp h; exact iw_X5_k k (List.mem_range.mp hk)
theorem iw_X6_k : ∀ k, k < 0 → u_lay RX6 TX6 k ∈ wB := fun k h => match k, h with

  | k + 0, h => absurd h (by omega)
theorem iw_X6 : ∀ w ∈ u_ws RX6 TX6 0, w ∈ wB := fun w h => by obtain ⟨k, hk, rfl⟩ := List.mem_map.mp h; exact iw_X6_k k (List.mem_range.mp hk)
theorem ff_X1_9 : xFld RX1 9 1 0 := ⟨RX1, TX1, 15, rfl, by decide, iw_X1, mw_38⟩
theorem fp_X1_9 : xFldP RX1 9 1 0 (.array .int) true := ⟨RX1, TX1, 15, tyX1, rfl, by decide, iw_X1, mw_38, tyX1_ok, nmX1, rfl, by decide +kernel, fun _ => rfl⟩
theorem ff_X0_21 : xFld RX0 21 1 0 := ⟨RX1, TX1, 15, rfl, by decide, iw_X1, mw_39⟩
theorem ff_X5_117 : xFld RX5 117 1 0 := ⟨RX1, TX1, 15, rfl, by decide, iw_X1, mw_40⟩
theorem ff_X1_15 : xFld RX1 15 1 1 := ⟨RX1, TX1, 15, rfl, by decide, iw_X1, mw_41⟩
theorem fp_X1_15 : xFldP RX1 15 1 1 (.array .int) true := ⟨RX1, TX1, 15, tyX1, rfl, by decide, iw_X1, mw_41, tyX1_ok, nmX1, rfl, by decide +kernel, fun _ => rfl⟩
theorem ff_X5_121 : xFld RX5 121 1 1 := ⟨RX1, TX1, 15, rfl, by decide, iw_X1, mw_42⟩
theorem ff_X1_18 : xFld RX1 18 1 2 := ⟨RX1, TX1, 15, rfl, by decide, iw_X1, mw_43⟩
theorem fp_X1_18 : xFldP RX1 18 1 2 (.array .int) true := ⟨RX1, TX1, 15, tyX1, rfl, by decide, iw_X1, mw_43, tyX1_ok, nmX1, rfl, by decide +kernel, fun _ => rfl⟩
theorem ff_X3_36 : xFld RX3 36 1 2 := ⟨RX1, TX1, 15, rfl, by decide, iw_X1, mw_44⟩
theorem ff_X5_124 : xFld RX5 124 1 2 := ⟨RX1, TX1, 15, rfl, by decide, iw_X1, mw_45⟩
theorem ff_X1_21 : xFld RX1 21 1 3 := ⟨RX1, TX1, 15, rfl, by decide, iw_X1, mw_46⟩
theorem fp_X1_21 : xFldP RX1 21 1 3 (.array .int) true := ⟨RX1, TX1, 15, tyX1, rfl, by decide, iw_X1, mw_46, tyX1_ok, nmX1, rfl, by decide +kernel, fun _ => rfl⟩
theorem ff_X3_43 : xFld RX3 43 1 3 := ⟨RX1, TX1, 15, rfl, by decide, iw_X1, mw_47⟩
theorem ff_X5_136 : xFld RX5 136 1 3 := ⟨RX1, TX1, 15, rfl, by decide, iw_X1, mw_48⟩
theorem ff_X1_24 : xFld RX1 24 1 4 := ⟨RX1, TX1, 15, rfl, by decide, iw_X1, mw_49⟩
theorem fp_X1_24 : xFldP RX1 24 1 4 (.array .int) true := ⟨RX1, TX1, 15, tyX1, rfl, by decide, iw_X1, mw_49, tyX1_ok, nmX1, rfl, by decide +kernel, fun _ => rfl⟩
theorem ff_X5_139 : xFld RX5 139 1 4 := ⟨RX1, TX1, 15, rfl, by decide, iw_X1, mw_50⟩
theorem ff_X1_27 : xFld RX1 27 1 5 := ⟨RX1, TX1, 15, rfl, by decide, iw_X1, mw_51⟩
theorem fp_X1_27 : xFldP RX1 27 1 5 (.array .int) true := ⟨RX1, TX1, 15, tyX1, rfl, by decide, iw_X1, mw_51, tyX1_ok, nmX1, rfl, by decide +kernel, fun _ => rfl⟩
theorem ff_X0_41 : xFld RX0 41 1 5 := ⟨RX1, TX1, 15, rfl, by decide, iw_X1, mw_52⟩
theorem ff_X5_145 : xFld RX5 145 1 5 := ⟨RX1, TX1, 15, rfl, by decide, iw_X1, mw_53⟩
theorem ff_X1_30 : xFld RX1 30 1 6 := ⟨RX1, TX1, 15, rfl, by decide, iw_X1, mw_54⟩
theorem fp_X1_30 : xFldP RX1 30 1 6 (.array .int) true := ⟨RX1, TX1, 15, tyX1, rfl, by decide, iw_X1, mw_54, tyX1_ok, nmX1, rfl, by decide +kernel, fun _ => rfl⟩
theorem ff_X5_204 : xFld RX5 204 1 6 := ⟨RX1, TX1, 15, rfl, by decide, iw_X1, mw_55⟩
theorem ff_X1_33 : xFld RX1 33 1 7 := ⟨RX1, TX1, 15, rfl, by decide, iw_X1, mw_56⟩
theorem fp_X1_33 : xFldP RX1 33 1 7 (.array .int) true := ⟨RX1, TX1, 15, tyX1, rfl, by decide, iw_X1, mw_56, tyX1_ok, nmX1, rfl, by decide +kernel, fun _ => rfl⟩
theorem ff_X5_153 : xFld RX5 153 1 7 := ⟨RX1, TX1, 15, rfl, by decide, iw_X1, mw_57⟩
theorem ff_X1_36 : xFld RX1 36 1 8 := ⟨RX1, TX1, 15, rfl, by decide, iw_X1, mw_58⟩
theorem fp_X1_36 : xFldP RX1 36 1 8 (.array .int) true := ⟨RX1, TX1, 15, tyX1, rfl, by decide, iw_X1, mw_58, tyX1_ok, nmX1, rfl, by decide +kernel, fun _ => rfl⟩
theorem ff_X1_39 : xFld RX1 39 1 9 := ⟨RX1, TX1, 15, rfl, by decide, iw_X1, mw_59⟩
theorem fp_X1_39 : xFldP RX1 39 1 9 (.array .int) true := ⟨RX1, TX1, 15, tyX1, rfl, by decide, iw_X1, mw_59, tyX1_ok, nmX1, rfl, by decide +kernel, fun _ => rfl⟩
theorem ff_X1_45 : xFld RX1 45 1 10 := ⟨RX1, TX1, 15, rfl, by decide, iw_X1, mw_60⟩
theorem fp_X1_45 : xFldP RX1 45 1 10 .int false := ⟨RX1, TX1, 15, tyX1, rfl, by decide, iw_X1, mw_60, tyX1_ok, nmX1, rfl, by decide +kernel, fun _ => rfl⟩
theorem ff_X3_50 : xFld RX3 50 1 10 := ⟨RX1, TX1, 15, rfl, by decide, iw_X1, mw_61⟩
theorem fp_X3_50 : xFldP RX3 50 1 10 .int false := ⟨RX1, TX1, 15, tyX1, rfl, by decide, iw_X1, mw_61, tyX1_ok, nmX1, rfl, by decide +kernel, fun h => by first | (exact absurd h (by decide))⟩
theorem ff_X0_34 : xFld RX0 34 1 10 := ⟨RX1, TX1, 15, rfl, by decide, iw_X1, mw_62⟩
theorem fp_X0_34 : xFldP RX0 34 1 10 .int false := ⟨RX1, TX1, 15, tyX1, rfl, by decide, iw_X1, mw_62, tyX1_ok, nmX1, rfl, by decide +kernel, fun h => by first | (exact absurd h (by decide))⟩
theorem ff_X5_91 : xFld RX5 91 1 10 := ⟨RX1, TX1, 15, rfl, by decide, iw_X1, mw_63⟩
theorem fp_X5_91 : xFldP RX5 91 1 10 .int false := ⟨RX1, TX1, 15, tyX1, rfl, by decide, iw_X1, mw_63, tyX1_ok, nmX1, rfl, by decide +kernel, fun h => by first | (exact absurd h (by decide))⟩
theorem ff_X1_49 : xFld RX1 49 1 11 := ⟨RX1, TX1, 15, rfl, by decide, iw_X1, mw_64⟩
theorem fp_X1_49 : xFldP RX1 49 1 11 .int false := ⟨RX1, TX1, 15, tyX1, rfl, by decide, iw_X1, mw_64, tyX1_ok, nmX1, rfl, by decide +kernel, fun _ => rfl⟩
theorem ff_X5_95 : xFld RX5 95 1 11 := ⟨RX1, TX1, 15, rfl, by decide, iw_X1, mw_65⟩
theorem fp_X5_95 : xFldP RX5 95 1 11 .int false := ⟨RX1, TX1, 15, tyX1, rfl, by decide, iw_X1, mw_65, tyX1_ok, nmX1, rfl, by decide +kernel, fun h => by first | (exact absurd h (by decide))⟩
theorem ff_X1_52 : xFld RX1 52 1 12 := ⟨RX1, TX1, 15, rfl, by decide, iw_X1, mw_66⟩
theorem fp_X1_52 : xFldP RX1 52 1 12 .boolean false := ⟨RX1, TX1, 15, tyX1, rfl, by decide, iw_X1, mw_66, tyX1_ok, nmX1, rfl, by decide +kernel, fun _ => rfl⟩
theorem ff_X3_46 : xFld RX3 46 1 12 := ⟨RX1, TX1, 15, rfl, by decide, iw_X1, mw_67⟩
theorem fp_X3_46 : xFldP RX3 46 1 12 .boolean false := ⟨RX1, TX1, 15, tyX1, rfl, by decide, iw_X1, mw_67, tyX1_ok, nmX1, rfl, by decide +kernel, fun h => by first | (exact absurd h (by decide))⟩
theorem ff_X5_98 : xFld RX5 98 1 12 := ⟨RX1, TX1, 15, rfl, by decide, iw_X1, mw_68⟩
theorem fp_X5_98 : xFldP RX5 98 1 12 .boolean false := ⟨RX1, TX1, 15, tyX1, rfl, by decide, iw_X1, mw_68, tyX1_ok, nmX1, rfl, by decide +kernel, fun h => by first | (exact absurd h (by decide))⟩
theorem ff_X1_56 : xFld RX1 56 1 13 := ⟨RX1, TX1, 15, rfl, by decide, iw_X1, mw_69⟩
theorem fp_X1_56 : xFldP RX1 56 1 13 .int false := ⟨RX1, TX1, 15, tyX1, rfl, by decide, iw_X1, mw_69, tyX1_ok, nmX1, rfl, by decide +kernel, fun _ => rfl⟩
theorem ff_X1_59 : xFld RX1 59 1 14 := ⟨RX1, TX1, 15, rfl, by decide, iw_X1, mw_70⟩
theorem fp_X1_59 : xFldP RX1 59 1 14 .int false := ⟨RX1, TX1, 15, tyX1, rfl, by decide, iw_X1, mw_70, tyX1_ok, nmX1, rfl, by decide +kernel, fun _ => rfl⟩
theorem ff_X2_11 : xFld RX2 11 2 0 := ⟨RX2, TX2, 3, rfl, by decide, iw_X2, mw_112⟩
theorem fp_X2_11 : xFldP RX2 11 2 0 (.array (.object "ClockLots$Auction")) true := ⟨RX2, TX2, 3, tyX2, rfl, by decide, iw_X2, mw_112, tyX2_ok, nmX2, rfl, by decide +kernel, fun _ => rfl⟩
theorem ff_X2_22 : xFld RX2 22 2 1 := ⟨RX2, TX2, 3, rfl, by decide, iw_X2, mw_113⟩
theorem fp_X2_22 : xFldP RX2 22 2 1 .int false := ⟨RX2, TX2, 3, tyX2, rfl, by decide, iw_X2, mw_113, tyX2_ok, nmX2, rfl, by decide +kernel, fun _ => rfl⟩
theorem ff_X2_18 : xFld RX2 18 2 2 := ⟨RX2, TX2, 3, rfl, by decide, iw_X2, mw_114⟩
theorem fp_X2_18 : xFldP RX2 18 2 2 .int false := ⟨RX2, TX2, 3, tyX2, rfl, by decide, iw_X2, mw_114, tyX2_ok, nmX2, rfl, by decide +kernel, fun _ => rfl⟩
theorem ff_X4_9 : xFld RX4 9 3 0 := ⟨RX4, TX4, 2, rfl, by decide, iw_X4, mw_128⟩
theorem fp_X4_9 : xFldP RX4 9 3 0 (.array .char) true := ⟨RX4, TX4, 2, tyX4, rfl, by decide, iw_X4, mw_128, tyX4_ok, nmX4, rfl, by decide +kernel, fun _ => rfl⟩
theorem ff_X4_15 : xFld RX4 15 3 1 := ⟨RX4, TX4, 2, rfl, by decide, iw_X4, mw_129⟩
theorem fp_X4_15 : xFldP RX4 15 3 1 .int false := ⟨RX4, TX4, 2, tyX4, rfl, by decide, iw_X4, mw_129, tyX4_ok, nmX4, rfl, by decide +kernel, fun _ => rfl⟩
theorem ff_X0_9 : xFld RX0 9 0 0 := ⟨RX0, TX0, 4, rfl, by decide, iw_X0, mw_143⟩
theorem fp_X0_9 : xFldP RX0 9 0 0 (.array .int) true := ⟨RX0, TX0, 4, tyX0, rfl, by decide, iw_X0, mw_143, tyX0_ok, nmX0, rfl, by decide +kernel, fun _ => rfl⟩
theorem ff_X0_15 : xFld RX0 15 0 1 := ⟨RX0, TX0, 4, rfl, by decide, iw_X0, mw_144⟩
theorem fp_X0_15 : xFldP RX0 15 0 1 (.array .int) true := ⟨RX0, TX0, 4, tyX0, rfl, by decide, iw_X0, mw_144, tyX0_ok, nmX0, rfl, by decide +kernel, fun _ => rfl⟩
theorem ff_X0_18 : xFld RX0 18 0 2 := ⟨RX0, TX0, 4, rfl, by decide, iw_X0, mw_145⟩
theorem fp_X0_18 : xFldP RX0 18 0 2 (.array .int) true := ⟨RX0, TX0, 4, tyX0, rfl, by decide, iw_X0, mw_145, tyX0_ok, nmX0, rfl, by decide +kernel, fun _ => rfl⟩
theorem ff_X0_26 : xFld RX0 26 0 3 := ⟨RX0, TX0, 4, rfl, by decide, iw_X0, mw_146⟩
theorem fp_X0_26 : xFldP RX0 26 0 3 .int false := ⟨RX0, TX0, 4, tyX0, rfl, by decide, iw_X0, mw_146, tyX0_ok, nmX0, rfl, by decide +kernel, fun _ => rfl⟩
theorem ff_X5_10 : xFld RX5 10 4 0 := ⟨RX5, TX5, 7, rfl, by decide, iw_X5, mw_156⟩
theorem fp_X5_10 : xFldP RX5 10 4 0 (.object "ClockLots$Auction") true := ⟨RX5, TX5, 7, tyX5, rfl, by decide, iw_X5, mw_156, tyX5_ok, nmX5, rfl, by decide +kernel, fun _ => rfl⟩
theorem ff_X5_16 : xFld RX5 16 4 1 := ⟨RX5, TX5, 7, rfl, by decide, iw_X5, mw_157⟩
theorem fp_X5_16 : xFldP RX5 16 4 1 (.object "ClockLots$Auction") true := ⟨RX5, TX5, 7, tyX5, rfl, by decide, iw_X5, mw_157, tyX5_ok, nmX5, rfl, by decide +kernel, fun _ => rfl⟩
theorem ff_X5_22 : xFld RX5 22 4 2 := ⟨RX5, TX5, 7, rfl, by decide, iw_X5, mw_158⟩
theorem fp_X5_22 : xFldP RX5 22 4 2 (.object "ClockLots$History") true := ⟨RX5, TX5, 7, tyX5, rfl, by decide, iw_X5, mw_158, tyX5_ok, nmX5, rfl, by decide +kernel, fun _ => rfl⟩
theorem ff_X5_26 : xFld RX5 26 4 3 := ⟨RX5, TX5, 7, rfl, by decide, iw_X5, mw_159⟩
theorem fp_X5_26 : xFldP RX5 26 4 3 (.array (.object "ClockLots$Auction")) true := ⟨RX5, TX5, 7, tyX5, rfl, by decide, iw_X5, mw_159, tyX5_ok, nmX5, rfl, by decide +kernel, fun _ => rfl⟩
theorem ff_X5_30 : xFld RX5 30 4 4 := ⟨RX5, TX5, 7, rfl, by decide, iw_X5, mw_160⟩
theorem fp_X5_30 : xFldP RX5 30 4 4 (.array .boolean) true := ⟨RX5, TX5, 7, tyX5, rfl, by decide, iw_X5, mw_160, tyX5_ok, nmX5, rfl, by decide +kernel, fun _ => rfl⟩
theorem ff_X5_37 : xFld RX5 37 4 5 := ⟨RX5, TX5, 7, rfl, by decide, iw_X5, mw_161⟩
theorem fp_X5_37 : xFldP RX5 37 4 5 (.object "ClockLots$Text") true := ⟨RX5, TX5, 7, tyX5, rfl, by decide, iw_X5, mw_161, tyX5_ok, nmX5, rfl, by decide +kernel, fun _ => rfl⟩
theorem ff_X5_44 : xFld RX5 44 4 6 := ⟨RX5, TX5, 7, rfl, by decide, iw_X5, mw_162⟩
theorem fp_X5_44 : xFldP RX5 44 4 6 (.object "ClockLots$Assignment") true := ⟨RX5, TX5, 7, tyX5, rfl, by decide, iw_X5, mw_162, tyX5_ok, nmX5, rfl, by decide +kernel, fun _ => rfl⟩
theorem cw_L_7 : xcV RL 7 yX5_add cX5_add 6 (some .int) 5 := xcV_of mw_974 mw_975 mw_976 mw_1 mw_977 (by decide) (by decide +kernel)
theorem cw_L_22 : xcV RL 22 yX5_runScript cX5_runScript 7 (some .int) 2 := xcV_of mw_182 mw_183 mw_184 mw_1 mw_185 (by decide) (by decide +kernel)
theorem cw_L_26 : xcV RL 26 yX5_simulate cX5_simulate 7 (some .int) 2 := xcV_of mw_391 mw_392 mw_393 mw_1 mw_394 (by decide) (by decide +kernel)
theorem cw_L_30 : xcV RL 30 yX5_append cX5_append 2 (some .int) 1 := xcV_of mw_454 mw_455 mw_456 mw_1 mw_457 (by decide) (by decide +kernel)
theorem cw_L_34 : xcV RL 34 yX5_load cX5_load 2 (some .int) 0 := xcV_of mw_487 mw_488 mw_489 mw_1 mw_490 (by decide) (by decide +kernel)
theorem cw_L_38 : xcV RL 38 yX5_about cX5_about 2 (some .int) 1 := xcV_of mw_663 mw_664 mw_665 mw_1 mw_666 (by decide) (by decide +kernel)
theorem cw_L_41 : xcV RL 41 yX5_kind cX5_kind 3 (some .int) 2 := xcV_of mw_684 mw_685 mw_686 mw_1 mw_687 (by decide) (by decide +kernel)
theorem cw_L_45 : xcV RL 45 yX5_bidder cX5_bidder 3 (some .int) 2 := xcV_of mw_715 mw_716 mw_717 mw_1 mw_718 (by decide) (by decide +kernel)
theorem cw_L_48 : xcV RL 48 yX5_demand cX5_demand 3 (some .int) 2 := xcV_of mw_734 mw_735 mw_736 mw_1 mw_737 (by decide) (by decide +kernel)
theorem cw_L_51 : xcV RL 51 yX5_pack cX5_pack 4 (some .int) 3 := xcV_of mw_742 mw_743 mw_744 mw_1 mw_745 (by decide) (by decide +kernel)
theorem cw_L_55 : xcV RL 55 yX5_setting cX5_setting 2 (some .int) 1 := xcV_of mw_758 mw_759 mw_760 mw_1 mw_761 (by decide) (by decide +kernel)
theorem cw_L_58 : xcV RL 58 yX5_offer cX5_offer 5 (some .int) 3 := xcV_of mw_770 mw_771 mw_772 mw_1 mw_773 (by decide) (by decide +kernel)
theorem cw_L_61 : xcV RL 61 yX5_price cX5_price 4 (some .int) 2 := xcV_of mw_791 mw_792 mw_793 mw_1 mw_794 (by decide) (by decide +kernel)
theorem cw_L_64 : xcV RL 64 yX5_join cX5_join 3 (some .int) 2 := xcV_of mw_802 mw_803 mw_804 mw_1 mw_805 (by decide) (by decide +kernel)
theorem cw_L_67 : xcV RL 67 yX5_value cX5_value 5 (some .int) 3 := xcV_of mw_811 mw_812 mw_813 mw_1 mw_814 (by decide) (by decide +kernel)
theorem cw_L_70 : xcV RL 70 yX5_ask cX5_ask 4 (some .int) 3 := xcV_of mw_819 mw_820 mw_821 mw_1 mw_822 (by decide) (by decide +kernel)
theorem cw_L_73 : xcV RL 73 yX5_bid cX5_bid 2 (some .int) 1 := xcV_of mw_827 mw_828 mw_829 mw_1 mw_830 (by decide) (by decide +kernel)
theorem cw_L_76 : xcV RL 76 yX5_close cX5_close 1 (some .int) 0 := xcV_of mw_836 mw_837 mw_838 mw_1 mw_839 (by decide) (by decide +kernel)
theorem cw_L_79 : xcV RL 79 yX5_drop cX5_drop 3 (some .int) 2 := xcV_of mw_845 mw_846 mw_847 mw_1 mw_848 (by decide) (by decide +kernel)
theorem cw_L_82 : xcV RL 82 yX5_set cX5_set 4 (some .int) 2 := xcV_of mw_854 mw_855 mw_856 mw_1 mw_857 (by decide) (by decide +kernel)
theorem cw_L_85 : xcV RL 85 yX5_undo cX5_undo 1 (some .int) 0 := xcV_of mw_863 mw_864 mw_865 mw_1 mw_866 (by decide) (by decide +kernel)
theorem cw_L_88 : xcV RL 88 yX5_gets cX5_gets 2 (some .int) 1 := xcV_of mw_883 mw_884 mw_885 mw_1 mw_886 (by decide) (by decide +kernel)
theorem cw_L_91 : xcV RL 91 yX5_pays cX5_pays 5 (some .int) 1 := xcV_of mw_921 mw_922 mw_923 mw_1 mw_924 (by decide) (by decide +kernel)
theorem cw_L_94 : xcV RL 94 yX5_oneMore cX5_oneMore 3 (some .int) 1 := xcV_of mw_928 mw_929 mw_930 mw_1 mw_931 (by decide) (by decide +kernel)
theorem cw_L_97 : xcV RL 97 yX5_wouldAsk cX5_wouldAsk 3 (some .int) 2 := xcV_of mw_935 mw_936 mw_937 mw_1 mw_938 (by decide) (by decide +kernel)
theorem cw_L_100 : xcV RL 100 yX5_endPrice cX5_endPrice 2 (some .int) 1 := xcV_of mw_942 mw_943 mw_944 mw_1 mw_945 (by decide) (by decide +kernel)
theorem cw_L_103 : xcV RL 103 yX5_save cX5_save 2 (some .int) 1 := xcV_of mw_953 mw_954 mw_955 mw_1 mw_956 (by decide) (by decide +kernel)
theorem cw_L_106 : xcV RL 106 yX5_restore cX5_restore 2 (some .int) 1 := xcV_of mw_965 mw_966 mw_967 mw_1 mw_968 (by decide) (by decide +kernel)
theorem cw_L_192 : xcS RL 192 yL_call cL_call 5 (some .int) 5 := xcS_of mw_447 mw_448 mw_0 mw_449 (by decide) (by decide +kernel)
theorem cw_L_214 : xcV RL 214 yX5_errorPosition cX5_errorPosition 1 (some .int) 0 := xcV_of mw_983 mw_984 mw_985 mw_1 mw_986 (by decide) (by decide +kernel)
theorem cw_L_217 : xcV RL 217 yX5_best cX5_best 1 (some .int) 0 := xcV_of mw_993 mw_994 mw_995 mw_1 mw_996 (by decide) (by decide +kernel)
theorem cw_L_220 : xcV RL 220 yX5_leastMissed cX5_leastMissed 5 (some .int) 0 := xcV_of mw_997 mw_998 mw_999 mw_1 mw_1000 (by decide) (by decide +kernel)
theorem cw_L_223 : xcV RL 223 yX5_roundsLeft cX5_roundsLeft 2 (some .int) 0 := xcV_of mw_1001 mw_1002 mw_1003 mw_1 mw_1004 (by decide) (by decide +kernel)
theorem cw_L_226 : xcV RL 226 yX5_clearText cX5_clearText 1 (some .int) 0 := xcV_of mw_1008 mw_1009 mw_1010 mw_1 mw_1011 (by decide) (by decide +kernel)
theorem cw_L_230 : xcS RL 230 yL_cell cL_cell 2 (some .int) 2 := xcS_of mw_439 mw_440 mw_0 mw_441 (by decide) (by decide +kernel)
theorem cw_L_234 : xcS RL 234 yL_refuses cL_refuses 8 (some .boolean) 2 := xcS_of mw_444 mw_445 mw_0 mw_446 (by decide) (by decide +kernel)
theorem cw_L_238 : xcS RL 238 yL_act cL_act 6 (some .int) 3 := xcS_of mw_1005 mw_1006 mw_0 mw_1007 (by decide) (by decide +kernel)
theorem cw_L_241 : xcS RL 241 yL_alike cL_alike 6 (some .boolean) 3 := xcS_of mw_987 mw_988 mw_0 mw_989 (by decide) (by decide +kernel)
theorem cw_L_245 : xcS RL 245 yL_holds cL_holds 22 (some .boolean) 2 := xcS_of mw_990 mw_991 mw_0 mw_992 (by decide) (by decide +kernel)
theorem cw_X0_30 : xcV RX0 30 yX0_tryFrom cX0_tryFrom 7 none 4 := xcV_of mw_891 mw_893 mv_5 mw_5 mw_894 (by decide) (by decide +kernel)
theorem cw_X0_37 : xcV RX0 37 yX0_keepIfBetter cX0_keepIfBetter 2 none 1 := xcV_of mw_895 mw_897 mv_6 mw_5 mw_898 (by decide) (by decide +kernel)
theorem cw_X0_44 : xcV RX0 44 yX0_tryWith cX0_tryWith 6 none 5 := xcV_of mw_900 mw_902 mv_7 mw_5 mw_903 (by decide) (by decide +kernel)
theorem cw_X0_48 : xcV RX0 48 yX0_fits cX0_fits 5 (some .boolean) 3 := xcV_of mw_904 mw_906 mv_8 mw_5 mw_907 (by decide) (by decide +kernel)
theorem cw_X0_52 : xcV RX0 52 yX0_take cX0_take 6 none 4 := xcV_of mw_909 mw_911 mv_9 mw_5 mw_912 (by decide) (by decide +kernel)
theorem cw_X0_55 : xcV RX0 55 yX1_packValue cX1_packValue 3 (some .int) 2 := xcV_of mw_913 mw_748 mw_749 mw_2 mw_750 (by decide) (by decide +kernel)
theorem cw_X0_59 : xcV RX0 59 yX1_packLots cX1_packLots 4 (some .int) 3 := xcV_of mw_908 mw_752 mw_753 mw_2 mw_754 (by decide) (by decide +kernel)
theorem cw_X1_42 : xcV RX1 42 yX1_renew cX1_renew 2 none 0 := xcV_of mw_34 mw_35 mw_36 mw_2 mw_37 (by decide) (by decide +kernel)
theorem cw_X1_68 : xcN RX1 68 yX5_outside RX5 cX5_outside 3 (some .boolean) 3 := xcN_of (by simp [xNest]) mw_187 mw_1 mw_188 (by decide) (by decide +kernel)
theorem cw_X1_72 : xcN RX1 72 yX5_cell RX5 cX5_cell 2 (some .int) 2 := xcN_of (by simp [xNest]) mw_293 mw_1 mw_294 (by decide) (by decide +kernel)
theorem cw_X1_76 : xcV RX1 76 yX1_askedOf cX1_askedOf 4 (some .int) 1 := xcV_of mw_338 mw_339 mw_340 mw_2 mw_341 (by decide) (by decide +kernel)
theorem cw_X1_80 : xcV RX1 80 yX1_margin cX1_margin 3 (some .int) 2 := xcV_of mw_318 mw_319 mw_320 mw_2 mw_321 (by decide) (by decide +kernel)
theorem cw_X1_88 : xcS RX1 88 yX1_packCell cX1_packCell 2 (some .int) 2 := xcS_of mw_382 mw_383 mw_2 mw_384 (by decide) (by decide +kernel)
theorem cw_X1_91 : xcV RX1 91 yX1_costOf cX1_costOf 4 (some .int) 3 := xcV_of mw_423 mw_424 mw_425 mw_2 mw_426 (by decide) (by decide +kernel)
theorem cw_X1_95 : xcN RX1 95 yX5_noKind RX5 cX5_noKind 1 (some .boolean) 1 := xcN_of (by simp [xNest]) mw_283 mw_1 mw_284 (by decide) (by decide +kernel)
theorem cw_X1_100 : xcV RX1 100 yX1_noBidder cX1_noBidder 2 (some .boolean) 1 := xcV_of mw_277 mw_278 mw_279 mw_2 mw_280 (by decide) (by decide +kernel)
theorem cw_X1_103 : xcV RX1 103 yX1_mostLots cX1_mostLots 3 (some .int) 2 := xcV_of mw_285 mw_286 mw_287 mw_2 mw_288 (by decide) (by decide +kernel)
theorem cw_X1_106 : xcV RX1 106 yX1_activity cX1_activity 4 (some .int) 1 := xcV_of mw_295 mw_296 mw_297 mw_2 mw_298 (by decide) (by decide +kernel)
theorem cw_X1_110 : xcV RX1 110 yX1_mayHave cX1_mayHave 5 (some .boolean) 4 := xcV_of mw_427 mw_428 mw_429 mw_2 mw_430 (by decide) (by decide +kernel)
theorem cw_X1_114 : xcV RX1 114 yX1_changeDemands cX1_changeDemands 5 none 4 := xcV_of mw_322 mw_323 mw_324 mw_2 mw_325 (by decide) (by decide +kernel)
theorem cw_X1_118 : xcV RX1 118 yX1_mostWanted cX1_mostWanted 3 (some .int) 2 := xcV_of mw_311 mw_312 mw_313 mw_2 mw_314 (by decide) (by decide +kernel)
theorem cw_X1_121 : xcN RX1 121 yX5_quotient RX5 cX5_quotient 2 (some .int) 2 := xcN_of (by simp [xNest]) mw_316 mw_1 mw_317 (by decide) (by decide +kernel)
theorem cw_X1_124 : xcV RX1 124 yX1_raisePrice cX1_raisePrice 3 none 1 := xcV_of mw_342 mw_343 mw_344 mw_2 mw_345 (by decide) (by decide +kernel)
theorem cw_X1_131 : xcV RX1 131 yX1_whyNotOffer cX1_whyNotOffer 4 (some .int) 3 := xcV_of mw_647 mw_648 mw_649 mw_2 mw_650 (by decide) (by decide +kernel)
theorem cw_X1_134 : xcV RX1 134 yX1_changeOffer cX1_changeOffer 4 none 3 := xcV_of mw_651 mw_652 mw_653 mw_2 mw_654 (by decide) (by decide +kernel)
theorem cw_X1_138 : xcV RX1 138 yX1_whyNotJoin cX1_whyNotJoin 3 (some .int) 2 := xcV_of mw_405 mw_406 mw_407 mw_2 mw_408 (by decide) (by decide +kernel)
theorem cw_X1_141 : xcV RX1 141 yX1_addBidder cX1_addBidder 5 none 2 := xcV_of mw_409 mw_410 mw_411 mw_2 mw_412 (by decide) (by decide +kernel)
theorem cw_X1_145 : xcV RX1 145 yX1_whyNotValue cX1_whyNotValue 4 (some .int) 3 := xcV_of mw_354 mw_355 mw_356 mw_2 mw_357 (by decide) (by decide +kernel)
theorem cw_X1_148 : xcV RX1 148 yX1_whyNotAsk cX1_whyNotAsk 5 (some .int) 3 := xcV_of mw_273 mw_274 mw_275 mw_2 mw_276 (by decide) (by decide +kernel)
theorem cw_X1_151 : xcV RX1 151 yX1_whyNotBid cX1_whyNotBid 2 (some .int) 1 := xcV_of mw_303 mw_304 mw_305 mw_2 mw_306 (by decide) (by decide +kernel)
theorem cw_X1_154 : xcV RX1 154 yX1_bidByValues cX1_bidByValues 11 none 1 := xcV_of mw_307 mw_308 mw_309 mw_2 mw_310 (by decide) (by decide +kernel)
theorem cw_X1_157 : xcV RX1 157 yX1_whyNotClose cX1_whyNotClose 1 (some .int) 0 := xcV_of mw_330 mw_331 mw_332 mw_2 mw_333 (by decide) (by decide +kernel)
theorem cw_X1_161 : xcV RX1 161 yX1_closeRound cX1_closeRound 3 (some .int) 0 := xcV_of mw_334 mw_335 mw_336 mw_2 mw_337 (by decide) (by decide +kernel)
theorem cw_X1_164 : xcV RX1 164 yX1_whyNotAdd cX1_whyNotAdd 6 (some .int) 5 := xcV_of mw_418 mw_419 mw_420 mw_2 mw_421 (by decide) (by decide +kernel)
theorem cw_X1_168 : xcV RX1 168 yX1_addPack cX1_addPack 7 none 5 := xcV_of mw_431 mw_432 mw_433 mw_2 mw_434 (by decide) (by decide +kernel)
theorem cw_X1_172 : xcV RX1 172 yX1_whyNotDrop cX1_whyNotDrop 3 (some .int) 2 := xcV_of mw_374 mw_375 mw_376 mw_2 mw_377 (by decide) (by decide +kernel)
theorem cw_X1_175 : xcV RX1 175 yX1_dropPack cX1_dropPack 6 none 2 := xcV_of mw_378 mw_379 mw_380 mw_2 mw_381 (by decide) (by decide +kernel)
theorem cw_X1_178 : xcV RX1 178 yX1_whyNotSet cX1_whyNotSet 3 (some .int) 2 := xcV_of mw_362 mw_363 mw_364 mw_2 mw_365 (by decide) (by decide +kernel)
theorem cw_X1_181 : xcV RX1 181 yX1_changeSetting cX1_changeSetting 3 none 2 := xcV_of mw_366 mw_367 mw_368 mw_2 mw_369 (by decide) (by decide +kernel)
theorem cw_X2_25 : xcV RX2 25 yX1_become cX1_become 2 none 1 := xcV_of mw_785 mw_260 mw_261 mw_2 mw_262 (by decide) (by decide +kernel)
theorem cw_X3_9 : xcV RX3 9 yX1_tryAsk cX1_tryAsk 4 (some .boolean) 3 := xcV_of mw_269 mw_270 mw_271 mw_2 mw_272 (by decide) (by decide +kernel)
theorem cw_X3_15 : xcV RX3 15 yX1_tryBid cX1_tryBid 2 (some .boolean) 1 := xcV_of mw_299 mw_300 mw_301 mw_2 mw_302 (by decide) (by decide +kernel)
theorem cw_X3_19 : xcV RX3 19 yX1_tryClose cX1_tryClose 1 (some .boolean) 0 := xcV_of mw_326 mw_327 mw_328 mw_2 mw_329 (by decide) (by decide +kernel)
theorem cw_X3_23 : xcV RX3 23 yX1_tryValue cX1_tryValue 4 (some .boolean) 3 := xcV_of mw_350 mw_351 mw_352 mw_2 mw_353 (by decide) (by decide +kernel)
theorem cw_X3_26 : xcV RX3 26 yX1_trySet cX1_trySet 3 (some .boolean) 2 := xcV_of mw_358 mw_359 mw_360 mw_2 mw_361 (by decide) (by decide +kernel)
theorem cw_X3_30 : xcV RX3 30 yX1_tryDrop cX1_tryDrop 3 (some .boolean) 2 := xcV_of mw_370 mw_371 mw_372 mw_2 mw_373 (by decide) (by decide +kernel)
theorem cw_X3_33 : xcN RX3 33 yX5_noKind RX5 cX5_noKind 1 (some .boolean) 1 := xcN_of (by simp [xNest]) mw_283 mw_1 mw_284 (by decide) (by decide +kernel)
theorem cw_X3_40 : xcV RX3 40 yX1_noBidder cX1_noBidder 2 (some .boolean) 1 := xcV_of mw_386 mw_278 mw_279 mw_2 mw_280 (by decide) (by decide +kernel)
theorem cw_X3_54 : xcV RX3 54 yX1_tryJoin cX1_tryJoin 3 (some .boolean) 2 := xcV_of mw_401 mw_402 mw_403 mw_2 mw_404 (by decide) (by decide +kernel)
theorem cw_X3_58 : xcV RX3 58 yX1_tryAdd cX1_tryAdd 6 (some .boolean) 5 := xcV_of mw_414 mw_415 mw_416 mw_2 mw_417 (by decide) (by decide +kernel)
theorem cw_X4_19 : xcS RX4 19 yX4_isCommand cX4_isCommand 1 (some .boolean) 1 := xcS_of mw_495 mw_496 mw_4 mw_497 (by decide) (by decide +kernel)
theorem cw_X4_23 : xcS RX4 23 yX4_digitsOf cX4_digitsOf 1 (some .int) 1 := xcS_of mw_581 mw_582 mw_4 mw_583 (by decide) (by decide +kernel)
theorem cw_X4_27 : xcS RX4 27 yX4_allows cX4_allows 5 (some .boolean) 3 := xcS_of mw_594 mw_595 mw_4 mw_596 (by decide) (by decide +kernel)
theorem cw_X4_31 : xcV RX4 31 yX4_doCommand cX4_doCommand 3 (some .boolean) 2 := xcV_of mw_635 mw_637 mv_1 mw_4 mw_638 (by decide) (by decide +kernel)
theorem cw_X4_35 : xcV RX4 35 yX4_number cX4_number 5 (some .int) 2 := xcV_of mw_639 mw_641 mv_2 mw_4 mw_642 (by decide) (by decide +kernel)
theorem cw_X4_39 : xcV RX4 39 yX1_tryOffer cX1_tryOffer 4 (some .boolean) 3 := xcV_of mw_643 mw_644 mw_645 mw_2 mw_646 (by decide) (by decide +kernel)
theorem cw_X4_45 : xcV RX4 45 yX1_tryJoin cX1_tryJoin 3 (some .boolean) 2 := xcV_of mw_655 mw_402 mw_403 mw_2 mw_404 (by decide) (by decide +kernel)
theorem cw_X4_49 : xcV RX4 49 yX1_tryValue cX1_tryValue 4 (some .boolean) 3 := xcV_of mw_656 mw_351 mw_352 mw_2 mw_353 (by decide) (by decide +kernel)
theorem cw_X4_52 : xcV RX4 52 yX1_tryAsk cX1_tryAsk 4 (some .boolean) 3 := xcV_of mw_657 mw_270 mw_271 mw_2 mw_272 (by decide) (by decide +kernel)
theorem cw_X4_55 : xcV RX4 55 yX1_tryBid cX1_tryBid 2 (some .boolean) 1 := xcV_of mw_658 mw_300 mw_301 mw_2 mw_302 (by decide) (by decide +kernel)
theorem cw_X4_59 : xcV RX4 59 yX1_tryClose cX1_tryClose 1 (some .boolean) 0 := xcV_of mw_659 mw_327 mw_328 mw_2 mw_329 (by decide) (by decide +kernel)
theorem cw_X4_71 : xcS RX4 71 yX4_greatestDigits cX4_greatestDigits 1 (Option.some (ClassFile.FieldType.object "java/lang/String")) 1 := xcS_of mw_584 mw_585 mw_4 mw_586 (by decide) (by decide +kernel)
theorem cw_X4_78 : xcS RX4 78 yX4_leastDigits cX4_leastDigits 1 (Option.some (ClassFile.FieldType.object "java/lang/String")) 1 := xcS_of mw_597 mw_598 mw_4 mw_599 (by decide) (by decide +kernel)
theorem cw_X5_48 : xcS RX5 48 yX5_outside cX5_outside 3 (some .boolean) 3 := xcS_of mw_186 mw_187 mw_1 mw_188 (by decide) (by decide +kernel)
theorem cw_X5_59 : xcV RX5 59 yX4_isFull cX4_isFull 1 (some .boolean) 0 := xcV_of mw_459 mw_460 mw_461 mw_4 mw_462 (by decide) (by decide +kernel)
theorem cw_X5_68 : xcV RX5 68 yX4_put cX4_put 2 (some .int) 1 := xcV_of mw_479 mw_480 mw_481 mw_4 mw_482 (by decide) (by decide +kernel)
theorem cw_X5_72 : xcV RX5 72 yX4_empty cX4_empty 2 (some .int) 0 := xcV_of mw_1012 mw_1013 mw_1014 mw_4 mw_1015 (by decide) (by decide +kernel)
theorem cw_X5_76 : xcV RX5 76 yX4_firstError cX4_firstError 5 (some .int) 0 := xcV_of mw_491 mw_492 mw_493 mw_4 mw_494 (by decide) (by decide +kernel)
theorem cw_X5_81 : xcV RX5 81 yX1_renew cX1_renew 2 none 0 := xcV_of mw_626 mw_35 mw_36 mw_2 mw_37 (by decide) (by decide +kernel)
theorem cw_X5_84 : xcV RX5 84 yX2_forgetAll cX2_forgetAll 1 none 0 := xcV_of mw_627 mw_628 mw_629 mw_3 mw_630 (by decide) (by decide +kernel)
theorem cw_X5_87 : xcV RX5 87 yX4_doCommands cX4_doCommands 4 (some .int) 1 := xcV_of mw_631 mw_632 mw_633 mw_4 mw_634 (by decide) (by decide +kernel)
theorem cw_X5_102 : xcV RX5 102 yX1_scarceKinds cX1_scarceKinds 3 (some .int) 0 := xcV_of mw_667 mw_668 mw_669 mw_2 mw_670 (by decide) (by decide +kernel)
theorem cw_X5_105 : xcV RX5 105 yX1_allPacks cX1_allPacks 3 (some .int) 0 := xcV_of mw_671 mw_672 mw_673 mw_2 mw_674 (by decide) (by decide +kernel)
theorem cw_X5_108 : xcV RX5 108 yX1_allCosts cX1_allCosts 3 (some .int) 0 := xcV_of mw_675 mw_676 mw_677 mw_2 mw_678 (by decide) (by decide +kernel)
theorem cw_X5_113 : xcV RX5 113 yX5_needKind cX5_needKind 2 none 1 := xcV_of mw_688 mw_690 mv_3 mw_1 mw_691 (by decide) (by decide +kernel)
theorem cw_X5_127 : xcV RX5 127 yX1_askedOf cX1_askedOf 4 (some .int) 1 := xcV_of mw_709 mw_339 mw_340 mw_2 mw_341 (by decide) (by decide +kernel)
theorem cw_X5_133 : xcV RX5 133 yX5_needBidder cX5_needBidder 2 none 1 := xcV_of mw_719 mw_721 mv_4 mw_1 mw_722 (by decide) (by decide +kernel)
theorem cw_X5_142 : xcV RX5 142 yX1_activity cX1_activity 4 (some .int) 1 := xcV_of mw_725 mw_296 mw_297 mw_2 mw_298 (by decide) (by decide +kernel)
theorem cw_X5_148 : xcV RX5 148 yX1_profit cX1_profit 4 (some .int) 1 := xcV_of mw_726 mw_727 mw_728 mw_2 mw_729 (by decide) (by decide +kernel)
theorem cw_X5_156 : xcS RX5 156 yX5_cell cX5_cell 2 (some .int) 2 := xcS_of mw_738 mw_293 mw_1 mw_294 (by decide) (by decide +kernel)
theorem cw_X5_165 : xcV RX5 165 yX1_packValue cX1_packValue 3 (some .int) 2 := xcV_of mw_747 mw_748 mw_749 mw_2 mw_750 (by decide) (by decide +kernel)
theorem cw_X5_168 : xcV RX5 168 yX1_packLots cX1_packLots 4 (some .int) 3 := xcV_of mw_751 mw_752 mw_753 mw_2 mw_754 (by decide) (by decide +kernel)
theorem cw_X5_174 : xcV RX5 174 yX1_settingOf cX1_settingOf 2 (some .int) 1 := xcV_of mw_763 mw_764 mw_765 mw_2 mw_766 (by decide) (by decide +kernel)
theorem cw_X5_177 : xcV RX5 177 yX1_whyNotOffer cX1_whyNotOffer 4 (some .int) 3 := xcV_of mw_774 mw_648 mw_649 mw_2 mw_650 (by decide) (by decide +kernel)
theorem cw_X5_180 : xcS RX5 180 yX5_refuse cX5_refuse 1 none 1 := xcS_of mw_775 mw_776 mw_1 mw_777 (by decide) (by decide +kernel)
theorem cw_X5_183 : xcV RX5 183 yX2_remember cX2_remember 2 none 1 := xcV_of mw_781 mw_782 mw_783 mw_3 mw_784 (by decide) (by decide +kernel)
theorem cw_X5_187 : xcV RX5 187 yX1_changeOffer cX1_changeOffer 4 none 3 := xcV_of mw_787 mw_652 mw_653 mw_2 mw_654 (by decide) (by decide +kernel)
theorem cw_X5_191 : xcV RX5 191 yX1_whyNotPrice cX1_whyNotPrice 3 (some .int) 2 := xcV_of mw_795 mw_796 mw_797 mw_2 mw_798 (by decide) (by decide +kernel)
theorem cw_X5_194 : xcV RX5 194 yX1_whyNotJoin cX1_whyNotJoin 3 (some .int) 2 := xcV_of mw_806 mw_406 mw_407 mw_2 mw_408 (by decide) (by decide +kernel)
theorem cw_X5_197 : xcV RX5 197 yX1_addBidder cX1_addBidder 5 none 2 := xcV_of mw_807 mw_410 mw_411 mw_2 mw_412 (by decide) (by decide +kernel)
theorem cw_X5_201 : xcV RX5 201 yX1_whyNotValue cX1_whyNotValue 4 (some .int) 3 := xcV_of mw_815 mw_355 mw_356 mw_2 mw_357 (by decide) (by decide +kernel)
theorem cw_X5_207 : xcV RX5 207 yX1_whyNotAsk cX1_whyNotAsk 5 (some .int) 3 := xcV_of mw_823 mw_274 mw_275 mw_2 mw_276 (by decide) (by decide +kernel)
theorem cw_X5_210 : xcV RX5 210 yX1_whyNotBid cX1_whyNotBid 2 (some .int) 1 := xcV_of mw_831 mw_304 mw_305 mw_2 mw_306 (by decide) (by decide +kernel)
theorem cw_X5_213 : xcV RX5 213 yX1_bidByValues cX1_bidByValues 11 none 1 := xcV_of mw_832 mw_308 mw_309 mw_2 mw_310 (by decide) (by decide +kernel)
theorem cw_X5_216 : xcV RX5 216 yX1_whyNotClose cX1_whyNotClose 1 (some .int) 0 := xcV_of mw_840 mw_331 mw_332 mw_2 mw_333 (by decide) (by decide +kernel)
theorem cw_X5_219 : xcV RX5 219 yX1_closeRound cX1_closeRound 3 (some .int) 0 := xcV_of mw_841 mw_335 mw_336 mw_2 mw_337 (by decide) (by decide +kernel)
theorem cw_X5_222 : xcV RX5 222 yX1_whyNotAdd cX1_whyNotAdd 6 (some .int) 5 := xcV_of mw_978 mw_419 mw_420 mw_2 mw_421 (by decide) (by decide +kernel)
theorem cw_X5_226 : xcV RX5 226 yX1_addPack cX1_addPack 7 none 5 := xcV_of mw_979 mw_432 mw_433 mw_2 mw_434 (by decide) (by decide +kernel)
theorem cw_X5_230 : xcV RX5 230 yX1_whyNotDrop cX1_whyNotDrop 3 (some .int) 2 := xcV_of mw_849 mw_375 mw_376 mw_2 mw_377 (by decide) (by decide +kernel)
theorem cw_X5_233 : xcV RX5 233 yX1_dropPack cX1_dropPack 6 none 2 := xcV_of mw_850 mw_379 mw_380 mw_2 mw_381 (by decide) (by decide +kernel)
theorem cw_X5_236 : xcV RX5 236 yX1_whyNotSet cX1_whyNotSet 3 (some .int) 2 := xcV_of mw_858 mw_363 mw_364 mw_2 mw_365 (by decide) (by decide +kernel)
theorem cw_X5_239 : xcV RX5 239 yX1_changeSetting cX1_changeSetting 3 none 2 := xcV_of mw_859 mw_367 mw_368 mw_2 mw_369 (by decide) (by decide +kernel)
theorem cw_X5_242 : xcV RX5 242 yX2_isEmpty cX2_isEmpty 1 (some .boolean) 0 := xcV_of mw_867 mw_868 mw_869 mw_3 mw_870 (by decide) (by decide +kernel)
theorem cw_X5_247 : xcV RX5 247 yX2_takeBack cX2_takeBack 2 none 1 := xcV_of mw_872 mw_873 mw_874 mw_3 mw_875 (by decide) (by decide +kernel)
theorem cw_X5_250 : xcV RX5 250 yX2_size cX2_size 1 (some .int) 0 := xcV_of mw_876 mw_877 mw_878 mw_3 mw_879 (by decide) (by decide +kernel)
theorem cw_X5_253 : xcV RX5 253 yX0_find cX0_find 5 (some .int) 3 := xcV_of mw_887 mw_888 mw_889 mw_5 mw_890 (by decide) (by decide +kernel)
theorem cw_X5_257 : xcV RX5 257 yX0_packOf cX0_packOf 2 (some .int) 1 := xcV_of mw_914 mw_915 mw_916 mw_5 mw_917 (by decide) (by decide +kernel)
theorem cw_X5_260 : xcV RX5 260 yX1_become cX1_become 2 none 1 := xcV_of mw_259 mw_260 mw_261 mw_2 mw_262 (by decide) (by decide +kernel)
theorem cw_X5_263 : xcV RX5 263 yX5_runToTheEnd cX5_runToTheEnd 3 (some .int) 0 := xcV_of mw_946 mw_948 mv_10 mw_1 mw_949 (by decide) (by decide +kernel)
theorem cw_X5_272 : xcS RX5 272 yX3_succeeds cX3_succeeds 5 (some .boolean) 2 := xcS_of mw_266 mw_267 mw_19 mw_268 (by decide) (by decide +kernel)
theorem cw_X5_284 : xcS RX5 284 yX3_takeTurn cX3_takeTurn 6 none 2 := xcS_of mw_398 mw_399 mw_19 mw_400 (by decide) (by decide +kernel)
theorem cw_X5_288 : xcV RX5 288 yX1_allDemands cX1_allDemands 3 (some .int) 0 := xcV_of mw_435 mw_436 mw_437 mw_2 mw_438 (by decide) (by decide +kernel)
theorem cw_X5_291 : xcV RX5 291 yX5_needSlot cX5_needSlot 2 none 1 := xcV_of mw_957 mw_959 mv_11 mw_1 mw_960 (by decide) (by decide +kernel)
theorem cw_X5_296 : xcS RX5 296 yX5_noKind cX5_noKind 1 (some .boolean) 1 := xcS_of mw_692 mw_283 mw_1 mw_284 (by decide) (by decide +kernel)
theorem cw_X5_302 : xcV RX5 302 yX1_noBidder cX1_noBidder 2 (some .boolean) 1 := xcV_of mw_723 mw_278 mw_279 mw_2 mw_280 (by decide) (by decide +kernel)
