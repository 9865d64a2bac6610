/-! words of making -/
theorem nwX11_7 : NW RX11 7 7 := ⟨RX7, TX7, 9, tyX7, rfl, wd_1_34, wd_1_35, wd_1_2, iX7, tyX7_ok, by decide +kernel, by decide, lnX7⟩
theorem nwX11_16 : NW RX11 16 8 := ⟨RX8, TX8, 10, tyX8, rfl, wd_1_131, wd_1_132, wd_1_7, iX8, tyX8_ok, by decide +kernel, by decide, lnX8⟩
theorem nwX11_23 : NW RX11 23 4 := ⟨RX4, TX4, 5, tyX4, rfl, wd_1_198, wd_1_199, wd_1_8, iX4, tyX4_ok, by decide +kernel, by decide, lnX4⟩
theorem nwX11_32 : NW RX11 32 10 := ⟨RX10, TX10, 4, tyX10, rfl, wd_1_223, wd_1_224, wd_1_9, iX10, tyX10_ok, by decide +kernel, by decide, lnX10⟩
theorem nwX11_42 : NW RX11 42 6 := ⟨RX6, TX6, 2, tyX6, rfl, wd_2_7, wd_2_8, wd_1_10, iX6, tyX6_ok, by decide +kernel, by decide, lnX6⟩
theorem nwX11_49 : NW RX11 49 1 := ⟨RX1, TX1, 5, tyX1, rfl, wd_2_24, wd_2_25, wd_1_11, iX1, tyX1_ok, by decide +kernel, by decide, lnX1⟩
theorem nwX11_58 : NW RX11 58 0 := ⟨RX0, TX0, 4, tyX0, rfl, wd_2_52, wd_2_53, wd_1_12, iX0, tyX0_ok, by decide +kernel, by decide, lnX0⟩
theorem nwX11_67 : NW RX11 67 2 := ⟨RX2, TX2, 3, tyX2, rfl, wd_2_71, wd_2_72, wd_1_13, iX2, tyX2_ok, by decide +kernel, by decide, lnX2⟩
theorem nwX11_74 : NW RX11 74 9 := ⟨RX9, TX9, 7, tyX9, rfl, wd_2_87, wd_2_88, wd_1_14, iX9, tyX9_ok, by decide +kernel, by decide, lnX9⟩
theorem nwX11_83 : NW RX11 83 5 := ⟨RX5, TX5, 5, tyX5, rfl, wd_2_117, wd_2_118, wd_1_15, iX5, tyX5_ok, by decide +kernel, by decide, lnX5⟩
theorem nwX11_90 : NW RX11 90 3 := ⟨RX3, TX3, 6, tyX3, rfl, wd_2_141, wd_2_142, wd_1_16, iX3, tyX3_ok, by decide +kernel, by decide, lnX3⟩
theorem nwX3_11 : NW RX3 11 6 := ⟨RX6, TX6, 2, tyX6, rfl, wd_2_147, wd_2_8, wd_1_10, iX6, tyX6_ok, by decide +kernel, by decide, lnX6⟩
theorem nwX3_21 : NW RX3 21 5 := ⟨RX5, TX5, 5, tyX5, rfl, wd_2_150, wd_2_118, wd_1_15, iX5, tyX5_ok, by decide +kernel, by decide, lnX5⟩
theorem nwX4_15 : NW RX4 15 8 := ⟨RX8, TX8, 10, tyX8, rfl, wd_1_204, wd_1_132, wd_1_7, iX8, tyX8_ok, by decide +kernel, by decide, lnX8⟩
theorem nwX9_27 : NW RX9 27 6 := ⟨RX6, TX6, 2, tyX6, rfl, wd_2_93, wd_2_8, wd_1_10, iX6, tyX6_ok, by decide +kernel, by decide, lnX6⟩
theorem ffX11_10 : FF RX11 10 11 0 := ⟨RX11, TX11, 12, tyX11, .object "NameRing$Tape", rfl, by decide, wd_2_173, iX11, tyX11_ok, nmX11, by decide, lnX11, rfl, rfl, by decide +kernel, fun _ => ⟨rfl, rfl⟩⟩
theorem ffX11_19 : FF RX11 19 11 1 := ⟨RX11, TX11, 12, tyX11, .object "NameRing$Told", rfl, by decide, wd_2_174, iX11, tyX11_ok, nmX11, by decide, lnX11, rfl, rfl, by decide +kernel, fun _ => ⟨rfl, rfl⟩⟩
theorem ffX11_28 : FF RX11 28 11 2 := ⟨RX11, TX11, 12, tyX11, .object "NameRing$RingReader", rfl, by decide, wd_2_175, iX11, tyX11_ok, nmX11, by decide, lnX11, rfl, rfl, by decide +kernel, fun _ => ⟨rfl, rfl⟩⟩
theorem ffX11_35 : FF RX11 35 11 3 := ⟨RX11, TX11, 12, tyX11, .object "NameRing$Work", rfl, by decide, wd_2_176, iX11, tyX11_ok, nmX11, by decide, lnX11, rfl, rfl, by decide +kernel, fun _ => ⟨rfl, rfl⟩⟩
theorem ffX11_39 : FF RX11 39 11 4 := ⟨RX11, TX11, 12, tyX11, .object "NameRing$Work", rfl, by decide, wd_2_177, iX11, tyX11_ok, nmX11, by decide, lnX11, rfl, rfl, by decide +kernel, fun _ => ⟨rfl, rfl⟩⟩
theorem ffX11_45 : FF RX11 45 11 5 := ⟨RX11, TX11, 12, tyX11, .object "NameRing$State", rfl, by decide, wd_2_178, iX11, tyX11_ok, nmX11, by decide, lnX11, rfl, rfl, by decide +kernel, fun _ => ⟨rfl, rfl⟩⟩
theorem ffX11_54 : FF RX11 54 11 6 := ⟨RX11, TX11, 12, tyX11, .object "NameRing$Finder", rfl, by decide, wd_2_179, iX11, tyX11_ok, nmX11, by decide, lnX11, rfl, rfl, by decide +kernel, fun _ => ⟨rfl, rfl⟩⟩
theorem ffX11_63 : FF RX11 63 11 7 := ⟨RX11, TX11, 12, tyX11, .object "NameRing$Deeds", rfl, by decide, wd_2_180, iX11, tyX11_ok, nmX11, by decide, lnX11, rfl, rfl, by decide +kernel, fun _ => ⟨rfl, rfl⟩⟩
theorem ffX11_70 : FF RX11 70 11 8 := ⟨RX11, TX11, 12, tyX11, .object "NameRing$Looks", rfl, by decide, wd_2_181, iX11, tyX11_ok, nmX11, by decide, lnX11, rfl, rfl, by decide +kernel, fun _ => ⟨rfl, rfl⟩⟩
theorem ffX11_79 : FF RX11 79 11 9 := ⟨RX11, TX11, 12, tyX11, .object "NameRing$Trials", rfl, by decide, wd_2_182, iX11, tyX11_ok, nmX11, by decide, lnX11, rfl, rfl, by decide +kernel, fun _ => ⟨rfl, rfl⟩⟩
theorem ffX11_86 : FF RX11 86 11 10 := ⟨RX11, TX11, 12, tyX11, .object "NameRing$Seen", rfl, by decide, wd_2_183, iX11, tyX11_ok, nmX11, by decide, lnX11, rfl, rfl, by decide +kernel, fun _ => ⟨rfl, rfl⟩⟩
theorem ffX11_93 : FF RX11 93 11 11 := ⟨RX11, TX11, 12, tyX11, .object "NameRing$Past", rfl, by decide, wd_2_184, iX11, tyX11_ok, nmX11, by decide, lnX11, rfl, rfl, by decide +kernel, fun _ => ⟨rfl, rfl⟩⟩
theorem ffX0_9 : FF RX0 9 0 0 := ⟨RX0, TX0, 4, tyX0, .object "NameRing$Told", rfl, by decide, wd_2_58, iX0, tyX0_ok, nmX0, by decide, lnX0, rfl, rfl, by decide +kernel, fun _ => ⟨rfl, rfl⟩⟩
theorem ffX0_15 : FF RX0 15 0 1 := ⟨RX0, TX0, 4, tyX0, .object "NameRing$State", rfl, by decide, wd_2_59, iX0, tyX0_ok, nmX0, by decide, lnX0, rfl, rfl, by decide +kernel, fun _ => ⟨rfl, rfl⟩⟩
theorem ffX0_19 : FF RX0 19 0 2 := ⟨RX0, TX0, 4, tyX0, .object "NameRing$Finder", rfl, by decide, wd_2_60, iX0, tyX0_ok, nmX0, by decide, lnX0, rfl, rfl, by decide +kernel, fun _ => ⟨rfl, rfl⟩⟩
theorem ffX0_23 : FF RX0 23 0 3 := ⟨RX0, TX0, 4, tyX0, .array .int, rfl, by decide, wd_2_61, iX0, tyX0_ok, nmX0, by decide, lnX0, rfl, rfl, by decide +kernel, fun _ => ⟨rfl, rfl⟩⟩
theorem ffX1_9 : FF RX1 9 1 0 := ⟨RX1, TX1, 5, tyX1, .object "NameRing$Told", rfl, by decide, wd_2_30, iX1, tyX1_ok, nmX1, by decide, lnX1, rfl, rfl, by decide +kernel, fun _ => ⟨rfl, rfl⟩⟩
theorem ffX1_15 : FF RX1 15 1 1 := ⟨RX1, TX1, 5, tyX1, .object "NameRing$State", rfl, by decide, wd_2_31, iX1, tyX1_ok, nmX1, by decide, lnX1, rfl, rfl, by decide +kernel, fun _ => ⟨rfl, rfl⟩⟩
theorem ffX1_19 : FF RX1 19 1 2 := ⟨RX1, TX1, 5, tyX1, .array .int, rfl, by decide, wd_2_32, iX1, tyX1_ok, nmX1, by decide, lnX1, rfl, rfl, by decide +kernel, fun _ => ⟨rfl, rfl⟩⟩
theorem ffX2_9 : FF RX2 9 2 0 := ⟨RX2, TX2, 3, tyX2, .object "NameRing$Told", rfl, by decide, wd_2_77, iX2, tyX2_ok, nmX2, by decide, lnX2, rfl, rfl, by decide +kernel, fun _ => ⟨rfl, rfl⟩⟩
theorem ffX2_15 : FF RX2 15 2 1 := ⟨RX2, TX2, 3, tyX2, .object "NameRing$State", rfl, by decide, wd_2_78, iX2, tyX2_ok, nmX2, by decide, lnX2, rfl, rfl, by decide +kernel, fun _ => ⟨rfl, rfl⟩⟩
theorem ffX2_19 : FF RX2 19 2 2 := ⟨RX2, TX2, 3, tyX2, .object "NameRing$Finder", rfl, by decide, wd_2_79, iX2, tyX2_ok, nmX2, by decide, lnX2, rfl, rfl, by decide +kernel, fun _ => ⟨rfl, rfl⟩⟩
theorem ffX3_13 : FF RX3 13 3 0 := ⟨RX3, TX3, 6, tyX3, .array (.object "NameRing$State"), rfl, by decide, wd_2_153, iX3, tyX3_ok, nmX3, by decide, lnX3, rfl, rfl, by decide +kernel, fun _ => ⟨rfl, rfl⟩⟩
theorem ffX3_18 : FF RX3 18 3 1 := ⟨RX3, TX3, 6, tyX3, .array (.object "NameRing$State"), rfl, by decide, wd_2_154, iX3, tyX3_ok, nmX3, by decide, lnX3, rfl, rfl, by decide +kernel, fun _ => ⟨rfl, rfl⟩⟩
theorem ffX3_23 : FF RX3 23 3 2 := ⟨RX3, TX3, 6, tyX3, .array (.object "NameRing$Seen"), rfl, by decide, wd_2_155, iX3, tyX3_ok, nmX3, by decide, lnX3, rfl, rfl, by decide +kernel, fun _ => ⟨rfl, rfl⟩⟩
theorem ffX3_27 : FF RX3 27 3 3 := ⟨RX3, TX3, 6, tyX3, .array .boolean, rfl, by decide, wd_2_156, iX3, tyX3_ok, nmX3, by decide, lnX3, rfl, rfl, by decide +kernel, fun _ => ⟨rfl, rfl⟩⟩
theorem ffX4_9 : FF RX4 9 4 0 := ⟨RX4, TX4, 5, tyX4, .object "NameRing$Tape", rfl, by decide, wd_1_206, iX4, tyX4_ok, nmX4, by decide, lnX4, rfl, rfl, by decide +kernel, fun _ => ⟨rfl, rfl⟩⟩
theorem ffX4_18 : FF RX4 18 4 1 := ⟨RX4, TX4, 5, tyX4, .object "NameRing$Told", rfl, by decide, wd_1_207, iX4, tyX4_ok, nmX4, by decide, lnX4, rfl, rfl, by decide +kernel, fun _ => ⟨rfl, rfl⟩⟩
theorem ffX5_9 : FF RX5 9 5 0 := ⟨RX5, TX5, 5, tyX5, .array .int, rfl, by decide, wd_2_123, iX5, tyX5_ok, nmX5, by decide, lnX5, rfl, rfl, by decide +kernel, fun _ => ⟨rfl, rfl⟩⟩
theorem ffX5_15 : FF RX5 15 5 1 := ⟨RX5, TX5, 5, tyX5, .array .int, rfl, by decide, wd_2_124, iX5, tyX5_ok, nmX5, by decide, lnX5, rfl, rfl, by decide +kernel, fun _ => ⟨rfl, rfl⟩⟩
theorem ffX5_18 : FF RX5 18 5 2 := ⟨RX5, TX5, 5, tyX5, .array .boolean, rfl, by decide, wd_2_125, iX5, tyX5_ok, nmX5, by decide, lnX5, rfl, rfl, by decide +kernel, fun _ => ⟨rfl, rfl⟩⟩
theorem ffX5_22 : FF RX5 22 5 3 := ⟨RX5, TX5, 5, tyX5, .array .int, rfl, by decide, wd_2_126, iX5, tyX5_ok, nmX5, by decide, lnX5, rfl, rfl, by decide +kernel, fun _ => ⟨rfl, rfl⟩⟩
theorem ffX6_11 : FF RX6 11 6 0 := ⟨RX6, TX6, 2, tyX6, .array .int, rfl, by decide, wd_2_13, iX6, tyX6_ok, nmX6, by decide, lnX6, rfl, rfl, by decide +kernel, fun _ => ⟨rfl, rfl⟩⟩
theorem ffX7_9 : FF RX7 9 7 0 := ⟨RX7, TX7, 9, tyX7, .array .char, rfl, by decide, wd_1_90, iX7, tyX7_ok, nmX7, by decide, lnX7, rfl, rfl, by decide +kernel, fun _ => ⟨rfl, rfl⟩⟩
theorem ffX7_15 : FF RX7 15 7 1 := ⟨RX7, TX7, 9, tyX7, .array .long, rfl, by decide, wd_1_91, iX7, tyX7_ok, nmX7, by decide, lnX7, rfl, rfl, by decide +kernel, fun _ => ⟨rfl, rfl⟩⟩
theorem ffX8_15 : FF RX8 15 8 4 := ⟨RX8, TX8, 10, tyX8, .array .int, rfl, by decide, wd_1_155, iX8, tyX8_ok, nmX8, by decide, lnX8, rfl, rfl, by decide +kernel, fun _ => ⟨rfl, rfl⟩⟩
theorem ffX8_19 : FF RX8 19 8 5 := ⟨RX8, TX8, 10, tyX8, .array .int, rfl, by decide, wd_1_159, iX8, tyX8_ok, nmX8, by decide, lnX8, rfl, rfl, by decide +kernel, fun _ => ⟨rfl, rfl⟩⟩
theorem ffX8_22 : FF RX8 22 8 6 := ⟨RX8, TX8, 10, tyX8, .array .long, rfl, by decide, wd_1_165, iX8, tyX8_ok, nmX8, by decide, lnX8, rfl, rfl, by decide +kernel, fun _ => ⟨rfl, rfl⟩⟩
theorem ffX8_26 : FF RX8 26 8 7 := ⟨RX8, TX8, 10, tyX8, .array .int, rfl, by decide, wd_1_167, iX8, tyX8_ok, nmX8, by decide, lnX8, rfl, rfl, by decide +kernel, fun _ => ⟨rfl, rfl⟩⟩
theorem ffX8_29 : FF RX8 29 8 8 := ⟨RX8, TX8, 10, tyX8, .array .int, rfl, by decide, wd_1_169, iX8, tyX8_ok, nmX8, by decide, lnX8, rfl, rfl, by decide +kernel, fun _ => ⟨rfl, rfl⟩⟩
theorem ffX8_32 : FF RX8 32 8 9 := ⟨RX8, TX8, 10, tyX8, .array .long, rfl, by decide, wd_1_174, iX8, tyX8_ok, nmX8, by decide, lnX8, rfl, rfl, by decide +kernel, fun _ => ⟨rfl, rfl⟩⟩
theorem ffX9_9 : FF RX9 9 9 0 := ⟨RX9, TX9, 7, tyX9, .object "NameRing$Told", rfl, by decide, wd_2_95, iX9, tyX9_ok, nmX9, by decide, lnX9, rfl, rfl, by decide +kernel, fun _ => ⟨rfl, rfl⟩⟩
theorem ffX9_15 : FF RX9 15 9 1 := ⟨RX9, TX9, 7, tyX9, .object "NameRing$State", rfl, by decide, wd_2_96, iX9, tyX9_ok, nmX9, by decide, lnX9, rfl, rfl, by decide +kernel, fun _ => ⟨rfl, rfl⟩⟩
theorem ffX9_19 : FF RX9 19 9 2 := ⟨RX9, TX9, 7, tyX9, .object "NameRing$Deeds", rfl, by decide, wd_2_97, iX9, tyX9_ok, nmX9, by decide, lnX9, rfl, rfl, by decide +kernel, fun _ => ⟨rfl, rfl⟩⟩
theorem ffX9_23 : FF RX9 23 9 3 := ⟨RX9, TX9, 7, tyX9, .object "NameRing$Looks", rfl, by decide, wd_2_98, iX9, tyX9_ok, nmX9, by decide, lnX9, rfl, rfl, by decide +kernel, fun _ => ⟨rfl, rfl⟩⟩
theorem ffX9_30 : FF RX9 30 9 4 := ⟨RX9, TX9, 7, tyX9, .object "NameRing$State", rfl, by decide, wd_2_99, iX9, tyX9_ok, nmX9, by decide, lnX9, rfl, rfl, by decide +kernel, fun _ => ⟨rfl, rfl⟩⟩
theorem ffX9_33 : FF RX9 33 9 5 := ⟨RX9, TX9, 7, tyX9, .object "NameRing$State", rfl, by decide, wd_2_100, iX9, tyX9_ok, nmX9, by decide, lnX9, rfl, rfl, by decide +kernel, fun _ => ⟨rfl, rfl⟩⟩
theorem ffX10_9 : FF RX10 9 10 0 := ⟨RX10, TX10, 4, tyX10, .array .int, rfl, by decide, wd_1_229, iX10, tyX10_ok, nmX10, by decide, lnX10, rfl, rfl, by decide +kernel, fun _ => ⟨rfl, rfl⟩⟩
theorem ffX10_15 : FF RX10 15 10 1 := ⟨RX10, TX10, 4, tyX10, .array .int, rfl, by decide, wd_1_231, iX10, tyX10_ok, nmX10, by decide, lnX10, rfl, rfl, by decide +kernel, fun _ => ⟨rfl, rfl⟩⟩
theorem ffX10_18 : FF RX10 18 10 2 := ⟨RX10, TX10, 4, tyX10, .array .int, rfl, by decide, wd_1_233, iX10, tyX10_ok, nmX10, by decide, lnX10, rfl, rfl, by decide +kernel, fun _ => ⟨rfl, rfl⟩⟩
theorem ffX12_14 : FF RX12 14 12 1 := ⟨RX12, TX12, 26, tyX12, .array .int, rfl, by decide, wd_7_26, iX12, tyX12_ok, nmX12, by decide, lnX12, rfl, rfl, by decide +kernel, fun _ => ⟨rfl, rfl⟩⟩
theorem ffX12_24 : FF RX12 24 12 4 := ⟨RX12, TX12, 26, tyX12, .array .int, rfl, by decide, wd_7_29, iX12, tyX12_ok, nmX12, by decide, lnX12, rfl, rfl, by decide +kernel, fun _ => ⟨rfl, rfl⟩⟩
theorem ffX12_27 : FF RX12 27 12 5 := ⟨RX12, TX12, 26, tyX12, .array .int, rfl, by decide, wd_7_30, iX12, tyX12_ok, nmX12, by decide, lnX12, rfl, rfl, by decide +kernel, fun _ => ⟨rfl, rfl⟩⟩
theorem ffX12_30 : FF RX12 30 12 6 := ⟨RX12, TX12, 26, tyX12, .array .long, rfl, by decide, wd_7_31, iX12, tyX12_ok, nmX12, by decide, lnX12, rfl, rfl, by decide +kernel, fun _ => ⟨rfl, rfl⟩⟩
theorem ffX12_84 : FF RX12 84 12 9 := ⟨RX12, TX12, 26, tyX12, .array .long, rfl, by decide, wd_7_34, iX12, tyX12_ok, nmX12, by decide, lnX12, rfl, rfl, by decide +kernel, fun _ => ⟨rfl, rfl⟩⟩
theorem ffX12_87 : FF RX12 87 12 10 := ⟨RX12, TX12, 26, tyX12, .array .int, rfl, by decide, wd_7_35, iX12, tyX12_ok, nmX12, by decide, lnX12, rfl, rfl, by decide +kernel, fun _ => ⟨rfl, rfl⟩⟩
theorem ffX12_90 : FF RX12 90 12 11 := ⟨RX12, TX12, 26, tyX12, .array .int, rfl, by decide, wd_7_36, iX12, tyX12_ok, nmX12, by decide, lnX12, rfl, rfl, by decide +kernel, fun _ => ⟨rfl, rfl⟩⟩
theorem ffX12_93 : FF RX12 93 12 13 := ⟨RX12, TX12, 26, tyX12, .array .long, rfl, by decide, wd_7_38, iX12, tyX12_ok, nmX12, by decide, lnX12, rfl, rfl, by decide +kernel, fun _ => ⟨rfl, rfl⟩⟩
theorem ffX12_96 : FF RX12 96 12 14 := ⟨RX12, TX12, 26, tyX12, .array .int, rfl, by decide, wd_7_39, iX12, tyX12_ok, nmX12, by decide, lnX12, rfl, rfl, by decide +kernel, fun _ => ⟨rfl, rfl⟩⟩
theorem ffX12_99 : FF RX12 99 12 15 := ⟨RX12, TX12, 26, tyX12, .array .int, rfl, by decide, wd_7_40, iX12, tyX12_ok, nmX12, by decide, lnX12, rfl, rfl, by decide +kernel, fun _ => ⟨rfl, rfl⟩⟩
theorem ffX12_102 : FF RX12 102 12 16 := ⟨RX12, TX12, 26, tyX12, .array .int, rfl, by decide, wd_7_41, iX12, tyX12_ok, nmX12, by decide, lnX12, rfl, rfl, by decide +kernel, fun _ => ⟨rfl, rfl⟩⟩
theorem ffX12_105 : FF RX12 105 12 17 := ⟨RX12, TX12, 26, tyX12, .array .int, rfl, by decide, wd_7_42, iX12, tyX12_ok, nmX12, by decide, lnX12, rfl, rfl, by decide +kernel, fun _ => ⟨rfl, rfl⟩⟩
theorem ffX12_108 : FF RX12 108 12 19 := ⟨RX12, TX12, 26, tyX12, .array .boolean, rfl, by decide, wd_7_44, iX12, tyX12_ok, nmX12, by decide, lnX12, rfl, rfl, by decide +kernel, fun _ => ⟨rfl, rfl⟩⟩
theorem ffX12_112 : FF RX12 112 12 20 := ⟨RX12, TX12, 26, tyX12, .array .int, rfl, by decide, wd_7_45, iX12, tyX12_ok, nmX12, by decide, lnX12, rfl, rfl, by decide +kernel, fun _ => ⟨rfl, rfl⟩⟩
theorem ffX12_115 : FF RX12 115 12 22 := ⟨RX12, TX12, 26, tyX12, .array .int, rfl, by decide, wd_7_47, iX12, tyX12_ok, nmX12, by decide, lnX12, rfl, rfl, by decide +kernel, fun _ => ⟨rfl, rfl⟩⟩
theorem ffX12_118 : FF RX12 118 12 23 := ⟨RX12, TX12, 26, tyX12, .array .int, rfl, by decide, wd_7_48, iX12, tyX12_ok, nmX12, by decide, lnX12, rfl, rfl, by decide +kernel, fun _ => ⟨rfl, rfl⟩⟩
theorem ffX12_121 : FF RX12 121 12 24 := ⟨RX12, TX12, 26, tyX12, .array .int, rfl, by decide, wd_7_49, iX12, tyX12_ok, nmX12, by decide, lnX12, rfl, rfl, by decide +kernel, fun _ => ⟨rfl, rfl⟩⟩
theorem dX6_init_0 : decode cX6_init 0 = .ok (.aload_n 0, 1) := by decide +kernel
theorem dX6_init_1 : decode cX6_init 1 = .ok (.invokespecial 5, 3) := by decide +kernel
theorem dX6_init_4 : decode cX6_init 4 = .ok (.aload_n 0, 1) := by decide +kernel
theorem dX6_init_5 : decode cX6_init 5 = .ok (.bipush 114, 2) := by decide +kernel
theorem dX6_init_7 : decode cX6_init 7 = .ok (.newarray .int, 2) := by decide +kernel
theorem dX6_init_9 : decode cX6_init 9 = .ok (.putfield 11, 3) := by decide +kernel
theorem dX6_init_12 : decode cX6_init 12 = .ok (.iconst 0, 1) := by decide +kernel
theorem dX6_init_13 : decode cX6_init 13 = .ok (.istore_n 1, 1) := by decide +kernel
theorem dX6_init_14 : decode cX6_init 14 = .ok (.iload_n 1, 1) := by decide +kernel
theorem dX6_init_15 : decode cX6_init 15 = .ok (.bipush 114, 2) := by decide +kernel
theorem dX6_init_17 : decode cX6_init 17 = .ok (.if_icmp .ge 16, 3) := by decide +kernel
theorem dX6_init_20 : decode cX6_init 20 = .ok (.aload_n 0, 1) := by decide +kernel
theorem dX6_init_21 : decode cX6_init 21 = .ok (.getfield 11, 3) := by decide +kernel
theorem dX6_init_24 : decode cX6_init 24 = .ok (.iload_n 1, 1) := by decide +kernel
theorem dX6_init_25 : decode cX6_init 25 = .ok (.iconst (-1), 1) := by decide +kernel
theorem dX6_init_26 : decode cX6_init 26 = .ok (.iastore, 1) := by decide +kernel
theorem dX6_init_27 : decode cX6_init 27 = .ok (.iinc 1 1, 3) := by decide +kernel
theorem dX6_init_30 : decode cX6_init 30 = .ok (.goto (-16), 3) := by decide +kernel
theorem dX6_init_33 : decode cX6_init 33 = .ok (.return_, 1) := by decide +kernel
noncomputable def iX6_init (a0 : Nat) (n : Nat) (G : Hp) : RT := na n 20 114 (bh (clr G n) fun G1 => pf a0 0 n (bh (up G1 a0 0 1) fun G4 => bd 0 fun v5 => (lp (fun (_ : Int) (_ : Hp) => (none : RT)) 5000 (fun (rc8 : Int → Hp → RT) (v6 : Int) (G7 : Hp) => if v6 < 114 then (gr G7 a0 0 (if (rf a0 0) < (n + 1) then (bs (wr G7 ((rf a0 0)) 114 v6 ((-1))) fun G9 => bd (iadd v6 1) fun v10 => rc8 v10 G9) else none)) else (ve (n + 1) (n + 1) G7))) v5 G4))
set_option maxRecDepth 20000 in
set_option maxHeartbeats 4000000 in
theorem kX6_init (l : Launch) (x : WX) (hi : Inj x.2.2) (had : ∀ c, c ≤ 129 → x.2.2 c = x.2.2 0 + c) (n : Nat) (G : Hp) (a0 : Nat) (ha0 : kd a0 = 6) (hl0 : a0 < n) (hn : n + 1 < 129) : CtC l x yX6_init cX6_init 2 1 n (n + 1) [vR a0] G (iX6_init a0 n G) := by
  refine ctc_of (plainFor_of_name (by decide)) rfl hi had (by omega) (by omega) (Nat.le_of_ble_eq_true rfl) (fun cx F hd hn0 hnE hl hQ hB hI => ?_)
  subst hl
  have F : Fx cx x RX6 cX6_init 2 none := F
  show Y cx x 2 none n 0 [(0, vR a0)] [] G _
  unfold iX6_init
  refine x_aload_n F dX6_init_0 rfl rfl rfl ?_
  refine x_objI F lkX6_5 wd_1_32 wd_1_33 (le_d (d' := 0) hd rfl) (Nat.le_of_ble_eq_true rfl) dX6_init_1 rfl ?_
  refine x_aload_n F dX6_init_4 rfl rfl rfl ?_
  refine x_bipush F dX6_init_5 ⟨by decide, by decide⟩ (by decide) rfl ?_
  refine x_newaI F hB (by omega) (by omega) (by omega) wd_1_197 dX6_init_7 rfl (fun h2 h3 G1 => ?_)
  refine x_putFR F hI ffX6_11 ha0 (by omega) (by omega) rfl rfl dX6_init_9 rfl (fun G4 => ?_)
  refine x_iconst F dX6_init_12 ⟨by decide, by decide⟩ rfl ?_
  refine x_istore_n F dX6_init_13 rfl (by decide) rfl rfl (fun v5 => ?_)
  show Y cx x _ _ _ _ [(0, vR a0), (1, vI v5)] _ _ _
  refine x_lp (fun (rc8 : Int → Hp → RT) => ∀ (v6 : Int) (G7 : Hp), Y cx x 2 none (n + 1) 14 [(0, vR a0), (1, vI v6)] [] G7 (rc8 v6 G7)) (fun _ _ => Y_none) (fun rc8 hrc8 v6 G7 => ?_) 5000 v5 G4
  refine x_iload_n F dX6_init_14 rfl rfl rfl ?_
  refine x_bipush F dX6_init_15 ⟨by decide, by decide⟩ (by decide) rfl ?_
  refine x_icmpge (pt := 33) F dX6_init_17 rfl rfl ?_ ?_
  · refine x_aload_n F dX6_init_20 rfl rfl rfl ?_
    refine x_getRc F flX6_11 ha0 (by omega) (by omega) rfl dX6_init_21 rfl ?_
    refine x_iload_n F dX6_init_24 rfl rfl rfl ?_
    refine x_iconst F dX6_init_25 ⟨by decide, by decide⟩ rfl ?_
    refine x_ite (fun h11 => ?_) (fun _ => Y_none)
    refine x_iast F (tf6_0 ha0).1 (tf6_0 ha0).2 (by omega) (by omega) dX6_init_26 rfl (fun G9 => ?_)
    refine x_iinc F dX6_init_27 rfl (by decide) rfl rfl (fun v10 => ?_)
    show Y cx x _ _ _ _ [(0, vR a0), (1, vI v10)] _ _ _
    refine x_goto (pc' := 14) F dX6_init_30 rfl ?_
    exact hrc8 v10 G9
  · exact x_vretC F hQ hnE dX6_init_33
theorem dX5_init_0 : decode cX5_init 0 = .ok (.aload_n 0, 1) := by decide +kernel
theorem dX5_init_1 : decode cX5_init 1 = .ok (.invokespecial 3, 3) := by decide +kernel
theorem dX5_init_4 : decode cX5_init 4 = .ok (.aload_n 0, 1) := by decide +kernel
theorem dX5_init_5 : decode cX5_init 5 = .ok (.bipush 8, 2) := by decide +kernel
theorem dX5_init_7 : decode cX5_init 7 = .ok (.newarray .int, 2) := by decide +kernel
theorem dX5_init_9 : decode cX5_init 9 = .ok (.putfield 9, 3) := by decide +kernel
theorem dX5_init_12 : decode cX5_init 12 = .ok (.aload_n 0, 1) := by decide +kernel
theorem dX5_init_13 : decode cX5_init 13 = .ok (.bipush 8, 2) := by decide +kernel
theorem dX5_init_15 : decode cX5_init 15 = .ok (.newarray .int, 2) := by decide +kernel
theorem dX5_init_17 : decode cX5_init 17 = .ok (.putfield 15, 3) := by decide +kernel
theorem dX5_init_20 : decode cX5_init 20 = .ok (.aload_n 0, 1) := by decide +kernel
theorem dX5_init_21 : decode cX5_init 21 = .ok (.bipush 8, 2) := by decide +kernel
theorem dX5_init_23 : decode cX5_init 23 = .ok (.newarray .boolean, 2) := by decide +kernel
theorem dX5_init_25 : decode cX5_init 25 = .ok (.putfield 18, 3) := by decide +kernel
theorem dX5_init_28 : decode cX5_init 28 = .ok (.aload_n 0, 1) := by decide +kernel
theorem dX5_init_29 : decode cX5_init 29 = .ok (.bipush 22, 2) := by decide +kernel
theorem dX5_init_31 : decode cX5_init 31 = .ok (.newarray .int, 2) := by decide +kernel
theorem dX5_init_33 : decode cX5_init 33 = .ok (.putfield 22, 3) := by decide +kernel
theorem dX5_init_36 : decode cX5_init 36 = .ok (.return_, 1) := by decide +kernel
noncomputable def iX5_init (a0 : Nat) (n : Nat) (G : Hp) : RT := na n 20 8 (bh (clr G n) fun G1 => pf a0 0 n (bh (up G1 a0 0 1) fun G4 => na (n + 1) 20 8 (bh (clr G4 (n + 1)) fun G5 => pf a0 1 ((n + 1)) (bh (up G5 a0 1 1) fun G8 => na (n + 2) 23 8 (bh (clr G8 (n + 2)) fun G9 => pf a0 2 ((n + 2)) (bh (up G9 a0 2 1) fun G12 => na (n + 3) 20 22 (bh (clr G12 (n + 3)) fun G13 => pf a0 3 ((n + 3)) (bh (up G13 a0 3 1) fun G16 => ve (n + 4) (n + 4) G16))))))))
set_option maxRecDepth 20000 in
set_option maxHeartbeats 4000000 in
theorem kX5_init (l : Launch) (x : WX) (hi : Inj x.2.2) (had : ∀ c, c ≤ 129 → x.2.2 c = x.2.2 0 + c) (n : Nat) (G : Hp) (a0 : Nat) (ha0 : kd a0 = 5) (hl0 : a0 < n) (hn : n + 4 < 129) : CtC l x yX5_init cX5_init 1 1 n (n + 4) [vR a0] G (iX5_init a0 n G) := by
  refine ctc_of (plainFor_of_name (by decide)) rfl hi had (by omega) (by omega) (Nat.le_of_ble_eq_true rfl) (fun cx F hd hn0 hnE hl hQ hB hI => ?_)
  subst hl
  have F : Fx cx x RX5 cX5_init 1 none := F
  show Y cx x 1 none n 0 [(0, vR a0)] [] G _
  unfold iX5_init
  refine x_aload_n F dX5_init_0 rfl rfl rfl ?_
  refine x_objI F lkX5_3 wd_1_32 wd_1_33 (le_d (d' := 0) hd rfl) (Nat.le_of_ble_eq_true rfl) dX5_init_1 rfl ?_
  refine x_aload_n F dX5_init_4 rfl rfl rfl ?_
  refine x_bipush F dX5_init_5 ⟨by decide, by decide⟩ (by decide) rfl ?_
  refine x_newaI F hB (by omega) (by omega) (by omega) wd_1_197 dX5_init_7 rfl (fun h2 h3 G1 => ?_)
  refine x_putFR F hI ffX5_9 ha0 (by omega) (by omega) rfl rfl dX5_init_9 rfl (fun G4 => ?_)
  refine x_aload_n F dX5_init_12 rfl rfl rfl ?_
  refine x_bipush F dX5_init_13 ⟨by decide, by decide⟩ (by decide) rfl ?_
  refine x_newaI F hB (by omega) (by omega) (by omega) wd_1_197 dX5_init_15 rfl (fun h6 h7 G5 => ?_)
  refine x_putFR F hI ffX5_15 ha0 (by omega) (by omega) rfl rfl dX5_init_17 rfl (fun G8 => ?_)
  refine x_aload_n F dX5_init_20 rfl rfl rfl ?_
  refine x_bipush F dX5_init_21 ⟨by decide, by decide⟩ (by decide) rfl ?_
  refine x_newaZ F hB (by omega) (by omega) (by omega) wd_2_140 dX5_init_23 rfl (fun h10 h11 G9 => ?_)
  refine x_putFR F hI ffX5_18 ha0 (by omega) (by omega) rfl rfl dX5_init_25 rfl (fun G12 => ?_)
  refine x_aload_n F dX5_init_28 rfl rfl rfl ?_
  refine x_bipush F dX5_init_29 ⟨by decide, by decide⟩ (by decide) rfl ?_
  refine x_newaI F hB (by omega) (by omega) (by omega) wd_1_197 dX5_init_31 rfl (fun h14 h15 G13 => ?_)
  refine x_putFR F hI ffX5_22 ha0 (by omega) (by omega) rfl rfl dX5_init_33 rfl (fun G16 => ?_)
  exact x_vretC F hQ hnE dX5_init_36
theorem dX8_init_0 : decode cX8_init 0 = .ok (.aload_n 0, 1) := by decide +kernel
theorem dX8_init_1 : decode cX8_init 1 = .ok (.invokespecial 3, 3) := by decide +kernel
theorem dX8_init_4 : decode cX8_init 4 = .ok (.aload_n 0, 1) := by decide +kernel
theorem dX8_init_5 : decode cX8_init 5 = .ok (.iconst 2, 1) := by decide +kernel
theorem dX8_init_6 : decode cX8_init 6 = .ok (.putfield 9, 3) := by decide +kernel
theorem dX8_init_9 : decode cX8_init 9 = .ok (.aload_n 0, 1) := by decide +kernel
theorem dX8_init_10 : decode cX8_init 10 = .ok (.bipush 8, 2) := by decide +kernel
theorem dX8_init_12 : decode cX8_init 12 = .ok (.newarray .int, 2) := by decide +kernel
theorem dX8_init_14 : decode cX8_init 14 = .ok (.putfield 15, 3) := by decide +kernel
theorem dX8_init_17 : decode cX8_init 17 = .ok (.aload_n 0, 1) := by decide +kernel
theorem dX8_init_18 : decode cX8_init 18 = .ok (.bipush 8, 2) := by decide +kernel
theorem dX8_init_20 : decode cX8_init 20 = .ok (.newarray .int, 2) := by decide +kernel
theorem dX8_init_22 : decode cX8_init 22 = .ok (.putfield 19, 3) := by decide +kernel
theorem dX8_init_25 : decode cX8_init 25 = .ok (.aload_n 0, 1) := by decide +kernel
theorem dX8_init_26 : decode cX8_init 26 = .ok (.bipush 8, 2) := by decide +kernel
theorem dX8_init_28 : decode cX8_init 28 = .ok (.newarray .long, 2) := by decide +kernel
theorem dX8_init_30 : decode cX8_init 30 = .ok (.putfield 22, 3) := by decide +kernel
theorem dX8_init_33 : decode cX8_init 33 = .ok (.aload_n 0, 1) := by decide +kernel
theorem dX8_init_34 : decode cX8_init 34 = .ok (.bipush 10, 2) := by decide +kernel
theorem dX8_init_36 : decode cX8_init 36 = .ok (.newarray .int, 2) := by decide +kernel
theorem dX8_init_38 : decode cX8_init 38 = .ok (.putfield 26, 3) := by decide +kernel
theorem dX8_init_41 : decode cX8_init 41 = .ok (.aload_n 0, 1) := by decide +kernel
theorem dX8_init_42 : decode cX8_init 42 = .ok (.bipush 10, 2) := by decide +kernel
theorem dX8_init_44 : decode cX8_init 44 = .ok (.newarray .int, 2) := by decide +kernel
theorem dX8_init_46 : decode cX8_init 46 = .ok (.putfield 29, 3) := by decide +kernel
theorem dX8_init_49 : decode cX8_init 49 = .ok (.aload_n 0, 1) := by decide +kernel
theorem dX8_init_50 : decode cX8_init 50 = .ok (.bipush 10, 2) := by decide +kernel
theorem dX8_init_52 : decode cX8_init 52 = .ok (.newarray .long, 2) := by decide +kernel
theorem dX8_init_54 : decode cX8_init 54 = .ok (.putfield 32, 3) := by decide +kernel
theorem dX8_init_57 : decode cX8_init 57 = .ok (.return_, 1) := by decide +kernel
noncomputable def iX8_init (a0 : Nat) (n : Nat) (G : Hp) : RT := bh (up G a0 1 2) fun G1 => na n 20 8 (bh (clr G1 n) fun G2 => pf a0 4 n (bh (up G2 a0 4 1) fun G5 => na (n + 1) 20 8 (bh (clr G5 (n + 1)) fun G6 => pf a0 5 ((n + 1)) (bh (up G6 a0 5 1) fun G9 => na (n + 2) 21 8 (bh (clr G9 (n + 2)) fun G10 => pf a0 6 ((n + 2)) (bh (up G10 a0 6 1) fun G13 => na (n + 3) 20 10 (bh (clr G13 (n + 3)) fun G14 => pf a0 7 ((n + 3)) (bh (up G14 a0 7 1) fun G17 => na (n + 4) 20 10 (bh (clr G17 (n + 4)) fun G18 => pf a0 8 ((n + 4)) (bh (up G18 a0 8 1) fun G21 => na (n + 5) 21 10 (bh (clr G21 (n + 5)) fun G22 => pf a0 9 ((n + 5)) (bh (up G22 a0 9 1) fun G25 => ve (n + 6) (n + 6) G25))))))))))))
set_option maxRecDepth 20000 in
set_option maxHeartbeats 4000000 in
theorem kX8_init (l : Launch) (x : WX) (hi : Inj x.2.2) (had : ∀ c, c ≤ 129 → x.2.2 c = x.2.2 0 + c) (n : Nat) (G : Hp) (a0 : Nat) (ha0 : kd a0 = 8) (hl0 : a0 < n) (hn : n + 6 < 129) : CtC l x yX8_init cX8_init 1 1 n (n + 6) [vR a0] G (iX8_init a0 n G) := by
  refine ctc_of (plainFor_of_name (by decide)) rfl hi had (by omega) (by omega) (Nat.le_of_ble_eq_true rfl) (fun cx F hd hn0 hnE hl hQ hB hI => ?_)
  subst hl
  have F : Fx cx x RX8 cX8_init 1 none := F
  show Y cx x 1 none n 0 [(0, vR a0)] [] G _
  unfold iX8_init
  refine x_aload_n F dX8_init_0 rfl rfl rfl ?_
  refine x_objI F lkX8_3 wd_1_32 wd_1_33 (le_d (d' := 0) hd rfl) (Nat.le_of_ble_eq_true rfl) dX8_init_1 rfl ?_
  refine x_aload_n F dX8_init_4 rfl rfl rfl ?_
  refine x_iconst F dX8_init_5 ⟨by decide, by decide⟩ rfl ?_
  refine x_putI F fpX8_9 ha0 (by omega) (by omega) rfl dX8_init_6 rfl (fun G1 => ?_)
  refine x_aload_n F dX8_init_9 rfl rfl rfl ?_
  refine x_bipush F dX8_init_10 ⟨by decide, by decide⟩ (by decide) rfl ?_
  refine x_newaI F hB (by omega) (by omega) (by omega) wd_1_197 dX8_init_12 rfl (fun h3 h4 G2 => ?_)
  refine x_putFR F hI ffX8_15 ha0 (by omega) (by omega) rfl rfl dX8_init_14 rfl (fun G5 => ?_)
  refine x_aload_n F dX8_init_17 rfl rfl rfl ?_
  refine x_bipush F dX8_init_18 ⟨by decide, by decide⟩ (by decide) rfl ?_
  refine x_newaI F hB (by omega) (by omega) (by omega) wd_1_197 dX8_init_20 rfl (fun h7 h8 G6 => ?_)
  refine x_putFR F hI ffX8_19 ha0 (by omega) (by omega) rfl rfl dX8_init_22 rfl (fun G9 => ?_)
  refine x_aload_n F dX8_init_25 rfl rfl rfl ?_
  refine x_bipush F dX8_init_26 ⟨by decide, by decide⟩ (by decide) rfl ?_
  refine x_newaJ F hB (by omega) (by omega) (by omega) wd_1_129 dX8_init_28 rfl (fun h11 h12 G10 => ?_)
  refine x_putFR F hI ffX8_22 ha0 (by omega) (by omega) rfl rfl dX8_init_30 rfl (fun G13 => ?_)
  refine x_aload_n F dX8_init_33 rfl rfl rfl ?_
  refine x_bipush F dX8_init_34 ⟨by decide, by decide⟩ (by decide) rfl ?_
  refine x_newaI F hB (by omega) (by omega) (by omega) wd_1_197 dX8_init_36 rfl (fun h15 h16 G14 => ?_)
  refine x_putFR F hI ffX8_26 ha0 (by omega) (by omega) rfl rfl dX8_init_38 rfl (fun G17 => ?_)
  refine x_aload_n F dX8_init_41 rfl rfl rfl ?_
  refine x_bipush F dX8_init_42 ⟨by decide, by decide⟩ (by decide) rfl ?_
  refine x_newaI F hB (by omega) (by omega) (by omega) wd_1_197 dX8_init_44 rfl (fun h19 h20 G18 => ?_)
  refine x_putFR F hI ffX8_29 ha0 (by omega) (by omega) rfl rfl dX8_init_46 rfl (fun G21 => ?_)
  refine x_aload_n F dX8_init_49 rfl rfl rfl ?_
  refine x_bipush F dX8_init_50 ⟨by decide, by decide⟩ (by decide) rfl ?_
  refine x_newaJ F hB (by omega) (by omega) (by omega) wd_1_129 dX8_init_52 rfl (fun h23 h24 G22 => ?_)
  refine x_putFR F hI ffX8_32 ha0 (by omega) (by omega) rfl rfl dX8_init_54 rfl (fun G25 => ?_)
  exact x_vretC F hQ hnE dX8_init_57
theorem dX10_init_0 : decode cX10_init 0 = .ok (.aload_n 0, 1) := by decide +kernel
theorem dX10_init_1 : decode cX10_init 1 = .ok (.invokespecial 3, 3) := by decide +kernel
theorem dX10_init_4 : decode cX10_init 4 = .ok (.aload_n 0, 1) := by decide +kernel
theorem dX10_init_5 : decode cX10_init 5 = .ok (.bipush 40, 2) := by decide +kernel
theorem dX10_init_7 : decode cX10_init 7 = .ok (.newarray .int, 2) := by decide +kernel
theorem dX10_init_9 : decode cX10_init 9 = .ok (.putfield 9, 3) := by decide +kernel
theorem dX10_init_12 : decode cX10_init 12 = .ok (.aload_n 0, 1) := by decide +kernel
theorem dX10_init_13 : decode cX10_init 13 = .ok (.bipush 40, 2) := by decide +kernel
theorem dX10_init_15 : decode cX10_init 15 = .ok (.newarray .int, 2) := by decide +kernel
theorem dX10_init_17 : decode cX10_init 17 = .ok (.putfield 15, 3) := by decide +kernel
theorem dX10_init_20 : decode cX10_init 20 = .ok (.aload_n 0, 1) := by decide +kernel
theorem dX10_init_21 : decode cX10_init 21 = .ok (.bipush 40, 2) := by decide +kernel
theorem dX10_init_23 : decode cX10_init 23 = .ok (.newarray .int, 2) := by decide +kernel
theorem dX10_init_25 : decode cX10_init 25 = .ok (.putfield 18, 3) := by decide +kernel
theorem dX10_init_28 : decode cX10_init 28 = .ok (.return_, 1) := by decide +kernel
noncomputable def iX10_init (a0 : Nat) (n : Nat) (G : Hp) : RT := na n 20 40 (bh (clr G n) fun G1 => pf a0 0 n (bh (up G1 a0 0 1) fun G4 => na (n + 1) 20 40 (bh (clr G4 (n + 1)) fun G5 => pf a0 1 ((n + 1)) (bh (up G5 a0 1 1) fun G8 => na (n + 2) 20 40 (bh (clr G8 (n + 2)) fun G9 => pf a0 2 ((n + 2)) (bh (up G9 a0 2 1) fun G12 => ve (n + 3) (n + 3) G12))))))
set_option maxRecDepth 20000 in
set_option maxHeartbeats 4000000 in
theorem kX10_init (l : Launch) (x : WX) (hi : Inj x.2.2) (had : ∀ c, c ≤ 129 → x.2.2 c = x.2.2 0 + c) (n : Nat) (G : Hp) (a0 : Nat) (ha0 : kd a0 = 10) (hl0 : a0 < n) (hn : n + 3 < 129) : CtC l x yX10_init cX10_init 1 1 n (n + 3) [vR a0] G (iX10_init a0 n G) := by
  refine ctc_of (plainFor_of_name (by decide)) rfl hi had (by omega) (by omega) (Nat.le_of_ble_eq_true rfl) (fun cx F hd hn0 hnE hl hQ hB hI => ?_)
  subst hl
  have F : Fx cx x RX10 cX10_init 1 none := F
  show Y cx x 1 none n 0 [(0, vR a0)] [] G _
  unfold iX10_init
  refine x_aload_n F dX10_init_0 rfl rfl rfl ?_
  refine x_objI F lkX10_3 wd_1_32 wd_1_33 (le_d (d' := 0) hd rfl) (Nat.le_of_ble_eq_true rfl) dX10_init_1 rfl ?_
  refine x_aload_n F dX10_init_4 rfl rfl rfl ?_
  refine x_bipush F dX10_init_5 ⟨by decide, by decide⟩ (by decide) rfl ?_
  refine x_newaI F hB (by omega) (by omega) (by omega) wd_1_197 dX10_init_7 rfl (fun h2 h3 G1 => ?_)
  refine x_putFR F hI ffX10_9 ha0 (by omega) (by omega) rfl rfl dX10_init_9 rfl (fun G4 => ?_)
  refine x_aload_n F dX10_init_12 rfl rfl rfl ?_
  refine x_bipush F dX10_init_13 ⟨by decide, by decide⟩ (by decide) rfl ?_
  refine x_newaI F hB (by omega) (by omega) (by omega) wd_1_197 dX10_init_15 rfl (fun h6 h7 G5 => ?_)
  refine x_putFR F hI ffX10_15 ha0 (by omega) (by omega) rfl rfl dX10_init_17 rfl (fun G8 => ?_)
  refine x_aload_n F dX10_init_20 rfl rfl rfl ?_
  refine x_bipush F dX10_init_21 ⟨by decide, by decide⟩ (by decide) rfl ?_
  refine x_newaI F hB (by omega) (by omega) (by omega) wd_1_197 dX10_init_23 rfl (fun h10 h11 G9 => ?_)
  refine x_putFR F hI ffX10_18 ha0 (by omega) (by omega) rfl rfl dX10_init_25 rfl (fun G12 => ?_)
  exact x_vretC F hQ hnE dX10_init_28
theorem dX4_init_0 : decode cX4_init 0 = .ok (.aload_n 0, 1) := by decide +kernel
theorem dX4_init_1 : decode cX4_init 1 = .ok (.invokespecial 3, 3) := by decide +kernel
theorem dX4_init_4 : decode cX4_init 4 = .ok (.aload_n 0, 1) := by decide +kernel
theorem dX4_init_5 : decode cX4_init 5 = .ok (.aload_n 1, 1) := by decide +kernel
theorem dX4_init_6 : decode cX4_init 6 = .ok (.putfield 9, 3) := by decide +kernel
theorem dX4_init_9 : decode cX4_init 9 = .ok (.aload_n 0, 1) := by decide +kernel
theorem dX4_init_10 : decode cX4_init 10 = .ok (.new 15, 3) := by decide +kernel
theorem dX4_init_13 : decode cX4_init 13 = .ok (.dup, 1) := by decide +kernel
theorem dX4_init_14 : decode cX4_init 14 = .ok (.invokespecial 17, 3) := by decide +kernel
theorem dX4_init_17 : decode cX4_init 17 = .ok (.putfield 18, 3) := by decide +kernel
theorem dX4_init_20 : decode cX4_init 20 = .ok (.return_, 1) := by decide +kernel
noncomputable def iX4_init (a0 : Nat) (a1 : Nat) (n : Nat) (G : Hp) : RT := pf a0 0 a1 (bh (up G a0 0 1) fun G1 => no n 8 (bh (clr G1 n) fun G2 => bn (iX8_init n (n + 1) G2) fun _ G4 => pf a0 1 n (bh (up G4 a0 1 1) fun G5 => ve (n + 7) (n + 7) G5)))
set_option maxRecDepth 20000 in
set_option maxHeartbeats 4000000 in
theorem kX4_init (l : Launch) (x : WX) (hi : Inj x.2.2) (had : ∀ c, c ≤ 129 → x.2.2 c = x.2.2 0 + c) (n : Nat) (G : Hp) (a0 : Nat) (a1 : Nat) (ha0 : kd a0 = 4) (ha1 : kd a1 = 7) (hl0 : a0 < n) (hl1 : a1 < n) (hn : n + 7 < 129) : CtC l x yX4_init cX4_init 2 2 n (n + 7) [vR a0, vR a1] G (iX4_init a0 a1 n G) := by
  refine ctc_of (plainFor_of_name (by decide)) rfl hi had (by omega) (by omega) (Nat.le_of_ble_eq_true rfl) (fun cx F hd hn0 hnE hl hQ hB hI => ?_)
  subst hl
  have F : Fx cx x RX4 cX4_init 2 none := F
  show Y cx x 2 none n 0 [(0, vR a0), (1, vR a1)] [] G _
  unfold iX4_init
  refine x_aload_n F dX4_init_0 rfl rfl rfl ?_
  refine x_objI F lkX4_3 wd_1_32 wd_1_33 (le_d (d' := 0) hd rfl) (Nat.le_of_ble_eq_true rfl) dX4_init_1 rfl ?_
  refine x_aload_n F dX4_init_4 rfl rfl rfl ?_
  refine x_aload_n F dX4_init_5 rfl rfl rfl ?_
  refine x_putFR F hI ffX4_9 ha0 (by omega) (by omega) rfl rfl dX4_init_6 rfl (fun G1 => ?_)
  refine x_aload_n F dX4_init_9 rfl rfl rfl ?_
  refine x_newO F hB nwX4_15 (by omega) (by omega) (by omega) dX4_init_10 rfl (fun h3 G2 => ?_)
  refine x_dup F dX4_init_13 rfl rfl ?_
  refine x_callC (f := fun G4 => _) (as := []) (S := [vR n, vR a0]) F hB lkX4_17 rfl wd_1_134 wd_1_7 mcX8_init (by decide +kernel : yX8_init.cls ≠ "java/lang/invoke/MethodHandle" ∧ yX8_init.cls ≠ "java/lang/invoke/VarHandle" ∧ (parseMethodDescriptor yX8_init.desc).map (fun d => d.parameters.length) = some 0) (by decide) (by omega) (by omega) (by omega) (by omega) (kX8_init cx.l x hi had (n + 1) G2 n h3 (by omega) (by omega)) (le_d hd rfl) (Nat.le_of_ble_eq_true rfl) dX4_init_14 rfl rfl (fun G4 => ?_)
  refine x_putFR F hI ffX4_18 ha0 (by omega) (by omega) rfl rfl dX4_init_17 rfl (fun G5 => ?_)
  exact x_vretC F hQ hnE dX4_init_20
theorem dX1_init_0 : decode cX1_init 0 = .ok (.aload_n 0, 1) := by decide +kernel
theorem dX1_init_1 : decode cX1_init 1 = .ok (.invokespecial 3, 3) := by decide +kernel
theorem dX1_init_4 : decode cX1_init 4 = .ok (.aload_n 0, 1) := by decide +kernel
theorem dX1_init_5 : decode cX1_init 5 = .ok (.aload_n 1, 1) := by decide +kernel
theorem dX1_init_6 : decode cX1_init 6 = .ok (.putfield 9, 3) := by decide +kernel
theorem dX1_init_9 : decode cX1_init 9 = .ok (.aload_n 0, 1) := by decide +kernel
theorem dX1_init_10 : decode cX1_init 10 = .ok (.aload_n 2, 1) := by decide +kernel
theorem dX1_init_11 : decode cX1_init 11 = .ok (.putfield 15, 3) := by decide +kernel
theorem dX1_init_14 : decode cX1_init 14 = .ok (.aload_n 0, 1) := by decide +kernel
theorem dX1_init_15 : decode cX1_init 15 = .ok (.bipush 20, 2) := by decide +kernel
theorem dX1_init_17 : decode cX1_init 17 = .ok (.newarray .int, 2) := by decide +kernel
theorem dX1_init_19 : decode cX1_init 19 = .ok (.putfield 19, 3) := by decide +kernel
theorem dX1_init_22 : decode cX1_init 22 = .ok (.aload_n 0, 1) := by decide +kernel
theorem dX1_init_23 : decode cX1_init 23 = .ok (.iconst (-1), 1) := by decide +kernel
theorem dX1_init_24 : decode cX1_init 24 = .ok (.putfield 23, 3) := by decide +kernel
theorem dX1_init_27 : decode cX1_init 27 = .ok (.return_, 1) := by decide +kernel
noncomputable def iX1_init (a0 : Nat) (a1 : Nat) (a2 : Nat) (n : Nat) (G : Hp) : RT := pf a0 0 a1 (bh (up G a0 0 1) fun G1 => pf a0 1 a2 (bh (up G1 a0 1 1) fun G2 => na n 20 20 (bh (clr G2 n) fun G3 => pf a0 2 n (bh (up G3 a0 2 1) fun G6 => bh (up G6 a0 3 ((-1))) fun G7 => ve (n + 1) (n + 1) G7))))
set_option maxRecDepth 20000 in
set_option maxHeartbeats 4000000 in
theorem kX1_init (l : Launch) (x : WX) (hi : Inj x.2.2) (had : ∀ c, c ≤ 129 → x.2.2 c = x.2.2 0 + c) (n : Nat) (G : Hp) (a0 : Nat) (a1 : Nat) (a2 : Nat) (ha0 : kd a0 = 1) (ha1 : kd a1 = 8) (ha2 : kd a2 = 6) (hl0 : a0 < n) (hl1 : a1 < n) (hl2 : a2 < n) (hn : n + 1 < 129) : CtC l x yX1_init cX1_init 3 1 n (n + 1) [vR a0, vR a1, vR a2] G (iX1_init a0 a1 a2 n G) := by
  refine ctc_of (plainFor_of_name (by decide)) rfl hi had (by omega) (by omega) (Nat.le_of_ble_eq_true rfl) (fun cx F hd hn0 hnE hl hQ hB hI => ?_)
  subst hl
  have F : Fx cx x RX1 cX1_init 3 none := F
  show Y cx x 3 none n 0 [(0, vR a0), (1, vR a1), (2, vR a2)] [] G _
  unfold iX1_init
  refine x_aload_n F dX1_init_0 rfl rfl rfl ?_
  refine x_objI F lkX1_3 wd_1_32 wd_1_33 (le_d (d' := 0) hd rfl) (Nat.le_of_ble_eq_true rfl) dX1_init_1 rfl ?_
  refine x_aload_n F dX1_init_4 rfl rfl rfl ?_
  refine x_aload_n F dX1_init_5 rfl rfl rfl ?_
  refine x_putFR F hI ffX1_9 ha0 (by omega) (by omega) rfl rfl dX1_init_6 rfl (fun G1 => ?_)
  refine x_aload_n F dX1_init_9 rfl rfl rfl ?_
  refine x_aload_n F dX1_init_10 rfl rfl rfl ?_
  refine x_putFR F hI ffX1_15 ha0 (by omega) (by omega) rfl rfl dX1_init_11 rfl (fun G2 => ?_)
  refine x_aload_n F dX1_init_14 rfl rfl rfl ?_
  refine x_bipush F dX1_init_15 ⟨by decide, by decide⟩ (by decide) rfl ?_
  refine x_newaI F hB (by omega) (by omega) (by omega) wd_1_197 dX1_init_17 rfl (fun h4 h5 G3 => ?_)
  refine x_putFR F hI ffX1_19 ha0 (by omega) (by omega) rfl rfl dX1_init_19 rfl (fun G6 => ?_)
  refine x_aload_n F dX1_init_22 rfl rfl rfl ?_
  refine x_iconst F dX1_init_23 ⟨by decide, by decide⟩ rfl ?_
  refine x_putI F fpX1_23 ha0 (by omega) (by omega) rfl dX1_init_24 rfl (fun G7 => ?_)
  exact x_vretC F hQ hnE dX1_init_27
theorem dX0_init_0 : decode cX0_init 0 = .ok (.aload_n 0, 1) := by decide +kernel
theorem dX0_init_1 : decode cX0_init 1 = .ok (.invokespecial 3, 3) := by decide +kernel
theorem dX0_init_4 : decode cX0_init 4 = .ok (.aload_n 0, 1) := by decide +kernel
theorem dX0_init_5 : decode cX0_init 5 = .ok (.aload_n 1, 1) := by decide +kernel
theorem dX0_init_6 : decode cX0_init 6 = .ok (.putfield 9, 3) := by decide +kernel
theorem dX0_init_9 : decode cX0_init 9 = .ok (.aload_n 0, 1) := by decide +kernel
theorem dX0_init_10 : decode cX0_init 10 = .ok (.aload_n 2, 1) := by decide +kernel
theorem dX0_init_11 : decode cX0_init 11 = .ok (.putfield 15, 3) := by decide +kernel
theorem dX0_init_14 : decode cX0_init 14 = .ok (.aload_n 0, 1) := by decide +kernel
theorem dX0_init_15 : decode cX0_init 15 = .ok (.aload_n 3, 1) := by decide +kernel
theorem dX0_init_16 : decode cX0_init 16 = .ok (.putfield 19, 3) := by decide +kernel
theorem dX0_init_19 : decode cX0_init 19 = .ok (.aload_n 0, 1) := by decide +kernel
theorem dX0_init_20 : decode cX0_init 20 = .ok (.iconst 4, 1) := by decide +kernel
theorem dX0_init_21 : decode cX0_init 21 = .ok (.newarray .int, 2) := by decide +kernel
theorem dX0_init_23 : decode cX0_init 23 = .ok (.putfield 23, 3) := by decide +kernel
theorem dX0_init_26 : decode cX0_init 26 = .ok (.return_, 1) := by decide +kernel
noncomputable def iX0_init (a0 : Nat) (a1 : Nat) (a2 : Nat) (a3 : Nat) (n : Nat) (G : Hp) : RT := pf a0 0 a1 (bh (up G a0 0 1) fun G1 => pf a0 1 a2 (bh (up G1 a0 1 1) fun G2 => pf a0 2 a3 (bh (up G2 a0 2 1) fun G3 => na n 20 4 (bh (clr G3 n) fun G4 => pf a0 3 n (bh (up G4 a0 3 1) fun G7 => ve (n + 1) (n + 1) G7)))))
set_option maxRecDepth 20000 in
set_option maxHeartbeats 4000000 in
theorem kX0_init (l : Launch) (x : WX) (hi : Inj x.2.2) (had : ∀ c, c ≤ 129 → x.2.2 c = x.2.2 0 + c) (n : Nat) (G : Hp) (a0 : Nat) (a1 : Nat) (a2 : Nat) (a3 : Nat) (ha0 : kd a0 = 0) (ha1 : kd a1 = 8) (ha2 : kd a2 = 6) (ha3 : kd a3 = 1) (hl0 : a0 < n) (hl1 : a1 < n) (hl2 : a2 < n) (hl3 : a3 < n) (hn : n + 1 < 129) : CtC l x yX0_init cX0_init 4 1 n (n + 1) [vR a0, vR a1, vR a2, vR a3] G (iX0_init a0 a1 a2 a3 n G) := by
  refine ctc_of (plainFor_of_name (by decide)) rfl hi had (by omega) (by omega) (Nat.le_of_ble_eq_true rfl) (fun cx F hd hn0 hnE hl hQ hB hI => ?_)
  subst hl
  have F : Fx cx x RX0 cX0_init 4 none := F
  show Y cx x 4 none n 0 [(0, vR a0), (1, vR a1), (2, vR a2), (3, vR a3)] [] G _
  unfold iX0_init
  refine x_aload_n F dX0_init_0 rfl rfl rfl ?_
  refine x_objI F lkX0_3 wd_1_32 wd_1_33 (le_d (d' := 0) hd rfl) (Nat.le_of_ble_eq_true rfl) dX0_init_1 rfl ?_
  refine x_aload_n F dX0_init_4 rfl rfl rfl ?_
  refine x_aload_n F dX0_init_5 rfl rfl rfl ?_
  refine x_putFR F hI ffX0_9 ha0 (by omega) (by omega) rfl rfl dX0_init_6 rfl (fun G1 => ?_)
  refine x_aload_n F dX0_init_9 rfl rfl rfl ?_
  refine x_aload_n F dX0_init_10 rfl rfl rfl ?_
  refine x_putFR F hI ffX0_15 ha0 (by omega) (by omega) rfl rfl dX0_init_11 rfl (fun G2 => ?_)
  refine x_aload_n F dX0_init_14 rfl rfl rfl ?_
  refine x_aload_n F dX0_init_15 rfl rfl rfl ?_
  refine x_putFR F hI ffX0_19 ha0 (by omega) (by omega) rfl rfl dX0_init_16 rfl (fun G3 => ?_)
  refine x_aload_n F dX0_init_19 rfl rfl rfl ?_
  refine x_iconst F dX0_init_20 ⟨by decide, by decide⟩ rfl ?_
  refine x_newaI F hB (by omega) (by omega) (by omega) wd_1_197 dX0_init_21 rfl (fun h5 h6 G4 => ?_)
  refine x_putFR F hI ffX0_23 ha0 (by omega) (by omega) rfl rfl dX0_init_23 rfl (fun G7 => ?_)
  exact x_vretC F hQ hnE dX0_init_26
theorem dX2_init_0 : decode cX2_init 0 = .ok (.aload_n 0, 1) := by decide +kernel
theorem dX2_init_1 : decode cX2_init 1 = .ok (.invokespecial 3, 3) := by decide +kernel
theorem dX2_init_4 : decode cX2_init 4 = .ok (.aload_n 0, 1) := by decide +kernel
theorem dX2_init_5 : decode cX2_init 5 = .ok (.aload_n 1, 1) := by decide +kernel
theorem dX2_init_6 : decode cX2_init 6 = .ok (.putfield 9, 3) := by decide +kernel
theorem dX2_init_9 : decode cX2_init 9 = .ok (.aload_n 0, 1) := by decide +kernel
theorem dX2_init_10 : decode cX2_init 10 = .ok (.aload_n 2, 1) := by decide +kernel
theorem dX2_init_11 : decode cX2_init 11 = .ok (.putfield 15, 3) := by decide +kernel
theorem dX2_init_14 : decode cX2_init 14 = .ok (.aload_n 0, 1) := by decide +kernel
theorem dX2_init_15 : decode cX2_init 15 = .ok (.aload_n 3, 1) := by decide +kernel
theorem dX2_init_16 : decode cX2_init 16 = .ok (.putfield 19, 3) := by decide +kernel
theorem dX2_init_19 : decode cX2_init 19 = .ok (.return_, 1) := by decide +kernel
noncomputable def iX2_init (a0 : Nat) (a1 : Nat) (a2 : Nat) (a3 : Nat) (n : Nat) (G : Hp) : RT := pf a0 0 a1 (bh (up G a0 0 1) fun G1 => pf a0 1 a2 (bh (up G1 a0 1 1) fun G2 => pf a0 2 a3 (bh (up G2 a0 2 1) fun G3 => ve n n G3)))
set_option maxRecDepth 20000 in
set_option maxHeartbeats 4000000 in
theorem kX2_init (l : Launch) (x : WX) (hi : Inj x.2.2) (had : ∀ c, c ≤ 129 → x.2.2 c = x.2.2 0 + c) (n : Nat) (G : Hp) (a0 : Nat) (a1 : Nat) (a2 : Nat) (a3 : Nat) (ha0 : kd a0 = 2) (ha1 : kd a1 = 8) (ha2 : kd a2 = 6) (ha3 : kd a3 = 1) (hl0 : a0 < n) (hl1 : a1 < n) (hl2 : a2 < n) (hl3 : a3 < n) (hn : n + 0 < 129) : CtC l x yX2_init cX2_init 4 1 n n [vR a0, vR a1, vR a2, vR a3] G (iX2_init a0 a1 a2 a3 n G) := by
  refine ctc_of (plainFor_of_name (by decide)) rfl hi had (by omega) (by omega) (Nat.le_of_ble_eq_true rfl) (fun cx F hd hn0 hnE hl hQ hB hI => ?_)
  subst hl
  have F : Fx cx x RX2 cX2_init 4 none := F
  show Y cx x 4 none n 0 [(0, vR a0), (1, vR a1), (2, vR a2), (3, vR a3)] [] G _
  unfold iX2_init
  refine x_aload_n F dX2_init_0 rfl rfl rfl ?_
  refine x_objI F lkX2_3 wd_1_32 wd_1_33 (le_d (d' := 0) hd rfl) (Nat.le_of_ble_eq_true rfl) dX2_init_1 rfl ?_
  refine x_aload_n F dX2_init_4 rfl rfl rfl ?_
  refine x_aload_n F dX2_init_5 rfl rfl rfl ?_
  refine x_putFR F hI ffX2_9 ha0 (by omega) (by omega) rfl rfl dX2_init_6 rfl (fun G1 => ?_)
  refine x_aload_n F dX2_init_9 rfl rfl rfl ?_
  refine x_aload_n F dX2_init_10 rfl rfl rfl ?_
  refine x_putFR F hI ffX2_15 ha0 (by omega) (by omega) rfl rfl dX2_init_11 rfl (fun G2 => ?_)
  refine x_aload_n F dX2_init_14 rfl rfl rfl ?_
  refine x_aload_n F dX2_init_15 rfl rfl rfl ?_
  refine x_putFR F hI ffX2_19 ha0 (by omega) (by omega) rfl rfl dX2_init_16 rfl (fun G3 => ?_)
  exact x_vretC F hQ hnE dX2_init_19
theorem dX9_init_0 : decode cX9_init 0 = .ok (.aload_n 0, 1) := by decide +kernel
theorem dX9_init_1 : decode cX9_init 1 = .ok (.invokespecial 3, 3) := by decide +kernel
theorem dX9_init_4 : decode cX9_init 4 = .ok (.aload_n 0, 1) := by decide +kernel
theorem dX9_init_5 : decode cX9_init 5 = .ok (.aload_n 1, 1) := by decide +kernel
theorem dX9_init_6 : decode cX9_init 6 = .ok (.putfield 9, 3) := by decide +kernel
theorem dX9_init_9 : decode cX9_init 9 = .ok (.aload_n 0, 1) := by decide +kernel
theorem dX9_init_10 : decode cX9_init 10 = .ok (.aload_n 2, 1) := by decide +kernel
theorem dX9_init_11 : decode cX9_init 11 = .ok (.putfield 15, 3) := by decide +kernel
theorem dX9_init_14 : decode cX9_init 14 = .ok (.aload_n 0, 1) := by decide +kernel
theorem dX9_init_15 : decode cX9_init 15 = .ok (.aload_n 3, 1) := by decide +kernel
theorem dX9_init_16 : decode cX9_init 16 = .ok (.putfield 19, 3) := by decide +kernel
theorem dX9_init_19 : decode cX9_init 19 = .ok (.aload_n 0, 1) := by decide +kernel
theorem dX9_init_20 : decode cX9_init 20 = .ok (.aload 4, 2) := by decide +kernel
theorem dX9_init_22 : decode cX9_init 22 = .ok (.putfield 23, 3) := by decide +kernel
theorem dX9_init_25 : decode cX9_init 25 = .ok (.aload_n 0, 1) := by decide +kernel
theorem dX9_init_26 : decode cX9_init 26 = .ok (.new 27, 3) := by decide +kernel
theorem dX9_init_29 : decode cX9_init 29 = .ok (.dup, 1) := by decide +kernel
theorem dX9_init_30 : decode cX9_init 30 = .ok (.invokespecial 29, 3) := by decide +kernel
theorem dX9_init_33 : decode cX9_init 33 = .ok (.putfield 30, 3) := by decide +kernel
theorem dX9_init_36 : decode cX9_init 36 = .ok (.aload_n 0, 1) := by decide +kernel
theorem dX9_init_37 : decode cX9_init 37 = .ok (.new 27, 3) := by decide +kernel
theorem dX9_init_40 : decode cX9_init 40 = .ok (.dup, 1) := by decide +kernel
theorem dX9_init_41 : decode cX9_init 41 = .ok (.invokespecial 29, 3) := by decide +kernel
theorem dX9_init_44 : decode cX9_init 44 = .ok (.putfield 33, 3) := by decide +kernel
theorem dX9_init_47 : decode cX9_init 47 = .ok (.return_, 1) := by decide +kernel
noncomputable def iX9_init (a0 : Nat) (a1 : Nat) (a2 : Nat) (a3 : Nat) (a4 : Nat) (n : Nat) (G : Hp) : RT := pf a0 0 a1 (bh (up G a0 0 1) fun G1 => pf a0 1 a2 (bh (up G1 a0 1 1) fun G2 => pf a0 2 a3 (bh (up G2 a0 2 1) fun G3 => pf a0 3 a4 (bh (up G3 a0 3 1) fun G4 => no n 6 (bh (clr G4 n) fun G5 => bn (iX6_init n (n + 1) G5) fun _ G7 => pf a0 4 n (bh (up G7 a0 4 1) fun G8 => no (n + 2) 6 (bh (clr G8 (n + 2)) fun G9 => bn (iX6_init ((n + 2)) (n + 3) G9) fun _ G11 => pf a0 5 ((n + 2)) (bh (up G11 a0 5 1) fun G12 => ve (n + 4) (n + 4) G12))))))))
set_option maxRecDepth 20000 in
set_option maxHeartbeats 4000000 in
theorem kX9_init (l : Launch) (x : WX) (hi : Inj x.2.2) (had : ∀ c, c ≤ 129 → x.2.2 c = x.2.2 0 + c) (n : Nat) (G : Hp) (a0 : Nat) (a1 : Nat) (a2 : Nat) (a3 : Nat) (a4 : Nat) (ha0 : kd a0 = 9) (ha1 : kd a1 = 8) (ha2 : kd a2 = 6) (ha3 : kd a3 = 0) (ha4 : kd a4 = 2) (hl0 : a0 < n) (hl1 : a1 < n) (hl2 : a2 < n) (hl3 : a3 < n) (hl4 : a4 < n) (hn : n + 4 < 129) : CtC l x yX9_init cX9_init 5 2 n (n + 4) [vR a0, vR a1, vR a2, vR a3, vR a4] G (iX9_init a0 a1 a2 a3 a4 n G) := by
  refine ctc_of (plainFor_of_name (by decide)) rfl hi had (by omega) (by omega) (Nat.le_of_ble_eq_true rfl) (fun cx F hd hn0 hnE hl hQ hB hI => ?_)
  subst hl
  have F : Fx cx x RX9 cX9_init 5 none := F
  show Y cx x 5 none n 0 [(0, vR a0), (1, vR a1), (2, vR a2), (3, vR a3), (4, vR a4)] [] G _
  unfold iX9_init
  refine x_aload_n F dX9_init_0 rfl rfl rfl ?_
  refine x_objI F lkX9_3 wd_1_32 wd_1_33 (le_d (d' := 0) hd rfl) (Nat.le_of_ble_eq_true rfl) dX9_init_1 rfl ?_
  refine x_aload_n F dX9_init_4 rfl rfl rfl ?_
  refine x_aload_n F dX9_init_5 rfl rfl rfl ?_
  refine x_putFR F hI ffX9_9 ha0 (by omega) (by omega) rfl rfl dX9_init_6 rfl (fun G1 => ?_)
  refine x_aload_n F dX9_init_9 rfl rfl rfl ?_
  refine x_aload_n F dX9_init_10 rfl rfl rfl ?_
  refine x_putFR F hI ffX9_15 ha0 (by omega) (by omega) rfl rfl dX9_init_11 rfl (fun G2 => ?_)
  refine x_aload_n F dX9_init_14 rfl rfl rfl ?_
  refine x_aload_n F dX9_init_15 rfl rfl rfl ?_
  refine x_putFR F hI ffX9_19 ha0 (by omega) (by omega) rfl rfl dX9_init_16 rfl (fun G3 => ?_)
  refine x_aload_n F dX9_init_19 rfl rfl rfl ?_
  refine x_aload F dX9_init_20 rfl rfl ?_
  refine x_putFR F hI ffX9_23 ha0 (by omega) (by omega) rfl rfl dX9_init_22 rfl (fun G4 => ?_)
  refine x_aload_n F dX9_init_25 rfl rfl rfl ?_
  refine x_newO F hB nwX9_27 (by omega) (by omega) (by omega) dX9_init_26 rfl (fun h6 G5 => ?_)
  refine x_dup F dX9_init_29 rfl rfl ?_
  refine x_callC (f := fun G7 => _) (as := []) (S := [vR n, vR a0]) F hB lkX9_29 rfl wd_2_10 wd_1_10 mcX6_init (by decide +kernel : yX6_init.cls ≠ "java/lang/invoke/MethodHandle" ∧ yX6_init.cls ≠ "java/lang/invoke/VarHandle" ∧ (parseMethodDescriptor yX6_init.desc).map (fun d => d.parameters.length) = some 0) (by decide) (by omega) (by omega) (by omega) (by omega) (kX6_init cx.l x hi had (n + 1) G5 n h6 (by omega) (by omega)) (le_d hd rfl) (Nat.le_of_ble_eq_true rfl) dX9_init_30 rfl rfl (fun G7 => ?_)
  refine x_putFR F hI ffX9_30 ha0 (by omega) (by omega) rfl rfl dX9_init_33 rfl (fun G8 => ?_)
  refine x_aload_n F dX9_init_36 rfl rfl rfl ?_
  refine x_newO F hB nwX9_27 (by omega) (by omega) (by omega) dX9_init_37 rfl (fun h10 G9 => ?_)
  refine x_dup F dX9_init_40 rfl rfl ?_
  refine x_callC (f := fun G11 => _) (as := []) (S := [vR ((n + 2)), vR a0]) F hB lkX9_29 rfl wd_2_10 wd_1_10 mcX6_init (by decide +kernel : yX6_init.cls ≠ "java/lang/invoke/MethodHandle" ∧ yX6_init.cls ≠ "java/lang/invoke/VarHandle" ∧ (parseMethodDescriptor yX6_init.desc).map (fun d => d.parameters.length) = some 0) (by decide) (by omega) (by omega) (by omega) (by omega) (kX6_init cx.l x hi had (n + 3) G9 ((n + 2)) h10 (by omega) (by omega)) (le_d hd rfl) (Nat.le_of_ble_eq_true rfl) dX9_init_41 rfl rfl (fun G11 => ?_)
  refine x_putFR F hI ffX9_33 ha0 (by omega) (by omega) rfl rfl dX9_init_44 rfl (fun G12 => ?_)
  exact x_vretC F hQ hnE dX9_init_47
theorem dX3_init_0 : decode cX3_init 0 = .ok (.aload_n 0, 1) := by decide +kernel
theorem dX3_init_1 : decode cX3_init 1 = .ok (.invokespecial 3, 3) := by decide +kernel
theorem dX3_init_4 : decode cX3_init 4 = .ok (.aload_n 0, 1) := by decide +kernel
theorem dX3_init_5 : decode cX3_init 5 = .ok (.bipush 17, 2) := by decide +kernel
theorem dX3_init_7 : decode cX3_init 7 = .ok (.anewarray 11, 3) := by decide +kernel
theorem dX3_init_10 : decode cX3_init 10 = .ok (.putfield 13, 3) := by decide +kernel
theorem dX3_init_13 : decode cX3_init 13 = .ok (.iconst 0, 1) := by decide +kernel
theorem dX3_init_14 : decode cX3_init 14 = .ok (.istore_n 1, 1) := by decide +kernel
theorem dX3_init_15 : decode cX3_init 15 = .ok (.iload_n 1, 1) := by decide +kernel
theorem dX3_init_16 : decode cX3_init 16 = .ok (.bipush 17, 2) := by decide +kernel
theorem dX3_init_18 : decode cX3_init 18 = .ok (.if_icmp .ge 22, 3) := by decide +kernel
theorem dX3_init_21 : decode cX3_init 21 = .ok (.aload_n 0, 1) := by decide +kernel
theorem dX3_init_22 : decode cX3_init 22 = .ok (.getfield 13, 3) := by decide +kernel
theorem dX3_init_25 : decode cX3_init 25 = .ok (.iload_n 1, 1) := by decide +kernel
theorem dX3_init_26 : decode cX3_init 26 = .ok (.new 11, 3) := by decide +kernel
theorem dX3_init_29 : decode cX3_init 29 = .ok (.dup, 1) := by decide +kernel
theorem dX3_init_30 : decode cX3_init 30 = .ok (.invokespecial 17, 3) := by decide +kernel
theorem dX3_init_33 : decode cX3_init 33 = .ok (.aastore, 1) := by decide +kernel
theorem dX3_init_34 : decode cX3_init 34 = .ok (.iinc 1 1, 3) := by decide +kernel
theorem dX3_init_37 : decode cX3_init 37 = .ok (.goto (-22), 3) := by decide +kernel
theorem dX3_init_40 : decode cX3_init 40 = .ok (.aload_n 0, 1) := by decide +kernel
theorem dX3_init_41 : decode cX3_init 41 = .ok (.iconst 4, 1) := by decide +kernel
theorem dX3_init_42 : decode cX3_init 42 = .ok (.anewarray 11, 3) := by decide +kernel
theorem dX3_init_45 : decode cX3_init 45 = .ok (.putfield 18, 3) := by decide +kernel
theorem dX3_init_48 : decode cX3_init 48 = .ok (.aload_n 0, 1) := by decide +kernel
theorem dX3_init_49 : decode cX3_init 49 = .ok (.iconst 4, 1) := by decide +kernel
theorem dX3_init_50 : decode cX3_init 50 = .ok (.anewarray 21, 3) := by decide +kernel
theorem dX3_init_53 : decode cX3_init 53 = .ok (.putfield 23, 3) := by decide +kernel
theorem dX3_init_56 : decode cX3_init 56 = .ok (.aload_n 0, 1) := by decide +kernel
theorem dX3_init_57 : decode cX3_init 57 = .ok (.iconst 4, 1) := by decide +kernel
theorem dX3_init_58 : decode cX3_init 58 = .ok (.newarray .boolean, 2) := by decide +kernel
theorem dX3_init_60 : decode cX3_init 60 = .ok (.putfield 27, 3) := by decide +kernel
theorem dX3_init_63 : decode cX3_init 63 = .ok (.iconst 0, 1) := by decide +kernel
theorem dX3_init_64 : decode cX3_init 64 = .ok (.istore_n 1, 1) := by decide +kernel
theorem dX3_init_65 : decode cX3_init 65 = .ok (.iload_n 1, 1) := by decide +kernel
theorem dX3_init_66 : decode cX3_init 66 = .ok (.iconst 4, 1) := by decide +kernel
theorem dX3_init_67 : decode cX3_init 67 = .ok (.if_icmp .ge 35, 3) := by decide +kernel
theorem dX3_init_70 : decode cX3_init 70 = .ok (.aload_n 0, 1) := by decide +kernel
theorem dX3_init_71 : decode cX3_init 71 = .ok (.getfield 18, 3) := by decide +kernel
theorem dX3_init_74 : decode cX3_init 74 = .ok (.iload_n 1, 1) := by decide +kernel
theorem dX3_init_75 : decode cX3_init 75 = .ok (.new 11, 3) := by decide +kernel
theorem dX3_init_78 : decode cX3_init 78 = .ok (.dup, 1) := by decide +kernel
theorem dX3_init_79 : decode cX3_init 79 = .ok (.invokespecial 17, 3) := by decide +kernel
theorem dX3_init_82 : decode cX3_init 82 = .ok (.aastore, 1) := by decide +kernel
theorem dX3_init_83 : decode cX3_init 83 = .ok (.aload_n 0, 1) := by decide +kernel
theorem dX3_init_84 : decode cX3_init 84 = .ok (.getfield 23, 3) := by decide +kernel
theorem dX3_init_87 : decode cX3_init 87 = .ok (.iload_n 1, 1) := by decide +kernel
theorem dX3_init_88 : decode cX3_init 88 = .ok (.new 21, 3) := by decide +kernel
theorem dX3_init_91 : decode cX3_init 91 = .ok (.dup, 1) := by decide +kernel
theorem dX3_init_92 : decode cX3_init 92 = .ok (.invokespecial 31, 3) := by decide +kernel
theorem dX3_init_95 : decode cX3_init 95 = .ok (.aastore, 1) := by decide +kernel
theorem dX3_init_96 : decode cX3_init 96 = .ok (.iinc 1 1, 3) := by decide +kernel
theorem dX3_init_99 : decode cX3_init 99 = .ok (.goto (-34), 3) := by decide +kernel
theorem dX3_init_102 : decode cX3_init 102 = .ok (.return_, 1) := by decide +kernel
noncomputable def iX3_init (a0 : Nat) (n : Nat) (G : Hp) : RT := na n 24 17 (bh (clr G n) fun G1 => pf a0 0 n (bh (up G1 a0 0 1) fun G4 => bd 0 fun v5 => (lp (fun (_ : Int) (_ : Hp) (_ : Nat) => (none : RT)) 5000 (fun (rc9 : Int → Hp → Nat → RT) (v6 : Int) (G7 : Hp) (n8 : Nat) => if n ≤ n8 ∧ n8 ≤ (n + 66) then (if v6 < 17 then (gr G7 a0 0 (if n ≤ n8 ∧ n8 + 2 ≤ (n + 66) then (no n8 6 (bh (clr G7 n8) fun G44 => bn (iX6_init n8 (n8 + 1) G44) fun _ G46 => if (rf a0 0) < (n8 + 2) then (aa ((rf a0 0)) 17 v6 n8 (bh (up G46 ((rf a0 0)) (v6).toNat 1) fun G47 => bd (iadd v6 1) fun v48 => rc9 v48 G47 (n8 + 2))) else none)) else none)) else (if n ≤ n8 ∧ n8 + 1 ≤ (n + 66) then (na n8 24 4 (bh (clr G7 n8) fun G10 => pf a0 1 n8 (bh (up G10 a0 1 1) fun G13 => if n ≤ (n8 + 1) ∧ (n8 + 1) + 1 ≤ (n + 66) then (na (n8 + 1) 25 4 (bh (clr G13 (n8 + 1)) fun G14 => pf a0 2 ((n8 + 1)) (bh (up G14 a0 2 1) fun G17 => if n ≤ (n8 + 2) ∧ (n8 + 2) + 1 ≤ (n + 66) then (na (n8 + 2) 23 4 (bh (clr G17 (n8 + 2)) fun G18 => pf a0 3 ((n8 + 2)) (bh (up G18 a0 3 1) fun G21 => bd 0 fun v22 => (lp (fun (_ : Int) (_ : Hp) (_ : Nat) => (none : RT)) 5000 (fun (rc26 : Int → Hp → Nat → RT) (v23 : Int) (G24 : Hp) (n25 : Nat) => if n ≤ n25 ∧ n25 ≤ (n + 66) then (if v23 < 4 then (gr G24 a0 1 (if n ≤ n25 ∧ n25 + 2 ≤ (n + 66) then (no n25 6 (bh (clr G24 n25) fun G27 => bn (iX6_init n25 (n25 + 1) G27) fun _ G29 => if (rf a0 1) < (n25 + 2) then (aa ((rf a0 1)) 4 v23 n25 (bh (up G29 ((rf a0 1)) (v23).toNat 1) fun G30 => gr G30 a0 2 (if n ≤ (n25 + 2) ∧ (n25 + 2) + 5 ≤ (n + 66) then (no (n25 + 2) 5 (bh (clr G30 (n25 + 2)) fun G31 => bn (iX5_init ((n25 + 2)) (n25 + 3) G31) fun _ G33 => if (rf a0 2) < (n25 + 7) then (aa ((rf a0 2)) 4 v23 ((n25 + 2)) (bh (up G33 ((rf a0 2)) (v23).toNat 1) fun G34 => bd (iadd v23 1) fun v35 => rc26 v35 G34 (n25 + 7))) else none)) else none))) else none)) else none)) else (ve n25 (n + 66) G24)) else none)) v22 G21 (n8 + 3)))) else none))) else none))) else none)) else none)) v5 G4 (n + 1)))
set_option maxRecDepth 20000 in
set_option maxHeartbeats 4000000 in
theorem kX3_init (l : Launch) (x : WX) (hi : Inj x.2.2) (had : ∀ c, c ≤ 129 → x.2.2 c = x.2.2 0 + c) (n : Nat) (G : Hp) (a0 : Nat) (ha0 : kd a0 = 3) (hl0 : a0 < n) (hn : n + 66 < 129) : CtC l x yX3_init cX3_init 2 2 n (n + 66) [vR a0] G (iX3_init a0 n G) := by
  refine ctc_of (plainFor_of_name (by decide)) rfl hi had (by omega) (by omega) (Nat.le_of_ble_eq_true rfl) (fun cx F hd hn0 hnE hl hQ hB hI => ?_)
  subst hl
  have F : Fx cx x RX3 cX3_init 2 none := F
  show Y cx x 2 none n 0 [(0, vR a0)] [] G _
  unfold iX3_init
  refine x_aload_n F dX3_init_0 rfl rfl rfl ?_
  refine x_objI F lkX3_3 wd_1_32 wd_1_33 (le_d (d' := 0) hd rfl) (Nat.le_of_ble_eq_true rfl) dX3_init_1 rfl ?_
  refine x_aload_n F dX3_init_4 rfl rfl rfl ?_
  refine x_bipush F dX3_init_5 ⟨by decide, by decide⟩ (by decide) rfl ?_
  refine x_anewS F hB wd_2_147 (by omega) (by omega) (by omega) dX3_init_7 rfl (fun h2 h3 G1 => ?_)
  refine x_putFR F hI ffX3_13 ha0 (by omega) (by omega) rfl rfl dX3_init_10 rfl (fun G4 => ?_)
  refine x_iconst F dX3_init_13 ⟨by decide, by decide⟩ rfl ?_
  refine x_istore_n F dX3_init_14 rfl (by decide) rfl rfl (fun v5 => ?_)
  show Y cx x _ _ _ _ [(0, vR a0), (1, vI v5)] _ _ _
  refine x_lp (fun (rc9 : Int → Hp → Nat → RT) => ∀ (v6 : Int) (G7 : Hp) (n8 : Nat), Y cx x 2 none n8 15 [(0, vR a0), (1, vI v6)] [] G7 (rc9 v6 G7 n8)) (fun _ _ _ => Y_none) (fun rc9 hrc9 v6 G7 n8 => ?_) 5000 v5 G4 (n + 1)
  refine x_ite (fun h51 => ?_) (fun _ => Y_none)
  refine x_iload_n F dX3_init_15 rfl rfl rfl ?_
  refine x_bipush F dX3_init_16 ⟨by decide, by decide⟩ (by decide) rfl ?_
  refine x_icmpge (pt := 40) F dX3_init_18 rfl rfl ?_ ?_
  · refine x_aload_n F dX3_init_21 rfl rfl rfl ?_
    refine x_getRc F flX3_13 ha0 (by omega) (by omega) rfl dX3_init_22 rfl ?_
    refine x_iload_n F dX3_init_25 rfl rfl rfl ?_
    refine x_ite (fun h50 => ?_) (fun _ => Y_none)
    refine x_newO F hB nwX3_11 (by omega) (by omega) (by omega) dX3_init_26 rfl (fun h45 G44 => ?_)
    refine x_dup F dX3_init_29 rfl rfl ?_
    refine x_callC (f := fun G46 => _) (as := []) (S := [vR n8, vI v6, vR ((rf a0 0))]) F hB lkX3_17 rfl wd_2_10 wd_1_10 mcX6_init (by decide +kernel : yX6_init.cls ≠ "java/lang/invoke/MethodHandle" ∧ yX6_init.cls ≠ "java/lang/invoke/VarHandle" ∧ (parseMethodDescriptor yX6_init.desc).map (fun d => d.parameters.length) = some 0) (by decide) (by omega) (by omega) (by omega) (by omega) (kX6_init cx.l x hi had (n8 + 1) G44 n8 h45 (by omega) (by omega)) (le_d hd rfl) (Nat.le_of_ble_eq_true rfl) dX3_init_30 rfl rfl (fun G46 => ?_)
    refine x_ite (fun h49 => ?_) (fun _ => Y_none)
    refine x_aastS F (tf3_0 ha0).1 (tf3_0 ha0).2 h45 (by omega) (by omega) (by omega) dX3_init_33 rfl (fun G47 => ?_)
    refine x_iinc F dX3_init_34 rfl (by decide) rfl rfl (fun v48 => ?_)
    show Y cx x _ _ _ _ [(0, vR a0), (1, vI v48)] _ _ _
    refine x_goto (pc' := 15) F dX3_init_37 rfl ?_
    exact hrc9 v48 G47 (n8 + 2)
  · refine x_aload_n F dX3_init_40 rfl rfl rfl ?_
    refine x_iconst F dX3_init_41 ⟨by decide, by decide⟩ rfl ?_
    refine x_ite (fun h43 => ?_) (fun _ => Y_none)
    refine x_anewS F hB wd_2_147 (by omega) (by omega) (by omega) dX3_init_42 rfl (fun h11 h12 G10 => ?_)
    refine x_putFR F hI ffX3_18 ha0 (by omega) (by omega) rfl rfl dX3_init_45 rfl (fun G13 => ?_)
    refine x_aload_n F dX3_init_48 rfl rfl rfl ?_
    refine x_iconst F dX3_init_49 ⟨by decide, by decide⟩ rfl ?_
    refine x_ite (fun h42 => ?_) (fun _ => Y_none)
    refine x_anewN F hB wd_2_150 (by omega) (by omega) (by omega) dX3_init_50 rfl (fun h15 h16 G14 => ?_)
    refine x_putFR F hI ffX3_23 ha0 (by omega) (by omega) rfl rfl dX3_init_53 rfl (fun G17 => ?_)
    refine x_aload_n F dX3_init_56 rfl rfl rfl ?_
    refine x_iconst F dX3_init_57 ⟨by decide, by decide⟩ rfl ?_
    refine x_ite (fun h41 => ?_) (fun _ => Y_none)
    refine x_newaZ F hB (by omega) (by omega) (by omega) wd_2_140 dX3_init_58 rfl (fun h19 h20 G18 => ?_)
    refine x_putFR F hI ffX3_27 ha0 (by omega) (by omega) rfl rfl dX3_init_60 rfl (fun G21 => ?_)
    refine x_iconst F dX3_init_63 ⟨by decide, by decide⟩ rfl ?_
    refine x_istore_n F dX3_init_64 rfl (by decide) rfl rfl (fun v22 => ?_)
    show Y cx x _ _ _ _ [(0, vR a0), (1, vI v22)] _ _ _
    refine x_lp (fun (rc26 : Int → Hp → Nat → RT) => ∀ (v23 : Int) (G24 : Hp) (n25 : Nat), Y cx x 2 none n25 65 [(0, vR a0), (1, vI v23)] [] G24 (rc26 v23 G24 n25)) (fun _ _ _ => Y_none) (fun rc26 hrc26 v23 G24 n25 => ?_) 5000 v22 G21 (n8 + 3)
    refine x_ite (fun h40 => ?_) (fun _ => Y_none)
    refine x_iload_n F dX3_init_65 rfl rfl rfl ?_
    refine x_iconst F dX3_init_66 ⟨by decide, by decide⟩ rfl ?_
    refine x_icmpge (pt := 102) F dX3_init_67 rfl rfl ?_ ?_
    · refine x_aload_n F dX3_init_70 rfl rfl rfl ?_
      refine x_getRc F flX3_18 ha0 (by omega) (by omega) rfl dX3_init_71 rfl ?_
      refine x_iload_n F dX3_init_74 rfl rfl rfl ?_
      refine x_ite (fun h39 => ?_) (fun _ => Y_none)
      refine x_newO F hB nwX3_11 (by omega) (by omega) (by omega) dX3_init_75 rfl (fun h28 G27 => ?_)
      refine x_dup F dX3_init_78 rfl rfl ?_
      refine x_callC (f := fun G29 => _) (as := []) (S := [vR n25, vI v23, vR ((rf a0 1))]) F hB lkX3_17 rfl wd_2_10 wd_1_10 mcX6_init (by decide +kernel : yX6_init.cls ≠ "java/lang/invoke/MethodHandle" ∧ yX6_init.cls ≠ "java/lang/invoke/VarHandle" ∧ (parseMethodDescriptor yX6_init.desc).map (fun d => d.parameters.length) = some 0) (by decide) (by omega) (by omega) (by omega) (by omega) (kX6_init cx.l x hi had (n25 + 1) G27 n25 h28 (by omega) (by omega)) (le_d hd rfl) (Nat.le_of_ble_eq_true rfl) dX3_init_79 rfl rfl (fun G29 => ?_)
      refine x_ite (fun h38 => ?_) (fun _ => Y_none)
      refine x_aastS F (tf3_1 ha0).1 (tf3_1 ha0).2 h28 (by omega) (by omega) (by omega) dX3_init_82 rfl (fun G30 => ?_)
      refine x_aload_n F dX3_init_83 rfl rfl rfl ?_
      refine x_getRc F flX3_23 ha0 (by omega) (by omega) rfl dX3_init_84 rfl ?_
      refine x_iload_n F dX3_init_87 rfl rfl rfl ?_
      refine x_ite (fun h37 => ?_) (fun _ => Y_none)
      refine x_newO F hB nwX3_21 (by omega) (by omega) (by omega) dX3_init_88 rfl (fun h32 G31 => ?_)
      refine x_dup F dX3_init_91 rfl rfl ?_
      refine x_callC (f := fun G33 => _) (as := []) (S := [vR ((n25 + 2)), vI v23, vR ((rf a0 2))]) F hB lkX3_31 rfl wd_2_120 wd_1_15 mcX5_init (by decide +kernel : yX5_init.cls ≠ "java/lang/invoke/MethodHandle" ∧ yX5_init.cls ≠ "java/lang/invoke/VarHandle" ∧ (parseMethodDescriptor yX5_init.desc).map (fun d => d.parameters.length) = some 0) (by decide) (by omega) (by omega) (by omega) (by omega) (kX5_init cx.l x hi had (n25 + 3) G31 ((n25 + 2)) h32 (by omega) (by omega)) (le_d hd rfl) (Nat.le_of_ble_eq_true rfl) dX3_init_92 rfl rfl (fun G33 => ?_)
      refine x_ite (fun h36 => ?_) (fun _ => Y_none)
      refine x_aastN F (tf3_2 ha0).1 (tf3_2 ha0).2 h32 (by omega) (by omega) (by omega) dX3_init_95 rfl (fun G34 => ?_)
      refine x_iinc F dX3_init_96 rfl (by decide) rfl rfl (fun v35 => ?_)
      show Y cx x _ _ _ _ [(0, vR a0), (1, vI v35)] _ _ _
      refine x_goto (pc' := 65) F dX3_init_99 rfl ?_
      exact hrc26 v35 G34 (n25 + 7)
    · exact x_vretC F hQ hnE dX3_init_102
