theorem uw_X0 : ∀ w ∈ u_ws RX0 TX0 5, w ∈ zTB := by
  intro w hw
  obtain ⟨k, hk, rfl⟩ := List.mem_map.mp hw
  have hk := List.mem_range.mp hk
  match k, hk with
  | 0, _ => exact zw_154
  | 1, _ => exact zw_156
  | 2, _ => exact zw_158
  | 3, _ => exact zw_160
  | 4, _ => exact zw_162
  | n + 5, h => omega
theorem uw_X1 : ∀ w ∈ u_ws RX1 TX1 0, w ∈ zTB := by
  intro w hw
  obtain ⟨k, hk, rfl⟩ := List.mem_map.mp hw
  have hk := List.mem_range.mp hk
  omega
theorem uw_X2 : ∀ w ∈ u_ws RX2 TX2 13, w ∈ zTB := by
  intro w hw
  obtain ⟨k, hk, rfl⟩ := List.mem_map.mp hw
  have hk := List.mem_range.mp hk
  match k, hk with
  | 0, _ => exact zw_97
  | 1, _ => exact zw_99
  | 2, _ => exact zw_101
  | 3, _ => exact zw_103
  | 4, _ => exact zw_105
  | 5, _ => exact zw_107
  | 6, _ => exact zw_109
  | 7, _ => exact zw_111
  | 8, _ => exact zw_113
  | 9, _ => exact zw_115
  | 10, _ => exact zw_117
  | 11, _ => exact zw_119
  | 12, _ => exact zw_121
  | n + 13, h => omega
theorem uw_X3 : ∀ w ∈ u_ws RX3 TX3 0, w ∈ zTB := by
  intro w hw
  obtain ⟨k, hk, rfl⟩ := List.mem_map.mp hw
  have hk := List.mem_range.mp hk
  omega
theorem uw_X4 : ∀ w ∈ u_ws RX4 TX4 3, w ∈ zTB := by
  intro w hw
  obtain ⟨k, hk, rfl⟩ := List.mem_map.mp hw
  have hk := List.mem_range.mp hk
  match k, hk with
  | 0, _ => exact zw_133
  | 1, _ => exact zw_135
  | 2, _ => exact zw_137
  | n + 3, h => omega
theorem uw_X6 : ∀ w ∈ u_ws RX6 TX6 0, w ∈ zTB := by
  intro w hw
  obtain ⟨k, hk, rfl⟩ := List.mem_map.mp hw
  have hk := List.mem_range.mp hk
  omega
theorem uw_X7 : ∀ w ∈ u_ws RX7 TX7 3, w ∈ zTB := by
  intro w hw
  obtain ⟨k, hk, rfl⟩ := List.mem_map.mp hw
  have hk := List.mem_range.mp hk
  match k, hk with
  | 0, _ => exact zw_33
  | 1, _ => exact zw_35
  | 2, _ => exact zw_37
  | n + 3, h => omega
theorem uw_X8 : ∀ w ∈ u_ws RX8 TX8 0, w ∈ zTB := by
  intro w hw
  obtain ⟨k, hk, rfl⟩ := List.mem_map.mp hw
  have hk := List.mem_range.mp hk
  omega
theorem uw_X9 : ∀ w ∈ u_ws RX9 TX9 5, w ∈ zTB := by
  intro w hw
  obtain ⟨k, hk, rfl⟩ := List.mem_map.mp hw
  have hk := List.mem_range.mp hk
  match k, hk with
  | 0, _ => exact zw_52
  | 1, _ => exact zw_54
  | 2, _ => exact zw_56
  | 3, _ => exact zw_58
  | 4, _ => exact zw_60
  | n + 5, h => omega
theorem uw_X10 : ∀ w ∈ u_ws RX10 TX10 0, w ∈ zTB := by
  intro w hw
  obtain ⟨k, hk, rfl⟩ := List.mem_map.mp hw
  have hk := List.mem_range.mp hk
  omega
theorem uw_X11 : ∀ w ∈ u_ws RX11 TX11 18, w ∈ zTB := by
  intro w hw
  obtain ⟨k, hk, rfl⟩ := List.mem_map.mp hw
  have hk := List.mem_range.mp hk
  match k, hk with
  | 0, _ => exact zw_221
  | 1, _ => exact zw_223
  | 2, _ => exact zw_225
  | 3, _ => exact zw_227
  | 4, _ => exact zw_229
  | 5, _ => exact zw_231
  | 6, _ => exact zw_233
  | 7, _ => exact zw_235
  | 8, _ => exact zw_237
  | 9, _ => exact zw_239
  | 10, _ => exact zw_241
  | 11, _ => exact zw_243
  | 12, _ => exact zw_245
  | 13, _ => exact zw_247
  | 14, _ => exact zw_249
  | 15, _ => exact zw_251
  | 16, _ => exact zw_253
  | 17, _ => exact zw_255
  | n + 18, h => omega
theorem uw_X12 : ∀ w ∈ u_ws RX12 TX12 26, w ∈ zTB := by
  intro w hw
  obtain ⟨k, hk, rfl⟩ := List.mem_map.mp hw
  have hk := List.mem_range.mp hk
  match k, hk with
  | 0, _ => exact zw_796
  | 1, _ => exact zw_798
  | 2, _ => exact zw_800
  | 3, _ => exact zw_802
  | 4, _ => exact zw_804
  | 5, _ => exact zw_806
  | 6, _ => exact zw_808
  | 7, _ => exact zw_810
  | 8, _ => exact zw_812
  | 9, _ => exact zw_814
  | 10, _ => exact zw_816
  | 11, _ => exact zw_818
  | 12, _ => exact zw_820
  | 13, _ => exact zw_822
  | 14, _ => exact zw_824
  | 15, _ => exact zw_826
  | 16, _ => exact zw_828
  | 17, _ => exact zw_830
  | 18, _ => exact zw_832
  | 19, _ => exact zw_834
  | 20, _ => exact zw_836
  | 21, _ => exact zw_838
  | 22, _ => exact zw_840
  | 23, _ => exact zw_842
  | 24, _ => exact zw_844
  | 25, _ => exact zw_846
  | n + 26, h => omega
theorem fl_X11_12 : zFL RX11 12 10 0 := ⟨RX11, TX11, 18, rfl, by decide, zw_203, uw_X11⟩
theorem fp_X11_12 : zFP RX11 12 10 0 (.object "PierYears$Rows") true := ⟨RX11, TX11, 18, tyX11, rfl, by decide, zw_203, uw_X11, tyX11_ok, nmX11, rfl, by decide +kernel, fun _ => rfl⟩
theorem fl_X11_19 : zFL RX11 19 10 1 := ⟨RX11, TX11, 18, rfl, by decide, zw_204, uw_X11⟩
theorem fp_X11_19 : zFP RX11 19 10 1 (.object "PierYears$Tape") true := ⟨RX11, TX11, 18, tyX11, rfl, by decide, zw_204, uw_X11, tyX11_ok, nmX11, rfl, by decide +kernel, fun _ => rfl⟩
theorem fl_X11_26 : zFL RX11 26 10 2 := ⟨RX11, TX11, 18, rfl, by decide, zw_205, uw_X11⟩
theorem fp_X11_26 : zFP RX11 26 10 2 (.object "PierYears$Coast") true := ⟨RX11, TX11, 18, tyX11, rfl, by decide, zw_205, uw_X11, tyX11_ok, nmX11, rfl, by decide +kernel, fun _ => rfl⟩
theorem fl_X11_30 : zFL RX11 30 10 3 := ⟨RX11, TX11, 18, rfl, by decide, zw_206, uw_X11⟩
theorem fp_X11_30 : zFP RX11 30 10 3 (.object "PierYears$Coast") true := ⟨RX11, TX11, 18, tyX11, rfl, by decide, zw_206, uw_X11, tyX11_ok, nmX11, rfl, by decide +kernel, fun _ => rfl⟩
theorem fl_X11_33 : zFL RX11 33 10 4 := ⟨RX11, TX11, 18, rfl, by decide, zw_207, uw_X11⟩
theorem fp_X11_33 : zFP RX11 33 10 4 (.object "PierYears$Coast") true := ⟨RX11, TX11, 18, tyX11, rfl, by decide, zw_207, uw_X11, tyX11_ok, nmX11, rfl, by decide +kernel, fun _ => rfl⟩
theorem fl_X11_36 : zFL RX11 36 10 5 := ⟨RX11, TX11, 18, rfl, by decide, zw_208, uw_X11⟩
theorem fp_X11_36 : zFP RX11 36 10 5 (.object "PierYears$Coast") true := ⟨RX11, TX11, 18, tyX11, rfl, by decide, zw_208, uw_X11, tyX11_ok, nmX11, rfl, by decide +kernel, fun _ => rfl⟩
theorem fl_X11_42 : zFL RX11 42 10 6 := ⟨RX11, TX11, 18, rfl, by decide, zw_209, uw_X11⟩
theorem fp_X11_42 : zFP RX11 42 10 6 (.object "PierYears$Past") true := ⟨RX11, TX11, 18, tyX11, rfl, by decide, zw_209, uw_X11, tyX11_ok, nmX11, rfl, by decide +kernel, fun _ => rfl⟩
theorem fl_X11_49 : zFL RX11 49 10 7 := ⟨RX11, TX11, 18, rfl, by decide, zw_210, uw_X11⟩
theorem fp_X11_49 : zFP RX11 49 10 7 (.object "PierYears$Asking") true := ⟨RX11, TX11, 18, tyX11, rfl, by decide, zw_210, uw_X11, tyX11_ok, nmX11, rfl, by decide +kernel, fun _ => rfl⟩
theorem fl_X11_56 : zFL RX11 56 10 8 := ⟨RX11, TX11, 18, rfl, by decide, zw_211, uw_X11⟩
theorem fp_X11_56 : zFP RX11 56 10 8 (.object "PierYears$Irons") true := ⟨RX11, TX11, 18, tyX11, rfl, by decide, zw_211, uw_X11, tyX11_ok, nmX11, rfl, by decide +kernel, fun _ => rfl⟩
theorem fl_X11_63 : zFL RX11 63 10 9 := ⟨RX11, TX11, 18, rfl, by decide, zw_212, uw_X11⟩
theorem fp_X11_63 : zFP RX11 63 10 9 (.object "PierYears$Cast") true := ⟨RX11, TX11, 18, tyX11, rfl, by decide, zw_212, uw_X11, tyX11_ok, nmX11, rfl, by decide +kernel, fun _ => rfl⟩
theorem fl_X11_70 : zFL RX11 70 10 10 := ⟨RX11, TX11, 18, rfl, by decide, zw_213, uw_X11⟩
theorem fp_X11_70 : zFP RX11 70 10 10 (.object "PierYears$Rusty") true := ⟨RX11, TX11, 18, tyX11, rfl, by decide, zw_213, uw_X11, tyX11_ok, nmX11, rfl, by decide +kernel, fun _ => rfl⟩
theorem fl_X11_77 : zFL RX11 77 10 11 := ⟨RX11, TX11, 18, rfl, by decide, zw_214, uw_X11⟩
theorem fp_X11_77 : zFP RX11 77 10 11 (.object "PierYears$Wooden") true := ⟨RX11, TX11, 18, tyX11, rfl, by decide, zw_214, uw_X11, tyX11_ok, nmX11, rfl, by decide +kernel, fun _ => rfl⟩
theorem fl_X11_84 : zFL RX11 84 10 12 := ⟨RX11, TX11, 18, rfl, by decide, zw_215, uw_X11⟩
theorem fp_X11_84 : zFP RX11 84 10 12 (.object "PierYears$Piled") true := ⟨RX11, TX11, 18, tyX11, rfl, by decide, zw_215, uw_X11, tyX11_ok, nmX11, rfl, by decide +kernel, fun _ => rfl⟩
theorem fl_X11_88 : zFL RX11 88 10 13 := ⟨RX11, TX11, 18, rfl, by decide, zw_216, uw_X11⟩
theorem fp_X11_88 : zFP RX11 88 10 13 (.array .int) true := ⟨RX11, TX11, 18, tyX11, rfl, by decide, zw_216, uw_X11, tyX11_ok, nmX11, rfl, by decide +kernel, fun _ => rfl⟩
theorem fl_X11_92 : zFL RX11 92 10 14 := ⟨RX11, TX11, 18, rfl, by decide, zw_217, uw_X11⟩
theorem fp_X11_92 : zFP RX11 92 10 14 (.array .int) true := ⟨RX11, TX11, 18, tyX11, rfl, by decide, zw_217, uw_X11, tyX11_ok, nmX11, rfl, by decide +kernel, fun _ => rfl⟩
theorem fl_X11_95 : zFL RX11 95 10 15 := ⟨RX11, TX11, 18, rfl, by decide, zw_218, uw_X11⟩
theorem fp_X11_95 : zFP RX11 95 10 15 (.array .int) true := ⟨RX11, TX11, 18, tyX11, rfl, by decide, zw_218, uw_X11, tyX11_ok, nmX11, rfl, by decide +kernel, fun _ => rfl⟩
theorem fl_X11_98 : zFL RX11 98 10 16 := ⟨RX11, TX11, 18, rfl, by decide, zw_219, uw_X11⟩
theorem fp_X11_98 : zFP RX11 98 10 16 .int false := ⟨RX11, TX11, 18, tyX11, rfl, by decide, zw_219, uw_X11, tyX11_ok, nmX11, rfl, by decide +kernel, fun h => by cases h⟩
theorem fl_X11_102 : zFL RX11 102 10 17 := ⟨RX11, TX11, 18, rfl, by decide, zw_220, uw_X11⟩
theorem fp_X11_102 : zFP RX11 102 10 17 .int false := ⟨RX11, TX11, 18, tyX11, rfl, by decide, zw_220, uw_X11, tyX11_ok, nmX11, rfl, by decide +kernel, fun h => by cases h⟩
theorem fl_X11_173 : zFL RX11 173 2 5 := ⟨RX2, TX2, 13, rfl, by decide, zw_83, uw_X2⟩
theorem fl_X11_176 : zFL RX11 176 2 4 := ⟨RX2, TX2, 13, rfl, by decide, zw_80, uw_X2⟩
theorem fl_X11_181 : zFL RX11 181 2 6 := ⟨RX2, TX2, 13, rfl, by decide, zw_86, uw_X2⟩
theorem fl_X11_194 : zFL RX11 194 2 7 := ⟨RX2, TX2, 13, rfl, by decide, zw_89, uw_X2⟩
theorem fp_X11_194 : zFP RX11 194 2 7 .int false := ⟨RX2, TX2, 13, tyX2, rfl, by decide, zw_89, uw_X2, tyX2_ok, nmX2, rfl, by decide +kernel, fun h => by cases h⟩
theorem fl_X11_200 : zFL RX11 200 2 8 := ⟨RX2, TX2, 13, rfl, by decide, zw_92, uw_X2⟩
theorem fp_X11_200 : zFP RX11 200 2 8 .int false := ⟨RX2, TX2, 13, tyX2, rfl, by decide, zw_92, uw_X2, tyX2_ok, nmX2, rfl, by decide +kernel, fun h => by cases h⟩
theorem fl_X11_203 : zFL RX11 203 2 3 := ⟨RX2, TX2, 13, rfl, by decide, zw_78, uw_X2⟩
theorem fl_X11_209 : zFL RX11 209 2 2 := ⟨RX2, TX2, 13, rfl, by decide, zw_75, uw_X2⟩
theorem fl_X11_218 : zFL RX11 218 2 1 := ⟨RX2, TX2, 13, rfl, by decide, zw_72, uw_X2⟩
theorem fl_X11_315 : zFL RX11 315 2 0 := ⟨RX2, TX2, 13, rfl, by decide, zw_70, uw_X2⟩
theorem fl_X0_11 : zFL RX0 11 0 0 := ⟨RX0, TX0, 5, rfl, by decide, zw_146, uw_X0⟩
theorem fp_X0_11 : zFP RX0 11 0 0 (.array .int) true := ⟨RX0, TX0, 5, tyX0, rfl, by decide, zw_146, uw_X0, tyX0_ok, nmX0, rfl, by decide +kernel, fun _ => rfl⟩
theorem fl_X0_15 : zFL RX0 15 0 1 := ⟨RX0, TX0, 5, rfl, by decide, zw_147, uw_X0⟩
theorem fp_X0_15 : zFP RX0 15 0 1 .int false := ⟨RX0, TX0, 5, tyX0, rfl, by decide, zw_147, uw_X0, tyX0_ok, nmX0, rfl, by decide +kernel, fun h => by cases h⟩
theorem fp_X0_19 : zFP RX0 19 0 2 .int false := ⟨RX0, TX0, 5, tyX0, rfl, by decide, zw_148, uw_X0, tyX0_ok, nmX0, rfl, by decide +kernel, fun h => by cases h⟩
theorem fp_X0_22 : zFP RX0 22 0 3 .int false := ⟨RX0, TX0, 5, tyX0, rfl, by decide, zw_150, uw_X0, tyX0_ok, nmX0, rfl, by decide +kernel, fun h => by cases h⟩
theorem fp_X0_25 : zFP RX0 25 0 4 .int false := ⟨RX0, TX0, 5, tyX0, rfl, by decide, zw_152, uw_X0, tyX0_ok, nmX0, rfl, by decide +kernel, fun h => by cases h⟩
theorem fl_X2_9 : zFL RX2 9 2 0 := ⟨RX2, TX2, 13, rfl, by decide, zw_69, uw_X2⟩
theorem fp_X2_9 : zFP RX2 9 2 0 (.array .int) true := ⟨RX2, TX2, 13, tyX2, rfl, by decide, zw_69, uw_X2, tyX2_ok, nmX2, rfl, by decide +kernel, fun _ => rfl⟩
theorem fl_X2_13 : zFL RX2 13 2 1 := ⟨RX2, TX2, 13, rfl, by decide, zw_71, uw_X2⟩
theorem fp_X2_13 : zFP RX2 13 2 1 (.array .int) true := ⟨RX2, TX2, 13, tyX2, rfl, by decide, zw_71, uw_X2, tyX2_ok, nmX2, rfl, by decide +kernel, fun _ => rfl⟩
theorem fl_X2_16 : zFL RX2 16 2 2 := ⟨RX2, TX2, 13, rfl, by decide, zw_73, uw_X2⟩
theorem fp_X2_16 : zFP RX2 16 2 2 (.array .int) true := ⟨RX2, TX2, 13, tyX2, rfl, by decide, zw_73, uw_X2, tyX2_ok, nmX2, rfl, by decide +kernel, fun _ => rfl⟩
theorem fl_X2_19 : zFL RX2 19 2 3 := ⟨RX2, TX2, 13, rfl, by decide, zw_76, uw_X2⟩
theorem fp_X2_19 : zFP RX2 19 2 3 (.array .int) true := ⟨RX2, TX2, 13, tyX2, rfl, by decide, zw_76, uw_X2, tyX2_ok, nmX2, rfl, by decide +kernel, fun _ => rfl⟩
theorem fl_X2_22 : zFL RX2 22 2 4 := ⟨RX2, TX2, 13, rfl, by decide, zw_79, uw_X2⟩
theorem fp_X2_22 : zFP RX2 22 2 4 .boolean false := ⟨RX2, TX2, 13, tyX2, rfl, by decide, zw_79, uw_X2, tyX2_ok, nmX2, rfl, by decide +kernel, fun h => by cases h⟩
theorem fl_X2_26 : zFL RX2 26 2 5 := ⟨RX2, TX2, 13, rfl, by decide, zw_81, uw_X2⟩
theorem fp_X2_26 : zFP RX2 26 2 5 .int false := ⟨RX2, TX2, 13, tyX2, rfl, by decide, zw_81, uw_X2, tyX2_ok, nmX2, rfl, by decide +kernel, fun h => by cases h⟩
theorem fl_X2_30 : zFL RX2 30 2 6 := ⟨RX2, TX2, 13, rfl, by decide, zw_84, uw_X2⟩
theorem fp_X2_30 : zFP RX2 30 2 6 .int false := ⟨RX2, TX2, 13, tyX2, rfl, by decide, zw_84, uw_X2, tyX2_ok, nmX2, rfl, by decide +kernel, fun h => by cases h⟩
theorem fl_X2_33 : zFL RX2 33 2 7 := ⟨RX2, TX2, 13, rfl, by decide, zw_87, uw_X2⟩
theorem fp_X2_33 : zFP RX2 33 2 7 .int false := ⟨RX2, TX2, 13, tyX2, rfl, by decide, zw_87, uw_X2, tyX2_ok, nmX2, rfl, by decide +kernel, fun h => by cases h⟩
theorem fl_X2_36 : zFL RX2 36 2 8 := ⟨RX2, TX2, 13, rfl, by decide, zw_90, uw_X2⟩
theorem fp_X2_36 : zFP RX2 36 2 8 .int false := ⟨RX2, TX2, 13, tyX2, rfl, by decide, zw_90, uw_X2, tyX2_ok, nmX2, rfl, by decide +kernel, fun h => by cases h⟩
theorem fl_X2_39 : zFL RX2 39 2 9 := ⟨RX2, TX2, 13, rfl, by decide, zw_93, uw_X2⟩
theorem fp_X2_39 : zFP RX2 39 2 9 .int false := ⟨RX2, TX2, 13, tyX2, rfl, by decide, zw_93, uw_X2, tyX2_ok, nmX2, rfl, by decide +kernel, fun h => by cases h⟩
theorem fl_X2_42 : zFL RX2 42 2 10 := ⟨RX2, TX2, 13, rfl, by decide, zw_94, uw_X2⟩
theorem fp_X2_42 : zFP RX2 42 2 10 .int false := ⟨RX2, TX2, 13, tyX2, rfl, by decide, zw_94, uw_X2, tyX2_ok, nmX2, rfl, by decide +kernel, fun h => by cases h⟩
theorem fl_X2_45 : zFL RX2 45 2 11 := ⟨RX2, TX2, 13, rfl, by decide, zw_95, uw_X2⟩
theorem fp_X2_45 : zFP RX2 45 2 11 .int false := ⟨RX2, TX2, 13, tyX2, rfl, by decide, zw_95, uw_X2, tyX2_ok, nmX2, rfl, by decide +kernel, fun h => by cases h⟩
theorem fl_X2_48 : zFL RX2 48 2 12 := ⟨RX2, TX2, 13, rfl, by decide, zw_96, uw_X2⟩
theorem fp_X2_48 : zFP RX2 48 2 12 .int false := ⟨RX2, TX2, 13, tyX2, rfl, by decide, zw_96, uw_X2, tyX2_ok, nmX2, rfl, by decide +kernel, fun h => by cases h⟩
theorem fl_X3_23 : zFL RX3 23 0 4 := ⟨RX0, TX0, 5, rfl, by decide, zw_153, uw_X0⟩
theorem fl_X4_11 : zFL RX4 11 4 0 := ⟨RX4, TX4, 3, rfl, by decide, zw_130, uw_X4⟩
theorem fp_X4_11 : zFP RX4 11 4 0 (.array .int) true := ⟨RX4, TX4, 3, tyX4, rfl, by decide, zw_130, uw_X4, tyX4_ok, nmX4, rfl, by decide +kernel, fun _ => rfl⟩
theorem fl_X4_15 : zFL RX4 15 4 1 := ⟨RX4, TX4, 3, rfl, by decide, zw_131, uw_X4⟩
theorem fp_X4_15 : zFP RX4 15 4 1 .int false := ⟨RX4, TX4, 3, tyX4, rfl, by decide, zw_131, uw_X4, tyX4_ok, nmX4, rfl, by decide +kernel, fun h => by cases h⟩
theorem fl_X4_19 : zFL RX4 19 4 2 := ⟨RX4, TX4, 3, rfl, by decide, zw_132, uw_X4⟩
theorem fp_X4_19 : zFP RX4 19 4 2 .int false := ⟨RX4, TX4, 3, tyX4, rfl, by decide, zw_132, uw_X4, tyX4_ok, nmX4, rfl, by decide +kernel, fun h => by cases h⟩
theorem fl_X4_22 : zFL RX4 22 2 6 := ⟨RX2, TX2, 13, rfl, by decide, zw_85, uw_X2⟩
theorem fp_X4_22 : zFP RX4 22 2 6 .int false := ⟨RX2, TX2, 13, tyX2, rfl, by decide, zw_85, uw_X2, tyX2_ok, nmX2, rfl, by decide +kernel, fun h => by cases h⟩
theorem fl_X4_25 : zFL RX4 25 2 7 := ⟨RX2, TX2, 13, rfl, by decide, zw_88, uw_X2⟩
theorem fp_X4_25 : zFP RX4 25 2 7 .int false := ⟨RX2, TX2, 13, tyX2, rfl, by decide, zw_88, uw_X2, tyX2_ok, nmX2, rfl, by decide +kernel, fun h => by cases h⟩
theorem fl_X4_28 : zFL RX4 28 2 8 := ⟨RX2, TX2, 13, rfl, by decide, zw_91, uw_X2⟩
theorem fp_X4_28 : zFP RX4 28 2 8 .int false := ⟨RX2, TX2, 13, tyX2, rfl, by decide, zw_91, uw_X2, tyX2_ok, nmX2, rfl, by decide +kernel, fun h => by cases h⟩
theorem fl_X4_31 : zFL RX4 31 2 5 := ⟨RX2, TX2, 13, rfl, by decide, zw_82, uw_X2⟩
theorem fl_X4_34 : zFL RX4 34 2 3 := ⟨RX2, TX2, 13, rfl, by decide, zw_77, uw_X2⟩
theorem fl_X4_37 : zFL RX4 37 2 2 := ⟨RX2, TX2, 13, rfl, by decide, zw_74, uw_X2⟩
theorem fl_X5_13 : zFL RX5 13 0 3 := ⟨RX0, TX0, 5, rfl, by decide, zw_151, uw_X0⟩
theorem fl_X5_17 : zFL RX5 17 0 2 := ⟨RX0, TX0, 5, rfl, by decide, zw_149, uw_X0⟩
theorem fl_X7_9 : zFL RX7 9 6 0 := ⟨RX7, TX7, 3, rfl, by decide, zw_30, uw_X7⟩
theorem fp_X7_9 : zFP RX7 9 6 0 (.array .int) true := ⟨RX7, TX7, 3, tyX7, rfl, by decide, zw_30, uw_X7, tyX7_ok, nmX7, rfl, by decide +kernel, fun _ => rfl⟩
theorem fl_X7_13 : zFL RX7 13 6 1 := ⟨RX7, TX7, 3, rfl, by decide, zw_31, uw_X7⟩
theorem fp_X7_13 : zFP RX7 13 6 1 (.array .int) true := ⟨RX7, TX7, 3, tyX7, rfl, by decide, zw_31, uw_X7, tyX7_ok, nmX7, rfl, by decide +kernel, fun _ => rfl⟩
theorem fl_X7_16 : zFL RX7 16 6 2 := ⟨RX7, TX7, 3, rfl, by decide, zw_32, uw_X7⟩
theorem fp_X7_16 : zFP RX7 16 6 2 (.array .int) true := ⟨RX7, TX7, 3, tyX7, rfl, by decide, zw_32, uw_X7, tyX7_ok, nmX7, rfl, by decide +kernel, fun _ => rfl⟩
theorem fl_X9_9 : zFL RX9 9 8 0 := ⟨RX9, TX9, 5, rfl, by decide, zw_47, uw_X9⟩
theorem fp_X9_9 : zFP RX9 9 8 0 (.array .int) true := ⟨RX9, TX9, 5, tyX9, rfl, by decide, zw_47, uw_X9, tyX9_ok, nmX9, rfl, by decide +kernel, fun _ => rfl⟩
theorem fl_X9_13 : zFL RX9 13 8 1 := ⟨RX9, TX9, 5, rfl, by decide, zw_48, uw_X9⟩
theorem fp_X9_13 : zFP RX9 13 8 1 (.array .int) true := ⟨RX9, TX9, 5, tyX9, rfl, by decide, zw_48, uw_X9, tyX9_ok, nmX9, rfl, by decide +kernel, fun _ => rfl⟩
theorem fl_X9_16 : zFL RX9 16 8 2 := ⟨RX9, TX9, 5, rfl, by decide, zw_49, uw_X9⟩
theorem fp_X9_16 : zFP RX9 16 8 2 .int false := ⟨RX9, TX9, 5, tyX9, rfl, by decide, zw_49, uw_X9, tyX9_ok, nmX9, rfl, by decide +kernel, fun h => by cases h⟩
theorem fl_X9_20 : zFL RX9 20 8 3 := ⟨RX9, TX9, 5, rfl, by decide, zw_50, uw_X9⟩
theorem fp_X9_20 : zFP RX9 20 8 3 .int false := ⟨RX9, TX9, 5, tyX9, rfl, by decide, zw_50, uw_X9, tyX9_ok, nmX9, rfl, by decide +kernel, fun h => by cases h⟩
theorem fl_X9_23 : zFL RX9 23 8 4 := ⟨RX9, TX9, 5, rfl, by decide, zw_51, uw_X9⟩
theorem fp_X9_23 : zFP RX9 23 8 4 .int false := ⟨RX9, TX9, 5, tyX9, rfl, by decide, zw_51, uw_X9, tyX9_ok, nmX9, rfl, by decide +kernel, fun h => by cases h⟩
theorem fl_X12_7 : zFL RX12 7 11 0 := ⟨RX12, TX12, 26, rfl, by decide, zw_770, uw_X12⟩
theorem fp_X12_7 : zFP RX12 7 11 0 (.array .int) true := ⟨RX12, TX12, 26, tyX12, rfl, by decide, zw_770, uw_X12, tyX12_ok, nmX12, rfl, by decide +kernel, fun _ => rfl⟩
theorem fl_X12_13 : zFL RX12 13 11 1 := ⟨RX12, TX12, 26, rfl, by decide, zw_771, uw_X12⟩
theorem fp_X12_13 : zFP RX12 13 11 1 (.array .int) true := ⟨RX12, TX12, 26, tyX12, rfl, by decide, zw_771, uw_X12, tyX12_ok, nmX12, rfl, by decide +kernel, fun _ => rfl⟩
theorem fl_X12_16 : zFL RX12 16 11 2 := ⟨RX12, TX12, 26, rfl, by decide, zw_772, uw_X12⟩
theorem fp_X12_16 : zFP RX12 16 11 2 (.array .int) true := ⟨RX12, TX12, 26, tyX12, rfl, by decide, zw_772, uw_X12, tyX12_ok, nmX12, rfl, by decide +kernel, fun _ => rfl⟩
theorem fl_X12_19 : zFL RX12 19 11 5 := ⟨RX12, TX12, 26, rfl, by decide, zw_775, uw_X12⟩
theorem fp_X12_19 : zFP RX12 19 11 5 (.array .int) true := ⟨RX12, TX12, 26, tyX12, rfl, by decide, zw_775, uw_X12, tyX12_ok, nmX12, rfl, by decide +kernel, fun _ => rfl⟩
theorem fl_X12_22 : zFL RX12 22 11 12 := ⟨RX12, TX12, 26, rfl, by decide, zw_782, uw_X12⟩
theorem fp_X12_22 : zFP RX12 22 11 12 (.array .int) true := ⟨RX12, TX12, 26, tyX12, rfl, by decide, zw_782, uw_X12, tyX12_ok, nmX12, rfl, by decide +kernel, fun _ => rfl⟩
theorem fl_X12_25 : zFL RX12 25 11 13 := ⟨RX12, TX12, 26, rfl, by decide, zw_783, uw_X12⟩
theorem fp_X12_25 : zFP RX12 25 11 13 (.array .int) true := ⟨RX12, TX12, 26, tyX12, rfl, by decide, zw_783, uw_X12, tyX12_ok, nmX12, rfl, by decide +kernel, fun _ => rfl⟩
theorem fl_X12_28 : zFL RX12 28 11 14 := ⟨RX12, TX12, 26, rfl, by decide, zw_784, uw_X12⟩
theorem fp_X12_28 : zFP RX12 28 11 14 (.array .int) true := ⟨RX12, TX12, 26, tyX12, rfl, by decide, zw_784, uw_X12, tyX12_ok, nmX12, rfl, by decide +kernel, fun _ => rfl⟩
theorem fl_X12_31 : zFL RX12 31 11 15 := ⟨RX12, TX12, 26, rfl, by decide, zw_785, uw_X12⟩
theorem fp_X12_31 : zFP RX12 31 11 15 (.array .int) true := ⟨RX12, TX12, 26, tyX12, rfl, by decide, zw_785, uw_X12, tyX12_ok, nmX12, rfl, by decide +kernel, fun _ => rfl⟩
theorem fl_X12_34 : zFL RX12 34 11 16 := ⟨RX12, TX12, 26, rfl, by decide, zw_786, uw_X12⟩
theorem fp_X12_34 : zFP RX12 34 11 16 (.array .boolean) true := ⟨RX12, TX12, 26, tyX12, rfl, by decide, zw_786, uw_X12, tyX12_ok, nmX12, rfl, by decide +kernel, fun _ => rfl⟩
theorem fl_X12_38 : zFL RX12 38 11 17 := ⟨RX12, TX12, 26, rfl, by decide, zw_787, uw_X12⟩
theorem fp_X12_38 : zFP RX12 38 11 17 (.array .int) true := ⟨RX12, TX12, 26, tyX12, rfl, by decide, zw_787, uw_X12, tyX12_ok, nmX12, rfl, by decide +kernel, fun _ => rfl⟩
theorem fl_X12_41 : zFL RX12 41 11 19 := ⟨RX12, TX12, 26, rfl, by decide, zw_789, uw_X12⟩
theorem fp_X12_41 : zFP RX12 41 11 19 (.array .int) true := ⟨RX12, TX12, 26, tyX12, rfl, by decide, zw_789, uw_X12, tyX12_ok, nmX12, rfl, by decide +kernel, fun _ => rfl⟩
theorem fl_X12_44 : zFL RX12 44 11 21 := ⟨RX12, TX12, 26, rfl, by decide, zw_791, uw_X12⟩
theorem fp_X12_44 : zFP RX12 44 11 21 (.array .int) true := ⟨RX12, TX12, 26, tyX12, rfl, by decide, zw_791, uw_X12, tyX12_ok, nmX12, rfl, by decide +kernel, fun _ => rfl⟩
theorem fl_X12_47 : zFL RX12 47 11 22 := ⟨RX12, TX12, 26, rfl, by decide, zw_792, uw_X12⟩
theorem fp_X12_47 : zFP RX12 47 11 22 (.array .int) true := ⟨RX12, TX12, 26, tyX12, rfl, by decide, zw_792, uw_X12, tyX12_ok, nmX12, rfl, by decide +kernel, fun _ => rfl⟩
theorem fl_X12_50 : zFL RX12 50 11 23 := ⟨RX12, TX12, 26, rfl, by decide, zw_793, uw_X12⟩
theorem fp_X12_50 : zFP RX12 50 11 23 (.array .int) true := ⟨RX12, TX12, 26, tyX12, rfl, by decide, zw_793, uw_X12, tyX12_ok, nmX12, rfl, by decide +kernel, fun _ => rfl⟩
theorem fl_X12_57 : zFL RX12 57 11 3 := ⟨RX12, TX12, 26, rfl, by decide, zw_773, uw_X12⟩
theorem fp_X12_57 : zFP RX12 57 11 3 .int false := ⟨RX12, TX12, 26, tyX12, rfl, by decide, zw_773, uw_X12, tyX12_ok, nmX12, rfl, by decide +kernel, fun h => by cases h⟩
theorem fl_X12_77 : zFL RX12 77 11 4 := ⟨RX12, TX12, 26, rfl, by decide, zw_774, uw_X12⟩
theorem fp_X12_77 : zFP RX12 77 11 4 .int false := ⟨RX12, TX12, 26, tyX12, rfl, by decide, zw_774, uw_X12, tyX12_ok, nmX12, rfl, by decide +kernel, fun h => by cases h⟩
theorem fl_X12_81 : zFL RX12 81 11 6 := ⟨RX12, TX12, 26, rfl, by decide, zw_776, uw_X12⟩
theorem fp_X12_81 : zFP RX12 81 11 6 .int false := ⟨RX12, TX12, 26, tyX12, rfl, by decide, zw_776, uw_X12, tyX12_ok, nmX12, rfl, by decide +kernel, fun h => by cases h⟩
theorem fl_X12_84 : zFL RX12 84 11 7 := ⟨RX12, TX12, 26, rfl, by decide, zw_777, uw_X12⟩
theorem fp_X12_84 : zFP RX12 84 11 7 .int false := ⟨RX12, TX12, 26, tyX12, rfl, by decide, zw_777, uw_X12, tyX12_ok, nmX12, rfl, by decide +kernel, fun h => by cases h⟩
theorem fl_X12_87 : zFL RX12 87 11 9 := ⟨RX12, TX12, 26, rfl, by decide, zw_779, uw_X12⟩
theorem fp_X12_87 : zFP RX12 87 11 9 .int false := ⟨RX12, TX12, 26, tyX12, rfl, by decide, zw_779, uw_X12, tyX12_ok, nmX12, rfl, by decide +kernel, fun h => by cases h⟩
theorem fl_X12_90 : zFL RX12 90 11 8 := ⟨RX12, TX12, 26, rfl, by decide, zw_778, uw_X12⟩
theorem fp_X12_90 : zFP RX12 90 11 8 .int false := ⟨RX12, TX12, 26, tyX12, rfl, by decide, zw_778, uw_X12, tyX12_ok, nmX12, rfl, by decide +kernel, fun h => by cases h⟩
theorem fl_X12_93 : zFL RX12 93 11 10 := ⟨RX12, TX12, 26, rfl, by decide, zw_780, uw_X12⟩
theorem fp_X12_93 : zFP RX12 93 11 10 .int false := ⟨RX12, TX12, 26, tyX12, rfl, by decide, zw_780, uw_X12, tyX12_ok, nmX12, rfl, by decide +kernel, fun h => by cases h⟩
theorem fl_X12_125 : zFL RX12 125 11 11 := ⟨RX12, TX12, 26, rfl, by decide, zw_781, uw_X12⟩
theorem fp_X12_125 : zFP RX12 125 11 11 .int false := ⟨RX12, TX12, 26, tyX12, rfl, by decide, zw_781, uw_X12, tyX12_ok, nmX12, rfl, by decide +kernel, fun h => by cases h⟩
theorem fl_X12_133 : zFL RX12 133 11 18 := ⟨RX12, TX12, 26, rfl, by decide, zw_788, uw_X12⟩
theorem fp_X12_133 : zFP RX12 133 11 18 .int false := ⟨RX12, TX12, 26, tyX12, rfl, by decide, zw_788, uw_X12, tyX12_ok, nmX12, rfl, by decide +kernel, fun h => by cases h⟩
theorem fl_X12_179 : zFL RX12 179 11 24 := ⟨RX12, TX12, 26, rfl, by decide, zw_794, uw_X12⟩
theorem fp_X12_179 : zFP RX12 179 11 24 .int false := ⟨RX12, TX12, 26, tyX12, rfl, by decide, zw_794, uw_X12, tyX12_ok, nmX12, rfl, by decide +kernel, fun h => by cases h⟩
theorem fl_X12_182 : zFL RX12 182 11 25 := ⟨RX12, TX12, 26, rfl, by decide, zw_795, uw_X12⟩
theorem fp_X12_182 : zFP RX12 182 11 25 .int false := ⟨RX12, TX12, 26, tyX12, rfl, by decide, zw_795, uw_X12, tyX12_ok, nmX12, rfl, by decide +kernel, fun h => by cases h⟩
theorem fl_X12_220 : zFL RX12 220 11 20 := ⟨RX12, TX12, 26, rfl, by decide, zw_790, uw_X12⟩
theorem fp_X12_220 : zFP RX12 220 11 20 .int false := ⟨RX12, TX12, 26, tyX12, rfl, by decide, zw_790, uw_X12, tyX12_ok, nmX12, rfl, by decide +kernel, fun h => by cases h⟩
abbrev M_X0_init : ZY := (yX0_init, cX0_init, 1, none, 0, 1, 1, 16)
theorem ok_X0_init : zok M_X0_init := ⟨zw_144, zw_6, by decide, ⟨by decide, by decide⟩, by decide +kernel⟩
abbrev M_X0_begin : ZY := (yX0_begin, cX0_begin, 4, none, 3, 0, 0, 0)
theorem ok_X0_begin : zok M_X0_begin := ⟨zw_687, zw_6, by decide, ⟨by decide, by decide⟩, by decide +kernel⟩
abbrev M_X0_leave : ZY := (yX0_leave, cX0_leave, 2, none, 1, 0, 0, 0)
theorem ok_X0_leave : zok M_X0_leave := ⟨zw_697, zw_6, by decide, ⟨by decide, by decide⟩, by decide +kernel⟩
abbrev M_X0_left : ZY := (yX0_left, cX0_left, 2, (some .int), 1, 0, 0, 0)
theorem ok_X0_left : zok M_X0_left := ⟨zw_746, zw_6, by decide, ⟨by decide, by decide⟩, by decide +kernel⟩
abbrev M_X1_init : ZY := (yX1_init, cX1_init, 1, none, 0, 3, 0, 0)
theorem ok_X1_init : zok M_X1_init := ⟨zw_179, zw_9, by decide, ⟨by decide, by decide⟩, by decide +kernel⟩
abbrev M_X1_size : ZY := (yX1_size, cX1_size, 2, (some .int), 1, 5, 0, 0)
theorem ok_X1_size : zok M_X1_size := ⟨zw_693, zw_9, by decide, ⟨by decide, by decide⟩, by decide +kernel⟩
abbrev M_X1_mark : ZY := (yX1_mark, cX1_mark, 2, (some .int), 1, 3, 0, 0)
theorem ok_X1_mark : zok M_X1_mark := ⟨zw_709, zw_9, by decide, ⟨by decide, by decide⟩, by decide +kernel⟩
abbrev M_X2_init : ZY := (yX2_init, cX2_init, 1, none, 0, 1, 4, 20)
theorem ok_X2_init : zok M_X2_init := ⟨zw_67, zw_4, by decide, ⟨by decide, by decide⟩, by decide +kernel⟩
abbrev M_X2_begin : ZY := (yX2_begin, cX2_begin, 6, none, 5, 0, 0, 0)
theorem ok_X2_begin : zok M_X2_begin := ⟨zw_376, zw_4, by decide, ⟨by decide, by decide⟩, by decide +kernel⟩
abbrev M_X2_addPier : ZY := (yX2_addPier, cX2_addPier, 5, none, 4, 0, 0, 0)
theorem ok_X2_addPier : zok M_X2_addPier := ⟨zw_391, zw_4, by decide, ⟨by decide, by decide⟩, by decide +kernel⟩
abbrev M_X2_become : ZY := (yX2_become, cX2_become, 3, none, 1, 0, 0, 0)
theorem ok_X2_become : zok M_X2_become := ⟨zw_404, zw_4, by decide, ⟨by decide, by decide⟩, by decide +kernel⟩
abbrev M_X2_change : ZY := (yX2_change, cX2_change, 4, none, 3, 0, 0, 0)
theorem ok_X2_change : zok M_X2_change := ⟨zw_610, zw_4, by decide, ⟨by decide, by decide⟩, by decide +kernel⟩
abbrev M_X2_placeFrom : ZY := (yX2_placeFrom, cX2_placeFrom, 3, (some .int), 3, 0, 0, 0)
theorem ok_X2_placeFrom : zok M_X2_placeFrom := ⟨zw_451, zw_4, by decide, ⟨by decide, by decide⟩, by decide +kernel⟩
abbrev M_X2_endOf : ZY := (yX2_endOf, cX2_endOf, 2, (some .int), 1, 1, 0, 0)
theorem ok_X2_endOf : zok M_X2_endOf := ⟨zw_448, zw_4, by decide, ⟨by decide, by decide⟩, by decide +kernel⟩
abbrev M_X2_takeAt : ZY := (yX2_takeAt, cX2_takeAt, 3, (some .int), 2, 0, 0, 0)
theorem ok_X2_takeAt : zok M_X2_takeAt := ⟨zw_455, zw_4, by decide, ⟨by decide, by decide⟩, by decide +kernel⟩
abbrev M_X2_takeOf : ZY := (yX2_takeOf, cX2_takeOf, 2, (some .int), 1, 2, 0, 0)
theorem ok_X2_takeOf : zok M_X2_takeOf := ⟨zw_444, zw_4, by decide, ⟨by decide, by decide⟩, by decide +kernel⟩
abbrev M_X2_takeTogether : ZY := (yX2_takeTogether, cX2_takeTogether, 3, (some .int), 0, 3, 0, 0)
theorem ok_X2_takeTogether : zok M_X2_takeTogether := ⟨zw_440, zw_4, by decide, ⟨by decide, by decide⟩, by decide +kernel⟩
abbrev M_X2_storm : ZY := (yX2_storm, cX2_storm, 1, (some .int), 0, 1, 0, 0)
theorem ok_X2_storm : zok M_X2_storm := ⟨zw_428, zw_4, by decide, ⟨by decide, by decide⟩, by decide +kernel⟩
abbrev M_X2_stormOf : ZY := (yX2_stormOf, cX2_stormOf, 2, (some .int), 1, 0, 0, 0)
theorem ok_X2_stormOf : zok M_X2_stormOf := ⟨zw_432, zw_4, by decide, ⟨by decide, by decide⟩, by decide +kernel⟩
abbrev M_X2_lossOfKind : ZY := (yX2_lossOfKind, cX2_lossOfKind, 3, (some .int), 3, 0, 0, 0)
theorem ok_X2_lossOfKind : zok M_X2_lossOfKind := ⟨zw_463, zw_4, by decide, ⟨by decide, by decide⟩, by decide +kernel⟩
abbrev M_X2_lossOf : ZY := (yX2_lossOf, cX2_lossOf, 3, (some .int), 2, 1, 0, 0)
theorem ok_X2_lossOf : zok M_X2_lossOf := ⟨zw_460, zw_4, by decide, ⟨by decide, by decide⟩, by decide +kernel⟩
abbrev M_X2_pass : ZY := (yX2_pass, cX2_pass, 3, none, 1, 4, 0, 0)
theorem ok_X2_pass : zok M_X2_pass := ⟨zw_436, zw_4, by decide, ⟨by decide, by decide⟩, by decide +kernel⟩
abbrev M_X2_passAll : ZY := (yX2_passAll, cX2_passAll, 3, none, 1, 5, 0, 0)
theorem ok_X2_passAll : zok M_X2_passAll := ⟨zw_517, zw_4, by decide, ⟨by decide, by decide⟩, by decide +kernel⟩
abbrev M_X2_takenAhead : ZY := (yX2_takenAhead, cX2_takenAhead, 7, (some .int), 3, 1, 0, 0)
theorem ok_X2_takenAhead : zok M_X2_takenAhead := ⟨zw_554, zw_4, by decide, ⟨by decide, by decide⟩, by decide +kernel⟩
abbrev M_X2_buildSpan : ZY := (yX2_buildSpan, cX2_buildSpan, 2, none, 1, 0, 0, 0)
theorem ok_X2_buildSpan : zok M_X2_buildSpan := ⟨zw_475, zw_4, by decide, ⟨by decide, by decide⟩, by decide +kernel⟩
abbrev M_X2_allSpans : ZY := (yX2_allSpans, cX2_allSpans, 3, (some .int), 0, 0, 0, 0)
theorem ok_X2_allSpans : zok M_X2_allSpans := ⟨zw_651, zw_4, by decide, ⟨by decide, by decide⟩, by decide +kernel⟩
abbrev M_X2_crossing : ZY := (yX2_crossing, cX2_crossing, 5, (some .int), 2, 1, 0, 0)
theorem ok_X2_crossing : zok M_X2_crossing := ⟨zw_598, zw_4, by decide, ⟨by decide, by decide⟩, by decide +kernel⟩
abbrev M_X3_init : ZY := (yX3_init, cX3_init, 1, none, 0, 2, 0, 0)
theorem ok_X3_init : zok M_X3_init := ⟨zw_169, zw_8, by decide, ⟨by decide, by decide⟩, by decide +kernel⟩
abbrev M_X3_size : ZY := (yX3_size, cX3_size, 3, (some .int), 1, 4, 0, 0)
theorem ok_X3_size : zok M_X3_size := ⟨zw_700, zw_8, by decide, ⟨by decide, by decide⟩, by decide +kernel⟩
abbrev M_X3_mark : ZY := (yX3_mark, cX3_mark, 2, (some .int), 1, 2, 0, 0)
theorem ok_X3_mark : zok M_X3_mark := ⟨zw_716, zw_8, by decide, ⟨by decide, by decide⟩, by decide +kernel⟩
abbrev M_X4_init : ZY := (yX4_init, cX4_init, 1, none, 0, 1, 1, 312)
theorem ok_X4_init : zok M_X4_init := ⟨zw_128, zw_5, by decide, ⟨by decide, by decide⟩, by decide +kernel⟩
abbrev M_X4_size : ZY := (yX4_size, cX4_size, 1, (some .int), 0, 0, 0, 0)
theorem ok_X4_size : zok M_X4_size := ⟨zw_491, zw_5, by decide, ⟨by decide, by decide⟩, by decide +kernel⟩
abbrev M_X4_forgetAll : ZY := (yX4_forgetAll, cX4_forgetAll, 1, none, 0, 0, 0, 0)
theorem ok_X4_forgetAll : zok M_X4_forgetAll := ⟨zw_408, zw_5, by decide, ⟨by decide, by decide⟩, by decide +kernel⟩
abbrev M_X4_keep : ZY := (yX4_keep, cX4_keep, 4, none, 1, 1, 0, 0)
theorem ok_X4_keep : zok M_X4_keep := ⟨zw_421, zw_5, by decide, ⟨by decide, by decide⟩, by decide +kernel⟩
abbrev M_X4_bringBack : ZY := (yX4_bringBack, cX4_bringBack, 4, none, 1, 0, 0, 0)
theorem ok_X4_bringBack : zok M_X4_bringBack := ⟨zw_495, zw_5, by decide, ⟨by decide, by decide⟩, by decide +kernel⟩
abbrev M_X5_init : ZY := (yX5_init, cX5_init, 1, none, 0, 1, 0, 0)
theorem ok_X5_init : zok M_X5_init := ⟨zw_172, zw_7, by decide, ⟨by decide, by decide⟩, by decide +kernel⟩
abbrev M_X5_size : ZY := (yX5_size, cX5_size, 2, (some .int), 1, 1, 0, 0)
theorem ok_X5_size : zok M_X5_size := ⟨zw_733, zw_7, by decide, ⟨by decide, by decide⟩, by decide +kernel⟩
abbrev M_X5_mark : ZY := (yX5_mark, cX5_mark, 2, (some .int), 1, 1, 0, 0)
theorem ok_X5_mark : zok M_X5_mark := ⟨zw_719, zw_7, by decide, ⟨by decide, by decide⟩, by decide +kernel⟩
abbrev M_X6_init : ZY := (yX6_init, cX6_init, 1, none, 0, 3, 0, 0)
theorem ok_X6_init : zok M_X6_init := ⟨zw_200, zw_12, by decide, ⟨by decide, by decide⟩, by decide +kernel⟩
abbrev M_X6_size : ZY := (yX6_size, cX6_size, 2, (some .int), 1, 3, 0, 0)
theorem ok_X6_size : zok M_X6_size := ⟨zw_724, zw_12, by decide, ⟨by decide, by decide⟩, by decide +kernel⟩
abbrev M_X7_init : ZY := (yX7_init, cX7_init, 1, none, 0, 1, 3, 336)
theorem ok_X7_init : zok M_X7_init := ⟨zw_28, zw_2, by decide, ⟨by decide, by decide⟩, by decide +kernel⟩
abbrev M_X7_isMissing : ZY := (yX7_isMissing, cX7_isMissing, 2, (some .boolean), 1, 0, 0, 0)
theorem ok_X7_isMissing : zok M_X7_isMissing := ⟨zw_289, zw_2, by decide, ⟨by decide, by decide⟩, by decide +kernel⟩
abbrev M_X7_areAlike : ZY := (yX7_areAlike, cX7_areAlike, 3, (some .boolean), 2, 0, 0, 0)
theorem ok_X7_areAlike : zok M_X7_areAlike := ⟨zw_305, zw_2, by decide, ⟨by decide, by decide⟩, by decide +kernel⟩
abbrev M_X7_holds : ZY := (yX7_holds, cX7_holds, 4, (some .boolean), 3, 0, 0, 0)
theorem ok_X7_holds : zok M_X7_holds := ⟨zw_293, zw_2, by decide, ⟨by decide, by decide⟩, by decide +kernel⟩
abbrev M_X7_make : ZY := (yX7_make, cX7_make, 5, none, 3, 0, 0, 0)
theorem ok_X7_make : zok M_X7_make := ⟨zw_277, zw_2, by decide, ⟨by decide, by decide⟩, by decide +kernel⟩
abbrev M_X7_put : ZY := (yX7_put, cX7_put, 5, (some .int), 3, 0, 0, 0)
theorem ok_X7_put : zok M_X7_put := ⟨zw_297, zw_2, by decide, ⟨by decide, by decide⟩, by decide +kernel⟩
abbrev M_X7_item : ZY := (yX7_item, cX7_item, 3, (some .int), 2, 0, 0, 0)
theorem ok_X7_item : zok M_X7_item := ⟨zw_619, zw_2, by decide, ⟨by decide, by decide⟩, by decide +kernel⟩
abbrev M_X7_move : ZY := (yX7_move, cX7_move, 6, none, 5, 1, 0, 0)
theorem ok_X7_move : zok M_X7_move := ⟨zw_309, zw_2, by decide, ⟨by decide, by decide⟩, by decide +kernel⟩
abbrev M_X7_remove : ZY := (yX7_remove, cX7_remove, 2, (some .int), 1, 0, 0, 0)
theorem ok_X7_remove : zok M_X7_remove := ⟨zw_320, zw_2, by decide, ⟨by decide, by decide⟩, by decide +kernel⟩
abbrev M_X7_present : ZY := (yX7_present, cX7_present, 3, (some .int), 0, 0, 0, 0)
theorem ok_X7_present : zok M_X7_present := ⟨zw_755, zw_2, by decide, ⟨by decide, by decide⟩, by decide +kernel⟩
abbrev M_X8_init : ZY := (yX8_init, cX8_init, 1, none, 0, 3, 0, 0)
theorem ok_X8_init : zok M_X8_init := ⟨zw_186, zw_10, by decide, ⟨by decide, by decide⟩, by decide +kernel⟩
abbrev M_X8_mark : ZY := (yX8_mark, cX8_mark, 2, (some .int), 1, 3, 0, 0)
theorem ok_X8_mark : zok M_X8_mark := ⟨zw_713, zw_10, by decide, ⟨by decide, by decide⟩, by decide +kernel⟩
abbrev M_X9_init : ZY := (yX9_init, cX9_init, 1, none, 0, 1, 2, 105)
theorem ok_X9_init : zok M_X9_init := ⟨zw_45, zw_3, by decide, ⟨by decide, by decide⟩, by decide +kernel⟩
abbrev M_X9_isFull : ZY := (yX9_isFull, cX9_isFull, 1, (some .boolean), 0, 0, 0, 0)
theorem ok_X9_isFull : zok M_X9_isFull := ⟨zw_328, zw_3, by decide, ⟨by decide, by decide⟩, by decide +kernel⟩
abbrev M_X9_add : ZY := (yX9_add, cX9_add, 2, (some .int), 1, 0, 0, 0)
theorem ok_X9_add : zok M_X9_add := ⟨zw_333, zw_3, by decide, ⟨by decide, by decide⟩, by decide +kernel⟩
abbrev M_X9_length : ZY := (yX9_length, cX9_length, 1, (some .int), 0, 0, 0, 0)
theorem ok_X9_length : zok M_X9_length := ⟨zw_759, zw_3, by decide, ⟨by decide, by decide⟩, by decide +kernel⟩
abbrev M_X9_faultNumber : ZY := (yX9_faultNumber, cX9_faultNumber, 1, (some .int), 0, 0, 0, 0)
theorem ok_X9_faultNumber : zok M_X9_faultNumber := ⟨zw_395, zw_3, by decide, ⟨by decide, by decide⟩, by decide +kernel⟩
abbrev M_X9_faultPlace : ZY := (yX9_faultPlace, cX9_faultPlace, 1, (some .int), 0, 0, 0, 0)
theorem ok_X9_faultPlace : zok M_X9_faultPlace := ⟨zw_400, zw_3, by decide, ⟨by decide, by decide⟩, by decide +kernel⟩
abbrev M_X9_readInto : ZY := (yX9_readInto, cX9_readInto, 3, (some .boolean), 1, 4, 0, 0)
theorem ok_X9_readInto : zok M_X9_readInto := ⟨zw_341, zw_3, by decide, ⟨by decide, by decide⟩, by decide +kernel⟩
abbrev M_X9_readLaw : ZY := (yX9_readLaw, cX9_readLaw, 2, (some .boolean), 1, 3, 0, 0)
theorem ok_X9_readLaw : zok M_X9_readLaw := ⟨zw_345, zw_3, by decide, ⟨by decide, by decide⟩, by decide +kernel⟩
abbrev M_X9_readPiers : ZY := (yX9_readPiers, cX9_readPiers, 4, (some .boolean), 1, 3, 0, 0)
theorem ok_X9_readPiers : zok M_X9_readPiers := ⟨zw_380, zw_3, by decide, ⟨by decide, by decide⟩, by decide +kernel⟩
abbrev M_X9_readNumbers : ZY := (yX9_readNumbers, cX9_readNumbers, 5, (some .boolean), 2, 2, 0, 0)
theorem ok_X9_readNumbers : zok M_X9_readNumbers := ⟨zw_365, zw_3, by decide, ⟨by decide, by decide⟩, by decide +kernel⟩
abbrev M_X9_readNumber : ZY := (yX9_readNumber, cX9_readNumber, 7, (some .boolean), 3, 1, 0, 0)
theorem ok_X9_readNumber : zok M_X9_readNumber := ⟨zw_369, zw_3, by decide, ⟨by decide, by decide⟩, by decide +kernel⟩
abbrev M_X9_readSign : ZY := (yX9_readSign, cX9_readSign, 2, (some .boolean), 1, 1, 0, 0)
theorem ok_X9_readSign : zok M_X9_readSign := ⟨zw_349, zw_3, by decide, ⟨by decide, by decide⟩, by decide +kernel⟩
abbrev M_X9_fail : ZY := (yX9_fail, cX9_fail, 2, (some .boolean), 1, 0, 0, 0)
theorem ok_X9_fail : zok M_X9_fail := ⟨zw_357, zw_3, by decide, ⟨by decide, by decide⟩, by decide +kernel⟩
abbrev M_X9_byteHere : ZY := (yX9_byteHere, cX9_byteHere, 1, (some .int), 0, 0, 0, 0)
theorem ok_X9_byteHere : zok M_X9_byteHere := ⟨zw_353, zw_3, by decide, ⟨by decide, by decide⟩, by decide +kernel⟩
abbrev M_X9_isFigure : ZY := (yX9_isFigure, cX9_isFigure, 1, (some .boolean), 1, 0, 0, 0)
theorem ok_X9_isFigure : zok M_X9_isFigure := ⟨zw_372, zw_3, by decide, ⟨by decide, by decide⟩, by decide +kernel⟩
abbrev M_X9_kindOfLetter : ZY := (yX9_kindOfLetter, cX9_kindOfLetter, 1, (some .int), 1, 0, 0, 0)
theorem ok_X9_kindOfLetter : zok M_X9_kindOfLetter := ⟨zw_383, zw_3, by decide, ⟨by decide, by decide⟩, by decide +kernel⟩
abbrev M_X10_init : ZY := (yX10_init, cX10_init, 1, none, 0, 2, 0, 0)
theorem ok_X10_init : zok M_X10_init := ⟨zw_193, zw_11, by decide, ⟨by decide, by decide⟩, by decide +kernel⟩
abbrev M_X10_size : ZY := (yX10_size, cX10_size, 2, (some .int), 1, 2, 0, 0)
theorem ok_X10_size : zok M_X10_size := ⟨zw_728, zw_11, by decide, ⟨by decide, by decide⟩, by decide +kernel⟩
abbrev M_X10_mark : ZY := (yX10_mark, cX10_mark, 3, (some .int), 1, 4, 0, 0)
theorem ok_X10_mark : zok M_X10_mark := ⟨zw_736, zw_11, by decide, ⟨by decide, by decide⟩, by decide +kernel⟩
abbrev M_X11_init : ZY := (yX11_init, cX11_init, 1, none, 0, 4, 39, 1032)
theorem ok_X11_init : zok M_X11_init := ⟨zw_20, zw_1, by decide, ⟨by decide, by decide⟩, by decide +kernel⟩
abbrev M_X11_row : ZY := (yX11_row, cX11_row, 4, (some .int), 3, 2, 0, 0)
theorem ok_X11_row : zok M_X11_row := ⟨zw_261, zw_1, by decide, ⟨by decide, by decide⟩, by decide +kernel⟩
abbrev M_X11_set : ZY := (yX11_set, cX11_set, 4, (some .int), 3, 2, 0, 0)
theorem ok_X11_set : zok M_X11_set := ⟨zw_285, zw_1, by decide, ⟨by decide, by decide⟩, by decide +kernel⟩
abbrev M_X11_copy : ZY := (yX11_copy, cX11_copy, 6, (some .int), 5, 2, 0, 0)
theorem ok_X11_copy : zok M_X11_copy := ⟨zw_301, zw_1, by decide, ⟨by decide, by decide⟩, by decide +kernel⟩
abbrev M_X11_drop : ZY := (yX11_drop, cX11_drop, 2, (some .int), 1, 2, 0, 0)
theorem ok_X11_drop : zok M_X11_drop := ⟨zw_316, zw_1, by decide, ⟨by decide, by decide⟩, by decide +kernel⟩
abbrev M_X11_feed : ZY := (yX11_feed, cX11_feed, 2, (some .int), 1, 1, 0, 0)
theorem ok_X11_feed : zok M_X11_feed := ⟨zw_324, zw_1, by decide, ⟨by decide, by decide⟩, by decide +kernel⟩
abbrev M_X11_coast : ZY := (yX11_coast, cX11_coast, 2, (some .int), 0, 5, 0, 0)
theorem ok_X11_coast : zok M_X11_coast := ⟨zw_337, zw_1, by decide, ⟨by decide, by decide⟩, by decide +kernel⟩
abbrev M_X11_fault : ZY := (yX11_fault, cX11_fault, 1, (some .int), 0, 0, 0, 0)
theorem ok_X11_fault : zok M_X11_fault := ⟨zw_412, zw_1, by decide, ⟨by decide, by decide⟩, by decide +kernel⟩
abbrev M_X11_seasons : ZY := (yX11_seasons, cX11_seasons, 3, (some .int), 1, 5, 0, 0)
theorem ok_X11_seasons : zok M_X11_seasons := ⟨zw_416, zw_1, by decide, ⟨by decide, by decide⟩, by decide +kernel⟩
abbrev M_X11_build : ZY := (yX11_build, cX11_build, 2, (some .int), 1, 2, 0, 0)
theorem ok_X11_build : zok M_X11_build := ⟨zw_467, zw_1, by decide, ⟨by decide, by decide⟩, by decide +kernel⟩
abbrev M_X11_turn : ZY := (yX11_turn, cX11_turn, 4, (some .int), 2, 2, 0, 0)
theorem ok_X11_turn : zok M_X11_turn := ⟨zw_479, zw_1, by decide, ⟨by decide, by decide⟩, by decide +kernel⟩
abbrev M_X11_buy : ZY := (yX11_buy, cX11_buy, 2, (some .int), 1, 2, 0, 0)
theorem ok_X11_buy : zok M_X11_buy := ⟨zw_483, zw_1, by decide, ⟨by decide, by decide⟩, by decide +kernel⟩
abbrev M_X11_undo : ZY := (yX11_undo, cX11_undo, 1, (some .int), 0, 1, 0, 0)
theorem ok_X11_undo : zok M_X11_undo := ⟨zw_487, zw_1, by decide, ⟨by decide, by decide⟩, by decide +kernel⟩
abbrev M_X11_pier : ZY := (yX11_pier, cX11_pier, 3, (some .int), 2, 3, 0, 0)
theorem ok_X11_pier : zok M_X11_pier := ⟨zw_499, zw_1, by decide, ⟨by decide, by decide⟩, by decide +kernel⟩
abbrev M_X11_ahead : ZY := (yX11_ahead, cX11_ahead, 4, (some .int), 3, 7, 0, 0)
theorem ok_X11_ahead : zok M_X11_ahead := ⟨zw_506, zw_1, by decide, ⟨by decide, by decide⟩, by decide +kernel⟩
abbrev M_X11_purse : ZY := (yX11_purse, cX11_purse, 2, (some .int), 1, 7, 0, 0)
theorem ok_X11_purse : zok M_X11_purse := ⟨zw_523, zw_1, by decide, ⟨by decide, by decide⟩, by decide +kernel⟩
abbrev M_X11_gone : ZY := (yX11_gone, cX11_gone, 3, (some .int), 1, 5, 0, 0)
theorem ok_X11_gone : zok M_X11_gone := ⟨zw_527, zw_1, by decide, ⟨by decide, by decide⟩, by decide +kernel⟩
abbrev M_X11_aim : ZY := (yX11_aim, cX11_aim, 8, (some .int), 4, 2, 0, 0)
theorem ok_X11_aim : zok M_X11_aim := ⟨zw_532, zw_1, by decide, ⟨by decide, by decide⟩, by decide +kernel⟩
abbrev M_X11_take : ZY := (yX11_take, cX11_take, 3, (some .int), 2, 2, 0, 0)
theorem ok_X11_take : zok M_X11_take := ⟨zw_540, zw_1, by decide, ⟨by decide, by decide⟩, by decide +kernel⟩
abbrev M_X11_give : ZY := (yX11_give, cX11_give, 6, (some .int), 2, 4, 0, 0)
theorem ok_X11_give : zok M_X11_give := ⟨zw_545, zw_1, by decide, ⟨by decide, by decide⟩, by decide +kernel⟩
abbrev M_X11_turning : ZY := (yX11_turning, cX11_turning, 9, (some .int), 2, 7, 0, 0)
theorem ok_X11_turning : zok M_X11_turning := ⟨zw_586, zw_1, by decide, ⟨by decide, by decide⟩, by decide +kernel⟩
abbrev M_X11_cross : ZY := (yX11_cross, cX11_cross, 8, (some .int), 1, 2, 0, 0)
theorem ok_X11_cross : zok M_X11_cross := ⟨zw_594, zw_1, by decide, ⟨by decide, by decide⟩, by decide +kernel⟩
abbrev M_X11_fits : ZY := (yX11_fits, cX11_fits, 8, (some .int), 5, 6, 0, 0)
theorem ok_X11_fits : zok M_X11_fits := ⟨zw_602, zw_1, by decide, ⟨by decide, by decide⟩, by decide +kernel⟩
abbrev M_X11_fire : ZY := (yX11_fire, cX11_fire, 8, (some .int), 3, 4, 0, 0)
theorem ok_X11_fire : zok M_X11_fire := ⟨zw_623, zw_1, by decide, ⟨by decide, by decide⟩, by decide +kernel⟩
abbrev M_X11_drawn : ZY := (yX11_drawn, cX11_drawn, 7, (some .int), 3, 5, 0, 0)
theorem ok_X11_drawn : zok M_X11_drawn := ⟨zw_638, zw_1, by decide, ⟨by decide, by decide⟩, by decide +kernel⟩
abbrev M_X11_image : ZY := (yX11_image, cX11_image, 2, (some .int), 1, 1, 0, 0)
theorem ok_X11_image : zok M_X11_image := ⟨zw_655, zw_1, by decide, ⟨by decide, by decide⟩, by decide +kernel⟩
abbrev M_X11_restore : ZY := (yX11_restore, cX11_restore, 3, (some .int), 1, 1, 0, 0)
theorem ok_X11_restore : zok M_X11_restore := ⟨zw_663, zw_1, by decide, ⟨by decide, by decide⟩, by decide +kernel⟩
abbrev M_X11_kind : ZY := (yX11_kind, cX11_kind, 2, (some .int), 1, 2, 0, 0)
theorem ok_X11_kind : zok M_X11_kind := ⟨zw_667, zw_1, by decide, ⟨by decide, by decide⟩, by decide +kernel⟩
abbrev M_X11_as : ZY := (yX11_as, cX11_as, 3, (some .int), 2, 2, 0, 0)
theorem ok_X11_as : zok M_X11_as := ⟨zw_671, zw_1, by decide, ⟨by decide, by decide⟩, by decide +kernel⟩
abbrev M_X11_ask : ZY := (yX11_ask, cX11_ask, 4, (some .int), 2, 6, 0, 0)
theorem ok_X11_ask : zok M_X11_ask := ⟨zw_683, zw_1, by decide, ⟨by decide, by decide⟩, by decide +kernel⟩
abbrev M_X11_trace : ZY := (yX11_trace, cX11_trace, 2, (some .int), 1, 1, 0, 0)
theorem ok_X11_trace : zok M_X11_trace := ⟨zw_742, zw_1, by decide, ⟨by decide, by decide⟩, by decide +kernel⟩
abbrev M_X11_count : ZY := (yX11_count, cX11_count, 2, (some .int), 1, 2, 0, 0)
theorem ok_X11_count : zok M_X11_count := ⟨zw_751, zw_1, by decide, ⟨by decide, by decide⟩, by decide +kernel⟩
abbrev M_X11_status : ZY := (yX11_status, cX11_status, 1, (some .int), 0, 0, 0, 0)
theorem ok_X11_status : zok M_X11_status := ⟨zw_763, zw_1, by decide, ⟨by decide, by decide⟩, by decide +kernel⟩
abbrev M_X11_isWithin : ZY := (yX11_isWithin, cX11_isWithin, 3, (some .boolean), 3, 0, 0, 0)
theorem ok_X11_isWithin : zok M_X11_isWithin := ⟨zw_267, zw_1, by decide, ⟨by decide, by decide⟩, by decide +kernel⟩
abbrev M_X11_isRow : ZY := (yX11_isRow, cX11_isRow, 1, (some .boolean), 1, 1, 0, 0)
theorem ok_X11_isRow : zok M_X11_isRow := ⟨zw_264, zw_1, by decide, ⟨by decide, by decide⟩, by decide +kernel⟩
abbrev M_X11_isPlace : ZY := (yX11_isPlace, cX11_isPlace, 1, (some .boolean), 1, 1, 0, 0)
theorem ok_X11_isPlace : zok M_X11_isPlace := ⟨zw_535, zw_1, by decide, ⟨by decide, by decide⟩, by decide +kernel⟩
abbrev M_X11_isAhead : ZY := (yX11_isAhead, cX11_isAhead, 1, (some .boolean), 1, 1, 0, 0)
theorem ok_X11_isAhead : zok M_X11_isAhead := ⟨zw_509, zw_1, by decide, ⟨by decide, by decide⟩, by decide +kernel⟩
abbrev M_X11_isPier : ZY := (yX11_isPier, cX11_isPier, 2, (some .boolean), 1, 1, 0, 0)
theorem ok_X11_isPier : zok M_X11_isPier := ⟨zw_471, zw_1, by decide, ⟨by decide, by decide⟩, by decide +kernel⟩
abbrev M_X11_found : ZY := (yX11_found, cX11_found, 2, (some .int), 1, 0, 0, 0)
theorem ok_X11_found : zok M_X11_found := ⟨zw_272, zw_1, by decide, ⟨by decide, by decide⟩, by decide +kernel⟩
abbrev M_X11_fine : ZY := (yX11_fine, cX11_fine, 2, (some .int), 1, 0, 0, 0)
theorem ok_X11_fine : zok M_X11_fine := ⟨zw_281, zw_1, by decide, ⟨by decide, by decide⟩, by decide +kernel⟩
abbrev M_X11_imageOf : ZY := (yX11_imageOf, cX11_imageOf, 2, (some (.object "PierYears$Coast")), 1, 0, 0, 0)
theorem ok_X11_imageOf : zok M_X11_imageOf := ⟨zw_659, zw_1, by decide, ⟨by decide, by decide⟩, by decide +kernel⟩
abbrev M_X11_foretell : ZY := (yX11_foretell, cX11_foretell, 2, none, 1, 6, 0, 0)
theorem ok_X11_foretell : zok M_X11_foretell := ⟨zw_513, zw_1, by decide, ⟨by decide, by decide⟩, by decide +kernel⟩
abbrev M_X11_purseTurned : ZY := (yX11_purseTurned, cX11_purseTurned, 4, (some .int), 3, 6, 0, 0)
theorem ok_X11_purseTurned : zok M_X11_purseTurned := ⟨zw_590, zw_1, by decide, ⟨by decide, by decide⟩, by decide +kernel⟩
abbrev M_X11_isTaken : ZY := (yX11_isTaken, cX11_isTaken, 5, (some .boolean), 3, 5, 0, 0)
theorem ok_X11_isTaken : zok M_X11_isTaken := ⟨zw_614, zw_1, by decide, ⟨by decide, by decide⟩, by decide +kernel⟩
abbrev M_X11_purseWith : ZY := (yX11_purseWith, cX11_purseWith, 2, (some .int), 1, 1, 0, 0)
theorem ok_X11_purseWith : zok M_X11_purseWith := ⟨zw_574, zw_1, by decide, ⟨by decide, by decide⟩, by decide +kernel⟩
abbrev M_X11_weighGains : ZY := (yX11_weighGains, cX11_weighGains, 7, none, 2, 2, 0, 0)
theorem ok_X11_weighGains : zok M_X11_weighGains := ⟨zw_550, zw_1, by decide, ⟨by decide, by decide⟩, by decide +kernel⟩
abbrev M_X11_weighBests : ZY := (yX11_weighBests, cX11_weighBests, 6, none, 1, 1, 0, 0)
theorem ok_X11_weighBests : zok M_X11_weighBests := ⟨zw_561, zw_1, by decide, ⟨by decide, by decide⟩, by decide +kernel⟩
abbrev M_X11_gainBehind : ZY := (yX11_gainBehind, cX11_gainBehind, 6, (some .int), 3, 0, 0, 0)
theorem ok_X11_gainBehind : zok M_X11_gainBehind := ⟨zw_565, zw_1, by decide, ⟨by decide, by decide⟩, by decide +kernel⟩
abbrev M_X11_fewestOfBest : ZY := (yX11_fewestOfBest, cX11_fewestOfBest, 4, (some .int), 1, 2, 0, 0)
theorem ok_X11_fewestOfBest : zok M_X11_fewestOfBest := ⟨zw_570, zw_1, by decide, ⟨by decide, by decide⟩, by decide +kernel⟩
abbrev M_X11_shareOut : ZY := (yX11_shareOut, cX11_shareOut, 7, none, 2, 3, 0, 0)
theorem ok_X11_shareOut : zok M_X11_shareOut := ⟨zw_578, zw_1, by decide, ⟨by decide, by decide⟩, by decide +kernel⟩
abbrev M_X11_firstShare : ZY := (yX11_firstShare, cX11_firstShare, 7, (some .int), 4, 2, 0, 0)
theorem ok_X11_firstShare : zok M_X11_firstShare := ⟨zw_582, zw_1, by decide, ⟨by decide, by decide⟩, by decide +kernel⟩
abbrev M_X11_takenBy : ZY := (yX11_takenBy, cX11_takenBy, 4, (some .int), 1, 3, 0, 0)
theorem ok_X11_takenBy : zok M_X11_takenBy := ⟨zw_627, zw_1, by decide, ⟨by decide, by decide⟩, by decide +kernel⟩
abbrev M_X11_chanceOf : ZY := (yX11_chanceOf, cX11_chanceOf, 5, (some .int), 2, 0, 0, 0)
theorem ok_X11_chanceOf : zok M_X11_chanceOf := ⟨zw_631, zw_1, by decide, ⟨by decide, by decide⟩, by decide +kernel⟩
abbrev M_X11_commonDivisor : ZY := (yX11_commonDivisor, cX11_commonDivisor, 6, (some .int), 2, 0, 0, 0)
theorem ok_X11_commonDivisor : zok M_X11_commonDivisor := ⟨zw_634, zw_1, by decide, ⟨by decide, by decide⟩, by decide +kernel⟩
abbrev M_X11_buildDrawn : ZY := (yX11_buildDrawn, cX11_buildDrawn, 4, none, 1, 1, 0, 0)
theorem ok_X11_buildDrawn : zok M_X11_buildDrawn := ⟨zw_646, zw_1, by decide, ⟨by decide, by decide⟩, by decide +kernel⟩
abbrev M_X11_bodyOf : ZY := (yX11_bodyOf, cX11_bodyOf, 2, (some (.object "PierYears$Pier")), 1, 0, 0, 0)
theorem ok_X11_bodyOf : zok M_X11_bodyOf := ⟨zw_675, zw_1, by decide, ⟨by decide, by decide⟩, by decide +kernel⟩
abbrev M_X11_isOfKind : ZY := (yX11_isOfKind, cX11_isOfKind, 2, (some .boolean), 2, 0, 0, 0)
theorem ok_X11_isOfKind : zok M_X11_isOfKind := ⟨zw_678, zw_1, by decide, ⟨by decide, by decide⟩, by decide +kernel⟩
abbrev M_X12_init : ZY := (yX12_init, cX12_init, 2, none, 0, 1, 14, 1321)
theorem ok_X12_init : zok M_X12_init := ⟨zw_768, zw_13, by decide, ⟨by decide, by decide⟩, by decide +kernel⟩
abbrev M_X12_in : ZY := (yX12_in, cX12_in, 3, (some .boolean), 3, 0, 0, 0)
theorem ok_X12_in : zok M_X12_in := ⟨zw_859, zw_13, by decide, ⟨by decide, by decide⟩, by decide +kernel⟩
abbrev M_X12_isIn : ZY := (yX12_isIn, cX12_isIn, 2, (some .boolean), 2, 0, 0, 0)
theorem ok_X12_isIn : zok M_X12_isIn := ⟨zw_1066, zw_13, by decide, ⟨by decide, by decide⟩, by decide +kernel⟩
abbrev M_X12_lay : ZY := (yX12_lay, cX12_lay, 5, none, 4, 0, 0, 0)
theorem ok_X12_lay : zok M_X12_lay := ⟨zw_932, zw_13, by decide, ⟨by decide, by decide⟩, by decide +kernel⟩
abbrev M_X12_isCoast : ZY := (yX12_isCoast, cX12_isCoast, 1, (some .boolean), 0, 0, 0, 0)
theorem ok_X12_isCoast : zok M_X12_isCoast := ⟨zw_944, zw_13, by decide, ⟨by decide, by decide⟩, by decide +kernel⟩
abbrev M_X12_isOne : ZY := (yX12_isOne, cX12_isOne, 2, (some .boolean), 1, 1, 0, 0)
theorem ok_X12_isOne : zok M_X12_isOne := ⟨zw_978, zw_13, by decide, ⟨by decide, by decide⟩, by decide +kernel⟩
abbrev M_X12_finds : ZY := (yX12_finds, cX12_finds, 2, (some .int), 1, 0, 0, 0)
theorem ok_X12_finds : zok M_X12_finds := ⟨zw_864, zw_13, by decide, ⟨by decide, by decide⟩, by decide +kernel⟩
abbrev M_X12_done : ZY := (yX12_done, cX12_done, 2, (some .int), 1, 0, 0, 0)
theorem ok_X12_done : zok M_X12_done := ⟨zw_869, zw_13, by decide, ⟨by decide, by decide⟩, by decide +kernel⟩
abbrev M_X12_isRow : ZY := (yX12_isRow, cX12_isRow, 1, (some .boolean), 1, 1, 0, 0)
theorem ok_X12_isRow : zok M_X12_isRow := ⟨zw_856, zw_13, by decide, ⟨by decide, by decide⟩, by decide +kernel⟩
abbrev M_X12_row : ZY := (yX12_row, cX12_row, 5, (some .int), 3, 2, 0, 0)
theorem ok_X12_row : zok M_X12_row := ⟨zw_853, zw_13, by decide, ⟨by decide, by decide⟩, by decide +kernel⟩
abbrev M_X12_set : ZY := (yX12_set, cX12_set, 4, (some .int), 3, 2, 0, 0)
theorem ok_X12_set : zok M_X12_set := ⟨zw_873, zw_13, by decide, ⟨by decide, by decide⟩, by decide +kernel⟩
abbrev M_X12_isPart : ZY := (yX12_isPart, cX12_isPart, 3, (some .boolean), 3, 0, 0, 0)
theorem ok_X12_isPart : zok M_X12_isPart := ⟨zw_880, zw_13, by decide, ⟨by decide, by decide⟩, by decide +kernel⟩
abbrev M_X12_copy : ZY := (yX12_copy, cX12_copy, 9, (some .int), 5, 2, 0, 0)
theorem ok_X12_copy : zok M_X12_copy := ⟨zw_877, zw_13, by decide, ⟨by decide, by decide⟩, by decide +kernel⟩
abbrev M_X12_drop : ZY := (yX12_drop, cX12_drop, 2, (some .int), 1, 2, 0, 0)
theorem ok_X12_drop : zok M_X12_drop := ⟨zw_884, zw_13, by decide, ⟨by decide, by decide⟩, by decide +kernel⟩
abbrev M_X12_feed : ZY := (yX12_feed, cX12_feed, 2, (some .int), 1, 1, 0, 0)
theorem ok_X12_feed : zok M_X12_feed := ⟨zw_888, zw_13, by decide, ⟨by decide, by decide⟩, by decide +kernel⟩
abbrev M_X12_nextToken : ZY := (yX12_nextToken, cX12_nextToken, 2, none, 0, 1, 0, 0)
theorem ok_X12_nextToken : zok M_X12_nextToken := ⟨zw_909, zw_13, by decide, ⟨by decide, by decide⟩, by decide +kernel⟩
abbrev M_X12_fails : ZY := (yX12_fails, cX12_fails, 2, (some .boolean), 1, 0, 0, 0)
theorem ok_X12_fails : zok M_X12_fails := ⟨zw_913, zw_13, by decide, ⟨by decide, by decide⟩, by decide +kernel⟩
abbrev M_X12_isSign : ZY := (yX12_isSign, cX12_isSign, 2, (some .boolean), 1, 2, 0, 0)
theorem ok_X12_isSign : zok M_X12_isSign := ⟨zw_905, zw_13, by decide, ⟨by decide, by decide⟩, by decide +kernel⟩
abbrev M_X12_isNumber : ZY := (yX12_isNumber, cX12_isNumber, 3, (some .boolean), 2, 2, 0, 0)
theorem ok_X12_isNumber : zok M_X12_isNumber := ⟨zw_921, zw_13, by decide, ⟨by decide, by decide⟩, by decide +kernel⟩
abbrev M_X12_sortBy : ZY := (yX12_sortBy, cX12_sortBy, 1, (some .int), 1, 0, 0, 0)
theorem ok_X12_sortBy : zok M_X12_sortBy := ⟨zw_928, zw_13, by decide, ⟨by decide, by decide⟩, by decide +kernel⟩
abbrev M_X12_isPart_ : ZY := (yX12_isPart_, cX12_isPart_, 5, (some .boolean), 4, 3, 0, 0)
theorem ok_X12_isPart_ : zok M_X12_isPart_ := ⟨zw_917, zw_13, by decide, ⟨by decide, by decide⟩, by decide +kernel⟩
abbrev M_X12_isLaw : ZY := (yX12_isLaw, cX12_isLaw, 1, (some .boolean), 0, 4, 0, 0)
theorem ok_X12_isLaw : zok M_X12_isLaw := ⟨zw_901, zw_13, by decide, ⟨by decide, by decide⟩, by decide +kernel⟩
abbrev M_X12_isPier : ZY := (yX12_isPier, cX12_isPier, 3, (some .boolean), 0, 4, 0, 0)
theorem ok_X12_isPier : zok M_X12_isPier := ⟨zw_925, zw_13, by decide, ⟨by decide, by decide⟩, by decide +kernel⟩
abbrev M_X12_isRead : ZY := (yX12_isRead, cX12_isRead, 2, (some .boolean), 0, 5, 0, 0)
theorem ok_X12_isRead : zok M_X12_isRead := ⟨zw_897, zw_13, by decide, ⟨by decide, by decide⟩, by decide +kernel⟩
abbrev M_X12_coast : ZY := (yX12_coast, cX12_coast, 2, (some .int), 0, 6, 0, 0)
theorem ok_X12_coast : zok M_X12_coast := ⟨zw_893, zw_13, by decide, ⟨by decide, by decide⟩, by decide +kernel⟩
abbrev M_X12_fault : ZY := (yX12_fault, cX12_fault, 1, (some .int), 0, 0, 0, 0)
theorem ok_X12_fault : zok M_X12_fault := ⟨zw_936, zw_13, by decide, ⟨by decide, by decide⟩, by decide +kernel⟩
abbrev M_X12_note : ZY := (yX12_note, cX12_note, 2, none, 0, 1, 0, 0)
theorem ok_X12_note : zok M_X12_note := ⟨zw_949, zw_13, by decide, ⟨by decide, by decide⟩, by decide +kernel⟩
abbrev M_X12_placeBy : ZY := (yX12_placeBy, cX12_placeBy, 4, (some .int), 3, 0, 0, 0)
theorem ok_X12_placeBy : zok M_X12_placeBy := ⟨zw_964, zw_13, by decide, ⟨by decide, by decide⟩, by decide +kernel⟩
abbrev M_X12_takeBy : ZY := (yX12_takeBy, cX12_takeBy, 3, (some .int), 3, 0, 0, 0)
theorem ok_X12_takeBy : zok M_X12_takeBy := ⟨zw_967, zw_13, by decide, ⟨by decide, by decide⟩, by decide +kernel⟩
abbrev M_X12_takeOf : ZY := (yX12_takeOf, cX12_takeOf, 2, (some .int), 2, 1, 0, 0)
theorem ok_X12_takeOf : zok M_X12_takeOf := ⟨zw_961, zw_13, by decide, ⟨by decide, by decide⟩, by decide +kernel⟩
abbrev M_X12_takenIn : ZY := (yX12_takenIn, cX12_takenIn, 3, (some .int), 1, 2, 0, 0)
theorem ok_X12_takenIn : zok M_X12_takenIn := ⟨zw_958, zw_13, by decide, ⟨by decide, by decide⟩, by decide +kernel⟩
abbrev M_X12_stormIn : ZY := (yX12_stormIn, cX12_stormIn, 1, (some .int), 1, 0, 0, 0)
theorem ok_X12_stormIn : zok M_X12_stormIn := ⟨zw_952, zw_13, by decide, ⟨by decide, by decide⟩, by decide +kernel⟩
abbrev M_X12_lossOf : ZY := (yX12_lossOf, cX12_lossOf, 5, (some .int), 3, 0, 0, 0)
theorem ok_X12_lossOf : zok M_X12_lossOf := ⟨zw_970, zw_13, by decide, ⟨by decide, by decide⟩, by decide +kernel⟩
abbrev M_X12_goBy : ZY := (yX12_goBy, cX12_goBy, 4, none, 2, 3, 0, 0)
theorem ok_X12_goBy : zok M_X12_goBy := ⟨zw_955, zw_13, by decide, ⟨by decide, by decide⟩, by decide +kernel⟩
abbrev M_X12_seasons : ZY := (yX12_seasons, cX12_seasons, 3, (some .int), 1, 4, 0, 0)
theorem ok_X12_seasons : zok M_X12_seasons := ⟨zw_940, zw_13, by decide, ⟨by decide, by decide⟩, by decide +kernel⟩
abbrev M_X12_build : ZY := (yX12_build, cX12_build, 2, (some .int), 1, 2, 0, 0)
theorem ok_X12_build : zok M_X12_build := ⟨zw_974, zw_13, by decide, ⟨by decide, by decide⟩, by decide +kernel⟩
abbrev M_X12_turn : ZY := (yX12_turn, cX12_turn, 4, (some .int), 2, 2, 0, 0)
theorem ok_X12_turn : zok M_X12_turn := ⟨zw_982, zw_13, by decide, ⟨by decide, by decide⟩, by decide +kernel⟩
abbrev M_X12_buy : ZY := (yX12_buy, cX12_buy, 2, (some .int), 1, 2, 0, 0)
theorem ok_X12_buy : zok M_X12_buy := ⟨zw_986, zw_13, by decide, ⟨by decide, by decide⟩, by decide +kernel⟩
abbrev M_X12_undo : ZY := (yX12_undo, cX12_undo, 1, (some .int), 0, 1, 0, 0)
theorem ok_X12_undo : zok M_X12_undo := ⟨zw_990, zw_13, by decide, ⟨by decide, by decide⟩, by decide +kernel⟩
abbrev M_X12_pier : ZY := (yX12_pier, cX12_pier, 3, (some .int), 2, 2, 0, 0)
theorem ok_X12_pier : zok M_X12_pier := ⟨zw_994, zw_13, by decide, ⟨by decide, by decide⟩, by decide +kernel⟩
abbrev M_X12_begin : ZY := (yX12_begin, cX12_begin, 1, none, 0, 1, 0, 0)
theorem ok_X12_begin : zok M_X12_begin := ⟨zw_1002, zw_13, by decide, ⟨by decide, by decide⟩, by decide +kernel⟩
abbrev M_X12_goOn : ZY := (yX12_goOn, cX12_goOn, 3, none, 1, 4, 0, 0)
theorem ok_X12_goOn : zok M_X12_goOn := ⟨zw_1006, zw_13, by decide, ⟨by decide, by decide⟩, by decide +kernel⟩
abbrev M_X12_ahead : ZY := (yX12_ahead, cX12_ahead, 4, (some .int), 3, 5, 0, 0)
theorem ok_X12_ahead : zok M_X12_ahead := ⟨zw_998, zw_13, by decide, ⟨by decide, by decide⟩, by decide +kernel⟩
abbrev M_X12_purse : ZY := (yX12_purse, cX12_purse, 2, (some .int), 1, 5, 0, 0)
theorem ok_X12_purse : zok M_X12_purse := ⟨zw_1010, zw_13, by decide, ⟨by decide, by decide⟩, by decide +kernel⟩
abbrev M_X12_gone : ZY := (yX12_gone, cX12_gone, 3, (some .int), 1, 5, 0, 0)
theorem ok_X12_gone : zok M_X12_gone := ⟨zw_1014, zw_13, by decide, ⟨by decide, by decide⟩, by decide +kernel⟩
abbrev M_X12_aim : ZY := (yX12_aim, cX12_aim, 7, (some .int), 4, 2, 0, 0)
theorem ok_X12_aim : zok M_X12_aim := ⟨zw_1019, zw_13, by decide, ⟨by decide, by decide⟩, by decide +kernel⟩
abbrev M_X12_take : ZY := (yX12_take, cX12_take, 3, (some .int), 2, 1, 0, 0)
theorem ok_X12_take : zok M_X12_take := ⟨zw_1023, zw_13, by decide, ⟨by decide, by decide⟩, by decide +kernel⟩
abbrev M_X12_layGiven : ZY := (yX12_layGiven, cX12_layGiven, 7, (some .int), 2, 0, 0, 0)
theorem ok_X12_layGiven : zok M_X12_layGiven := ⟨zw_1035, zw_13, by decide, ⟨by decide, by decide⟩, by decide +kernel⟩
abbrev M_X12_layGive : ZY := (yX12_layGive, cX12_layGive, 7, none, 1, 5, 0, 0)
theorem ok_X12_layGive : zok M_X12_layGive := ⟨zw_1031, zw_13, by decide, ⟨by decide, by decide⟩, by decide +kernel⟩
abbrev M_X12_give : ZY := (yX12_give, cX12_give, 3, (some .int), 2, 6, 0, 0)
theorem ok_X12_give : zok M_X12_give := ⟨zw_1027, zw_13, by decide, ⟨by decide, by decide⟩, by decide +kernel⟩
abbrev M_X12_turning : ZY := (yX12_turning, cX12_turning, 7, (some .int), 2, 5, 0, 0)
theorem ok_X12_turning : zok M_X12_turning := ⟨zw_1039, zw_13, by decide, ⟨by decide, by decide⟩, by decide +kernel⟩
abbrev M_X12_crossOf : ZY := (yX12_crossOf, cX12_crossOf, 4, (some .int), 2, 1, 0, 0)
theorem ok_X12_crossOf : zok M_X12_crossOf := ⟨zw_1047, zw_13, by decide, ⟨by decide, by decide⟩, by decide +kernel⟩
abbrev M_X12_cross : ZY := (yX12_cross, cX12_cross, 8, (some .int), 1, 2, 0, 0)
theorem ok_X12_cross : zok M_X12_cross := ⟨zw_1043, zw_13, by decide, ⟨by decide, by decide⟩, by decide +kernel⟩
abbrev M_X12_takeOut : ZY := (yX12_takeOut, cX12_takeOut, 5, (some .int), 3, 1, 0, 0)
theorem ok_X12_takeOut : zok M_X12_takeOut := ⟨zw_1055, zw_13, by decide, ⟨by decide, by decide⟩, by decide +kernel⟩
abbrev M_X12_isSo : ZY := (yX12_isSo, cX12_isSo, 3, (some .boolean), 1, 5, 0, 0)
theorem ok_X12_isSo : zok M_X12_isSo := ⟨zw_1059, zw_13, by decide, ⟨by decide, by decide⟩, by decide +kernel⟩
abbrev M_X12_fits : ZY := (yX12_fits, cX12_fits, 11, (some .int), 5, 6, 0, 0)
theorem ok_X12_fits : zok M_X12_fits := ⟨zw_1051, zw_13, by decide, ⟨by decide, by decide⟩, by decide +kernel⟩
abbrev M_X12_fire : ZY := (yX12_fire, cX12_fire, 10, (some .int), 3, 2, 0, 0)
theorem ok_X12_fire : zok M_X12_fire := ⟨zw_1063, zw_13, by decide, ⟨by decide, by decide⟩, by decide +kernel⟩
abbrev M_X12_allSpans : ZY := (yX12_allSpans, cX12_allSpans, 4, (some .int), 1, 0, 0, 0)
theorem ok_X12_allSpans : zok M_X12_allSpans := ⟨zw_1079, zw_13, by decide, ⟨by decide, by decide⟩, by decide +kernel⟩
abbrev M_X12_drawn : ZY := (yX12_drawn, cX12_drawn, 8, (some .int), 3, 4, 0, 0)
theorem ok_X12_drawn : zok M_X12_drawn := ⟨zw_1070, zw_13, by decide, ⟨by decide, by decide⟩, by decide +kernel⟩
abbrev M_X12_image : ZY := (yX12_image, cX12_image, 2, (some .int), 1, 1, 0, 0)
theorem ok_X12_image : zok M_X12_image := ⟨zw_1083, zw_13, by decide, ⟨by decide, by decide⟩, by decide +kernel⟩
abbrev M_X12_restore : ZY := (yX12_restore, cX12_restore, 2, (some .int), 1, 1, 0, 0)
theorem ok_X12_restore : zok M_X12_restore := ⟨zw_1087, zw_13, by decide, ⟨by decide, by decide⟩, by decide +kernel⟩
abbrev M_X12_kind : ZY := (yX12_kind, cX12_kind, 2, (some .int), 1, 2, 0, 0)
theorem ok_X12_kind : zok M_X12_kind := ⟨zw_1091, zw_13, by decide, ⟨by decide, by decide⟩, by decide +kernel⟩
abbrev M_X12_parentOf : ZY := (yX12_parentOf, cX12_parentOf, 1, (some .int), 1, 0, 0, 0)
theorem ok_X12_parentOf : zok M_X12_parentOf := ⟨zw_1098, zw_13, by decide, ⟨by decide, by decide⟩, by decide +kernel⟩
abbrev M_X12_as : ZY := (yX12_as, cX12_as, 5, (some .int), 2, 2, 0, 0)
theorem ok_X12_as : zok M_X12_as := ⟨zw_1095, zw_13, by decide, ⟨by decide, by decide⟩, by decide +kernel⟩
abbrev M_X12_begins : ZY := (yX12_begins, cX12_begins, 2, none, 1, 0, 0, 0)
theorem ok_X12_begins : zok M_X12_begins := ⟨zw_1110, zw_13, by decide, ⟨by decide, by decide⟩, by decide +kernel⟩
abbrev M_X12_markIrons : ZY := (yX12_markIrons, cX12_markIrons, 2, (some .int), 1, 1, 0, 0)
theorem ok_X12_markIrons : zok M_X12_markIrons := ⟨zw_1122, zw_13, by decide, ⟨by decide, by decide⟩, by decide +kernel⟩
abbrev M_X12_markNew : ZY := (yX12_markNew, cX12_markNew, 3, (some .int), 1, 2, 0, 0)
theorem ok_X12_markNew : zok M_X12_markNew := ⟨zw_1118, zw_13, by decide, ⟨by decide, by decide⟩, by decide +kernel⟩
abbrev M_X12_sizeWooden : ZY := (yX12_sizeWooden, cX12_sizeWooden, 2, (some .int), 1, 1, 0, 0)
theorem ok_X12_sizeWooden : zok M_X12_sizeWooden := ⟨zw_1114, zw_13, by decide, ⟨by decide, by decide⟩, by decide +kernel⟩
abbrev M_X12_sizeOf : ZY := (yX12_sizeOf, cX12_sizeOf, 4, (some .int), 1, 3, 0, 0)
theorem ok_X12_sizeOf : zok M_X12_sizeOf := ⟨zw_1106, zw_13, by decide, ⟨by decide, by decide⟩, by decide +kernel⟩
abbrev M_X12_markOf : ZY := (yX12_markOf, cX12_markOf, 2, (some .int), 1, 4, 0, 0)
theorem ok_X12_markOf : zok M_X12_markOf := ⟨zw_1126, zw_13, by decide, ⟨by decide, by decide⟩, by decide +kernel⟩
abbrev M_X12_ask : ZY := (yX12_ask, cX12_ask, 3, (some .int), 2, 5, 0, 0)
theorem ok_X12_ask : zok M_X12_ask := ⟨zw_1102, zw_13, by decide, ⟨by decide, by decide⟩, by decide +kernel⟩
abbrev M_X12_trace : ZY := (yX12_trace, cX12_trace, 2, (some .int), 1, 1, 0, 0)
theorem ok_X12_trace : zok M_X12_trace := ⟨zw_1130, zw_13, by decide, ⟨by decide, by decide⟩, by decide +kernel⟩
abbrev M_X12_count : ZY := (yX12_count, cX12_count, 4, (some .int), 1, 1, 0, 0)
theorem ok_X12_count : zok M_X12_count := ⟨zw_1134, zw_13, by decide, ⟨by decide, by decide⟩, by decide +kernel⟩
abbrev M_X12_status : ZY := (yX12_status, cX12_status, 1, (some .int), 0, 0, 0, 0)
theorem ok_X12_status : zok M_X12_status := ⟨zw_1138, zw_13, by decide, ⟨by decide, by decide⟩, by decide +kernel⟩
abbrev M_J9_max_7cf53 : ZY := (yJ9_max_7cf53, cJ9_max_7cf53, 2, (some .int), 2, 0, 0, 0)
theorem ok_J9_max_7cf53 : zok M_J9_max_7cf53 := ⟨zw_557, zw_15, by decide, ⟨by decide, by decide⟩, by decide +kernel⟩
abbrev M_J9_min_7cf53 : ZY := (yJ9_min_7cf53, cJ9_min_7cf53, 2, (some .int), 2, 0, 0, 0)
theorem ok_J9_min_7cf53 : zok M_J9_min_7cf53 := ⟨zw_424, zw_15, by decide, ⟨by decide, by decide⟩, by decide +kernel⟩
abbrev M_L_law : ZY := (yL_law, cL_law, 4, (some .boolean), 1, 8, 55, 2397)
