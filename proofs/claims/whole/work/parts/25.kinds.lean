/-! kinds: as -/
section
variable {rc : ZRC} {σ α : Mem}
def parF (k : Int) : Int := if k = 1 ∨ k = 4 then 0 else if k = 5 then 4 else 1
def kiO (k : Int) : Nat := if k = 2 then 33 else if k = 3 then 34 else if k = 4 then 35 else if k = 5 then 36 else 32
theorem c_bodyOf {k : Int} (h1 : 1 ≤ k) (h2 : k ≤ 5) : KR rc M_X11_bodyOf [zR 0, zI k] σ (fun o σ' => o = kiO k ∧ σ' = σ) := by
  have hc : k = 1 ∨ k = 2 ∨ k = 3 ∨ k = 4 ∨ k = 5 := by omega
  refine K_of 0 (by decide) (Nat.le_of_ble_eq_true rfl) (show Z _ _ 0 0 0 [some (zR 0), some (zI k)] [] _ _ from ?_)
  refine z_iload_n dX11_bodyOf_0 rfl ?_
  rcases hc with rfl | rfl | rfl | rfl | rfl
  · refine z_tswOut (tgt := 52) dX11_bodyOf_1 (by omega) (by omega) (by decide) ?_
    first | refine z_aload_n dX11_bodyOf_52 rfl ?_ | refine z_aload_nT dX11_bodyOf_52 rfl ?_
    refine h_getr dX11_bodyOf_53 fl_X11_56 (by first | assumption | rfl) (by rfl) ?_
    refine h_aret dX11_bodyOf_56 rfl rfl rfl ?_
    exact ⟨rfl, rfl⟩
  · refine z_tswIn (tgt := 32) dX11_bodyOf_1 (by omega) (by omega) (by omega) rfl (by decide) ?_
    first | refine z_aload_n dX11_bodyOf_32 rfl ?_ | refine z_aload_nT dX11_bodyOf_32 rfl ?_
    refine h_getr dX11_bodyOf_33 fl_X11_63 (by first | assumption | rfl) (by rfl) ?_
    refine h_aret dX11_bodyOf_36 rfl rfl rfl ?_
    exact ⟨rfl, rfl⟩
  · refine z_tswIn (tgt := 37) dX11_bodyOf_1 (by omega) (by omega) (by omega) rfl (by decide) ?_
    first | refine z_aload_n dX11_bodyOf_37 rfl ?_ | refine z_aload_nT dX11_bodyOf_37 rfl ?_
    refine h_getr dX11_bodyOf_38 fl_X11_70 (by first | assumption | rfl) (by rfl) ?_
    refine h_aret dX11_bodyOf_41 rfl rfl rfl ?_
    exact ⟨rfl, rfl⟩
  · refine z_tswIn (tgt := 42) dX11_bodyOf_1 (by omega) (by omega) (by omega) rfl (by decide) ?_
    first | refine z_aload_n dX11_bodyOf_42 rfl ?_ | refine z_aload_nT dX11_bodyOf_42 rfl ?_
    refine h_getr dX11_bodyOf_43 fl_X11_77 (by first | assumption | rfl) (by rfl) ?_
    refine h_aret dX11_bodyOf_46 rfl rfl rfl ?_
    exact ⟨rfl, rfl⟩
  · refine z_tswIn (tgt := 47) dX11_bodyOf_1 (by omega) (by omega) (by omega) rfl (by decide) ?_
    first | refine z_aload_n dX11_bodyOf_47 rfl ?_ | refine z_aload_nT dX11_bodyOf_47 rfl ?_
    refine h_getr dX11_bodyOf_48 fl_X11_84 (by first | assumption | rfl) (by rfl) ?_
    refine h_aret dX11_bodyOf_51 rfl rfl rfl ?_
    exact ⟨rfl, rfl⟩
theorem c_isOfKind {k w : Int} (h1 : 1 ≤ k) (h2 : k ≤ 5) (h3 : 0 ≤ w) (h4 : w ≤ 5) : KI rc M_X11_isOfKind [zR (kiO k), zI w] σ (fun v σ' => ((v = 1 ∧ (w = 0 ∨ k = w ∨ parF k = w)) ∨ (v = 0 ∧ ¬ (w = 0 ∨ k = w ∨ parF k = w))) ∧ σ' = σ) := by
  have hc : k = 1 ∨ k = 2 ∨ k = 3 ∨ k = 4 ∨ k = 5 := by omega
  have hw : w = 0 ∨ w = 1 ∨ w = 2 ∨ w = 3 ∨ w = 4 ∨ w = 5 := by omega
  rcases hc with rfl | rfl | rfl | rfl | rfl
  · refine K_of 0 (by decide) (Nat.le_of_ble_eq_true rfl) (show Z _ _ 0 0 0 [some (zR 32), some (zI w)] [] _ _ from ?_)
    refine z_iload_n dX11_isOfKind_0 rfl ?_
    rcases hw with rfl | rfl | rfl | rfl | rfl | rfl
    · refine z_tswOut (tgt := 61) dX11_isOfKind_1 (by omega) (by omega) (by decide) ?_
      first | refine z_aload_n dX11_isOfKind_61 rfl ?_ | refine z_aload_nT dX11_isOfKind_61 rfl ?_
      refine h_inst "PierYears$Irons" "PierYears$Pier" 1 dX11_isOfKind_62 zw_679 rfl rfl (Or.inl ⟨rfl, List.mem_of_getElem? (i := 4) rfl⟩) ?_
      refine h_zret dX11_isOfKind_65 rfl (by omega) rfl rfl ?_
      exact ⟨by decide, rfl⟩
    · refine z_tswIn (tgt := 36) dX11_isOfKind_1 (by omega) (by omega) (by omega) rfl (by decide) ?_
      first | refine z_aload_n dX11_isOfKind_36 rfl ?_ | refine z_aload_nT dX11_isOfKind_36 rfl ?_
      refine h_inst "PierYears$Irons" "PierYears$Irons" 1 dX11_isOfKind_37 zw_165 rfl rfl (Or.inr (Or.inl ⟨rfl, rfl⟩)) ?_
      refine h_zret dX11_isOfKind_40 rfl (by omega) rfl rfl ?_
      exact ⟨by decide, rfl⟩
    · refine z_tswIn (tgt := 41) dX11_isOfKind_1 (by omega) (by omega) (by omega) rfl (by decide) ?_
      first | refine z_aload_n dX11_isOfKind_41 rfl ?_ | refine z_aload_nT dX11_isOfKind_41 rfl ?_
      refine h_inst "PierYears$Irons" "PierYears$Cast" 0 dX11_isOfKind_42 zw_175 rfl rfl (Or.inr (Or.inr ⟨rfl, List.mem_of_getElem? (i := 2) rfl⟩)) ?_
      refine h_zret dX11_isOfKind_45 rfl (by omega) rfl rfl ?_
      exact ⟨by decide, rfl⟩
    · refine z_tswIn (tgt := 46) dX11_isOfKind_1 (by omega) (by omega) (by omega) rfl (by decide) ?_
      first | refine z_aload_n dX11_isOfKind_46 rfl ?_ | refine z_aload_nT dX11_isOfKind_46 rfl ?_
      refine h_inst "PierYears$Irons" "PierYears$Rusty" 0 dX11_isOfKind_47 zw_182 rfl rfl (Or.inr (Or.inr ⟨rfl, List.mem_of_getElem? (i := 6) rfl⟩)) ?_
      refine h_zret dX11_isOfKind_50 rfl (by omega) rfl rfl ?_
      exact ⟨by decide, rfl⟩
    · refine z_tswIn (tgt := 51) dX11_isOfKind_1 (by omega) (by omega) (by omega) rfl (by decide) ?_
      first | refine z_aload_n dX11_isOfKind_51 rfl ?_ | refine z_aload_nT dX11_isOfKind_51 rfl ?_
      refine h_inst "PierYears$Irons" "PierYears$Wooden" 0 dX11_isOfKind_52 zw_189 rfl rfl (Or.inr (Or.inr ⟨rfl, List.mem_of_getElem? (i := 10) rfl⟩)) ?_
      refine h_zret dX11_isOfKind_55 rfl (by omega) rfl rfl ?_
      exact ⟨by decide, rfl⟩
    · refine z_tswIn (tgt := 56) dX11_isOfKind_1 (by omega) (by omega) (by omega) rfl (by decide) ?_
      first | refine z_aload_n dX11_isOfKind_56 rfl ?_ | refine z_aload_nT dX11_isOfKind_56 rfl ?_
      refine h_inst "PierYears$Irons" "PierYears$Piled" 0 dX11_isOfKind_57 zw_196 rfl rfl (Or.inr (Or.inr ⟨rfl, List.mem_of_getElem? (i := 13) rfl⟩)) ?_
      refine h_zret dX11_isOfKind_60 rfl (by omega) rfl rfl ?_
      exact ⟨by decide, rfl⟩
  · refine K_of 0 (by decide) (Nat.le_of_ble_eq_true rfl) (show Z _ _ 0 0 0 [some (zR 33), some (zI w)] [] _ _ from ?_)
    refine z_iload_n dX11_isOfKind_0 rfl ?_
    rcases hw with rfl | rfl | rfl | rfl | rfl | rfl
    · refine z_tswOut (tgt := 61) dX11_isOfKind_1 (by omega) (by omega) (by decide) ?_
      first | refine z_aload_n dX11_isOfKind_61 rfl ?_ | refine z_aload_nT dX11_isOfKind_61 rfl ?_
      refine h_inst "PierYears$Cast" "PierYears$Pier" 1 dX11_isOfKind_62 zw_679 rfl rfl (Or.inl ⟨rfl, List.mem_of_getElem? (i := 3) rfl⟩) ?_
      refine h_zret dX11_isOfKind_65 rfl (by omega) rfl rfl ?_
      exact ⟨by decide, rfl⟩
    · refine z_tswIn (tgt := 36) dX11_isOfKind_1 (by omega) (by omega) (by omega) rfl (by decide) ?_
      first | refine z_aload_n dX11_isOfKind_36 rfl ?_ | refine z_aload_nT dX11_isOfKind_36 rfl ?_
      refine h_inst "PierYears$Cast" "PierYears$Irons" 1 dX11_isOfKind_37 zw_165 rfl rfl (Or.inl ⟨rfl, List.mem_of_getElem? (i := 0) rfl⟩) ?_
      refine h_zret dX11_isOfKind_40 rfl (by omega) rfl rfl ?_
      exact ⟨by decide, rfl⟩
    · refine z_tswIn (tgt := 41) dX11_isOfKind_1 (by omega) (by omega) (by omega) rfl (by decide) ?_
      first | refine z_aload_n dX11_isOfKind_41 rfl ?_ | refine z_aload_nT dX11_isOfKind_41 rfl ?_
      refine h_inst "PierYears$Cast" "PierYears$Cast" 1 dX11_isOfKind_42 zw_175 rfl rfl (Or.inr (Or.inl ⟨rfl, rfl⟩)) ?_
      refine h_zret dX11_isOfKind_45 rfl (by omega) rfl rfl ?_
      exact ⟨by decide, rfl⟩
    · refine z_tswIn (tgt := 46) dX11_isOfKind_1 (by omega) (by omega) (by omega) rfl (by decide) ?_
      first | refine z_aload_n dX11_isOfKind_46 rfl ?_ | refine z_aload_nT dX11_isOfKind_46 rfl ?_
      refine h_inst "PierYears$Cast" "PierYears$Rusty" 0 dX11_isOfKind_47 zw_182 rfl rfl (Or.inr (Or.inr ⟨rfl, List.mem_of_getElem? (i := 7) rfl⟩)) ?_
      refine h_zret dX11_isOfKind_50 rfl (by omega) rfl rfl ?_
      exact ⟨by decide, rfl⟩
    · refine z_tswIn (tgt := 51) dX11_isOfKind_1 (by omega) (by omega) (by omega) rfl (by decide) ?_
      first | refine z_aload_n dX11_isOfKind_51 rfl ?_ | refine z_aload_nT dX11_isOfKind_51 rfl ?_
      refine h_inst "PierYears$Cast" "PierYears$Wooden" 0 dX11_isOfKind_52 zw_189 rfl rfl (Or.inr (Or.inr ⟨rfl, List.mem_of_getElem? (i := 11) rfl⟩)) ?_
      refine h_zret dX11_isOfKind_55 rfl (by omega) rfl rfl ?_
      exact ⟨by decide, rfl⟩
    · refine z_tswIn (tgt := 56) dX11_isOfKind_1 (by omega) (by omega) (by omega) rfl (by decide) ?_
      first | refine z_aload_n dX11_isOfKind_56 rfl ?_ | refine z_aload_nT dX11_isOfKind_56 rfl ?_
      refine h_inst "PierYears$Cast" "PierYears$Piled" 0 dX11_isOfKind_57 zw_196 rfl rfl (Or.inr (Or.inr ⟨rfl, List.mem_of_getElem? (i := 14) rfl⟩)) ?_
      refine h_zret dX11_isOfKind_60 rfl (by omega) rfl rfl ?_
      exact ⟨by decide, rfl⟩
  · refine K_of 0 (by decide) (Nat.le_of_ble_eq_true rfl) (show Z _ _ 0 0 0 [some (zR 34), some (zI w)] [] _ _ from ?_)
    refine z_iload_n dX11_isOfKind_0 rfl ?_
    rcases hw with rfl | rfl | rfl | rfl | rfl | rfl
    · refine z_tswOut (tgt := 61) dX11_isOfKind_1 (by omega) (by omega) (by decide) ?_
      first | refine z_aload_n dX11_isOfKind_61 rfl ?_ | refine z_aload_nT dX11_isOfKind_61 rfl ?_
      refine h_inst "PierYears$Rusty" "PierYears$Pier" 1 dX11_isOfKind_62 zw_679 rfl rfl (Or.inl ⟨rfl, List.mem_of_getElem? (i := 6) rfl⟩) ?_
      refine h_zret dX11_isOfKind_65 rfl (by omega) rfl rfl ?_
      exact ⟨by decide, rfl⟩
    · refine z_tswIn (tgt := 36) dX11_isOfKind_1 (by omega) (by omega) (by omega) rfl (by decide) ?_
      first | refine z_aload_n dX11_isOfKind_36 rfl ?_ | refine z_aload_nT dX11_isOfKind_36 rfl ?_
      refine h_inst "PierYears$Rusty" "PierYears$Irons" 1 dX11_isOfKind_37 zw_165 rfl rfl (Or.inl ⟨rfl, List.mem_of_getElem? (i := 1) rfl⟩) ?_
      refine h_zret dX11_isOfKind_40 rfl (by omega) rfl rfl ?_
      exact ⟨by decide, rfl⟩
    · refine z_tswIn (tgt := 41) dX11_isOfKind_1 (by omega) (by omega) (by omega) rfl (by decide) ?_
      first | refine z_aload_n dX11_isOfKind_41 rfl ?_ | refine z_aload_nT dX11_isOfKind_41 rfl ?_
      refine h_inst "PierYears$Rusty" "PierYears$Cast" 0 dX11_isOfKind_42 zw_175 rfl rfl (Or.inr (Or.inr ⟨rfl, List.mem_of_getElem? (i := 3) rfl⟩)) ?_
      refine h_zret dX11_isOfKind_45 rfl (by omega) rfl rfl ?_
      exact ⟨by decide, rfl⟩
    · refine z_tswIn (tgt := 46) dX11_isOfKind_1 (by omega) (by omega) (by omega) rfl (by decide) ?_
      first | refine z_aload_n dX11_isOfKind_46 rfl ?_ | refine z_aload_nT dX11_isOfKind_46 rfl ?_
      refine h_inst "PierYears$Rusty" "PierYears$Rusty" 1 dX11_isOfKind_47 zw_182 rfl rfl (Or.inr (Or.inl ⟨rfl, rfl⟩)) ?_
      refine h_zret dX11_isOfKind_50 rfl (by omega) rfl rfl ?_
      exact ⟨by decide, rfl⟩
    · refine z_tswIn (tgt := 51) dX11_isOfKind_1 (by omega) (by omega) (by omega) rfl (by decide) ?_
      first | refine z_aload_n dX11_isOfKind_51 rfl ?_ | refine z_aload_nT dX11_isOfKind_51 rfl ?_
      refine h_inst "PierYears$Rusty" "PierYears$Wooden" 0 dX11_isOfKind_52 zw_189 rfl rfl (Or.inr (Or.inr ⟨rfl, List.mem_of_getElem? (i := 12) rfl⟩)) ?_
      refine h_zret dX11_isOfKind_55 rfl (by omega) rfl rfl ?_
      exact ⟨by decide, rfl⟩
    · refine z_tswIn (tgt := 56) dX11_isOfKind_1 (by omega) (by omega) (by omega) rfl (by decide) ?_
      first | refine z_aload_n dX11_isOfKind_56 rfl ?_ | refine z_aload_nT dX11_isOfKind_56 rfl ?_
      refine h_inst "PierYears$Rusty" "PierYears$Piled" 0 dX11_isOfKind_57 zw_196 rfl rfl (Or.inr (Or.inr ⟨rfl, List.mem_of_getElem? (i := 15) rfl⟩)) ?_
      refine h_zret dX11_isOfKind_60 rfl (by omega) rfl rfl ?_
      exact ⟨by decide, rfl⟩
  · refine K_of 0 (by decide) (Nat.le_of_ble_eq_true rfl) (show Z _ _ 0 0 0 [some (zR 35), some (zI w)] [] _ _ from ?_)
    refine z_iload_n dX11_isOfKind_0 rfl ?_
    rcases hw with rfl | rfl | rfl | rfl | rfl | rfl
    · refine z_tswOut (tgt := 61) dX11_isOfKind_1 (by omega) (by omega) (by decide) ?_
      first | refine z_aload_n dX11_isOfKind_61 rfl ?_ | refine z_aload_nT dX11_isOfKind_61 rfl ?_
      refine h_inst "PierYears$Wooden" "PierYears$Pier" 1 dX11_isOfKind_62 zw_679 rfl rfl (Or.inl ⟨rfl, List.mem_of_getElem? (i := 7) rfl⟩) ?_
      refine h_zret dX11_isOfKind_65 rfl (by omega) rfl rfl ?_
      exact ⟨by decide, rfl⟩
    · refine z_tswIn (tgt := 36) dX11_isOfKind_1 (by omega) (by omega) (by omega) rfl (by decide) ?_
      first | refine z_aload_n dX11_isOfKind_36 rfl ?_ | refine z_aload_nT dX11_isOfKind_36 rfl ?_
      refine h_inst "PierYears$Wooden" "PierYears$Irons" 0 dX11_isOfKind_37 zw_165 rfl rfl (Or.inr (Or.inr ⟨rfl, List.mem_of_getElem? (i := 0) rfl⟩)) ?_
      refine h_zret dX11_isOfKind_40 rfl (by omega) rfl rfl ?_
      exact ⟨by decide, rfl⟩
    · refine z_tswIn (tgt := 41) dX11_isOfKind_1 (by omega) (by omega) (by omega) rfl (by decide) ?_
      first | refine z_aload_n dX11_isOfKind_41 rfl ?_ | refine z_aload_nT dX11_isOfKind_41 rfl ?_
      refine h_inst "PierYears$Wooden" "PierYears$Cast" 0 dX11_isOfKind_42 zw_175 rfl rfl (Or.inr (Or.inr ⟨rfl, List.mem_of_getElem? (i := 4) rfl⟩)) ?_
      refine h_zret dX11_isOfKind_45 rfl (by omega) rfl rfl ?_
      exact ⟨by decide, rfl⟩
    · refine z_tswIn (tgt := 46) dX11_isOfKind_1 (by omega) (by omega) (by omega) rfl (by decide) ?_
      first | refine z_aload_n dX11_isOfKind_46 rfl ?_ | refine z_aload_nT dX11_isOfKind_46 rfl ?_
      refine h_inst "PierYears$Wooden" "PierYears$Rusty" 0 dX11_isOfKind_47 zw_182 rfl rfl (Or.inr (Or.inr ⟨rfl, List.mem_of_getElem? (i := 8) rfl⟩)) ?_
      refine h_zret dX11_isOfKind_50 rfl (by omega) rfl rfl ?_
      exact ⟨by decide, rfl⟩
    · refine z_tswIn (tgt := 51) dX11_isOfKind_1 (by omega) (by omega) (by omega) rfl (by decide) ?_
      first | refine z_aload_n dX11_isOfKind_51 rfl ?_ | refine z_aload_nT dX11_isOfKind_51 rfl ?_
      refine h_inst "PierYears$Wooden" "PierYears$Wooden" 1 dX11_isOfKind_52 zw_189 rfl rfl (Or.inr (Or.inl ⟨rfl, rfl⟩)) ?_
      refine h_zret dX11_isOfKind_55 rfl (by omega) rfl rfl ?_
      exact ⟨by decide, rfl⟩
    · refine z_tswIn (tgt := 56) dX11_isOfKind_1 (by omega) (by omega) (by omega) rfl (by decide) ?_
      first | refine z_aload_n dX11_isOfKind_56 rfl ?_ | refine z_aload_nT dX11_isOfKind_56 rfl ?_
      refine h_inst "PierYears$Wooden" "PierYears$Piled" 0 dX11_isOfKind_57 zw_196 rfl rfl (Or.inr (Or.inr ⟨rfl, List.mem_of_getElem? (i := 16) rfl⟩)) ?_
      refine h_zret dX11_isOfKind_60 rfl (by omega) rfl rfl ?_
      exact ⟨by decide, rfl⟩
  · refine K_of 0 (by decide) (Nat.le_of_ble_eq_true rfl) (show Z _ _ 0 0 0 [some (zR 36), some (zI w)] [] _ _ from ?_)
    refine z_iload_n dX11_isOfKind_0 rfl ?_
    rcases hw with rfl | rfl | rfl | rfl | rfl | rfl
    · refine z_tswOut (tgt := 61) dX11_isOfKind_1 (by omega) (by omega) (by decide) ?_
      first | refine z_aload_n dX11_isOfKind_61 rfl ?_ | refine z_aload_nT dX11_isOfKind_61 rfl ?_
      refine h_inst "PierYears$Piled" "PierYears$Pier" 1 dX11_isOfKind_62 zw_679 rfl rfl (Or.inl ⟨rfl, List.mem_of_getElem? (i := 5) rfl⟩) ?_
      refine h_zret dX11_isOfKind_65 rfl (by omega) rfl rfl ?_
      exact ⟨by decide, rfl⟩
    · refine z_tswIn (tgt := 36) dX11_isOfKind_1 (by omega) (by omega) (by omega) rfl (by decide) ?_
      first | refine z_aload_n dX11_isOfKind_36 rfl ?_ | refine z_aload_nT dX11_isOfKind_36 rfl ?_
      refine h_inst "PierYears$Piled" "PierYears$Irons" 0 dX11_isOfKind_37 zw_165 rfl rfl (Or.inr (Or.inr ⟨rfl, List.mem_of_getElem? (i := 1) rfl⟩)) ?_
      refine h_zret dX11_isOfKind_40 rfl (by omega) rfl rfl ?_
      exact ⟨by decide, rfl⟩
    · refine z_tswIn (tgt := 41) dX11_isOfKind_1 (by omega) (by omega) (by omega) rfl (by decide) ?_
      first | refine z_aload_n dX11_isOfKind_41 rfl ?_ | refine z_aload_nT dX11_isOfKind_41 rfl ?_
      refine h_inst "PierYears$Piled" "PierYears$Cast" 0 dX11_isOfKind_42 zw_175 rfl rfl (Or.inr (Or.inr ⟨rfl, List.mem_of_getElem? (i := 5) rfl⟩)) ?_
      refine h_zret dX11_isOfKind_45 rfl (by omega) rfl rfl ?_
      exact ⟨by decide, rfl⟩
    · refine z_tswIn (tgt := 46) dX11_isOfKind_1 (by omega) (by omega) (by omega) rfl (by decide) ?_
      first | refine z_aload_n dX11_isOfKind_46 rfl ?_ | refine z_aload_nT dX11_isOfKind_46 rfl ?_
      refine h_inst "PierYears$Piled" "PierYears$Rusty" 0 dX11_isOfKind_47 zw_182 rfl rfl (Or.inr (Or.inr ⟨rfl, List.mem_of_getElem? (i := 9) rfl⟩)) ?_
      refine h_zret dX11_isOfKind_50 rfl (by omega) rfl rfl ?_
      exact ⟨by decide, rfl⟩
    · refine z_tswIn (tgt := 51) dX11_isOfKind_1 (by omega) (by omega) (by omega) rfl (by decide) ?_
      first | refine z_aload_n dX11_isOfKind_51 rfl ?_ | refine z_aload_nT dX11_isOfKind_51 rfl ?_
      refine h_inst "PierYears$Piled" "PierYears$Wooden" 1 dX11_isOfKind_52 zw_189 rfl rfl (Or.inl ⟨rfl, List.mem_of_getElem? (i := 2) rfl⟩) ?_
      refine h_zret dX11_isOfKind_55 rfl (by omega) rfl rfl ?_
      exact ⟨by decide, rfl⟩
    · refine z_tswIn (tgt := 56) dX11_isOfKind_1 (by omega) (by omega) (by omega) rfl (by decide) ?_
      first | refine z_aload_n dX11_isOfKind_56 rfl ?_ | refine z_aload_nT dX11_isOfKind_56 rfl ?_
      refine h_inst "PierYears$Piled" "PierYears$Piled" 1 dX11_isOfKind_57 zw_196 rfl rfl (Or.inr (Or.inl ⟨rfl, rfl⟩)) ?_
      refine h_zret dX11_isOfKind_60 rfl (by omega) rfl rfl ?_
      exact ⟨by decide, rfl⟩
def aAs (α : Mem) (a w : Int) : Int := if ¬ (0 ≤ a ∧ a < α 5 3) ∨ ¬ (0 ≤ w ∧ w ≤ 5) then BAD else if w = 0 ∨ α 5 (9 + a.toNat) = w ∨ parF (α 5 (9 + a.toNat)) = w then a else -1000013
def nAs (α : Mem) (a w : Int) : Mem := if ¬ (0 ≤ a ∧ a < α 5 3) ∨ ¬ (0 ≤ w ∧ w ≤ 5) then α else if w = 0 ∨ α 5 (9 + a.toNat) = w ∨ parF (α 5 (9 + a.toNat)) = w then rowsU α (α 1) (α 2) (α 3) 0 else rowsU α (α 1) (α 2) (α 3) 3
theorem c_as {a w : Int} (hC : CI σ α) (hO : OK α) (ha : zin a) (hw : zin w) : KI rc M_X11_as [zR 0, zI a, zI w] σ (cP σ α (aAs α a w) (nAs α a w)) := by
  have h3 := OKc_3 hO
  have hR := hC.2.2.2.1
  have bad : ∀ σ2 : Mem, σ2 = σ → (¬ (0 ≤ a ∧ a < α 5 3) ∨ ¬ (0 ≤ w ∧ w ≤ 5)) → Z rc M_X11_as 0 0 17 [some (zR 0), some (zI a), some (zI w)] [] (hp σ2) (qI (cP σ α (aAs α a w) (nAs α a w))) := by
    intro σ2 e hb
    subst e
    refine z_ldc (n := -1000001) dX11_as_17 zw_268 rfl ?_
    refine h_iret dX11_as_19 rfl rfl rfl ?_
    exact ⟨by unfold aAs; rw [if_pos hb], by unfold nAs; rw [if_pos hb]; exact hC, fr.rf⟩
  refine K_of 0 (by decide) (Nat.le_of_ble_eq_true rfl) (show Z _ _ 0 0 0 [some (zR 0), some (zI a), some (zI w)] [] _ _ from ?_)
  first | refine z_aload_n dX11_as_0 rfl ?_ | refine z_aload_nT dX11_as_0 rfl ?_
  refine z_iload_n dX11_as_1 rfl ?_
  refine h_Vi1 (Y' := M_X11_isPier) dX11_as_2 zw_468 zw_470 zs_10 rfl ok_X11_isPier (by decide) rfl (Nat.le_of_ble_eq_true rfl) ⟨rfl, rfl⟩ (by decide) (by first | assumption | rfl) (c_isPier ha hR.2.1 h3) (fun vv σ2 hq => ?_)
  obtain ⟨hv1, rfl⟩ := hq
  refine z_if_eq (tgt := 17) dX11_as_5 (by decide) (by omega) (fun b5 => ?_) (fun b5 => ?_)
  · exact bad _ rfl (by omega)
  · refine z_iload_n dX11_as_8 rfl ?_
    refine z_iconst dX11_as_9 ?_
    refine z_iconst dX11_as_10 ?_
    refine h_Si3 (Y' := M_X11_isWithin) dX11_as_11 zw_265 zw_266 ok_X11_isWithin (by decide) rfl (Nat.le_of_ble_eq_true rfl) ⟨rfl, rfl⟩ (by decide) (c_within hw (by omega) (by omega)) (fun vv σ2 hq => ?_)
    obtain ⟨hv2, rfl⟩ := hq
    refine z_if_ne (tgt := 20) dX11_as_14 (by decide) (by omega) (fun b14 => ?_) (fun b14 => ?_)
    · have hk := OKc_p hO (a := a) (by omega) (by omega)
      obtain ⟨p, rfl⟩ : ∃ p : Nat, a = (p : Int) := ⟨a.toNat, by omega⟩
      obtain ⟨p1, p2, p3, p4⟩ := cR8p hR (p := p) (by omega)
      obtain ⟨q1, q2, q3, q4⟩ := hk.2.2.2.2.2.2.2.2.2 p (by omega)
      first | refine z_aload_n dX11_as_20 rfl ?_ | refine z_aload_nT dX11_as_20 rfl ?_
      first | refine z_aload_n dX11_as_21 rfl ?_ | refine z_aload_nT dX11_as_21 rfl ?_
      refine h_getr dX11_as_22 fl_X11_26 (by first | assumption | rfl) (by rfl) ?_
      refine h_getr dX11_as_25 fl_X11_315 (by first | assumption | rfl) (by rfl) ?_
      refine z_iload_n dX11_as_28 rfl ?_
      first | refine h_iald dX11_as_29 (by first | assumption | rfl) (by repeat' first | apply zc_add | apply zc_mul | with_reducible exact zc_var _ | exact zc_lit _) (by omega) (by decide) ?_ | refine z_ialdT _ dX11_as_29 (by assumption) (by repeat' first | apply zc_add | apply zc_mul | with_reducible exact zc_var _ | exact zc_lit _) (by omega) (by omega) ?_
      rw [p1]
      refine h_Vr1 (Y' := M_X11_bodyOf) dX11_as_30 zw_672 zw_674 zs_25 rfl ok_X11_bodyOf (by decide) rfl (Nat.le_of_ble_eq_true rfl) ⟨rfl, rfl⟩ (by decide) (by first | assumption | rfl) (c_bodyOf q1.1 q1.2) (fun vv σ2 hq => ?_)
      obtain ⟨rfl, rfl⟩ := hq
      refine z_iload_n dX11_as_33 rfl ?_
      refine h_Si2 (Y' := M_X11_isOfKind) dX11_as_34 zw_676 zw_677 ok_X11_isOfKind (by decide) rfl (Nat.le_of_ble_eq_true rfl) ⟨rfl, rfl⟩ (by decide) (c_isOfKind q1.1 q1.2 (by omega) (by omega)) (fun vv σ2 hq => ?_)
      obtain ⟨hv3, rfl⟩ := hq
      refine z_if_ne (tgt := 46) dX11_as_37 (by decide) (by rcases hv3 with ⟨h, _⟩ | ⟨h, _⟩ <;> omega) (fun b37 => ?_) (fun b37 => ?_)
      · have hyes : w = 0 ∨ α 5 (9 + p) = w ∨ parF (α 5 (9 + p)) = w := by
          rcases hv3 with ⟨_, h⟩ | ⟨h, _⟩
          · exact h
          · exact absurd h b37
        first | refine z_aload_n dX11_as_46 rfl ?_ | refine z_aload_nT dX11_as_46 rfl ?_
        refine z_iload_n dX11_as_47 rfl ?_
        refine h_Vi1 (Y' := M_X11_fine) dX11_as_48 zw_278 zw_280 zs_1 rfl ok_X11_fine (by decide) rfl (Nat.le_of_ble_eq_true rfl) ⟨rfl, rfl⟩ (by decide) (by first | assumption | rfl) (c_fine) (fun vv σ2 hq => ?_)
        obtain ⟨rfl, rfl⟩ := hq
        refine h_iret dX11_as_51 rfl rfl rfl ?_
        refine ⟨by unfold aAs; rw [if_neg (by omega), if_pos (by exact hyes)], ?_⟩
        unfold nAs
        rw [if_neg (by omega), if_pos (by exact hyes)]
        exact CI_st hC 0
      · have hno : ¬ (w = 0 ∨ α 5 (9 + p) = w ∨ parF (α 5 (9 + p)) = w) := by
          rcases hv3 with ⟨h, _⟩ | ⟨_, h⟩
          · omega
          · exact h
        first | refine z_aload_n dX11_as_40 rfl ?_ | refine z_aload_nT dX11_as_40 rfl ?_
        refine z_iconst dX11_as_41 ?_
        refine h_Vi1 (Y' := M_X11_found) dX11_as_42 zw_269 zw_271 zs_0 rfl ok_X11_found (by decide) rfl (Nat.le_of_ble_eq_true rfl) ⟨rfl, rfl⟩ (by decide) (by first | assumption | rfl) (c_found) (fun vv σ2 hq => ?_)
        obtain ⟨rfl, rfl⟩ := hq
        refine h_iret dX11_as_45 rfl rfl rfl ?_
        refine ⟨by unfold aAs; rw [if_neg (by omega), if_neg (by exact hno)]; rfl, ?_⟩
        unfold nAs
        rw [if_neg (by omega), if_neg (by exact hno)]
        exact CI_st hC 3
    · exact bad _ rfl (by omega)
theorem m_parentOf {k : Int} (h1 : 1 ≤ k) (h2 : k ≤ 5) : KI rc M_X12_parentOf [zI k] σ (fun v σ' => v = parF k ∧ σ' = σ) := by
  refine K_of 0 (by decide) (Nat.le_of_ble_eq_true rfl) (show Z _ _ 0 0 0 [some (zI k)] [] _ _ from ?_)
  refine z_iload_n dX12_parentOf_0 rfl ?_
  refine z_iconst dX12_parentOf_1 ?_
  refine z_icmp_eq (tgt := 10) dX12_parentOf_2 (by decide) (by omega) (by omega) (fun b2 => ?_) (fun b2 => ?_)
  · refine z_iconst dX12_parentOf_10 ?_
    refine z_goto (tgt := 24) dX12_parentOf_11 (by decide) ?_
    refine h_iret dX12_parentOf_24 rfl rfl rfl ?_
    exact ⟨by unfold parF; rw [if_pos (by omega)], rfl⟩
  · refine z_iload_n dX12_parentOf_5 rfl ?_
    refine z_iconst dX12_parentOf_6 ?_
    refine z_icmp_ne (tgt := 14) dX12_parentOf_7 (by decide) (by omega) (by omega) (fun b7 => ?_) (fun b7 => ?_)
    · refine z_iload_n dX12_parentOf_14 rfl ?_
      refine z_iconst dX12_parentOf_15 ?_
      refine z_icmp_ne (tgt := 23) dX12_parentOf_16 (by decide) (by omega) (by omega) (fun b16 => ?_) (fun b16 => ?_)
      · refine z_iconst dX12_parentOf_23 ?_
        refine h_iret dX12_parentOf_24 rfl rfl rfl ?_
        exact ⟨by unfold parF; rw [if_neg (by omega), if_neg (by omega)], rfl⟩
      · refine z_iconst dX12_parentOf_19 ?_
        refine z_goto (tgt := 24) dX12_parentOf_20 (by decide) ?_
        refine h_iret dX12_parentOf_24 rfl rfl rfl ?_
        exact ⟨by unfold parF; rw [if_neg (by omega), if_pos (by omega)], rfl⟩
    · refine z_iconst dX12_parentOf_10 ?_
      refine z_goto (tgt := 24) dX12_parentOf_11 (by decide) ?_
      refine h_iret dX12_parentOf_24 rfl rfl rfl ?_
      exact ⟨by unfold parF; rw [if_pos (by omega)], rfl⟩
theorem r_as {a w : Int} (hM : MI σ α) (hO : OK α) (ha : zin a) (hw : zin w) : KI rc M_X12_as [zR 40, zI a, zI w] σ (mP σ α (aAs α a w) (nAs α a w)) := by
  have h3 := OKc_3 hO
  have hR := hM.2.2.2.1
  have bad : ∀ σ2 : Mem, σ2 = σ → (¬ (0 ≤ a ∧ a < α 5 3) ∨ ¬ (0 ≤ w ∧ w ≤ 5)) → Z rc M_X12_as 0 0 17 [some (zR 40), some (zI a), some (zI w), none, none] [] (hp σ2) (qI (mP σ α (aAs α a w) (nAs α a w))) := by
    intro σ2 e hb
    subst e
    refine z_ldc (n := -1000001) dX12_as_17 zw_860 rfl ?_
    refine h_iret dX12_as_19 rfl rfl rfl ?_
    exact ⟨by unfold aAs; rw [if_pos hb], by unfold nAs; rw [if_pos hb]; exact hM, fr.rf⟩
  refine K_of 2 (by decide) (Nat.le_of_ble_eq_true rfl) (show Z _ _ 0 0 0 [some (zR 40), some (zI a), some (zI w), none, none] [] _ _ from ?_)
  first | refine z_aload_n dX12_as_0 rfl ?_ | refine z_aload_nT dX12_as_0 rfl ?_
  refine z_iload_n dX12_as_1 rfl ?_
  refine h_Vi1 (Y' := M_X12_isOne) dX12_as_2 zw_975 zw_977 zs_38 rfl ok_X12_isOne (by decide) rfl (Nat.le_of_ble_eq_true rfl) ⟨rfl, rfl⟩ (by decide) (by first | assumption | rfl) (m_isOne ha (hR 3 (by omega)) h3) (fun vv σ2 hq => ?_)
  obtain ⟨hv1, rfl⟩ := hq
  refine z_if_eq (tgt := 17) dX12_as_5 (by decide) (by omega) (fun b5 => ?_) (fun b5 => ?_)
  · exact bad _ rfl (by omega)
  · refine z_iload_n dX12_as_8 rfl ?_
    refine z_iconst dX12_as_9 ?_
    refine z_iconst dX12_as_10 ?_
    refine h_Si3 (Y' := M_X12_in) dX12_as_11 zw_857 zw_858 ok_X12_in (by decide) rfl (Nat.le_of_ble_eq_true rfl) ⟨rfl, rfl⟩ (by decide) (m_within hw (by omega) (by omega)) (fun vv σ2 hq => ?_)
    obtain ⟨hv2, rfl⟩ := hq
    refine z_if_ne (tgt := 20) dX12_as_14 (by decide) (by omega) (fun b14 => ?_) (fun b14 => ?_)
    · have hk := OKc_p hO (a := a) (by omega) (by omega)
      obtain ⟨p, rfl⟩ : ∃ p : Nat, a = (p : Int) := ⟨a.toNat, by omega⟩
      have p1 := hR (9 + p) (by omega)
      obtain ⟨q1, q2, q3, q4⟩ := hk.2.2.2.2.2.2.2.2.2 p (by omega)
      have yes : (w = 0 ∨ α 5 (9 + p) = w ∨ parF (α 5 (9 + p)) = w) → ∀ σ3 : Mem, σ3 = σ2 → Z rc M_X12_as 0 0 47 [some (zR 40), some (zI (p : Int)), some (zI w), some (zI (α 5 (9 + p))), none] [] (hp σ3) (qI (mP σ2 α (aAs α p w) (nAs α p w))) := by
        intro hyes σ3 e
        subst e
        refine z_iconst dX12_as_47 ?_
        refine z_goto (tgt := 52) dX12_as_48 (by decide) ?_
        refine z_istore dX12_as_52 (by decide) rfl ?_
        refine z_iload dX12_as_54 rfl ?_
        refine z_if_eq (tgt := 67) dX12_as_56 (by decide) (by omega) (fun b56 => ?_) (fun b56 => ?_)
        · omega
        · first | refine z_aload_n dX12_as_59 rfl ?_ | refine z_aload_nT dX12_as_59 rfl ?_
          refine z_iload_n dX12_as_60 rfl ?_
          refine h_Vi1 (Y' := M_X12_done) dX12_as_61 zw_866 zw_868 zs_27 rfl ok_X12_done (by decide) rfl (Nat.le_of_ble_eq_true rfl) ⟨rfl, rfl⟩ (by decide) (by first | assumption | rfl) (m_done) (fun vv σ2 hq => ?_)
          obtain ⟨rfl, rfl⟩ := hq
          refine z_goto (tgt := 72) dX12_as_64 (by decide) ?_
          refine h_iret dX12_as_72 rfl rfl rfl ?_
          refine ⟨by unfold aAs; rw [if_neg (by omega), if_pos (by exact hyes)], ?_⟩
          unfold nAs
          rw [if_neg (by omega), if_pos (by exact hyes)]
          exact MI_st hM 0
      first | refine z_aload_n dX12_as_20 rfl ?_ | refine z_aload_nT dX12_as_20 rfl ?_
      refine h_getr dX12_as_21 fl_X12_22 (by first | assumption | rfl) (by rfl) ?_
      refine z_bipush dX12_as_24 rfl ?_
      refine z_iload_n dX12_as_26 rfl ?_
      refine z_iadd dX12_as_27 ?_
      first | refine h_iald dX12_as_28 (by first | assumption | rfl) (by repeat' first | apply zc_add | apply zc_mul | with_reducible exact zc_var _ | exact zc_lit _) (by omega) (by decide) ?_ | refine z_ialdT _ dX12_as_28 (by assumption) (by repeat' first | apply zc_add | apply zc_mul | with_reducible exact zc_var _ | exact zc_lit _) (by omega) (by omega) ?_
      rw [p1]
      refine z_istore_n dX12_as_29 (by decide) rfl ?_
      refine z_iload_n dX12_as_30 rfl ?_
      refine z_if_eq (tgt := 47) dX12_as_31 (by decide) (by omega) (fun b31 => ?_) (fun b31 => ?_)
      · exact yes (Or.inl b31) _ rfl
      · refine z_iload_n dX12_as_34 rfl ?_
        refine z_iload_n dX12_as_35 rfl ?_
        refine z_icmp_eq (tgt := 47) dX12_as_36 (by decide) (by omega) (by omega) (fun b36 => ?_) (fun b36 => ?_)
        · exact yes (Or.inr (Or.inl b36)) _ rfl
        · refine z_iload_n dX12_as_39 rfl ?_
          refine h_Si1 (Y' := M_X12_parentOf) dX12_as_40 zw_1096 zw_1097 ok_X12_parentOf (by decide) rfl (Nat.le_of_ble_eq_true rfl) ⟨rfl, rfl⟩ (by decide) (m_parentOf q1.1 q1.2) (fun vv σ2 hq => ?_)
          obtain ⟨rfl, rfl⟩ := hq
          have hpz : zin (parF (α 5 (9 + p))) := by unfold parF; split <;> (try split) <;> decide
          refine z_iload_n dX12_as_43 rfl ?_
          refine z_icmp_ne (tgt := 51) dX12_as_44 (by decide) (by omega) (by omega) (fun b44 => ?_) (fun b44 => ?_)
          · have hno : ¬ (w = 0 ∨ α 5 (9 + p) = w ∨ parF (α 5 (9 + p)) = w) := by
              intro h
              rcases h with h | h | h
              · exact b31 h
              · exact b36 h
              · exact b44 h
            refine z_iconst dX12_as_51 ?_
            refine z_istore dX12_as_52 (by decide) rfl ?_
            refine z_iload dX12_as_54 rfl ?_
            refine z_if_eq (tgt := 67) dX12_as_56 (by decide) (by omega) (fun b56 => ?_) (fun b56 => ?_)
            · first | refine z_aload_n dX12_as_67 rfl ?_ | refine z_aload_nT dX12_as_67 rfl ?_
              refine z_iconst dX12_as_68 ?_
              refine h_Vi1 (Y' := M_X12_finds) dX12_as_69 zw_861 zw_863 zs_26 rfl ok_X12_finds (by decide) rfl (Nat.le_of_ble_eq_true rfl) ⟨rfl, rfl⟩ (by decide) (by first | assumption | rfl) (m_finds) (fun vv σ2 hq => ?_)
              obtain ⟨rfl, rfl⟩ := hq
              refine h_iret dX12_as_72 rfl rfl rfl ?_
              refine ⟨by unfold aAs; rw [if_neg (by omega), if_neg (by exact hno)]; rfl, ?_⟩
              unfold nAs
              rw [if_neg (by omega), if_neg (by exact hno)]
              exact MI_st hM 3
            · omega
          · exact yes (Or.inr (Or.inr b44)) _ rfl
    · exact bad _ rfl (by omega)
end
