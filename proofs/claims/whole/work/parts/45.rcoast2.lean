/-! the reference: coast -/
section
variable {rc : ZRC} {σ α : Mem}
theorem r_coast (hM : MI σ α) (hO : OK α) : KI rc M_X12_coast [zR 40] σ (mP σ α (aCoast α) (nCoast α)) := by
  have hl := hO.1.2.1
  refine K_of 1 (by decide) (Nat.le_of_ble_eq_true rfl) (show Z _ _ 0 0 0 [some (zR 40), none] [] _ _ from ?_)
  first | refine z_aload_n dX12_coast_0 rfl ?_ | refine z_aload_nT dX12_coast_0 rfl ?_
  refine h_Vi0 (Y' := M_X12_isRead) dX12_coast_1 zw_894 zw_896 zs_28 rfl ok_X12_isRead (by decide) rfl (Nat.le_of_ble_eq_true rfl) ⟨rfl, rfl⟩ (by decide) (by first | assumption | rfl) (m_isRead (N := (α 0 1).toNat) (f := α 4) (by rw [hM.2.2.1.1]; omega) (fun i hi => hM.2.2.1.2 i (by omega)) (OK_TF hO)) (fun vv σ2 hq => ?_)
  obtain ⟨q, qf⟩ := hq
  obtain ⟨⟨b1, b2⟩, ⟨d1, d2⟩, ⟨c1, c2⟩, d, ⟨⟨f1, f2⟩, f3, f4⟩, ⟨k1, k2⟩, ⟨g1, g2⟩⟩ := hM
  rcases q with ⟨rfl, o1, o2⟩ | ⟨rfl, o1, o2, o3⟩
  · have o1 : (coR α).ok = true := o1
    have o2 : mR σ2 46 (coR α).va := o2
    refine z_istore_n dX12_coast_4 (by decide) rfl ?_
    first | refine z_aload_n dX12_coast_5 rfl ?_ | refine z_aload_nT dX12_coast_5 rfl ?_
    refine z_iconst dX12_coast_6 ?_
    refine h_puti dX12_coast_7 fp_X12_77 (by first | assumption | rfl) (by rfl) ?_
    refine z_iload_n dX12_coast_10 rfl ?_
    refine z_if_ne (tgt := 30) dX12_coast_11 (by decide) (by omega) (fun b11 => ?_) (fun b11 => ?_)
    · obtain ⟨σ1, rfl⟩ : ∃ z, z = σ2 := ⟨_, rfl⟩
      first | refine z_aload_n dX12_coast_30 rfl ?_ | refine z_aload_nT dX12_coast_30 rfl ?_
      refine h_getr dX12_coast_31 fl_X12_25 (by first | assumption | rfl) (by rfl) ?_
      refine z_iconst dX12_coast_34 ?_
      first | refine z_aload_n dX12_coast_35 rfl ?_ | refine z_aload_nT dX12_coast_35 rfl ?_
      refine h_getr dX12_coast_36 fl_X12_22 (by first | assumption | rfl) (by rfl) ?_
      refine z_iconst dX12_coast_39 ?_
      refine h_Sv4 (Y' := M_X12_lay) dX12_coast_40 zw_930 zw_931 ok_X12_lay (by decide) rfl (Nat.le_of_ble_eq_true rfl) ⟨rfl, rfl⟩ (by decide) (m_lay (f := 0) (g := 0) (a := 46) (b := 45) rfl rfl (by decide) (by decide) (by decide) (by decide) (by decide)) (fun σ2 hq => ?_)
      obtain ⟨h1, h2, h3⟩ := hq
      first | refine z_aload_n dX12_coast_43 rfl ?_ | refine z_aload_nT dX12_coast_43 rfl ?_
      refine z_iconst dX12_coast_44 ?_
      refine h_puti dX12_coast_45 fp_X12_133 (by first | assumption | rfl) (by rfl) ?_
      first | refine z_aload_n dX12_coast_48 rfl ?_ | refine z_aload_nT dX12_coast_48 rfl ?_
      refine h_getr dX12_coast_49 fl_X12_22 (by first | assumption | rfl) (by rfl) ?_
      refine z_iconst dX12_coast_52 ?_
      first | refine h_iald dX12_coast_53 (by first | assumption | rfl) (by repeat' first | apply zc_add | apply zc_mul | with_reducible exact zc_var _ | exact zc_lit _) (by omega) (by decide) ?_ | refine z_ialdT _ dX12_coast_53 (by assumption) (by repeat' first | apply zc_add | apply zc_mul | with_reducible exact zc_var _ | exact zc_lit _) (by omega) (by omega) ?_
      refine h_iret dX12_coast_54 rfl rfl rfl ?_
      have z : ∀ o j, o ≠ 45 → ¬ (o = 40 ∧ j = 18) → ¬ (o = 40 ∧ j = 4) → ¬ (o = 40 ∧ 6 ≤ j ∧ j ≤ 10) → o ≠ 46 → zu σ2 40 18 0 o j = σ o j := fun o j e1 e2 e3 e4 e5 => by
        by_cases ho : o = 40
        · subst ho
          rw [zu_j (by omega), h3 _ _ e1, zu_j (by omega)]
          exact qf _ _ e4 e5
        · rw [zu_o ho, h3 _ _ e1, zu_o ho]
          exact qf _ _ e4 e5
      have r45 : ∀ i, i < 29 → zu σ2 40 18 0 45 i = (coR α).va i := fun i hi => by
        have q := h1 i hi
        rw [Nat.zero_add] at q
        rw [zu_o (by omega), q, zu_o (by omega)]
        exact o2 i hi
      refine ⟨by unfold aCoast; rw [if_pos o1]; exact r45 3 (by omega), ?_, fun o j h => by rw [zu_o (by omega), h3 o j (by omega), zu_o (by omega)]; exact qf o j (by omega) (by omega)⟩
      unfold nCoast
      rw [if_pos o1]
      exact ⟨⟨(z _ _ (by omega) (by omega) (by omega) (by omega) (by omega)).trans b1, (z _ _ (by omega) (by omega) (by omega) (by omega) (by omega)).trans b2⟩, ⟨fun r hr => ⟨(z _ _ (by omega) (by omega) (by omega) (by omega) (by omega)).trans (d1 r hr).1, (z _ _ (by omega) (by omega) (by omega) (by omega) (by omega)).trans (d1 r hr).2⟩, fun i hi => (z _ _ (by omega) (by omega) (by omega) (by omega) (by omega)).trans (d2 i hi)⟩, ⟨by rw [zu_j (by omega), h3 _ _ (by omega), zu_eq]; rfl, fun i hi => by have hi : (i : Int) < 0 := hi; omega⟩, r45, ⟨⟨(z _ _ (by omega) (by omega) (by omega) (by omega) (by omega)).trans f1, (z _ _ (by omega) (by omega) (by omega) (by omega) (by omega)).trans f2⟩, fun h i hi => (z _ _ (by omega) (by omega) (by omega) (by omega) (by omega)).trans (f3 h i hi), fun h i hi => (z _ _ (by omega) (by omega) (by omega) (by omega) (by omega)).trans (f4 h i hi)⟩, ⟨zu_eq, fun j hj i hi => by have hj : (j : Int) < 0 := hj; omega⟩, ⟨(z _ _ (by omega) (by omega) (by omega) (by omega) (by omega)).trans g1, fun i hi => (z _ _ (by omega) (by omega) (by omega) (by omega) (by omega)).trans (g2 i hi)⟩⟩
    · omega
  · have o1 : (coR α).ok = false := o1
    have o3 : σ2 40 10 = (coR α).fa := o3
    have o2 : σ2 40 7 = ((coR α).pl : Int) := o2
    have on : ¬ (coR α).ok = true := by rw [o1]; decide
    refine z_istore_n dX12_coast_4 (by decide) rfl ?_
    first | refine z_aload_n dX12_coast_5 rfl ?_ | refine z_aload_nT dX12_coast_5 rfl ?_
    refine z_iconst dX12_coast_6 ?_
    refine h_puti dX12_coast_7 fp_X12_77 (by first | assumption | rfl) (by rfl) ?_
    refine z_iload_n dX12_coast_10 rfl ?_
    refine z_if_ne (tgt := 30) dX12_coast_11 (by decide) (by omega) (fun b11 => ?_) (fun b11 => ?_)
    · omega
    · first | refine z_aload_n dX12_coast_14 rfl ?_ | refine z_aload_nT dX12_coast_14 rfl ?_
      first | refine z_aload_n dX12_coast_15 rfl ?_ | refine z_aload_nT dX12_coast_15 rfl ?_
      refine h_geti dX12_coast_16 fl_X12_93 (by first | assumption | rfl) (by rfl) ?_
      refine h_puti dX12_coast_19 fp_X12_125 (by first | assumption | rfl) (by rfl) ?_
      refine z_ldc (n := -1000100) dX12_coast_22 zw_929 rfl ?_
      first | refine z_aload_n dX12_coast_24 rfl ?_ | refine z_aload_nT dX12_coast_24 rfl ?_
      refine h_geti dX12_coast_25 fl_X12_84 (by first | assumption | rfl) (by rfl) ?_
      refine z_isub dX12_coast_28 ?_
      refine h_iret dX12_coast_29 rfl rfl rfl ?_
      rw [zu_j (show 10 ≠ 4 by omega), o3]
      have z : ∀ o j, ¬ (o = 40 ∧ j = 11) → ¬ (o = 40 ∧ j = 4) → ¬ (o = 40 ∧ 6 ≤ j ∧ j ≤ 10) → o ≠ 46 → zu (zu σ2 40 4 0) 40 11 (coR α).fa o j = σ o j := fun o j e1 e2 e3 e4 => by
        by_cases ho : o = 40
        · subst ho
          rw [zu_j (by omega), zu_j (by omega)]
          exact qf _ _ e3 e4
        · rw [zu_o ho, zu_o ho]
          exact qf _ _ e3 e4
      refine ⟨by unfold aCoast; rw [if_neg on, zu_j (by omega), zu_j (by omega), o2], ?_, fun o j h => z o j (by omega) (by omega) (by omega) (by omega)⟩
      unfold nCoast
      rw [if_neg on]
      exact ⟨⟨(z _ _ (by omega) (by omega) (by omega) (by omega)).trans b1, zu_eq⟩, ⟨fun r hr => ⟨(z _ _ (by omega) (by omega) (by omega) (by omega)).trans (d1 r hr).1, (z _ _ (by omega) (by omega) (by omega) (by omega)).trans (d1 r hr).2⟩, fun i hi => (z _ _ (by omega) (by omega) (by omega) (by omega)).trans (d2 i hi)⟩, ⟨by rw [zu_j (by omega), zu_eq]; rfl, fun i hi => by have hi : (i : Int) < 0 := hi; omega⟩, fun i hi => (z _ _ (by omega) (by omega) (by omega) (by omega)).trans (d i hi), ⟨⟨(z _ _ (by omega) (by omega) (by omega) (by omega)).trans f1, (z _ _ (by omega) (by omega) (by omega) (by omega)).trans f2⟩, fun h i hi => (z _ _ (by omega) (by omega) (by omega) (by omega)).trans (f3 h i hi), fun h i hi => (z _ _ (by omega) (by omega) (by omega) (by omega)).trans (f4 h i hi)⟩, ⟨(z _ _ (by omega) (by omega) (by omega) (by omega)).trans k1, fun j hj i hi => by rw [badU_10 j]; exact (z _ _ (by omega) (by omega) (by omega) (by omega)).trans (k2 j hj i hi)⟩, ⟨(z _ _ (by omega) (by omega) (by omega) (by omega)).trans g1, fun i hi => (z _ _ (by omega) (by omega) (by omega) (by omega)).trans (g2 i hi)⟩⟩
end
