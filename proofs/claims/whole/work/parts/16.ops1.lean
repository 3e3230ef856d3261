/-! calls that read: class (c_) and reference (r_) -/
theorem OKc_3 {α : Mem} (h : OK α) : 0 ≤ α 5 3 ∧ α 5 3 ≤ 5 := by
  rcases h.2.2.1.1 with h | h
  · exact h.2.1
  · have := h.1.2.1; omega
theorem OKc_8 {α : Mem} (h : OK α) : α 5 8 = 0 ∨ α 5 8 = 1 := by
  rcases h.2.2.1.1 with h | h
  · exact Or.inr h.1
  · exact Or.inl h.1.1
theorem OKc_p {α : Mem} (h : OK α) {a : Int} (h0 : 0 ≤ a) (h1 : a < α 5 3) : cok 999 (α 5) := by
  rcases h.2.2.1.1 with h | h
  · exact h
  · have := h.1.2.1; omega
theorem OKc_s {α : Mem} (h : OK α) (h0 : ¬ α 5 8 = 0) : cok 999 (α 5) := by
  rcases h.2.2.1.1 with h | h
  · exact h
  · exact absurd h.1.1 h0
theorem CI13 {σ σ' α : Mem} (h : CI σ α) (hf : fr 13 5 σ σ') : CI σ' α ∧ fr 0 40 σ σ' := ⟨h.keep (fun o j _ h2 => hf o j (by unfold cse at h2; omega)), fun o j h1 => hf o j (by omega)⟩
theorem MI47 {σ σ' α : Mem} (h : MI σ α) (hf : fm 47 σ σ') : MI σ' α ∧ fr 40 15 σ σ' := ⟨h.keep (fun o j _ _ h2 => hf o j (by unfold mse at h2; omega)), fun o j h1 => hf o j (by omega)⟩
section
variable {rc : ZRC} {σ α : Mem}
theorem c_fault (hC : CI σ α) : KI rc M_X11_fault [zR 0] σ (cP σ α (α 0 2) α) := by
  refine K_of 0 (by decide) (Nat.le_of_ble_eq_true rfl) (show Z _ _ 0 0 0 [some (zR 0)] [] _ _ from ?_)
  first | refine z_aload_n dX11_fault_0 rfl ?_ | refine z_aload_nT dX11_fault_0 rfl ?_
  refine h_geti dX11_fault_1 fl_X11_98 (by first | assumption | rfl) (by rfl) ?_
  refine h_iret dX11_fault_4 rfl rfl rfl ?_
  exact ⟨hC.1.2, hC, fr.rf⟩
theorem r_fault (hM : MI σ α) : KI rc M_X12_fault [zR 40] σ (mP σ α (α 0 2) α) := by
  refine K_of 0 (by decide) (Nat.le_of_ble_eq_true rfl) (show Z _ _ 0 0 0 [some (zR 40)] [] _ _ from ?_)
  first | refine z_aload_n dX12_fault_0 rfl ?_ | refine z_aload_nT dX12_fault_0 rfl ?_
  refine h_geti dX12_fault_1 fl_X12_125 (by first | assumption | rfl) (by rfl) ?_
  refine h_iret dX12_fault_4 rfl rfl rfl ?_
  exact ⟨hM.1.2, hM, fr.rf⟩
theorem c_status (hC : CI σ α) : KI rc M_X11_status [zR 0] σ (cP σ α (α 0 0) α) := by
  refine K_of 0 (by decide) (Nat.le_of_ble_eq_true rfl) (show Z _ _ 0 0 0 [some (zR 0)] [] _ _ from ?_)
  first | refine z_aload_n dX11_status_0 rfl ?_ | refine z_aload_nT dX11_status_0 rfl ?_
  refine h_geti dX11_status_1 fl_X11_102 (by first | assumption | rfl) (by rfl) ?_
  refine h_iret dX11_status_4 rfl rfl rfl ?_
  exact ⟨hC.1.1, hC, fr.rf⟩
theorem r_status (hM : MI σ α) : KI rc M_X12_status [zR 40] σ (mP σ α (α 0 0) α) := by
  refine K_of 0 (by decide) (Nat.le_of_ble_eq_true rfl) (show Z _ _ 0 0 0 [some (zR 40)] [] _ _ from ?_)
  first | refine z_aload_n dX12_status_0 rfl ?_ | refine z_aload_nT dX12_status_0 rfl ?_
  refine h_geti dX12_status_1 fl_X12_57 (by first | assumption | rfl) (by rfl) ?_
  refine h_iret dX12_status_4 rfl rfl rfl ?_
  exact ⟨hM.1.1, hM, fr.rf⟩
def aTrace (α : Mem) (i : Int) : Int := if 0 ≤ i ∧ i < α 0 4 then α 8 i.toNat else NONE
theorem k_left {i : Int} (hC : CI σ α) (hO : OK α) (hi : zin i) : KI rc M_X0_left [zR 30, zI i] σ (fun v σ' => v = aTrace α i ∧ σ' = σ) := by
  have hb := hO.1.2.2.2.2.1
  have g1 := hC.2.2.2.2.2.2.1
  have g2 := hC.2.2.2.2.2.2.2
  refine K_of 0 (by decide) (Nat.le_of_ble_eq_true rfl) (show Z _ _ 0 0 0 [some (zR 30), some (zI i)] [] _ _ from ?_)
  refine z_iload_n dX0_left_0 rfl ?_
  refine z_if_lt (tgt := 21) dX0_left_1 (by decide) (by omega) (fun b1 => ?_) (fun b1 => ?_)
  · refine z_ldc (n := -1000000) dX0_left_21 zw_747 rfl ?_
    refine h_iret dX0_left_23 rfl rfl rfl ?_
    exact ⟨by unfold aTrace; rw [if_neg (by omega)], rfl⟩
  · refine z_iload_n dX0_left_4 rfl ?_
    first | refine z_aload_n dX0_left_5 rfl ?_ | refine z_aload_nT dX0_left_5 rfl ?_
    refine h_geti dX0_left_6 fl_X0_15 (by first | assumption | rfl) (by rfl) ?_
    refine z_icmp_ge (tgt := 21) dX0_left_9 (by decide) (by omega) (by omega) (fun b9 => ?_) (fun b9 => ?_)
    · refine z_ldc (n := -1000000) dX0_left_21 zw_747 rfl ?_
      refine h_iret dX0_left_23 rfl rfl rfl ?_
      exact ⟨by unfold aTrace; rw [if_neg (by omega)], rfl⟩
    · obtain ⟨p, rfl⟩ : ∃ p : Nat, i = (p : Int) := ⟨i.toNat, by omega⟩
      first | refine z_aload_n dX0_left_12 rfl ?_ | refine z_aload_nT dX0_left_12 rfl ?_
      refine h_getr dX0_left_13 fl_X0_11 (by first | assumption | rfl) (by rfl) ?_
      refine z_iload_n dX0_left_16 rfl ?_
      first | refine h_iald dX0_left_17 (by first | assumption | rfl) (by repeat' first | apply zc_add | apply zc_mul | with_reducible exact zc_var _ | exact zc_lit _) (by omega) (by decide) ?_ | refine z_ialdT _ dX0_left_17 (by assumption) (by repeat' first | apply zc_add | apply zc_mul | with_reducible exact zc_var _ | exact zc_lit _) (by omega) (by omega) ?_
      refine z_goto (tgt := 23) dX0_left_18 (by decide) ?_
      refine h_iret dX0_left_23 rfl rfl rfl ?_
      exact ⟨by unfold aTrace; rw [if_pos (by omega), g2 p (by omega)]; rfl, rfl⟩
theorem c_trace {i : Int} (hC : CI σ α) (hO : OK α) (hi : zin i) : KI rc M_X11_trace [zR 0, zI i] σ (cP σ α (aTrace α i) α) := by
  refine K_of 0 (by decide) (Nat.le_of_ble_eq_true rfl) (show Z _ _ 0 0 0 [some (zR 0), some (zI i)] [] _ _ from ?_)
  first | refine z_aload_n dX11_trace_0 rfl ?_ | refine z_aload_nT dX11_trace_0 rfl ?_
  refine h_getr dX11_trace_1 fl_X11_49 (by first | assumption | rfl) (by rfl) ?_
  refine z_iload_n dX11_trace_4 rfl ?_
  refine h_Vi1 (Y' := M_X0_left) dX11_trace_5 zw_743 zw_744 zw_745 rfl ok_X0_left (by decide) rfl (Nat.le_of_ble_eq_true rfl) ⟨rfl, rfl⟩ (by decide) (by first | assumption | rfl) (k_left hC hO hi) (fun vv σ2 hq => ?_)
  obtain ⟨rfl, rfl⟩ := hq
  refine h_iret dX11_trace_8 rfl rfl rfl ?_
  exact ⟨rfl, hC, fr.rf⟩
theorem r_trace {i : Int} (hM : MI σ α) (hO : OK α) (hi : zin i) : KI rc M_X12_trace [zR 40, zI i] σ (mP σ α (aTrace α i) α) := by
  have hb := hO.1.2.2.2.2.1
  have g1 := hM.2.2.2.2.2.2.1
  have g2 := hM.2.2.2.2.2.2.2
  refine K_of 0 (by decide) (Nat.le_of_ble_eq_true rfl) (show Z _ _ 0 0 0 [some (zR 40), some (zI i)] [] _ _ from ?_)
  refine z_iload_n dX12_trace_0 rfl ?_
  refine z_iconst dX12_trace_1 ?_
  first | refine z_aload_n dX12_trace_2 rfl ?_ | refine z_aload_nT dX12_trace_2 rfl ?_
  refine h_geti dX12_trace_3 fl_X12_220 (by first | assumption | rfl) (by rfl) ?_
  refine z_iconst dX12_trace_6 ?_
  refine z_isub dX12_trace_7 ?_
  refine h_Si3 (Y' := M_X12_in) dX12_trace_8 zw_857 zw_858 ok_X12_in (by decide) rfl (Nat.le_of_ble_eq_true rfl) ⟨rfl, rfl⟩ (by decide) (m_within hi (by omega) (by omega)) (fun vv σ2 hq => ?_)
  obtain ⟨hv, rfl⟩ := hq
  refine z_if_eq (tgt := 23) dX12_trace_11 (by decide) (by omega) (fun b11 => ?_) (fun b11 => ?_)
  · refine z_ldc (n := -1000000) dX12_trace_23 zw_1015 rfl ?_
    refine h_iret dX12_trace_25 rfl rfl rfl ?_
    exact ⟨by unfold aTrace; rw [if_neg (by omega)], hM, fr.rf⟩
  · obtain ⟨p, rfl⟩ : ∃ p : Nat, i = (p : Int) := ⟨i.toNat, by omega⟩
    first | refine z_aload_n dX12_trace_14 rfl ?_ | refine z_aload_nT dX12_trace_14 rfl ?_
    refine h_getr dX12_trace_15 fl_X12_41 (by first | assumption | rfl) (by rfl) ?_
    refine z_iload_n dX12_trace_18 rfl ?_
    first | refine h_iald dX12_trace_19 (by first | assumption | rfl) (by repeat' first | apply zc_add | apply zc_mul | with_reducible exact zc_var _ | exact zc_lit _) (by omega) (by decide) ?_ | refine z_ialdT _ dX12_trace_19 (by assumption) (by repeat' first | apply zc_add | apply zc_mul | with_reducible exact zc_var _ | exact zc_lit _) (by omega) (by omega) ?_
    refine z_goto (tgt := 25) dX12_trace_20 (by decide) ?_
    refine h_iret dX12_trace_25 rfl rfl rfl ?_
    exact ⟨by unfold aTrace; rw [if_pos (by omega), g2 p (by omega)]; rfl, hM, fr.rf⟩
def aKind (α : Mem) (a : Int) : Int := if 0 ≤ a ∧ a < α 5 3 then α 5 (9 + a.toNat) else BAD
theorem c_kind {a : Int} (hC : CI σ α) (hO : OK α) (ha : zin a) : KI rc M_X11_kind [zR 0, zI a] σ (cP σ α (aKind α a) α) := by
  have h3 := OKc_3 hO
  have hR := hC.2.2.2.1
  refine K_of 0 (by decide) (Nat.le_of_ble_eq_true rfl) (show Z _ _ 0 0 0 [some (zR 0), some (zI a)] [] _ _ from ?_)
  first | refine z_aload_n dX11_kind_0 rfl ?_ | refine z_aload_nT dX11_kind_0 rfl ?_
  refine z_iload_n dX11_kind_1 rfl ?_
  refine h_Vi1 (Y' := M_X11_isPier) dX11_kind_2 zw_468 zw_470 zs_10 rfl ok_X11_isPier (by decide) rfl (Nat.le_of_ble_eq_true rfl) ⟨rfl, rfl⟩ (by decide) (by first | assumption | rfl) (c_isPier ha hR.2.1 h3) (fun vv σ2 hq => ?_)
  obtain ⟨hv, rfl⟩ := hq
  refine z_if_eq (tgt := 20) dX11_kind_5 (by decide) (by omega) (fun b5 => ?_) (fun b5 => ?_)
  · refine z_ldc (n := -1000001) dX11_kind_20 zw_268 rfl ?_
    refine h_iret dX11_kind_22 rfl rfl rfl ?_
    exact ⟨by unfold aKind; rw [if_neg (by omega)], hC, fr.rf⟩
  · obtain ⟨p, rfl⟩ : ∃ p : Nat, a = (p : Int) := ⟨a.toNat, by omega⟩
    first | refine z_aload_n dX11_kind_8 rfl ?_ | refine z_aload_nT dX11_kind_8 rfl ?_
    refine h_getr dX11_kind_9 fl_X11_26 (by first | assumption | rfl) (by rfl) ?_
    refine h_getr dX11_kind_12 fl_X11_315 (by first | assumption | rfl) (by rfl) ?_
    refine z_iload_n dX11_kind_15 rfl ?_
    first | refine h_iald dX11_kind_16 (by first | assumption | rfl) (by repeat' first | apply zc_add | apply zc_mul | with_reducible exact zc_var _ | exact zc_lit _) (by omega) (by decide) ?_ | refine z_ialdT _ dX11_kind_16 (by assumption) (by repeat' first | apply zc_add | apply zc_mul | with_reducible exact zc_var _ | exact zc_lit _) (by omega) (by omega) ?_
    refine z_goto (tgt := 22) dX11_kind_17 (by decide) ?_
    refine h_iret dX11_kind_22 rfl rfl rfl ?_
    exact ⟨by unfold aKind; rw [if_pos (by omega)]; exact (hR.2.2.2.2.2.2.2.2.2 p (by omega)).1, hC, fr.rf⟩
theorem r_kind {a : Int} (hM : MI σ α) (hO : OK α) (ha : zin a) : KI rc M_X12_kind [zR 40, zI a] σ (mP σ α (aKind α a) α) := by
  have h3 := OKc_3 hO
  have hR := hM.2.2.2.1
  refine K_of 0 (by decide) (Nat.le_of_ble_eq_true rfl) (show Z _ _ 0 0 0 [some (zR 40), some (zI a)] [] _ _ from ?_)
  first | refine z_aload_n dX12_kind_0 rfl ?_ | refine z_aload_nT dX12_kind_0 rfl ?_
  refine z_iload_n dX12_kind_1 rfl ?_
  refine h_Vi1 (Y' := M_X12_isOne) dX12_kind_2 zw_975 zw_977 zs_38 rfl ok_X12_isOne (by decide) rfl (Nat.le_of_ble_eq_true rfl) ⟨rfl, rfl⟩ (by decide) (by first | assumption | rfl) (m_isOne ha (hR 3 (by omega)) h3) (fun vv σ2 hq => ?_)
  obtain ⟨hv, rfl⟩ := hq
  refine z_if_eq (tgt := 20) dX12_kind_5 (by decide) (by omega) (fun b5 => ?_) (fun b5 => ?_)
  · refine z_ldc (n := -1000001) dX12_kind_20 zw_860 rfl ?_
    refine h_iret dX12_kind_22 rfl rfl rfl ?_
    exact ⟨by unfold aKind; rw [if_neg (by omega)], hM, fr.rf⟩
  · obtain ⟨p, rfl⟩ : ∃ p : Nat, a = (p : Int) := ⟨a.toNat, by omega⟩
    first | refine z_aload_n dX12_kind_8 rfl ?_ | refine z_aload_nT dX12_kind_8 rfl ?_
    refine h_getr dX12_kind_9 fl_X12_22 (by first | assumption | rfl) (by rfl) ?_
    refine z_bipush dX12_kind_12 rfl ?_
    refine z_iload_n dX12_kind_14 rfl ?_
    refine z_iadd dX12_kind_15 ?_
    first | refine h_iald dX12_kind_16 (by first | assumption | rfl) (by repeat' first | apply zc_add | apply zc_mul | with_reducible exact zc_var _ | exact zc_lit _) (by omega) (by decide) ?_ | refine z_ialdT _ dX12_kind_16 (by assumption) (by repeat' first | apply zc_add | apply zc_mul | with_reducible exact zc_var _ | exact zc_lit _) (by omega) (by omega) ?_
    refine z_goto (tgt := 22) dX12_kind_17 (by decide) ?_
    refine h_iret dX12_kind_22 rfl rfl rfl ?_
    exact ⟨by unfold aKind; rw [if_pos (by omega)]; exact hR _ (by omega), hM, fr.rf⟩
def aPurse (α : Mem) (d : Int) : Int := if α 5 8 = 0 then STATE else if ¬ (0 ≤ d ∧ d ≤ 60) then BAD else gnF (α 5) d.toNat 1
theorem c_purse {d : Int} (hC : CI σ α) (hO : OK α) (ha : zin d) : KI rc M_X11_purse [zR 0, zI d] σ (cP σ α (aPurse α d) α) := by
  have h8 := OKc_8 hO
  have hR := hC.2.2.2.1
  have e8 := hR.1
  refine K_of 0 (by decide) (Nat.le_of_ble_eq_true rfl) (show Z _ _ 0 0 0 [some (zR 0), some (zI d)] [] _ _ from ?_)
  first | refine z_aload_n dX11_purse_0 rfl ?_ | refine z_aload_nT dX11_purse_0 rfl ?_
  refine h_getr dX11_purse_1 fl_X11_26 (by first | assumption | rfl) (by rfl) ?_
  refine h_geti dX11_purse_4 fl_X11_176 (by first | assumption | rfl) (by rfl) ?_
  refine z_if_ne (tgt := 13) dX11_purse_7 (by decide) (by omega) (fun b7 => ?_) (fun b7 => ?_)
  · refine z_iload_n dX11_purse_13 rfl ?_
    refine h_Si1 (Y' := M_X11_isAhead) dX11_purse_14 zw_507 zw_508 ok_X11_isAhead (by decide) rfl (Nat.le_of_ble_eq_true rfl) ⟨rfl, rfl⟩ (by decide) (c_isAhead ha) (fun vv σ2 hq => ?_)
    obtain ⟨hv, rfl⟩ := hq
    refine z_if_ne (tgt := 23) dX11_purse_17 (by decide) (by omega) (fun b17 => ?_) (fun b17 => ?_)
    · have hk := OKc_s hO (by omega)
      obtain ⟨p, rfl⟩ : ∃ p : Nat, d = (p : Int) := ⟨d.toNat, by omega⟩
      first | refine z_aload_n dX11_purse_23 rfl ?_ | refine z_aload_nT dX11_purse_23 rfl ?_
      refine z_iload_n dX11_purse_24 rfl ?_
      refine h_Vv1 (Y' := M_X11_foretell) dX11_purse_25 zw_510 zw_512 zs_11 rfl ok_X11_foretell (by decide) rfl (Nat.le_of_ble_eq_true rfl) ⟨rfl, rfl⟩ (by decide) (by first | assumption | rfl) (c_foretell hR hk (by omega) (by omega)) (fun σ2 hq => ?_)
      obtain ⟨h1, h2⟩ := hq
      first | refine z_aload_n dX11_purse_28 rfl ?_ | refine z_aload_nT dX11_purse_28 rfl ?_
      refine h_getr dX11_purse_29 fl_X11_30 (by first | assumption | rfl) (by rfl) ?_
      refine h_geti dX11_purse_32 fl_X11_194 (by first | assumption | rfl) (by rfl) ?_
      refine h_iret dX11_purse_35 rfl rfl rfl ?_
      exact ⟨by unfold aPurse; rw [if_neg (by omega), if_neg (by omega), h1.2.2.2.1]; rfl, CI13 hC h2⟩
    · refine z_ldc (n := -1000001) dX11_purse_20 zw_268 rfl ?_
      refine h_iret dX11_purse_22 rfl rfl rfl ?_
      exact ⟨by unfold aPurse; rw [if_neg (by omega), if_pos (by omega)], hC, fr.rf⟩
  · refine z_ldc (n := -1000002) dX11_purse_10 zw_417 rfl ?_
    refine h_iret dX11_purse_12 rfl rfl rfl ?_
    exact ⟨by unfold aPurse; rw [if_pos (by omega)], hC, fr.rf⟩
theorem r_purse {d : Int} (hM : MI σ α) (hO : OK α) (ha : zin d) : KI rc M_X12_purse [zR 40, zI d] σ (mP σ α (aPurse α d) α) := by
  have h8 := OKc_8 hO
  have hR := hM.2.2.2.1
  refine K_of 0 (by decide) (Nat.le_of_ble_eq_true rfl) (show Z _ _ 0 0 0 [some (zR 40), some (zI d)] [] _ _ from ?_)
  first | refine z_aload_n dX12_purse_0 rfl ?_ | refine z_aload_nT dX12_purse_0 rfl ?_
  refine h_Vi0 (Y' := M_X12_isCoast) dX12_purse_1 zw_941 zw_943 zs_36 rfl ok_X12_isCoast (by decide) rfl (Nat.le_of_ble_eq_true rfl) ⟨rfl, rfl⟩ (by decide) (by first | assumption | rfl) (m_isCoast (hR 8 (by omega)) h8) (fun vv σ2 hq => ?_)
  obtain ⟨rfl, rfl⟩ := hq
  refine z_if_ne (tgt := 10) dX12_purse_4 (by decide) (by omega) (fun b4 => ?_) (fun b4 => ?_)
  · refine z_iload_n dX12_purse_10 rfl ?_
    refine z_iconst dX12_purse_11 ?_
    refine z_bipush dX12_purse_12 rfl ?_
    refine h_Si3 (Y' := M_X12_in) dX12_purse_14 zw_857 zw_858 ok_X12_in (by decide) rfl (Nat.le_of_ble_eq_true rfl) ⟨rfl, rfl⟩ (by decide) (m_within ha (by omega) (by omega)) (fun vv σ2 hq => ?_)
    obtain ⟨hv, rfl⟩ := hq
    refine z_if_ne (tgt := 23) dX12_purse_17 (by decide) (by omega) (fun b17 => ?_) (fun b17 => ?_)
    · have hk := OKc_s hO (by omega)
      obtain ⟨p, rfl⟩ : ∃ p : Nat, d = (p : Int) := ⟨d.toNat, by omega⟩
      first | refine z_aload_n dX12_purse_23 rfl ?_ | refine z_aload_nT dX12_purse_23 rfl ?_
      refine h_Vv0 (Y' := M_X12_begin) dX12_purse_24 zw_999 zw_1001 zs_39 rfl ok_X12_begin (by decide) rfl (Nat.le_of_ble_eq_true rfl) ⟨rfl, rfl⟩ (by decide) (by first | assumption | rfl) (m_begin hR) (fun σ2 hq => ?_)
      obtain ⟨h1, h2⟩ := hq
      first | refine z_aload_n dX12_purse_27 rfl ?_ | refine z_aload_nT dX12_purse_27 rfl ?_
      refine z_iload_n dX12_purse_28 rfl ?_
      refine h_Vv1 (Y' := M_X12_goOn) dX12_purse_29 zw_1003 zw_1005 zs_40 rfl ok_X12_goOn (by decide) rfl (Nat.le_of_ble_eq_true rfl) ⟨rfl, rfl⟩ (by decide) (by first | assumption | rfl) (m_goOn h1 hk (by omega) (by omega)) (fun σ2 hq => ?_)
      obtain ⟨h3, h4⟩ := hq
      first | refine z_aload_n dX12_purse_32 rfl ?_ | refine z_aload_nT dX12_purse_32 rfl ?_
      refine h_getr dX12_purse_33 fl_X12_28 (by first | assumption | rfl) (by rfl) ?_
      refine z_iconst dX12_purse_36 ?_
      first | refine h_iald dX12_purse_37 (by first | assumption | rfl) (by repeat' first | apply zc_add | apply zc_mul | with_reducible exact zc_var _ | exact zc_lit _) (by omega) (by decide) ?_ | refine z_ialdT _ dX12_purse_37 (by assumption) (by repeat' first | apply zc_add | apply zc_mul | with_reducible exact zc_var _ | exact zc_lit _) (by omega) (by omega) ?_
      refine h_iret dX12_purse_38 rfl rfl rfl ?_
      exact ⟨by unfold aPurse; rw [if_neg (by omega), if_neg (by omega), h3 1 (by omega)]; rfl, MI47 hM (h2.tr h4)⟩
    · refine z_ldc (n := -1000001) dX12_purse_20 zw_860 rfl ?_
      refine h_iret dX12_purse_22 rfl rfl rfl ?_
      exact ⟨by unfold aPurse; rw [if_neg (by omega), if_pos (by omega)], hM, fr.rf⟩
  · refine z_ldc (n := -1000002) dX12_purse_7 zw_945 rfl ?_
    refine h_iret dX12_purse_9 rfl rfl rfl ?_
    exact ⟨by unfold aPurse; rw [if_pos (by omega)], hM, fr.rf⟩
def aAhead (α : Mem) (a d w : Int) : Int := if ¬ (0 ≤ a ∧ a < α 5 3) ∨ ¬ (0 ≤ d ∧ d ≤ 60) ∨ ¬ (0 ≤ w ∧ w ≤ 1) then BAD else if w = 0 then gnF (α 5) d.toNat (24 + a.toNat) else pcF (gnF (α 5) d.toNat) a.toNat (gnF (α 5) d.toNat (24 + a.toNat))
theorem gnF_3 {t : Nat → Int} : ∀ d, gnF t d 3 = t 3
  | 0 => rfl
  | d + 1 => by
    show goF (gnF t d) _ 3 = _
    rw [goF_lo (by omega) (by omega), gnF_3 d]
theorem c_ahead {a d w : Int} (hC : CI σ α) (hO : OK α) (ha : zin a) (hd : zin d) (hw : zin w) : KI rc M_X11_ahead [zR 0, zI a, zI d, zI w] σ (cP σ α (aAhead α a d w) α) := by
  have h3 := OKc_3 hO
  have hR := hC.2.2.2.1
  refine K_of 0 (by decide) (Nat.le_of_ble_eq_true rfl) (show Z _ _ 0 0 0 [some (zR 0), some (zI a), some (zI d), some (zI w)] [] _ _ from ?_)
  first | refine z_aload_n dX11_ahead_0 rfl ?_ | refine z_aload_nT dX11_ahead_0 rfl ?_
  refine z_iload_n dX11_ahead_1 rfl ?_
  refine h_Vi1 (Y' := M_X11_isPier) dX11_ahead_2 zw_468 zw_470 zs_10 rfl ok_X11_isPier (by decide) rfl (Nat.le_of_ble_eq_true rfl) ⟨rfl, rfl⟩ (by decide) (by first | assumption | rfl) (c_isPier ha hR.2.1 h3) (fun vv σ2 hq => ?_)
  obtain ⟨hv1, rfl⟩ := hq
  refine z_if_eq (tgt := 24) dX11_ahead_5 (by decide) (by omega) (fun b5 => ?_) (fun b5 => ?_)
  · refine z_ldc (n := -1000001) dX11_ahead_24 zw_268 rfl ?_
    refine h_iret dX11_ahead_26 rfl rfl rfl ?_
    exact ⟨by unfold aAhead; rw [if_pos (by omega)], hC, fr.rf⟩
  · refine z_iload_n dX11_ahead_8 rfl ?_
    refine h_Si1 (Y' := M_X11_isAhead) dX11_ahead_9 zw_507 zw_508 ok_X11_isAhead (by decide) rfl (Nat.le_of_ble_eq_true rfl) ⟨rfl, rfl⟩ (by decide) (c_isAhead hd) (fun vv σ2 hq => ?_)
    obtain ⟨hv2, rfl⟩ := hq
    refine z_if_eq (tgt := 24) dX11_ahead_12 (by decide) (by omega) (fun b12 => ?_) (fun b12 => ?_)
    · refine z_ldc (n := -1000001) dX11_ahead_24 zw_268 rfl ?_
      refine h_iret dX11_ahead_26 rfl rfl rfl ?_
      exact ⟨by unfold aAhead; rw [if_pos (by omega)], hC, fr.rf⟩
    · refine z_iload_n dX11_ahead_15 rfl ?_
      refine z_iconst dX11_ahead_16 ?_
      refine z_iconst dX11_ahead_17 ?_
      refine h_Si3 (Y' := M_X11_isWithin) dX11_ahead_18 zw_265 zw_266 ok_X11_isWithin (by decide) rfl (Nat.le_of_ble_eq_true rfl) ⟨rfl, rfl⟩ (by decide) (c_within hw (by omega) (by omega)) (fun vv σ2 hq => ?_)
      obtain ⟨hv3, rfl⟩ := hq
      refine z_if_ne (tgt := 27) dX11_ahead_21 (by decide) (by omega) (fun b21 => ?_) (fun b21 => ?_)
      · have hk := OKc_p hO (a := a) (by omega) (by omega)
        obtain ⟨p, rfl⟩ : ∃ p : Nat, a = (p : Int) := ⟨a.toNat, by omega⟩
        obtain ⟨q, rfl⟩ : ∃ p : Nat, d = (p : Int) := ⟨d.toNat, by omega⟩
        have hg := gnF_ok hk q
        have e3 := gnF_3 (t := α 5) q
        obtain ⟨q1, q2, q3, q4⟩ := hg.2.2.2.2.2.2.2.2.2 p (by omega)
        first | refine z_aload_n dX11_ahead_27 rfl ?_ | refine z_aload_nT dX11_ahead_27 rfl ?_
        refine z_iload_n dX11_ahead_28 rfl ?_
        refine h_Vv1 (Y' := M_X11_foretell) dX11_ahead_29 zw_510 zw_512 zs_11 rfl ok_X11_foretell (by decide) rfl (Nat.le_of_ble_eq_true rfl) ⟨rfl, rfl⟩ (by decide) (by first | assumption | rfl) (c_foretell hR hk (by omega) (by omega)) (fun σ2 hq => ?_)
        obtain ⟨h1, h2⟩ := hq
        obtain ⟨p1, p2, p3, p4⟩ := h1.2.2.2.2.2.2.2.2.2 p (by omega)
        refine z_iload_n dX11_ahead_32 rfl ?_
        refine z_if_ne (tgt := 48) dX11_ahead_33 (by decide) (by omega) (fun b33 => ?_) (fun b33 => ?_)
        · first | refine z_aload_n dX11_ahead_48 rfl ?_ | refine z_aload_nT dX11_ahead_48 rfl ?_
          refine h_getr dX11_ahead_49 fl_X11_30 (by first | assumption | rfl) (by rfl) ?_
          refine z_iload_n dX11_ahead_52 rfl ?_
          refine h_Vi1 (Y' := M_X2_endOf) dX11_ahead_53 zw_500 zw_446 zw_447 rfl ok_X2_endOf (by decide) rfl (Nat.le_of_ble_eq_true rfl) ⟨rfl, rfl⟩ (by decide) (by first | assumption | rfl) (k_endOf (Or.inr (Or.inl rfl)) (by omega) (by omega) (by omega) (by omega) (by omega) (by omega) (by omega)) (fun vv σ2 hq => ?_)
          obtain ⟨rfl, rfl⟩ := hq
          refine h_iret dX11_ahead_56 rfl rfl rfl ?_
          refine ⟨?_, CI13 hC h2⟩
          unfold aAhead
          rw [if_neg (by omega), if_neg (by omega), p2, p3, p4]
          rfl
        · first | refine z_aload_n dX11_ahead_36 rfl ?_ | refine z_aload_nT dX11_ahead_36 rfl ?_
          refine h_getr dX11_ahead_37 fl_X11_30 (by first | assumption | rfl) (by rfl) ?_
          refine h_getr dX11_ahead_40 fl_X11_203 (by first | assumption | rfl) (by rfl) ?_
          refine z_iload_n dX11_ahead_43 rfl ?_
          first | refine h_iald dX11_ahead_44 (by first | assumption | rfl) (by repeat' first | apply zc_add | apply zc_mul | with_reducible exact zc_var _ | exact zc_lit _) (by omega) (by decide) ?_ | refine z_ialdT _ dX11_ahead_44 (by assumption) (by repeat' first | apply zc_add | apply zc_mul | with_reducible exact zc_var _ | exact zc_lit _) (by omega) (by omega) ?_
          refine z_goto (tgt := 56) dX11_ahead_45 (by decide) ?_
          refine h_iret dX11_ahead_56 rfl rfl rfl ?_
          refine ⟨?_, CI13 hC h2⟩
          unfold aAhead
          rw [if_neg (by omega), if_pos (by omega)]
          exact p4
      · refine z_ldc (n := -1000001) dX11_ahead_24 zw_268 rfl ?_
        refine h_iret dX11_ahead_26 rfl rfl rfl ?_
        exact ⟨by unfold aAhead; rw [if_pos (by omega)], hC, fr.rf⟩
theorem r_ahead {a d w : Int} (hM : MI σ α) (hO : OK α) (ha : zin a) (hd : zin d) (hw : zin w) : KI rc M_X12_ahead [zR 40, zI a, zI d, zI w] σ (mP σ α (aAhead α a d w) α) := by
  have h3 := OKc_3 hO
  have hR := hM.2.2.2.1
  refine K_of 0 (by decide) (Nat.le_of_ble_eq_true rfl) (show Z _ _ 0 0 0 [some (zR 40), some (zI a), some (zI d), some (zI w)] [] _ _ from ?_)
  first | refine z_aload_n dX12_ahead_0 rfl ?_ | refine z_aload_nT dX12_ahead_0 rfl ?_
  refine z_iload_n dX12_ahead_1 rfl ?_
  refine h_Vi1 (Y' := M_X12_isOne) dX12_ahead_2 zw_975 zw_977 zs_38 rfl ok_X12_isOne (by decide) rfl (Nat.le_of_ble_eq_true rfl) ⟨rfl, rfl⟩ (by decide) (by first | assumption | rfl) (m_isOne ha (hR 3 (by omega)) h3) (fun vv σ2 hq => ?_)
  obtain ⟨hv1, rfl⟩ := hq
  refine z_if_eq (tgt := 27) dX12_ahead_5 (by decide) (by omega) (fun b5 => ?_) (fun b5 => ?_)
  · refine z_ldc (n := -1000001) dX12_ahead_27 zw_860 rfl ?_
    refine h_iret dX12_ahead_29 rfl rfl rfl ?_
    exact ⟨by unfold aAhead; rw [if_pos (by omega)], hM, fr.rf⟩
  · refine z_iload_n dX12_ahead_8 rfl ?_
    refine z_iconst dX12_ahead_9 ?_
    refine z_bipush dX12_ahead_10 rfl ?_
    refine h_Si3 (Y' := M_X12_in) dX12_ahead_12 zw_857 zw_858 ok_X12_in (by decide) rfl (Nat.le_of_ble_eq_true rfl) ⟨rfl, rfl⟩ (by decide) (m_within hd (by omega) (by omega)) (fun vv σ2 hq => ?_)
    obtain ⟨hv2, rfl⟩ := hq
    refine z_if_eq (tgt := 27) dX12_ahead_15 (by decide) (by omega) (fun b15 => ?_) (fun b15 => ?_)
    · refine z_ldc (n := -1000001) dX12_ahead_27 zw_860 rfl ?_
      refine h_iret dX12_ahead_29 rfl rfl rfl ?_
      exact ⟨by unfold aAhead; rw [if_pos (by omega)], hM, fr.rf⟩
    · refine z_iload_n dX12_ahead_18 rfl ?_
      refine z_iconst dX12_ahead_19 ?_
      refine z_iconst dX12_ahead_20 ?_
      refine h_Si3 (Y' := M_X12_in) dX12_ahead_21 zw_857 zw_858 ok_X12_in (by decide) rfl (Nat.le_of_ble_eq_true rfl) ⟨rfl, rfl⟩ (by decide) (m_within hw (by omega) (by omega)) (fun vv σ2 hq => ?_)
      obtain ⟨hv3, rfl⟩ := hq
      refine z_if_ne (tgt := 30) dX12_ahead_24 (by decide) (by omega) (fun b24 => ?_) (fun b24 => ?_)
      · have hk := OKc_p hO (a := a) (by omega) (by omega)
        obtain ⟨p, rfl⟩ : ∃ p : Nat, a = (p : Int) := ⟨a.toNat, by omega⟩
        obtain ⟨q, rfl⟩ : ∃ p : Nat, d = (p : Int) := ⟨d.toNat, by omega⟩
        have hg := gnF_ok hk q
        have e3 := gnF_3 (t := α 5) q
        obtain ⟨q1, q2, q3, q4⟩ := hg.2.2.2.2.2.2.2.2.2 p (by omega)
        first | refine z_aload_n dX12_ahead_30 rfl ?_ | refine z_aload_nT dX12_ahead_30 rfl ?_
        refine h_Vv0 (Y' := M_X12_begin) dX12_ahead_31 zw_999 zw_1001 zs_39 rfl ok_X12_begin (by decide) rfl (Nat.le_of_ble_eq_true rfl) ⟨rfl, rfl⟩ (by decide) (by first | assumption | rfl) (m_begin hR) (fun σ2 hq => ?_)
        obtain ⟨h1, h2⟩ := hq
        first | refine z_aload_n dX12_ahead_34 rfl ?_ | refine z_aload_nT dX12_ahead_34 rfl ?_
        refine z_iload_n dX12_ahead_35 rfl ?_
        refine h_Vv1 (Y' := M_X12_goOn) dX12_ahead_36 zw_1003 zw_1005 zs_40 rfl ok_X12_goOn (by decide) rfl (Nat.le_of_ble_eq_true rfl) ⟨rfl, rfl⟩ (by decide) (by first | assumption | rfl) (m_goOn h1 hk (by omega) (by omega)) (fun σ2 hq => ?_)
        obtain ⟨h4, h5⟩ := hq
        have p2 := h4 (14 + p) (by omega)
        have p3 := h4 (19 + p) (by omega)
        have p4 := h4 (24 + p) (by omega)
        refine z_iload_n dX12_ahead_39 rfl ?_
        refine z_if_ne (tgt := 55) dX12_ahead_40 (by decide) (by omega) (fun b40 => ?_) (fun b40 => ?_)
        · first | refine z_aload_n dX12_ahead_55 rfl ?_ | refine z_aload_nT dX12_ahead_55 rfl ?_
          refine h_getr dX12_ahead_56 fl_X12_28 (by first | assumption | rfl) (by rfl) ?_
          refine z_iload_n dX12_ahead_59 rfl ?_
          first | refine z_aload_n dX12_ahead_60 rfl ?_ | refine z_aload_nT dX12_ahead_60 rfl ?_
          refine h_getr dX12_ahead_61 fl_X12_28 (by first | assumption | rfl) (by rfl) ?_
          refine z_bipush dX12_ahead_64 rfl ?_
          refine z_iload_n dX12_ahead_66 rfl ?_
          refine z_iadd dX12_ahead_67 ?_
          first | refine h_iald dX12_ahead_68 (by first | assumption | rfl) (by repeat' first | apply zc_add | apply zc_mul | with_reducible exact zc_var _ | exact zc_lit _) (by omega) (by decide) ?_ | refine z_ialdT _ dX12_ahead_68 (by assumption) (by repeat' first | apply zc_add | apply zc_mul | with_reducible exact zc_var _ | exact zc_lit _) (by omega) (by omega) ?_
          refine h_Si3 (Y' := M_X12_placeBy) dX12_ahead_69 zw_962 zw_963 ok_X12_placeBy (by decide) rfl (Nat.le_of_ble_eq_true rfl) ⟨rfl, rfl⟩ (by decide) (m_placeBy rfl (by omega) (by omega) (by omega) (by omega) (by omega)) (fun vv σ2 hq => ?_)
          obtain ⟨rfl, rfl⟩ := hq
          refine h_iret dX12_ahead_72 rfl rfl rfl ?_
          refine ⟨?_, MI47 hM (h2.tr h5)⟩
          unfold aAhead
          rw [if_neg (by omega), if_neg (by omega), p2, p3, p4]
          rfl
        · first | refine z_aload_n dX12_ahead_43 rfl ?_ | refine z_aload_nT dX12_ahead_43 rfl ?_
          refine h_getr dX12_ahead_44 fl_X12_28 (by first | assumption | rfl) (by rfl) ?_
          refine z_bipush dX12_ahead_47 rfl ?_
          refine z_iload_n dX12_ahead_49 rfl ?_
          refine z_iadd dX12_ahead_50 ?_
          first | refine h_iald dX12_ahead_51 (by first | assumption | rfl) (by repeat' first | apply zc_add | apply zc_mul | with_reducible exact zc_var _ | exact zc_lit _) (by omega) (by decide) ?_ | refine z_ialdT _ dX12_ahead_51 (by assumption) (by repeat' first | apply zc_add | apply zc_mul | with_reducible exact zc_var _ | exact zc_lit _) (by omega) (by omega) ?_
          refine z_goto (tgt := 72) dX12_ahead_52 (by decide) ?_
          refine h_iret dX12_ahead_72 rfl rfl rfl ?_
          refine ⟨?_, MI47 hM (h2.tr h5)⟩
          unfold aAhead
          rw [if_neg (by omega), if_pos (by omega)]
          exact p4
      · refine z_ldc (n := -1000001) dX12_ahead_27 zw_860 rfl ?_
        refine h_iret dX12_ahead_29 rfl rfl rfl ?_
        exact ⟨by unfold aAhead; rw [if_pos (by omega)], hM, fr.rf⟩
def aTake (α : Mem) (pl far : Int) : Int := if α 5 8 = 0 then STATE else if ¬ (0 ≤ pl ∧ pl ≤ 9) ∨ ¬ (0 ≤ far ∧ far ≤ 99) then BAD else tkF (α 5) pl far
theorem c_take {a b : Int} (hC : CI σ α) (hO : OK α) (ha : zin a) (hb : zin b) : KI rc M_X11_take [zR 0, zI a, zI b] σ (cP σ α (aTake α a b) α) := by
  have h8 := OKc_8 hO
  have hR := hC.2.2.2.1
  have e8 := hR.1
  refine K_of 0 (by decide) (Nat.le_of_ble_eq_true rfl) (show Z _ _ 0 0 0 [some (zR 0), some (zI a), some (zI b)] [] _ _ from ?_)
  first | refine z_aload_n dX11_take_0 rfl ?_ | refine z_aload_nT dX11_take_0 rfl ?_
  refine h_getr dX11_take_1 fl_X11_26 (by first | assumption | rfl) (by rfl) ?_
  refine h_geti dX11_take_4 fl_X11_176 (by first | assumption | rfl) (by rfl) ?_
  refine z_if_ne (tgt := 13) dX11_take_7 (by decide) (by omega) (fun b7 => ?_) (fun b7 => ?_)
  · have hk := OKc_s hO (by omega)
    obtain ⟨k8, k3, a0, a1, a2, a4, a5, a6, a7, hq⟩ := hk
    obtain ⟨r4, r5, r6, r7, r8, r9, r10, r11, r12, rp⟩ := hR
    have r11 := r11 k8
    refine z_iload_n dX11_take_13 rfl ?_
    refine h_Si1 (Y' := M_X11_isPlace) dX11_take_14 zw_533 zw_534 ok_X11_isPlace (by decide) rfl (Nat.le_of_ble_eq_true rfl) ⟨rfl, rfl⟩ (by decide) (c_isPlace ha) (fun vv σ2 hq => ?_)
    obtain ⟨hv, rfl⟩ := hq
    refine z_if_eq (tgt := 30) dX11_take_17 (by decide) (by omega) (fun b17 => ?_) (fun b17 => ?_)
    · refine z_ldc (n := -1000001) dX11_take_30 zw_268 rfl ?_
      refine h_iret dX11_take_32 rfl rfl rfl ?_
      exact ⟨by unfold aTake; rw [if_neg (by omega), if_pos (by omega)], hC, fr.rf⟩
    · refine z_iload_n dX11_take_20 rfl ?_
      refine z_iconst dX11_take_21 ?_
      refine z_bipush dX11_take_22 rfl ?_
      refine h_Si3 (Y' := M_X11_isWithin) dX11_take_24 zw_265 zw_266 ok_X11_isWithin (by decide) rfl (Nat.le_of_ble_eq_true rfl) ⟨rfl, rfl⟩ (by decide) (c_within hb (by omega) (by omega)) (fun vv σ2 hq => ?_)
      obtain ⟨hv2, rfl⟩ := hq
      refine z_if_ne (tgt := 33) dX11_take_27 (by decide) (by omega) (fun b27 => ?_) (fun b27 => ?_)
      · first | refine z_aload_n dX11_take_33 rfl ?_ | refine z_aload_nT dX11_take_33 rfl ?_
        refine h_getr dX11_take_34 fl_X11_26 (by first | assumption | rfl) (by rfl) ?_
        refine z_iload_n dX11_take_37 rfl ?_
        refine z_iload_n dX11_take_38 rfl ?_
        refine h_Vi2 (Y' := M_X2_takeAt) dX11_take_39 zw_541 zw_453 zw_454 rfl ok_X2_takeAt (by decide) rfl (Nat.le_of_ble_eq_true rfl) ⟨rfl, rfl⟩ (by decide) (by first | assumption | rfl) (k_takeAt (Or.inl rfl) (by omega) (by omega) (by omega) (by omega) (by omega) (by omega) (by omega) (by omega) (by omega) (by omega)) (fun vv σ2 hq => ?_)
        obtain ⟨rfl, rfl⟩ := hq
        refine h_iret dX11_take_42 rfl rfl rfl ?_
        exact ⟨by unfold aTake; rw [if_neg (by omega), if_neg (by omega), r9, r10, r11]; rfl, hC, fr.rf⟩
      · refine z_ldc (n := -1000001) dX11_take_30 zw_268 rfl ?_
        refine h_iret dX11_take_32 rfl rfl rfl ?_
        exact ⟨by unfold aTake; rw [if_neg (by omega), if_pos (by omega)], hC, fr.rf⟩
  · refine z_ldc (n := -1000002) dX11_take_10 zw_417 rfl ?_
    refine h_iret dX11_take_12 rfl rfl rfl ?_
    exact ⟨by unfold aTake; rw [if_pos (by omega)], hC, fr.rf⟩
theorem r_take {a b : Int} (hM : MI σ α) (hO : OK α) (ha : zin a) (hb : zin b) : KI rc M_X12_take [zR 40, zI a, zI b] σ (mP σ α (aTake α a b) α) := by
  have h8 := OKc_8 hO
  have hR := hM.2.2.2.1
  have e4 := hR 4 (by omega)
  have e5 := hR 5 (by omega)
  have e6 := hR 6 (by omega)
  refine K_of 0 (by decide) (Nat.le_of_ble_eq_true rfl) (show Z _ _ 0 0 0 [some (zR 40), some (zI a), some (zI b)] [] _ _ from ?_)
  first | refine z_aload_n dX12_take_0 rfl ?_ | refine z_aload_nT dX12_take_0 rfl ?_
  refine h_Vi0 (Y' := M_X12_isCoast) dX12_take_1 zw_941 zw_943 zs_36 rfl ok_X12_isCoast (by decide) rfl (Nat.le_of_ble_eq_true rfl) ⟨rfl, rfl⟩ (by decide) (by first | assumption | rfl) (m_isCoast (hR 8 (by omega)) h8) (fun vv σ2 hq => ?_)
  obtain ⟨rfl, rfl⟩ := hq
  refine z_if_ne (tgt := 10) dX12_take_4 (by decide) (by omega) (fun b4 => ?_) (fun b4 => ?_)
  · have hk := OKc_s hO (by omega)
    obtain ⟨k8, k3, a0, a1, a2, a4, a5, a6, a7, hq⟩ := hk
    refine z_iload_n dX12_take_10 rfl ?_
    refine z_iconst dX12_take_11 ?_
    refine z_bipush dX12_take_12 rfl ?_
    refine h_Si3 (Y' := M_X12_in) dX12_take_14 zw_857 zw_858 ok_X12_in (by decide) rfl (Nat.le_of_ble_eq_true rfl) ⟨rfl, rfl⟩ (by decide) (m_within ha (by omega) (by omega)) (fun vv σ2 hq => ?_)
    obtain ⟨hv, rfl⟩ := hq
    refine z_if_eq (tgt := 42) dX12_take_17 (by decide) (by omega) (fun b17 => ?_) (fun b17 => ?_)
    · refine z_ldc (n := -1000001) dX12_take_42 zw_860 rfl ?_
      refine h_iret dX12_take_44 rfl rfl rfl ?_
      exact ⟨by unfold aTake; rw [if_neg (by omega), if_pos (by omega)], hM, fr.rf⟩
    · refine z_iload_n dX12_take_20 rfl ?_
      refine z_iconst dX12_take_21 ?_
      refine z_bipush dX12_take_22 rfl ?_
      refine h_Si3 (Y' := M_X12_in) dX12_take_24 zw_857 zw_858 ok_X12_in (by decide) rfl (Nat.le_of_ble_eq_true rfl) ⟨rfl, rfl⟩ (by decide) (m_within hb (by omega) (by omega)) (fun vv σ2 hq => ?_)
      obtain ⟨hv2, rfl⟩ := hq
      refine z_if_eq (tgt := 42) dX12_take_27 (by decide) (by omega) (fun b27 => ?_) (fun b27 => ?_)
      · refine z_ldc (n := -1000001) dX12_take_42 zw_860 rfl ?_
        refine h_iret dX12_take_44 rfl rfl rfl ?_
        exact ⟨by unfold aTake; rw [if_neg (by omega), if_pos (by omega)], hM, fr.rf⟩
      · first | refine z_aload_n dX12_take_30 rfl ?_ | refine z_aload_nT dX12_take_30 rfl ?_
        refine h_getr dX12_take_31 fl_X12_22 (by first | assumption | rfl) (by rfl) ?_
        refine z_iload_n dX12_take_34 rfl ?_
        refine z_iload_n dX12_take_35 rfl ?_
        refine h_Si3 (Y' := M_X12_takeBy) dX12_take_36 zw_965 zw_966 ok_X12_takeBy (by decide) rfl (Nat.le_of_ble_eq_true rfl) ⟨rfl, rfl⟩ (by decide) (m_takeBy rfl (by omega) (by omega) (by omega) (by omega) (by omega) (by omega) (by omega)) (fun vv σ2 hq => ?_)
        obtain ⟨rfl, rfl⟩ := hq
        refine z_goto (tgt := 44) dX12_take_39 (by decide) ?_
        refine h_iret dX12_take_44 rfl rfl rfl ?_
        exact ⟨by unfold aTake; rw [if_neg (by omega), if_neg (by omega), e4, e5, e6]; rfl, hM, fr.rf⟩
  · refine z_ldc (n := -1000002) dX12_take_7 zw_945 rfl ?_
    refine h_iret dX12_take_9 rfl rfl rfl ?_
    exact ⟨by unfold aTake; rw [if_pos (by omega)], hM, fr.rf⟩
end
