/-! asks, and the trace -/
def lvC (σ : Mem) (b : Int) : Mem := zu (zu σ 31 (σ 30 1).toNat b) 30 1 (σ 30 1 + 1)
def lvM (σ : Mem) (b : Int) : Mem := zu (zu σ 51 (σ 40 20).toNat b) 40 20 (σ 40 20 + 1)
theorem lvC_1 {σ : Mem} {b : Int} : lvC σ b 30 1 = σ 30 1 + 1 := zu_eq
theorem lvC_o {σ : Mem} {b : Int} {o j : Nat} (h1 : o ≠ 31) (h2 : o ≠ 30 ∨ j ≠ 1) : lvC σ b o j = σ o j := by
  unfold lvC
  by_cases ho : o = 30
  · subst ho
    rw [zu_j (by omega), zu_o (by omega)]
  · rw [zu_o ho, zu_o h1]
theorem lvM_1 {σ : Mem} {b : Int} : lvM σ b 40 20 = σ 40 20 + 1 := zu_eq
theorem lvM_o {σ : Mem} {b : Int} {o j : Nat} (h1 : o ≠ 51) (h2 : o ≠ 40 ∨ j ≠ 20) : lvM σ b o j = σ o j := by
  unfold lvM
  by_cases ho : o = 40
  · subst ho
    rw [zu_j (by omega), zu_o (by omega)]
  · rw [zu_o ho, zu_o h1]
theorem trC {l : List Int} : ∀ {σ : Mem} {n : Nat}, σ 30 1 = (n : Int) → (l.foldl lvC σ) 30 1 = ((n + l.length : Nat) : Int) ∧ (∀ i, i < n → (l.foldl lvC σ) 31 i = σ 31 i) ∧ (∀ i, i < l.length → (l.foldl lvC σ) 31 (n + i) = l.getD i 0) ∧ ∀ o j, o ≠ 31 → (o ≠ 30 ∨ j ≠ 1) → (l.foldl lvC σ) o j = σ o j := by
  induction l with
  | nil => intro σ n h; exact ⟨by simpa using h, fun _ _ => rfl, fun i hi => by simp at hi, fun _ _ _ _ => rfl⟩
  | cons b l ih =>
    intro σ n h
    have h1 : lvC σ b 30 1 = ((n + 1 : Nat) : Int) := by rw [lvC_1, h]; omega
    obtain ⟨i1, i2, i3, i4⟩ := ih h1
    have hb : lvC σ b 31 n = b := by
      unfold lvC
      rw [zu_o (by omega), h, show ((n : Int)).toNat = n by omega, zu_eq]
    refine ⟨by simp only [List.foldl_cons, i1, List.length_cons]; congr 1; omega, fun i hi => ?_, fun i hi => ?_, fun o j h2 h3 => ?_⟩
    · simp only [List.foldl_cons]
      rw [i2 i (by omega)]
      unfold lvC
      rw [zu_o (by omega), h, show ((n : Int)).toNat = n by omega, zu_j (by omega)]
    · simp only [List.foldl_cons]
      cases i with
      | zero => rw [Nat.add_zero, i2 n (by omega), hb]; rfl
      | succ i =>
        have := i3 i (by simpa using hi)
        rw [show n + (i + 1) = n + 1 + i by omega, this]
        rfl
    · simp only [List.foldl_cons]
      rw [i4 o j h2 h3, lvC_o h2 h3]
theorem trM {l : List Int} : ∀ {σ : Mem} {n : Nat}, σ 40 20 = (n : Int) → (l.foldl lvM σ) 40 20 = ((n + l.length : Nat) : Int) ∧ (∀ i, i < n → (l.foldl lvM σ) 51 i = σ 51 i) ∧ (∀ i, i < l.length → (l.foldl lvM σ) 51 (n + i) = l.getD i 0) ∧ ∀ o j, o ≠ 51 → (o ≠ 40 ∨ j ≠ 20) → (l.foldl lvM σ) o j = σ o j := by
  induction l with
  | nil => intro σ n h; exact ⟨by simpa using h, fun _ _ => rfl, fun i hi => by simp at hi, fun _ _ _ _ => rfl⟩
  | cons b l ih =>
    intro σ n h
    have h1 : lvM σ b 40 20 = ((n + 1 : Nat) : Int) := by rw [lvM_1, h]; omega
    obtain ⟨i1, i2, i3, i4⟩ := ih h1
    have hb : lvM σ b 51 n = b := by
      unfold lvM
      rw [zu_o (by omega), h, show ((n : Int)).toNat = n by omega, zu_eq]
    refine ⟨by simp only [List.foldl_cons, i1, List.length_cons]; congr 1; omega, fun i hi => ?_, fun i hi => ?_, fun o j h2 h3 => ?_⟩
    · simp only [List.foldl_cons]
      rw [i2 i (by omega)]
      unfold lvM
      rw [zu_o (by omega), h, show ((n : Int)).toNat = n by omega, zu_j (by omega)]
    · simp only [List.foldl_cons]
      cases i with
      | zero => rw [Nat.add_zero, i2 n (by omega), hb]; rfl
      | succ i =>
        have := i3 i (by simpa using hi)
        rw [show n + (i + 1) = n + 1 + i by omega, this]
        rfl
    · simp only [List.foldl_cons]
      rw [i4 o j h2 h3, lvM_o h2 h3]
/-- what an ask of a pier answers, and leaves -/
def mkV (k p sp fm_ : Int) : Int := if k = 1 then p + sp else if k = 2 then (p + sp) * 2 else if k = 3 then p + sp - 1000 else if k = 4 then p - (fm_ - 100) else p - (fm_ - 100) * 2
def szV (k p sp fm_ : Int) : Int := if k = 1 then fm_ + (p + sp) else if k = 2 then -(fm_ + (p + sp) * 2) else if k = 3 then fm_ + (p + sp - 1000) else if k = 4 then fm_ - 100 else (fm_ - 100) * 2
def mkT (k : Int) : List Int := if k = 1 then [21, 20] else if k = 2 then [24, 21, 20] else if k = 3 then [22, 21, 20] else if k = 4 then [23, 20, 13, 10] else [23, 20, 14, 13, 10]
def szT (k : Int) : List Int := if k = 1 then [11, 10, 21, 20] else if k = 2 then [12, 11, 10, 24, 21, 20] else if k = 3 then [11, 10, 22, 21, 20] else if k = 4 then [13, 10] else [14, 13, 10]
def trU (α : Mem) (l : List Int) : Mem := fun i => if i = 8 then (fun j => l.getD j 0) else if i = 0 then zup (α 0) 4 (l.length : Int) else α i
theorem trU_10 {α : Mem} {l : List Int} (j : Nat) : trU α l (10 + j) = α (10 + j) := by
  unfold trU
  rw [if_neg (by omega), if_neg (by omega)]
section
variable {rc : ZRC} {σ α : Mem}
theorem k_leave {b : Int} (h0 : 0 ≤ σ 30 1) (h1 : σ 30 1 < 16) : KV rc M_X0_leave [zR 30, zI b] σ (fun σ' => σ' = lvC σ b) := by
  obtain ⟨n, hn⟩ : ∃ n : Nat, σ 30 1 = (n : Int) := ⟨(σ 30 1).toNat, by omega⟩
  refine K_of 0 (by decide) (Nat.le_of_ble_eq_true rfl) (show Z _ _ 0 0 0 [some (zR 30), some (zI b)] [] _ _ from ?_)
  first | refine z_aload_n dX0_leave_0 rfl ?_ | refine z_aload_nT dX0_leave_0 rfl ?_
  refine h_geti dX0_leave_1 fl_X0_15 (by first | assumption | rfl) (by rfl) ?_
  refine z_bipush dX0_leave_4 rfl ?_
  refine z_icmp_ge (tgt := 29) dX0_leave_6 (by decide) (by omega) (by omega) (fun b6 => ?_) (fun b6 => ?_)
  · omega
  · first | refine z_aload_n dX0_leave_9 rfl ?_ | refine z_aload_nT dX0_leave_9 rfl ?_
    refine h_getr dX0_leave_10 fl_X0_11 (by first | assumption | rfl) (by rfl) ?_
    first | refine z_aload_n dX0_leave_13 rfl ?_ | refine z_aload_nT dX0_leave_13 rfl ?_
    refine h_geti dX0_leave_14 fl_X0_15 (by first | assumption | rfl) (by rfl) ?_
    rw [hn]
    refine z_iload_n dX0_leave_17 rfl ?_
    refine h_iast dX0_leave_18 (by first | assumption | rfl) (by repeat' first | apply zc_add | apply zc_mul | with_reducible exact zc_var _ | exact zc_lit _) (by omega) (by decide) ?_
    first | refine z_aload_n dX0_leave_19 rfl ?_ | refine z_aload_nT dX0_leave_19 rfl ?_
    refine z_dup dX0_leave_20 rfl ?_
    refine h_geti dX0_leave_21 fl_X0_15 (by first | assumption | rfl) (by rfl) ?_
    refine z_iconst dX0_leave_24 ?_
    refine z_iadd dX0_leave_25 ?_
    refine h_puti dX0_leave_26 fp_X0_15 (by first | assumption | rfl) (by rfl) ?_
    refine h_vret dX0_leave_29 rfl rfl rfl ?_
    unfold lvC
    rw [hn, show ((n : Int)).toNat = n by omega]
    have e : zu σ 31 n b 30 1 = (n : Int) := by rw [zu_o (by omega), hn]
    rw [e]
theorem m_begins {b : Int} (h0 : 0 ≤ σ 40 20) (h1 : σ 40 20 < 16) : KV rc M_X12_begins [zR 40, zI b] σ (fun σ' => σ' = lvM σ b) := by
  obtain ⟨n, hn⟩ : ∃ n : Nat, σ 40 20 = (n : Int) := ⟨(σ 40 20).toNat, by omega⟩
  refine K_of 0 (by decide) (Nat.le_of_ble_eq_true rfl) (show Z _ _ 0 0 0 [some (zR 40), some (zI b)] [] _ _ from ?_)
  first | refine z_aload_n dX12_begins_0 rfl ?_ | refine z_aload_nT dX12_begins_0 rfl ?_
  refine h_geti dX12_begins_1 fl_X12_220 (by first | assumption | rfl) (by rfl) ?_
  refine z_bipush dX12_begins_4 rfl ?_
  refine z_icmp_ge (tgt := 29) dX12_begins_6 (by decide) (by omega) (by omega) (fun b6 => ?_) (fun b6 => ?_)
  · omega
  · first | refine z_aload_n dX12_begins_9 rfl ?_ | refine z_aload_nT dX12_begins_9 rfl ?_
    refine h_getr dX12_begins_10 fl_X12_41 (by first | assumption | rfl) (by rfl) ?_
    first | refine z_aload_n dX12_begins_13 rfl ?_ | refine z_aload_nT dX12_begins_13 rfl ?_
    refine h_geti dX12_begins_14 fl_X12_220 (by first | assumption | rfl) (by rfl) ?_
    rw [hn]
    refine z_iload_n dX12_begins_17 rfl ?_
    refine h_iast dX12_begins_18 (by first | assumption | rfl) (by repeat' first | apply zc_add | apply zc_mul | with_reducible exact zc_var _ | exact zc_lit _) (by omega) (by decide) ?_
    first | refine z_aload_n dX12_begins_19 rfl ?_ | refine z_aload_nT dX12_begins_19 rfl ?_
    refine z_dup dX12_begins_20 rfl ?_
    refine h_geti dX12_begins_21 fl_X12_220 (by first | assumption | rfl) (by rfl) ?_
    refine z_iconst dX12_begins_24 ?_
    refine z_iadd dX12_begins_25 ?_
    refine h_puti dX12_begins_26 fp_X12_220 (by first | assumption | rfl) (by rfl) ?_
    refine h_vret dX12_begins_29 rfl rfl rfl ?_
    unfold lvM
    rw [hn, show ((n : Int)).toNat = n by omega]
    have e : zu σ 51 n b 40 20 = (n : Int) := by rw [zu_o (by omega), hn]
    rw [e]
theorem k_psz {o : Nat} (h0 : 0 ≤ σ 30 1) (h1 : σ 30 1 < 16) : KI rc M_X5_size [zR o, zR 30] σ (fun v σ' => v = σ 30 3 ∧ σ' = lvC σ 10) := by
  refine K_of 0 (by decide) (Nat.le_of_ble_eq_true rfl) (show Z _ _ 0 0 0 [some (zR o), some (zR 30)] [] _ _ from ?_)
  first | refine z_aload_n dX5_size_0 rfl ?_ | refine z_aload_nT dX5_size_0 rfl ?_
  refine z_bipush dX5_size_1 rfl ?_
  refine h_Vv1 (Y' := M_X0_leave) dX5_size_3 zw_720 zw_695 zw_696 rfl ok_X0_leave (by decide) rfl (Nat.le_of_ble_eq_true rfl) ⟨rfl, rfl⟩ (by decide) (by first | assumption | rfl) (k_leave h0 h1) (fun σ2 hq => ?_)
  subst hq
  first | refine z_aload_n dX5_size_6 rfl ?_ | refine z_aload_nT dX5_size_6 rfl ?_
  refine h_geti dX5_size_7 fl_X5_13 (by first | assumption | rfl) (by rfl) ?_
  refine h_iret dX5_size_10 rfl rfl rfl ?_
  exact ⟨lvC_o (by omega) (by omega), rfl⟩
theorem k_pmk {o : Nat} (h0 : 0 ≤ σ 30 1) (h1 : σ 30 1 < 16) : KI rc M_X5_mark [zR o, zR 30] σ (fun v σ' => v = σ 30 2 ∧ σ' = lvC σ 20) := by
  refine K_of 0 (by decide) (Nat.le_of_ble_eq_true rfl) (show Z _ _ 0 0 0 [some (zR o), some (zR 30)] [] _ _ from ?_)
  first | refine z_aload_n dX5_mark_0 rfl ?_ | refine z_aload_nT dX5_mark_0 rfl ?_
  refine z_bipush dX5_mark_1 rfl ?_
  refine h_Vv1 (Y' := M_X0_leave) dX5_mark_3 zw_720 zw_695 zw_696 rfl ok_X0_leave (by decide) rfl (Nat.le_of_ble_eq_true rfl) ⟨rfl, rfl⟩ (by decide) (by first | assumption | rfl) (k_leave h0 h1) (fun σ2 hq => ?_)
  subst hq
  first | refine z_aload_n dX5_mark_6 rfl ?_ | refine z_aload_nT dX5_mark_6 rfl ?_
  refine h_geti dX5_mark_7 fl_X5_17 (by first | assumption | rfl) (by rfl) ?_
  refine h_iret dX5_mark_10 rfl rfl rfl ?_
  exact ⟨lvC_o (by omega) (by omega), rfl⟩
theorem k_imk {o ci : Nat} (ho : zsh[o]? = some (.inr (ci, []))) (hci : ci < 12) (h0 : 0 ≤ σ 30 1) (h1 : σ 30 1 < 14) : KI rc M_X3_mark [zR o, zR 30] σ (fun v σ' => v = σ 30 2 + σ 30 4 ∧ σ' = lvC (lvC σ 21) 20) := by
  refine K_of 0 (by decide) (Nat.le_of_ble_eq_true rfl) (show Z _ _ 0 0 0 [some (zR o), some (zR 30)] [] _ _ from ?_)
  first | refine z_aload_n dX3_mark_0 rfl ?_ | refine z_aload_nT dX3_mark_0 rfl ?_
  refine z_bipush dX3_mark_1 rfl ?_
  refine h_Vv1 (Y' := M_X0_leave) dX3_mark_3 zw_701 zw_695 zw_696 rfl ok_X0_leave (by decide) rfl (Nat.le_of_ble_eq_true rfl) ⟨rfl, rfl⟩ (by decide) (by first | assumption | rfl) (k_leave h0 (by omega)) (fun σ2 hq => ?_)
  subst hq
  first | refine z_aload_n dX3_mark_6 rfl ?_ | refine z_aload_nT dX3_mark_6 rfl ?_
  first | refine z_aload_n dX3_mark_7 rfl ?_ | refine z_aload_nT dX3_mark_7 rfl ?_
  refine h_SUi1 (Y' := M_X5_mark) dX3_mark_8 zw_717 zw_1140 zw_174 zw_718 (by decide) (by assumption) ok_X5_mark (by decide) rfl (Nat.le_of_ble_eq_true rfl) ⟨rfl, rfl⟩ (by decide) (by first | assumption | rfl) (k_pmk (by rw [lvC_1]; omega) (by rw [lvC_1]; omega)) (fun vv σ2 hq => ?_)
  obtain ⟨rfl, rfl⟩ := hq
  first | refine z_aload_n dX3_mark_11 rfl ?_ | refine z_aload_nT dX3_mark_11 rfl ?_
  refine h_geti dX3_mark_12 fl_X3_23 (by first | assumption | rfl) (by rfl) ?_
  refine z_iadd dX3_mark_15 ?_
  refine h_iret dX3_mark_16 rfl rfl rfl ?_
  exact ⟨by rw [lvC_o (by omega) (by omega), lvC_o (by omega) (by omega), lvC_o (by omega) (by omega)], rfl⟩
theorem k_cmk {o ci : Nat} (ho : zsh[o]? = some (.inr (ci, []))) (hci : ci < 12) (h0 : 0 ≤ σ 30 1) (h1 : σ 30 1 < 13) : KI rc M_X1_mark [zR o, zR 30] σ (fun v σ' => v = (σ 30 2 + σ 30 4) * 2 ∧ σ' = lvC (lvC (lvC σ 24) 21) 20) := by
  refine K_of 0 (by decide) (Nat.le_of_ble_eq_true rfl) (show Z _ _ 0 0 0 [some (zR o), some (zR 30)] [] _ _ from ?_)
  first | refine z_aload_n dX1_mark_0 rfl ?_ | refine z_aload_nT dX1_mark_0 rfl ?_
  refine z_bipush dX1_mark_1 rfl ?_
  refine h_Vv1 (Y' := M_X0_leave) dX1_mark_3 zw_694 zw_695 zw_696 rfl ok_X0_leave (by decide) rfl (Nat.le_of_ble_eq_true rfl) ⟨rfl, rfl⟩ (by decide) (by first | assumption | rfl) (k_leave h0 (by omega)) (fun σ2 hq => ?_)
  subst hq
  first | refine z_aload_n dX1_mark_6 rfl ?_ | refine z_aload_nT dX1_mark_6 rfl ?_
  first | refine z_aload_n dX1_mark_7 rfl ?_ | refine z_aload_nT dX1_mark_7 rfl ?_
  refine h_SUi1 (Y' := M_X3_mark) dX1_mark_8 zw_710 zw_706 zw_181 zw_704 (by decide) (by assumption) ok_X3_mark (by decide) rfl (Nat.le_of_ble_eq_true rfl) ⟨rfl, rfl⟩ (by decide) (by first | assumption | rfl) (k_imk ho hci (by rw [lvC_1]; omega) (by rw [lvC_1]; omega)) (fun vv σ2 hq => ?_)
  obtain ⟨rfl, rfl⟩ := hq
  refine z_iconst dX1_mark_11 ?_
  refine z_imul dX1_mark_12 ?_
  refine h_iret dX1_mark_13 rfl rfl rfl ?_
  exact ⟨by rw [lvC_o (by omega) (by omega), lvC_o (by omega) (by omega)], rfl⟩
theorem k_rmk {o ci : Nat} (ho : zsh[o]? = some (.inr (ci, []))) (hci : ci < 12) (h0 : 0 ≤ σ 30 1) (h1 : σ 30 1 < 13) : KI rc M_X8_mark [zR o, zR 30] σ (fun v σ' => v = σ 30 2 + σ 30 4 - 1000 ∧ σ' = lvC (lvC (lvC σ 22) 21) 20) := by
  refine K_of 0 (by decide) (Nat.le_of_ble_eq_true rfl) (show Z _ _ 0 0 0 [some (zR o), some (zR 30)] [] _ _ from ?_)
  first | refine z_aload_n dX8_mark_0 rfl ?_ | refine z_aload_nT dX8_mark_0 rfl ?_
  refine z_bipush dX8_mark_1 rfl ?_
  refine h_Vv1 (Y' := M_X0_leave) dX8_mark_3 zw_714 zw_695 zw_696 rfl ok_X0_leave (by decide) rfl (Nat.le_of_ble_eq_true rfl) ⟨rfl, rfl⟩ (by decide) (by first | assumption | rfl) (k_leave h0 (by omega)) (fun σ2 hq => ?_)
  subst hq
  first | refine z_aload_n dX8_mark_6 rfl ?_ | refine z_aload_nT dX8_mark_6 rfl ?_
  first | refine z_aload_n dX8_mark_7 rfl ?_ | refine z_aload_nT dX8_mark_7 rfl ?_
  refine h_SUi1 (Y' := M_X3_mark) dX8_mark_8 zw_715 zw_706 zw_188 zw_704 (by decide) (by assumption) ok_X3_mark (by decide) rfl (Nat.le_of_ble_eq_true rfl) ⟨rfl, rfl⟩ (by decide) (by first | assumption | rfl) (k_imk ho hci (by rw [lvC_1]; omega) (by rw [lvC_1]; omega)) (fun vv σ2 hq => ?_)
  obtain ⟨rfl, rfl⟩ := hq
  refine z_sipush dX8_mark_11 rfl ?_
  refine z_isub dX8_mark_14 ?_
  refine h_iret dX8_mark_15 rfl rfl rfl ?_
  exact ⟨by rw [lvC_o (by omega) (by omega), lvC_o (by omega) (by omega)], rfl⟩
theorem k_wsz {o ci : Nat} (ho : zsh[o]? = some (.inr (ci, []))) (hci : ci < 12) (h0 : 0 ≤ σ 30 1) (h1 : σ 30 1 < 14) : KI rc M_X10_size [zR o, zR 30] σ (fun v σ' => v = σ 30 3 - 100 ∧ σ' = lvC (lvC σ 13) 10) := by
  refine K_of 0 (by decide) (Nat.le_of_ble_eq_true rfl) (show Z _ _ 0 0 0 [some (zR o), some (zR 30)] [] _ _ from ?_)
  first | refine z_aload_n dX10_size_0 rfl ?_ | refine z_aload_nT dX10_size_0 rfl ?_
  refine z_bipush dX10_size_1 rfl ?_
  refine h_Vv1 (Y' := M_X0_leave) dX10_size_3 zw_729 zw_695 zw_696 rfl ok_X0_leave (by decide) rfl (Nat.le_of_ble_eq_true rfl) ⟨rfl, rfl⟩ (by decide) (by first | assumption | rfl) (k_leave h0 (by omega)) (fun σ2 hq => ?_)
  subst hq
  first | refine z_aload_n dX10_size_6 rfl ?_ | refine z_aload_nT dX10_size_6 rfl ?_
  first | refine z_aload_n dX10_size_7 rfl ?_ | refine z_aload_nT dX10_size_7 rfl ?_
  refine h_SUi1 (Y' := M_X5_size) dX10_size_8 zw_730 zw_690 zw_195 zw_689 (by decide) (by assumption) ok_X5_size (by decide) rfl (Nat.le_of_ble_eq_true rfl) ⟨rfl, rfl⟩ (by decide) (by first | assumption | rfl) (k_psz (by rw [lvC_1]; omega) (by rw [lvC_1]; omega)) (fun vv σ2 hq => ?_)
  obtain ⟨rfl, rfl⟩ := hq
  refine z_bipush dX10_size_11 rfl ?_
  refine z_isub dX10_size_13 ?_
  refine h_iret dX10_size_14 rfl rfl rfl ?_
  exact ⟨by rw [lvC_o (by omega) (by omega)], rfl⟩
theorem k_psz5 {o ci : Nat} (ho : zsh[o]? = some (.inr (ci, []))) (hci : ci < 12) (h0 : 0 ≤ σ 30 1) (h1 : σ 30 1 < 13) : KI rc M_X6_size [zR o, zR 30] σ (fun v σ' => v = (σ 30 3 - 100) * 2 ∧ σ' = lvC (lvC (lvC σ 14) 13) 10) := by
  refine K_of 0 (by decide) (Nat.le_of_ble_eq_true rfl) (show Z _ _ 0 0 0 [some (zR o), some (zR 30)] [] _ _ from ?_)
  first | refine z_aload_n dX6_size_0 rfl ?_ | refine z_aload_nT dX6_size_0 rfl ?_
  refine z_bipush dX6_size_1 rfl ?_
  refine h_Vv1 (Y' := M_X0_leave) dX6_size_3 zw_725 zw_695 zw_696 rfl ok_X0_leave (by decide) rfl (Nat.le_of_ble_eq_true rfl) ⟨rfl, rfl⟩ (by decide) (by first | assumption | rfl) (k_leave h0 (by omega)) (fun σ2 hq => ?_)
  subst hq
  first | refine z_aload_n dX6_size_6 rfl ?_ | refine z_aload_nT dX6_size_6 rfl ?_
  first | refine z_aload_n dX6_size_7 rfl ?_ | refine z_aload_nT dX6_size_7 rfl ?_
  refine h_SUi1 (Y' := M_X10_size) dX6_size_8 zw_726 zw_1141 zw_202 zw_727 (by decide) (by assumption) ok_X10_size (by decide) rfl (Nat.le_of_ble_eq_true rfl) ⟨rfl, rfl⟩ (by decide) (by first | assumption | rfl) (k_wsz ho hci (by rw [lvC_1]; omega) (by rw [lvC_1]; omega)) (fun vv σ2 hq => ?_)
  obtain ⟨rfl, rfl⟩ := hq
  refine z_iconst dX6_size_11 ?_
  refine z_imul dX6_size_12 ?_
  refine h_iret dX6_size_13 rfl rfl rfl ?_
  exact ⟨by rw [lvC_o (by omega) (by omega)], rfl⟩
theorem k_isz1 (h0 : σ 30 1 = 0 ∨ σ 30 1 = 1) : KI rc M_X3_size [zR 32, zR 30] σ (fun v σ' => v = σ 30 3 + (σ 30 2 + σ 30 4) ∧ σ' = [11, 10, 21, 20].foldl lvC σ) := by
  have hci : (3 : Nat) < 12 := by decide
  refine K_of 1 (by decide) (Nat.le_of_ble_eq_true rfl) (show Z _ _ 0 0 0 [some (zR 32), some (zR 30), none] [] _ _ from ?_)
  first | refine z_aload_n dX3_size_0 rfl ?_ | refine z_aload_nT dX3_size_0 rfl ?_
  refine z_bipush dX3_size_1 rfl ?_
  refine h_Vv1 (Y' := M_X0_leave) dX3_size_3 zw_701 zw_695 zw_696 rfl ok_X0_leave (by decide) rfl (Nat.le_of_ble_eq_true rfl) ⟨rfl, rfl⟩ (by decide) (by first | assumption | rfl) (k_leave (by omega) (by omega)) (fun σ2 hq => ?_)
  subst hq
  first | refine z_aload_n dX3_size_6 rfl ?_ | refine z_aload_nT dX3_size_6 rfl ?_
  first | refine z_aload_n dX3_size_7 rfl ?_ | refine z_aload_nT dX3_size_7 rfl ?_
  refine h_SUi1 (Y' := M_X5_size) dX3_size_8 zw_702 zw_690 zw_174 zw_689 (by decide) (by assumption) ok_X5_size (by decide) rfl (Nat.le_of_ble_eq_true rfl) ⟨rfl, rfl⟩ (by decide) (by first | assumption | rfl) (k_psz (by rw [lvC_1]; omega) (by rw [lvC_1]; omega)) (fun vv σ2 hq => ?_)
  obtain ⟨rfl, rfl⟩ := hq
  refine z_istore_n dX3_size_11 (by decide) rfl ?_
  refine z_iload_n dX3_size_12 rfl ?_
  first | refine z_aload_n dX3_size_13 rfl ?_ | refine z_aload_nT dX3_size_13 rfl ?_
  first | refine z_aload_n dX3_size_14 rfl ?_ | refine z_aload_nT dX3_size_14 rfl ?_
  refine h_Vi1 (Y' := M_X3_mark) dX3_size_15 zw_703 zw_704 zw_705 rfl ok_X3_mark (by decide) rfl (Nat.le_of_ble_eq_true rfl) ⟨rfl, rfl⟩ (by decide) (by first | assumption | rfl) (k_imk rfl hci (by rw [lvC_1, lvC_1]; omega) (by rw [lvC_1, lvC_1]; omega)) (fun vv σ2 hq => ?_)
  obtain ⟨rfl, rfl⟩ := hq
  refine z_iadd dX3_size_18 ?_
  refine h_iret dX3_size_19 rfl rfl rfl ?_
  exact ⟨by rw [lvC_o (by omega) (by omega), lvC_o (by omega) (by omega), lvC_o (by omega) (by omega), lvC_o (by omega) (by omega), lvC_o (by omega) (by omega)], rfl⟩
theorem k_isz2 (h0 : σ 30 1 = 0 ∨ σ 30 1 = 1) : KI rc M_X3_size [zR 33, zR 30] σ (fun v σ' => v = σ 30 3 + (σ 30 2 + σ 30 4) * 2 ∧ σ' = [11, 10, 24, 21, 20].foldl lvC σ) := by
  have hci : (1 : Nat) < 12 := by decide
  refine K_of 1 (by decide) (Nat.le_of_ble_eq_true rfl) (show Z _ _ 0 0 0 [some (zR 33), some (zR 30), none] [] _ _ from ?_)
  first | refine z_aload_n dX3_size_0 rfl ?_ | refine z_aload_nT dX3_size_0 rfl ?_
  refine z_bipush dX3_size_1 rfl ?_
  refine h_Vv1 (Y' := M_X0_leave) dX3_size_3 zw_701 zw_695 zw_696 rfl ok_X0_leave (by decide) rfl (Nat.le_of_ble_eq_true rfl) ⟨rfl, rfl⟩ (by decide) (by first | assumption | rfl) (k_leave (by omega) (by omega)) (fun σ2 hq => ?_)
  subst hq
  first | refine z_aload_n dX3_size_6 rfl ?_ | refine z_aload_nT dX3_size_6 rfl ?_
  first | refine z_aload_n dX3_size_7 rfl ?_ | refine z_aload_nT dX3_size_7 rfl ?_
  refine h_SUi1 (Y' := M_X5_size) dX3_size_8 zw_702 zw_690 zw_174 zw_689 (by decide) (by assumption) ok_X5_size (by decide) rfl (Nat.le_of_ble_eq_true rfl) ⟨rfl, rfl⟩ (by decide) (by first | assumption | rfl) (k_psz (by rw [lvC_1]; omega) (by rw [lvC_1]; omega)) (fun vv σ2 hq => ?_)
  obtain ⟨rfl, rfl⟩ := hq
  refine z_istore_n dX3_size_11 (by decide) rfl ?_
  refine z_iload_n dX3_size_12 rfl ?_
  first | refine z_aload_n dX3_size_13 rfl ?_ | refine z_aload_nT dX3_size_13 rfl ?_
  first | refine z_aload_n dX3_size_14 rfl ?_ | refine z_aload_nT dX3_size_14 rfl ?_
  refine h_Ui1 (Y' := M_X1_mark) (X := M_X3_mark) "PierYears$Cast" dX3_size_15 zw_703 zw_706 zw_704 zw_708 zw_707 rfl ok_X3_mark rfl ok_X1_mark (by decide) rfl (Nat.le_of_ble_eq_true rfl) ⟨rfl, rfl⟩ (by decide) (by first | assumption | rfl) (k_cmk rfl hci (by rw [lvC_1, lvC_1]; omega) (by rw [lvC_1, lvC_1]; omega)) (fun vv σ2 hq => ?_)
  obtain ⟨rfl, rfl⟩ := hq
  refine z_iadd dX3_size_18 ?_
  refine h_iret dX3_size_19 rfl rfl rfl ?_
  exact ⟨by rw [lvC_o (by omega) (by omega), lvC_o (by omega) (by omega), lvC_o (by omega) (by omega), lvC_o (by omega) (by omega), lvC_o (by omega) (by omega)], rfl⟩
theorem k_isz3 (h0 : σ 30 1 = 0 ∨ σ 30 1 = 1) : KI rc M_X3_size [zR 34, zR 30] σ (fun v σ' => v = σ 30 3 + (σ 30 2 + σ 30 4 - 1000) ∧ σ' = [11, 10, 22, 21, 20].foldl lvC σ) := by
  have hci : (7 : Nat) < 12 := by decide
  refine K_of 1 (by decide) (Nat.le_of_ble_eq_true rfl) (show Z _ _ 0 0 0 [some (zR 34), some (zR 30), none] [] _ _ from ?_)
  first | refine z_aload_n dX3_size_0 rfl ?_ | refine z_aload_nT dX3_size_0 rfl ?_
  refine z_bipush dX3_size_1 rfl ?_
  refine h_Vv1 (Y' := M_X0_leave) dX3_size_3 zw_701 zw_695 zw_696 rfl ok_X0_leave (by decide) rfl (Nat.le_of_ble_eq_true rfl) ⟨rfl, rfl⟩ (by decide) (by first | assumption | rfl) (k_leave (by omega) (by omega)) (fun σ2 hq => ?_)
  subst hq
  first | refine z_aload_n dX3_size_6 rfl ?_ | refine z_aload_nT dX3_size_6 rfl ?_
  first | refine z_aload_n dX3_size_7 rfl ?_ | refine z_aload_nT dX3_size_7 rfl ?_
  refine h_SUi1 (Y' := M_X5_size) dX3_size_8 zw_702 zw_690 zw_174 zw_689 (by decide) (by assumption) ok_X5_size (by decide) rfl (Nat.le_of_ble_eq_true rfl) ⟨rfl, rfl⟩ (by decide) (by first | assumption | rfl) (k_psz (by rw [lvC_1]; omega) (by rw [lvC_1]; omega)) (fun vv σ2 hq => ?_)
  obtain ⟨rfl, rfl⟩ := hq
  refine z_istore_n dX3_size_11 (by decide) rfl ?_
  refine z_iload_n dX3_size_12 rfl ?_
  first | refine z_aload_n dX3_size_13 rfl ?_ | refine z_aload_nT dX3_size_13 rfl ?_
  first | refine z_aload_n dX3_size_14 rfl ?_ | refine z_aload_nT dX3_size_14 rfl ?_
  refine h_Ui1 (Y' := M_X8_mark) (X := M_X3_mark) "PierYears$Rusty" dX3_size_15 zw_703 zw_706 zw_704 zw_712 zw_711 rfl ok_X3_mark rfl ok_X8_mark (by decide) rfl (Nat.le_of_ble_eq_true rfl) ⟨rfl, rfl⟩ (by decide) (by first | assumption | rfl) (k_rmk rfl hci (by rw [lvC_1, lvC_1]; omega) (by rw [lvC_1, lvC_1]; omega)) (fun vv σ2 hq => ?_)
  obtain ⟨rfl, rfl⟩ := hq
  refine z_iadd dX3_size_18 ?_
  refine h_iret dX3_size_19 rfl rfl rfl ?_
  exact ⟨by rw [lvC_o (by omega) (by omega), lvC_o (by omega) (by omega), lvC_o (by omega) (by omega), lvC_o (by omega) (by omega), lvC_o (by omega) (by omega)], rfl⟩
theorem k_csz (h0 : σ 30 1 = 0) : KI rc M_X1_size [zR 33, zR 30] σ (fun v σ' => v = -(σ 30 3 + (σ 30 2 + σ 30 4) * 2) ∧ σ' = [12, 11, 10, 24, 21, 20].foldl lvC σ) := by
  have hci : (1 : Nat) < 12 := by decide
  refine K_of 0 (by decide) (Nat.le_of_ble_eq_true rfl) (show Z _ _ 0 0 0 [some (zR 33), some (zR 30)] [] _ _ from ?_)
  first | refine z_aload_n dX1_size_0 rfl ?_ | refine z_aload_nT dX1_size_0 rfl ?_
  refine z_bipush dX1_size_1 rfl ?_
  refine h_Vv1 (Y' := M_X0_leave) dX1_size_3 zw_694 zw_695 zw_696 rfl ok_X0_leave (by decide) rfl (Nat.le_of_ble_eq_true rfl) ⟨rfl, rfl⟩ (by decide) (by first | assumption | rfl) (k_leave (by omega) (by omega)) (fun σ2 hq => ?_)
  subst hq
  first | refine z_aload_n dX1_size_6 rfl ?_ | refine z_aload_nT dX1_size_6 rfl ?_
  first | refine z_aload_n dX1_size_7 rfl ?_ | refine z_aload_nT dX1_size_7 rfl ?_
  refine h_SUi1 (Y' := M_X3_size) dX1_size_8 zw_698 zw_1139 zw_181 zw_699 (by decide) (by assumption) ok_X3_size (by decide) rfl (Nat.le_of_ble_eq_true rfl) ⟨rfl, rfl⟩ (by decide) (by first | assumption | rfl) (k_isz2 (by rw [lvC_1]; omega)) (fun vv σ2 hq => ?_)
  obtain ⟨rfl, rfl⟩ := hq
  refine z_ineg dX1_size_11 ?_
  refine h_iret dX1_size_12 rfl rfl rfl ?_
  exact ⟨by rw [lvC_o (by omega) (by omega), lvC_o (by omega) (by omega), lvC_o (by omega) (by omega)], rfl⟩
theorem k_wmk4 (h0 : σ 30 1 = 0) : KI rc M_X10_mark [zR 35, zR 30] σ (fun v σ' => v = σ 30 2 - (σ 30 3 - 100) ∧ σ' = [23, 20, 13, 10].foldl lvC σ) := by
  have hci : (9 : Nat) < 12 := by decide
  refine K_of 1 (by decide) (Nat.le_of_ble_eq_true rfl) (show Z _ _ 0 0 0 [some (zR 35), some (zR 30), none] [] _ _ from ?_)
  first | refine z_aload_n dX10_mark_0 rfl ?_ | refine z_aload_nT dX10_mark_0 rfl ?_
  refine z_bipush dX10_mark_1 rfl ?_
  refine h_Vv1 (Y' := M_X0_leave) dX10_mark_3 zw_729 zw_695 zw_696 rfl ok_X0_leave (by decide) rfl (Nat.le_of_ble_eq_true rfl) ⟨rfl, rfl⟩ (by decide) (by first | assumption | rfl) (k_leave (by omega) (by omega)) (fun σ2 hq => ?_)
  subst hq
  first | refine z_aload_n dX10_mark_6 rfl ?_ | refine z_aload_nT dX10_mark_6 rfl ?_
  first | refine z_aload_n dX10_mark_7 rfl ?_ | refine z_aload_nT dX10_mark_7 rfl ?_
  refine h_SUi1 (Y' := M_X5_mark) dX10_mark_8 zw_737 zw_1140 zw_195 zw_718 (by decide) (by assumption) ok_X5_mark (by decide) rfl (Nat.le_of_ble_eq_true rfl) ⟨rfl, rfl⟩ (by decide) (by first | assumption | rfl) (k_pmk (by rw [lvC_1]; omega) (by rw [lvC_1]; omega)) (fun vv σ2 hq => ?_)
  obtain ⟨rfl, rfl⟩ := hq
  refine z_istore_n dX10_mark_11 (by decide) rfl ?_
  refine z_iload_n dX10_mark_12 rfl ?_
  first | refine z_aload_n dX10_mark_13 rfl ?_ | refine z_aload_nT dX10_mark_13 rfl ?_
  first | refine z_aload_n dX10_mark_14 rfl ?_ | refine z_aload_nT dX10_mark_14 rfl ?_
  refine h_Vi1 (Y' := M_X10_size) dX10_mark_15 zw_738 zw_727 zw_1146 rfl ok_X10_size (by decide) rfl (Nat.le_of_ble_eq_true rfl) ⟨rfl, rfl⟩ (by decide) (by first | assumption | rfl) (k_wsz rfl hci (by rw [lvC_1, lvC_1]; omega) (by rw [lvC_1, lvC_1]; omega)) (fun vv σ2 hq => ?_)
  obtain ⟨rfl, rfl⟩ := hq
  refine z_isub dX10_mark_18 ?_
  refine h_iret dX10_mark_19 rfl rfl rfl ?_
  exact ⟨by rw [lvC_o (by omega) (by omega), lvC_o (by omega) (by omega), lvC_o (by omega) (by omega)], rfl⟩
theorem k_wmk5 (h0 : σ 30 1 = 0) : KI rc M_X10_mark [zR 36, zR 30] σ (fun v σ' => v = σ 30 2 - (σ 30 3 - 100) * 2 ∧ σ' = [23, 20, 14, 13, 10].foldl lvC σ) := by
  have hci : (5 : Nat) < 12 := by decide
  refine K_of 1 (by decide) (Nat.le_of_ble_eq_true rfl) (show Z _ _ 0 0 0 [some (zR 36), some (zR 30), none] [] _ _ from ?_)
  first | refine z_aload_n dX10_mark_0 rfl ?_ | refine z_aload_nT dX10_mark_0 rfl ?_
  refine z_bipush dX10_mark_1 rfl ?_
  refine h_Vv1 (Y' := M_X0_leave) dX10_mark_3 zw_729 zw_695 zw_696 rfl ok_X0_leave (by decide) rfl (Nat.le_of_ble_eq_true rfl) ⟨rfl, rfl⟩ (by decide) (by first | assumption | rfl) (k_leave (by omega) (by omega)) (fun σ2 hq => ?_)
  subst hq
  first | refine z_aload_n dX10_mark_6 rfl ?_ | refine z_aload_nT dX10_mark_6 rfl ?_
  first | refine z_aload_n dX10_mark_7 rfl ?_ | refine z_aload_nT dX10_mark_7 rfl ?_
  refine h_SUi1 (Y' := M_X5_mark) dX10_mark_8 zw_737 zw_1140 zw_195 zw_718 (by decide) (by assumption) ok_X5_mark (by decide) rfl (Nat.le_of_ble_eq_true rfl) ⟨rfl, rfl⟩ (by decide) (by first | assumption | rfl) (k_pmk (by rw [lvC_1]; omega) (by rw [lvC_1]; omega)) (fun vv σ2 hq => ?_)
  obtain ⟨rfl, rfl⟩ := hq
  refine z_istore_n dX10_mark_11 (by decide) rfl ?_
  refine z_iload_n dX10_mark_12 rfl ?_
  first | refine z_aload_n dX10_mark_13 rfl ?_ | refine z_aload_nT dX10_mark_13 rfl ?_
  first | refine z_aload_n dX10_mark_14 rfl ?_ | refine z_aload_nT dX10_mark_14 rfl ?_
  refine h_Ui1 (Y' := M_X6_size) (X := M_X10_size) "PierYears$Piled" dX10_mark_15 zw_738 zw_1141 zw_727 zw_723 zw_1145 rfl ok_X10_size rfl ok_X6_size (by decide) rfl (Nat.le_of_ble_eq_true rfl) ⟨rfl, rfl⟩ (by decide) (by first | assumption | rfl) (k_psz5 rfl hci (by rw [lvC_1, lvC_1]; omega) (by rw [lvC_1, lvC_1]; omega)) (fun vv σ2 hq => ?_)
  obtain ⟨rfl, rfl⟩ := hq
  refine z_isub dX10_mark_18 ?_
  refine h_iret dX10_mark_19 rfl rfl rfl ?_
  exact ⟨by rw [lvC_o (by omega) (by omega), lvC_o (by omega) (by omega), lvC_o (by omega) (by omega)], rfl⟩
end
