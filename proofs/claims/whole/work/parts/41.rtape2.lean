/-! the reference: parts, the law -/
def ptF (f : Nat → Int) (N a : Nat) (lo hi s : Int) : PR := if ¬ (1 ≤ jF f N a ∧ jF f N a ≤ 2) then (false, a, 1, zZ) else if ¬ (lo ≤ vF f N a ∧ vF f N a ≤ hi) then (false, a, 2, zZ) else if ¬ (a + jF f N a < N ∧ f (a + jF f N a) = s) then (false, a + jF f N a, 1, zZ) else (true, a + jF f N a + 1, 0, fun _ => vF f N a)
theorem psL_pt {f : Nat → Int} {N : Nat} {lo hi : Nat → Int} {n m k a : Nat} {v : Nat → Int} : psL f N lo hi n (m + 1) k a v = if (ptF f N a (lo k) (hi k) (sgF n k)).ok = true then psL f N lo hi n m (k + 1) (ptF f N a (lo k) (hi k) (sgF n k)).pl (zup v k ((ptF f N a (lo k) (hi k) (sgF n k)).va 0)) else (false, (ptF f N a (lo k) (hi k) (sgF n k)).pl, (ptF f N a (lo k) (hi k) (sgF n k)).fa, v) := by
  rw [psL_s]
  unfold ptF
  by_cases h1 : ¬ (1 ≤ jF f N a ∧ jF f N a ≤ 2)
  · rw [if_pos h1, if_pos h1]
    rfl
  · rw [if_neg h1, if_neg h1]
    by_cases h2 : ¬ (lo k ≤ vF f N a ∧ vF f N a ≤ hi k)
    · rw [if_pos h2, if_pos h2]
      rfl
    · rw [if_neg h2, if_neg h2]
      by_cases h3 : ¬ (a + jF f N a < N ∧ f (a + jF f N a) = sgF n k)
      · rw [if_pos h3, if_pos h3]
        rfl
      · rw [if_neg h3, if_neg h3]
        rfl
theorem ptF_pl {f : Nat → Int} {N a : Nat} {lo hi s : Int} (ha : a ≤ N) : (ptF f N a lo hi s).pl ≤ N := by
  have hj : jF f N a ≤ N - a := rlF_le (f := f) (N - a) a
  unfold ptF
  split
  · exact ha
  · split
    · exact ha
    · split
      · show a + jF f N a ≤ N
        omega
      · rename_i h3
        show a + jF f N a + 1 ≤ N
        omega
def FP (σ σ' : Mem) : Prop := ∀ o j, ¬ (o = 40 ∧ 6 ≤ j ∧ j ≤ 10) → o ≠ 46 → σ' o j = σ o j
theorem FP.rf {σ : Mem} : FP σ σ := fun _ _ _ _ => rfl
theorem FP.tr {σ σ1 σ2 : Mem} (h1 : FP σ σ1) (h2 : FP σ1 σ2) : FP σ σ2 := fun o j a b => (h2 o j a b).trans (h1 o j a b)
theorem TM_FP {σ σ' : Mem} {f : Nat → Int} {N a b : Nat} (h : TM σ f N a) (hf : FP σ σ') (hb : σ' 40 6 = (b : Int)) : TM σ' f N b := ⟨(hf 40 4 (by omega) (by omega)).trans h.1, hb, fun i hi => (hf 44 i (by omega) (by omega)).trans (h.2.2 i hi)⟩
theorem FM.fp {σ σ' : Mem} (h : FM σ σ') : FP σ σ' := fun o j a _ => h o j a
def PQ (σ : Mem) (pos : Nat) (R : PR) (v : Int) (σ' : Mem) : Prop := ((v = 1 ∧ R.ok = true ∧ σ' 40 6 = (R.pl : Int) ∧ ∀ j, σ' 46 j = zup (σ 46) pos (R.va 0) j) ∨ (v = 0 ∧ R.ok = false ∧ σ' 40 7 = (R.pl : Int) ∧ σ' 40 10 = R.fa)) ∧ FP σ σ'
section
variable {rc : ZRC} {σ α : Mem} {f : Nat → Int} {N a : Nat}
theorem m_isNumber {lo hi : Int} (hlo : zin lo) (hhi : zin hi) (hT : TM σ f N a) (hF : TF f N) (ha : a ≤ N) : KI rc M_X12_isNumber [zR 40, zI lo, zI hi] σ (fun v σ' => ((v = 1 ∧ (1 ≤ jF f N a ∧ jF f N a ≤ 2) ∧ (lo ≤ vF f N a ∧ vF f N a ≤ hi) ∧ σ' 40 6 = ((a + jF f N a : Nat) : Int) ∧ σ' 40 9 = vF f N a) ∨ (v = 0 ∧ ¬ (1 ≤ jF f N a ∧ jF f N a ≤ 2) ∧ σ' 40 7 = (a : Int) ∧ σ' 40 10 = 1) ∨ (v = 0 ∧ (1 ≤ jF f N a ∧ jF f N a ≤ 2) ∧ ¬ (lo ≤ vF f N a ∧ vF f N a ≤ hi) ∧ σ' 40 7 = (a : Int) ∧ σ' 40 10 = 2)) ∧ FM σ σ') := by
  refine K_of 0 (by decide) (Nat.le_of_ble_eq_true rfl) (show Z _ _ 0 0 0 [some (zR 40), some (zI lo), some (zI hi)] [] _ _ from ?_)
  first | refine z_aload_n dX12_isNumber_0 rfl ?_ | refine z_aload_nT dX12_isNumber_0 rfl ?_
  refine h_Vv0 (Y' := M_X12_nextToken) dX12_isNumber_1 zw_906 zw_908 zs_31 rfl ok_X12_nextToken (by decide) rfl (Nat.le_of_ble_eq_true rfl) ⟨rfl, rfl⟩ (by decide) (by first | assumption | rfl) (m_nextToken hT hF ha) (fun σ2 hq => ?_)
  obtain ⟨⟨q7, q⟩, qf⟩ := hq
  have no : ¬ (1 ≤ jF f N a ∧ jF f N a ≤ 2) → Z rc M_X12_isNumber 0 0 12 [some (zR 40), some (zI lo), some (zI hi)] [] (hp σ2) (qI (fun v σ' => ((v = 1 ∧ (1 ≤ jF f N a ∧ jF f N a ≤ 2) ∧ (lo ≤ vF f N a ∧ vF f N a ≤ hi) ∧ σ' 40 6 = ((a + jF f N a : Nat) : Int) ∧ σ' 40 9 = vF f N a) ∨ (v = 0 ∧ ¬ (1 ≤ jF f N a ∧ jF f N a ≤ 2) ∧ σ' 40 7 = (a : Int) ∧ σ' 40 10 = 1) ∨ (v = 0 ∧ (1 ≤ jF f N a ∧ jF f N a ≤ 2) ∧ ¬ (lo ≤ vF f N a ∧ vF f N a ≤ hi) ∧ σ' 40 7 = (a : Int) ∧ σ' 40 10 = 2)) ∧ FM σ σ')) := by
    intro h
    first | refine z_aload_n dX12_isNumber_12 rfl ?_ | refine z_aload_nT dX12_isNumber_12 rfl ?_
    refine z_iconst dX12_isNumber_13 ?_
    obtain ⟨σ1, rfl⟩ : ∃ z, z = σ2 := ⟨_, rfl⟩
    refine h_Vi1 (Y' := M_X12_fails) dX12_isNumber_14 zw_910 zw_912 zs_32 rfl ok_X12_fails (by decide) rfl (Nat.le_of_ble_eq_true rfl) ⟨rfl, rfl⟩ (by decide) (by first | assumption | rfl) (m_fails) (fun vv σ2 hq => ?_)
    obtain ⟨rfl, rfl⟩ := hq
    refine h_zret dX12_isNumber_17 rfl (by omega) rfl rfl ?_
    exact ⟨Or.inr (Or.inl ⟨rfl, h, by rw [zu_j (by omega)]; exact q7, zu_eq⟩), qf.tr (FM_zu (by omega))⟩
  rcases q with ⟨h1, h2⟩ | ⟨h1, h2, h3, h4, h5⟩ | ⟨h1, h2, h3, h4⟩
  · have hj := jF_N (f := f) h1
    first | refine z_aload_n dX12_isNumber_4 rfl ?_ | refine z_aload_nT dX12_isNumber_4 rfl ?_
    refine h_geti dX12_isNumber_5 fl_X12_90 (by first | assumption | rfl) (by rfl) ?_
    refine z_iconst dX12_isNumber_8 ?_
    refine z_icmp_eq (tgt := 18) dX12_isNumber_9 (by decide) (by omega) (by omega) (fun b9 => ?_) (fun b9 => ?_)
    · omega
    · exact no (by omega)
  · have hj := (jF_0 (f := f) h1).1 h2
    by_cases h6 : 2 < jF f N a
    · rw [if_pos h6] at h3
      first | refine z_aload_n dX12_isNumber_4 rfl ?_ | refine z_aload_nT dX12_isNumber_4 rfl ?_
      refine h_geti dX12_isNumber_5 fl_X12_90 (by first | assumption | rfl) (by rfl) ?_
      refine z_iconst dX12_isNumber_8 ?_
      refine z_icmp_eq (tgt := 18) dX12_isNumber_9 (by decide) (by omega) (by omega) (fun b9 => ?_) (fun b9 => ?_)
      · omega
      · exact no (by omega)
    · rw [if_neg h6] at h3
      have hv := vF_in (f := f) (N := N) (a := a)
      first | refine z_aload_n dX12_isNumber_4 rfl ?_ | refine z_aload_nT dX12_isNumber_4 rfl ?_
      refine h_geti dX12_isNumber_5 fl_X12_90 (by first | assumption | rfl) (by rfl) ?_
      refine z_iconst dX12_isNumber_8 ?_
      refine z_icmp_eq (tgt := 18) dX12_isNumber_9 (by decide) (by omega) (by omega) (fun b9 => ?_) (fun b9 => ?_)
      · first | refine z_aload_n dX12_isNumber_18 rfl ?_ | refine z_aload_nT dX12_isNumber_18 rfl ?_
        refine h_geti dX12_isNumber_19 fl_X12_87 (by first | assumption | rfl) (by rfl) ?_
        refine z_iload_n dX12_isNumber_22 rfl ?_
        refine z_iload_n dX12_isNumber_23 rfl ?_
        rw [h4]
        obtain ⟨σ1, rfl⟩ : ∃ z, z = σ2 := ⟨_, rfl⟩
        refine h_Si3 (Y' := M_X12_in) dX12_isNumber_24 zw_857 zw_858 ok_X12_in (by decide) rfl (Nat.le_of_ble_eq_true rfl) ⟨rfl, rfl⟩ (by decide) (m_within (by omega) hlo hhi) (fun vv σ2 hq => ?_)
        obtain ⟨hv2, rfl⟩ := hq
        refine z_if_ne (tgt := 38) dX12_isNumber_27 (by decide) (by omega) (fun b27 => ?_) (fun b27 => ?_)
        · refine z_iconst dX12_isNumber_38 ?_
          refine z_goto (tgt := 43) dX12_isNumber_39 (by decide) ?_
          refine h_zret dX12_isNumber_43 rfl (by omega) rfl rfl ?_
          exact ⟨Or.inl ⟨rfl, by omega, by omega, h5, h4⟩, qf⟩
        · first | refine z_aload_n dX12_isNumber_30 rfl ?_ | refine z_aload_nT dX12_isNumber_30 rfl ?_
          refine z_iconst dX12_isNumber_31 ?_
          refine h_Vi1 (Y' := M_X12_fails) dX12_isNumber_32 zw_910 zw_912 zs_32 rfl ok_X12_fails (by decide) rfl (Nat.le_of_ble_eq_true rfl) ⟨rfl, rfl⟩ (by decide) (by first | assumption | rfl) (m_fails) (fun vv σ2 hq => ?_)
          obtain ⟨rfl, rfl⟩ := hq
          refine z_if_eq (tgt := 42) dX12_isNumber_35 (by decide) (by omega) (fun b35 => ?_) (fun b35 => ?_)
          · refine z_iconst dX12_isNumber_42 ?_
            refine h_zret dX12_isNumber_43 rfl (by omega) rfl rfl ?_
            exact ⟨Or.inr (Or.inr ⟨rfl, by omega, by omega, by rw [zu_j (by omega)]; exact q7, zu_eq⟩), qf.tr (FM_zu (by omega))⟩
          · omega
      · omega
  · have hj := (jF_0 (f := f) h1).2 h2
    have hfa := hF.2 a h1
    have h3' : σ2 40 8 = f a ∨ σ2 40 8 = -3 := by
      rw [h3]
      split
      · exact Or.inl rfl
      · exact Or.inr rfl
    first | refine z_aload_n dX12_isNumber_4 rfl ?_ | refine z_aload_nT dX12_isNumber_4 rfl ?_
    refine h_geti dX12_isNumber_5 fl_X12_90 (by first | assumption | rfl) (by rfl) ?_
    refine z_iconst dX12_isNumber_8 ?_
    refine z_icmp_eq (tgt := 18) dX12_isNumber_9 (by decide) (by omega) (by omega) (fun b9 => ?_) (fun b9 => ?_)
    · omega
    · exact no (by omega)
theorem m_isPart_ {pos : Nat} {lo hi s : Int} (hpos : pos < 29) (hlo : zin lo) (hhi : zin hi) (hs : letP s) (hT : TM σ f N a) (hF : TF f N) (ha : a ≤ N) : KI rc M_X12_isPart_ [zR 40, zI (pos : Int), zI lo, zI hi, zI s] σ (PQ σ pos (ptF f N a lo hi s)) := by
  have hj : jF f N a ≤ N - a := rlF_le (f := f) (N - a) a
  refine K_of 0 (by decide) (Nat.le_of_ble_eq_true rfl) (show Z _ _ 0 0 0 [some (zR 40), some (zI (pos : Int)), some (zI lo), some (zI hi), some (zI s)] [] _ _ from ?_)
  first | refine z_aload_n dX12_isPart__0 rfl ?_ | refine z_aload_nT dX12_isPart__0 rfl ?_
  refine z_iload_n dX12_isPart__1 rfl ?_
  refine z_iload_n dX12_isPart__2 rfl ?_
  refine h_Vi2 (Y' := M_X12_isNumber) dX12_isPart__3 zw_918 zw_920 zs_34 rfl ok_X12_isNumber (by decide) rfl (Nat.le_of_ble_eq_true rfl) ⟨rfl, rfl⟩ (by decide) (by first | assumption | rfl) (m_isNumber hlo hhi hT hF ha) (fun vv σ2 hq => ?_)
  obtain ⟨q, qf⟩ := hq
  unfold ptF
  rcases q with ⟨rfl, g1, g2, g3, g4⟩ | ⟨rfl, g1, g2, g3⟩ | ⟨rfl, g1, g2, g3, g4⟩
  · rw [if_neg (by omega), if_neg (by omega)]
    refine z_if_ne (tgt := 11) dX12_isPart__6 (by decide) (by omega) (fun b6 => ?_) (fun b6 => ?_)
    · first | refine z_aload_n dX12_isPart__11 rfl ?_ | refine z_aload_nT dX12_isPart__11 rfl ?_
      refine h_getr dX12_isPart__12 fl_X12_25 (by first | assumption | rfl) (by rfl) ?_
      refine z_iload_n dX12_isPart__15 rfl ?_
      first | refine z_aload_n dX12_isPart__16 rfl ?_ | refine z_aload_nT dX12_isPart__16 rfl ?_
      refine h_geti dX12_isPart__17 fl_X12_87 (by first | assumption | rfl) (by rfl) ?_
      refine h_iast dX12_isPart__20 (by first | assumption | rfl) (by repeat' first | apply zc_add | apply zc_mul | with_reducible exact zc_var _ | exact zc_lit _) (by omega) (by decide) ?_
      first | refine z_aload_n dX12_isPart__21 rfl ?_ | refine z_aload_nT dX12_isPart__21 rfl ?_
      refine z_iload dX12_isPart__22 rfl ?_
      rw [g4]
      obtain ⟨σ3, e3⟩ : ∃ z, z = zu σ2 46 pos (vF f N a) := ⟨_, rfl⟩
      rw [← e3]
      have f3 : FP σ σ3 := qf.fp.tr (fun o j h1 h2 => by rw [e3, zu_o h2])
      have hT3 : TM σ3 f N (a + jF f N a) := TM_FP hT f3 (by rw [e3, zu_o (by omega)]; exact g3)
      have h46 : ∀ j, σ3 46 j = zup (σ 46) pos (vF f N a) j := fun j => by
        rw [e3]
        unfold zup
        by_cases hjp : j = pos
        · subst hjp
          rw [zu_eq, if_pos rfl]
        · rw [zu_j hjp, if_neg hjp]
          exact qf 46 j (by omega)
      refine h_Vi1 (Y' := M_X12_isSign) dX12_isPart__24 zw_902 zw_904 zs_30 rfl ok_X12_isSign (by decide) rfl (Nat.le_of_ble_eq_true rfl) ⟨rfl, rfl⟩ (by decide) (by first | assumption | rfl) (m_isSign hs hT3 hF (by omega)) (fun vv σ2 hq => ?_)
      obtain ⟨w, wf⟩ := hq
      rcases w with ⟨rfl, y1, y2⟩ | ⟨rfl, y1, y2, y3⟩
      · rw [if_neg (by omega)]
        refine h_zret dX12_isPart__27 rfl (by omega) rfl rfl ?_
        exact ⟨Or.inl ⟨rfl, rfl, y2, fun j => (wf 46 j (by omega)).trans (h46 j)⟩, f3.tr wf.fp⟩
      · rw [if_pos y1]
        refine h_zret dX12_isPart__27 rfl (by omega) rfl rfl ?_
        exact ⟨Or.inr ⟨rfl, rfl, y2, y3⟩, f3.tr wf.fp⟩
    · omega
  · rw [if_pos g1]
    refine z_if_ne (tgt := 11) dX12_isPart__6 (by decide) (by omega) (fun b6 => ?_) (fun b6 => ?_)
    · omega
    · refine z_iconst dX12_isPart__9 ?_
      refine h_zret dX12_isPart__10 rfl (by omega) rfl rfl ?_
      exact ⟨Or.inr ⟨rfl, rfl, g2, g3⟩, qf.fp⟩
  · rw [if_neg (by omega), if_pos g2]
    refine z_if_ne (tgt := 11) dX12_isPart__6 (by decide) (by omega) (fun b6 => ?_) (fun b6 => ?_)
    · omega
    · refine z_iconst dX12_isPart__9 ?_
      refine h_zret dX12_isPart__10 rfl (by omega) rfl rfl ?_
      exact ⟨Or.inr ⟨rfl, rfl, g3, g4⟩, qf.fp⟩
end
