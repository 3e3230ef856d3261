/-! calls that read, on: aim (reference), count, cross -/
section
variable {rc : ZRC} {σ α : Mem}
theorem r_aim {a pl out w : Int} (hM : MI σ α) (hO : OK α) (ha : zin a) (hpl : zin pl) (hout : zin out) (hw : zin w) : KI rc M_X12_aim [zR 40, zI a, zI pl, zI out, zI w] σ (mP σ α (aAim α a pl out w) α) := by
  have h3 := OKc_3 hO
  have hR := hM.2.2.2.1
  have bad : ∀ σ2 : Mem, σ2 = σ → ¬ ((0 ≤ a ∧ a < α 5 3) ∧ (0 ≤ pl ∧ pl ≤ 9) ∧ (1 ≤ out ∧ out ≤ 20) ∧ (0 ≤ w ∧ w ≤ 1)) → Z rc M_X12_aim 0 0 38 [some (zR 40), some (zI a), some (zI pl), some (zI out), some (zI w), none, none] [] (hp σ2) (qI (mP σ α (aAim α a pl out w) α)) := by
    intro σ2 e hb
    subst e
    refine z_ldc (n := -1000001) dX12_aim_38 zw_860 rfl ?_
    refine h_iret dX12_aim_40 rfl rfl rfl ?_
    exact ⟨by unfold aAim; rw [if_pos (by omega)], hM, fr.rf⟩
  refine K_of 2 (by decide) (Nat.le_of_ble_eq_true rfl) (show Z _ _ 0 0 0 [some (zR 40), some (zI a), some (zI pl), some (zI out), some (zI w), none, none] [] _ _ from ?_)
  first | refine z_aload_n dX12_aim_0 rfl ?_ | refine z_aload_nT dX12_aim_0 rfl ?_
  refine z_iload_n dX12_aim_1 rfl ?_
  refine h_Vi1 (Y' := M_X12_isOne) dX12_aim_2 zw_975 zw_977 zs_38 rfl ok_X12_isOne (by decide) rfl (Nat.le_of_ble_eq_true rfl) ⟨rfl, rfl⟩ (by decide) (by first | assumption | rfl) (m_isOne ha (hR 3 (by omega)) h3) (fun vv σ2 hq => ?_)
  obtain ⟨hv1, rfl⟩ := hq
  refine z_if_eq (tgt := 38) dX12_aim_5 (by decide) (by omega) (fun b5 => ?_) (fun b5 => ?_)
  · exact bad _ rfl (by omega)
  · refine z_iload_n dX12_aim_8 rfl ?_
    refine z_iconst dX12_aim_9 ?_
    refine z_bipush dX12_aim_10 rfl ?_
    refine h_Si3 (Y' := M_X12_in) dX12_aim_12 zw_857 zw_858 ok_X12_in (by decide) rfl (Nat.le_of_ble_eq_true rfl) ⟨rfl, rfl⟩ (by decide) (m_within hpl (by omega) (by omega)) (fun vv σ2 hq => ?_)
    obtain ⟨hv2, rfl⟩ := hq
    refine z_if_eq (tgt := 38) dX12_aim_15 (by decide) (by omega) (fun b15 => ?_) (fun b15 => ?_)
    · exact bad _ rfl (by omega)
    · refine z_iload_n dX12_aim_18 rfl ?_
      refine z_iconst dX12_aim_19 ?_
      refine z_bipush dX12_aim_20 rfl ?_
      refine h_Si3 (Y' := M_X12_in) dX12_aim_22 zw_857 zw_858 ok_X12_in (by decide) rfl (Nat.le_of_ble_eq_true rfl) ⟨rfl, rfl⟩ (by decide) (m_within hout (by omega) (by omega)) (fun vv σ2 hq => ?_)
      obtain ⟨hv3, rfl⟩ := hq
      refine z_if_eq (tgt := 38) dX12_aim_25 (by decide) (by omega) (fun b25 => ?_) (fun b25 => ?_)
      · exact bad _ rfl (by omega)
      · refine z_iload dX12_aim_28 rfl ?_
        refine z_iconst dX12_aim_30 ?_
        refine z_iconst dX12_aim_31 ?_
        refine h_Si3 (Y' := M_X12_in) dX12_aim_32 zw_857 zw_858 ok_X12_in (by decide) rfl (Nat.le_of_ble_eq_true rfl) ⟨rfl, rfl⟩ (by decide) (m_within hw (by omega) (by omega)) (fun vv σ2 hq => ?_)
        obtain ⟨hv4, rfl⟩ := hq
        refine z_if_ne (tgt := 41) dX12_aim_35 (by decide) (by omega) (fun b35 => ?_) (fun b35 => ?_)
        · have hk := OKc_p hO (a := a) (by omega) (by omega)
          obtain ⟨p, rfl⟩ : ∃ p : Nat, a = (p : Int) := ⟨a.toNat, by omega⟩
          obtain ⟨k8, k3, a0, a1, a2, a4, a5, a6, a7, hq⟩ := hk
          obtain ⟨q1, q2, q3, q4⟩ := hq p (by omega)
          have p4 := hR (24 + p) (by omega)
          have e2 := hR 2 (by omega)
          have loop : ∀ n l : Nat, l + n = 3 → ∀ σ' : Mem, σ' 47 (14 + p) = α 5 (14 + p) → fm 47 σ2 σ' → Z rc M_X12_aim 0 0 80 [some (zR 40), some (zI (p : Int)), some (zI pl), some (zI out), some (zI w), some (zI (out - σ2 45 (24 + p))), some (zI (l : Int))] [] (hp σ') (qI (fun v σ' => v = aiL (α 5 (14 + p)) pl out (out - α 5 (24 + p)) w n l ∧ fm 47 σ2 σ')) := by
            intro n
            induction n with
            | zero =>
              intro l hl σ' i1 i2
              refine z_iload dX12_aim_80 rfl ?_
              refine z_iconst dX12_aim_82 ?_
              refine z_icmp_ge (tgt := 129) dX12_aim_83 (by decide) (by omega) (by omega) (fun b83 => ?_) (fun b83 => ?_)
              · refine z_ldc (n := -1000000) dX12_aim_129 zw_1015 rfl ?_
                refine h_iret dX12_aim_131 rfl rfl rfl ?_
                exact ⟨rfl, i2⟩
              · omega
            | succ n ih =>
              intro l hl σ' i1 i2
              have pin := placeF_in (α 5 (14 + p)) (l : Int) out
              have j1 : zu σ' 47 (19 + p) (l : Int) 47 (14 + p) = α 5 (14 + p) := by rw [zu_j (by omega), i1]
              have j2 : zu σ' 47 (19 + p) (l : Int) 47 (19 + p) = (l : Int) := zu_eq
              have j3 : fm 47 σ2 (zu σ' 47 (19 + p) (l : Int)) := fun o j h => by rw [zu_o h]; exact i2 o j h
              refine z_iload dX12_aim_80 rfl ?_
              refine z_iconst dX12_aim_82 ?_
              refine z_icmp_ge (tgt := 129) dX12_aim_83 (by decide) (by omega) (by omega) (fun b83 => ?_) (fun b83 => ?_)
              · omega
              · first | refine z_aload_n dX12_aim_86 rfl ?_ | refine z_aload_nT dX12_aim_86 rfl ?_
                refine h_getr dX12_aim_87 fl_X12_28 (by first | assumption | rfl) (by rfl) ?_
                refine z_bipush dX12_aim_90 rfl ?_
                refine z_iload_n dX12_aim_92 rfl ?_
                refine z_iadd dX12_aim_93 ?_
                refine z_iload dX12_aim_94 rfl ?_
                refine h_iast dX12_aim_96 (by first | assumption | rfl) (by repeat' first | apply zc_add | apply zc_mul | with_reducible exact zc_var _ | exact zc_lit _) (by omega) (by decide) ?_
                first | refine z_aload_n dX12_aim_97 rfl ?_ | refine z_aload_nT dX12_aim_97 rfl ?_
                refine h_getr dX12_aim_98 fl_X12_28 (by first | assumption | rfl) (by rfl) ?_
                refine z_iload_n dX12_aim_101 rfl ?_
                refine z_iload_n dX12_aim_102 rfl ?_
                refine h_Si3 (Y' := M_X12_placeBy) dX12_aim_103 zw_962 zw_963 ok_X12_placeBy (by decide) rfl (Nat.le_of_ble_eq_true rfl) ⟨rfl, rfl⟩ (by decide) (m_placeBy rfl (by omega) (by omega) (by omega) (by omega) (by omega)) (fun vv σ2 hq => ?_)
                obtain ⟨rfl, rfl⟩ := hq
                rw [j1, j2]
                refine z_iload_n dX12_aim_106 rfl ?_
                refine z_icmp_ne (tgt := 123) dX12_aim_107 (by decide) (by omega) (by omega) (fun b107 => ?_) (fun b107 => ?_)
                · have e : aiL (α 5 (14 + p)) pl out (out - α 5 (24 + p)) w (n + 1) l = aiL (α 5 (14 + p)) pl out (out - α 5 (24 + p)) w n (l + 1) := by
                    conv => lhs; unfold aiL
                    rw [if_neg b107]
                  rw [e]
                  refine z_iinc dX12_aim_123 rfl (by decide) rfl ?_
                  refine z_goto (tgt := 80) dX12_aim_126 (by decide) ?_
                  have := ih (l + 1) (by omega) _ j1 j3
                  rw [nsucc] at this
                  exact this
                · refine z_iload dX12_aim_110 rfl ?_
                  refine z_if_ne (tgt := 120) dX12_aim_112 (by decide) (by omega) (fun b112 => ?_) (fun b112 => ?_)
                  · refine z_iload dX12_aim_120 rfl ?_
                    refine h_iret dX12_aim_122 rfl rfl rfl ?_
                    refine ⟨?_, j3⟩
                    unfold aiL
                    rw [if_pos b107, if_neg b112, ← p4]
                  · refine z_iload dX12_aim_115 rfl ?_
                    refine z_goto (tgt := 122) dX12_aim_117 (by decide) ?_
                    refine h_iret dX12_aim_122 rfl rfl rfl ?_
                    refine ⟨?_, j3⟩
                    unfold aiL
                    rw [if_pos b107, if_pos b112]
          refine z_iload_n dX12_aim_41 rfl ?_
          first | refine z_aload_n dX12_aim_42 rfl ?_ | refine z_aload_nT dX12_aim_42 rfl ?_
          refine h_getr dX12_aim_43 fl_X12_22 (by first | assumption | rfl) (by rfl) ?_
          refine z_bipush dX12_aim_46 rfl ?_
          refine z_iload_n dX12_aim_48 rfl ?_
          refine z_iadd dX12_aim_49 ?_
          first | refine h_iald dX12_aim_50 (by first | assumption | rfl) (by repeat' first | apply zc_add | apply zc_mul | with_reducible exact zc_var _ | exact zc_lit _) (by omega) (by decide) ?_ | refine z_ialdT _ dX12_aim_50 (by assumption) (by repeat' first | apply zc_add | apply zc_mul | with_reducible exact zc_var _ | exact zc_lit _) (by omega) (by omega) ?_
          refine z_isub dX12_aim_51 ?_
          refine z_istore dX12_aim_52 (by decide) rfl ?_
          refine z_iload dX12_aim_54 rfl ?_
          refine z_if_lt (tgt := 70) dX12_aim_56 (by decide) (by omega) (fun b56 => ?_) (fun b56 => ?_)
          · refine z_ldc (n := -1000000) dX12_aim_70 zw_1015 rfl ?_
            refine h_iret dX12_aim_72 rfl rfl rfl ?_
            exact ⟨by unfold aAim; rw [if_neg (by omega), if_pos]; show out - α 5 (24 + p) < 0 ∨ _; omega, hM, fr.rf⟩
          · refine z_iload dX12_aim_59 rfl ?_
            first | refine z_aload_n dX12_aim_61 rfl ?_ | refine z_aload_nT dX12_aim_61 rfl ?_
            refine h_getr dX12_aim_62 fl_X12_22 (by first | assumption | rfl) (by rfl) ?_
            refine z_iconst dX12_aim_65 ?_
            first | refine h_iald dX12_aim_66 (by first | assumption | rfl) (by repeat' first | apply zc_add | apply zc_mul | with_reducible exact zc_var _ | exact zc_lit _) (by omega) (by decide) ?_ | refine z_ialdT _ dX12_aim_66 (by assumption) (by repeat' first | apply zc_add | apply zc_mul | with_reducible exact zc_var _ | exact zc_lit _) (by omega) (by omega) ?_
            refine z_icmp_le (tgt := 73) dX12_aim_67 (by decide) (by omega) (by omega) (fun b67 => ?_) (fun b67 => ?_)
            · first | refine z_aload_n dX12_aim_73 rfl ?_ | refine z_aload_nT dX12_aim_73 rfl ?_
              refine h_Vv0 (Y' := M_X12_begin) dX12_aim_74 zw_999 zw_1001 zs_39 rfl ok_X12_begin (by decide) rfl (Nat.le_of_ble_eq_true rfl) ⟨rfl, rfl⟩ (by decide) (by first | assumption | rfl) (m_begin hR) (fun σ2 hq => ?_)
              obtain ⟨j1, j2⟩ := hq
              refine z_iconst dX12_aim_77 ?_
              refine z_istore dX12_aim_78 (by decide) rfl ?_
              refine Z_mono (loop 3 0 rfl _ (j1 _ (by omega)) j2) (fun v σ' hq => ?_)
              obtain ⟨e1, e3⟩ := hq
              exact ⟨by unfold aAim; rw [if_neg (by omega), if_neg]; exact e1; show ¬ (out - α 5 (24 + p) < 0 ∨ α 5 2 < out - α 5 (24 + p)); omega, MI47 hM e3⟩
            · refine z_ldc (n := -1000000) dX12_aim_70 zw_1015 rfl ?_
              refine h_iret dX12_aim_72 rfl rfl rfl ?_
              exact ⟨by unfold aAim; rw [if_neg (by omega), if_pos]; show out - α 5 (24 + p) < 0 ∨ α 5 2 < out - α 5 (24 + p); omega, hM, fr.rf⟩
        · exact bad _ rfl (by omega)
def rcF (a : Nat → Int) : Nat → Int
  | 0 => 0
  | r + 1 => rcF a r + (if a r < 0 then 0 else 1)
def spF (t : Nat → Int) : Nat → Int
  | 0 => 0
  | p + 1 => spF t p + t (24 + p)
theorem OKc_70 {α : Mem} (h : OK α) : (0 ≤ α 5 7 ∧ α 5 7 ≤ 9) ∧ (0 ≤ α 5 0 ∧ α 5 0 ≤ 999) := by
  rcases h.2.2.1.1 with h | h
  · exact ⟨h.2.2.2.2.2.2.2.2.1, h.2.2.1⟩
  · have h1 := h.1
    unfold cno at h1
    omega
def aCount (α : Mem) (w : Int) : Int := if w = 0 then rcF (α 1) 8 else if w = 1 then α 5 3 else if w = 2 then α 5 0 else if w = 3 then stF (α 5) else if w = 4 then α 5 1 else if w = 5 then α 5 2 else if w = 6 then α 0 3 else if w = 7 then α 0 1 else if w = 8 then spF (α 5) (α 5 3).toNat else BAD
theorem k_present (hC : CI σ α) (hO : OK α) : KI rc M_X7_present [zR 1] σ (fun v σ' => v = rcF (α 1) 8 ∧ σ' = σ) := by
  have loop : ∀ n r : Nat, r + n = 8 → Z rc M_X7_present 0 0 4 [some (zR 1), some (zI (rcF (α 1) r)), some (zI (r : Int))] [] (hp σ) (qI (fun v σ' => v = rcF (α 1) 8 ∧ σ' = σ)) := by
    intro n
    induction n with
    | zero =>
      intro r hr
      refine z_iload_n dX7_present_4 rfl ?_
      refine z_bipush dX7_present_5 rfl ?_
      refine z_icmp_ge (tgt := 28) dX7_present_7 (by decide) (by omega) (by omega) (fun b7 => ?_) (fun b7 => ?_)
      · refine z_iload_n dX7_present_28 rfl ?_
        refine h_iret dX7_present_29 rfl rfl rfl ?_
        exact ⟨by rw [← hr]; rfl, rfl⟩
      · omega
    | succ n ih =>
      intro r hr
      have h1 := (hC.2.1.1 r (by omega)).1
      have h2 := (hO.2.1.1 r (by omega)).1
      have h9 := ih (r + 1) (by omega)
      rw [nsucc] at h9
      refine z_iload_n dX7_present_4 rfl ?_
      refine z_bipush dX7_present_5 rfl ?_
      refine z_icmp_ge (tgt := 28) dX7_present_7 (by decide) (by omega) (by omega) (fun b7 => ?_) (fun b7 => ?_)
      · omega
      · first | refine z_aload_n dX7_present_10 rfl ?_ | refine z_aload_nT dX7_present_10 rfl ?_
        refine h_getr dX7_present_11 fl_X7_9 (by first | assumption | rfl) (by rfl) ?_
        refine z_iload_n dX7_present_14 rfl ?_
        first | refine h_iald dX7_present_15 (by first | assumption | rfl) (by repeat' first | apply zc_add | apply zc_mul | with_reducible exact zc_var _ | exact zc_lit _) (by omega) (by decide) ?_ | refine z_ialdT _ dX7_present_15 (by assumption) (by repeat' first | apply zc_add | apply zc_mul | with_reducible exact zc_var _ | exact zc_lit _) (by omega) (by omega) ?_
        refine z_if_eq (tgt := 22) dX7_present_16 (by decide) (by omega) (fun b16 => ?_) (fun b16 => ?_)
        · refine z_iinc dX7_present_22 rfl (by decide) rfl ?_
          refine z_goto (tgt := 4) dX7_present_25 (by decide) ?_
          have e : rcF (α 1) (r + 1) = rcF (α 1) r := by
            show rcF (α 1) r + _ = _
            rw [if_pos (by omega)]
            omega
          rw [e] at h9
          exact h9
        · refine z_iinc dX7_present_19 rfl (by decide) rfl ?_
          refine z_iinc dX7_present_22 rfl (by decide) rfl ?_
          refine z_goto (tgt := 4) dX7_present_25 (by decide) ?_
          have e : rcF (α 1) (r + 1) = rcF (α 1) r + 1 := by
            show rcF (α 1) r + _ = _
            rw [if_neg (by omega)]
          rw [e] at h9
          exact h9
  refine K_of 2 (by decide) (Nat.le_of_ble_eq_true rfl) (show Z _ _ 0 0 0 [some (zR 1), none, none] [] _ _ from ?_)
  refine z_iconst dX7_present_0 ?_
  refine z_istore_n dX7_present_1 (by decide) rfl ?_
  refine z_iconst dX7_present_2 ?_
  refine z_istore_n dX7_present_3 (by decide) rfl ?_
  exact loop 8 0 rfl
theorem k_psize : KI rc M_X4_size [zR 28] σ (fun v σ' => v = σ 28 2 ∧ σ' = σ) := by
  refine K_of 0 (by decide) (Nat.le_of_ble_eq_true rfl) (show Z _ _ 0 0 0 [some (zR 28)] [] _ _ from ?_)
  first | refine z_aload_n dX4_size_0 rfl ?_ | refine z_aload_nT dX4_size_0 rfl ?_
  refine h_geti dX4_size_1 fl_X4_19 (by first | assumption | rfl) (by rfl) ?_
  refine h_iret dX4_size_4 rfl rfl rfl ?_
  exact ⟨rfl, rfl⟩
theorem k_length : KI rc M_X9_length [zR 5] σ (fun v σ' => v = σ 5 2 ∧ σ' = σ) := by
  refine K_of 0 (by decide) (Nat.le_of_ble_eq_true rfl) (show Z _ _ 0 0 0 [some (zR 5)] [] _ _ from ?_)
  first | refine z_aload_n dX9_length_0 rfl ?_ | refine z_aload_nT dX9_length_0 rfl ?_
  refine h_geti dX9_length_1 fl_X9_16 (by first | assumption | rfl) (by rfl) ?_
  refine h_iret dX9_length_4 rfl rfl rfl ?_
  exact ⟨rfl, rfl⟩
theorem c_count {w : Int} (hC : CI σ α) (hO : OK α) (hw : zin w) : KI rc M_X11_count [zR 0, zI w] σ (cP σ α (aCount α w) α) := by
  have hR := hC.2.2.2.1
  obtain ⟨r4, r5, r6, r7, r8, r9, r10, r11, r12, rp⟩ := hR
  obtain ⟨a7, a0⟩ := OKc_70 hO
  refine K_of 0 (by decide) (Nat.le_of_ble_eq_true rfl) (show Z _ _ 0 0 0 [some (zR 0), some (zI w)] [] _ _ from ?_)
  refine z_iload_n dX11_count_0 rfl ?_
  by_cases hw0 : w < 0 ∨ 8 < w
  · refine z_tswOut (tgt := 124) dX11_count_1 hw hw0 (by decide) ?_
    refine z_ldc (n := -1000001) dX11_count_124 zw_268 rfl ?_
    refine h_iret dX11_count_126 rfl rfl rfl ?_
    exact ⟨by unfold aCount; rw [if_neg (by omega), if_neg (by omega), if_neg (by omega), if_neg (by omega), if_neg (by omega), if_neg (by omega), if_neg (by omega), if_neg (by omega), if_neg (by omega)], hC, fr.rf⟩
  · have hc : w = 0 ∨ w = 1 ∨ w = 2 ∨ w = 3 ∨ w = 4 ∨ w = 5 ∨ w = 6 ∨ w = 7 ∨ w = 8 := by omega
    rcases hc with rfl | rfl | rfl | rfl | rfl | rfl | rfl | rfl | rfl
    · refine z_tswIn (tgt := 52) dX11_count_1 (by omega) (by omega) (by omega) rfl (by decide) ?_
      first | refine z_aload_n dX11_count_52 rfl ?_ | refine z_aload_nT dX11_count_52 rfl ?_
      refine h_getr dX11_count_53 fl_X11_12 (by first | assumption | rfl) (by rfl) ?_
      refine h_Vi0 (Y' := M_X7_present) dX11_count_56 zw_752 zw_753 zw_754 rfl ok_X7_present (by decide) rfl (Nat.le_of_ble_eq_true rfl) ⟨rfl, rfl⟩ (by decide) (by first | assumption | rfl) (k_present hC hO) (fun vv σ2 hq => ?_)
      obtain ⟨rfl, rfl⟩ := hq
      refine h_iret dX11_count_59 rfl rfl rfl ?_
      exact ⟨rfl, hC, fr.rf⟩
    · refine z_tswIn (tgt := 60) dX11_count_1 (by omega) (by omega) (by omega) rfl (by decide) ?_
      first | refine z_aload_n dX11_count_60 rfl ?_ | refine z_aload_nT dX11_count_60 rfl ?_
      refine h_getr dX11_count_61 fl_X11_26 (by first | assumption | rfl) (by rfl) ?_
      refine h_geti dX11_count_64 fl_X11_173 (by first | assumption | rfl) (by rfl) ?_
      refine h_iret dX11_count_67 rfl rfl rfl ?_
      exact ⟨r5, hC, fr.rf⟩
    · refine z_tswIn (tgt := 68) dX11_count_1 (by omega) (by omega) (by omega) rfl (by decide) ?_
      first | refine z_aload_n dX11_count_68 rfl ?_ | refine z_aload_nT dX11_count_68 rfl ?_
      refine h_getr dX11_count_69 fl_X11_26 (by first | assumption | rfl) (by rfl) ?_
      refine h_geti dX11_count_72 fl_X11_181 (by first | assumption | rfl) (by rfl) ?_
      refine h_iret dX11_count_75 rfl rfl rfl ?_
      exact ⟨r6, hC, fr.rf⟩
    · refine z_tswIn (tgt := 76) dX11_count_1 (by omega) (by omega) (by omega) rfl (by decide) ?_
      first | refine z_aload_n dX11_count_76 rfl ?_ | refine z_aload_nT dX11_count_76 rfl ?_
      refine h_getr dX11_count_77 fl_X11_26 (by first | assumption | rfl) (by rfl) ?_
      refine h_Vi0 (Y' := M_X2_storm) dX11_count_80 zw_425 zw_426 zw_427 rfl ok_X2_storm (by decide) rfl (Nat.le_of_ble_eq_true rfl) ⟨rfl, rfl⟩ (by decide) (by first | assumption | rfl) (k_storm (t := α 5) (Or.inl rfl) r12 r6 a7 a0.1 (by omega)) (fun vv σ2 hq => ?_)
      obtain ⟨rfl, rfl⟩ := hq
      refine h_iret dX11_count_83 rfl rfl rfl ?_
      exact ⟨rfl, hC, fr.rf⟩
    · refine z_tswIn (tgt := 84) dX11_count_1 (by omega) (by omega) (by omega) rfl (by decide) ?_
      first | refine z_aload_n dX11_count_84 rfl ?_ | refine z_aload_nT dX11_count_84 rfl ?_
      refine h_getr dX11_count_85 fl_X11_26 (by first | assumption | rfl) (by rfl) ?_
      refine h_geti dX11_count_88 fl_X11_194 (by first | assumption | rfl) (by rfl) ?_
      refine h_iret dX11_count_91 rfl rfl rfl ?_
      exact ⟨r7, hC, fr.rf⟩
    · refine z_tswIn (tgt := 92) dX11_count_1 (by omega) (by omega) (by omega) rfl (by decide) ?_
      first | refine z_aload_n dX11_count_92 rfl ?_ | refine z_aload_nT dX11_count_92 rfl ?_
      refine h_getr dX11_count_93 fl_X11_26 (by first | assumption | rfl) (by rfl) ?_
      refine h_geti dX11_count_96 fl_X11_200 (by first | assumption | rfl) (by rfl) ?_
      refine h_iret dX11_count_99 rfl rfl rfl ?_
      exact ⟨r8, hC, fr.rf⟩
    · refine z_tswIn (tgt := 100) dX11_count_1 (by omega) (by omega) (by omega) rfl (by decide) ?_
      first | refine z_aload_n dX11_count_100 rfl ?_ | refine z_aload_nT dX11_count_100 rfl ?_
      refine h_getr dX11_count_101 fl_X11_42 (by first | assumption | rfl) (by rfl) ?_
      refine h_Vi0 (Y' := M_X4_size) dX11_count_104 zw_488 zw_489 zw_490 rfl ok_X4_size (by decide) rfl (Nat.le_of_ble_eq_true rfl) ⟨rfl, rfl⟩ (by decide) (by first | assumption | rfl) (k_psize) (fun vv σ2 hq => ?_)
      obtain ⟨rfl, rfl⟩ := hq
      refine h_iret dX11_count_107 rfl rfl rfl ?_
      exact ⟨hC.2.2.2.2.2.1.1, hC, fr.rf⟩
    · refine z_tswIn (tgt := 108) dX11_count_1 (by omega) (by omega) (by omega) rfl (by decide) ?_
      first | refine z_aload_n dX11_count_108 rfl ?_ | refine z_aload_nT dX11_count_108 rfl ?_
      refine h_getr dX11_count_109 fl_X11_19 (by first | assumption | rfl) (by rfl) ?_
      refine h_Vi0 (Y' := M_X9_length) dX11_count_112 zw_756 zw_757 zw_758 rfl ok_X9_length (by decide) rfl (Nat.le_of_ble_eq_true rfl) ⟨rfl, rfl⟩ (by decide) (by first | assumption | rfl) (k_length) (fun vv σ2 hq => ?_)
      obtain ⟨rfl, rfl⟩ := hq
      refine h_iret dX11_count_115 rfl rfl rfl ?_
      exact ⟨hC.2.2.1.1, hC, fr.rf⟩
    · refine z_tswIn (tgt := 116) dX11_count_1 (by omega) (by omega) (by omega) rfl (by decide) ?_
      first | refine z_aload_n dX11_count_116 rfl ?_ | refine z_aload_nT dX11_count_116 rfl ?_
      refine h_getr dX11_count_117 fl_X11_26 (by first | assumption | rfl) (by rfl) ?_
      refine h_Vi0 (Y' := M_X2_allSpans) dX11_count_120 zw_648 zw_649 zw_650 rfl ok_X2_allSpans (by decide) rfl (Nat.le_of_ble_eq_true rfl) ⟨rfl, rfl⟩ (by decide) (by first | assumption | rfl) (k_allSpans (Or.inl rfl) hC.2.2.2.1 (OKc_3 hO) (spF (α 5)) rfl (fun _ _ => rfl)) (fun vv σ2 hq => ?_)
      obtain ⟨rfl, rfl⟩ := hq
      refine h_iret dX11_count_123 rfl rfl rfl ?_
      exact ⟨rfl, hC, fr.rf⟩
theorem m_allSpans {o : Nat} {t : Nat → Int} (ho : zsh[o]? = some (.inl (true, 29))) (hR : mR σ o t) (h3 : 0 ≤ t 3 ∧ t 3 ≤ 5) : KI rc M_X12_allSpans [zR 40, zR o] σ (fun v σ' => v = spF t (t 3).toNat ∧ σ' = σ) := by
  have e3 := hR 3 (by omega)
  have loop : ∀ n p : Nat, p + n = (t 3).toNat → Z rc M_X12_allSpans 0 0 4 [some (zR 40), some (zR o), some (zI (spF t p)), some (zI (p : Int))] [] (hp σ) (qI (fun v σ' => v = spF t (t 3).toNat ∧ σ' = σ)) := by
    intro n
    induction n with
    | zero =>
      intro p hpn
      refine z_iload_n dX12_allSpans_4 rfl ?_
      first | refine z_aload_n dX12_allSpans_5 rfl ?_ | refine z_aload_nT dX12_allSpans_5 rfl ?_
      refine z_iconst dX12_allSpans_6 ?_
      first | refine h_iald dX12_allSpans_7 (by first | assumption | rfl) (by repeat' first | apply zc_add | apply zc_mul | with_reducible exact zc_var _ | exact zc_lit _) (by omega) (by decide) ?_ | refine z_ialdT _ dX12_allSpans_7 (by assumption) (by repeat' first | apply zc_add | apply zc_mul | with_reducible exact zc_var _ | exact zc_lit _) (by omega) (by omega) ?_
      refine z_icmp_ge (tgt := 26) dX12_allSpans_8 (by decide) (by omega) (by omega) (fun b8 => ?_) (fun b8 => ?_)
      · refine z_iload_n dX12_allSpans_26 rfl ?_
        refine h_iret dX12_allSpans_27 rfl rfl rfl ?_
        exact ⟨by rw [← hpn]; rfl, rfl⟩
      · omega
    | succ n ih =>
      intro p hpn
      have e := hR (24 + p) (by omega)
      have h9 := ih (p + 1) (by omega)
      rw [nsucc] at h9
      refine z_iload_n dX12_allSpans_4 rfl ?_
      first | refine z_aload_n dX12_allSpans_5 rfl ?_ | refine z_aload_nT dX12_allSpans_5 rfl ?_
      refine z_iconst dX12_allSpans_6 ?_
      first | refine h_iald dX12_allSpans_7 (by first | assumption | rfl) (by repeat' first | apply zc_add | apply zc_mul | with_reducible exact zc_var _ | exact zc_lit _) (by omega) (by decide) ?_ | refine z_ialdT _ dX12_allSpans_7 (by assumption) (by repeat' first | apply zc_add | apply zc_mul | with_reducible exact zc_var _ | exact zc_lit _) (by omega) (by omega) ?_
      refine z_icmp_ge (tgt := 26) dX12_allSpans_8 (by decide) (by omega) (by omega) (fun b8 => ?_) (fun b8 => ?_)
      · omega
      · refine z_iload_n dX12_allSpans_11 rfl ?_
        first | refine z_aload_n dX12_allSpans_12 rfl ?_ | refine z_aload_nT dX12_allSpans_12 rfl ?_
        refine z_bipush dX12_allSpans_13 rfl ?_
        refine z_iload_n dX12_allSpans_15 rfl ?_
        refine z_iadd dX12_allSpans_16 ?_
        first | refine h_iald dX12_allSpans_17 (by first | assumption | rfl) (by repeat' first | apply zc_add | apply zc_mul | with_reducible exact zc_var _ | exact zc_lit _) (by omega) (by decide) ?_ | refine z_ialdT _ dX12_allSpans_17 (by assumption) (by repeat' first | apply zc_add | apply zc_mul | with_reducible exact zc_var _ | exact zc_lit _) (by omega) (by omega) ?_
        refine z_iadd dX12_allSpans_18 ?_
        refine z_istore_n dX12_allSpans_19 (by decide) rfl ?_
        refine z_iinc dX12_allSpans_20 rfl (by decide) rfl ?_
        refine z_goto (tgt := 4) dX12_allSpans_23 (by decide) ?_
        rw [e]
        exact h9
  refine K_of 2 (by decide) (Nat.le_of_ble_eq_true rfl) (show Z _ _ 0 0 0 [some (zR 40), some (zR o), none, none] [] _ _ from ?_)
  refine z_iconst dX12_allSpans_0 ?_
  refine z_istore_n dX12_allSpans_1 (by decide) rfl ?_
  refine z_iconst dX12_allSpans_2 ?_
  refine z_istore_n dX12_allSpans_3 (by decide) rfl ?_
  exact loop _ 0 (Nat.zero_add _)
theorem r_count {w : Int} (hM : MI σ α) (hO : OK α) (hw : zin w) : KI rc M_X12_count [zR 40, zI w] σ (mP σ α (aCount α w) α) := by
  have hR := hM.2.2.2.1
  obtain ⟨a7, a0⟩ := OKc_70 hO
  have fin : ∀ x3 : Int, Z rc M_X12_count 0 0 33 [some (zR 40), some (zI w), some (zI (rcF (α 1) 8)), some (zI x3)] [] (hp σ) (qI (mP σ α (aCount α w) α)) := by
    intro x3
    refine z_iload_n dX12_count_33 rfl ?_
    by_cases hw0 : w < 0 ∨ 8 < w
    · refine z_tswOut (tgt := 141) dX12_count_34 hw hw0 (by decide) ?_
      refine z_ldc (n := -1000001) dX12_count_141 zw_860 rfl ?_
      refine h_iret dX12_count_143 rfl rfl rfl ?_
      exact ⟨by unfold aCount; rw [if_neg (by omega), if_neg (by omega), if_neg (by omega), if_neg (by omega), if_neg (by omega), if_neg (by omega), if_neg (by omega), if_neg (by omega), if_neg (by omega)], hM, fr.rf⟩
    · have hc : w = 0 ∨ w = 1 ∨ w = 2 ∨ w = 3 ∨ w = 4 ∨ w = 5 ∨ w = 6 ∨ w = 7 ∨ w = 8 := by omega
      rcases hc with rfl | rfl | rfl | rfl | rfl | rfl | rfl | rfl | rfl
      · refine z_tswIn (tgt := 84) dX12_count_34 (by omega) (by omega) (by omega) rfl (by decide) ?_
        refine z_iload_n dX12_count_84 rfl ?_
        refine h_iret dX12_count_85 rfl rfl rfl ?_
        exact ⟨rfl, hM, fr.rf⟩
      · refine z_tswIn (tgt := 86) dX12_count_34 (by omega) (by omega) (by omega) rfl (by decide) ?_
        first | refine z_aload_n dX12_count_86 rfl ?_ | refine z_aload_nT dX12_count_86 rfl ?_
        refine h_getr dX12_count_87 fl_X12_22 (by first | assumption | rfl) (by rfl) ?_
        refine z_iconst dX12_count_90 ?_
        first | refine h_iald dX12_count_91 (by first | assumption | rfl) (by repeat' first | apply zc_add | apply zc_mul | with_reducible exact zc_var _ | exact zc_lit _) (by omega) (by decide) ?_ | refine z_ialdT _ dX12_count_91 (by assumption) (by repeat' first | apply zc_add | apply zc_mul | with_reducible exact zc_var _ | exact zc_lit _) (by omega) (by omega) ?_
        refine h_iret dX12_count_92 rfl rfl rfl ?_
        exact ⟨hR 3 (by omega), hM, fr.rf⟩
      · refine z_tswIn (tgt := 93) dX12_count_34 (by omega) (by omega) (by omega) rfl (by decide) ?_
        first | refine z_aload_n dX12_count_93 rfl ?_ | refine z_aload_nT dX12_count_93 rfl ?_
        refine h_getr dX12_count_94 fl_X12_22 (by first | assumption | rfl) (by rfl) ?_
        refine z_iconst dX12_count_97 ?_
        first | refine h_iald dX12_count_98 (by first | assumption | rfl) (by repeat' first | apply zc_add | apply zc_mul | with_reducible exact zc_var _ | exact zc_lit _) (by omega) (by decide) ?_ | refine z_ialdT _ dX12_count_98 (by assumption) (by repeat' first | apply zc_add | apply zc_mul | with_reducible exact zc_var _ | exact zc_lit _) (by omega) (by omega) ?_
        refine h_iret dX12_count_99 rfl rfl rfl ?_
        exact ⟨hR 0 (by omega), hM, fr.rf⟩
      · refine z_tswIn (tgt := 100) dX12_count_34 (by omega) (by omega) (by omega) rfl (by decide) ?_
        first | refine z_aload_n dX12_count_100 rfl ?_ | refine z_aload_nT dX12_count_100 rfl ?_
        refine h_getr dX12_count_101 fl_X12_22 (by first | assumption | rfl) (by rfl) ?_
        refine h_Si1 (Y' := M_X12_stormIn) dX12_count_104 zw_950 zw_951 ok_X12_stormIn (by decide) rfl (Nat.le_of_ble_eq_true rfl) ⟨rfl, rfl⟩ (by decide) (m_stormIn (t := α 5) rfl (hR 0 (by omega)) (hR 7 (by omega)) a7 ⟨a0.1, by omega⟩) (fun vv σ2 hq => ?_)
        obtain ⟨rfl, rfl⟩ := hq
        refine h_iret dX12_count_107 rfl rfl rfl ?_
        exact ⟨rfl, hM, fr.rf⟩
      · refine z_tswIn (tgt := 108) dX12_count_34 (by omega) (by omega) (by omega) rfl (by decide) ?_
        first | refine z_aload_n dX12_count_108 rfl ?_ | refine z_aload_nT dX12_count_108 rfl ?_
        refine h_getr dX12_count_109 fl_X12_22 (by first | assumption | rfl) (by rfl) ?_
        refine z_iconst dX12_count_112 ?_
        first | refine h_iald dX12_count_113 (by first | assumption | rfl) (by repeat' first | apply zc_add | apply zc_mul | with_reducible exact zc_var _ | exact zc_lit _) (by omega) (by decide) ?_ | refine z_ialdT _ dX12_count_113 (by assumption) (by repeat' first | apply zc_add | apply zc_mul | with_reducible exact zc_var _ | exact zc_lit _) (by omega) (by omega) ?_
        refine h_iret dX12_count_114 rfl rfl rfl ?_
        exact ⟨hR 1 (by omega), hM, fr.rf⟩
      · refine z_tswIn (tgt := 115) dX12_count_34 (by omega) (by omega) (by omega) rfl (by decide) ?_
        first | refine z_aload_n dX12_count_115 rfl ?_ | refine z_aload_nT dX12_count_115 rfl ?_
        refine h_getr dX12_count_116 fl_X12_22 (by first | assumption | rfl) (by rfl) ?_
        refine z_iconst dX12_count_119 ?_
        first | refine h_iald dX12_count_120 (by first | assumption | rfl) (by repeat' first | apply zc_add | apply zc_mul | with_reducible exact zc_var _ | exact zc_lit _) (by omega) (by decide) ?_ | refine z_ialdT _ dX12_count_120 (by assumption) (by repeat' first | apply zc_add | apply zc_mul | with_reducible exact zc_var _ | exact zc_lit _) (by omega) (by omega) ?_
        refine h_iret dX12_count_121 rfl rfl rfl ?_
        exact ⟨hR 2 (by omega), hM, fr.rf⟩
      · refine z_tswIn (tgt := 122) dX12_count_34 (by omega) (by omega) (by omega) rfl (by decide) ?_
        first | refine z_aload_n dX12_count_122 rfl ?_ | refine z_aload_nT dX12_count_122 rfl ?_
        refine h_geti dX12_count_123 fl_X12_133 (by first | assumption | rfl) (by rfl) ?_
        refine h_iret dX12_count_126 rfl rfl rfl ?_
        exact ⟨hM.2.2.2.2.2.1.1, hM, fr.rf⟩
      · refine z_tswIn (tgt := 127) dX12_count_34 (by omega) (by omega) (by omega) rfl (by decide) ?_
        first | refine z_aload_n dX12_count_127 rfl ?_ | refine z_aload_nT dX12_count_127 rfl ?_
        refine h_geti dX12_count_128 fl_X12_77 (by first | assumption | rfl) (by rfl) ?_
        refine h_iret dX12_count_131 rfl rfl rfl ?_
        exact ⟨hM.2.2.1.1, hM, fr.rf⟩
      · refine z_tswIn (tgt := 132) dX12_count_34 (by omega) (by omega) (by omega) rfl (by decide) ?_
        first | refine z_aload_n dX12_count_132 rfl ?_ | refine z_aload_nT dX12_count_132 rfl ?_
        first | refine z_aload_n dX12_count_133 rfl ?_ | refine z_aload_nT dX12_count_133 rfl ?_
        refine h_getr dX12_count_134 fl_X12_22 (by first | assumption | rfl) (by rfl) ?_
        refine h_Vi1 (Y' := M_X12_allSpans) dX12_count_137 zw_1076 zw_1078 zs_46 rfl ok_X12_allSpans (by decide) rfl (Nat.le_of_ble_eq_true rfl) ⟨rfl, rfl⟩ (by decide) (by first | assumption | rfl) (m_allSpans rfl hR (OKc_3 hO)) (fun vv σ2 hq => ?_)
        obtain ⟨rfl, rfl⟩ := hq
        refine h_iret dX12_count_140 rfl rfl rfl ?_
        exact ⟨rfl, hM, fr.rf⟩
  have loop : ∀ n r : Nat, r + n = 8 → Z rc M_X12_count 0 0 4 [some (zR 40), some (zI w), some (zI (rcF (α 1) r)), some (zI (r : Int))] [] (hp σ) (qI (mP σ α (aCount α w) α)) := by
    intro n
    induction n with
    | zero =>
      intro r hr
      refine z_iload_n dX12_count_4 rfl ?_
      refine z_bipush dX12_count_5 rfl ?_
      refine z_icmp_ge (tgt := 33) dX12_count_7 (by decide) (by omega) (by omega) (fun b7 => ?_) (fun b7 => ?_)
      · rw [show r = 8 by omega]
        exact fin _
      · omega
    | succ n ih =>
      intro r hr
      have h1 := (hM.2.1.1 r (by omega)).1
      have h2 := (hO.2.1.1 r (by omega)).1
      have h9 := ih (r + 1) (by omega)
      rw [nsucc] at h9
      refine z_iload_n dX12_count_4 rfl ?_
      refine z_bipush dX12_count_5 rfl ?_
      refine z_icmp_ge (tgt := 33) dX12_count_7 (by decide) (by omega) (by omega) (fun b7 => ?_) (fun b7 => ?_)
      · omega
      · refine z_iload_n dX12_count_10 rfl ?_
        first | refine z_aload_n dX12_count_11 rfl ?_ | refine z_aload_nT dX12_count_11 rfl ?_
        refine h_getr dX12_count_12 fl_X12_7 (by first | assumption | rfl) (by rfl) ?_
        refine z_iload_n dX12_count_15 rfl ?_
        first | refine h_iald dX12_count_16 (by first | assumption | rfl) (by repeat' first | apply zc_add | apply zc_mul | with_reducible exact zc_var _ | exact zc_lit _) (by omega) (by decide) ?_ | refine z_ialdT _ dX12_count_16 (by assumption) (by repeat' first | apply zc_add | apply zc_mul | with_reducible exact zc_var _ | exact zc_lit _) (by omega) (by omega) ?_
        refine z_if_ge (tgt := 24) dX12_count_17 (by decide) (by omega) (fun b17 => ?_) (fun b17 => ?_)
        · refine z_iconst dX12_count_24 ?_
          refine z_iadd dX12_count_25 ?_
          refine z_istore_n dX12_count_26 (by decide) rfl ?_
          refine z_iinc dX12_count_27 rfl (by decide) rfl ?_
          refine z_goto (tgt := 4) dX12_count_30 (by decide) ?_
          have e : rcF (α 1) (r + 1) = rcF (α 1) r + 1 := by
            show rcF (α 1) r + _ = _
            rw [if_neg (by omega)]
          rw [e] at h9
          exact h9
        · refine z_iconst dX12_count_20 ?_
          refine z_goto (tgt := 25) dX12_count_21 (by decide) ?_
          refine z_iadd dX12_count_25 ?_
          refine z_istore_n dX12_count_26 (by decide) rfl ?_
          refine z_iinc dX12_count_27 rfl (by decide) rfl ?_
          refine z_goto (tgt := 4) dX12_count_30 (by decide) ?_
          have e : rcF (α 1) (r + 1) = rcF (α 1) r + 0 := by
            show rcF (α 1) r + _ = _
            rw [if_pos (by omega)]
          rw [e] at h9
          exact h9
  refine K_of 2 (by decide) (Nat.le_of_ble_eq_true rfl) (show Z _ _ 0 0 0 [some (zR 40), some (zI w), none, none] [] _ _ from ?_)
  refine z_iconst dX12_count_0 ?_
  refine z_istore_n dX12_count_1 (by decide) rfl ?_
  refine z_iconst dX12_count_2 ?_
  refine z_istore_n dX12_count_3 (by decide) rfl ?_
  exact loop 8 0 rfl
/-- the pairs that cross: how many, the first, how far out -/
def xst (t : Nat → Int) (a b : Nat) (s : Int × Int × Int) : Int × Int × Int := if 0 < crF t a b then (s.1 + 1, (if s.1 = 0 then 10 * (a : Int) + b else s.2.1), (if s.1 = 0 then crF t a b else s.2.2)) else s
def xiF (t : Nat → Int) (a : Nat) : Nat → Nat → Int × Int × Int → Int × Int × Int
  | 0, _, s => s
  | m + 1, b, s => xiF t a m (b + 1) (xst t a b s)
def xoF (t : Nat → Int) (N : Nat) : Nat → Nat → Int × Int × Int → Int × Int × Int
  | 0, _, s => s
  | m + 1, a, s => xoF t N m (a + 1) (xiF t a (N - (a + 1)) (a + 1) s)
def aCross (α : Mem) (w : Int) : Int := if α 5 8 = 0 then STATE else if ¬ (0 ≤ w ∧ w ≤ 2) then BAD else if w = 0 then (xoF (α 5) (α 5 3).toNat (α 5 3).toNat 0 (0, NONE, NONE)).1 else if w = 1 then (xoF (α 5) (α 5 3).toNat (α 5 3).toNat 0 (0, NONE, NONE)).2.1 else (xoF (α 5) (α 5 3).toNat (α 5 3).toNat 0 (0, NONE, NONE)).2.2
theorem crL_in {t : Nat → Int} {a b : Nat} : ∀ n o : Nat, 0 ≤ crL t a b n o ∧ crL t a b n o ≤ (n : Int) + o
  | 0, o => by unfold crL; omega
  | n + 1, o => by
    have := crL_in (t := t) (a := a) (b := b) n (o + 1)
    unfold crL
    split <;> omega
theorem crF_in {t : Nat → Int} {a b : Nat} {B : Int} (hk : cok B t) (ha : (a : Int) < t 3) : 0 ≤ crF t a b ∧ crF t a b ≤ 200 := by
  have h1 := crL_in (t := t) (a := a) (b := b) (min (t (24 + a)) (t (24 + b))).toNat 1
  have h2 := (hk.2.2.2.2.2.2.2.2.2 a ha).2.2.2
  unfold crF
  omega
theorem c_cross {w : Int} (hC : CI σ α) (hO : OK α) (hw : zin w) : KI rc M_X11_cross [zR 0, zI w] σ (cP σ α (aCross α w) α) := by
  have h8 := OKc_8 hO
  have hR := hC.2.2.2.1
  have e8 := hR.1
  have e3 := hR.2.1
  refine K_of 6 (by decide) (Nat.le_of_ble_eq_true rfl) (show Z _ _ 0 0 0 [some (zR 0), some (zI w), none, none, none, none, none, none] [] _ _ from ?_)
  first | refine z_aload_n dX11_cross_0 rfl ?_ | refine z_aload_nT dX11_cross_0 rfl ?_
  refine h_getr dX11_cross_1 fl_X11_26 (by first | assumption | rfl) (by rfl) ?_
  refine h_geti dX11_cross_4 fl_X11_176 (by first | assumption | rfl) (by rfl) ?_
  refine z_if_ne (tgt := 13) dX11_cross_7 (by decide) (by omega) (fun b7 => ?_) (fun b7 => ?_)
  · refine z_iload_n dX11_cross_13 rfl ?_
    refine z_iconst dX11_cross_14 ?_
    refine z_iconst dX11_cross_15 ?_
    refine h_Si3 (Y' := M_X11_isWithin) dX11_cross_16 zw_265 zw_266 ok_X11_isWithin (by decide) rfl (Nat.le_of_ble_eq_true rfl) ⟨rfl, rfl⟩ (by decide) (c_within hw (by omega) (by omega)) (fun vv σ2 hq => ?_)
    obtain ⟨hv, rfl⟩ := hq
    refine z_if_ne (tgt := 25) dX11_cross_19 (by decide) (by omega) (fun b19 => ?_) (fun b19 => ?_)
    · have hk := OKc_s hO (by omega)
      have h3 := hk.2.1
      obtain ⟨N, hN⟩ : ∃ N : Nat, α 5 3 = (N : Int) := ⟨(α 5 3).toNat, by omega⟩
      have eN : (α 5 3).toNat = N := by omega
      have hres : ∀ s : Int × Int × Int, s = xoF (α 5) N N 0 (0, NONE, NONE) → 0 ≤ s.1 → s.1 ≤ 100 → ∀ x5 x6 x7 : Option ZV, Z rc M_X11_cross 0 0 122 [some (zR 0), some (zI w), some (zI s.1), some (zI s.2.1), some (zI s.2.2), x5, x6, x7] [] (hp σ2) (qI (cP σ2 α (aCross α w) α)) := by
        intro s hs _ _ x5 x6 x7
        have hs' : xoF (α 5) (α 5 3).toNat (α 5 3).toNat 0 (0, NONE, NONE) = s := by rw [eN]; exact hs.symm
        refine z_iload_n dX11_cross_122 rfl ?_
        refine z_if_ne (tgt := 128) dX11_cross_123 (by decide) (by omega) (fun b123 => ?_) (fun b123 => ?_)
        · refine z_iload_n dX11_cross_128 rfl ?_
          refine z_iconst dX11_cross_129 ?_
          refine z_icmp_ne (tgt := 137) dX11_cross_130 (by decide) (by omega) (by omega) (fun b130 => ?_) (fun b130 => ?_)
          · refine z_iload dX11_cross_137 rfl ?_
            refine h_iret dX11_cross_139 rfl rfl rfl ?_
            exact ⟨by unfold aCross; rw [if_neg (by omega), if_neg (by omega), if_neg b123, if_neg b130, hs'], hC, fr.rf⟩
          · refine z_iload_n dX11_cross_133 rfl ?_
            refine z_goto (tgt := 139) dX11_cross_134 (by decide) ?_
            refine h_iret dX11_cross_139 rfl rfl rfl ?_
            exact ⟨by unfold aCross; rw [if_neg (by omega), if_neg (by omega), if_neg b123, if_pos b130, hs'], hC, fr.rf⟩
        · refine z_iload_n dX11_cross_126 rfl ?_
          refine h_iret dX11_cross_127 rfl rfl rfl ?_
          exact ⟨by unfold aCross; rw [if_neg (by omega), if_neg (by omega), if_pos b123, hs'], hC, fr.rf⟩
      have outer : ∀ n a : Nat, a + n = N → ∀ (s : Int × Int × Int) (x6 x7 : Option ZV), 0 ≤ s.1 → s.1 ≤ 5 * (a : Int) → xoF (α 5) N n a s = xoF (α 5) N N 0 (0, NONE, NONE) → Z rc M_X11_cross 0 0 37 [some (zR 0), some (zI w), some (zI s.1), some (zI s.2.1), some (zI s.2.2), some (zI (a : Int)), x6, x7] [] (hp σ2) (qI (cP σ2 α (aCross α w) α)) := by
        intro n
        induction n with
        | zero =>
          intro a ha s x6 x7 i1 i2 i3
          refine z_iload dX11_cross_37 rfl ?_
          first | refine z_aload_n dX11_cross_39 rfl ?_ | refine z_aload_nT dX11_cross_39 rfl ?_
          refine h_getr dX11_cross_40 fl_X11_26 (by first | assumption | rfl) (by rfl) ?_
          refine h_geti dX11_cross_43 fl_X11_173 (by first | assumption | rfl) (by rfl) ?_
          refine z_icmp_ge (tgt := 122) dX11_cross_46 (by decide) (by omega) (by omega) (fun b46 => ?_) (fun b46 => ?_)
          · exact hres s i3 i1 (by omega) _ _ _
          · omega
        | succ n ih =>
          intro a ha s x6 x7 i1 i2 i3
          have inner : ∀ m b : Nat, b + m = N → ∀ (s' : Int × Int × Int) (x7 : Option ZV), 0 ≤ s'.1 → s'.1 + m ≤ 5 * (a : Int) + 5 → xiF (α 5) a m b s' = xiF (α 5) a (N - (a + 1)) (a + 1) s → Z rc M_X11_cross 0 0 55 [some (zR 0), some (zI w), some (zI s'.1), some (zI s'.2.1), some (zI s'.2.2), some (zI (a : Int)), some (zI (b : Int)), x7] [] (hp σ2) (qI (cP σ2 α (aCross α w) α)) := by
            intro m
            induction m with
            | zero =>
              intro b hb s' x7 j1 j2 j3
              have j3 : s' = xiF (α 5) a (N - (a + 1)) (a + 1) s := j3
              refine z_iload dX11_cross_55 rfl ?_
              first | refine z_aload_n dX11_cross_57 rfl ?_ | refine z_aload_nT dX11_cross_57 rfl ?_
              refine h_getr dX11_cross_58 fl_X11_26 (by first | assumption | rfl) (by rfl) ?_
              refine h_geti dX11_cross_61 fl_X11_173 (by first | assumption | rfl) (by rfl) ?_
              refine z_icmp_ge (tgt := 116) dX11_cross_64 (by decide) (by omega) (by omega) (fun b64 => ?_) (fun b64 => ?_)
              · refine z_iinc dX11_cross_116 rfl (by decide) rfl ?_
                refine z_goto (tgt := 37) dX11_cross_119 (by decide) ?_
                have h9 := ih (a + 1) (by omega) s' (some (zI (b : Int))) x7 j1 (by omega) (by rw [j3]; exact i3)
                rw [nsucc] at h9
                exact h9
              · omega
            | succ m ih2 =>
              intro b hb s' x7 j1 j2 j3
              have cin := crF_in (b := b) hk (a := a) (by omega)
              refine z_iload dX11_cross_55 rfl ?_
              first | refine z_aload_n dX11_cross_57 rfl ?_ | refine z_aload_nT dX11_cross_57 rfl ?_
              refine h_getr dX11_cross_58 fl_X11_26 (by first | assumption | rfl) (by rfl) ?_
              refine h_geti dX11_cross_61 fl_X11_173 (by first | assumption | rfl) (by rfl) ?_
              refine z_icmp_ge (tgt := 116) dX11_cross_64 (by decide) (by omega) (by omega) (fun b64 => ?_) (fun b64 => ?_)
              · omega
              · first | refine z_aload_n dX11_cross_67 rfl ?_ | refine z_aload_nT dX11_cross_67 rfl ?_
                refine h_getr dX11_cross_68 fl_X11_26 (by first | assumption | rfl) (by rfl) ?_
                refine z_iload dX11_cross_71 rfl ?_
                refine z_iload dX11_cross_73 rfl ?_
                refine h_Vi2 (Y' := M_X2_crossing) dX11_cross_75 zw_595 zw_596 zw_597 rfl ok_X2_crossing (by decide) rfl (Nat.le_of_ble_eq_true rfl) ⟨rfl, rfl⟩ (by decide) (by first | assumption | rfl) (k_crossing (Or.inl rfl) hR hk (by omega) (by omega)) (fun vv σ2 hq => ?_)
                obtain ⟨rfl, rfl⟩ := hq
                refine z_istore dX11_cross_78 (by decide) rfl ?_
                refine z_iload dX11_cross_80 rfl ?_
                refine z_if_le (tgt := 102) dX11_cross_82 (by decide) (by omega) (fun b82 => ?_) (fun b82 => ?_)
                · refine z_iload dX11_cross_102 rfl ?_
                  refine z_if_le (tgt := 110) dX11_cross_104 (by decide) (by omega) (fun b104 => ?_) (fun b104 => ?_)
                  · refine z_iinc dX11_cross_110 rfl (by decide) rfl ?_
                    refine z_goto (tgt := 55) dX11_cross_113 (by decide) ?_
                    have e : xst (α 5) a b s' = s' := by unfold xst; rw [if_neg (by omega)]
                    have h9 := ih2 (b + 1) (by omega) s' (some (zI (crF (α 5) a b))) j1 (by omega) (by
                      rw [← j3]
                      show _ = xiF (α 5) a m (b + 1) (xst (α 5) a b s')
                      rw [e])
                    rw [nsucc] at h9
                    exact h9
                  · omega
                · refine z_iload_n dX11_cross_85 rfl ?_
                  refine z_if_ne (tgt := 102) dX11_cross_86 (by decide) (by omega) (fun b86 => ?_) (fun b86 => ?_)
                  · refine z_iload dX11_cross_102 rfl ?_
                    refine z_if_le (tgt := 110) dX11_cross_104 (by decide) (by omega) (fun b104 => ?_) (fun b104 => ?_)
                    · omega
                    · refine z_iinc dX11_cross_107 rfl (by decide) rfl ?_
                      refine z_iinc dX11_cross_110 rfl (by decide) rfl ?_
                      refine z_goto (tgt := 55) dX11_cross_113 (by decide) ?_
                      have e : xst (α 5) a b s' = (s'.1 + 1, s'.2.1, s'.2.2) := by unfold xst; rw [if_pos (by omega), if_neg b86, if_neg b86]
                      have h9 := ih2 (b + 1) (by omega) (s'.1 + 1, s'.2.1, s'.2.2) (some (zI (crF (α 5) a b))) (show 0 ≤ s'.1 + 1 by omega) (show s'.1 + 1 + (m : Int) ≤ _ by omega) (by
                        rw [← j3]
                        show _ = xiF (α 5) a m (b + 1) (xst (α 5) a b s')
                        rw [e])
                      rw [nsucc] at h9
                      exact h9
                  · refine z_bipush dX11_cross_89 rfl ?_
                    refine z_iload dX11_cross_91 rfl ?_
                    refine z_imul dX11_cross_93 ?_
                    refine z_iload dX11_cross_94 rfl ?_
                    refine z_iadd dX11_cross_96 ?_
                    refine z_istore_n dX11_cross_97 (by decide) rfl ?_
                    refine z_iload dX11_cross_98 rfl ?_
                    refine z_istore dX11_cross_100 (by decide) rfl ?_
                    refine z_iload dX11_cross_102 rfl ?_
                    refine z_if_le (tgt := 110) dX11_cross_104 (by decide) (by omega) (fun b104 => ?_) (fun b104 => ?_)
                    · omega
                    · refine z_iinc dX11_cross_107 rfl (by decide) rfl ?_
                      refine z_iinc dX11_cross_110 rfl (by decide) rfl ?_
                      refine z_goto (tgt := 55) dX11_cross_113 (by decide) ?_
                      have e : xst (α 5) a b s' = (s'.1 + 1, 10 * (a : Int) + b, crF (α 5) a b) := by unfold xst; rw [if_pos (by omega), if_pos b86, if_pos b86]
                      have h9 := ih2 (b + 1) (by omega) (s'.1 + 1, 10 * (a : Int) + b, crF (α 5) a b) (some (zI (crF (α 5) a b))) (show 0 ≤ s'.1 + 1 by omega) (show s'.1 + 1 + (m : Int) ≤ _ by omega) (by
                        rw [← j3]
                        show _ = xiF (α 5) a m (b + 1) (xst (α 5) a b s')
                        rw [e])
                      rw [nsucc] at h9
                      exact h9
          refine z_iload dX11_cross_37 rfl ?_
          first | refine z_aload_n dX11_cross_39 rfl ?_ | refine z_aload_nT dX11_cross_39 rfl ?_
          refine h_getr dX11_cross_40 fl_X11_26 (by first | assumption | rfl) (by rfl) ?_
          refine h_geti dX11_cross_43 fl_X11_173 (by first | assumption | rfl) (by rfl) ?_
          refine z_icmp_ge (tgt := 122) dX11_cross_46 (by decide) (by omega) (by omega) (fun b46 => ?_) (fun b46 => ?_)
          · omega
          · refine z_iload dX11_cross_49 rfl ?_
            refine z_iconst dX11_cross_51 ?_
            refine z_iadd dX11_cross_52 ?_
            refine z_istore dX11_cross_53 (by decide) rfl ?_
            have h9 := inner (N - (a + 1)) (a + 1) (by omega) s x7 i1 (by omega) rfl
            rw [nsucc] at h9
            exact h9
      refine z_iconst dX11_cross_25 ?_
      refine z_istore_n dX11_cross_26 (by decide) rfl ?_
      refine z_ldc (n := -1000000) dX11_cross_27 zw_528 rfl ?_
      refine z_istore_n dX11_cross_29 (by decide) rfl ?_
      refine z_ldc (n := -1000000) dX11_cross_30 zw_528 rfl ?_
      refine z_istore dX11_cross_32 (by decide) rfl ?_
      refine z_iconst dX11_cross_34 ?_
      refine z_istore dX11_cross_35 (by decide) rfl ?_
      exact outer N 0 (Nat.zero_add _) (0, NONE, NONE) none none (by decide) (by decide) rfl
    · refine z_ldc (n := -1000001) dX11_cross_22 zw_268 rfl ?_
      refine h_iret dX11_cross_24 rfl rfl rfl ?_
      exact ⟨by unfold aCross; rw [if_neg (by omega), if_pos (by omega)], hC, fr.rf⟩
  · refine z_ldc (n := -1000002) dX11_cross_10 zw_417 rfl ?_
    refine h_iret dX11_cross_12 rfl rfl rfl ?_
    exact ⟨by unfold aCross; rw [if_pos (by omega)], hC, fr.rf⟩
theorem m_crossOf {a b : Nat} {t : Nat → Int} {B : Int} (hR : mR σ 45 t) (ho : cok B t) (ha : (a : Int) < t 3) (hb : (b : Int) < t 3) : KI rc M_X12_crossOf [zR 40, zI (a : Int), zI (b : Int)] σ (fun v σ' => v = crF t a b ∧ σ' = σ) := by
  obtain ⟨h8, h3, a0, a1, a2, a4, a5, a6, a7, hq⟩ := ho
  obtain ⟨q1, q2, q3, q4⟩ := hq a ha
  obtain ⟨v1, v2, v3, v4⟩ := hq b hb
  have p2 := hR (14 + a) (by omega)
  have p3 := hR (19 + a) (by omega)
  have p4 := hR (24 + a) (by omega)
  have u2 := hR (14 + b) (by omega)
  have u3 := hR (19 + b) (by omega)
  have u4 := hR (24 + b) (by omega)
  have loop : ∀ (n o : Nat), o + n = (min (t (24 + a)) (t (24 + b))).toNat + 1 → Z rc M_X12_crossOf 0 0 2 [some (zR 40), some (zI (a : Int)), some (zI (b : Int)), some (zI (o : Int))] [] (hp σ) (qI (fun v σ' => v = crL t a b n o ∧ σ' = σ)) := by
    intro n
    induction n with
    | zero =>
      intro o ho
      refine z_iload_n dX12_crossOf_2 rfl ?_
      first | refine z_aload_n dX12_crossOf_3 rfl ?_ | refine z_aload_nT dX12_crossOf_3 rfl ?_
      refine h_getr dX12_crossOf_4 fl_X12_22 (by first | assumption | rfl) (by rfl) ?_
      refine z_bipush dX12_crossOf_7 rfl ?_
      refine z_iload_n dX12_crossOf_9 rfl ?_
      refine z_iadd dX12_crossOf_10 ?_
      first | refine h_iald dX12_crossOf_11 (by first | assumption | rfl) (by repeat' first | apply zc_add | apply zc_mul | with_reducible exact zc_var _ | exact zc_lit _) (by omega) (by decide) ?_ | refine z_ialdT _ dX12_crossOf_11 (by assumption) (by repeat' first | apply zc_add | apply zc_mul | with_reducible exact zc_var _ | exact zc_lit _) (by omega) (by omega) ?_
      refine z_icmp_gt (tgt := 57) dX12_crossOf_12 (by decide) (by omega) (by omega) (fun b12 => ?_) (fun b12 => ?_)
      · refine z_iconst dX12_crossOf_57 ?_
        refine h_iret dX12_crossOf_58 rfl rfl rfl ?_
        exact ⟨rfl, rfl⟩
      · refine z_iload_n dX12_crossOf_15 rfl ?_
        first | refine z_aload_n dX12_crossOf_16 rfl ?_ | refine z_aload_nT dX12_crossOf_16 rfl ?_
        refine h_getr dX12_crossOf_17 fl_X12_22 (by first | assumption | rfl) (by rfl) ?_
        refine z_bipush dX12_crossOf_20 rfl ?_
        refine z_iload_n dX12_crossOf_22 rfl ?_
        refine z_iadd dX12_crossOf_23 ?_
        first | refine h_iald dX12_crossOf_24 (by first | assumption | rfl) (by repeat' first | apply zc_add | apply zc_mul | with_reducible exact zc_var _ | exact zc_lit _) (by omega) (by decide) ?_ | refine z_ialdT _ dX12_crossOf_24 (by assumption) (by repeat' first | apply zc_add | apply zc_mul | with_reducible exact zc_var _ | exact zc_lit _) (by omega) (by omega) ?_
        refine z_icmp_gt (tgt := 57) dX12_crossOf_25 (by decide) (by omega) (by omega) (fun b25 => ?_) (fun b25 => ?_)
        · refine z_iconst dX12_crossOf_57 ?_
          refine h_iret dX12_crossOf_58 rfl rfl rfl ?_
          exact ⟨rfl, rfl⟩
        · omega
    | succ n ih =>
      intro o ho
      have x1 := placeF_in (t (14 + a)) (t (19 + a)) (o : Int)
      have x2 := placeF_in (t (14 + b)) (t (19 + b)) (o : Int)
      refine z_iload_n dX12_crossOf_2 rfl ?_
      first | refine z_aload_n dX12_crossOf_3 rfl ?_ | refine z_aload_nT dX12_crossOf_3 rfl ?_
      refine h_getr dX12_crossOf_4 fl_X12_22 (by first | assumption | rfl) (by rfl) ?_
      refine z_bipush dX12_crossOf_7 rfl ?_
      refine z_iload_n dX12_crossOf_9 rfl ?_
      refine z_iadd dX12_crossOf_10 ?_
      first | refine h_iald dX12_crossOf_11 (by first | assumption | rfl) (by repeat' first | apply zc_add | apply zc_mul | with_reducible exact zc_var _ | exact zc_lit _) (by omega) (by decide) ?_ | refine z_ialdT _ dX12_crossOf_11 (by assumption) (by repeat' first | apply zc_add | apply zc_mul | with_reducible exact zc_var _ | exact zc_lit _) (by omega) (by omega) ?_
      refine z_icmp_gt (tgt := 57) dX12_crossOf_12 (by decide) (by omega) (by omega) (fun b12 => ?_) (fun b12 => ?_)
      · omega
      · refine z_iload_n dX12_crossOf_15 rfl ?_
        first | refine z_aload_n dX12_crossOf_16 rfl ?_ | refine z_aload_nT dX12_crossOf_16 rfl ?_
        refine h_getr dX12_crossOf_17 fl_X12_22 (by first | assumption | rfl) (by rfl) ?_
        refine z_bipush dX12_crossOf_20 rfl ?_
        refine z_iload_n dX12_crossOf_22 rfl ?_
        refine z_iadd dX12_crossOf_23 ?_
        first | refine h_iald dX12_crossOf_24 (by first | assumption | rfl) (by repeat' first | apply zc_add | apply zc_mul | with_reducible exact zc_var _ | exact zc_lit _) (by omega) (by decide) ?_ | refine z_ialdT _ dX12_crossOf_24 (by assumption) (by repeat' first | apply zc_add | apply zc_mul | with_reducible exact zc_var _ | exact zc_lit _) (by omega) (by omega) ?_
        refine z_icmp_gt (tgt := 57) dX12_crossOf_25 (by decide) (by omega) (by omega) (fun b25 => ?_) (fun b25 => ?_)
        · omega
        · first | refine z_aload_n dX12_crossOf_28 rfl ?_ | refine z_aload_nT dX12_crossOf_28 rfl ?_
          refine h_getr dX12_crossOf_29 fl_X12_22 (by first | assumption | rfl) (by rfl) ?_
          refine z_iload_n dX12_crossOf_32 rfl ?_
          refine z_iload_n dX12_crossOf_33 rfl ?_
          refine h_Si3 (Y' := M_X12_placeBy) dX12_crossOf_34 zw_962 zw_963 ok_X12_placeBy (by decide) rfl (Nat.le_of_ble_eq_true rfl) ⟨rfl, rfl⟩ (by decide) (m_placeBy rfl (by omega) (by omega) (by omega) (by omega) (by omega)) (fun vv σ2 hq => ?_)
          obtain ⟨rfl, rfl⟩ := hq
          rw [p2, p3]
          first | refine z_aload_n dX12_crossOf_37 rfl ?_ | refine z_aload_nT dX12_crossOf_37 rfl ?_
          refine h_getr dX12_crossOf_38 fl_X12_22 (by first | assumption | rfl) (by rfl) ?_
          refine z_iload_n dX12_crossOf_41 rfl ?_
          refine z_iload_n dX12_crossOf_42 rfl ?_
          refine h_Si3 (Y' := M_X12_placeBy) dX12_crossOf_43 zw_962 zw_963 ok_X12_placeBy (by decide) rfl (Nat.le_of_ble_eq_true rfl) ⟨rfl, rfl⟩ (by decide) (m_placeBy rfl (by omega) (by omega) (by omega) (by omega) (by omega)) (fun vv σ2 hq => ?_)
          obtain ⟨rfl, rfl⟩ := hq
          rw [u2, u3]
          refine z_icmp_ne (tgt := 51) dX12_crossOf_46 (by decide) (by omega) (by omega) (fun b46 => ?_) (fun b46 => ?_)
          · refine z_iinc dX12_crossOf_51 rfl (by decide) rfl ?_
            refine z_goto (tgt := 2) dX12_crossOf_54 (by decide) ?_
            have := ih (o + 1) (by omega)
            rw [nsucc] at this
            have e : crL t a b (n + 1) o = crL t a b n (o + 1) := by
              conv => lhs; unfold crL
              rw [if_neg (show ¬ pcF t a (o : Int) = pcF t b (o : Int) from b46)]
            rw [e]
            exact this
          · refine z_iload_n dX12_crossOf_49 rfl ?_
            refine h_iret dX12_crossOf_50 rfl rfl rfl ?_
            refine ⟨?_, rfl⟩
            unfold crL
            rw [if_pos (show pcF t a (o : Int) = pcF t b (o : Int) from b46)]
  refine K_of 1 (by decide) (Nat.le_of_ble_eq_true rfl) (show Z _ _ 0 0 0 [some (zR 40), some (zI (a : Int)), some (zI (b : Int)), none] [] _ _ from ?_)
  refine z_iconst dX12_crossOf_0 ?_
  refine z_istore_n dX12_crossOf_1 (by decide) rfl ?_
  exact loop _ 1 (by omega)
theorem r_cross {w : Int} (hM : MI σ α) (hO : OK α) (hw : zin w) : KI rc M_X12_cross [zR 40, zI w] σ (mP σ α (aCross α w) α) := by
  have h8 := OKc_8 hO
  have hR := hM.2.2.2.1
  have e3 := hR 3 (by omega)
  refine K_of 6 (by decide) (Nat.le_of_ble_eq_true rfl) (show Z _ _ 0 0 0 [some (zR 40), some (zI w), none, none, none, none, none, none] [] _ _ from ?_)
  first | refine z_aload_n dX12_cross_0 rfl ?_ | refine z_aload_nT dX12_cross_0 rfl ?_
  refine h_Vi0 (Y' := M_X12_isCoast) dX12_cross_1 zw_941 zw_943 zs_36 rfl ok_X12_isCoast (by decide) rfl (Nat.le_of_ble_eq_true rfl) ⟨rfl, rfl⟩ (by decide) (by first | assumption | rfl) (m_isCoast (hR 8 (by omega)) h8) (fun vv σ2 hq => ?_)
  obtain ⟨rfl, rfl⟩ := hq
  refine z_if_ne (tgt := 10) dX12_cross_4 (by decide) (by omega) (fun b4 => ?_) (fun b4 => ?_)
  · refine z_iload_n dX12_cross_10 rfl ?_
    refine z_iconst dX12_cross_11 ?_
    refine z_iconst dX12_cross_12 ?_
    refine h_Si3 (Y' := M_X12_in) dX12_cross_13 zw_857 zw_858 ok_X12_in (by decide) rfl (Nat.le_of_ble_eq_true rfl) ⟨rfl, rfl⟩ (by decide) (m_within hw (by omega) (by omega)) (fun vv σ2 hq => ?_)
    obtain ⟨hv, rfl⟩ := hq
    refine z_if_ne (tgt := 22) dX12_cross_16 (by decide) (by omega) (fun b16 => ?_) (fun b16 => ?_)
    · have hk := OKc_s hO (by omega)
      have h3 := hk.2.1
      obtain ⟨N, hN⟩ : ∃ N : Nat, α 5 3 = (N : Int) := ⟨(α 5 3).toNat, by omega⟩
      have eN : (α 5 3).toNat = N := by omega
      have hres : ∀ s : Int × Int × Int, s = xoF (α 5) N N 0 (0, NONE, NONE) → 0 ≤ s.1 → s.1 ≤ 100 → ∀ x5 x6 x7 : Option ZV, Z rc M_X12_cross 0 0 122 [some (zR 40), some (zI w), some (zI s.1), some (zI s.2.1), some (zI s.2.2), x5, x6, x7] [] (hp σ2) (qI (mP σ2 α (aCross α w) α)) := by
        intro s hs _ _ x5 x6 x7
        have hs' : xoF (α 5) (α 5 3).toNat (α 5 3).toNat 0 (0, NONE, NONE) = s := by rw [eN]; exact hs.symm
        refine z_iload_n dX12_cross_122 rfl ?_
        refine z_if_ne (tgt := 130) dX12_cross_123 (by decide) (by omega) (fun b123 => ?_) (fun b123 => ?_)
        · refine z_iload_n dX12_cross_130 rfl ?_
          refine z_iconst dX12_cross_131 ?_
          refine z_icmp_ne (tgt := 139) dX12_cross_132 (by decide) (by omega) (by omega) (fun b132 => ?_) (fun b132 => ?_)
          · refine z_iload dX12_cross_139 rfl ?_
            refine h_iret dX12_cross_141 rfl rfl rfl ?_
            exact ⟨by unfold aCross; rw [if_neg (by omega), if_neg (by omega), if_neg b123, if_neg b132, hs'], hM, fr.rf⟩
          · refine z_iload_n dX12_cross_135 rfl ?_
            refine z_goto (tgt := 141) dX12_cross_136 (by decide) ?_
            refine h_iret dX12_cross_141 rfl rfl rfl ?_
            exact ⟨by unfold aCross; rw [if_neg (by omega), if_neg (by omega), if_neg b123, if_pos b132, hs'], hM, fr.rf⟩
        · refine z_iload_n dX12_cross_126 rfl ?_
          refine z_goto (tgt := 141) dX12_cross_127 (by decide) ?_
          refine h_iret dX12_cross_141 rfl rfl rfl ?_
          exact ⟨by unfold aCross; rw [if_neg (by omega), if_neg (by omega), if_pos b123, hs'], hM, fr.rf⟩
      have outer : ∀ n a : Nat, a + n = N → ∀ (s : Int × Int × Int) (x6 x7 : Option ZV), 0 ≤ s.1 → s.1 ≤ 5 * (a : Int) → xoF (α 5) N n a s = xoF (α 5) N N 0 (0, NONE, NONE) → Z rc M_X12_cross 0 0 34 [some (zR 40), some (zI w), some (zI s.1), some (zI s.2.1), some (zI s.2.2), some (zI (a : Int)), x6, x7] [] (hp σ2) (qI (mP σ2 α (aCross α w) α)) := by
        intro n
        induction n with
        | zero =>
          intro a ha s x6 x7 i1 i2 i3
          refine z_iload dX12_cross_34 rfl ?_
          first | refine z_aload_n dX12_cross_36 rfl ?_ | refine z_aload_nT dX12_cross_36 rfl ?_
          refine h_getr dX12_cross_37 fl_X12_22 (by first | assumption | rfl) (by rfl) ?_
          refine z_iconst dX12_cross_40 ?_
          first | refine h_iald dX12_cross_41 (by first | assumption | rfl) (by repeat' first | apply zc_add | apply zc_mul | with_reducible exact zc_var _ | exact zc_lit _) (by omega) (by decide) ?_ | refine z_ialdT _ dX12_cross_41 (by assumption) (by repeat' first | apply zc_add | apply zc_mul | with_reducible exact zc_var _ | exact zc_lit _) (by omega) (by omega) ?_
          refine z_icmp_ge (tgt := 122) dX12_cross_42 (by decide) (by omega) (by omega) (fun b42 => ?_) (fun b42 => ?_)
          · exact hres s i3 i1 (by omega) _ _ _
          · omega
        | succ n ih =>
          intro a ha s x6 x7 i1 i2 i3
          have inner : ∀ m b : Nat, b + m = N → ∀ (s' : Int × Int × Int) (x7 : Option ZV), 0 ≤ s'.1 → s'.1 + m ≤ 5 * (a : Int) + 5 → xiF (α 5) a m b s' = xiF (α 5) a (N - (a + 1)) (a + 1) s → Z rc M_X12_cross 0 0 51 [some (zR 40), some (zI w), some (zI s'.1), some (zI s'.2.1), some (zI s'.2.2), some (zI (a : Int)), some (zI (b : Int)), x7] [] (hp σ2) (qI (mP σ2 α (aCross α w) α)) := by
            intro m
            induction m with
            | zero =>
              intro b hb s' x7 j1 j2 j3
              have j3 : s' = xiF (α 5) a (N - (a + 1)) (a + 1) s := j3
              refine z_iload dX12_cross_51 rfl ?_
              first | refine z_aload_n dX12_cross_53 rfl ?_ | refine z_aload_nT dX12_cross_53 rfl ?_
              refine h_getr dX12_cross_54 fl_X12_22 (by first | assumption | rfl) (by rfl) ?_
              refine z_iconst dX12_cross_57 ?_
              first | refine h_iald dX12_cross_58 (by first | assumption | rfl) (by repeat' first | apply zc_add | apply zc_mul | with_reducible exact zc_var _ | exact zc_lit _) (by omega) (by decide) ?_ | refine z_ialdT _ dX12_cross_58 (by assumption) (by repeat' first | apply zc_add | apply zc_mul | with_reducible exact zc_var _ | exact zc_lit _) (by omega) (by omega) ?_
              refine z_icmp_ge (tgt := 116) dX12_cross_59 (by decide) (by omega) (by omega) (fun b59 => ?_) (fun b59 => ?_)
              · refine z_iinc dX12_cross_116 rfl (by decide) rfl ?_
                refine z_goto (tgt := 34) dX12_cross_119 (by decide) ?_
                have h9 := ih (a + 1) (by omega) s' (some (zI (b : Int))) x7 j1 (by omega) (by rw [j3]; exact i3)
                rw [nsucc] at h9
                exact h9
              · omega
            | succ m ih2 =>
              intro b hb s' x7 j1 j2 j3
              have cin := crF_in (b := b) hk (a := a) (by omega)
              refine z_iload dX12_cross_51 rfl ?_
              first | refine z_aload_n dX12_cross_53 rfl ?_ | refine z_aload_nT dX12_cross_53 rfl ?_
              refine h_getr dX12_cross_54 fl_X12_22 (by first | assumption | rfl) (by rfl) ?_
              refine z_iconst dX12_cross_57 ?_
              first | refine h_iald dX12_cross_58 (by first | assumption | rfl) (by repeat' first | apply zc_add | apply zc_mul | with_reducible exact zc_var _ | exact zc_lit _) (by omega) (by decide) ?_ | refine z_ialdT _ dX12_cross_58 (by assumption) (by repeat' first | apply zc_add | apply zc_mul | with_reducible exact zc_var _ | exact zc_lit _) (by omega) (by omega) ?_
              refine z_icmp_ge (tgt := 116) dX12_cross_59 (by decide) (by omega) (by omega) (fun b59 => ?_) (fun b59 => ?_)
              · omega
              · first | refine z_aload_n dX12_cross_62 rfl ?_ | refine z_aload_nT dX12_cross_62 rfl ?_
                refine z_iload dX12_cross_63 rfl ?_
                refine z_iload dX12_cross_65 rfl ?_
                refine h_Vi2 (Y' := M_X12_crossOf) dX12_cross_67 zw_1044 zw_1046 zs_43 rfl ok_X12_crossOf (by decide) rfl (Nat.le_of_ble_eq_true rfl) ⟨rfl, rfl⟩ (by decide) (by first | assumption | rfl) (m_crossOf hR hk (by omega) (by omega)) (fun vv σ2 hq => ?_)
                obtain ⟨rfl, rfl⟩ := hq
                refine z_istore dX12_cross_70 (by decide) rfl ?_
                refine z_iload dX12_cross_72 rfl ?_
                refine z_if_le (tgt := 110) dX12_cross_74 (by decide) (by omega) (fun b74 => ?_) (fun b74 => ?_)
                · refine z_iinc dX12_cross_110 rfl (by decide) rfl ?_
                  refine z_goto (tgt := 51) dX12_cross_113 (by decide) ?_
                  have e : xst (α 5) a b s' = s' := by unfold xst; rw [if_neg (by omega)]
                  have h9 := ih2 (b + 1) (by omega) s' (some (zI (crF (α 5) a b))) j1 (by omega) (by
                    rw [← j3]
                    show _ = xiF (α 5) a m (b + 1) (xst (α 5) a b s')
                    rw [e])
                  rw [nsucc] at h9
                  exact h9
                · refine z_iload_n dX12_cross_77 rfl ?_
                  refine z_if_ne (tgt := 92) dX12_cross_78 (by decide) (by omega) (fun b78 => ?_) (fun b78 => ?_)
                  · refine z_iload_n dX12_cross_92 rfl ?_
                    refine z_istore_n dX12_cross_93 (by decide) rfl ?_
                    refine z_iload_n dX12_cross_94 rfl ?_
                    refine z_if_ne (tgt := 103) dX12_cross_95 (by decide) (by omega) (fun b95 => ?_) (fun b95 => ?_)
                    · refine z_iload dX12_cross_103 rfl ?_
                      refine z_istore dX12_cross_105 (by decide) rfl ?_
                      refine z_iinc dX12_cross_107 rfl (by decide) rfl ?_
                      refine z_iinc dX12_cross_110 rfl (by decide) rfl ?_
                      refine z_goto (tgt := 51) dX12_cross_113 (by decide) ?_
                      have e : xst (α 5) a b s' = (s'.1 + 1, s'.2.1, s'.2.2) := by unfold xst; rw [if_pos (by omega), if_neg b78, if_neg b78]
                      have h9 := ih2 (b + 1) (by omega) (s'.1 + 1, s'.2.1, s'.2.2) (some (zI (crF (α 5) a b))) (show 0 ≤ s'.1 + 1 by omega) (show s'.1 + 1 + (m : Int) ≤ _ by omega) (by
                        rw [← j3]
                        show _ = xiF (α 5) a m (b + 1) (xst (α 5) a b s')
                        rw [e])
                      rw [nsucc] at h9
                      exact h9
                    · omega
                  · refine z_bipush dX12_cross_81 rfl ?_
                    refine z_iload dX12_cross_83 rfl ?_
                    refine z_imul dX12_cross_85 ?_
                    refine z_iload dX12_cross_86 rfl ?_
                    refine z_iadd dX12_cross_88 ?_
                    refine z_goto (tgt := 93) dX12_cross_89 (by decide) ?_
                    refine z_istore_n dX12_cross_93 (by decide) rfl ?_
                    refine z_iload_n dX12_cross_94 rfl ?_
                    refine z_if_ne (tgt := 103) dX12_cross_95 (by decide) (by omega) (fun b95 => ?_) (fun b95 => ?_)
                    · omega
                    · refine z_iload dX12_cross_98 rfl ?_
                      refine z_goto (tgt := 105) dX12_cross_100 (by decide) ?_
                      refine z_istore dX12_cross_105 (by decide) rfl ?_
                      refine z_iinc dX12_cross_107 rfl (by decide) rfl ?_
                      refine z_iinc dX12_cross_110 rfl (by decide) rfl ?_
                      refine z_goto (tgt := 51) dX12_cross_113 (by decide) ?_
                      have e : xst (α 5) a b s' = (s'.1 + 1, 10 * (a : Int) + b, crF (α 5) a b) := by unfold xst; rw [if_pos (by omega), if_pos b78, if_pos b78]
                      have h9 := ih2 (b + 1) (by omega) (s'.1 + 1, 10 * (a : Int) + b, crF (α 5) a b) (some (zI (crF (α 5) a b))) (show 0 ≤ s'.1 + 1 by omega) (show s'.1 + 1 + (m : Int) ≤ _ by omega) (by
                        rw [← j3]
                        show _ = xiF (α 5) a m (b + 1) (xst (α 5) a b s')
                        rw [e])
                      rw [nsucc] at h9
                      exact h9
          refine z_iload dX12_cross_34 rfl ?_
          first | refine z_aload_n dX12_cross_36 rfl ?_ | refine z_aload_nT dX12_cross_36 rfl ?_
          refine h_getr dX12_cross_37 fl_X12_22 (by first | assumption | rfl) (by rfl) ?_
          refine z_iconst dX12_cross_40 ?_
          first | refine h_iald dX12_cross_41 (by first | assumption | rfl) (by repeat' first | apply zc_add | apply zc_mul | with_reducible exact zc_var _ | exact zc_lit _) (by omega) (by decide) ?_ | refine z_ialdT _ dX12_cross_41 (by assumption) (by repeat' first | apply zc_add | apply zc_mul | with_reducible exact zc_var _ | exact zc_lit _) (by omega) (by omega) ?_
          refine z_icmp_ge (tgt := 122) dX12_cross_42 (by decide) (by omega) (by omega) (fun b42 => ?_) (fun b42 => ?_)
          · omega
          · refine z_iload dX12_cross_45 rfl ?_
            refine z_iconst dX12_cross_47 ?_
            refine z_iadd dX12_cross_48 ?_
            refine z_istore dX12_cross_49 (by decide) rfl ?_
            have h9 := inner (N - (a + 1)) (a + 1) (by omega) s x7 i1 (by omega) rfl
            rw [nsucc] at h9
            exact h9
      refine z_iconst dX12_cross_22 ?_
      refine z_istore_n dX12_cross_23 (by decide) rfl ?_
      refine z_ldc (n := -1000000) dX12_cross_24 zw_1015 rfl ?_
      refine z_istore_n dX12_cross_26 (by decide) rfl ?_
      refine z_ldc (n := -1000000) dX12_cross_27 zw_1015 rfl ?_
      refine z_istore dX12_cross_29 (by decide) rfl ?_
      refine z_iconst dX12_cross_31 ?_
      refine z_istore dX12_cross_32 (by decide) rfl ?_
      exact outer N 0 (Nat.zero_add _) (0, NONE, NONE) none none (by decide) (by decide) rfl
    · refine z_ldc (n := -1000001) dX12_cross_19 zw_860 rfl ?_
      refine h_iret dX12_cross_21 rfl rfl rfl ?_
      exact ⟨by unfold aCross; rw [if_neg (by omega), if_pos (by omega)], hM, fr.rf⟩
  · refine z_ldc (n := -1000002) dX12_cross_7 zw_945 rfl ?_
    refine h_iret dX12_cross_9 rfl rfl rfl ?_
    exact ⟨by unfold aCross; rw [if_pos (by omega)], hM, fr.rf⟩
end
