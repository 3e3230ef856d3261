/-! the tape: numbers and signs, class -/
def rlF (f : Nat → Int) : Nat → Nat → Nat
  | 0, _ => 0
  | n + 1, i => if 48 ≤ f i ∧ f i ≤ 57 then rlF f n (i + 1) + 1 else 0
theorem rlF_s {f : Nat → Int} {n i : Nat} : rlF f (n + 1) i = if 48 ≤ f i ∧ f i ≤ 57 then rlF f n (i + 1) + 1 else 0 := rfl
theorem rlF_le {f : Nat → Int} : ∀ n i, rlF f n i ≤ n
  | 0, _ => Nat.le_refl _
  | n + 1, i => by
    rw [rlF_s]
    have := rlF_le (f := f) n (i + 1)
    split <;> omega
theorem rlF_fig {f : Nat → Int} : ∀ n i j, j < rlF f n i → 48 ≤ f (i + j) ∧ f (i + j) ≤ 57
  | 0, _, j, h => absurd h (by unfold rlF; omega)
  | n + 1, i, j, h => by
    rw [rlF_s] at h
    by_cases h1 : 48 ≤ f i ∧ f i ≤ 57
    · rw [if_pos h1] at h
      match j with
      | 0 => exact h1
      | j + 1 =>
        have := rlF_fig (f := f) n (i + 1) j (by omega)
        rw [show i + (j + 1) = i + 1 + j by omega]
        exact this
    · rw [if_neg h1] at h
      omega
def vaF (f : Nat → Int) (a : Nat) : Nat → Int
  | 0 => 0
  | j + 1 => if j < 2 then vaF f a j * 10 + f (a + j) - 48 else vaF f a j
theorem vaF_s {f : Nat → Int} {a j : Nat} : vaF f a (j + 1) = if j < 2 then vaF f a j * 10 + f (a + j) - 48 else vaF f a j := rfl
theorem vaF_in {f : Nat → Int} {a : Nat} : ∀ j, (∀ i, i < j → 48 ≤ f (a + i) ∧ f (a + i) ≤ 57) → 0 ≤ vaF f a j ∧ vaF f a j ≤ 99
  | 0, _ => ⟨Int.le_refl 0, by show (0 : Int) ≤ 99; omega⟩
  | 1, h => by
    have h0 := h 0 (by omega)
    rw [vaF_s, if_pos (by omega)]
    show 0 ≤ 0 * 10 + f (a + 0) - 48 ∧ 0 * 10 + f (a + 0) - 48 ≤ 99
    omega
  | 2, h => by
    have h0 := h 0 (by omega)
    have h1 := h 1 (by omega)
    rw [vaF_s, if_pos (by omega), vaF_s, if_pos (by omega)]
    show 0 ≤ (0 * 10 + f (a + 0) - 48) * 10 + f (a + 1) - 48 ∧ (0 * 10 + f (a + 0) - 48) * 10 + f (a + 1) - 48 ≤ 99
    omega
  | j + 3, h => by
    rw [vaF_s, if_neg (by omega)]
    exact vaF_in (j + 2) (fun i hi => h i (by omega))
abbrev jF (f : Nat → Int) (N a : Nat) : Nat := rlF f (N - a) a
abbrev vF (f : Nat → Int) (N a : Nat) : Int := vaF f a (rlF f (N - a) a)
theorem vF_in {f : Nat → Int} {N a : Nat} : 0 ≤ vF f N a ∧ vF f N a ≤ 99 := vaF_in _ (fun i hi => rlF_fig _ _ i hi)
/-- the tape of the class: letters f, N of them, read up to a -/
def TC (σ : Mem) (f : Nat → Int) (N a : Nat) : Prop := σ 5 2 = (N : Int) ∧ σ 5 3 = (a : Int) ∧ ∀ i, i < N → σ 6 i = f i
def TF (f : Nat → Int) (N : Nat) : Prop := N ≤ 100 ∧ ∀ i, i < N → 0 ≤ f i ∧ f i ≤ 255
section
variable {rc : ZRC} {σ α : Mem} {f : Nat → Int} {N a : Nat}
theorem k_fail {n : Int} : KI rc M_X9_fail [zR 5, zI n] σ (fun v σ' => v = 0 ∧ σ' = zu σ 5 4 n) := by
  refine K_of 0 (by decide) (Nat.le_of_ble_eq_true rfl) (show Z _ _ 0 0 0 [some (zR 5), some (zI n)] [] _ _ from ?_)
  first | refine z_aload_n dX9_fail_0 rfl ?_ | refine z_aload_nT dX9_fail_0 rfl ?_
  refine z_iload_n dX9_fail_1 rfl ?_
  refine h_puti dX9_fail_2 fp_X9_23 (by first | assumption | rfl) (by rfl) ?_
  refine z_iconst dX9_fail_5 ?_
  refine h_zret dX9_fail_6 rfl (by omega) rfl rfl ?_
  exact ⟨rfl, rfl⟩
theorem k_isFigure {c : Int} (hc : zin c) : KI rc M_X9_isFigure [zI c] σ (fun v σ' => ((v = 1 ∧ 48 ≤ c ∧ c ≤ 57) ∨ (v = 0 ∧ ¬ (48 ≤ c ∧ c ≤ 57))) ∧ σ' = σ) := by
  refine K_of 0 (by decide) (Nat.le_of_ble_eq_true rfl) (show Z _ _ 0 0 0 [some (zI c)] [] _ _ from ?_)
  refine z_iload_n dX9_isFigure_0 rfl ?_
  refine z_bipush dX9_isFigure_1 rfl ?_
  refine z_icmp_lt (tgt := 16) dX9_isFigure_3 (by decide) (by omega) (by omega) (fun b3 => ?_) (fun b3 => ?_)
  · refine z_iconst dX9_isFigure_16 ?_
    refine h_zret dX9_isFigure_17 rfl (by omega) rfl rfl ?_
    exact ⟨Or.inr ⟨rfl, by omega⟩, rfl⟩
  · refine z_iload_n dX9_isFigure_6 rfl ?_
    refine z_bipush dX9_isFigure_7 rfl ?_
    refine z_icmp_gt (tgt := 16) dX9_isFigure_9 (by decide) (by omega) (by omega) (fun b9 => ?_) (fun b9 => ?_)
    · refine z_iconst dX9_isFigure_16 ?_
      refine h_zret dX9_isFigure_17 rfl (by omega) rfl rfl ?_
      exact ⟨Or.inr ⟨rfl, by omega⟩, rfl⟩
    · refine z_iconst dX9_isFigure_12 ?_
      refine z_goto (tgt := 17) dX9_isFigure_13 (by decide) ?_
      refine h_zret dX9_isFigure_17 rfl (by omega) rfl rfl ?_
      exact ⟨Or.inl ⟨rfl, by omega⟩, rfl⟩
theorem k_byteHere (hT : TC σ f N a) (hF : TF f N) (ha : a ≤ N) : KI rc M_X9_byteHere [zR 5] σ (fun v σ' => ((a < N ∧ v = f a) ∨ (a = N ∧ v = -1)) ∧ σ' = σ) := by
  obtain ⟨t1, t2, t3⟩ := hT
  have hN := hF.1
  refine K_of 0 (by decide) (Nat.le_of_ble_eq_true rfl) (show Z _ _ 0 0 0 [some (zR 5)] [] _ _ from ?_)
  first | refine z_aload_n dX9_byteHere_0 rfl ?_ | refine z_aload_nT dX9_byteHere_0 rfl ?_
  refine h_geti dX9_byteHere_1 fl_X9_20 (by first | assumption | rfl) (by rfl) ?_
  first | refine z_aload_n dX9_byteHere_4 rfl ?_ | refine z_aload_nT dX9_byteHere_4 rfl ?_
  refine h_geti dX9_byteHere_5 fl_X9_16 (by first | assumption | rfl) (by rfl) ?_
  refine z_icmp_ge (tgt := 23) dX9_byteHere_8 (by decide) (by omega) (by omega) (fun b8 => ?_) (fun b8 => ?_)
  · refine z_iconst dX9_byteHere_23 ?_
    refine h_iret dX9_byteHere_24 rfl rfl rfl ?_
    exact ⟨Or.inr ⟨by omega, rfl⟩, rfl⟩
  · first | refine z_aload_n dX9_byteHere_11 rfl ?_ | refine z_aload_nT dX9_byteHere_11 rfl ?_
    refine h_getr dX9_byteHere_12 fl_X9_9 (by first | assumption | rfl) (by rfl) ?_
    first | refine z_aload_n dX9_byteHere_15 rfl ?_ | refine z_aload_nT dX9_byteHere_15 rfl ?_
    refine h_geti dX9_byteHere_16 fl_X9_20 (by first | assumption | rfl) (by rfl) ?_
    rw [t2]
    first | refine h_iald dX9_byteHere_19 (by first | assumption | rfl) (by repeat' first | apply zc_add | apply zc_mul | with_reducible exact zc_var _ | exact zc_lit _) (by omega) (by decide) ?_ | refine z_ialdT _ dX9_byteHere_19 (by assumption) (by repeat' first | apply zc_add | apply zc_mul | with_reducible exact zc_var _ | exact zc_lit _) (by omega) (by omega) ?_
    refine z_goto (tgt := 24) dX9_byteHere_20 (by decide) ?_
    refine h_iret dX9_byteHere_24 rfl rfl rfl ?_
    exact ⟨Or.inl ⟨by omega, t3 a (by omega)⟩, rfl⟩
theorem k_readSign {s : Int} (hT : TC σ f N a) (hF : TF f N) (ha : a ≤ N) (hs0 : 0 ≤ s) (hs1 : s ≤ 200) : KI rc M_X9_readSign [zR 5, zI s] σ (fun v σ' => (v = 0 ∧ ¬ (a < N ∧ f a = s) ∧ σ' = zu σ 5 4 1) ∨ (v = 1 ∧ (a < N ∧ f a = s) ∧ σ' = zu σ 5 3 ((a : Int) + 1))) := by
  have t2 := hT.2.1
  refine K_of 0 (by decide) (Nat.le_of_ble_eq_true rfl) (show Z _ _ 0 0 0 [some (zR 5), some (zI s)] [] _ _ from ?_)
  first | refine z_aload_n dX9_readSign_0 rfl ?_ | refine z_aload_nT dX9_readSign_0 rfl ?_
  refine h_Vi0 (Y' := M_X9_byteHere) dX9_readSign_1 zw_350 zw_352 zs_4 rfl ok_X9_byteHere (by decide) rfl (Nat.le_of_ble_eq_true rfl) ⟨rfl, rfl⟩ (by decide) (by first | assumption | rfl) (k_byteHere hT hF ha) (fun vv σ2 hq => ?_)
  obtain ⟨hv, rfl⟩ := hq
  have hz : zin vv := by
    rcases hv with ⟨h1, h2⟩ | ⟨h1, h2⟩
    · have := hF.2 a h1
      omega
    · omega
  refine z_iload_n dX9_readSign_4 rfl ?_
  refine z_icmp_eq (tgt := 14) dX9_readSign_5 (by decide) (by omega) (by omega) (fun b5 => ?_) (fun b5 => ?_)
  · first | refine z_aload_n dX9_readSign_14 rfl ?_ | refine z_aload_nT dX9_readSign_14 rfl ?_
    refine z_dup dX9_readSign_15 rfl ?_
    refine h_geti dX9_readSign_16 fl_X9_20 (by first | assumption | rfl) (by rfl) ?_
    refine z_iconst dX9_readSign_19 ?_
    refine z_iadd dX9_readSign_20 ?_
    refine h_puti dX9_readSign_21 fp_X9_20 (by first | assumption | rfl) (by rfl) ?_
    refine z_iconst dX9_readSign_24 ?_
    refine h_zret dX9_readSign_25 rfl (by omega) rfl rfl ?_
    rw [t2]
    exact Or.inr ⟨rfl, by omega, rfl⟩
  · first | refine z_aload_n dX9_readSign_8 rfl ?_ | refine z_aload_nT dX9_readSign_8 rfl ?_
    refine z_iconst dX9_readSign_9 ?_
    refine h_Vi1 (Y' := M_X9_fail) dX9_readSign_10 zw_354 zw_356 zs_5 rfl ok_X9_fail (by decide) rfl (Nat.le_of_ble_eq_true rfl) ⟨rfl, rfl⟩ (by decide) (by first | assumption | rfl) (k_fail) (fun vv σ2 hq => ?_)
    obtain ⟨rfl, rfl⟩ := hq
    refine h_zret dX9_readSign_13 rfl (by omega) rfl rfl ?_
    exact Or.inl ⟨rfl, by omega, rfl⟩
theorem k_readNumber {k : Nat} {lo hi : Int} (hT : TC σ f N a) (hF : TF f N) (ha : a ≤ N) (hk : k < 5) (hlo : zin lo) (hhi : zin hi) : KI rc M_X9_readNumber [zR 5, zI (k : Int), zI lo, zI hi] σ (fun v σ' => (v = 0 ∧ ¬ (1 ≤ jF f N a ∧ jF f N a ≤ 2) ∧ σ' = zu σ 5 4 1) ∨ (v = 0 ∧ (1 ≤ jF f N a ∧ jF f N a ≤ 2) ∧ ¬ (lo ≤ vF f N a ∧ vF f N a ≤ hi) ∧ σ' = zu σ 5 4 2) ∨ (v = 1 ∧ (1 ≤ jF f N a ∧ jF f N a ≤ 2) ∧ (lo ≤ vF f N a ∧ vF f N a ≤ hi) ∧ σ' = zu (zu σ 7 k (vF f N a)) 5 3 ((a : Int) + (jF f N a : Nat)))) := by
  obtain ⟨t1, t2, t3⟩ := hT
  have hN := hF.1
  have fin : ∀ x6 : Option ZV, Z rc M_X9_readNumber 0 0 72 [some (zR 5), some (zI (k : Int)), some (zI lo), some (zI hi), some (zI ((jF f N a : Nat) : Int)), some (zI (vF f N a)), x6] [] (hp σ) (qI (fun v σ' => (v = 0 ∧ ¬ (1 ≤ jF f N a ∧ jF f N a ≤ 2) ∧ σ' = zu σ 5 4 1) ∨ (v = 0 ∧ (1 ≤ jF f N a ∧ jF f N a ≤ 2) ∧ ¬ (lo ≤ vF f N a ∧ vF f N a ≤ hi) ∧ σ' = zu σ 5 4 2) ∨ (v = 1 ∧ (1 ≤ jF f N a ∧ jF f N a ≤ 2) ∧ (lo ≤ vF f N a ∧ vF f N a ≤ hi) ∧ σ' = zu (zu σ 7 k (vF f N a)) 5 3 ((a : Int) + (jF f N a : Nat))))) := by
    intro x6
    have hv := vF_in (f := f) (N := N) (a := a)
    have hj : jF f N a ≤ N - a := rlF_le (f := f) (N - a) a
    obtain ⟨V, hV⟩ : ∃ V, V = vF f N a := ⟨_, rfl⟩
    obtain ⟨J, hJ⟩ : ∃ J, J = jF f N a := ⟨_, rfl⟩
    rw [← hV] at hv ⊢
    rw [← hJ] at hj ⊢
    have no1 : ¬ (1 ≤ J ∧ J ≤ 2) → Z rc M_X9_readNumber 0 0 83 [some (zR 5), some (zI (k : Int)), some (zI lo), some (zI hi), some (zI ((J : Nat) : Int)), some (zI V), x6] [] (hp σ) (qI (fun v σ' => (v = 0 ∧ ¬ (1 ≤ J ∧ J ≤ 2) ∧ σ' = zu σ 5 4 1) ∨ (v = 0 ∧ (1 ≤ J ∧ J ≤ 2) ∧ ¬ (lo ≤ V ∧ V ≤ hi) ∧ σ' = zu σ 5 4 2) ∨ (v = 1 ∧ (1 ≤ J ∧ J ≤ 2) ∧ (lo ≤ V ∧ V ≤ hi) ∧ σ' = zu (zu σ 7 k V) 5 3 ((a : Int) + (J : Nat))))) := by
      intro h
      first | refine z_aload_n dX9_readNumber_83 rfl ?_ | refine z_aload_nT dX9_readNumber_83 rfl ?_
      refine z_iconst dX9_readNumber_84 ?_
      refine h_Vi1 (Y' := M_X9_fail) dX9_readNumber_85 zw_354 zw_356 zs_5 rfl ok_X9_fail (by decide) rfl (Nat.le_of_ble_eq_true rfl) ⟨rfl, rfl⟩ (by decide) (by first | assumption | rfl) (k_fail) (fun vv σ2 hq => ?_)
      obtain ⟨rfl, rfl⟩ := hq
      refine h_zret dX9_readNumber_88 rfl (by omega) rfl rfl ?_
      exact Or.inl ⟨rfl, h, rfl⟩
    have no2 : (1 ≤ J ∧ J ≤ 2) → ¬ (lo ≤ V ∧ V ≤ hi) → Z rc M_X9_readNumber 0 0 101 [some (zR 5), some (zI (k : Int)), some (zI lo), some (zI hi), some (zI ((J : Nat) : Int)), some (zI V), x6] [] (hp σ) (qI (fun v σ' => (v = 0 ∧ ¬ (1 ≤ J ∧ J ≤ 2) ∧ σ' = zu σ 5 4 1) ∨ (v = 0 ∧ (1 ≤ J ∧ J ≤ 2) ∧ ¬ (lo ≤ V ∧ V ≤ hi) ∧ σ' = zu σ 5 4 2) ∨ (v = 1 ∧ (1 ≤ J ∧ J ≤ 2) ∧ (lo ≤ V ∧ V ≤ hi) ∧ σ' = zu (zu σ 7 k V) 5 3 ((a : Int) + (J : Nat))))) := by
      intro h h2
      first | refine z_aload_n dX9_readNumber_101 rfl ?_ | refine z_aload_nT dX9_readNumber_101 rfl ?_
      refine z_iconst dX9_readNumber_102 ?_
      refine h_Vi1 (Y' := M_X9_fail) dX9_readNumber_103 zw_354 zw_356 zs_5 rfl ok_X9_fail (by decide) rfl (Nat.le_of_ble_eq_true rfl) ⟨rfl, rfl⟩ (by decide) (by first | assumption | rfl) (k_fail) (fun vv σ2 hq => ?_)
      obtain ⟨rfl, rfl⟩ := hq
      refine h_zret dX9_readNumber_106 rfl (by omega) rfl rfl ?_
      exact Or.inr (Or.inl ⟨rfl, h, h2, rfl⟩)
    refine z_iload dX9_readNumber_72 rfl ?_
    refine z_if_eq (tgt := 83) dX9_readNumber_74 (by decide) (by omega) (fun b74 => ?_) (fun b74 => ?_)
    · exact no1 (by omega)
    · refine z_iload dX9_readNumber_77 rfl ?_
      refine z_iconst dX9_readNumber_79 ?_
      refine z_icmp_le (tgt := 89) dX9_readNumber_80 (by decide) (by omega) (by omega) (fun b80 => ?_) (fun b80 => ?_)
      · refine z_iload dX9_readNumber_89 rfl ?_
        refine z_iload_n dX9_readNumber_91 rfl ?_
        refine z_icmp_lt (tgt := 101) dX9_readNumber_92 (by decide) (by omega) (by omega) (fun b92 => ?_) (fun b92 => ?_)
        · exact no2 (by omega) (by omega)
        · refine z_iload dX9_readNumber_95 rfl ?_
          refine z_iload_n dX9_readNumber_97 rfl ?_
          refine z_icmp_le (tgt := 107) dX9_readNumber_98 (by decide) (by omega) (by omega) (fun b98 => ?_) (fun b98 => ?_)
          · first | refine z_aload_n dX9_readNumber_107 rfl ?_ | refine z_aload_nT dX9_readNumber_107 rfl ?_
            refine h_getr dX9_readNumber_108 fl_X9_13 (by first | assumption | rfl) (by rfl) ?_
            refine z_iload_n dX9_readNumber_111 rfl ?_
            refine z_iload dX9_readNumber_112 rfl ?_
            refine h_iast dX9_readNumber_114 (by first | assumption | rfl) (by repeat' first | apply zc_add | apply zc_mul | with_reducible exact zc_var _ | exact zc_lit _) (by omega) (by decide) ?_
            first | refine z_aload_n dX9_readNumber_115 rfl ?_ | refine z_aload_nT dX9_readNumber_115 rfl ?_
            refine z_dup dX9_readNumber_116 rfl ?_
            refine h_geti dX9_readNumber_117 fl_X9_20 (by first | assumption | rfl) (by rfl) ?_
            refine z_iload dX9_readNumber_120 rfl ?_
            refine z_iadd dX9_readNumber_122 ?_
            refine h_puti dX9_readNumber_123 fp_X9_20 (by first | assumption | rfl) (by rfl) ?_
            refine z_iconst dX9_readNumber_126 ?_
            refine h_zret dX9_readNumber_127 rfl (by omega) rfl rfl ?_
            rw [zu_o (by omega), t2]
            exact Or.inr (Or.inr ⟨rfl, by omega, by omega, rfl⟩)
          · exact no2 (by omega) (by omega)
      · exact no1 (by omega)
  have loop : ∀ n j : Nat, a + j + n = N → j + rlF f n (a + j) = jF f N a → Z rc M_X9_readNumber 0 0 12 [some (zR 5), some (zI (k : Int)), some (zI lo), some (zI hi), some (zI (j : Int)), some (zI (vaF f a j)), some (zI ((a + j : Nat) : Int))] [] (hp σ) (qI (fun v σ' => (v = 0 ∧ ¬ (1 ≤ jF f N a ∧ jF f N a ≤ 2) ∧ σ' = zu σ 5 4 1) ∨ (v = 0 ∧ (1 ≤ jF f N a ∧ jF f N a ≤ 2) ∧ ¬ (lo ≤ vF f N a ∧ vF f N a ≤ hi) ∧ σ' = zu σ 5 4 2) ∨ (v = 1 ∧ (1 ≤ jF f N a ∧ jF f N a ≤ 2) ∧ (lo ≤ vF f N a ∧ vF f N a ≤ hi) ∧ σ' = zu (zu σ 7 k (vF f N a)) 5 3 ((a : Int) + (jF f N a : Nat))))) := by
    intro n
    induction n with
    | zero =>
      intro j hj hr
      have hr : j = jF f N a := hr
      refine z_iload dX9_readNumber_12 rfl ?_
      first | refine z_aload_n dX9_readNumber_14 rfl ?_ | refine z_aload_nT dX9_readNumber_14 rfl ?_
      refine h_geti dX9_readNumber_15 fl_X9_16 (by first | assumption | rfl) (by rfl) ?_
      refine z_icmp_ge (tgt := 72) dX9_readNumber_18 (by decide) (by omega) (by omega) (fun b18 => ?_) (fun b18 => ?_)
      · subst hr
        exact fin _
      · omega
    | succ n ih =>
      intro j hj hr
      have hz := hF.2 (a + j) (by omega)
      have ez := t3 (a + j) (by omega)
      rw [rlF_s] at hr
      refine z_iload dX9_readNumber_12 rfl ?_
      first | refine z_aload_n dX9_readNumber_14 rfl ?_ | refine z_aload_nT dX9_readNumber_14 rfl ?_
      refine h_geti dX9_readNumber_15 fl_X9_16 (by first | assumption | rfl) (by rfl) ?_
      refine z_icmp_ge (tgt := 72) dX9_readNumber_18 (by decide) (by omega) (by omega) (fun b18 => ?_) (fun b18 => ?_)
      · omega
      · first | refine z_aload_n dX9_readNumber_21 rfl ?_ | refine z_aload_nT dX9_readNumber_21 rfl ?_
        refine h_getr dX9_readNumber_22 fl_X9_9 (by first | assumption | rfl) (by rfl) ?_
        refine z_iload dX9_readNumber_25 rfl ?_
        first | refine h_iald dX9_readNumber_27 (by first | assumption | rfl) (by repeat' first | apply zc_add | apply zc_mul | with_reducible exact zc_var _ | exact zc_lit _) (by omega) (by decide) ?_ | refine z_ialdT _ dX9_readNumber_27 (by assumption) (by repeat' first | apply zc_add | apply zc_mul | with_reducible exact zc_var _ | exact zc_lit _) (by omega) (by omega) ?_
        rw [ez]
        refine h_Si1 (Y' := M_X9_isFigure) dX9_readNumber_28 zw_370 zw_371 ok_X9_isFigure (by decide) rfl (Nat.le_of_ble_eq_true rfl) ⟨rfl, rfl⟩ (by decide) (k_isFigure (by omega)) (fun vv σ2 hq => ?_)
        obtain ⟨hv, rfl⟩ := hq
        refine z_if_eq (tgt := 72) dX9_readNumber_31 (by decide) (by omega) (fun b31 => ?_) (fun b31 => ?_)
        · rw [if_neg (by omega)] at hr
          have hr : j = jF f N a := by omega
          subst hr
          exact fin _
        · rw [if_pos (by omega)] at hr
          have hih := ih (j + 1) (by omega) (by rw [show a + (j + 1) = a + j + 1 by omega]; omega)
          rw [vaF_s, nsucc, show ((a + (j + 1) : Nat) : Int) = ((a + j : Nat) : Int) + 1 by omega] at hih
          refine z_iinc dX9_readNumber_34 rfl (by decide) rfl ?_
          refine z_iload dX9_readNumber_37 rfl ?_
          refine z_iconst dX9_readNumber_39 ?_
          refine z_icmp_gt (tgt := 62) dX9_readNumber_40 (by decide) (by omega) (by omega) (fun b40 => ?_) (fun b40 => ?_)
          · rw [if_neg (by omega)] at hih
            refine z_iload dX9_readNumber_62 rfl ?_
            refine z_istore dX9_readNumber_64 (by decide) rfl ?_
            refine z_iinc dX9_readNumber_66 rfl (by decide) rfl ?_
            refine z_goto (tgt := 12) dX9_readNumber_69 (by decide) ?_
            exact hih
          · rw [if_pos (by omega)] at hih
            refine z_iload dX9_readNumber_43 rfl ?_
            refine z_bipush dX9_readNumber_45 rfl ?_
            refine z_imul dX9_readNumber_47 ?_
            first | refine z_aload_n dX9_readNumber_48 rfl ?_ | refine z_aload_nT dX9_readNumber_48 rfl ?_
            refine h_getr dX9_readNumber_49 fl_X9_9 (by first | assumption | rfl) (by rfl) ?_
            refine z_iload dX9_readNumber_52 rfl ?_
            first | refine h_iald dX9_readNumber_54 (by first | assumption | rfl) (by repeat' first | apply zc_add | apply zc_mul | with_reducible exact zc_var _ | exact zc_lit _) (by omega) (by decide) ?_ | refine z_ialdT _ dX9_readNumber_54 (by assumption) (by repeat' first | apply zc_add | apply zc_mul | with_reducible exact zc_var _ | exact zc_lit _) (by omega) (by omega) ?_
            refine z_iadd dX9_readNumber_55 ?_
            refine z_bipush dX9_readNumber_56 rfl ?_
            refine z_isub dX9_readNumber_58 ?_
            refine z_goto (tgt := 64) dX9_readNumber_59 (by decide) ?_
            rw [ez]
            refine z_istore dX9_readNumber_64 (by decide) rfl ?_
            refine z_iinc dX9_readNumber_66 rfl (by decide) rfl ?_
            refine z_goto (tgt := 12) dX9_readNumber_69 (by decide) ?_
            exact hih
  refine K_of 3 (by decide) (Nat.le_of_ble_eq_true rfl) (show Z _ _ 0 0 0 [some (zR 5), some (zI (k : Int)), some (zI lo), some (zI hi), none, none, none] [] _ _ from ?_)
  refine z_iconst dX9_readNumber_0 ?_
  refine z_istore dX9_readNumber_1 (by decide) rfl ?_
  refine z_iconst dX9_readNumber_3 ?_
  refine z_istore dX9_readNumber_4 (by decide) rfl ?_
  first | refine z_aload_n dX9_readNumber_6 rfl ?_ | refine z_aload_nT dX9_readNumber_6 rfl ?_
  refine h_geti dX9_readNumber_7 fl_X9_20 (by first | assumption | rfl) (by rfl) ?_
  refine z_istore dX9_readNumber_10 (by decide) rfl ?_
  rw [t2]
  exact loop (N - a) 0 (by omega) (by rw [Nat.add_zero, Nat.zero_add])
end
