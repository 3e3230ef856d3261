/-! drawn: the reference -/
section
variable {rc : ZRC} {σ α : Mem}
theorem r_drawn {n s w : Int} (hM : MI σ α) (hO : OK α) (hn : zin n) (hs : zin s) (hw : zin w) : KI rc M_X12_drawn [zR 40, zI n, zI s, zI w] σ (mP σ α (aDrawn α n s w) α) := by
  have h3 := OKc_3 hO
  have h8 := OKc_8 hO
  have hR := hM.2.2.2.1
  have bad : ∀ σ2 : Mem, σ2 = σ → ¬ α 5 8 = 0 → (¬ (0 ≤ n ∧ n ≤ 60) ∨ ¬ (1 ≤ s ∧ s ≤ 999999) ∨ ¬ (0 ≤ w ∧ w ≤ 1)) → Z rc M_X12_drawn 0 0 39 [some (zR 40), some (zI n), some (zI s), some (zI w), none, none, none, none] [] (hp σ2) (qI (mP σ α (aDrawn α n s w) α)) := by
    intro σ2 e hn hb
    subst e
    refine z_ldc (n := -1000001) dX12_drawn_39 zw_860 rfl ?_
    refine h_iret dX12_drawn_41 rfl rfl rfl ?_
    exact ⟨by unfold aDrawn; rw [if_neg hn, if_pos hb], hM, fr.rf⟩
  refine K_of 4 (by decide) (Nat.le_of_ble_eq_true rfl) (show Z _ _ 0 0 0 [some (zR 40), some (zI n), some (zI s), some (zI w), none, none, none, none] [] _ _ from ?_)
  first | refine z_aload_n dX12_drawn_0 rfl ?_ | refine z_aload_nT dX12_drawn_0 rfl ?_
  refine h_Vi0 (Y' := M_X12_isCoast) dX12_drawn_1 zw_941 zw_943 zs_36 rfl ok_X12_isCoast (by decide) rfl (Nat.le_of_ble_eq_true rfl) ⟨rfl, rfl⟩ (by decide) (by first | assumption | rfl) (m_isCoast (hR 8 (by omega)) h8) (fun vv σ2 hq => ?_)
  obtain ⟨rfl, rfl⟩ := hq
  refine z_if_ne (tgt := 10) dX12_drawn_4 (by decide) (by omega) (fun b4 => ?_) (fun b4 => ?_)
  · have hk := OKc_s hO (by omega)
    refine z_iload_n dX12_drawn_10 rfl ?_
    refine z_iconst dX12_drawn_11 ?_
    refine z_bipush dX12_drawn_12 rfl ?_
    refine h_Si3 (Y' := M_X12_in) dX12_drawn_14 zw_857 zw_858 ok_X12_in (by decide) rfl (Nat.le_of_ble_eq_true rfl) ⟨rfl, rfl⟩ (by decide) (m_within hn (by omega) (by omega)) (fun vv σ2 hq => ?_)
    obtain ⟨hv1, rfl⟩ := hq
    refine z_if_eq (tgt := 39) dX12_drawn_17 (by decide) (by omega) (fun b17 => ?_) (fun b17 => ?_)
    · exact bad _ rfl (by omega) (by omega)
    · refine z_iload_n dX12_drawn_20 rfl ?_
      refine z_iconst dX12_drawn_21 ?_
      refine z_ldc (n := 999999) dX12_drawn_22 zw_1071 rfl ?_
      refine h_Si3 (Y' := M_X12_in) dX12_drawn_24 zw_857 zw_858 ok_X12_in (by decide) rfl (Nat.le_of_ble_eq_true rfl) ⟨rfl, rfl⟩ (by decide) (m_within hs (by omega) (by omega)) (fun vv σ2 hq => ?_)
      obtain ⟨hv2, rfl⟩ := hq
      refine z_if_eq (tgt := 39) dX12_drawn_27 (by decide) (by omega) (fun b27 => ?_) (fun b27 => ?_)
      · exact bad _ rfl (by omega) (by omega)
      · refine z_iload_n dX12_drawn_30 rfl ?_
        refine z_iconst dX12_drawn_31 ?_
        refine z_iconst dX12_drawn_32 ?_
        refine h_Si3 (Y' := M_X12_in) dX12_drawn_33 zw_857 zw_858 ok_X12_in (by decide) rfl (Nat.le_of_ble_eq_true rfl) ⟨rfl, rfl⟩ (by decide) (m_within hw (by omega) (by omega)) (fun vv σ2 hq => ?_)
        obtain ⟨hv3, rfl⟩ := hq
        refine z_if_ne (tgt := 42) dX12_drawn_36 (by decide) (by omega) (fun b36 => ?_) (fun b36 => ?_)
        · obtain ⟨n, rfl⟩ : ∃ x : Nat, n = (x : Int) := ⟨n.toNat, by omega⟩
          have loop : ∀ m k : Nat, k + m = n → ∀ (σ' : Mem) (t : Nat → Int) (x : Int) (x7 : Option ZV), 0 ≤ x → x ≤ 2147483647 → cok (999 + k) t → t 3 = α 5 3 → mR σ' 47 t → fm 47 σ2 σ' → Z rc M_X12_drawn 0 0 53 [some (zR 40), some (zI (n : Int)), some (zI s), some (zI w), some (zJ x), none, some (zI (k : Int)), x7] [] (hp σ') (qI (fun v σ' => v = (if w = 0 then drL m x t 1 else spF (drL m x t) (α 5 3).toNat) ∧ fm 47 σ2 σ')) := by
            intro m
            induction m with
            | zero =>
              intro k hkm σ' t x x7 x0 x1 hk2 t3 i1 i2
              refine z_iload dX12_drawn_53 rfl ?_
              refine z_iload_n dX12_drawn_55 rfl ?_
              refine z_icmp_ge (tgt := 181) dX12_drawn_56 (by decide) (by omega) (by omega) (fun b56 => ?_) (fun b56 => ?_)
              · refine z_iload_n dX12_drawn_181 rfl ?_
                refine z_if_ne (tgt := 194) dX12_drawn_182 (by decide) (by omega) (fun b182 => ?_) (fun b182 => ?_)
                · rw [if_neg (by omega), ← t3]
                  first | refine z_aload_n dX12_drawn_194 rfl ?_ | refine z_aload_nT dX12_drawn_194 rfl ?_
                  first | refine z_aload_n dX12_drawn_195 rfl ?_ | refine z_aload_nT dX12_drawn_195 rfl ?_
                  refine h_getr dX12_drawn_196 fl_X12_28 (by first | assumption | rfl) (by rfl) ?_
                  refine h_Vi1 (Y' := M_X12_allSpans) dX12_drawn_199 zw_1076 zw_1078 zs_46 rfl ok_X12_allSpans (by decide) rfl (Nat.le_of_ble_eq_true rfl) ⟨rfl, rfl⟩ (by decide) (by first | assumption | rfl) (m_allSpans rfl i1 hk2.2.1) (fun vv σ2 hq => ?_)
                  obtain ⟨rfl, rfl⟩ := hq
                  refine h_iret dX12_drawn_202 rfl rfl rfl ?_
                  exact ⟨rfl, i2⟩
                · rw [if_pos (by omega)]
                  first | refine z_aload_n dX12_drawn_185 rfl ?_ | refine z_aload_nT dX12_drawn_185 rfl ?_
                  refine h_getr dX12_drawn_186 fl_X12_28 (by first | assumption | rfl) (by rfl) ?_
                  refine z_iconst dX12_drawn_189 ?_
                  first | refine h_iald dX12_drawn_190 (by first | assumption | rfl) (by repeat' first | apply zc_add | apply zc_mul | with_reducible exact zc_var _ | exact zc_lit _) (by omega) (by decide) ?_ | refine z_ialdT _ dX12_drawn_190 (by assumption) (by repeat' first | apply zc_add | apply zc_mul | with_reducible exact zc_var _ | exact zc_lit _) (by omega) (by omega) ?_
                  refine z_goto (tgt := 202) dX12_drawn_191 (by decide) ?_
                  refine h_iret dX12_drawn_202 rfl rfl rfl ?_
                  exact ⟨i1 1 (by omega), i2⟩
              · omega
            | succ m ih =>
              intro k hkm σ' t x x7 x0 x1 hk2 t3 i1 i2
              have hX : 0 ≤ drX x ∧ drX x ≤ 2147483647 := by unfold drX; omega
              rw [drL_s]
              obtain ⟨y, hy⟩ : ∃ y, y = drX x := ⟨_, rfl⟩
              have hy2 : x * 16807 % 2147483647 = y := hy.symm
              rw [← hy] at hX ⊢
              have hS := drS_ok (x := y) hk2
              have a2 := hk2.2.2.2.2.1
              have e2 : σ' 47 2 = t 2 := i1 2 (by omega)
              have e3 : σ' 45 3 = t 3 := by rw [i2 45 3 (by omega), hR 3 (by omega), t3]
              have nxt : ∀ (σ3 : Mem) (t1 : Nat → Int) (x7 : Option ZV), cok (999 + k) t1 → drS t y = goF t1 (y % 5) → mR σ3 47 t1 → fm 47 σ2 σ3 → Z rc M_X12_drawn 0 0 161 [some (zR 40), some (zI (n : Int)), some (zI s), some (zI w), some (zJ y), none, some (zI (k : Int)), x7] [] (hp σ3) (qI (fun v σ' => v = (if w = 0 then drL m y (drS t y) 1 else spF (drL m y (drS t y)) (α 5 3).toNat) ∧ fm 47 σ2 σ')) := by
                intro σ3 t1 x7 c1 c2 c3 c4
                first | refine z_aload_n dX12_drawn_161 rfl ?_ | refine z_aload_nT dX12_drawn_161 rfl ?_
                refine h_getr dX12_drawn_162 fl_X12_28 (by first | assumption | rfl) (by rfl) ?_
                refine z_lload dX12_drawn_165 rfl ?_
                refine z_ldc2 (n := 5) dX12_drawn_167 zw_1075 rfl ?_
                refine z_lrem dX12_drawn_170 (by omega) (by omega) (by omega) (by omega) ?_
                refine z_l2i dX12_drawn_171 ?_
                obtain ⟨σ1, rfl⟩ : ∃ z, z = σ2 := ⟨_, rfl⟩
                refine h_Sv2 (Y' := M_X12_goBy) dX12_drawn_172 zw_953 zw_954 ok_X12_goBy (by decide) rfl (Nat.le_of_ble_eq_true rfl) ⟨rfl, rfl⟩ (by decide) (m_goBy rfl c3 c1 (by omega) (by omega) (by omega)) (fun σ2 hq => ?_)
                obtain ⟨j1, j2⟩ := hq
                rw [← c2] at j1
                refine z_iinc dX12_drawn_175 rfl (by decide) rfl ?_
                refine z_goto (tgt := 53) dX12_drawn_178 (by decide) ?_
                have := ih (k + 1) (by omega) σ2 (drS t y) y x7 hX.1 hX.2 (by have := hS.1; rw [nsucc, ← Int.add_assoc]; exact this) (hS.2.trans t3) j1 (c4.tr j2)
                rw [nsucc] at this
                exact this
              have pick : ∀ (q : Int), ((t 3 = 0 ∧ q = -1) ∨ (¬ t 3 = 0 ∧ q = y % t 3)) → Z rc M_X12_drawn 0 0 95 [some (zR 40), some (zI (n : Int)), some (zI s), some (zI w), some (zJ y), none, some (zI (k : Int)), x7] [zI q] (hp σ') (qI (fun v σ' => v = (if w = 0 then drL m y (drS t y) 1 else spF (drL m y (drS t y)) (α 5 3).toNat) ∧ fm 47 σ2 σ')) := by
                intro q hq
                refine z_istore dX12_drawn_95 (by decide) rfl ?_
                refine z_lload dX12_drawn_97 rfl ?_
                refine z_ldc2 (n := 2) dX12_drawn_99 zw_1074 rfl ?_
                refine z_lrem dX12_drawn_102 (by omega) (by omega) (by omega) (by omega) ?_
                refine z_lconst dX12_drawn_103 ?_
                refine z_lcmp dX12_drawn_104 (by omega) (by omega) ?_
                by_cases hy0 : y % 2 = 0
                · rw [hy0]
                  refine z_if_ne (tgt := 161) dX12_drawn_105 (by decide) (by omega) (fun b105 => ?_) (fun b105 => ?_)
                  · exact absurd rfl b105
                  · have no : t 3 = 0 ∨ t 2 = 0 → drS t y = goF t (y % 5) := by
                      intro h
                      unfold drS drB
                      rw [if_pos hy0, if_pos h]
                    first | refine z_aload_n dX12_drawn_108 rfl ?_ | refine z_aload_nT dX12_drawn_108 rfl ?_
                    refine h_getr dX12_drawn_109 fl_X12_28 (by first | assumption | rfl) (by rfl) ?_
                    refine z_iconst dX12_drawn_112 ?_
                    first | refine h_iald dX12_drawn_113 (by first | assumption | rfl) (by repeat' first | apply zc_add | apply zc_mul | with_reducible exact zc_var _ | exact zc_lit _) (by omega) (by decide) ?_ | refine z_ialdT _ dX12_drawn_113 (by assumption) (by repeat' first | apply zc_add | apply zc_mul | with_reducible exact zc_var _ | exact zc_lit _) (by omega) (by omega) ?_
                    refine z_if_le (tgt := 161) dX12_drawn_114 (by decide) (by omega) (fun b114 => ?_) (fun b114 => ?_)
                    · exact nxt σ' t _ hk2 (no (by omega)) i1 i2
                    · have qr : ¬ t 3 = 0 → 0 ≤ y % t 3 ∧ y % t 3 < t 3 := fun h => ⟨Int.emod_nonneg y (by omega), Int.emod_lt_of_pos y (by have := hk2.2.1; omega)⟩
                      have hqz : zin q := by
                        rcases hq with ⟨h1, h2⟩ | ⟨h1, h2⟩
                        · omega
                        · have := qr h1
                          have := hk2.2.1
                          omega
                      refine z_iload dX12_drawn_117 rfl ?_
                      refine z_if_lt (tgt := 161) dX12_drawn_119 (by decide) (by omega) (fun b119 => ?_) (fun b119 => ?_)
                      · have ht0 : t 3 = 0 := by
                          rcases hq with ⟨h1, h2⟩ | ⟨h1, h2⟩
                          · exact h1
                          · have := qr h1
                            omega
                        exact nxt σ' t _ hk2 (no (Or.inl ht0)) i1 i2
                      · have ht0 : ¬ t 3 = 0 ∧ q = y % t 3 := by
                          rcases hq with ⟨h1, h2⟩ | ⟨h1, h2⟩
                          · omega
                          · exact ⟨h1, h2⟩
                        have hm := qr ht0.1
                        obtain ⟨p, rfl⟩ : ∃ p : Nat, q = (p : Int) := ⟨q.toNat, by omega⟩
                        have e24 : σ' 47 (24 + p) = t (24 + p) := i1 _ (by have := hk2.2.1; omega)
                        have q4 := (hk2.2.2.2.2.2.2.2.2.2 p (by omega)).2.2.2
                        have ed : drS t y = goF (if t (24 + p) < 99 then blF t p else t) (y % 5) := by
                          unfold drS drB
                          rw [if_pos hy0, if_neg (by omega), ← ht0.2]
                          rfl
                        first | refine z_aload_n dX12_drawn_122 rfl ?_ | refine z_aload_nT dX12_drawn_122 rfl ?_
                        refine h_getr dX12_drawn_123 fl_X12_28 (by first | assumption | rfl) (by rfl) ?_
                        refine z_bipush dX12_drawn_126 rfl ?_
                        refine z_iload dX12_drawn_128 rfl ?_
                        refine z_iadd dX12_drawn_130 ?_
                        first | refine h_iald dX12_drawn_131 (by first | assumption | rfl) (by repeat' first | apply zc_add | apply zc_mul | with_reducible exact zc_var _ | exact zc_lit _) (by omega) (by decide) ?_ | refine z_ialdT _ dX12_drawn_131 (by assumption) (by repeat' first | apply zc_add | apply zc_mul | with_reducible exact zc_var _ | exact zc_lit _) (by omega) (by omega) ?_
                        refine z_bipush dX12_drawn_132 rfl ?_
                        refine z_icmp_ge (tgt := 161) dX12_drawn_134 (by decide) (by omega) (by omega) (fun b134 => ?_) (fun b134 => ?_)
                        · exact nxt σ' t _ hk2 (by rw [ed, if_neg (by omega)]) i1 i2
                        · first | refine z_aload_n dX12_drawn_137 rfl ?_ | refine z_aload_nT dX12_drawn_137 rfl ?_
                          refine h_getr dX12_drawn_138 fl_X12_28 (by first | assumption | rfl) (by rfl) ?_
                          refine z_iconst dX12_drawn_141 ?_
                          refine z_dup2 dX12_drawn_142 rfl rfl ?_
                          first | refine h_iald dX12_drawn_143 (by first | assumption | rfl) (by repeat' first | apply zc_add | apply zc_mul | with_reducible exact zc_var _ | exact zc_lit _) (by omega) (by decide) ?_ | refine z_ialdT _ dX12_drawn_143 (by assumption) (by repeat' first | apply zc_add | apply zc_mul | with_reducible exact zc_var _ | exact zc_lit _) (by omega) (by omega) ?_
                          refine z_iconst dX12_drawn_144 ?_
                          refine z_isub dX12_drawn_145 ?_
                          refine h_iast dX12_drawn_146 (by first | assumption | rfl) (by repeat' first | apply zc_add | apply zc_mul | with_reducible exact zc_var _ | exact zc_lit _) (by omega) (by decide) ?_
                          first | refine z_aload_n dX12_drawn_147 rfl ?_ | refine z_aload_nT dX12_drawn_147 rfl ?_
                          refine h_getr dX12_drawn_148 fl_X12_28 (by first | assumption | rfl) (by rfl) ?_
                          refine z_bipush dX12_drawn_151 rfl ?_
                          refine z_iload dX12_drawn_153 rfl ?_
                          refine z_iadd dX12_drawn_155 ?_
                          refine z_dup2 dX12_drawn_156 rfl rfl ?_
                          first | refine h_iald dX12_drawn_157 (by first | assumption | rfl) (by repeat' first | apply zc_add | apply zc_mul | with_reducible exact zc_var _ | exact zc_lit _) (by omega) (by decide) ?_ | refine z_ialdT _ dX12_drawn_157 (by assumption) (by repeat' first | apply zc_add | apply zc_mul | with_reducible exact zc_var _ | exact zc_lit _) (by omega) (by omega) ?_
                          refine z_iconst dX12_drawn_158 ?_
                          refine z_iadd dX12_drawn_159 ?_
                          refine h_iast dX12_drawn_160 (by first | assumption | rfl) (by repeat' first | apply zc_add | apply zc_mul | with_reducible exact zc_var _ | exact zc_lit _) (by omega) (by decide) ?_
                          have := nxt (zu (zu σ' 47 2 (t 2 - 1)) 47 (24 + p) (t (24 + p) + 1)) (blF t p) (some (zI (p : Int))) (cok_bl hk2 (by omega) (by omega)) (by rw [ed, if_pos (by omega)]) (mR_bl i1 (by have := hk2.2.1; omega)) (fun o j h => by rw [zu_o h, zu_o h, i2 o j h])
                          rw [← e2, ← e24] at this
                          rw [zu_j (by omega)]
                          exact this
                · have hy1 : y % 2 = 1 := by omega
                  rw [hy1]
                  refine z_if_ne (tgt := 161) dX12_drawn_105 (by decide) (by omega) (fun b105 => ?_) (fun b105 => ?_)
                  · exact nxt σ' t _ hk2 (by unfold drS; rw [if_neg hy0]) i1 i2
                  · exact absurd b105 (by decide)
              refine z_iload dX12_drawn_53 rfl ?_
              refine z_iload_n dX12_drawn_55 rfl ?_
              refine z_icmp_ge (tgt := 181) dX12_drawn_56 (by decide) (by omega) (by omega) (fun b56 => ?_) (fun b56 => ?_)
              · omega
              · refine z_lload dX12_drawn_59 rfl ?_
                refine z_ldc2 (n := 16807) dX12_drawn_61 zw_1072 rfl ?_
                refine z_lmul dX12_drawn_64 ?_
                refine z_ldc2 (n := 2147483647) dX12_drawn_65 zw_1073 rfl ?_
                refine z_lrem dX12_drawn_68 (by omega) (by omega) (by omega) (by omega) ?_
                rw [hy2]
                refine z_lstore dX12_drawn_69 (by decide) rfl ?_
                first | refine z_aload_n dX12_drawn_71 rfl ?_ | refine z_aload_nT dX12_drawn_71 rfl ?_
                refine h_getr dX12_drawn_72 fl_X12_22 (by first | assumption | rfl) (by rfl) ?_
                refine z_iconst dX12_drawn_75 ?_
                first | refine h_iald dX12_drawn_76 (by first | assumption | rfl) (by repeat' first | apply zc_add | apply zc_mul | with_reducible exact zc_var _ | exact zc_lit _) (by omega) (by decide) ?_ | refine z_ialdT _ dX12_drawn_76 (by assumption) (by repeat' first | apply zc_add | apply zc_mul | with_reducible exact zc_var _ | exact zc_lit _) (by omega) (by omega) ?_
                refine z_if_ne (tgt := 84) dX12_drawn_77 (by decide) (by omega) (fun b77 => ?_) (fun b77 => ?_)
                · refine z_lload dX12_drawn_84 rfl ?_
                  first | refine z_aload_n dX12_drawn_86 rfl ?_ | refine z_aload_nT dX12_drawn_86 rfl ?_
                  refine h_getr dX12_drawn_87 fl_X12_22 (by first | assumption | rfl) (by rfl) ?_
                  refine z_iconst dX12_drawn_90 ?_
                  first | refine h_iald dX12_drawn_91 (by first | assumption | rfl) (by repeat' first | apply zc_add | apply zc_mul | with_reducible exact zc_var _ | exact zc_lit _) (by omega) (by decide) ?_ | refine z_ialdT _ dX12_drawn_91 (by assumption) (by repeat' first | apply zc_add | apply zc_mul | with_reducible exact zc_var _ | exact zc_lit _) (by omega) (by omega) ?_
                  refine z_i2l dX12_drawn_92 (by omega) ?_
                  refine z_lrem dX12_drawn_93 (by omega) (by omega) (by omega) (by omega) ?_
                  refine z_l2i dX12_drawn_94 ?_
                  rw [e3]
                  exact pick _ (Or.inr ⟨by omega, rfl⟩)
                · refine z_iconst dX12_drawn_80 ?_
                  refine z_goto (tgt := 95) dX12_drawn_81 (by decide) ?_
                  exact pick _ (Or.inl ⟨by omega, rfl⟩)
          first | refine z_aload_n dX12_drawn_42 rfl ?_ | refine z_aload_nT dX12_drawn_42 rfl ?_
          obtain ⟨σ1, rfl⟩ : ∃ z, z = σ2 := ⟨_, rfl⟩
          refine h_Vv0 (Y' := M_X12_begin) dX12_drawn_43 zw_999 zw_1001 zs_39 rfl ok_X12_begin (by decide) rfl (Nat.le_of_ble_eq_true rfl) ⟨rfl, rfl⟩ (by decide) (by first | assumption | rfl) (m_begin hR) (fun σ2 hq => ?_)
          obtain ⟨j1, j2⟩ := hq
          refine z_iload_n dX12_drawn_46 rfl ?_
          refine z_i2l dX12_drawn_47 (by omega) ?_
          refine z_lstore dX12_drawn_48 (by decide) rfl ?_
          refine z_iconst dX12_drawn_50 ?_
          refine z_istore dX12_drawn_51 (by decide) rfl ?_
          refine Z_mono (loop n 0 (by omega) σ2 (α 5) s none (by omega) (by omega) hk rfl j1 j2) (fun v σ' hq => ?_)
          refine ⟨?_, MI47 hM hq.2⟩
          unfold aDrawn
          rw [if_neg (by omega), if_neg (by omega)]
          exact hq.1
        · exact bad _ rfl (by omega) (by omega)
  · refine z_ldc (n := -1000002) dX12_drawn_7 zw_945 rfl ?_
    refine h_iret dX12_drawn_9 rfl rfl rfl ?_
    exact ⟨by unfold aDrawn; rw [if_pos (by omega)], hM, fr.rf⟩
end
