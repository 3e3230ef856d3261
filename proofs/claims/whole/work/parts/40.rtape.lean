/-! the tape of the reference -/
def TM (σ : Mem) (f : Nat → Int) (N a : Nat) : Prop := σ 40 4 = (N : Int) ∧ σ 40 6 = (a : Int) ∧ ∀ i, i < N → σ 44 i = f i
def FM (σ σ' : Mem) : Prop := ∀ o j, ¬ (o = 40 ∧ 6 ≤ j ∧ j ≤ 10) → σ' o j = σ o j
theorem FM.rf {σ : Mem} : FM σ σ := fun _ _ _ => rfl
theorem FM.tr {σ σ1 σ2 : Mem} (h1 : FM σ σ1) (h2 : FM σ1 σ2) : FM σ σ2 := fun o j a => (h2 o j a).trans (h1 o j a)
theorem FM_zu {σ : Mem} {j : Nat} {x : Int} (h : 6 ≤ j ∧ j ≤ 10) : FM σ (zu σ 40 j x) := fun o i hn => by
  by_cases ho : o = 40
  · subst ho
    rw [zu_j (by omega)]
  · rw [zu_o ho]
abbrev figP (c : Int) : Prop := 48 ≤ c ∧ c ≤ 57
abbrev letP (c : Int) : Prop := (97 ≤ c ∧ c ≤ 122) ∨ c = 44 ∨ c = 59
def TK (σ' : Mem) (f : Nat → Int) (N a : Nat) : Prop := σ' 40 7 = (a : Int) ∧ ((a = N ∧ σ' 40 8 = -2) ∨ (a < N ∧ figP (f a) ∧ σ' 40 8 = (if 2 < jF f N a then -3 else -1) ∧ σ' 40 9 = vF f N a ∧ σ' 40 6 = ((a + jF f N a : Nat) : Int)) ∨ (a < N ∧ ¬ figP (f a) ∧ σ' 40 8 = (if letP (f a) then f a else -3) ∧ σ' 40 6 = ((a + 1 : Nat) : Int)))
theorem jF_0 {f : Nat → Int} {N a : Nat} (h : a < N) : (figP (f a) → 1 ≤ jF f N a) ∧ (¬ figP (f a) → jF f N a = 0) := by
  have e : jF f N a = if 48 ≤ f a ∧ f a ≤ 57 then rlF f (N - a - 1) (a + 1) + 1 else 0 := by
    show rlF f (N - a) a = _
    rw [show N - a = N - a - 1 + 1 by omega, rlF_s]
    rfl
  exact ⟨fun h1 => by rw [e, if_pos h1]; omega, fun h1 => by rw [e, if_neg h1]⟩
theorem jF_N {f : Nat → Int} {N a : Nat} (h : a = N) : jF f N a = 0 := by
  subst h
  show rlF f (a - a) a = 0
  rw [Nat.sub_self]
  rfl
section
variable {rc : ZRC} {σ α : Mem} {f : Nat → Int} {N a : Nat}
theorem m_nextToken (hT : TM σ f N a) (hF : TF f N) (ha : a ≤ N) : KV rc M_X12_nextToken [zR 40] σ (fun σ' => TK σ' f N a ∧ FM σ σ') := by
  obtain ⟨t1, t2, t3⟩ := hT
  have hN := hF.1
  refine K_of 1 (by decide) (Nat.le_of_ble_eq_true rfl) (show Z _ _ 0 0 0 [some (zR 40), none] [] _ _ from ?_)
  first | refine z_aload_n dX12_nextToken_0 rfl ?_ | refine z_aload_nT dX12_nextToken_0 rfl ?_
  first | refine z_aload_n dX12_nextToken_1 rfl ?_ | refine z_aload_nT dX12_nextToken_1 rfl ?_
  refine h_geti dX12_nextToken_2 fl_X12_81 (by first | assumption | rfl) (by rfl) ?_
  refine h_puti dX12_nextToken_5 fp_X12_84 (by first | assumption | rfl) (by rfl) ?_
  first | refine z_aload_n dX12_nextToken_8 rfl ?_ | refine z_aload_nT dX12_nextToken_8 rfl ?_
  refine z_iconst dX12_nextToken_9 ?_
  refine h_puti dX12_nextToken_10 fp_X12_87 (by first | assumption | rfl) (by rfl) ?_
  obtain ⟨σ3, e3⟩ : ∃ z, z = zu (zu σ 40 7 (σ 40 6)) 40 9 0 := ⟨_, rfl⟩
  rw [← e3]
  have f3 : FM σ σ3 := by
    rw [e3]
    exact (FM_zu (by omega)).tr (FM_zu (by omega))
  have s4 : σ3 40 4 = (N : Int) := (f3 40 4 (by omega)).trans t1
  have s6 : σ3 40 6 = (a : Int) := by rw [e3, zu_j (by omega), zu_j (by omega)]; exact t2
  have s7 : σ3 40 7 = (a : Int) := by rw [e3, zu_j (by omega), zu_eq]; exact t2
  have s9 : σ3 40 9 = 0 := by rw [e3, zu_eq]
  have s44 : ∀ i, i < N → σ3 44 i = f i := fun i hi => (f3 44 i (by omega)).trans (t3 i hi)
  clear e3
  first | refine z_aload_n dX12_nextToken_13 rfl ?_ | refine z_aload_nT dX12_nextToken_13 rfl ?_
  refine h_geti dX12_nextToken_14 fl_X12_81 (by first | assumption | rfl) (by rfl) ?_
  first | refine z_aload_n dX12_nextToken_17 rfl ?_ | refine z_aload_nT dX12_nextToken_17 rfl ?_
  refine h_geti dX12_nextToken_18 fl_X12_77 (by first | assumption | rfl) (by rfl) ?_
  refine z_icmp_ne (tgt := 31) dX12_nextToken_21 (by decide) (by omega) (by omega) (fun b21 => ?_) (fun b21 => ?_)
  · have hfa := hF.2 a (by omega)
    first | refine z_aload_n dX12_nextToken_31 rfl ?_ | refine z_aload_nT dX12_nextToken_31 rfl ?_
    refine h_getr dX12_nextToken_32 fl_X12_19 (by first | assumption | rfl) (by rfl) ?_
    first | refine z_aload_n dX12_nextToken_35 rfl ?_ | refine z_aload_nT dX12_nextToken_35 rfl ?_
    refine h_geti dX12_nextToken_36 fl_X12_81 (by first | assumption | rfl) (by rfl) ?_
    rw [s6]
    first | refine h_iald dX12_nextToken_39 (by first | assumption | rfl) (by repeat' first | apply zc_add | apply zc_mul | with_reducible exact zc_var _ | exact zc_lit _) (by omega) (by decide) ?_ | refine z_ialdT _ dX12_nextToken_39 (by assumption) (by repeat' first | apply zc_add | apply zc_mul | with_reducible exact zc_var _ | exact zc_lit _) (by omega) (by omega) ?_
    refine z_istore_n dX12_nextToken_40 (by decide) rfl ?_
    refine z_iload_n dX12_nextToken_41 rfl ?_
    refine z_bipush dX12_nextToken_42 rfl ?_
    refine z_bipush dX12_nextToken_44 rfl ?_
    rw [s44 a (by omega)]
    refine h_Si3 (Y' := M_X12_in) dX12_nextToken_46 zw_857 zw_858 ok_X12_in (by decide) rfl (Nat.le_of_ble_eq_true rfl) ⟨rfl, rfl⟩ (by decide) (m_within (by omega) (by omega) (by omega)) (fun vv σ2 hq => ?_)
    obtain ⟨hv, rfl⟩ := hq
    refine z_if_eq (tgt := 163) dX12_nextToken_49 (by decide) (by omega) (fun b49 => ?_) (fun b49 => ?_)
    · have nf : ¬ figP (f a) := by omega
      have put : ∀ x : Int, x = (if letP (f a) then f a else -3) → Z rc M_X12_nextToken 0 0 193 [some (zR 40), some (zI (f a))] [zI x, zR 40] (hp σ2) (qV (fun σ' => TK σ' f N a ∧ FM σ σ')) := by
        intro x hx
        refine h_puti dX12_nextToken_193 fp_X12_90 (by first | assumption | rfl) (by rfl) ?_
        first | refine z_aload_n dX12_nextToken_196 rfl ?_ | refine z_aload_nT dX12_nextToken_196 rfl ?_
        refine z_dup dX12_nextToken_197 rfl ?_
        refine h_geti dX12_nextToken_198 fl_X12_81 (by first | assumption | rfl) (by rfl) ?_
        refine z_iconst dX12_nextToken_201 ?_
        refine z_iadd dX12_nextToken_202 ?_
        refine h_puti dX12_nextToken_203 fp_X12_81 (by first | assumption | rfl) (by rfl) ?_
        refine h_vret dX12_nextToken_206 rfl rfl rfl ?_
        rw [zu_j (by omega), s6]
        refine ⟨⟨by rw [zu_j (by omega), zu_j (by omega)]; exact s7, Or.inr (Or.inr ⟨by omega, nf, by rw [zu_j (by omega), zu_eq]; exact hx, by rw [zu_eq]; omega⟩)⟩, f3.tr ((FM_zu (by omega)).tr (FM_zu (by omega)))⟩
      first | refine z_aload_n dX12_nextToken_163 rfl ?_ | refine z_aload_nT dX12_nextToken_163 rfl ?_
      refine z_iload_n dX12_nextToken_164 rfl ?_
      refine z_bipush dX12_nextToken_165 rfl ?_
      refine z_bipush dX12_nextToken_167 rfl ?_
      refine h_Si3 (Y' := M_X12_in) dX12_nextToken_169 zw_857 zw_858 ok_X12_in (by decide) rfl (Nat.le_of_ble_eq_true rfl) ⟨rfl, rfl⟩ (by decide) (m_within (by omega) (by omega) (by omega)) (fun vv σ2 hq => ?_)
      obtain ⟨hv2, rfl⟩ := hq
      refine z_if_ne (tgt := 187) dX12_nextToken_172 (by decide) (by omega) (fun b172 => ?_) (fun b172 => ?_)
      · refine z_iload_n dX12_nextToken_187 rfl ?_
        refine z_goto (tgt := 193) dX12_nextToken_188 (by decide) ?_
        exact put _ (by rw [if_pos (by omega)])
      · refine z_iload_n dX12_nextToken_175 rfl ?_
        refine z_bipush dX12_nextToken_176 rfl ?_
        refine z_icmp_eq (tgt := 187) dX12_nextToken_178 (by decide) (by omega) (by omega) (fun b178 => ?_) (fun b178 => ?_)
        · refine z_iload_n dX12_nextToken_187 rfl ?_
          refine z_goto (tgt := 193) dX12_nextToken_188 (by decide) ?_
          exact put _ (by rw [if_pos (by omega)])
        · refine z_iload_n dX12_nextToken_181 rfl ?_
          refine z_bipush dX12_nextToken_182 rfl ?_
          refine z_icmp_ne (tgt := 191) dX12_nextToken_184 (by decide) (by omega) (by omega) (fun b184 => ?_) (fun b184 => ?_)
          · refine z_bipush dX12_nextToken_191 rfl ?_
            exact put _ (by rw [if_neg (by omega)])
          · refine z_iload_n dX12_nextToken_187 rfl ?_
            refine z_goto (tgt := 193) dX12_nextToken_188 (by decide) ?_
            exact put _ (by rw [if_pos (by omega)])
    · have fig : figP (f a) := by omega
      have fin : ∀ σ' : Mem, σ' 40 7 = (a : Int) → σ' 40 6 = ((a + jF f N a : Nat) : Int) → σ' 40 9 = vF f N a → FM σ σ' → Z rc M_X12_nextToken 0 0 139 [some (zR 40), some (zI (f a))] [] (hp σ') (qV (fun σ' => TK σ' f N a ∧ FM σ σ')) := by
        intro σ' u7 u6 u9 uf
        have hj : jF f N a ≤ N - a := rlF_le (f := f) (N - a) a
        have put : ∀ x : Int, x = (if 2 < jF f N a then -3 else -1) → Z rc M_X12_nextToken 0 0 159 [some (zR 40), some (zI (f a))] [zI x, zR 40] (hp σ') (qV (fun σ' => TK σ' f N a ∧ FM σ σ')) := by
          intro x hx
          refine h_puti dX12_nextToken_159 fp_X12_90 (by first | assumption | rfl) (by rfl) ?_
          refine h_vret dX12_nextToken_162 rfl rfl rfl ?_
          exact ⟨⟨by rw [zu_j (by omega)]; exact u7, Or.inr (Or.inl ⟨by omega, fig, by rw [zu_eq]; exact hx, by rw [zu_j (by omega)]; exact u9, by rw [zu_j (by omega)]; exact u6⟩)⟩, uf.tr (FM_zu (by omega))⟩
        first | refine z_aload_n dX12_nextToken_139 rfl ?_ | refine z_aload_nT dX12_nextToken_139 rfl ?_
        first | refine z_aload_n dX12_nextToken_140 rfl ?_ | refine z_aload_nT dX12_nextToken_140 rfl ?_
        refine h_geti dX12_nextToken_141 fl_X12_81 (by first | assumption | rfl) (by rfl) ?_
        first | refine z_aload_n dX12_nextToken_144 rfl ?_ | refine z_aload_nT dX12_nextToken_144 rfl ?_
        refine h_geti dX12_nextToken_145 fl_X12_84 (by first | assumption | rfl) (by rfl) ?_
        refine z_isub dX12_nextToken_148 ?_
        refine z_iconst dX12_nextToken_149 ?_
        refine z_icmp_le (tgt := 158) dX12_nextToken_150 (by decide) (by omega) (by omega) (fun b150 => ?_) (fun b150 => ?_)
        · refine z_iconst dX12_nextToken_158 ?_
          exact put _ (by rw [if_neg (by omega)])
        · refine z_bipush dX12_nextToken_153 rfl ?_
          refine z_goto (tgt := 159) dX12_nextToken_155 (by decide) ?_
          exact put _ (by rw [if_pos (by omega)])
      have loop : ∀ n j : Nat, a + j + n = N → j + rlF f n (a + j) = jF f N a → ∀ σ' : Mem, σ' 40 7 = (a : Int) → σ' 40 6 = ((a + j : Nat) : Int) → σ' 40 9 = vaF f a j → FM σ σ' → Z rc M_X12_nextToken 0 0 52 [some (zR 40), some (zI (f a))] [] (hp σ') (qV (fun σ' => TK σ' f N a ∧ FM σ σ')) := by
        intro n
        induction n with
        | zero =>
          intro j hj hr σ' u7 u6 u9 uf
          have hr : j = jF f N a := hr
          have u4 : σ' 40 4 = (N : Int) := (uf 40 4 (by omega)).trans t1
          first | refine z_aload_n dX12_nextToken_52 rfl ?_ | refine z_aload_nT dX12_nextToken_52 rfl ?_
          refine h_geti dX12_nextToken_53 fl_X12_81 (by first | assumption | rfl) (by rfl) ?_
          first | refine z_aload_n dX12_nextToken_56 rfl ?_ | refine z_aload_nT dX12_nextToken_56 rfl ?_
          refine h_geti dX12_nextToken_57 fl_X12_77 (by first | assumption | rfl) (by rfl) ?_
          refine z_icmp_ge (tgt := 139) dX12_nextToken_60 (by decide) (by omega) (by omega) (fun b60 => ?_) (fun b60 => ?_)
          · exact fin σ' u7 (by rw [← hr]; exact u6) (by show _ = vaF f a (jF f N a); rw [← hr]; exact u9) uf
          · omega
        | succ n ih =>
          intro j hj hr σ' u7 u6 u9 uf
          have u4 : σ' 40 4 = (N : Int) := (uf 40 4 (by omega)).trans t1
          have hz := hF.2 (a + j) (by omega)
          have ez : σ' 44 (a + j) = f (a + j) := (uf 44 _ (by omega)).trans (t3 _ (by omega))
          rw [rlF_s] at hr
          first | refine z_aload_n dX12_nextToken_52 rfl ?_ | refine z_aload_nT dX12_nextToken_52 rfl ?_
          refine h_geti dX12_nextToken_53 fl_X12_81 (by first | assumption | rfl) (by rfl) ?_
          first | refine z_aload_n dX12_nextToken_56 rfl ?_ | refine z_aload_nT dX12_nextToken_56 rfl ?_
          refine h_geti dX12_nextToken_57 fl_X12_77 (by first | assumption | rfl) (by rfl) ?_
          refine z_icmp_ge (tgt := 139) dX12_nextToken_60 (by decide) (by omega) (by omega) (fun b60 => ?_) (fun b60 => ?_)
          · omega
          · first | refine z_aload_n dX12_nextToken_63 rfl ?_ | refine z_aload_nT dX12_nextToken_63 rfl ?_
            refine h_getr dX12_nextToken_64 fl_X12_19 (by first | assumption | rfl) (by rfl) ?_
            first | refine z_aload_n dX12_nextToken_67 rfl ?_ | refine z_aload_nT dX12_nextToken_67 rfl ?_
            refine h_geti dX12_nextToken_68 fl_X12_81 (by first | assumption | rfl) (by rfl) ?_
            rw [u6]
            first | refine h_iald dX12_nextToken_71 (by first | assumption | rfl) (by repeat' first | apply zc_add | apply zc_mul | with_reducible exact zc_var _ | exact zc_lit _) (by omega) (by decide) ?_ | refine z_ialdT _ dX12_nextToken_71 (by assumption) (by repeat' first | apply zc_add | apply zc_mul | with_reducible exact zc_var _ | exact zc_lit _) (by omega) (by omega) ?_
            refine z_bipush dX12_nextToken_72 rfl ?_
            refine z_bipush dX12_nextToken_74 rfl ?_
            rw [ez]
            refine h_Si3 (Y' := M_X12_in) dX12_nextToken_76 zw_857 zw_858 ok_X12_in (by decide) rfl (Nat.le_of_ble_eq_true rfl) ⟨rfl, rfl⟩ (by decide) (m_within (by omega) (by omega) (by omega)) (fun vv σ2 hq => ?_)
            obtain ⟨hv2, rfl⟩ := hq
            refine z_if_eq (tgt := 139) dX12_nextToken_79 (by decide) (by omega) (fun b79 => ?_) (fun b79 => ?_)
            · rw [if_neg (by omega)] at hr
              have hr : j = jF f N a := by omega
              exact fin σ2 u7 (by rw [← hr]; exact u6) (by show _ = vaF f a (jF f N a); rw [← hr]; exact u9) uf
            · rw [if_pos (by omega)] at hr
              have nx : ∀ x : Int, x = vaF f a (j + 1) → Z rc M_X12_nextToken 0 0 123 [some (zR 40), some (zI (f a))] [zI x, zR 40] (hp σ2) (qV (fun σ' => TK σ' f N a ∧ FM σ σ')) := by
                intro x hx
                refine h_puti dX12_nextToken_123 fp_X12_87 (by first | assumption | rfl) (by rfl) ?_
                first | refine z_aload_n dX12_nextToken_126 rfl ?_ | refine z_aload_nT dX12_nextToken_126 rfl ?_
                refine z_dup dX12_nextToken_127 rfl ?_
                refine h_geti dX12_nextToken_128 fl_X12_81 (by first | assumption | rfl) (by rfl) ?_
                refine z_iconst dX12_nextToken_131 ?_
                refine z_iadd dX12_nextToken_132 ?_
                refine h_puti dX12_nextToken_133 fp_X12_81 (by first | assumption | rfl) (by rfl) ?_
                refine z_goto (tgt := 52) dX12_nextToken_136 (by decide) ?_
                rw [zu_j (by omega), u6]
                exact ih (j + 1) (by omega) (by rw [show a + (j + 1) = a + j + 1 by omega]; omega) _ (by rw [zu_j (by omega), zu_j (by omega)]; exact u7) (by rw [zu_eq]; omega) (by rw [zu_j (by omega), zu_eq]; exact hx) (uf.tr ((FM_zu (by omega)).tr (FM_zu (by omega))))
              first | refine z_aload_n dX12_nextToken_82 rfl ?_ | refine z_aload_nT dX12_nextToken_82 rfl ?_
              first | refine z_aload_n dX12_nextToken_83 rfl ?_ | refine z_aload_nT dX12_nextToken_83 rfl ?_
              refine h_geti dX12_nextToken_84 fl_X12_81 (by first | assumption | rfl) (by rfl) ?_
              first | refine z_aload_n dX12_nextToken_87 rfl ?_ | refine z_aload_nT dX12_nextToken_87 rfl ?_
              refine h_geti dX12_nextToken_88 fl_X12_84 (by first | assumption | rfl) (by rfl) ?_
              refine z_isub dX12_nextToken_91 ?_
              refine z_iconst dX12_nextToken_92 ?_
              refine z_icmp_ge (tgt := 119) dX12_nextToken_93 (by decide) (by omega) (by omega) (fun b93 => ?_) (fun b93 => ?_)
              · first | refine z_aload_n dX12_nextToken_119 rfl ?_ | refine z_aload_nT dX12_nextToken_119 rfl ?_
                refine h_geti dX12_nextToken_120 fl_X12_87 (by first | assumption | rfl) (by rfl) ?_
                exact nx _ (by rw [vaF_s, if_neg (by omega)]; exact u9)
              · refine z_bipush dX12_nextToken_96 rfl ?_
                first | refine z_aload_n dX12_nextToken_98 rfl ?_ | refine z_aload_nT dX12_nextToken_98 rfl ?_
                refine h_geti dX12_nextToken_99 fl_X12_87 (by first | assumption | rfl) (by rfl) ?_
                refine z_imul dX12_nextToken_102 ?_
                first | refine z_aload_n dX12_nextToken_103 rfl ?_ | refine z_aload_nT dX12_nextToken_103 rfl ?_
                refine h_getr dX12_nextToken_104 fl_X12_19 (by first | assumption | rfl) (by rfl) ?_
                first | refine z_aload_n dX12_nextToken_107 rfl ?_ | refine z_aload_nT dX12_nextToken_107 rfl ?_
                refine h_geti dX12_nextToken_108 fl_X12_81 (by first | assumption | rfl) (by rfl) ?_
                rw [u6]
                first | refine h_iald dX12_nextToken_111 (by first | assumption | rfl) (by repeat' first | apply zc_add | apply zc_mul | with_reducible exact zc_var _ | exact zc_lit _) (by omega) (by decide) ?_ | refine z_ialdT _ dX12_nextToken_111 (by assumption) (by repeat' first | apply zc_add | apply zc_mul | with_reducible exact zc_var _ | exact zc_lit _) (by omega) (by omega) ?_
                refine z_iadd dX12_nextToken_112 ?_
                refine z_bipush dX12_nextToken_113 rfl ?_
                refine z_isub dX12_nextToken_115 ?_
                refine z_goto (tgt := 123) dX12_nextToken_116 (by decide) ?_
                rw [ez]
                exact nx _ (by rw [vaF_s, if_pos (by omega), u9]; omega)
      exact loop (N - a) 0 (by omega) (by rw [Nat.add_zero, Nat.zero_add]) σ2 s7 s6 s9 f3
  · first | refine z_aload_n dX12_nextToken_24 rfl ?_ | refine z_aload_nT dX12_nextToken_24 rfl ?_
    refine z_bipush dX12_nextToken_25 rfl ?_
    refine h_puti dX12_nextToken_27 fp_X12_90 (by first | assumption | rfl) (by rfl) ?_
    refine h_vret dX12_nextToken_30 rfl rfl rfl ?_
    exact ⟨⟨by rw [zu_j (by omega)]; exact s7, Or.inl ⟨by omega, zu_eq⟩⟩, f3.tr (FM_zu (by omega))⟩
theorem m_fails {n : Int} : KI rc M_X12_fails [zR 40, zI n] σ (fun v σ' => v = 0 ∧ σ' = zu σ 40 10 n) := by
  refine K_of 0 (by decide) (Nat.le_of_ble_eq_true rfl) (show Z _ _ 0 0 0 [some (zR 40), some (zI n)] [] _ _ from ?_)
  first | refine z_aload_n dX12_fails_0 rfl ?_ | refine z_aload_nT dX12_fails_0 rfl ?_
  refine z_iload_n dX12_fails_1 rfl ?_
  refine h_puti dX12_fails_2 fp_X12_93 (by first | assumption | rfl) (by rfl) ?_
  refine z_iconst dX12_fails_5 ?_
  refine h_zret dX12_fails_6 rfl (by omega) rfl rfl ?_
  exact ⟨rfl, rfl⟩
theorem m_isSign {s : Int} (hs : letP s) (hT : TM σ f N a) (hF : TF f N) (ha : a ≤ N) : KI rc M_X12_isSign [zR 40, zI s] σ (fun v σ' => ((v = 1 ∧ (a < N ∧ f a = s) ∧ σ' 40 6 = ((a + 1 : Nat) : Int)) ∨ (v = 0 ∧ ¬ (a < N ∧ f a = s) ∧ σ' 40 7 = (a : Int) ∧ σ' 40 10 = 1)) ∧ FM σ σ') := by
  refine K_of 0 (by decide) (Nat.le_of_ble_eq_true rfl) (show Z _ _ 0 0 0 [some (zR 40), some (zI s)] [] _ _ from ?_)
  first | refine z_aload_n dX12_isSign_0 rfl ?_ | refine z_aload_nT dX12_isSign_0 rfl ?_
  refine h_Vv0 (Y' := M_X12_nextToken) dX12_isSign_1 zw_906 zw_908 zs_31 rfl ok_X12_nextToken (by decide) rfl (Nat.le_of_ble_eq_true rfl) ⟨rfl, rfl⟩ (by decide) (by first | assumption | rfl) (m_nextToken hT hF ha) (fun σ2 hq => ?_)
  obtain ⟨⟨q7, q⟩, qf⟩ := hq
  have no : ¬ (a < N ∧ f a = s) → Z rc M_X12_isSign 0 0 12 [some (zR 40), some (zI s)] [] (hp σ2) (qI (fun v σ' => ((v = 1 ∧ (a < N ∧ f a = s) ∧ σ' 40 6 = ((a + 1 : Nat) : Int)) ∨ (v = 0 ∧ ¬ (a < N ∧ f a = s) ∧ σ' 40 7 = (a : Int) ∧ σ' 40 10 = 1)) ∧ FM σ σ')) := by
    intro h
    first | refine z_aload_n dX12_isSign_12 rfl ?_ | refine z_aload_nT dX12_isSign_12 rfl ?_
    refine z_iconst dX12_isSign_13 ?_
    obtain ⟨σ1, rfl⟩ : ∃ z, z = σ2 := ⟨_, rfl⟩
    refine h_Vi1 (Y' := M_X12_fails) dX12_isSign_14 zw_910 zw_912 zs_32 rfl ok_X12_fails (by decide) rfl (Nat.le_of_ble_eq_true rfl) ⟨rfl, rfl⟩ (by decide) (by first | assumption | rfl) (m_fails) (fun vv σ2 hq => ?_)
    obtain ⟨rfl, rfl⟩ := hq
    refine z_if_eq (tgt := 24) dX12_isSign_17 (by decide) (by omega) (fun b17 => ?_) (fun b17 => ?_)
    · refine z_iconst dX12_isSign_24 ?_
      refine h_zret dX12_isSign_25 rfl (by omega) rfl rfl ?_
      exact ⟨Or.inr ⟨rfl, h, by rw [zu_j (by omega)]; exact q7, zu_eq⟩, qf.tr (FM_zu (by omega))⟩
    · omega
  rcases q with ⟨h1, h2⟩ | ⟨h1, h2, h3, h4, h5⟩ | ⟨h1, h2, h3, h4⟩
  · first | refine z_aload_n dX12_isSign_4 rfl ?_ | refine z_aload_nT dX12_isSign_4 rfl ?_
    refine h_geti dX12_isSign_5 fl_X12_90 (by first | assumption | rfl) (by rfl) ?_
    refine z_iload_n dX12_isSign_8 rfl ?_
    refine z_icmp_eq (tgt := 20) dX12_isSign_9 (by decide) (by omega) (by omega) (fun b9 => ?_) (fun b9 => ?_)
    · omega
    · exact no (by omega)
  · have h3' : σ2 40 8 = -3 ∨ σ2 40 8 = -1 := by
      rw [h3]
      split
      · exact Or.inl rfl
      · exact Or.inr rfl
    first | refine z_aload_n dX12_isSign_4 rfl ?_ | refine z_aload_nT dX12_isSign_4 rfl ?_
    refine h_geti dX12_isSign_5 fl_X12_90 (by first | assumption | rfl) (by rfl) ?_
    refine z_iload_n dX12_isSign_8 rfl ?_
    refine z_icmp_eq (tgt := 20) dX12_isSign_9 (by decide) (by omega) (by omega) (fun b9 => ?_) (fun b9 => ?_)
    · omega
    · exact no (by omega)
  · have hfa := hF.2 a h1
    by_cases hl : letP (f a)
    · rw [if_pos hl] at h3
      first | refine z_aload_n dX12_isSign_4 rfl ?_ | refine z_aload_nT dX12_isSign_4 rfl ?_
      refine h_geti dX12_isSign_5 fl_X12_90 (by first | assumption | rfl) (by rfl) ?_
      refine z_iload_n dX12_isSign_8 rfl ?_
      refine z_icmp_eq (tgt := 20) dX12_isSign_9 (by decide) (by omega) (by omega) (fun b9 => ?_) (fun b9 => ?_)
      · refine z_iconst dX12_isSign_20 ?_
        refine z_goto (tgt := 25) dX12_isSign_21 (by decide) ?_
        refine h_zret dX12_isSign_25 rfl (by omega) rfl rfl ?_
        exact ⟨Or.inl ⟨rfl, ⟨h1, by omega⟩, h4⟩, qf⟩
      · exact no (by omega)
    · rw [if_neg hl] at h3
      first | refine z_aload_n dX12_isSign_4 rfl ?_ | refine z_aload_nT dX12_isSign_4 rfl ?_
      refine h_geti dX12_isSign_5 fl_X12_90 (by first | assumption | rfl) (by rfl) ?_
      refine z_iload_n dX12_isSign_8 rfl ?_
      refine z_icmp_eq (tgt := 20) dX12_isSign_9 (by decide) (by omega) (by omega) (fun b9 => ?_) (fun b9 => ?_)
      · omega
      · exact no (by rintro ⟨_, rfl⟩; exact hl hs)
end
