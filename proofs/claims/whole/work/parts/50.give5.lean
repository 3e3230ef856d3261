/-! give: the reference -/
section
variable {rc : ZRC} {σ α : Mem} {t : Nat → Int} {d I m : Nat}
theorem m_layGiven {c : Nat} (hR : mR σ 45 t) (hk : cok 999 t) (hm : t 3 = (m : Int)) (hI : I ≤ 9) (hc : c ≤ 100000) : KI rc M_X12_layGiven [zR 40, zI (c : Int), zI (I : Int)] σ (fun v σ' => ((v = NF (dgF m c) m ∧ gvK t I m (dgF m c)) ∨ (v = -1 ∧ ¬ gvK t I m (dgF m c))) ∧ (∀ p : Nat, p < m → σ' 53 p = (dgF m c p : Int)) ∧ fm 53 σ σ') := by
  have h3 := hk.2.1
  obtain ⟨P, hP⟩ : ∃ P : Int → Mem → Prop, P = (fun v σ' => ((v = NF (dgF m c) m ∧ gvK t I m (dgF m c)) ∨ (v = -1 ∧ ¬ gvK t I m (dgF m c))) ∧ (∀ p : Nat, p < m → σ' 53 p = (dgF m c p : Int)) ∧ fm 53 σ σ') := ⟨_, rfl⟩
  rw [← hP]
  have hN9 : ∀ q, q ≤ m → 0 ≤ NF (dgF m c) q ∧ NF (dgF m c) q ≤ 1740 * (q : Int) := fun q hq => gsF_in q (fun p hp => by
    have := dgF_9 m c p
    omega)
  have loop : ∀ r : Nat, r ≤ m → ∀ (L : Nat) (is : Int) (σ' : Mem), L ≤ 100000 → (∀ p, p < r → dgF m c p = dgF r L p) → ((is = 1 ∧ ∀ p, r ≤ p → p < m → t (24 + p) + (dgF m c p : Int) ≤ 99) ∨ (is = 0 ∧ ¬ ∀ p, p < m → t (24 + p) + (dgF m c p : Int) ≤ 99)) → (∀ p, r ≤ p → p < m → σ' 53 p = (dgF m c p : Int)) → fm 53 σ σ' → Z rc M_X12_layGiven 0 0 18 [some (zR 40), some (zI (c : Int)), some (zI (I : Int)), some (zI (L : Int)), some (zI (NF (dgF m c) m - NF (dgF m c) r)), some (zI is), some (zI ((r : Int) - 1))] [] (hp σ') (qI P) := by
    intro r
    induction r with
    | zero =>
      intro hr L is σ' hL i1 i2 i3 i4
      have e0 : NF (dgF m c) 0 = 0 := rfl
      have hn := hN9 m (Nat.le_refl _)
      rw [e0, Int.sub_zero]
      refine z_iload dX12_layGiven_18 rfl ?_
      refine z_if_lt (tgt := 92) dX12_layGiven_20 (by decide) (by omega) (fun b20 => ?_) (fun b20 => ?_)
      · refine z_iload dX12_layGiven_92 rfl ?_
        refine z_if_eq (tgt := 108) dX12_layGiven_94 (by decide) (by omega) (fun b94 => ?_) (fun b94 => ?_)
        · refine z_iconst dX12_layGiven_108 ?_
          refine h_iret dX12_layGiven_109 rfl rfl rfl ?_
          rw [hP]
          refine ⟨Or.inr ⟨rfl, fun hg => ?_⟩, fun p hp => i3 p (by omega) hp, i4⟩
          rcases i2 with ⟨h1, h2⟩ | ⟨h1, h2⟩
          · omega
          · exact h2 hg.1
        · have i2 : ∀ p, 0 ≤ p → p < m → t (24 + p) + (dgF m c p : Int) ≤ 99 := by
            rcases i2 with ⟨h1, h2⟩ | ⟨h1, h2⟩
            · exact h2
            · omega
          refine z_iload dX12_layGiven_97 rfl ?_
          refine z_iload_n dX12_layGiven_99 rfl ?_
          refine z_icmp_gt (tgt := 108) dX12_layGiven_100 (by decide) (by omega) (by omega) (fun b100 => ?_) (fun b100 => ?_)
          · refine z_iconst dX12_layGiven_108 ?_
            refine h_iret dX12_layGiven_109 rfl rfl rfl ?_
            rw [hP]
            exact ⟨Or.inr ⟨rfl, fun hg => by have := hg.2; omega⟩, fun p hp => i3 p (by omega) hp, i4⟩
          · refine z_iload dX12_layGiven_103 rfl ?_
            refine z_goto (tgt := 109) dX12_layGiven_105 (by decide) ?_
            refine h_iret dX12_layGiven_109 rfl rfl rfl ?_
            rw [hP]
            exact ⟨Or.inl ⟨rfl, fun p hp => i2 p (by omega) hp, by omega⟩, fun p hp => i3 p (by omega) hp, i4⟩
      · omega
    | succ r ih =>
      intro hr L is σ' hL i1 i2 i3 i4
      have e : (((r + 1 : Nat) : Int) - 1) = (r : Int) := by omega
      rw [e]
      have edg : dgF m c r = L % 10 := by rw [i1 r (by omega), dgF_m]
      have hc1 : ((L : Int) % 10) = ((dgF m c r : Nat) : Int) := by rw [edg]; omega
      have hc2 : ((L : Int) / 10) = ((L / 10 : Nat) : Int) := by omega
      have h9 := dgF_9 m c r
      have hn1 := hN9 m (Nat.le_refl _)
      have hn2 := hN9 (r + 1) hr
      have eN := NF_s (g := dgF m c) (p := r)
      have e24 : σ' 45 (24 + r) = t (24 + r) := (i4 45 _ (by omega)).trans (hR _ (by omega))
      have q4 := (hk.2.2.2.2.2.2.2.2.2 r (by omega)).2.2.2
      have go : ∀ is' : Int, ((is' = 1 ∧ ∀ p, r ≤ p → p < m → t (24 + p) + (dgF m c p : Int) ≤ 99) ∨ (is' = 0 ∧ ¬ ∀ p, p < m → t (24 + p) + (dgF m c p : Int) ≤ 99)) → Z rc M_X12_layGiven 0 0 84 [some (zR 40), some (zI (c : Int)), some (zI (I : Int)), some (zI ((L / 10 : Nat) : Int)), some (zI (NF (dgF m c) m - NF (dgF m c) (r + 1) + (dgF m c r : Int))), some (zI is), some (zI (r : Int))] [zI is'] (hp (zu σ' 53 r (dgF m c r : Int))) (qI P) := by
        intro is' hs
        refine z_istore dX12_layGiven_84 (by decide) rfl ?_
        refine z_iinc dX12_layGiven_86 rfl (by decide) rfl ?_
        refine z_goto (tgt := 18) dX12_layGiven_89 (by decide) ?_
        have := ih (by omega) (L / 10) is' (zu σ' 53 r (dgF m c r : Int)) (by omega) (fun p hp => by rw [i1 p (by omega), dgF_l (by omega)]) hs (fun p h1 h2 => by
          by_cases ep : p = r
          · subst ep
            rw [zu_eq]
          · rw [zu_j (by omega)]
            exact i3 p (by omega) h2) (fun o j ho => by rw [zu_o ho]; exact i4 o j ho)
        have e1 : NF (dgF m c) m - NF (dgF m c) r = NF (dgF m c) m - NF (dgF m c) (r + 1) + (dgF m c r : Int) := by omega
        rw [e1] at this
        exact this
      refine z_iload dX12_layGiven_18 rfl ?_
      refine z_if_lt (tgt := 92) dX12_layGiven_20 (by decide) (by omega) (fun b20 => ?_) (fun b20 => ?_)
      · omega
      · first | refine z_aload_n dX12_layGiven_23 rfl ?_ | refine z_aload_nT dX12_layGiven_23 rfl ?_
        refine h_getr dX12_layGiven_24 fl_X12_47 (by first | assumption | rfl) (by rfl) ?_
        refine z_iload dX12_layGiven_27 rfl ?_
        refine z_iload_n dX12_layGiven_29 rfl ?_
        refine z_bipush dX12_layGiven_30 rfl ?_
        refine z_irem dX12_layGiven_32 (by omega) (by omega) (by omega) (by omega) ?_
        rw [hc1]
        refine h_iast dX12_layGiven_33 (by first | assumption | rfl) (by repeat' first | apply zc_add | apply zc_mul | with_reducible exact zc_var _ | exact zc_lit _) (by omega) (by decide) ?_
        refine z_iload_n dX12_layGiven_34 rfl ?_
        refine z_bipush dX12_layGiven_35 rfl ?_
        refine z_idiv dX12_layGiven_37 (by omega) (by omega) (by omega) (by omega) ?_
        rw [hc2]
        refine z_istore_n dX12_layGiven_38 (by decide) rfl ?_
        refine z_iload dX12_layGiven_39 rfl ?_
        first | refine z_aload_n dX12_layGiven_41 rfl ?_ | refine z_aload_nT dX12_layGiven_41 rfl ?_
        refine h_getr dX12_layGiven_42 fl_X12_47 (by first | assumption | rfl) (by rfl) ?_
        refine z_iload dX12_layGiven_45 rfl ?_
        first | refine h_iald dX12_layGiven_47 (by first | assumption | rfl) (by repeat' first | apply zc_add | apply zc_mul | with_reducible exact zc_var _ | exact zc_lit _) (by omega) (by decide) ?_ | refine z_ialdT _ dX12_layGiven_47 (by assumption) (by repeat' first | apply zc_add | apply zc_mul | with_reducible exact zc_var _ | exact zc_lit _) (by omega) (by omega) ?_
        rw [zu_eq]
        refine z_iadd dX12_layGiven_48 ?_
        refine z_istore dX12_layGiven_49 (by decide) rfl ?_
        refine z_iload dX12_layGiven_51 rfl ?_
        refine z_if_eq (tgt := 83) dX12_layGiven_53 (by decide) (by omega) (fun b53 => ?_) (fun b53 => ?_)
        · refine z_iconst dX12_layGiven_83 ?_
          exact go 0 (Or.inr ⟨rfl, by
            rcases i2 with ⟨h1, h2⟩ | ⟨h1, h2⟩
            · omega
            · exact h2⟩)
        · have i2 : ∀ p, r + 1 ≤ p → p < m → t (24 + p) + (dgF m c p : Int) ≤ 99 := by
            rcases i2 with ⟨h1, h2⟩ | ⟨h1, h2⟩
            · exact h2
            · omega
          first | refine z_aload_n dX12_layGiven_56 rfl ?_ | refine z_aload_nT dX12_layGiven_56 rfl ?_
          refine h_getr dX12_layGiven_57 fl_X12_22 (by first | assumption | rfl) (by rfl) ?_
          refine z_bipush dX12_layGiven_60 rfl ?_
          refine z_iload dX12_layGiven_62 rfl ?_
          refine z_iadd dX12_layGiven_64 ?_
          first | refine h_iald dX12_layGiven_65 (by first | assumption | rfl) (by repeat' first | apply zc_add | apply zc_mul | with_reducible exact zc_var _ | exact zc_lit _) (by omega) (by decide) ?_ | refine z_ialdT _ dX12_layGiven_65 (by assumption) (by repeat' first | apply zc_add | apply zc_mul | with_reducible exact zc_var _ | exact zc_lit _) (by omega) (by omega) ?_
          rw [zu_o (show 45 ≠ 53 by omega), e24]
          first | refine z_aload_n dX12_layGiven_66 rfl ?_ | refine z_aload_nT dX12_layGiven_66 rfl ?_
          refine h_getr dX12_layGiven_67 fl_X12_47 (by first | assumption | rfl) (by rfl) ?_
          refine z_iload dX12_layGiven_70 rfl ?_
          first | refine h_iald dX12_layGiven_72 (by first | assumption | rfl) (by repeat' first | apply zc_add | apply zc_mul | with_reducible exact zc_var _ | exact zc_lit _) (by omega) (by decide) ?_ | refine z_ialdT _ dX12_layGiven_72 (by assumption) (by repeat' first | apply zc_add | apply zc_mul | with_reducible exact zc_var _ | exact zc_lit _) (by omega) (by omega) ?_
          rw [zu_eq]
          refine z_iadd dX12_layGiven_73 ?_
          refine z_bipush dX12_layGiven_74 rfl ?_
          refine z_icmp_gt (tgt := 83) dX12_layGiven_76 (by decide) (by omega) (by omega) (fun b76 => ?_) (fun b76 => ?_)
          · refine z_iconst dX12_layGiven_83 ?_
            exact go 0 (Or.inr ⟨rfl, fun hh => by have := hh r (by omega); omega⟩)
          · refine z_iconst dX12_layGiven_79 ?_
            refine z_goto (tgt := 84) dX12_layGiven_80 (by decide) ?_
            exact go 1 (Or.inl ⟨rfl, fun p h1 h2 => by
              by_cases ep : p = r
              · subst ep
                omega
              · exact i2 p (by omega) h2⟩)
  have e3 : σ 45 3 = (m : Int) := (hR 3 (by omega)).trans hm
  refine K_of 4 (by decide) (Nat.le_of_ble_eq_true rfl) (show Z _ _ 0 0 0 [some (zR 40), some (zI (c : Int)), some (zI (I : Int)), none, none, none, none] [] _ _ from ?_)
  refine z_iload_n dX12_layGiven_0 rfl ?_
  refine z_istore_n dX12_layGiven_1 (by decide) rfl ?_
  refine z_iconst dX12_layGiven_2 ?_
  refine z_istore dX12_layGiven_3 (by decide) rfl ?_
  refine z_iconst dX12_layGiven_5 ?_
  refine z_istore dX12_layGiven_6 (by decide) rfl ?_
  first | refine z_aload_n dX12_layGiven_8 rfl ?_ | refine z_aload_nT dX12_layGiven_8 rfl ?_
  refine h_getr dX12_layGiven_9 fl_X12_22 (by first | assumption | rfl) (by rfl) ?_
  refine z_iconst dX12_layGiven_12 ?_
  first | refine h_iald dX12_layGiven_13 (by first | assumption | rfl) (by repeat' first | apply zc_add | apply zc_mul | with_reducible exact zc_var _ | exact zc_lit _) (by omega) (by decide) ?_ | refine z_ialdT _ dX12_layGiven_13 (by assumption) (by repeat' first | apply zc_add | apply zc_mul | with_reducible exact zc_var _ | exact zc_lit _) (by omega) (by omega) ?_
  rw [e3]
  refine z_iconst dX12_layGiven_14 ?_
  refine z_isub dX12_layGiven_15 ?_
  refine z_istore dX12_layGiven_16 (by decide) rfl ?_
  have := loop m (Nat.le_refl _) c 1 σ hc (fun p hp => rfl) (Or.inl ⟨rfl, fun p h1 h2 => by omega⟩) (fun p h1 h2 => by omega) fm.rf
  rw [Int.sub_self] at this
  exact this
/-- what a run of layGive writes -/
def gfm (σ σ' : Mem) : Prop := ∀ o j, ¬ (o = 40 ∧ 24 ≤ j) → o ≠ 47 → o ≠ 53 → o ≠ 54 → σ' o j = σ o j
theorem gfm.rf {σ : Mem} : gfm σ σ := fun _ _ _ _ _ _ => rfl
def gfL (t : Nat → Int) (d I m n : Nat) (σ' : Mem) : Prop := (n = 0 ∧ σ' 40 24 = -1 ∧ σ' 40 25 = 0) ∨ ∃ c, gvN t d I m n c ∧ σ' 40 24 = pwF t (VF t d (dgF m c) m) ∧ σ' 40 25 = NF (dgF m c) m ∧ ∀ p : Nat, p < m → σ' 54 p = (dgF m c p : Int)
theorem m_layGive (hR : mR σ 45 t) (hk : cok 999 t) (hm : t 3 = (m : Int)) (hd : d ≤ 60) (hI : min (t 2) 9 = (I : Int)) : KV rc M_X12_layGive [zR 40, zI (d : Int)] σ (fun σ' => (∃ c, gvB t d I m c ∧ σ' 40 24 = pwF t (VF t d (dgF m c) m) ∧ σ' 40 25 = NF (dgF m c) m ∧ ∀ p : Nat, p < m → σ' 54 p = (dgF m c p : Int)) ∧ gfm σ σ') := by
  have h3 := hk.2.1
  have a1 := hk.2.2.2.1
  have a2 := hk.2.2.2.2.1
  have h5 := tpF_5 (m := m) (by omega)
  obtain ⟨P, hP⟩ : ∃ P : Mem → Prop, P = (fun σ' => (∃ c, gvB t d I m c ∧ σ' 40 24 = pwF t (VF t d (dgF m c) m) ∧ σ' 40 25 = NF (dgF m c) m ∧ ∀ p : Nat, p < m → σ' 54 p = (dgF m c p : Int)) ∧ gfm σ σ') := ⟨_, rfl⟩
  rw [← hP]
  -- the best is taken over
  have over : ∀ (n : Nat) (v x5 : Int), (∀ (σ' : Mem) (x6 : Option ZV), (∀ p : Nat, p < m → σ' 54 p = (dgF m n p : Int)) → σ' 40 24 = pwF t (VF t d (dgF m n) m) → σ' 40 25 = NF (dgF m n) m → gfm σ σ' → Z rc M_X12_layGive 0 0 217 [some (zR 40), some (zI (d : Int)), some (zI (I : Int)), some (zI v), some (zI (n : Int)), some (zI x5), x6] [] (hp σ') (qV P)) → ∀ k p : Nat, p + k = m → ∀ σ' : Mem, (∀ q : Nat, q < m → σ' 53 q = (dgF m n q : Int)) → (∀ q : Nat, q < p → σ' 54 q = (dgF m n q : Int)) → σ' 40 24 = pwF t (VF t d (dgF m n) m) → σ' 40 25 = NF (dgF m n) m → gfm σ σ' → Z rc M_X12_layGive 0 0 186 [some (zR 40), some (zI (d : Int)), some (zI (I : Int)), some (zI v), some (zI (n : Int)), some (zI x5), some (zI (p : Int))] [] (hp σ') (qV P) := by
    intro n v x5 fin k
    induction k with
    | zero =>
      intro p hpk σ' i1 i2 i3 i4 i5
      have e3 : σ' 45 3 = (m : Int) := ((i5 45 3 (by omega) (by omega) (by omega) (by omega)).trans (hR 3 (by omega))).trans hm
      refine z_iload dX12_layGive_186 rfl ?_
      first | refine z_aload_n dX12_layGive_188 rfl ?_ | refine z_aload_nT dX12_layGive_188 rfl ?_
      refine h_getr dX12_layGive_189 fl_X12_22 (by first | assumption | rfl) (by rfl) ?_
      refine z_iconst dX12_layGive_192 ?_
      first | refine h_iald dX12_layGive_193 (by first | assumption | rfl) (by repeat' first | apply zc_add | apply zc_mul | with_reducible exact zc_var _ | exact zc_lit _) (by omega) (by decide) ?_ | refine z_ialdT _ dX12_layGive_193 (by assumption) (by repeat' first | apply zc_add | apply zc_mul | with_reducible exact zc_var _ | exact zc_lit _) (by omega) (by omega) ?_
      refine z_icmp_ge (tgt := 217) dX12_layGive_194 (by decide) (by omega) (by omega) (fun b194 => ?_) (fun b194 => ?_)
      · exact fin σ' _ (fun q hq => i2 q (by omega)) i3 i4 i5
      · omega
    | succ k ih =>
      intro p hpk σ' i1 i2 i3 i4 i5
      have e3 : σ' 45 3 = (m : Int) := ((i5 45 3 (by omega) (by omega) (by omega) (by omega)).trans (hR 3 (by omega))).trans hm
      refine z_iload dX12_layGive_186 rfl ?_
      first | refine z_aload_n dX12_layGive_188 rfl ?_ | refine z_aload_nT dX12_layGive_188 rfl ?_
      refine h_getr dX12_layGive_189 fl_X12_22 (by first | assumption | rfl) (by rfl) ?_
      refine z_iconst dX12_layGive_192 ?_
      first | refine h_iald dX12_layGive_193 (by first | assumption | rfl) (by repeat' first | apply zc_add | apply zc_mul | with_reducible exact zc_var _ | exact zc_lit _) (by omega) (by decide) ?_ | refine z_ialdT _ dX12_layGive_193 (by assumption) (by repeat' first | apply zc_add | apply zc_mul | with_reducible exact zc_var _ | exact zc_lit _) (by omega) (by omega) ?_
      refine z_icmp_ge (tgt := 217) dX12_layGive_194 (by decide) (by omega) (by omega) (fun b194 => ?_) (fun b194 => ?_)
      · omega
      · first | refine z_aload_n dX12_layGive_197 rfl ?_ | refine z_aload_nT dX12_layGive_197 rfl ?_
        refine h_getr dX12_layGive_198 fl_X12_50 (by first | assumption | rfl) (by rfl) ?_
        refine z_iload dX12_layGive_201 rfl ?_
        first | refine z_aload_n dX12_layGive_203 rfl ?_ | refine z_aload_nT dX12_layGive_203 rfl ?_
        refine h_getr dX12_layGive_204 fl_X12_47 (by first | assumption | rfl) (by rfl) ?_
        refine z_iload dX12_layGive_207 rfl ?_
        first | refine h_iald dX12_layGive_209 (by first | assumption | rfl) (by repeat' first | apply zc_add | apply zc_mul | with_reducible exact zc_var _ | exact zc_lit _) (by omega) (by decide) ?_ | refine z_ialdT _ dX12_layGive_209 (by assumption) (by repeat' first | apply zc_add | apply zc_mul | with_reducible exact zc_var _ | exact zc_lit _) (by omega) (by omega) ?_
        refine h_iast dX12_layGive_210 (by first | assumption | rfl) (by repeat' first | apply zc_add | apply zc_mul | with_reducible exact zc_var _ | exact zc_lit _) (by omega) (by decide) ?_
        refine z_iinc dX12_layGive_211 rfl (by decide) rfl ?_
        refine z_goto (tgt := 186) dX12_layGive_214 (by decide) ?_
        have := ih (p + 1) (by omega) (zu σ' 54 p (σ' 53 p)) (fun q hq => by rw [zu_o (by omega)]; exact i1 q hq) (fun q hq => by
          by_cases e : q = p
          · subst e
            rw [zu_eq]
            exact i1 q (by omega)
          · rw [zu_j (by omega)]
            exact i2 q (by omega)) (by rw [zu_o (by omega)]; exact i3) (by rw [zu_o (by omega)]; exact i4) (fun o j h1 h2 h4 h5 => by rw [zu_o h5]; exact i5 o j h1 h2 h4 h5)
        rw [nsucc] at this
        exact this
  -- the spans given
  have plus : ∀ (n : Nat) (v x5 : Int), (∀ (σ' : Mem) (x6 : Option ZV), mR σ' 47 (gvT t m (dgF m n)) → (∀ q : Nat, q < m → σ' 53 q = (dgF m n q : Int)) → gfL t d I m n σ' → gfm σ σ' → Z rc M_X12_layGive 0 0 127 [some (zR 40), some (zI (d : Int)), some (zI (I : Int)), some (zI v), some (zI (n : Int)), some (zI x5), x6] [] (hp σ') (qV P)) → ∀ k p : Nat, p + k = m → ∀ σ' : Mem, (∀ q : Nat, q < m → σ' 53 q = (dgF m n q : Int)) → (∀ i : Nat, i < 29 → σ' 47 i = if 24 ≤ i ∧ i < 24 + p then t i + (dgF m n (i - 24) : Int) else t i) → gfL t d I m n σ' → gfm σ σ' → Z rc M_X12_layGive 0 0 90 [some (zR 40), some (zI (d : Int)), some (zI (I : Int)), some (zI v), some (zI (n : Int)), some (zI x5), some (zI (p : Int))] [] (hp σ') (qV P) := by
    intro n v x5 fin k
    induction k with
    | zero =>
      intro p hpk σ' i1 i2 i3 i5
      have e3 : σ' 45 3 = (m : Int) := ((i5 45 3 (by omega) (by omega) (by omega) (by omega)).trans (hR 3 (by omega))).trans hm
      have ep : p = m := by omega
      refine z_iload dX12_layGive_90 rfl ?_
      first | refine z_aload_n dX12_layGive_92 rfl ?_ | refine z_aload_nT dX12_layGive_92 rfl ?_
      refine h_getr dX12_layGive_93 fl_X12_22 (by first | assumption | rfl) (by rfl) ?_
      refine z_iconst dX12_layGive_96 ?_
      first | refine h_iald dX12_layGive_97 (by first | assumption | rfl) (by repeat' first | apply zc_add | apply zc_mul | with_reducible exact zc_var _ | exact zc_lit _) (by omega) (by decide) ?_ | refine z_ialdT _ dX12_layGive_97 (by assumption) (by repeat' first | apply zc_add | apply zc_mul | with_reducible exact zc_var _ | exact zc_lit _) (by omega) (by omega) ?_
      refine z_icmp_ge (tgt := 127) dX12_layGive_98 (by decide) (by omega) (by omega) (fun b98 => ?_) (fun b98 => ?_)
      · subst ep
        exact fin σ' _ i2 i1 i3 i5
      · omega
    | succ k ih =>
      intro p hpk σ' i1 i2 i3 i5
      have e3 : σ' 45 3 = (m : Int) := ((i5 45 3 (by omega) (by omega) (by omega) (by omega)).trans (hR 3 (by omega))).trans hm
      have e24 := i2 (24 + p) (by omega)
      rw [if_neg (by omega)] at e24
      refine z_iload dX12_layGive_90 rfl ?_
      first | refine z_aload_n dX12_layGive_92 rfl ?_ | refine z_aload_nT dX12_layGive_92 rfl ?_
      refine h_getr dX12_layGive_93 fl_X12_22 (by first | assumption | rfl) (by rfl) ?_
      refine z_iconst dX12_layGive_96 ?_
      first | refine h_iald dX12_layGive_97 (by first | assumption | rfl) (by repeat' first | apply zc_add | apply zc_mul | with_reducible exact zc_var _ | exact zc_lit _) (by omega) (by decide) ?_ | refine z_ialdT _ dX12_layGive_97 (by assumption) (by repeat' first | apply zc_add | apply zc_mul | with_reducible exact zc_var _ | exact zc_lit _) (by omega) (by omega) ?_
      refine z_icmp_ge (tgt := 127) dX12_layGive_98 (by decide) (by omega) (by omega) (fun b98 => ?_) (fun b98 => ?_)
      · omega
      · first | refine z_aload_n dX12_layGive_101 rfl ?_ | refine z_aload_nT dX12_layGive_101 rfl ?_
        refine h_getr dX12_layGive_102 fl_X12_28 (by first | assumption | rfl) (by rfl) ?_
        refine z_bipush dX12_layGive_105 rfl ?_
        refine z_iload dX12_layGive_107 rfl ?_
        refine z_iadd dX12_layGive_109 ?_
        refine z_dup2 dX12_layGive_110 rfl rfl ?_
        first | refine h_iald dX12_layGive_111 (by first | assumption | rfl) (by repeat' first | apply zc_add | apply zc_mul | with_reducible exact zc_var _ | exact zc_lit _) (by omega) (by decide) ?_ | refine z_ialdT _ dX12_layGive_111 (by assumption) (by repeat' first | apply zc_add | apply zc_mul | with_reducible exact zc_var _ | exact zc_lit _) (by omega) (by omega) ?_
        first | refine z_aload_n dX12_layGive_112 rfl ?_ | refine z_aload_nT dX12_layGive_112 rfl ?_
        refine h_getr dX12_layGive_113 fl_X12_47 (by first | assumption | rfl) (by rfl) ?_
        refine z_iload dX12_layGive_116 rfl ?_
        first | refine h_iald dX12_layGive_118 (by first | assumption | rfl) (by repeat' first | apply zc_add | apply zc_mul | with_reducible exact zc_var _ | exact zc_lit _) (by omega) (by decide) ?_ | refine z_ialdT _ dX12_layGive_118 (by assumption) (by repeat' first | apply zc_add | apply zc_mul | with_reducible exact zc_var _ | exact zc_lit _) (by omega) (by omega) ?_
        refine z_iadd dX12_layGive_119 ?_
        refine h_iast dX12_layGive_120 (by first | assumption | rfl) (by repeat' first | apply zc_add | apply zc_mul | with_reducible exact zc_var _ | exact zc_lit _) (by omega) (by decide) ?_
        refine z_iinc dX12_layGive_121 rfl (by decide) rfl ?_
        refine z_goto (tgt := 90) dX12_layGive_124 (by decide) ?_
        rw [e24, i1 p (by omega)]
        have := ih (p + 1) (by omega) (zu σ' 47 (24 + p) (t (24 + p) + (dgF m n p : Int))) (fun q hq => by rw [zu_o (by omega)]; exact i1 q hq) (fun i hi => by
          by_cases e : i = 24 + p
          · subst e
            rw [zu_eq, if_pos (by omega), show 24 + p - 24 = p by omega]
          · rw [zu_j e, i2 i hi]
            by_cases c : 24 ≤ i ∧ i < 24 + p
            · rw [if_pos c, if_pos (by omega)]
            · rw [if_neg c, if_neg (by omega)]) (by
          unfold gfL at i3 ⊢
          rw [zu_o (show 40 ≠ 47 by omega), zu_o (show 40 ≠ 47 by omega)]
          rcases i3 with i3 | ⟨c, c1, c2, c3, c4⟩
          · exact Or.inl i3
          · exact Or.inr ⟨c, c1, c2, c3, fun q hq => by rw [zu_o (by omega)]; exact c4 q hq⟩) (fun o j h1 h2 h4 h5 => by rw [zu_o h2]; exact i5 o j h1 h2 h4 h5)
        rw [nsucc] at this
        exact this
  have loop : ∀ k n : Nat, n + k = tpF m → ∀ (σ' : Mem) (x5 x6 : Option ZV), gfL t d I m n σ' → gfm σ σ' → Z rc M_X12_layGive 0 0 63 [some (zR 40), some (zI (d : Int)), some (zI (I : Int)), some (zI (tpF m : Int)), some (zI (n : Int)), x5, x6] [] (hp σ') (qV P) := by
    intro k
    induction k with
    | zero =>
      intro n hn σ' x5 x6 i1 i5
      refine z_iload dX12_layGive_63 rfl ?_
      refine z_iload_n dX12_layGive_65 rfl ?_
      refine z_icmp_ge (tgt := 223) dX12_layGive_66 (by decide) (by omega) (by omega) (fun b66 => ?_) (fun b66 => ?_)
      · refine h_vret dX12_layGive_223 rfl rfl rfl ?_
        rw [hP]
        rcases i1 with i1 | ⟨c, c1, c2, c3, c4⟩
        · omega
        · rw [show n = tpF m by omega] at c1
          exact ⟨⟨c, c1, c2, c3, c4⟩, i5⟩
      · omega
    | succ k ih =>
      intro n hn σ' x5 x6 i1 i5
      have hR' : mR σ' 45 t := fun i hi => (i5 45 i (by omega) (by omega) (by omega) (by omega)).trans (hR i hi)
      have nxt : ∀ (σ' : Mem) (x5 x6 : Option ZV), gfL t d I m (n + 1) σ' → gfm σ σ' → Z rc M_X12_layGive 0 0 217 [some (zR 40), some (zI (d : Int)), some (zI (I : Int)), some (zI (tpF m : Int)), some (zI (n : Int)), x5, x6] [] (hp σ') (qV P) := by
        intro σ' x5 x6 j1 j5
        refine z_iinc dX12_layGive_217 rfl (by decide) rfl ?_
        refine z_goto (tgt := 63) dX12_layGive_220 (by decide) ?_
        have := ih (n + 1) (by omega) σ' x5 x6 j1 j5
        rw [nsucc] at this
        exact this
      have hNn := NF_nn (g := dgF m n) (m := m)
      refine z_iload dX12_layGive_63 rfl ?_
      refine z_iload_n dX12_layGive_65 rfl ?_
      refine z_icmp_ge (tgt := 223) dX12_layGive_66 (by decide) (by omega) (by omega) (fun b66 => ?_) (fun b66 => ?_)
      · omega
      · first | refine z_aload_n dX12_layGive_69 rfl ?_ | refine z_aload_nT dX12_layGive_69 rfl ?_
        refine z_iload dX12_layGive_70 rfl ?_
        refine z_iload_n dX12_layGive_72 rfl ?_
        refine h_Vi2 (Y' := M_X12_layGiven) dX12_layGive_73 zw_1032 zw_1034 zs_42 rfl ok_X12_layGiven (by decide) rfl (Nat.le_of_ble_eq_true rfl) ⟨rfl, rfl⟩ (by decide) (by first | assumption | rfl) (m_layGiven (t := t) (m := m) (I := I) (c := n) hR' hk hm (by omega) (by omega)) (fun vv σ2 hq => ?_)
        obtain ⟨q1, q2, q3⟩ := hq
        have i5 : gfm σ σ2 := fun o j h1 h2 h4 h5 => (q3 o j h4).trans (i5 o j h1 h2 h4 h5)
        have i1 : gfL t d I m n σ2 := by
          unfold gfL at i1 ⊢
          rw [q3 40 _ (by omega), q3 40 _ (by omega)]
          rcases i1 with i1 | ⟨c, c1, c2, c3, c4⟩
          · exact Or.inl i1
          · exact Or.inr ⟨c, c1, c2, c3, fun p hp => (q3 54 p (by omega)).trans (c4 p hp)⟩
        rcases q1 with ⟨rfl, hK⟩ | ⟨rfl, hK⟩
        · have hNI := hK.2
          refine z_istore dX12_layGive_76 (by decide) rfl ?_
          refine z_iload dX12_layGive_78 rfl ?_
          refine z_if_lt (tgt := 217) dX12_layGive_80 (by decide) (by omega) (fun b80 => ?_) (fun b80 => ?_)
          · omega
          · have hR2 : mR σ2 45 t := fun i hi => (q3 45 i (by omega)).trans (hR' i hi)
            first | refine z_aload_n dX12_layGive_83 rfl ?_ | refine z_aload_nT dX12_layGive_83 rfl ?_
            obtain ⟨σ1, h1⟩ : ∃ z, z = σ2 := ⟨_, rfl⟩
            rw [← h1] at i5 i1 q2 q3 hR2 ⊢
            refine h_Vv0 (Y' := M_X12_begin) dX12_layGive_84 zw_999 zw_1001 zs_39 rfl ok_X12_begin (by decide) rfl (Nat.le_of_ble_eq_true rfl) ⟨rfl, rfl⟩ (by decide) (by first | assumption | rfl) (m_begin hR2) (fun σ2 hq => ?_)
            obtain ⟨j1, j2⟩ := hq
            refine z_iconst dX12_layGive_87 ?_
            refine z_istore dX12_layGive_88 (by decide) rfl ?_
            refine plus n (tpF m : Int) (NF (dgF m n) m) (fun σ' x6 p1 p2 p3 p4 => ?_) m 0 (by omega) σ2 (fun q hq => (j2 53 q (by omega)).trans (q2 q hq)) (fun i hi => by rw [if_neg (by omega)]; exact j1 i hi) (by
              unfold gfL at i1 ⊢
              rw [j2 40 _ (by omega), j2 40 _ (by omega)]
              rcases i1 with i1 | ⟨c, c1, c2, c3, c4⟩
              · exact Or.inl i1
              · exact Or.inr ⟨c, c1, c2, c3, fun p hp => (j2 54 p (by omega)).trans (c4 p hp)⟩) (fun o j h1 h2 h4 h5 => (j2 o j h2).trans (i5 o j h1 h2 h4 h5))
            have hk2 := cok_gv hk hm hK.1
            have hpu := (gnF_ok hk2 d).2.2.2.1
            have hv1 := gv_1 (d := d) hk hm hK.1
            first | refine z_aload_n dX12_layGive_127 rfl ?_ | refine z_aload_nT dX12_layGive_127 rfl ?_
            refine z_iload_n dX12_layGive_128 rfl ?_
            refine h_Vv1 (Y' := M_X12_goOn) dX12_layGive_129 zw_1003 zw_1005 zs_40 rfl ok_X12_goOn (by decide) rfl (Nat.le_of_ble_eq_true rfl) ⟨rfl, rfl⟩ (by decide) (by first | assumption | rfl) (m_goOn (d := d) p1 hk2 (by omega) (by omega)) (fun σ2 hq => ?_)
            obtain ⟨z1, z2⟩ := hq
            have y1 : σ2 47 1 = pwF t (VF t d (dgF m n) m) := (z1 1 (by omega)).trans hv1
            rw [hv1] at hpu
            have p4 : gfm σ σ2 := fun o j h1 h2 h4 h5 => (z2 o j h2).trans (p4 o j h1 h2 h4 h5)
            have p2 : ∀ q : Nat, q < m → σ2 53 q = (dgF m n q : Int) := fun q hq => (z2 53 q (by omega)).trans (p2 q hq)
            have p3 : gfL t d I m n σ2 := by
              unfold gfL at p3 ⊢
              rw [z2 40 _ (by omega), z2 40 _ (by omega)]
              rcases p3 with i1 | ⟨c, c1, c2, c3, c4⟩
              · exact Or.inl i1
              · exact Or.inr ⟨c, c1, c2, c3, fun p hp => (z2 54 p (by omega)).trans (c4 p hp)⟩
            have hb24 : -1 ≤ σ2 40 24 ∧ σ2 40 24 ≤ 9999 ∧ 0 ≤ σ2 40 25 ∧ σ2 40 25 ≤ 9 := by
              rcases p3 with ⟨_, h24, h25⟩ | ⟨c, c1, c2, c3, c4⟩
              · omega
              · have hz := (gnF_ok (cok_gv hk hm c1.2.1.1) d).2.2.2.1
                rw [gv_1 (d := d) hk hm c1.2.1.1] at hz
                have hw := NF_nn (g := dgF m c) (m := m)
                have hw2 := c1.2.1.2
                omega
            have better : gvN t d I m (n + 1) n → Z rc M_X12_layGive 0 0 167 [some (zR 40), some (zI (d : Int)), some (zI (I : Int)), some (zI (tpF m : Int)), some (zI (n : Int)), some (zI (NF (dgF m n) m)), x6] [] (hp σ2) (qV P) := by
              intro hb
              first | refine z_aload_n dX12_layGive_167 rfl ?_ | refine z_aload_nT dX12_layGive_167 rfl ?_
              first | refine z_aload_n dX12_layGive_168 rfl ?_ | refine z_aload_nT dX12_layGive_168 rfl ?_
              refine h_getr dX12_layGive_169 fl_X12_28 (by first | assumption | rfl) (by rfl) ?_
              refine z_iconst dX12_layGive_172 ?_
              first | refine h_iald dX12_layGive_173 (by first | assumption | rfl) (by repeat' first | apply zc_add | apply zc_mul | with_reducible exact zc_var _ | exact zc_lit _) (by omega) (by decide) ?_ | refine z_ialdT _ dX12_layGive_173 (by assumption) (by repeat' first | apply zc_add | apply zc_mul | with_reducible exact zc_var _ | exact zc_lit _) (by omega) (by omega) ?_
              refine h_puti dX12_layGive_174 fp_X12_179 (by first | assumption | rfl) (by rfl) ?_
              first | refine z_aload_n dX12_layGive_177 rfl ?_ | refine z_aload_nT dX12_layGive_177 rfl ?_
              refine z_iload dX12_layGive_178 rfl ?_
              refine h_puti dX12_layGive_180 fp_X12_182 (by first | assumption | rfl) (by rfl) ?_
              refine z_iconst dX12_layGive_183 ?_
              refine z_istore dX12_layGive_184 (by decide) rfl ?_
              refine over n (tpF m : Int) (NF (dgF m n) m) (fun σ' x6 r1 r2 r3 r4 => nxt σ' _ x6 (Or.inr ⟨n, hb, r2, r3, r1⟩) r4) m 0 (by omega) _ (fun q hq => by rw [zu_o (by omega), zu_o (by omega)]; exact p2 q hq) (fun q hq => by omega) (by rw [zu_j (by omega), zu_eq]; exact y1) (by rw [zu_eq]) (fun o j h1 h2 h4 h5 => ?_)
              by_cases ho : o = 40
              · subst ho
                rw [zu_j (by omega), zu_j (by omega)]
                exact p4 40 j h1 h2 h4 h5
              · rw [zu_o ho, zu_o ho]
                exact p4 o j h1 h2 h4 h5
            first | refine z_aload_n dX12_layGive_132 rfl ?_ | refine z_aload_nT dX12_layGive_132 rfl ?_
            refine h_getr dX12_layGive_133 fl_X12_28 (by first | assumption | rfl) (by rfl) ?_
            refine z_iconst dX12_layGive_136 ?_
            first | refine h_iald dX12_layGive_137 (by first | assumption | rfl) (by repeat' first | apply zc_add | apply zc_mul | with_reducible exact zc_var _ | exact zc_lit _) (by omega) (by decide) ?_ | refine z_ialdT _ dX12_layGive_137 (by assumption) (by repeat' first | apply zc_add | apply zc_mul | with_reducible exact zc_var _ | exact zc_lit _) (by omega) (by omega) ?_
            first | refine z_aload_n dX12_layGive_138 rfl ?_ | refine z_aload_nT dX12_layGive_138 rfl ?_
            refine h_geti dX12_layGive_139 fl_X12_179 (by first | assumption | rfl) (by rfl) ?_
            refine z_icmp_gt (tgt := 167) dX12_layGive_142 (by decide) (by omega) (by omega) (fun b142 => ?_) (fun b142 => ?_)
            · rcases p3 with ⟨hn0, h24, h25⟩ | ⟨c, c1, c2, c3, c4⟩
              · subst hn0
                exact better (gvN_1 hk hm)
              · exact better (gvN_up c1 hK (Or.inl (by omega)))
            · rcases p3 with ⟨hn0, h24, h25⟩ | ⟨c, c1, c2, c3, c4⟩
              · omega
              · first | refine z_aload_n dX12_layGive_145 rfl ?_ | refine z_aload_nT dX12_layGive_145 rfl ?_
                refine h_getr dX12_layGive_146 fl_X12_28 (by first | assumption | rfl) (by rfl) ?_
                refine z_iconst dX12_layGive_149 ?_
                first | refine h_iald dX12_layGive_150 (by first | assumption | rfl) (by repeat' first | apply zc_add | apply zc_mul | with_reducible exact zc_var _ | exact zc_lit _) (by omega) (by decide) ?_ | refine z_ialdT _ dX12_layGive_150 (by assumption) (by repeat' first | apply zc_add | apply zc_mul | with_reducible exact zc_var _ | exact zc_lit _) (by omega) (by omega) ?_
                first | refine z_aload_n dX12_layGive_151 rfl ?_ | refine z_aload_nT dX12_layGive_151 rfl ?_
                refine h_geti dX12_layGive_152 fl_X12_179 (by first | assumption | rfl) (by rfl) ?_
                refine z_icmp_ne (tgt := 217) dX12_layGive_155 (by decide) (by omega) (by omega) (fun b155 => ?_) (fun b155 => ?_)
                · exact nxt _ _ _ (Or.inr ⟨c, gvN_st c1 (by omega), c2, c3, c4⟩) p4
                · refine z_iload dX12_layGive_158 rfl ?_
                  first | refine z_aload_n dX12_layGive_160 rfl ?_ | refine z_aload_nT dX12_layGive_160 rfl ?_
                  refine h_geti dX12_layGive_161 fl_X12_182 (by first | assumption | rfl) (by rfl) ?_
                  refine z_icmp_ge (tgt := 217) dX12_layGive_164 (by decide) (by omega) (by omega) (fun b164 => ?_) (fun b164 => ?_)
                  · exact nxt _ _ _ (Or.inr ⟨c, gvN_st c1 (by omega), c2, c3, c4⟩) p4
                  · exact better (gvN_up c1 hK (Or.inr (by omega)))
        · refine z_istore dX12_layGive_76 (by decide) rfl ?_
          refine z_iload dX12_layGive_78 rfl ?_
          refine z_if_lt (tgt := 217) dX12_layGive_80 (by decide) (by omega) (fun b80 => ?_) (fun b80 => ?_)
          · refine nxt _ _ _ ?_ i5
            rcases i1 with ⟨hn0, h24, h25⟩ | ⟨c, c1, c2, c3, c4⟩
            · subst hn0
              exact absurd (gvK_z hk hm) hK
            · exact Or.inr ⟨c, gvN_no c1 hK, c2, c3, c4⟩
          · omega
  have ways : ∀ k p : Nat, p + k = m → Z rc M_X12_layGive 0 0 28 [some (zR 40), some (zI (d : Int)), some (zI (I : Int)), some (zI (tpF p : Int)), some (zI (p : Int)), none, none] [] (hp σ) (qV P) := by
    intro k
    have e3 : σ 45 3 = (m : Int) := (hR 3 (by omega)).trans hm
    induction k with
    | zero =>
      intro p hpk
      have ep : p = m := by omega
      subst ep
      refine z_iload dX12_layGive_28 rfl ?_
      first | refine z_aload_n dX12_layGive_30 rfl ?_ | refine z_aload_nT dX12_layGive_30 rfl ?_
      refine h_getr dX12_layGive_31 fl_X12_22 (by first | assumption | rfl) (by rfl) ?_
      refine z_iconst dX12_layGive_34 ?_
      first | refine h_iald dX12_layGive_35 (by first | assumption | rfl) (by repeat' first | apply zc_add | apply zc_mul | with_reducible exact zc_var _ | exact zc_lit _) (by omega) (by decide) ?_ | refine z_ialdT _ dX12_layGive_35 (by assumption) (by repeat' first | apply zc_add | apply zc_mul | with_reducible exact zc_var _ | exact zc_lit _) (by omega) (by omega) ?_
      refine z_icmp_ge (tgt := 50) dX12_layGive_36 (by decide) (by omega) (by omega) (fun b36 => ?_) (fun b36 => ?_)
      · first | refine z_aload_n dX12_layGive_50 rfl ?_ | refine z_aload_nT dX12_layGive_50 rfl ?_
        refine z_iconst dX12_layGive_51 ?_
        refine h_puti dX12_layGive_52 fp_X12_179 (by first | assumption | rfl) (by rfl) ?_
        first | refine z_aload_n dX12_layGive_55 rfl ?_ | refine z_aload_nT dX12_layGive_55 rfl ?_
        refine z_iconst dX12_layGive_56 ?_
        refine h_puti dX12_layGive_57 fp_X12_182 (by first | assumption | rfl) (by rfl) ?_
        refine z_iconst dX12_layGive_60 ?_
        refine z_istore dX12_layGive_61 (by decide) rfl ?_
        exact loop (tpF p) 0 (by omega) _ none none (Or.inl ⟨rfl, by rw [zu_j (by omega), zu_eq], by rw [zu_eq]⟩) (fun o j h1 h2 h4 h5 => by
          by_cases ho : o = 40
          · subst ho
            rw [zu_j (by omega), zu_j (by omega)]
          · rw [zu_o ho, zu_o ho])
      · omega
    | succ k ih =>
      intro p hpk
      refine z_iload dX12_layGive_28 rfl ?_
      first | refine z_aload_n dX12_layGive_30 rfl ?_ | refine z_aload_nT dX12_layGive_30 rfl ?_
      refine h_getr dX12_layGive_31 fl_X12_22 (by first | assumption | rfl) (by rfl) ?_
      refine z_iconst dX12_layGive_34 ?_
      first | refine h_iald dX12_layGive_35 (by first | assumption | rfl) (by repeat' first | apply zc_add | apply zc_mul | with_reducible exact zc_var _ | exact zc_lit _) (by omega) (by decide) ?_ | refine z_ialdT _ dX12_layGive_35 (by assumption) (by repeat' first | apply zc_add | apply zc_mul | with_reducible exact zc_var _ | exact zc_lit _) (by omega) (by omega) ?_
      refine z_icmp_ge (tgt := 50) dX12_layGive_36 (by decide) (by omega) (by omega) (fun b36 => ?_) (fun b36 => ?_)
      · omega
      · refine z_iload_n dX12_layGive_39 rfl ?_
        refine z_bipush dX12_layGive_40 rfl ?_
        refine z_imul dX12_layGive_42 ?_
        refine z_istore_n dX12_layGive_43 (by decide) rfl ?_
        refine z_iinc dX12_layGive_44 rfl (by decide) rfl ?_
        refine z_goto (tgt := 28) dX12_layGive_47 (by decide) ?_
        have := ih (p + 1) (by omega)
        have e1 : ((tpF (p + 1) : Nat) : Int) = (tpF p : Int) * 10 := by rw [tpF_s]; omega
        rw [nsucc, e1] at this
        exact this
  have e2 : σ 45 2 = t 2 := hR 2 (by omega)
  refine K_of 5 (by decide) (Nat.le_of_ble_eq_true rfl) (show Z _ _ 0 0 0 [some (zR 40), some (zI (d : Int)), none, none, none, none, none] [] _ _ from ?_)
  first | refine z_aload_n dX12_layGive_0 rfl ?_ | refine z_aload_nT dX12_layGive_0 rfl ?_
  refine h_getr dX12_layGive_1 fl_X12_22 (by first | assumption | rfl) (by rfl) ?_
  refine z_iconst dX12_layGive_4 ?_
  first | refine h_iald dX12_layGive_5 (by first | assumption | rfl) (by repeat' first | apply zc_add | apply zc_mul | with_reducible exact zc_var _ | exact zc_lit _) (by omega) (by decide) ?_ | refine z_ialdT _ dX12_layGive_5 (by assumption) (by repeat' first | apply zc_add | apply zc_mul | with_reducible exact zc_var _ | exact zc_lit _) (by omega) (by omega) ?_
  refine z_bipush dX12_layGive_6 rfl ?_
  refine z_icmp_le (tgt := 16) dX12_layGive_8 (by decide) (by omega) (by omega) (fun b8 => ?_) (fun b8 => ?_)
  · first | refine z_aload_n dX12_layGive_16 rfl ?_ | refine z_aload_nT dX12_layGive_16 rfl ?_
    refine h_getr dX12_layGive_17 fl_X12_22 (by first | assumption | rfl) (by rfl) ?_
    refine z_iconst dX12_layGive_20 ?_
    first | refine h_iald dX12_layGive_21 (by first | assumption | rfl) (by repeat' first | apply zc_add | apply zc_mul | with_reducible exact zc_var _ | exact zc_lit _) (by omega) (by decide) ?_ | refine z_ialdT _ dX12_layGive_21 (by assumption) (by repeat' first | apply zc_add | apply zc_mul | with_reducible exact zc_var _ | exact zc_lit _) (by omega) (by omega) ?_
    refine z_istore_n dX12_layGive_22 (by decide) rfl ?_
    refine z_iconst dX12_layGive_23 ?_
    refine z_istore_n dX12_layGive_24 (by decide) rfl ?_
    refine z_iconst dX12_layGive_25 ?_
    refine z_istore dX12_layGive_26 (by decide) rfl ?_
    rw [e2, show t 2 = (I : Int) by omega]
    exact ways m 0 (by omega)
  · refine z_bipush dX12_layGive_11 rfl ?_
    refine z_goto (tgt := 22) dX12_layGive_13 (by decide) ?_
    refine z_istore_n dX12_layGive_22 (by decide) rfl ?_
    refine z_iconst dX12_layGive_23 ?_
    refine z_istore_n dX12_layGive_24 (by decide) rfl ?_
    refine z_iconst dX12_layGive_25 ?_
    refine z_istore dX12_layGive_26 (by decide) rfl ?_
    have e9 : I = 9 := by omega
    subst e9
    exact ways m 0 (by omega)
theorem r_give {d k : Int} (hM : MI σ α) (hO : OK α) (hd : zin d) (hw : zin k) : KI rc M_X12_give [zR 40, zI d, zI k] σ (mP σ α (aGive α d k) α) := by
  have h3 := OKc_3 hO
  have h8 := OKc_8 hO
  have hNN : (NONE : Int) = -1000000 := rfl
  have hR := hM.2.2.2.1
  have bad : ∀ σ2 : Mem, σ2 = σ → ¬ α 5 8 = 0 → (¬ (0 ≤ d ∧ d ≤ 60) ∨ ¬ (-2 ≤ k ∧ k ≤ 4)) → Z rc M_X12_give 0 0 30 [some (zR 40), some (zI d), some (zI k)] [] (hp σ2) (qI (mP σ α (aGive α d k) α)) := by
    intro σ2 e hn hb
    subst e
    refine z_ldc (n := -1000001) dX12_give_30 zw_860 rfl ?_
    refine h_iret dX12_give_32 rfl rfl rfl ?_
    exact ⟨by unfold aGive; rw [if_neg hn, if_pos hb], hM, fr.rf⟩
  refine K_of 0 (by decide) (Nat.le_of_ble_eq_true rfl) (show Z _ _ 0 0 0 [some (zR 40), some (zI d), some (zI k)] [] _ _ from ?_)
  first | refine z_aload_n dX12_give_0 rfl ?_ | refine z_aload_nT dX12_give_0 rfl ?_
  refine h_Vi0 (Y' := M_X12_isCoast) dX12_give_1 zw_941 zw_943 zs_36 rfl ok_X12_isCoast (by decide) rfl (Nat.le_of_ble_eq_true rfl) ⟨rfl, rfl⟩ (by decide) (by first | assumption | rfl) (m_isCoast (hR 8 (by omega)) h8) (fun vv σ2 hq => ?_)
  obtain ⟨rfl, rfl⟩ := hq
  refine z_if_ne (tgt := 10) dX12_give_4 (by decide) (by omega) (fun b4 => ?_) (fun b4 => ?_)
  · have hk := OKc_s hO (by omega)
    refine z_iload_n dX12_give_10 rfl ?_
    refine z_iconst dX12_give_11 ?_
    refine z_bipush dX12_give_12 rfl ?_
    refine h_Si3 (Y' := M_X12_in) dX12_give_14 zw_857 zw_858 ok_X12_in (by decide) rfl (Nat.le_of_ble_eq_true rfl) ⟨rfl, rfl⟩ (by decide) (m_within hd (by omega) (by omega)) (fun vv σ2 hq => ?_)
    obtain ⟨hv1, rfl⟩ := hq
    refine z_if_eq (tgt := 30) dX12_give_17 (by decide) (by omega) (fun b17 => ?_) (fun b17 => ?_)
    · exact bad _ rfl (by omega) (by omega)
    · refine z_iload_n dX12_give_20 rfl ?_
      refine z_bipush dX12_give_21 rfl ?_
      refine z_iconst dX12_give_23 ?_
      refine h_Si3 (Y' := M_X12_in) dX12_give_24 zw_857 zw_858 ok_X12_in (by decide) rfl (Nat.le_of_ble_eq_true rfl) ⟨rfl, rfl⟩ (by decide) (m_within hw (by omega) (by omega)) (fun vv σ2 hq => ?_)
      obtain ⟨hv2, rfl⟩ := hq
      refine z_if_ne (tgt := 33) dX12_give_27 (by decide) (by omega) (fun b27 => ?_) (fun b27 => ?_)
      · obtain ⟨d, rfl⟩ : ∃ x : Nat, d = (x : Int) := ⟨d.toNat, by omega⟩
        obtain ⟨m, hm⟩ : ∃ x : Nat, α 5 3 = (x : Int) := ⟨(α 5 3).toNat, by omega⟩
        have a2 := hk.2.2.2.2.1
        obtain ⟨I, hI⟩ : ∃ x : Nat, min (α 5 2) 9 = (x : Int) := ⟨(min (α 5 2) 9).toNat, by omega⟩
        have ea : aGive α (d : Int) k = if α 5 3 ≤ k then NONE else if k = -1 then pwF (α 5) (VF (α 5) d (dgF m (gvC (α 5) d I m)) m) else if k = -2 then NF (dgF m (gvC (α 5) d I m)) m else (dgF m (gvC (α 5) d I m) k.toNat : Int) := by
          unfold aGive
          rw [if_neg (by omega), if_neg (by omega), show (α 5 3).toNat = m by omega, show (min (α 5 2) 9).toNat = I by omega, show ((d : Int)).toNat = d by omega]
        first | refine z_aload_n dX12_give_33 rfl ?_ | refine z_aload_nT dX12_give_33 rfl ?_
        refine z_iload_n dX12_give_34 rfl ?_
        obtain ⟨σ1, h1⟩ : ∃ z, z = σ2 := ⟨_, rfl⟩
        rw [← h1] at hM hR ⊢
        refine h_Vv1 (Y' := M_X12_layGive) dX12_give_35 zw_1028 zw_1030 zs_41 rfl ok_X12_layGive (by decide) rfl (Nat.le_of_ble_eq_true rfl) ⟨rfl, rfl⟩ (by decide) (by first | assumption | rfl) (m_layGive (t := α 5) (m := m) (I := I) (d := d) hR hk hm (by omega) hI) (fun σ2 hq => ?_)
        obtain ⟨⟨c, c1, c2, c3, c4⟩, c5⟩ := hq
        rw [gvC_eq c1] at ea
        have hM2 : MI σ2 α ∧ fr 40 15 σ1 σ2 := ⟨hM.keep (fun o j h1 h2 h4 => by unfold mse at h4; exact c5 o j (by omega) (by omega) (by omega) (by omega)), fun o j h => c5 o j (by omega) (by omega) (by omega) (by omega)⟩
        have e3 : σ2 45 3 = α 5 3 := (c5 45 3 (by omega) (by omega) (by omega) (by omega)).trans (hR 3 (by omega))
        refine z_iload_n dX12_give_38 rfl ?_
        refine z_iconst dX12_give_39 ?_
        refine z_icmp_ne (tgt := 50) dX12_give_40 (by decide) (by omega) (by omega) (fun b40 => ?_) (fun b40 => ?_)
        · refine z_iload_n dX12_give_50 rfl ?_
          refine z_bipush dX12_give_51 rfl ?_
          refine z_icmp_ne (tgt := 63) dX12_give_53 (by decide) (by omega) (by omega) (fun b53 => ?_) (fun b53 => ?_)
          · refine z_iload_n dX12_give_63 rfl ?_
            first | refine z_aload_n dX12_give_64 rfl ?_ | refine z_aload_nT dX12_give_64 rfl ?_
            refine h_getr dX12_give_65 fl_X12_22 (by first | assumption | rfl) (by rfl) ?_
            refine z_iconst dX12_give_68 ?_
            first | refine h_iald dX12_give_69 (by first | assumption | rfl) (by repeat' first | apply zc_add | apply zc_mul | with_reducible exact zc_var _ | exact zc_lit _) (by omega) (by decide) ?_ | refine z_ialdT _ dX12_give_69 (by assumption) (by repeat' first | apply zc_add | apply zc_mul | with_reducible exact zc_var _ | exact zc_lit _) (by omega) (by omega) ?_
            refine z_icmp_ge (tgt := 82) dX12_give_70 (by decide) (by omega) (by omega) (fun b70 => ?_) (fun b70 => ?_)
            · rw [if_pos (by omega)] at ea
              refine z_ldc (n := -1000000) dX12_give_82 zw_1015 rfl ?_
              refine h_iret dX12_give_84 rfl rfl rfl ?_
              exact ⟨ea.symm, hM2⟩
            · rw [if_neg (by omega), if_neg (by omega), if_neg (by omega)] at ea
              obtain ⟨k, rfl⟩ : ∃ x : Nat, k = (x : Int) := ⟨k.toNat, by omega⟩
              first | refine z_aload_n dX12_give_73 rfl ?_ | refine z_aload_nT dX12_give_73 rfl ?_
              refine h_getr dX12_give_74 fl_X12_50 (by first | assumption | rfl) (by rfl) ?_
              refine z_iload_n dX12_give_77 rfl ?_
              first | refine h_iald dX12_give_78 (by first | assumption | rfl) (by repeat' first | apply zc_add | apply zc_mul | with_reducible exact zc_var _ | exact zc_lit _) (by omega) (by decide) ?_ | refine z_ialdT _ dX12_give_78 (by assumption) (by repeat' first | apply zc_add | apply zc_mul | with_reducible exact zc_var _ | exact zc_lit _) (by omega) (by omega) ?_
              refine z_goto (tgt := 84) dX12_give_79 (by decide) ?_
              refine h_iret dX12_give_84 rfl rfl rfl ?_
              exact ⟨by rw [ea, c4 k (by omega)]; rfl, hM2⟩
          · rw [if_neg (by omega), if_neg (by omega), if_pos (by omega)] at ea
            first | refine z_aload_n dX12_give_56 rfl ?_ | refine z_aload_nT dX12_give_56 rfl ?_
            refine h_geti dX12_give_57 fl_X12_182 (by first | assumption | rfl) (by rfl) ?_
            refine z_goto (tgt := 84) dX12_give_60 (by decide) ?_
            refine h_iret dX12_give_84 rfl rfl rfl ?_
            exact ⟨by rw [ea, c3], hM2⟩
        · rw [if_neg (by omega), if_pos (by omega)] at ea
          first | refine z_aload_n dX12_give_43 rfl ?_ | refine z_aload_nT dX12_give_43 rfl ?_
          refine h_geti dX12_give_44 fl_X12_179 (by first | assumption | rfl) (by rfl) ?_
          refine z_goto (tgt := 84) dX12_give_47 (by decide) ?_
          refine h_iret dX12_give_84 rfl rfl rfl ?_
          exact ⟨by rw [ea, c2], hM2⟩
      · exact bad _ rfl (by omega) (by omega)
  · refine z_ldc (n := -1000002) dX12_give_7 zw_945 rfl ?_
    refine h_iret dX12_give_9 rfl rfl rfl ?_
    exact ⟨by unfold aGive; rw [if_pos (by omega)], hM, fr.rf⟩
end
