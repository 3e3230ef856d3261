/-! the tape: piers, and coast; class -/
theorem kiF_in (c : Int) : 0 ≤ kiF c ∧ kiF c ≤ 5 := by
  unfold kiF
  split
  · omega
  · split
    · omega
    · split
      · omega
      · split
        · omega
        · split <;> omega
theorem piR_va {f : Nat → Int} {N a : Nat} (h : (piR f N a).ok = true) : (0 ≤ (piR f N a).va 0 ∧ (piR f N a).va 0 ≤ 9) ∧ (0 ≤ (piR f N a).va 1 ∧ (piR f N a).va 1 ≤ 2) ∧ (0 ≤ (piR f N a).va 2 ∧ (piR f N a).va 2 ≤ 9) := by
  have h1 := (psL_va 3 0 (a + 1) zZ h).1
  exact ⟨h1 0 (by omega) (by omega), h1 1 (by omega) (by omega), h1 2 (by omega) (by omega)⟩
theorem laR_ok {f : Nat → Int} {N : Nat} (h : (laR f N).ok = true) : cok 0 (lwF (laR f N).va) := by
  have h1 := (psL_va 5 0 1 zZ h).1
  have v0 : 0 ≤ (laR f N).va 0 ∧ (laR f N).va 0 ≤ 9 := h1 0 (by omega) (by omega)
  have v1 : 0 ≤ (laR f N).va 1 ∧ (laR f N).va 1 ≤ 9 := h1 1 (by omega) (by omega)
  have v2 : 1 ≤ (laR f N).va 2 ∧ (laR f N).va 2 ≤ 30 := h1 2 (by omega) (by omega)
  have v3 : 0 ≤ (laR f N).va 3 ∧ (laR f N).va 3 ≤ 9 := h1 3 (by omega) (by omega)
  have v4 : 0 ≤ (laR f N).va 4 ∧ (laR f N).va 4 ≤ 9 := h1 4 (by omega) (by omega)
  refine ⟨rfl, ⟨Int.le_refl 0, by show (0 : Int) ≤ 5; omega⟩, ⟨Int.le_refl 0, Int.le_refl 0⟩, ⟨Int.le_refl 0, by show (0 : Int) ≤ 9999; omega⟩, ⟨v4.1, by show (laR f N).va 4 ≤ 99; omega⟩, v0, v1, v2, v3, fun p hpp => ?_⟩
  have : (p : Int) < 0 := hpp
  omega
theorem prF_ok {t v : Nat → Int} {k : Int} (h : cok 0 t) (h5 : ¬ 5 ≤ t 3) (hk : 1 ≤ k ∧ k ≤ 5) (h0 : 0 ≤ v 0 ∧ v 0 ≤ 9) (h1 : 0 ≤ v 1 ∧ v 1 ≤ 2) (h2 : 0 ≤ v 2 ∧ v 2 ≤ 9) : cok 0 (prF t k v) := by
  obtain ⟨a8, a3, a0, a1, a2, a4, a5, a6, a7, hq⟩ := h
  obtain ⟨p, hpe⟩ : ∃ p : Nat, t 3 = (p : Int) := ⟨(t 3).toNat, by omega⟩
  have e : ∀ i, i ≠ 3 → i < 9 → prF t k v i = t i := fun i h1 h2 => prF_lo h1 h2
  refine ⟨?_, ?_, ?_, ?_, ?_, ?_, ?_, ?_, ?_, ?_⟩
  · rw [e 8 (by omega) (by omega)]; exact a8
  · rw [prF_3]; omega
  · rw [e 0 (by omega) (by omega)]; exact a0
  · rw [e 1 (by omega) (by omega)]; exact a1
  · rw [e 2 (by omega) (by omega)]; exact a2
  · rw [e 4 (by omega) (by omega)]; exact a4
  · rw [e 5 (by omega) (by omega)]; exact a5
  · rw [e 6 (by omega) (by omega)]; exact a6
  · rw [e 7 (by omega) (by omega)]; exact a7
  · intro q hq2
    rw [prF_3] at hq2
    obtain ⟨p1, p2, p3, p4⟩ := prF_hi (v := v) (k := k) (q := q) hpe (by omega) (by omega)
    rw [p1, p2, p3, p4]
    by_cases hqp : q = p
    · rw [if_pos hqp, if_pos hqp, if_pos hqp, if_pos hqp]
      omega
    · rw [if_neg hqp, if_neg hqp, if_neg hqp, if_neg hqp]
      exact hq q (by omega)
theorem piF_ok {f : Nat → Int} {N : Nat} : ∀ m a t, cok 0 t → (piF f N m a t).ok = true → cok 0 (piF f N m a t).va
  | 0, _, _, h, _ => h
  | m + 1, a, t, h, ho => by
    rw [piF_s] at ho ⊢
    by_cases h1 : N ≤ a
    · rw [if_pos h1]
      exact h
    · rw [if_neg h1] at ho ⊢
      by_cases h2 : kiF (f a) = 0
      · rw [if_pos h2] at ho
        cases ho
      · rw [if_neg h2] at ho ⊢
        by_cases h3 : 5 ≤ t 3
        · rw [if_pos h3] at ho
          cases ho
        · rw [if_neg h3] at ho ⊢
          by_cases h4 : (piR f N a).ok = true
          · rw [if_pos h4] at ho ⊢
            have hv := piR_va h4
            have hki := kiF_in (f a)
            exact piF_ok m _ _ (prF_ok h h3 (by omega) hv.1 hv.2.1 hv.2.2) ho
          · rw [if_neg h4] at ho
            cases ho
theorem coF_ok {f : Nat → Int} {N : Nat} (h : (coF f N).ok = true) : cok 0 (coF f N).va := by
  unfold coF at h ⊢
  by_cases h1 : (laF f N).ok = true
  · rw [if_pos h1] at h ⊢
    refine piF_ok _ _ _ ?_ h
    unfold laF at h1 ⊢
    by_cases h2 : ¬ (0 < N ∧ f 0 = 108)
    · rw [if_pos h2] at h1
      cases h1
    · rw [if_neg h2] at h1 ⊢
      by_cases h3 : (laR f N).ok = true
      · rw [if_pos h3]
        exact laR_ok h3
      · rw [if_neg h3] at h1
        cases h1
  · rw [if_neg h1] at h
    exact absurd h h1
theorem laF_pl {f : Nat → Int} {N : Nat} : (laF f N).pl ≤ N := by
  unfold laF
  by_cases h2 : ¬ (0 < N ∧ f 0 = 108)
  · rw [if_pos h2]
    exact Nat.zero_le _
  · rw [if_neg h2]
    have h1 : (laR f N).pl ≤ N := (psL_at 5 0 1 zZ (by omega)).2
    split
    · exact h1
    · exact h1
theorem laF_ok {f : Nat → Int} {N : Nat} (h : (laF f N).ok = true) : cok 0 (laF f N).va ∧ (laF f N).va 3 = 0 := by
  unfold laF at h ⊢
  by_cases h2 : ¬ (0 < N ∧ f 0 = 108)
  · rw [if_pos h2] at h
    cases h
  · rw [if_neg h2] at h ⊢
    by_cases h3 : (laR f N).ok = true
    · rw [if_pos h3]
      exact ⟨laR_ok h3, rfl⟩
    · rw [if_neg h3] at h
      cases h
section
variable {rc : ZRC} {σ α : Mem} {f : Nat → Int} {N a : Nat}
abbrev RP (σ : Mem) (R : PR) (v : Int) (σ' : Mem) : Prop := ((v = 1 ∧ R.ok = true ∧ cR σ' 13 R.va) ∨ (v = 0 ∧ R.ok = false ∧ σ' 5 4 = R.fa)) ∧ σ' 5 3 = (R.pl : Int) ∧ FT σ σ'
theorem k_readPiers {t : Nat → Int} (r4 : rc 4 = some (3, loP)) (r5 : rc 5 = some (3, hiP)) (hT : TC σ f N a) (hF : TF f N) (ha : a ≤ N) (hR : cR σ 13 t) (hk : cok 0 t) (h30 : t 3 = 0) : KI rc M_X9_readPiers [zR 5, zR 13] σ (RP σ (piF f N N a t)) := by
  have hzP : ∀ k, k < 3 → zin (loP k) ∧ zin (hiP k) := by
    intro k _
    unfold loP hiP
    split <;> omega
  have loop : ∀ m a p : Nat, N ≤ a + m → a ≤ N → ∀ (t : Nat → Int) (σ' : Mem) (x3 : Option ZV), t 3 = (p : Int) → cok 0 t → TC σ' f N a → cR σ' 13 t → FT σ σ' → Z rc M_X9_readPiers 0 0 2 [some (zR 5), some (zR 13), some (zI (p : Int)), x3] [] (hp σ') (qI (RP σ (piF f N m a t))) := by
    intro m
    induction m with
    | zero =>
      intro a p hm ha t σ' x3 h3 hk hT' hR' hf
      obtain ⟨t1, t2, t3⟩ := hT'
      have hN := hF.1
      have a3 := hk.2.1
      refine z_iload_n dX9_readPiers_2 rfl ?_
      refine z_iconst dX9_readPiers_3 ?_
      refine z_icmp_gt (tgt := 101) dX9_readPiers_4 (by decide) (by omega) (by omega) (fun b4 => ?_) (fun b4 => ?_)
      · omega
      first | refine z_aload_n dX9_readPiers_7 rfl ?_ | refine z_aload_nT dX9_readPiers_7 rfl ?_
      refine h_geti dX9_readPiers_8 fl_X9_20 (by first | assumption | rfl) (by rfl) ?_
      first | refine z_aload_n dX9_readPiers_11 rfl ?_ | refine z_aload_nT dX9_readPiers_11 rfl ?_
      refine h_geti dX9_readPiers_12 fl_X9_16 (by first | assumption | rfl) (by rfl) ?_
      refine z_icmp_ge (tgt := 101) dX9_readPiers_15 (by decide) (by omega) (by omega) (fun b15 => ?_) (fun b15 => ?_)
      · refine z_iconst dX9_readPiers_101 ?_
        refine h_zret dX9_readPiers_102 rfl (by omega) rfl rfl ?_
        exact ⟨Or.inl ⟨rfl, rfl, hR'⟩, t2, hf⟩
      · omega
    | succ m ih =>
      intro a p hm ha t σ' x3 h3 hk hT' hR' hf
      obtain ⟨t1, t2, t3⟩ := hT'
      have hN := hF.1
      have a3 := hk.2.1
      rw [piF_s]
      refine z_iload_n dX9_readPiers_2 rfl ?_
      refine z_iconst dX9_readPiers_3 ?_
      refine z_icmp_gt (tgt := 101) dX9_readPiers_4 (by decide) (by omega) (by omega) (fun b4 => ?_) (fun b4 => ?_)
      · omega
      first | refine z_aload_n dX9_readPiers_7 rfl ?_ | refine z_aload_nT dX9_readPiers_7 rfl ?_
      refine h_geti dX9_readPiers_8 fl_X9_20 (by first | assumption | rfl) (by rfl) ?_
      first | refine z_aload_n dX9_readPiers_11 rfl ?_ | refine z_aload_nT dX9_readPiers_11 rfl ?_
      refine h_geti dX9_readPiers_12 fl_X9_16 (by first | assumption | rfl) (by rfl) ?_
      refine z_icmp_ge (tgt := 101) dX9_readPiers_15 (by decide) (by omega) (by omega) (fun b15 => ?_) (fun b15 => ?_)
      · rw [if_pos (by omega)]
        refine z_iconst dX9_readPiers_101 ?_
        refine h_zret dX9_readPiers_102 rfl (by omega) rfl rfl ?_
        exact ⟨Or.inl ⟨rfl, rfl, hR'⟩, t2, hf⟩
      · rw [if_neg (by omega)]
        have hfa := hF.2 a (by omega)
        first | refine z_aload_n dX9_readPiers_18 rfl ?_ | refine z_aload_nT dX9_readPiers_18 rfl ?_
        refine h_Vi0 (Y' := M_X9_byteHere) dX9_readPiers_19 zw_350 zw_352 zs_4 rfl ok_X9_byteHere (by decide) rfl (Nat.le_of_ble_eq_true rfl) ⟨rfl, rfl⟩ (by decide) (by first | assumption | rfl) (k_byteHere ⟨t1, t2, t3⟩ hF ha) (fun vv σ2 hq => ?_)
        obtain ⟨hv, rfl⟩ := hq
        have hv : vv = f a := by omega
        subst hv
        refine h_Si1 (Y' := M_X9_kindOfLetter) dX9_readPiers_22 zw_381 zw_382 ok_X9_kindOfLetter (by decide) rfl (Nat.le_of_ble_eq_true rfl) ⟨rfl, rfl⟩ (by decide) (k_kindOfLetter (by omega)) (fun vv σ2 hq => ?_)
        obtain ⟨rfl, rfl⟩ := hq
        have hki := kiF_in (f a)
        refine z_istore_n dX9_readPiers_25 (by decide) rfl ?_
        refine z_iload_n dX9_readPiers_26 rfl ?_
        refine z_if_ne (tgt := 36) dX9_readPiers_27 (by decide) (by omega) (fun b27 => ?_) (fun b27 => ?_)
        · rw [if_neg (by omega)]
          refine z_iload_n dX9_readPiers_36 rfl ?_
          refine z_iconst dX9_readPiers_37 ?_
          refine z_icmp_lt (tgt := 47) dX9_readPiers_38 (by decide) (by omega) (by omega) (fun b38 => ?_) (fun b38 => ?_)
          · rw [if_neg (by omega)]
            first | refine z_aload_n dX9_readPiers_47 rfl ?_ | refine z_aload_nT dX9_readPiers_47 rfl ?_
            refine z_dup dX9_readPiers_48 rfl ?_
            refine h_geti dX9_readPiers_49 fl_X9_20 (by first | assumption | rfl) (by rfl) ?_
            refine z_iconst dX9_readPiers_52 ?_
            refine z_iadd dX9_readPiers_53 ?_
            refine h_puti dX9_readPiers_54 fp_X9_20 (by first | assumption | rfl) (by rfl) ?_
            first | refine z_aload_n dX9_readPiers_57 rfl ?_ | refine z_aload_nT dX9_readPiers_57 rfl ?_
            refine z_gets 4 dX9_readPiers_58 rfl zw_384 ?_
            refine z_gets 5 dX9_readPiers_61 rfl zw_386 ?_
            rw [t2]
            obtain ⟨σ3, e3⟩ : ∃ z, z = zu σ2 5 3 ((a : Int) + 1) := ⟨_, rfl⟩
            rw [← e3]
            have hf3 : FT σ2 σ3 := fun o j e1 e2 e4 => by
              rw [e3]
              by_cases ho : o = 5
              · subst ho
                rw [zu_j (by omega)]
              · rw [zu_o ho]
            have hT3 : TC σ3 f N (a + 1) := TC_FT ⟨t1, t2, t3⟩ hf3 (by rw [e3, zu_eq]; omega)
            have hR3 : cR σ3 13 t := cR_eq hR' (fun o j e1 e2 => by rw [e3, zu_o (by omega)])
            have hf3 := hf.tr hf3
            refine h_Vi2 (Y' := M_X9_readNumbers) dX9_readPiers_64 zw_362 zw_364 zs_6 rfl ok_X9_readNumbers (by decide) rfl (Nat.le_of_ble_eq_true rfl) ⟨rfl, rfl⟩ (by decide) (by first | assumption | rfl) (k_readNumbers r4 r5 (by omega) hzP hT3 hF (by omega) zZ) (fun vv σ2 hq => ?_)
            obtain ⟨q1, q2, q3⟩ := hq
            have q2 : σ2 5 3 = ((piR f N a).pl : Int) := q2
            have q4 : FT σ3 σ2 := fun o j e1 e2 e4 => q3 o j e1 e4
            have hpl : a + 1 ≤ (piR f N a).pl ∧ (piR f N a).pl ≤ N := psL_at 3 0 (a + 1) zZ (by omega)
            rcases q1 with ⟨rfl, o1, o2⟩ | ⟨rfl, o1, o2⟩
            · have o1 : (piR f N a).ok = true := o1
              have o2 : ∀ j, j < 3 → σ2 7 j = (piR f N a).va j := o2
              have hv := piR_va o1
              rw [if_pos o1]
              refine z_if_ne (tgt := 72) dX9_readPiers_67 (by decide) (by omega) (fun b67 => ?_) (fun b67 => ?_)
              · have hR2 : cR σ2 13 t := cR_eq hR3 (fun o j e1 e2 => q3 o j (by omega) (by omega))
                first | refine z_aload_n dX9_readPiers_72 rfl ?_ | refine z_aload_nT dX9_readPiers_72 rfl ?_
                refine z_iload_n dX9_readPiers_73 rfl ?_
                first | refine z_aload_n dX9_readPiers_74 rfl ?_ | refine z_aload_nT dX9_readPiers_74 rfl ?_
                refine h_getr dX9_readPiers_75 fl_X9_13 (by first | assumption | rfl) (by rfl) ?_
                refine z_iconst dX9_readPiers_78 ?_
                first | refine h_iald dX9_readPiers_79 (by first | assumption | rfl) (by repeat' first | apply zc_add | apply zc_mul | with_reducible exact zc_var _ | exact zc_lit _) (by omega) (by decide) ?_ | refine z_ialdT _ dX9_readPiers_79 (by assumption) (by repeat' first | apply zc_add | apply zc_mul | with_reducible exact zc_var _ | exact zc_lit _) (by omega) (by omega) ?_
                first | refine z_aload_n dX9_readPiers_80 rfl ?_ | refine z_aload_nT dX9_readPiers_80 rfl ?_
                refine h_getr dX9_readPiers_81 fl_X9_13 (by first | assumption | rfl) (by rfl) ?_
                refine z_iconst dX9_readPiers_84 ?_
                first | refine h_iald dX9_readPiers_85 (by first | assumption | rfl) (by repeat' first | apply zc_add | apply zc_mul | with_reducible exact zc_var _ | exact zc_lit _) (by omega) (by decide) ?_ | refine z_ialdT _ dX9_readPiers_85 (by assumption) (by repeat' first | apply zc_add | apply zc_mul | with_reducible exact zc_var _ | exact zc_lit _) (by omega) (by omega) ?_
                first | refine z_aload_n dX9_readPiers_86 rfl ?_ | refine z_aload_nT dX9_readPiers_86 rfl ?_
                refine h_getr dX9_readPiers_87 fl_X9_13 (by first | assumption | rfl) (by rfl) ?_
                refine z_iconst dX9_readPiers_90 ?_
                first | refine h_iald dX9_readPiers_91 (by first | assumption | rfl) (by repeat' first | apply zc_add | apply zc_mul | with_reducible exact zc_var _ | exact zc_lit _) (by omega) (by decide) ?_ | refine z_ialdT _ dX9_readPiers_91 (by assumption) (by repeat' first | apply zc_add | apply zc_mul | with_reducible exact zc_var _ | exact zc_lit _) (by omega) (by omega) ?_
                rw [o2 0 (by omega), o2 1 (by omega), o2 2 (by omega)]
                obtain ⟨σ4, rfl⟩ : ∃ z, z = σ2 := ⟨_, rfl⟩
                refine h_Vv4 (Y' := M_X2_addPier) dX9_readPiers_92 zw_388 zw_389 zw_390 rfl ok_X2_addPier (by decide) rfl (Nat.le_of_ble_eq_true rfl) ⟨rfl, rfl⟩ (by decide) (by first | assumption | rfl) (k_addPier (n := p) (Or.inr (Or.inl rfl)) (hR2.2.1.trans h3) (by omega)) (fun σ2 hq => ?_)
                obtain ⟨c5, cj, d1, d2, d3, d4, dj, cf⟩ := hq
                refine z_iinc dX9_readPiers_95 rfl (by decide) rfl ?_
                refine z_goto (tgt := 2) dX9_readPiers_98 (by decide) ?_
                have c53 : σ2 5 3 = ((piR f N a).pl : Int) := by rw [cf 5 3 (by omega)]; exact q2
                have hf5 : FT σ3 σ2 := q4.tr (fun o j e1 e2 e4 => cf o j (by omega))
                have := ih (piR f N a).pl (p + 1) (by omega) (by omega) (prF t (kiF (f a)) (piR f N a).va) σ2 (some (zI (kiF (f a)))) (by rw [prF_3]; omega) (prF_ok hk (by omega) (by omega) hv.1 hv.2.1 hv.2.2) (TC_FT hT3 hf5 c53) (by
                  obtain ⟨s4, s5, s6, s7, s8, s9, s10, s11, s12, sp⟩ := hR2
                  refine ⟨?_, ?_, ?_, ?_, ?_, ?_, ?_, ?_, ?_, ?_⟩
                  · rw [prF_lo (by omega) (by omega), cj 4 (by omega)]; exact s4
                  · rw [prF_3, c5]; omega
                  · rw [prF_lo (by omega) (by omega), cj 6 (by omega)]; exact s6
                  · rw [prF_lo (by omega) (by omega), cj 7 (by omega)]; exact s7
                  · rw [prF_lo (by omega) (by omega), cj 8 (by omega)]; exact s8
                  · rw [prF_lo (by omega) (by omega), cj 9 (by omega)]; exact s9
                  · rw [prF_lo (by omega) (by omega), cj 10 (by omega)]; exact s10
                  · rw [prF_lo (by omega) (by omega), prF_lo (by omega) (by omega), cj 11 (by omega)]; exact s11
                  · rw [prF_lo (by omega) (by omega), cj 12 (by omega)]; exact s12
                  · intro q hq2
                    rw [prF_3] at hq2
                    obtain ⟨p1, p2, p3, p4⟩ := prF_hi (v := (piR f N a).va) (k := kiF (f a)) (q := q) h3 (by omega) (by omega)
                    rw [p1, p2, p3, p4]
                    by_cases hqp : q = p
                    · subst hqp
                      rw [if_pos rfl, if_pos rfl, if_pos rfl, if_pos rfl]
                      exact ⟨d1, d2, d3, d4⟩
                    · rw [if_neg hqp, if_neg hqp, if_neg hqp, if_neg hqp]
                      have := sp q (by omega)
                      exact ⟨(dj 0 q hqp).trans this.1, (dj 1 q hqp).trans this.2.1, (dj 2 q hqp).trans this.2.2.1, (dj 3 q hqp).trans this.2.2.2⟩) (hf3.tr hf5)
                rw [nsucc] at this
                exact this
              · omega
            · have o1 : (piR f N a).ok = false := o1
              have o2 : σ2 5 4 = (piR f N a).fa := o2
              rw [if_neg (by rw [o1]; decide)]
              refine z_if_ne (tgt := 72) dX9_readPiers_67 (by decide) (by omega) (fun b67 => ?_) (fun b67 => ?_)
              · omega
              · refine z_iconst dX9_readPiers_70 ?_
                refine h_zret dX9_readPiers_71 rfl (by omega) rfl rfl ?_
                exact ⟨Or.inr ⟨rfl, rfl, o2⟩, q2, hf3.tr q4⟩
          · rw [if_pos (by omega)]
            first | refine z_aload_n dX9_readPiers_41 rfl ?_ | refine z_aload_nT dX9_readPiers_41 rfl ?_
            refine z_iconst dX9_readPiers_42 ?_
            refine h_Vi1 (Y' := M_X9_fail) dX9_readPiers_43 zw_354 zw_356 zs_5 rfl ok_X9_fail (by decide) rfl (Nat.le_of_ble_eq_true rfl) ⟨rfl, rfl⟩ (by decide) (by first | assumption | rfl) (k_fail) (fun vv σ2 hq => ?_)
            obtain ⟨rfl, rfl⟩ := hq
            refine h_zret dX9_readPiers_46 rfl (by omega) rfl rfl ?_
            exact ⟨Or.inr ⟨rfl, rfl, zu_eq⟩, by rw [zu_j (by omega)]; exact t2, fun o j e1 e2 e4 => by
              by_cases ho : o = 5
              · subst ho
                rw [zu_j (by omega)]
                exact hf _ _ e1 e2 e4
              · rw [zu_o ho]
                exact hf _ _ e1 e2 e4⟩
        · rw [if_pos (by omega)]
          first | refine z_aload_n dX9_readPiers_30 rfl ?_ | refine z_aload_nT dX9_readPiers_30 rfl ?_
          refine z_iconst dX9_readPiers_31 ?_
          refine h_Vi1 (Y' := M_X9_fail) dX9_readPiers_32 zw_354 zw_356 zs_5 rfl ok_X9_fail (by decide) rfl (Nat.le_of_ble_eq_true rfl) ⟨rfl, rfl⟩ (by decide) (by first | assumption | rfl) (k_fail) (fun vv σ2 hq => ?_)
          obtain ⟨rfl, rfl⟩ := hq
          refine h_zret dX9_readPiers_35 rfl (by omega) rfl rfl ?_
          exact ⟨Or.inr ⟨rfl, rfl, zu_eq⟩, by rw [zu_j (by omega)]; exact t2, fun o j e1 e2 e4 => by
            by_cases ho : o = 5
            · subst ho
              rw [zu_j (by omega)]
              exact hf _ _ e1 e2 e4
            · rw [zu_o ho]
              exact hf _ _ e1 e2 e4⟩
  refine K_of 2 (by decide) (Nat.le_of_ble_eq_true rfl) (show Z _ _ 0 0 0 [some (zR 5), some (zR 13), none, none] [] _ _ from ?_)
  refine z_iconst dX9_readPiers_0 ?_
  refine z_istore_n dX9_readPiers_1 (by decide) rfl ?_
  exact loop N a 0 (by omega) ha t σ none h30 hk hT hR FT.rf
theorem k_readInto (r2 : rc 2 = some (5, loL)) (r3 : rc 3 = some (5, hiL)) (r4 : rc 4 = some (3, loP)) (r5 : rc 5 = some (3, hiP)) (h52 : σ 5 2 = (N : Int)) (h6 : ∀ i, i < N → σ 6 i = f i) (hF : TF f N) : KI rc M_X9_readInto [zR 5, zR 13] σ (fun v σ' => ((v = 1 ∧ (coF f N).ok = true ∧ cR σ' 13 (coF f N).va) ∨ (v = 0 ∧ (coF f N).ok = false ∧ σ' 5 4 = (coF f N).fa)) ∧ σ' 5 3 = ((coF f N).pl : Int) ∧ σ' 5 2 = 0 ∧ ∀ o j, o ≠ 7 → ¬ (13 ≤ o ∧ o ≤ 17) → o ≠ 5 → σ' o j = σ o j) := by
  have fin : ∀ (σ2 : Mem) (v : Int), (v = 0 ∨ v = 1) → RP σ (coF f N) v σ2 → Z rc M_X9_readInto 0 0 31 [some (zR 5), some (zR 13), none] [zI v] (hp σ2) (qI (fun v σ' => ((v = 1 ∧ (coF f N).ok = true ∧ cR σ' 13 (coF f N).va) ∨ (v = 0 ∧ (coF f N).ok = false ∧ σ' 5 4 = (coF f N).fa)) ∧ σ' 5 3 = ((coF f N).pl : Int) ∧ σ' 5 2 = 0 ∧ ∀ o j, o ≠ 7 → ¬ (13 ≤ o ∧ o ≤ 17) → o ≠ 5 → σ' o j = σ o j)) := by
    intro σ2 v hv01 hv
    obtain ⟨h1, h2, h3⟩ := hv
    refine z_istore_n dX9_readInto_31 (by decide) rfl ?_
    first | refine z_aload_n dX9_readInto_32 rfl ?_ | refine z_aload_nT dX9_readInto_32 rfl ?_
    refine z_iconst dX9_readInto_33 ?_
    refine h_puti dX9_readInto_34 fp_X9_16 (by first | assumption | rfl) (by rfl) ?_
    refine z_iload_n dX9_readInto_37 rfl ?_
    refine h_zret dX9_readInto_38 rfl (by omega) rfl rfl ?_
    refine ⟨?_, ?_, zu_eq, fun o j e1 e2 e3 => by rw [zu_o e3]; exact h3 o j e1 e2 (by omega)⟩
    · rcases h1 with ⟨a1, a2, a3⟩ | ⟨a1, a2, a3⟩
      · exact Or.inl ⟨a1, a2, cR_eq a3 (fun o j e1 e2 => zu_o (by omega))⟩
      · exact Or.inr ⟨a1, a2, by rw [zu_j (by omega)]; exact a3⟩
    · rw [zu_j (by omega)]
      exact h2
  refine K_of 1 (by decide) (Nat.le_of_ble_eq_true rfl) (show Z _ _ 0 0 0 [some (zR 5), some (zR 13), none] [] _ _ from ?_)
  first | refine z_aload_n dX9_readInto_0 rfl ?_ | refine z_aload_nT dX9_readInto_0 rfl ?_
  refine z_iconst dX9_readInto_1 ?_
  refine h_puti dX9_readInto_2 fp_X9_20 (by first | assumption | rfl) (by rfl) ?_
  first | refine z_aload_n dX9_readInto_5 rfl ?_ | refine z_aload_nT dX9_readInto_5 rfl ?_
  refine z_iconst dX9_readInto_6 ?_
  refine h_puti dX9_readInto_7 fp_X9_23 (by first | assumption | rfl) (by rfl) ?_
  first | refine z_aload_n dX9_readInto_10 rfl ?_ | refine z_aload_nT dX9_readInto_10 rfl ?_
  first | refine z_aload_n dX9_readInto_11 rfl ?_ | refine z_aload_nT dX9_readInto_11 rfl ?_
  obtain ⟨σ3, e3⟩ : ∃ z, z = zu (zu σ 5 3 0) 5 4 0 := ⟨_, rfl⟩
  rw [← e3]
  have hf3 : FT σ σ3 := fun o j e1 e2 e4 => by
    rw [e3]
    by_cases ho : o = 5
    · subst ho
      rw [zu_j (by omega), zu_j (by omega)]
    · rw [zu_o ho, zu_o ho]
  have hT3 : TC σ3 f N 0 := ⟨by rw [e3, zu_j (by omega), zu_j (by omega)]; exact h52, by rw [e3, zu_j (by omega), zu_eq]; rfl, fun i hi => by rw [e3, zu_o (by omega), zu_o (by omega)]; exact h6 i hi⟩
  refine h_Vi1 (Y' := M_X9_readLaw) dX9_readInto_12 zw_342 zw_344 zs_2 rfl ok_X9_readLaw (by decide) rfl (Nat.le_of_ble_eq_true rfl) ⟨rfl, rfl⟩ (by decide) (by first | assumption | rfl) (k_readLaw r2 r3 hT3 hF) (fun vv σ2 hq => ?_)
  obtain ⟨q1, q2, q3⟩ := hq
  have q3' := hf3.tr q3
  rcases q1 with ⟨rfl, o1, o2⟩ | ⟨rfl, o1, o2⟩
  · have hk := laF_ok o1
    have eC : coF f N = piF f N N (laF f N).pl (laF f N).va := by
      unfold coF
      rw [if_pos o1]
    refine z_if_eq (tgt := 30) dX9_readInto_15 (by decide) (by omega) (fun b15 => ?_) (fun b15 => ?_)
    · omega
    · first | refine z_aload_n dX9_readInto_18 rfl ?_ | refine z_aload_nT dX9_readInto_18 rfl ?_
      first | refine z_aload_n dX9_readInto_19 rfl ?_ | refine z_aload_nT dX9_readInto_19 rfl ?_
      obtain ⟨σ4, rfl⟩ : ∃ z, z = σ2 := ⟨_, rfl⟩
      refine h_Vi1 (Y' := M_X9_readPiers) dX9_readInto_20 zw_377 zw_379 zs_8 rfl ok_X9_readPiers (by decide) rfl (Nat.le_of_ble_eq_true rfl) ⟨rfl, rfl⟩ (by decide) (by first | assumption | rfl) (k_readPiers r4 r5 (TC_FT hT3 q3 q2) hF laF_pl o2 hk.1 hk.2) (fun vv σ2 hq => ?_)
      obtain ⟨w1, w2, w3⟩ := hq
      rw [← eC] at w1 w2
      have w3 := q3'.tr w3
      rcases w1 with ⟨rfl, y1, y2⟩ | ⟨rfl, y1, y2⟩
      · refine z_if_eq (tgt := 30) dX9_readInto_23 (by decide) (by omega) (fun b23 => ?_) (fun b23 => ?_)
        · omega
        · refine z_iconst dX9_readInto_26 ?_
          refine z_goto (tgt := 31) dX9_readInto_27 (by decide) ?_
          exact fin _ 1 (Or.inr rfl) ⟨Or.inl ⟨rfl, y1, y2⟩, w2, w3⟩
      · refine z_if_eq (tgt := 30) dX9_readInto_23 (by decide) (by omega) (fun b23 => ?_) (fun b23 => ?_)
        · refine z_iconst dX9_readInto_30 ?_
          exact fin _ 0 (Or.inl rfl) ⟨Or.inr ⟨rfl, y1, y2⟩, w2, w3⟩
        · omega
  · have eC : coF f N = laF f N := by
      unfold coF
      rw [if_neg (by rw [o1]; decide)]
    refine z_if_eq (tgt := 30) dX9_readInto_15 (by decide) (by omega) (fun b15 => ?_) (fun b15 => ?_)
    · refine z_iconst dX9_readInto_30 ?_
      exact fin _ 0 (Or.inl rfl) (by rw [eC]; exact ⟨Or.inr ⟨rfl, o1, o2⟩, q2, q3'⟩)
    · omega
end
