/-! the reference: isRead, coast -/
section
variable {rc : ZRC} {σ α : Mem} {f : Nat → Int} {N : Nat}
theorem m_isRead (h4 : σ 40 4 = (N : Int)) (h44 : ∀ i, i < N → σ 44 i = f i) (hF : TF f N) : KI rc M_X12_isRead [zR 40] σ (fun v σ' => ((v = 1 ∧ (coF f N).ok = true ∧ mR σ' 46 (coF f N).va) ∨ (v = 0 ∧ (coF f N).ok = false ∧ σ' 40 7 = ((coF f N).pl : Int) ∧ σ' 40 10 = (coF f N).fa)) ∧ FP σ σ') := by
  have loop : ∀ m a : Nat, N ≤ a + m → a ≤ N → ∀ (t : Nat → Int) (σ' : Mem) (x1 : Option ZV), cok 0 t → TK σ' f N a → (∀ j, j < 29 → σ' 46 j = t j) → FP σ σ' → Z rc M_X12_isRead 0 0 47 [some (zR 40), x1] [] (hp σ') (qI (fun v σ' => ((v = 1 ∧ (piF f N m a t).ok = true ∧ mR σ' 46 (piF f N m a t).va) ∨ (v = 0 ∧ (piF f N m a t).ok = false ∧ σ' 40 7 = ((piF f N m a t).pl : Int) ∧ σ' 40 10 = (piF f N m a t).fa)) ∧ FP σ σ')) := by
    intro m
    induction m with
    | zero =>
      intro a hm ha t σ' x1 hk hTK ht hf
      have h8 : σ' 40 8 = -2 := by
        rcases hTK.2 with ⟨h1, h2⟩ | ⟨h1, h2⟩ | ⟨h1, h2⟩
        · exact h2
        · omega
        · omega
      first | refine z_aload_n dX12_isRead_47 rfl ?_ | refine z_aload_nT dX12_isRead_47 rfl ?_
      refine h_geti dX12_isRead_48 fl_X12_90 (by first | assumption | rfl) (by rfl) ?_
      refine z_bipush dX12_isRead_51 rfl ?_
      refine z_icmp_eq (tgt := 72) dX12_isRead_53 (by decide) (by omega) (by omega) (fun b53 => ?_) (fun b53 => ?_)
      · refine z_iconst dX12_isRead_72 ?_
        refine h_zret dX12_isRead_73 rfl (by omega) rfl rfl ?_
        exact ⟨Or.inl ⟨rfl, rfl, ht⟩, hf⟩
      · omega
    | succ m ih =>
      intro a hm ha t σ' x1 hk hTK ht hf
      by_cases haN : a = N
      · have h8 : σ' 40 8 = -2 := by
          rcases hTK.2 with ⟨h1, h2⟩ | ⟨h1, h2⟩ | ⟨h1, h2⟩
          · exact h2
          · omega
          · omega
        rw [piF_s, if_pos (by omega)]
        first | refine z_aload_n dX12_isRead_47 rfl ?_ | refine z_aload_nT dX12_isRead_47 rfl ?_
        refine h_geti dX12_isRead_48 fl_X12_90 (by first | assumption | rfl) (by rfl) ?_
        refine z_bipush dX12_isRead_51 rfl ?_
        refine z_icmp_eq (tgt := 72) dX12_isRead_53 (by decide) (by omega) (by omega) (fun b53 => ?_) (fun b53 => ?_)
        · refine z_iconst dX12_isRead_72 ?_
          refine h_zret dX12_isRead_73 rfl (by omega) rfl rfl ?_
          exact ⟨Or.inl ⟨rfl, rfl, ht⟩, hf⟩
        · omega
      · have ha' : a < N := by omega
        have hfa := hF.2 a ha'
        have h8 : ¬ σ' 40 8 = -2 ∧ zin (σ' 40 8) := by
          rcases hTK.2 with ⟨h1, h2⟩ | ⟨h1, h2, h3, _⟩ | ⟨h1, h2, h3, _⟩
          · omega
          · rw [h3]
            split <;> omega
          · rw [h3]
            split <;> omega
        rw [piF_p ha']
        first | refine z_aload_n dX12_isRead_47 rfl ?_ | refine z_aload_nT dX12_isRead_47 rfl ?_
        refine h_geti dX12_isRead_48 fl_X12_90 (by first | assumption | rfl) (by rfl) ?_
        refine z_bipush dX12_isRead_51 rfl ?_
        refine z_icmp_eq (tgt := 72) dX12_isRead_53 (by decide) (by omega) (by omega) (fun b53 => ?_) (fun b53 => ?_)
        · omega
        · first | refine z_aload_n dX12_isRead_56 rfl ?_ | refine z_aload_nT dX12_isRead_56 rfl ?_
          refine h_Vi0 (Y' := M_X12_isPier) dX12_isRead_57 zw_922 zw_924 zs_35 rfl ok_X12_isPier (by decide) rfl (Nat.le_of_ble_eq_true rfl) ⟨rfl, rfl⟩ (by decide) (by first | assumption | rfl) (m_isPier hTK ((hf 40 4 (by omega) (by omega)).trans h4) (fun i hi => (hf 44 i (by omega) (by omega)).trans (h44 i hi)) hF ha' ht hk) (fun vv σ2 hq => ?_)
          obtain ⟨q, qf⟩ := hq
          have qf := hf.tr qf
          rcases q with ⟨rfl, o1, o2, o3⟩ | ⟨rfl, o1, o2, o3⟩
          · have ho := pR_ok hk o1 ha'
            rw [if_pos o1]
            refine z_if_ne (tgt := 65) dX12_isRead_60 (by decide) (by omega) (fun b60 => ?_) (fun b60 => ?_)
            · first | refine z_aload_n dX12_isRead_65 rfl ?_ | refine z_aload_nT dX12_isRead_65 rfl ?_
              obtain ⟨σ1, rfl⟩ : ∃ z, z = σ2 := ⟨_, rfl⟩
              refine h_Vv0 (Y' := M_X12_nextToken) dX12_isRead_66 zw_906 zw_908 zs_31 rfl ok_X12_nextToken (by decide) rfl (Nat.le_of_ble_eq_true rfl) ⟨rfl, rfl⟩ (by decide) (by first | assumption | rfl) (m_nextToken (a := (pR f N a t).pl) ⟨(qf 40 4 (by omega) (by omega)).trans h4, o2, fun i hi => (qf 44 i (by omega) (by omega)).trans (h44 i hi)⟩ hF ho.2.2) (fun σ2 hq => ?_)
              obtain ⟨w1, w2⟩ := hq
              refine z_goto (tgt := 47) dX12_isRead_69 (by decide) ?_
              exact ih (pR f N a t).pl (by omega) ho.2.2 (pR f N a t).va σ2 x1 ho.1 w1 (fun j hj => (w2 46 j (by omega)).trans (o3 j hj)) (qf.tr w2.fp)
            · omega
          · rw [if_neg (by rw [o1]; decide)]
            refine z_if_ne (tgt := 65) dX12_isRead_60 (by decide) (by omega) (fun b60 => ?_) (fun b60 => ?_)
            · omega
            · refine z_iconst dX12_isRead_63 ?_
              refine h_zret dX12_isRead_64 rfl (by omega) rfl rfl ?_
              exact ⟨Or.inr ⟨rfl, o1, o2, o3⟩, qf⟩
  have clr : ∀ m k : Nat, k + m = 29 → ∀ σ' : Mem, (∀ j, j < k → σ' 46 j = 0) → FP σ σ' → Z rc M_X12_isRead 0 0 2 [some (zR 40), some (zI (k : Int))] [] (hp σ') (qI (fun v σ' => ((v = 1 ∧ (coF f N).ok = true ∧ mR σ' 46 (coF f N).va) ∨ (v = 0 ∧ (coF f N).ok = false ∧ σ' 40 7 = ((coF f N).pl : Int) ∧ σ' 40 10 = (coF f N).fa)) ∧ FP σ σ')) := by
    intro m
    induction m with
    | zero =>
      intro k hk σ' hz hf
      refine z_iload_n dX12_isRead_2 rfl ?_
      refine z_bipush dX12_isRead_3 rfl ?_
      refine z_icmp_ge (tgt := 21) dX12_isRead_5 (by decide) (by omega) (by omega) (fun b5 => ?_) (fun b5 => ?_)
      · first | refine z_aload_n dX12_isRead_21 rfl ?_ | refine z_aload_nT dX12_isRead_21 rfl ?_
        refine z_iconst dX12_isRead_22 ?_
        refine h_puti dX12_isRead_23 fp_X12_81 (by first | assumption | rfl) (by rfl) ?_
        first | refine z_aload_n dX12_isRead_26 rfl ?_ | refine z_aload_nT dX12_isRead_26 rfl ?_
        refine h_getr dX12_isRead_27 fl_X12_25 (by first | assumption | rfl) (by rfl) ?_
        refine z_bipush dX12_isRead_30 rfl ?_
        refine z_iconst dX12_isRead_32 ?_
        refine h_iast dX12_isRead_33 (by first | assumption | rfl) (by repeat' first | apply zc_add | apply zc_mul | with_reducible exact zc_var _ | exact zc_lit _) (by omega) (by decide) ?_
        first | refine z_aload_n dX12_isRead_34 rfl ?_ | refine z_aload_nT dX12_isRead_34 rfl ?_
        obtain ⟨σ3, e3⟩ : ∃ z, z = zu (zu σ' 40 6 0) 46 8 1 := ⟨_, rfl⟩
        rw [← e3]
        have f3 : FP σ σ3 := hf.tr (fun o j h1 h2 => by
          rw [e3, zu_o h2]
          by_cases ho : o = 40
          · subst ho
            rw [zu_j (by omega)]
          · rw [zu_o ho])
        have hT3 : TM σ3 f N 0 := ⟨(f3 40 4 (by omega) (by omega)).trans h4, by rw [e3, zu_o (by omega), zu_eq]; rfl, fun i hi => (f3 44 i (by omega) (by omega)).trans (h44 i hi)⟩
        have hz8 : ∀ j, j < 29 → σ3 46 j = if j = 8 then 1 else 0 := by
          intro j hj
          rw [e3]
          by_cases h8 : j = 8
          · subst h8
            rw [zu_eq, if_pos rfl]
          · rw [zu_j h8, zu_o (by omega), if_neg h8]
            exact hz j (by omega)
        refine h_Vi0 (Y' := M_X12_isLaw) dX12_isRead_35 zw_898 zw_900 zs_29 rfl ok_X12_isLaw (by decide) rfl (Nat.le_of_ble_eq_true rfl) ⟨rfl, rfl⟩ (by decide) (by first | assumption | rfl) (m_isLaw hT3 hF hz8) (fun vv σ2 hq => ?_)
        obtain ⟨q, qf⟩ := hq
        have qf := f3.tr qf
        rcases q with ⟨rfl, o1, o2, o3⟩ | ⟨rfl, o1, o2, o3⟩
        · have hk0 := laF_ok o1
          have eC : coF f N = piF f N N (laF f N).pl (laF f N).va := by
            unfold coF
            rw [if_pos o1]
          rw [eC]
          refine z_if_ne (tgt := 43) dX12_isRead_38 (by decide) (by omega) (fun b38 => ?_) (fun b38 => ?_)
          · first | refine z_aload_n dX12_isRead_43 rfl ?_ | refine z_aload_nT dX12_isRead_43 rfl ?_
            obtain ⟨σ1, rfl⟩ : ∃ z, z = σ2 := ⟨_, rfl⟩
            refine h_Vv0 (Y' := M_X12_nextToken) dX12_isRead_44 zw_906 zw_908 zs_31 rfl ok_X12_nextToken (by decide) rfl (Nat.le_of_ble_eq_true rfl) ⟨rfl, rfl⟩ (by decide) (by first | assumption | rfl) (m_nextToken (a := (laF f N).pl) ⟨(qf 40 4 (by omega) (by omega)).trans h4, o2, fun i hi => (qf 44 i (by omega) (by omega)).trans (h44 i hi)⟩ hF laF_pl) (fun σ2 hq => ?_)
            obtain ⟨w1, w2⟩ := hq
            exact loop N (laF f N).pl (by omega) laF_pl (laF f N).va σ2 _ hk0.1 w1 (fun j hj => (w2 46 j (by omega)).trans (o3 j hj)) (qf.tr w2.fp)
          · omega
        · have eC : coF f N = laF f N := by
            unfold coF
            rw [if_neg (by rw [o1]; decide)]
          rw [eC]
          refine z_if_ne (tgt := 43) dX12_isRead_38 (by decide) (by omega) (fun b38 => ?_) (fun b38 => ?_)
          · omega
          · refine z_iconst dX12_isRead_41 ?_
            refine h_zret dX12_isRead_42 rfl (by omega) rfl rfl ?_
            exact ⟨Or.inr ⟨rfl, o1, o2, o3⟩, qf⟩
      · omega
    | succ m ih =>
      intro k hk σ' hz hf
      refine z_iload_n dX12_isRead_2 rfl ?_
      refine z_bipush dX12_isRead_3 rfl ?_
      refine z_icmp_ge (tgt := 21) dX12_isRead_5 (by decide) (by omega) (by omega) (fun b5 => ?_) (fun b5 => ?_)
      · omega
      · first | refine z_aload_n dX12_isRead_8 rfl ?_ | refine z_aload_nT dX12_isRead_8 rfl ?_
        refine h_getr dX12_isRead_9 fl_X12_25 (by first | assumption | rfl) (by rfl) ?_
        refine z_iload_n dX12_isRead_12 rfl ?_
        refine z_iconst dX12_isRead_13 ?_
        refine h_iast dX12_isRead_14 (by first | assumption | rfl) (by repeat' first | apply zc_add | apply zc_mul | with_reducible exact zc_var _ | exact zc_lit _) (by omega) (by decide) ?_
        refine z_iinc dX12_isRead_15 rfl (by decide) rfl ?_
        refine z_goto (tgt := 2) dX12_isRead_18 (by decide) ?_
        have := ih (k + 1) (by omega) (zu σ' 46 k 0) (fun j hj => by
          by_cases h : j = k
          · subst h
            rw [zu_eq]
          · rw [zu_j h]
            exact hz j (by omega)) (hf.tr (fun o j h1 h2 => zu_o h2))
        rw [nsucc] at this
        exact this
  refine K_of 1 (by decide) (Nat.le_of_ble_eq_true rfl) (show Z _ _ 0 0 0 [some (zR 40), none] [] _ _ from ?_)
  refine z_iconst dX12_isRead_0 ?_
  refine z_istore_n dX12_isRead_1 (by decide) rfl ?_
  exact clr 29 0 (by omega) σ (fun j hj => absurd hj (by omega)) FP.rf
end
