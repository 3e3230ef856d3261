/-! the reference: coast -/
def pR (f : Nat → Int) (N a : Nat) (t : Nat → Int) : PR := if kiF (f a) = 0 then (false, a, 1, t) else if 5 ≤ t 3 then (false, a, 3, t) else if (piR f N a).ok = true then (true, (piR f N a).pl, 0, prF t (kiF (f a)) (piR f N a).va) else (false, (piR f N a).pl, (piR f N a).fa, t)
theorem piF_p {f : Nat → Int} {N m a : Nat} {t : Nat → Int} (h : a < N) : piF f N (m + 1) a t = if (pR f N a t).ok = true then piF f N m (pR f N a t).pl (pR f N a t).va else pR f N a t := by
  rw [piF_s, if_neg (by omega)]
  unfold pR
  by_cases h1 : kiF (f a) = 0
  · rw [if_pos h1, if_pos h1]
    rfl
  · rw [if_neg h1, if_neg h1]
    by_cases h2 : 5 ≤ t 3
    · rw [if_pos h2, if_pos h2]
      rfl
    · rw [if_neg h2, if_neg h2]
      by_cases h3 : (piR f N a).ok = true
      · rw [if_pos h3, if_pos h3]
        rfl
      · rw [if_neg h3, if_neg h3]
        rfl
theorem pR_ok {f : Nat → Int} {N a : Nat} {t : Nat → Int} (hk : cok 0 t) (h : (pR f N a t).ok = true) (ha : a < N) : cok 0 (pR f N a t).va ∧ a + 1 ≤ (pR f N a t).pl ∧ (pR f N a t).pl ≤ N := by
  unfold pR at h ⊢
  by_cases h1 : kiF (f a) = 0
  · rw [if_pos h1] at h
    cases h
  · rw [if_neg h1] at h ⊢
    by_cases h2 : 5 ≤ t 3
    · rw [if_pos h2] at h
      cases h
    · rw [if_neg h2] at h ⊢
      by_cases h3 : (piR f N a).ok = true
      · rw [if_pos h3]
        have hv := piR_va h3
        have hki := kiF_in (f a)
        have hpl : a + 1 ≤ (piR f N a).pl ∧ (piR f N a).pl ≤ N := psL_at 3 0 (a + 1) zZ (by omega)
        exact ⟨prF_ok hk h2 (by omega) hv.1 hv.2.1 hv.2.2, hpl⟩
      · rw [if_neg h3] at h
        cases h
theorem kiF_let {c : Int} (h : ¬ kiF c = 0) : 97 ≤ c ∧ c ≤ 122 := by
  unfold kiF at h
  split at h
  · omega
  · split at h
    · omega
    · split at h
      · omega
      · split at h
        · omega
        · split at h
          · omega
          · exact absurd rfl h
section
variable {rc : ZRC} {σ α : Mem} {f : Nat → Int} {N a : Nat}
theorem m_isPier {t : Nat → Int} (hTK : TK σ f N a) (h4 : σ 40 4 = (N : Int)) (h44 : ∀ i, i < N → σ 44 i = f i) (hF : TF f N) (ha : a < N) (ht : ∀ j, j < 29 → σ 46 j = t j) (hk : cok 0 t) : KI rc M_X12_isPier [zR 40] σ (LQ σ (pR f N a t)) := by
  obtain ⟨q7, q⟩ := hTK
  have hfa := hF.2 a ha
  have hki := kiF_in (f a)
  have a3 := hk.2.1
  have er := ht 3 (by omega)
  obtain ⟨p, hpe⟩ : ∃ p : Nat, t 3 = (p : Int) := ⟨(t 3).toNat, by omega⟩
  have go : (¬ kiF (f a) = 0 → σ 40 6 = ((a + 1 : Nat) : Int)) → Z rc M_X12_isPier 0 0 18 [some (zR 40), none, none] [zI (kiF (f a))] (hp σ) (qI (LQ σ (pR f N a t))) := by
    intro h6
    refine z_istore_n dX12_isPier_18 (by decide) rfl ?_
    refine z_iload_n dX12_isPier_19 rfl ?_
    refine z_if_ne (tgt := 29) dX12_isPier_20 (by decide) (by omega) (fun b20 => ?_) (fun b20 => ?_)
    · have h6 := h6 b20
      have hT : TM σ f N (a + 1) := ⟨h4, h6, h44⟩
      first | refine z_aload_n dX12_isPier_29 rfl ?_ | refine z_aload_nT dX12_isPier_29 rfl ?_
      refine h_getr dX12_isPier_30 fl_X12_25 (by first | assumption | rfl) (by rfl) ?_
      refine z_iconst dX12_isPier_33 ?_
      first | refine h_iald dX12_isPier_34 (by first | assumption | rfl) (by repeat' first | apply zc_add | apply zc_mul | with_reducible exact zc_var _ | exact zc_lit _) (by omega) (by decide) ?_ | refine z_ialdT _ dX12_isPier_34 (by assumption) (by repeat' first | apply zc_add | apply zc_mul | with_reducible exact zc_var _ | exact zc_lit _) (by omega) (by omega) ?_
      rw [er, hpe]
      refine z_istore_n dX12_isPier_35 (by decide) rfl ?_
      refine z_iload_n dX12_isPier_36 rfl ?_
      refine z_iconst dX12_isPier_37 ?_
      refine z_icmp_ne (tgt := 47) dX12_isPier_38 (by decide) (by omega) (by omega) (fun b38 => ?_) (fun b38 => ?_)
      · have eR : pR f N a t = if (piR f N a).ok = true then (true, (piR f N a).pl, 0, prF t (kiF (f a)) (piR f N a).va) else (false, (piR f N a).pl, (piR f N a).fa, t) := by
          unfold pR
          rw [if_neg b20, if_neg (by omega)]
        have no : ∀ (σ' : Mem), (piR f N a).ok = false → σ' 40 7 = ((piR f N a).pl : Int) → σ' 40 10 = (piR f N a).fa → FP σ σ' → Z rc M_X12_isPier 0 0 104 [some (zR 40), some (zI (kiF (f a))), some (zI (p : Int))] [] (hp σ') (qI (LQ σ (pR f N a t))) := by
          intro σ' h1 h2 h3 h4
          refine z_iconst dX12_isPier_104 ?_
          refine h_zret dX12_isPier_105 rfl (by omega) rfl rfl ?_
          rw [eR, if_neg (by rw [h1]; decide)]
          exact ⟨Or.inr ⟨rfl, rfl, h2, h3⟩, h4⟩
        first | refine z_aload_n dX12_isPier_47 rfl ?_ | refine z_aload_nT dX12_isPier_47 rfl ?_
        refine h_getr dX12_isPier_48 fl_X12_25 (by first | assumption | rfl) (by rfl) ?_
        refine z_bipush dX12_isPier_51 rfl ?_
        refine z_iload_n dX12_isPier_53 rfl ?_
        refine z_iadd dX12_isPier_54 ?_
        refine z_iload_n dX12_isPier_55 rfl ?_
        refine h_iast dX12_isPier_56 (by first | assumption | rfl) (by repeat' first | apply zc_add | apply zc_mul | with_reducible exact zc_var _ | exact zc_lit _) (by omega) (by decide) ?_
        obtain ⟨τ0, hτ⟩ : ∃ z, z = zu σ 46 (9 + p) (kiF (f a)) := ⟨_, rfl⟩
        rw [← hτ]
        have f0 : FP σ τ0 := fun o j h1 h2 => by rw [hτ, zu_o h2]
        have w0 : ∀ j, τ0 46 j = zup (σ 46) (9 + p) (kiF (f a)) j := fun j => by
          rw [hτ]
          unfold zup
          by_cases hj : j = 9 + p
          · subst hj
            rw [zu_eq, if_pos rfl]
          · rw [zu_j hj, if_neg hj]
        have hT0 : TM τ0 f N (a + 1) := TM_FP hT f0 (by rw [hτ, zu_o (by omega)]; exact h6)
        have e0 : piR f N a = psL f N loP hiP 3 3 0 (a + 1) zZ := rfl
        have ha0 : a + 1 ≤ N := by omega
        first | refine z_aload_n dX12_isPier_57 rfl ?_ | refine z_aload_nT dX12_isPier_57 rfl ?_
        refine z_bipush dX12_isPier_58 rfl ?_
        refine z_iload_n dX12_isPier_60 rfl ?_
        refine z_iadd dX12_isPier_61 ?_
        rw [show (14 : Int) + (p : Int) = ((14 + p : Nat) : Int) by omega]
        refine z_iconst dX12_isPier_62 ?_
        refine z_bipush dX12_isPier_63 rfl ?_
        refine z_bipush dX12_isPier_65 rfl ?_
        refine h_Vi4 (Y' := M_X12_isPart_) dX12_isPier_67 zw_914 zw_916 zs_33 rfl ok_X12_isPart_ (by decide) rfl (Nat.le_of_ble_eq_true rfl) ⟨rfl, rfl⟩ (by decide) (by first | assumption | rfl) (m_isPart_ (pos := 14 + p) (lo := 0) (hi := 9) (s := 44) (by omega) (by omega) (by omega) (by omega) hT0 hF ha0) (fun vv σ2 hq => ?_)
        obtain ⟨q, qf⟩ := hq
        have f1 := f0.tr qf
        have ha1 : (ptF f N (a + 1) 0 9 44).pl ≤ N := ptF_pl ha0
        have p0 : psL f N loP hiP 3 3 0 (a + 1) (zZ) = if (ptF f N (a + 1) 0 9 44).ok = true then psL f N loP hiP 3 2 1 (ptF f N (a + 1) 0 9 44).pl (zup (zZ) 0 ((ptF f N (a + 1) 0 9 44).va 0)) else (false, (ptF f N (a + 1) 0 9 44).pl, (ptF f N (a + 1) 0 9 44).fa, zZ) := psL_pt
        obtain ⟨P0, hP0⟩ : ∃ z, z = ptF f N (a + 1) 0 9 44 := ⟨_, rfl⟩
        rw [← hP0] at q p0 ha1
        rcases q with ⟨rfl, o1, o2, o3⟩ | ⟨rfl, o1, o2, o3⟩
        rotate_left
        · rw [if_neg (by rw [o1]; decide)] at p0
          rw [p0] at e0
          refine z_if_eq (tgt := 104) dX12_isPier_70 (by decide) (by omega) (fun b70 => ?_) (fun b70 => ?_)
          · exact no _ (by rw [e0]) (by rw [e0]; exact o2) (by rw [e0]; exact o3) f1
          · omega
        · rw [if_pos o1] at p0
          have e1 := e0.trans p0
          have u0 := o3
          have hT1 := TM_FP hT f1 o2
          refine z_if_eq (tgt := 104) dX12_isPier_70 (by decide) (by omega) (fun b70 => ?_) (fun b70 => ?_)
          · omega
          · obtain ⟨τ1, rfl⟩ : ∃ z, z = σ2 := ⟨_, rfl⟩
            first | refine z_aload_n dX12_isPier_73 rfl ?_ | refine z_aload_nT dX12_isPier_73 rfl ?_
            refine z_bipush dX12_isPier_74 rfl ?_
            refine z_iload_n dX12_isPier_76 rfl ?_
            refine z_iadd dX12_isPier_77 ?_
            rw [show (19 : Int) + (p : Int) = ((19 + p : Nat) : Int) by omega]
            refine z_iconst dX12_isPier_78 ?_
            refine z_iconst dX12_isPier_79 ?_
            refine z_bipush dX12_isPier_80 rfl ?_
            refine h_Vi4 (Y' := M_X12_isPart_) dX12_isPier_82 zw_914 zw_916 zs_33 rfl ok_X12_isPart_ (by decide) rfl (Nat.le_of_ble_eq_true rfl) ⟨rfl, rfl⟩ (by decide) (by first | assumption | rfl) (m_isPart_ (pos := 19 + p) (lo := 0) (hi := 2) (s := 44) (by omega) (by omega) (by omega) (by omega) hT1 hF ha1) (fun vv σ2 hq => ?_)
            obtain ⟨q, qf⟩ := hq
            have f2 := f1.tr qf
            have ha2 : (ptF f N (P0.pl) 0 2 44).pl ≤ N := ptF_pl ha1
            have p1 : psL f N loP hiP 3 2 1 (P0.pl) (zup (zZ) 0 (P0.va 0)) = if (ptF f N (P0.pl) 0 2 44).ok = true then psL f N loP hiP 3 1 2 (ptF f N (P0.pl) 0 2 44).pl (zup (zup (zZ) 0 (P0.va 0)) 1 ((ptF f N (P0.pl) 0 2 44).va 0)) else (false, (ptF f N (P0.pl) 0 2 44).pl, (ptF f N (P0.pl) 0 2 44).fa, zup (zZ) 0 (P0.va 0)) := psL_pt
            obtain ⟨P1, hP1⟩ : ∃ z, z = ptF f N (P0.pl) 0 2 44 := ⟨_, rfl⟩
            rw [← hP1] at q p1 ha2
            rcases q with ⟨rfl, o1, o2, o3⟩ | ⟨rfl, o1, o2, o3⟩
            rotate_left
            · rw [if_neg (by rw [o1]; decide)] at p1
              rw [p1] at e1
              refine z_if_eq (tgt := 104) dX12_isPier_85 (by decide) (by omega) (fun b85 => ?_) (fun b85 => ?_)
              · exact no _ (by rw [e1]) (by rw [e1]; exact o2) (by rw [e1]; exact o3) f2
              · omega
            · rw [if_pos o1] at p1
              have e2 := e1.trans p1
              have u1 := o3
              have hT2 := TM_FP hT f2 o2
              refine z_if_eq (tgt := 104) dX12_isPier_85 (by decide) (by omega) (fun b85 => ?_) (fun b85 => ?_)
              · omega
              · obtain ⟨τ2, rfl⟩ : ∃ z, z = σ2 := ⟨_, rfl⟩
                first | refine z_aload_n dX12_isPier_88 rfl ?_ | refine z_aload_nT dX12_isPier_88 rfl ?_
                refine z_bipush dX12_isPier_89 rfl ?_
                refine z_iload_n dX12_isPier_91 rfl ?_
                refine z_iadd dX12_isPier_92 ?_
                rw [show (24 : Int) + (p : Int) = ((24 + p : Nat) : Int) by omega]
                refine z_iconst dX12_isPier_93 ?_
                refine z_bipush dX12_isPier_94 rfl ?_
                refine z_bipush dX12_isPier_96 rfl ?_
                refine h_Vi4 (Y' := M_X12_isPart_) dX12_isPier_98 zw_914 zw_916 zs_33 rfl ok_X12_isPart_ (by decide) rfl (Nat.le_of_ble_eq_true rfl) ⟨rfl, rfl⟩ (by decide) (by first | assumption | rfl) (m_isPart_ (pos := 24 + p) (lo := 0) (hi := 9) (s := 59) (by omega) (by omega) (by omega) (by omega) hT2 hF ha2) (fun vv σ2 hq => ?_)
                obtain ⟨q, qf⟩ := hq
                have f3 := f2.tr qf
                have ha3 : (ptF f N (P1.pl) 0 9 59).pl ≤ N := ptF_pl ha2
                have p2 : psL f N loP hiP 3 1 2 (P1.pl) (zup (zup (zZ) 0 (P0.va 0)) 1 (P1.va 0)) = if (ptF f N (P1.pl) 0 9 59).ok = true then psL f N loP hiP 3 0 3 (ptF f N (P1.pl) 0 9 59).pl (zup (zup (zup (zZ) 0 (P0.va 0)) 1 (P1.va 0)) 2 ((ptF f N (P1.pl) 0 9 59).va 0)) else (false, (ptF f N (P1.pl) 0 9 59).pl, (ptF f N (P1.pl) 0 9 59).fa, zup (zup (zZ) 0 (P0.va 0)) 1 (P1.va 0)) := psL_pt
                obtain ⟨P2, hP2⟩ : ∃ z, z = ptF f N (P1.pl) 0 9 59 := ⟨_, rfl⟩
                rw [← hP2] at q p2 ha3
                rcases q with ⟨rfl, o1, o2, o3⟩ | ⟨rfl, o1, o2, o3⟩
                rotate_left
                · rw [if_neg (by rw [o1]; decide)] at p2
                  rw [p2] at e2
                  refine z_if_ne (tgt := 106) dX12_isPier_101 (by decide) (by omega) (fun b101 => ?_) (fun b101 => ?_)
                  · omega
                  · exact no _ (by rw [e2]) (by rw [e2]; exact o2) (by rw [e2]; exact o3) f3
                · rw [if_pos o1] at p2
                  have e3 := e2.trans p2
                  have u2 := o3
                  have hT3 := TM_FP hT f3 o2
                  refine z_if_ne (tgt := 106) dX12_isPier_101 (by decide) (by omega) (fun b101 => ?_) (fun b101 => ?_)
                  rotate_left
                  · omega
                  · skip
                    have e46 : σ2 46 3 = t 3 := by
                      rw [u2 3, zup_ne (by omega), u1 3, zup_ne (by omega), u0 3, zup_ne (by omega), w0 3, zup_ne (by omega)]
                      exact er
                    first | refine z_aload_n dX12_isPier_106 rfl ?_ | refine z_aload_nT dX12_isPier_106 rfl ?_
                    refine h_getr dX12_isPier_107 fl_X12_25 (by first | assumption | rfl) (by rfl) ?_
                    refine z_iconst dX12_isPier_110 ?_
                    refine z_dup2 dX12_isPier_111 rfl rfl ?_
                    first | refine h_iald dX12_isPier_112 (by first | assumption | rfl) (by repeat' first | apply zc_add | apply zc_mul | with_reducible exact zc_var _ | exact zc_lit _) (by omega) (by decide) ?_ | refine z_ialdT _ dX12_isPier_112 (by assumption) (by repeat' first | apply zc_add | apply zc_mul | with_reducible exact zc_var _ | exact zc_lit _) (by omega) (by omega) ?_
                    refine z_iconst dX12_isPier_113 ?_
                    refine z_iadd dX12_isPier_114 ?_
                    refine h_iast dX12_isPier_115 (by first | assumption | rfl) (by repeat' first | apply zc_add | apply zc_mul | with_reducible exact zc_var _ | exact zc_lit _) (by omega) (by decide) ?_
                    refine z_iconst dX12_isPier_116 ?_
                    refine h_zret dX12_isPier_117 rfl (by omega) rfl rfl ?_
                    rw [e46, eR, e3]
                    refine ⟨Or.inl ⟨rfl, rfl, by rw [zu_o (by omega)]; exact o2, fun j hj => ?_⟩, fun o j h1 h2 => by rw [zu_o h2]; exact f3 o j h1 h2⟩
                    show _ = prF t (kiF (f a)) (zup (zup (zup (zZ) 0 (P0.va 0)) 1 (P1.va 0)) 2 (P2.va 0)) j
                    unfold prF
                    have ep : (t 3).toNat = p := by omega
                    rw [ep]
                    have ez : zu σ2 46 3 (t 3 + 1) 46 j = zup (σ2 46) 3 (t 3 + 1) j := by
                      unfold zup
                      by_cases h : j = 3
                      · subst h
                        rw [zu_eq, if_pos rfl]
                      · rw [zu_j h, if_neg h]
                    rw [ez]
                    exact zup_c ((u2 j).trans (zup_c ((u1 j).trans (zup_c ((u0 j).trans (zup_c ((w0 j).trans (zup_c (ht j hj)))))))))
      · first | refine z_aload_n dX12_isPier_41 rfl ?_ | refine z_aload_nT dX12_isPier_41 rfl ?_
        refine z_iconst dX12_isPier_42 ?_
        refine h_Vi1 (Y' := M_X12_fails) dX12_isPier_43 zw_910 zw_912 zs_32 rfl ok_X12_fails (by decide) rfl (Nat.le_of_ble_eq_true rfl) ⟨rfl, rfl⟩ (by decide) (by first | assumption | rfl) (m_fails) (fun vv σ2 hq => ?_)
        obtain ⟨rfl, rfl⟩ := hq
        refine h_zret dX12_isPier_46 rfl (by omega) rfl rfl ?_
        unfold pR
        rw [if_neg b20, if_pos (by omega)]
        exact ⟨Or.inr ⟨rfl, rfl, by rw [zu_j (by omega)]; exact q7, zu_eq⟩, (FM_zu (by omega)).fp⟩
    · first | refine z_aload_n dX12_isPier_23 rfl ?_ | refine z_aload_nT dX12_isPier_23 rfl ?_
      refine z_iconst dX12_isPier_24 ?_
      refine h_Vi1 (Y' := M_X12_fails) dX12_isPier_25 zw_910 zw_912 zs_32 rfl ok_X12_fails (by decide) rfl (Nat.le_of_ble_eq_true rfl) ⟨rfl, rfl⟩ (by decide) (by first | assumption | rfl) (m_fails) (fun vv σ2 hq => ?_)
      obtain ⟨rfl, rfl⟩ := hq
      refine h_zret dX12_isPier_28 rfl (by omega) rfl rfl ?_
      unfold pR
      rw [if_pos b20]
      exact ⟨Or.inr ⟨rfl, rfl, by rw [zu_j (by omega)]; exact q7, zu_eq⟩, (FM_zu (by omega)).fp⟩
  refine K_of 2 (by decide) (Nat.le_of_ble_eq_true rfl) (show Z _ _ 0 0 0 [some (zR 40), none, none] [] _ _ from ?_)
  rcases q with ⟨h1, h2⟩ | ⟨h1, h2, h3, h4, h5⟩ | ⟨h1, h2, h3, h5⟩
  · omega
  · have h3' : σ 40 8 = -3 ∨ σ 40 8 = -1 := by
      rw [h3]
      split
      · exact Or.inl rfl
      · exact Or.inr rfl
    have hk0 : kiF (f a) = 0 := by
      by_cases h : kiF (f a) = 0
      · exact h
      · have := kiF_let h
        omega
    first | refine z_aload_n dX12_isPier_0 rfl ?_ | refine z_aload_nT dX12_isPier_0 rfl ?_
    refine h_geti dX12_isPier_1 fl_X12_90 (by first | assumption | rfl) (by rfl) ?_
    refine z_if_le (tgt := 17) dX12_isPier_4 (by decide) (by omega) (fun b4 => ?_) (fun b4 => ?_)
    · refine z_iconst dX12_isPier_17 ?_
      rw [hk0] at go
      exact go (fun h => absurd rfl h)
    · omega
  · by_cases hl : letP (f a)
    · rw [if_pos hl] at h3
      first | refine z_aload_n dX12_isPier_0 rfl ?_ | refine z_aload_nT dX12_isPier_0 rfl ?_
      refine h_geti dX12_isPier_1 fl_X12_90 (by first | assumption | rfl) (by rfl) ?_
      refine z_if_le (tgt := 17) dX12_isPier_4 (by decide) (by omega) (fun b4 => ?_) (fun b4 => ?_)
      · omega
      · first | refine z_aload_n dX12_isPier_7 rfl ?_ | refine z_aload_nT dX12_isPier_7 rfl ?_
        refine h_geti dX12_isPier_8 fl_X12_90 (by first | assumption | rfl) (by rfl) ?_
        rw [h3]
        refine h_Si1 (Y' := M_X12_sortBy) dX12_isPier_11 zw_926 zw_927 ok_X12_sortBy (by decide) rfl (Nat.le_of_ble_eq_true rfl) ⟨rfl, rfl⟩ (by decide) (m_sortBy (by omega)) (fun vv σ2 hq => ?_)
        obtain ⟨rfl, rfl⟩ := hq
        refine z_goto (tgt := 18) dX12_isPier_14 (by decide) ?_
        exact go (fun _ => h5)
    · rw [if_neg hl] at h3
      have hk0 : kiF (f a) = 0 := by
        by_cases h : kiF (f a) = 0
        · exact h
        · exact absurd (Or.inl (kiF_let h)) hl
      first | refine z_aload_n dX12_isPier_0 rfl ?_ | refine z_aload_nT dX12_isPier_0 rfl ?_
      refine h_geti dX12_isPier_1 fl_X12_90 (by first | assumption | rfl) (by rfl) ?_
      refine z_if_le (tgt := 17) dX12_isPier_4 (by decide) (by omega) (fun b4 => ?_) (fun b4 => ?_)
      · refine z_iconst dX12_isPier_17 ?_
        rw [hk0] at go
        exact go (fun h => absurd rfl h)
      · omega
end
