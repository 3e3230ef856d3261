/-! the reference: law and piers -/
theorem zup_c {g h : Nat → Int} {i j : Nat} {x : Int} (e : g j = h j) : zup g i x j = zup h i x j := by
  unfold zup
  split
  · rfl
  · exact e
section
variable {rc : ZRC} {σ α : Mem} {f : Nat → Int} {N a : Nat}
def LQ (σ : Mem) (R : PR) (v : Int) (σ' : Mem) : Prop := ((v = 1 ∧ R.ok = true ∧ σ' 40 6 = (R.pl : Int) ∧ ∀ j, j < 29 → σ' 46 j = R.va j) ∨ (v = 0 ∧ R.ok = false ∧ σ' 40 7 = (R.pl : Int) ∧ σ' 40 10 = R.fa)) ∧ FP σ σ'
theorem m_isLaw (hT : TM σ f N 0) (hF : TF f N) (hz : ∀ j, j < 29 → σ 46 j = if j = 8 then 1 else 0) : KI rc M_X12_isLaw [zR 40] σ (LQ σ (laF f N)) := by
  refine K_of 0 (by decide) (Nat.le_of_ble_eq_true rfl) (show Z _ _ 0 0 0 [some (zR 40)] [] _ _ from ?_)
  first | refine z_aload_n dX12_isLaw_0 rfl ?_ | refine z_aload_nT dX12_isLaw_0 rfl ?_
  refine z_bipush dX12_isLaw_1 rfl ?_
  refine h_Vi1 (Y' := M_X12_isSign) dX12_isLaw_3 zw_902 zw_904 zs_30 rfl ok_X12_isSign (by decide) rfl (Nat.le_of_ble_eq_true rfl) ⟨rfl, rfl⟩ (by decide) (by first | assumption | rfl) (m_isSign (by omega) hT hF (by omega)) (fun vv σ2 hq => ?_)
  obtain ⟨q, qf⟩ := hq
  rcases q with ⟨rfl, g1, g2⟩ | ⟨rfl, g1, g2, g3⟩
  · have eL : laF f N = if (laR f N).ok = true then (true, (laR f N).pl, 0, lwF (laR f N).va) else (false, (laR f N).pl, (laR f N).fa, zZ) := by
      unfold laF
      rw [if_neg (by omega)]
    have no : ∀ (σ' : Mem), (laR f N).ok = false → σ' 40 7 = ((laR f N).pl : Int) → σ' 40 10 = (laR f N).fa → FP σ σ' → Z rc M_X12_isLaw 0 0 80 [some (zR 40)] [] (hp σ') (qI (LQ σ (laF f N))) := by
      intro σ' h1 h2 h3 h4
      refine z_iconst dX12_isLaw_80 ?_
      refine h_zret dX12_isLaw_81 rfl (by omega) rfl rfl ?_
      rw [eL, if_neg (by rw [h1]; decide)]
      exact ⟨Or.inr ⟨rfl, rfl, h2, h3⟩, h4⟩
    refine z_if_eq (tgt := 80) dX12_isLaw_6 (by decide) (by omega) (fun b6 => ?_) (fun b6 => ?_)
    · omega
    · have f0 := qf.fp
      have hT0 : TM σ2 f N 1 := TM_FP hT f0 g2
      have h46 : ∀ j, j < 29 → σ2 46 j = if j = 8 then 1 else 0 := fun j hj => (qf 46 j (by omega)).trans (hz j hj)
      obtain ⟨τ0, rfl⟩ : ∃ z, z = σ2 := ⟨_, rfl⟩
      have e0 : laR f N = psL f N loL hiL 5 5 0 1 zZ := rfl
      have ha0 : 1 ≤ N := by omega
      first | refine z_aload_n dX12_isLaw_9 rfl ?_ | refine z_aload_nT dX12_isLaw_9 rfl ?_
      refine z_iconst dX12_isLaw_10 ?_
      refine z_iconst dX12_isLaw_11 ?_
      refine z_bipush dX12_isLaw_12 rfl ?_
      refine z_bipush dX12_isLaw_14 rfl ?_
      refine h_Vi4 (Y' := M_X12_isPart_) dX12_isLaw_16 zw_914 zw_916 zs_33 rfl ok_X12_isPart_ (by decide) rfl (Nat.le_of_ble_eq_true rfl) ⟨rfl, rfl⟩ (by decide) (by first | assumption | rfl) (m_isPart_ (pos := 4) (lo := 0) (hi := 9) (s := 44) (by omega) (by omega) (by omega) (by omega) hT0 hF ha0) (fun vv σ2 hq => ?_)
      obtain ⟨q, qf⟩ := hq
      have f1 := f0.tr qf
      have ha1 : (ptF f N (1) 0 9 44).pl ≤ N := ptF_pl ha0
      have p0 : psL f N loL hiL 5 5 0 (1) (zZ) = if (ptF f N (1) 0 9 44).ok = true then psL f N loL hiL 5 4 1 (ptF f N (1) 0 9 44).pl (zup (zZ) 0 ((ptF f N (1) 0 9 44).va 0)) else (false, (ptF f N (1) 0 9 44).pl, (ptF f N (1) 0 9 44).fa, zZ) := psL_pt
      obtain ⟨P0, hP0⟩ : ∃ z, z = ptF f N (1) 0 9 44 := ⟨_, rfl⟩
      rw [← hP0] at q p0 ha1
      rcases q with ⟨rfl, o1, o2, o3⟩ | ⟨rfl, o1, o2, o3⟩
      rotate_left
      · rw [if_neg (by rw [o1]; decide)] at p0
        rw [p0] at e0
        refine z_if_eq (tgt := 80) dX12_isLaw_19 (by decide) (by omega) (fun b19 => ?_) (fun b19 => ?_)
        · exact no _ (by rw [e0]) (by rw [e0]; exact o2) (by rw [e0]; exact o3) f1
        · omega
      · rw [if_pos o1] at p0
        have e1 := e0.trans p0
        have u0 := o3
        have hT1 := TM_FP hT f1 o2
        refine z_if_eq (tgt := 80) dX12_isLaw_19 (by decide) (by omega) (fun b19 => ?_) (fun b19 => ?_)
        · omega
        · obtain ⟨τ1, rfl⟩ : ∃ z, z = σ2 := ⟨_, rfl⟩
          first | refine z_aload_n dX12_isLaw_22 rfl ?_ | refine z_aload_nT dX12_isLaw_22 rfl ?_
          refine z_iconst dX12_isLaw_23 ?_
          refine z_iconst dX12_isLaw_24 ?_
          refine z_bipush dX12_isLaw_25 rfl ?_
          refine z_bipush dX12_isLaw_27 rfl ?_
          refine h_Vi4 (Y' := M_X12_isPart_) dX12_isLaw_29 zw_914 zw_916 zs_33 rfl ok_X12_isPart_ (by decide) rfl (Nat.le_of_ble_eq_true rfl) ⟨rfl, rfl⟩ (by decide) (by first | assumption | rfl) (m_isPart_ (pos := 5) (lo := 0) (hi := 9) (s := 44) (by omega) (by omega) (by omega) (by omega) hT1 hF ha1) (fun vv σ2 hq => ?_)
          obtain ⟨q, qf⟩ := hq
          have f2 := f1.tr qf
          have ha2 : (ptF f N (P0.pl) 0 9 44).pl ≤ N := ptF_pl ha1
          have p1 : psL f N loL hiL 5 4 1 (P0.pl) (zup (zZ) 0 (P0.va 0)) = if (ptF f N (P0.pl) 0 9 44).ok = true then psL f N loL hiL 5 3 2 (ptF f N (P0.pl) 0 9 44).pl (zup (zup (zZ) 0 (P0.va 0)) 1 ((ptF f N (P0.pl) 0 9 44).va 0)) else (false, (ptF f N (P0.pl) 0 9 44).pl, (ptF f N (P0.pl) 0 9 44).fa, zup (zZ) 0 (P0.va 0)) := psL_pt
          obtain ⟨P1, hP1⟩ : ∃ z, z = ptF f N (P0.pl) 0 9 44 := ⟨_, rfl⟩
          rw [← hP1] at q p1 ha2
          rcases q with ⟨rfl, o1, o2, o3⟩ | ⟨rfl, o1, o2, o3⟩
          rotate_left
          · rw [if_neg (by rw [o1]; decide)] at p1
            rw [p1] at e1
            refine z_if_eq (tgt := 80) dX12_isLaw_32 (by decide) (by omega) (fun b32 => ?_) (fun b32 => ?_)
            · exact no _ (by rw [e1]) (by rw [e1]; exact o2) (by rw [e1]; exact o3) f2
            · omega
          · rw [if_pos o1] at p1
            have e2 := e1.trans p1
            have u1 := o3
            have hT2 := TM_FP hT f2 o2
            refine z_if_eq (tgt := 80) dX12_isLaw_32 (by decide) (by omega) (fun b32 => ?_) (fun b32 => ?_)
            · omega
            · obtain ⟨τ2, rfl⟩ : ∃ z, z = σ2 := ⟨_, rfl⟩
              first | refine z_aload_n dX12_isLaw_35 rfl ?_ | refine z_aload_nT dX12_isLaw_35 rfl ?_
              refine z_bipush dX12_isLaw_36 rfl ?_
              refine z_iconst dX12_isLaw_38 ?_
              refine z_bipush dX12_isLaw_39 rfl ?_
              refine z_bipush dX12_isLaw_41 rfl ?_
              refine h_Vi4 (Y' := M_X12_isPart_) dX12_isLaw_43 zw_914 zw_916 zs_33 rfl ok_X12_isPart_ (by decide) rfl (Nat.le_of_ble_eq_true rfl) ⟨rfl, rfl⟩ (by decide) (by first | assumption | rfl) (m_isPart_ (pos := 6) (lo := 1) (hi := 30) (s := 44) (by omega) (by omega) (by omega) (by omega) hT2 hF ha2) (fun vv σ2 hq => ?_)
              obtain ⟨q, qf⟩ := hq
              have f3 := f2.tr qf
              have ha3 : (ptF f N (P1.pl) 1 30 44).pl ≤ N := ptF_pl ha2
              have p2 : psL f N loL hiL 5 3 2 (P1.pl) (zup (zup (zZ) 0 (P0.va 0)) 1 (P1.va 0)) = if (ptF f N (P1.pl) 1 30 44).ok = true then psL f N loL hiL 5 2 3 (ptF f N (P1.pl) 1 30 44).pl (zup (zup (zup (zZ) 0 (P0.va 0)) 1 (P1.va 0)) 2 ((ptF f N (P1.pl) 1 30 44).va 0)) else (false, (ptF f N (P1.pl) 1 30 44).pl, (ptF f N (P1.pl) 1 30 44).fa, zup (zup (zZ) 0 (P0.va 0)) 1 (P1.va 0)) := psL_pt
              obtain ⟨P2, hP2⟩ : ∃ z, z = ptF f N (P1.pl) 1 30 44 := ⟨_, rfl⟩
              rw [← hP2] at q p2 ha3
              rcases q with ⟨rfl, o1, o2, o3⟩ | ⟨rfl, o1, o2, o3⟩
              rotate_left
              · rw [if_neg (by rw [o1]; decide)] at p2
                rw [p2] at e2
                refine z_if_eq (tgt := 80) dX12_isLaw_46 (by decide) (by omega) (fun b46 => ?_) (fun b46 => ?_)
                · exact no _ (by rw [e2]) (by rw [e2]; exact o2) (by rw [e2]; exact o3) f3
                · omega
              · rw [if_pos o1] at p2
                have e3 := e2.trans p2
                have u2 := o3
                have hT3 := TM_FP hT f3 o2
                refine z_if_eq (tgt := 80) dX12_isLaw_46 (by decide) (by omega) (fun b46 => ?_) (fun b46 => ?_)
                · omega
                · obtain ⟨τ3, rfl⟩ : ∃ z, z = σ2 := ⟨_, rfl⟩
                  first | refine z_aload_n dX12_isLaw_49 rfl ?_ | refine z_aload_nT dX12_isLaw_49 rfl ?_
                  refine z_bipush dX12_isLaw_50 rfl ?_
                  refine z_iconst dX12_isLaw_52 ?_
                  refine z_bipush dX12_isLaw_53 rfl ?_
                  refine z_bipush dX12_isLaw_55 rfl ?_
                  refine h_Vi4 (Y' := M_X12_isPart_) dX12_isLaw_57 zw_914 zw_916 zs_33 rfl ok_X12_isPart_ (by decide) rfl (Nat.le_of_ble_eq_true rfl) ⟨rfl, rfl⟩ (by decide) (by first | assumption | rfl) (m_isPart_ (pos := 7) (lo := 0) (hi := 9) (s := 44) (by omega) (by omega) (by omega) (by omega) hT3 hF ha3) (fun vv σ2 hq => ?_)
                  obtain ⟨q, qf⟩ := hq
                  have f4 := f3.tr qf
                  have ha4 : (ptF f N (P2.pl) 0 9 44).pl ≤ N := ptF_pl ha3
                  have p3 : psL f N loL hiL 5 2 3 (P2.pl) (zup (zup (zup (zZ) 0 (P0.va 0)) 1 (P1.va 0)) 2 (P2.va 0)) = if (ptF f N (P2.pl) 0 9 44).ok = true then psL f N loL hiL 5 1 4 (ptF f N (P2.pl) 0 9 44).pl (zup (zup (zup (zup (zZ) 0 (P0.va 0)) 1 (P1.va 0)) 2 (P2.va 0)) 3 ((ptF f N (P2.pl) 0 9 44).va 0)) else (false, (ptF f N (P2.pl) 0 9 44).pl, (ptF f N (P2.pl) 0 9 44).fa, zup (zup (zup (zZ) 0 (P0.va 0)) 1 (P1.va 0)) 2 (P2.va 0)) := psL_pt
                  obtain ⟨P3, hP3⟩ : ∃ z, z = ptF f N (P2.pl) 0 9 44 := ⟨_, rfl⟩
                  rw [← hP3] at q p3 ha4
                  rcases q with ⟨rfl, o1, o2, o3⟩ | ⟨rfl, o1, o2, o3⟩
                  rotate_left
                  · rw [if_neg (by rw [o1]; decide)] at p3
                    rw [p3] at e3
                    refine z_if_eq (tgt := 80) dX12_isLaw_60 (by decide) (by omega) (fun b60 => ?_) (fun b60 => ?_)
                    · exact no _ (by rw [e3]) (by rw [e3]; exact o2) (by rw [e3]; exact o3) f4
                    · omega
                  · rw [if_pos o1] at p3
                    have e4 := e3.trans p3
                    have u3 := o3
                    have hT4 := TM_FP hT f4 o2
                    refine z_if_eq (tgt := 80) dX12_isLaw_60 (by decide) (by omega) (fun b60 => ?_) (fun b60 => ?_)
                    · omega
                    · obtain ⟨τ4, rfl⟩ : ∃ z, z = σ2 := ⟨_, rfl⟩
                      first | refine z_aload_n dX12_isLaw_63 rfl ?_ | refine z_aload_nT dX12_isLaw_63 rfl ?_
                      refine z_iconst dX12_isLaw_64 ?_
                      refine z_iconst dX12_isLaw_65 ?_
                      refine z_bipush dX12_isLaw_66 rfl ?_
                      refine z_bipush dX12_isLaw_68 rfl ?_
                      refine h_Vi4 (Y' := M_X12_isPart_) dX12_isLaw_70 zw_914 zw_916 zs_33 rfl ok_X12_isPart_ (by decide) rfl (Nat.le_of_ble_eq_true rfl) ⟨rfl, rfl⟩ (by decide) (by first | assumption | rfl) (m_isPart_ (pos := 2) (lo := 0) (hi := 9) (s := 59) (by omega) (by omega) (by omega) (by omega) hT4 hF ha4) (fun vv σ2 hq => ?_)
                      obtain ⟨q, qf⟩ := hq
                      have f5 := f4.tr qf
                      have ha5 : (ptF f N (P3.pl) 0 9 59).pl ≤ N := ptF_pl ha4
                      have p4 : psL f N loL hiL 5 1 4 (P3.pl) (zup (zup (zup (zup (zZ) 0 (P0.va 0)) 1 (P1.va 0)) 2 (P2.va 0)) 3 (P3.va 0)) = if (ptF f N (P3.pl) 0 9 59).ok = true then psL f N loL hiL 5 0 5 (ptF f N (P3.pl) 0 9 59).pl (zup (zup (zup (zup (zup (zZ) 0 (P0.va 0)) 1 (P1.va 0)) 2 (P2.va 0)) 3 (P3.va 0)) 4 ((ptF f N (P3.pl) 0 9 59).va 0)) else (false, (ptF f N (P3.pl) 0 9 59).pl, (ptF f N (P3.pl) 0 9 59).fa, zup (zup (zup (zup (zZ) 0 (P0.va 0)) 1 (P1.va 0)) 2 (P2.va 0)) 3 (P3.va 0)) := psL_pt
                      obtain ⟨P4, hP4⟩ : ∃ z, z = ptF f N (P3.pl) 0 9 59 := ⟨_, rfl⟩
                      rw [← hP4] at q p4 ha5
                      rcases q with ⟨rfl, o1, o2, o3⟩ | ⟨rfl, o1, o2, o3⟩
                      rotate_left
                      · rw [if_neg (by rw [o1]; decide)] at p4
                        rw [p4] at e4
                        refine z_if_eq (tgt := 80) dX12_isLaw_73 (by decide) (by omega) (fun b73 => ?_) (fun b73 => ?_)
                        · exact no _ (by rw [e4]) (by rw [e4]; exact o2) (by rw [e4]; exact o3) f5
                        · omega
                      · rw [if_pos o1] at p4
                        have e5 := e4.trans p4
                        have u4 := o3
                        have hT5 := TM_FP hT f5 o2
                        refine z_if_eq (tgt := 80) dX12_isLaw_73 (by decide) (by omega) (fun b73 => ?_) (fun b73 => ?_)
                        · omega
                        · refine z_iconst dX12_isLaw_76 ?_
                          refine z_goto (tgt := 81) dX12_isLaw_77 (by decide) ?_
                          refine h_zret dX12_isLaw_81 rfl (by omega) rfl rfl ?_
                          rw [eL, e5]
                          refine ⟨Or.inl ⟨rfl, rfl, o2, fun j hj => ?_⟩, f5⟩
                          rw [u4 j]
                          show _ = lwF (zup (zup (zup (zup (zup (zZ) 0 (P0.va 0)) 1 (P1.va 0)) 2 (P2.va 0)) 3 (P3.va 0)) 4 (P4.va 0)) j
                          have h8 := h46 j hj
                          unfold lwF zup
                          by_cases j2 : j = 2
                          · subst j2
                            rfl
                          · rw [if_neg j2, if_neg j2, u3 j]
                            unfold zup
                            by_cases j7 : j = 7
                            · subst j7
                              rfl
                            · rw [if_neg j7, u2 j]
                              unfold zup
                              by_cases j6 : j = 6
                              · subst j6
                                rfl
                              · rw [if_neg j6, u1 j]
                                unfold zup
                                by_cases j5 : j = 5
                                · subst j5
                                  rfl
                                · rw [if_neg j5, u0 j]
                                  unfold zup
                                  by_cases j4 : j = 4
                                  · subst j4
                                    rfl
                                  · rw [if_neg j4, h8, if_neg j4, if_neg j5, if_neg j6, if_neg j7]
  · have eL : laF f N = (false, 0, 1, zZ) := by
      unfold laF
      rw [if_pos g1]
    refine z_if_eq (tgt := 80) dX12_isLaw_6 (by decide) (by omega) (fun b6 => ?_) (fun b6 => ?_)
    · refine z_iconst dX12_isLaw_80 ?_
      refine h_zret dX12_isLaw_81 rfl (by omega) rfl rfl ?_
      rw [eL]
      exact ⟨Or.inr ⟨rfl, rfl, g2, g3⟩, qf.fp⟩
    · omega
theorem m_sortBy {c : Int} (hc : zin c) : KI rc M_X12_sortBy [zI c] σ (fun v σ' => v = kiF c ∧ σ' = σ) := by
  unfold kiF
  refine K_of 0 (by decide) (Nat.le_of_ble_eq_true rfl) (show Z _ _ 0 0 0 [some (zI c)] [] _ _ from ?_)
  refine z_iload_n dX12_sortBy_0 rfl ?_
  refine z_bipush dX12_sortBy_1 rfl ?_
  refine z_icmp_ne (tgt := 10) dX12_sortBy_3 (by decide) (by omega) (by omega) (fun b3 => ?_) (fun b3 => ?_)
  · rw [if_neg b3]
    refine z_iload_n dX12_sortBy_10 rfl ?_
    refine z_bipush dX12_sortBy_11 rfl ?_
    refine z_icmp_ne (tgt := 20) dX12_sortBy_13 (by decide) (by omega) (by omega) (fun b13 => ?_) (fun b13 => ?_)
    · rw [if_neg b13]
      refine z_iload_n dX12_sortBy_20 rfl ?_
      refine z_bipush dX12_sortBy_21 rfl ?_
      refine z_icmp_ne (tgt := 30) dX12_sortBy_23 (by decide) (by omega) (by omega) (fun b23 => ?_) (fun b23 => ?_)
      · rw [if_neg b23]
        refine z_iload_n dX12_sortBy_30 rfl ?_
        refine z_bipush dX12_sortBy_31 rfl ?_
        refine z_icmp_ne (tgt := 40) dX12_sortBy_33 (by decide) (by omega) (by omega) (fun b33 => ?_) (fun b33 => ?_)
        · rw [if_neg b33]
          refine z_iload_n dX12_sortBy_40 rfl ?_
          refine z_bipush dX12_sortBy_41 rfl ?_
          refine z_icmp_ne (tgt := 50) dX12_sortBy_43 (by decide) (by omega) (by omega) (fun b43 => ?_) (fun b43 => ?_)
          · rw [if_neg b43]
            refine z_iconst dX12_sortBy_50 ?_
            refine h_iret dX12_sortBy_51 rfl rfl rfl ?_
            exact ⟨rfl, rfl⟩
          · rw [if_pos b43]
            refine z_iconst dX12_sortBy_46 ?_
            refine z_goto (tgt := 51) dX12_sortBy_47 (by decide) ?_
            refine h_iret dX12_sortBy_51 rfl rfl rfl ?_
            exact ⟨rfl, rfl⟩
        · rw [if_pos b33]
          refine z_iconst dX12_sortBy_36 ?_
          refine z_goto (tgt := 51) dX12_sortBy_37 (by decide) ?_
          refine h_iret dX12_sortBy_51 rfl rfl rfl ?_
          exact ⟨rfl, rfl⟩
      · rw [if_pos b23]
        refine z_iconst dX12_sortBy_26 ?_
        refine z_goto (tgt := 51) dX12_sortBy_27 (by decide) ?_
        refine h_iret dX12_sortBy_51 rfl rfl rfl ?_
        exact ⟨rfl, rfl⟩
    · rw [if_pos b13]
      refine z_iconst dX12_sortBy_16 ?_
      refine z_goto (tgt := 51) dX12_sortBy_17 (by decide) ?_
      refine h_iret dX12_sortBy_51 rfl rfl rfl ?_
      exact ⟨rfl, rfl⟩
  · rw [if_pos b3]
    refine z_iconst dX12_sortBy_6 ?_
    refine z_goto (tgt := 51) dX12_sortBy_7 (by decide) ?_
    refine h_iret dX12_sortBy_51 rfl rfl rfl ?_
    exact ⟨rfl, rfl⟩
end
