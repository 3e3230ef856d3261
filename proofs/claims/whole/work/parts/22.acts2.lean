/-! acts are kept: the class's ring, the reference's rows -/
section
variable {rc : ZRC} {σ α : Mem}
theorem CI_act {σ' : Mem} {n : Int} {A : Nat → (Nat → Int)} (h : CI σ α) (hA : Cact σ' n (α 5 3) (actU α (α 5) n A)) (e : ∀ o j, o ≠ 28 → o ≠ 29 → σ' o j = σ o j) : CI σ' (actU α (α 5) n A) := by
  obtain ⟨⟨b1, b2⟩, d1, ⟨c1, c2⟩, d, ⟨⟨f1, f2⟩, f3, f4⟩, f, ⟨g1, g2⟩⟩ := h
  exact ⟨⟨(e _ _ (by omega) (by omega)).trans b1, (e _ _ (by omega) (by omega)).trans b2⟩, d1.eq (fun o j h1 h2 => e o j (by omega) (by omega)), ⟨(e _ _ (by omega) (by omega)).trans c1, fun i hi => (e _ _ (by omega) (by omega)).trans (c2 i hi)⟩, cR_eq d (fun o j h1 h2 => e o j (by omega) (by omega)), ⟨⟨(e _ _ (by omega) (by omega)).trans f1, (e _ _ (by omega) (by omega)).trans f2⟩, fun h => cR_eq (f3 h) (fun o j h1 h2 => e o j (by omega) (by omega)), fun h => cR_eq (f4 h) (fun o j h1 h2 => e o j (by omega) (by omega))⟩, hA, ⟨(e _ _ (by omega) (by omega)).trans g1, fun i hi => (e _ _ (by omega) (by omega)).trans (g2 i hi)⟩⟩
theorem CI_now {σ' : Mem} {t : Nat → Int} (h : CI σ α) (hR : cR σ' 8 t) (h3 : t 3 = α 5 3) (e : fr 8 5 σ σ') : CI σ' (nowU α t) := by
  obtain ⟨⟨b1, b2⟩, d1, ⟨c1, c2⟩, d, ⟨⟨f1, f2⟩, f3, f4⟩, f, ⟨g1, g2⟩⟩ := h
  have hA : Cact σ' (α 0 3) (t 3) (nowU α t) := by rw [h3]; exact (f.eq (fun o j h1 h2 => e o j (by omega))).congr nowU_10
  exact ⟨⟨(e _ _ (by omega)).trans b1, (e _ _ (by omega)).trans b2⟩, d1.eq (fun o j h1 h2 => e o j (by omega)), ⟨(e _ _ (by omega)).trans c1, fun i hi => (e _ _ (by omega)).trans (c2 i hi)⟩, hR, ⟨⟨(e _ _ (by omega)).trans f1, (e _ _ (by omega)).trans f2⟩, fun h => cR_eq (f3 h) (fun o j h1 h2 => e o j (by omega)), fun h => cR_eq (f4 h) (fun o j h1 h2 => e o j (by omega))⟩, hA, ⟨(e _ _ (by omega)).trans g1, fun i hi => (e _ _ (by omega)).trans (g2 i hi)⟩⟩
theorem MI_now {σ' : Mem} {t : Nat → Int} (h : MI σ α) (hR : mR σ' 45 t) (e : fm 45 σ σ') : MI σ' (nowU α t) := by
  obtain ⟨⟨b1, b2⟩, ⟨d1, d2⟩, ⟨c1, c2⟩, d, ⟨⟨f1, f2⟩, f3, f4⟩, ⟨k1, k2⟩, ⟨g1, g2⟩⟩ := h
  exact ⟨⟨(e _ _ (by omega)).trans b1, (e _ _ (by omega)).trans b2⟩, ⟨fun r hr => ⟨(e _ _ (by omega)).trans (d1 r hr).1, (e _ _ (by omega)).trans (d1 r hr).2⟩, fun i hi => (e _ _ (by omega)).trans (d2 i hi)⟩, ⟨(e _ _ (by omega)).trans c1, fun i hi => (e _ _ (by omega)).trans (c2 i hi)⟩, hR, ⟨⟨(e _ _ (by omega)).trans f1, (e _ _ (by omega)).trans f2⟩, fun h i hi => (e _ _ (by omega)).trans (f3 h i hi), fun h i hi => (e _ _ (by omega)).trans (f4 h i hi)⟩, ⟨(e _ _ (by omega)).trans k1, fun j hj i hi => by rw [nowU_10]; exact (e _ _ (by omega)).trans (k2 j hj i hi)⟩, ⟨(e _ _ (by omega)).trans g1, fun i hi => (e _ _ (by omega)).trans (g2 i hi)⟩⟩
theorem k_keep (hC : CI σ α) (hO : OK α) : KV rc M_X4_keep [zR 28, zR 8] σ (fun σ' => CI σ' (pshU α) ∧ ∀ o j, o ≠ 28 → o ≠ 29 → σ' o j = σ o j) := by
  have h3 := OKc_3 hO
  have hb := hO.1.2.2.2.1
  have hR := hC.2.2.2.1
  obtain ⟨a1, nx, a2, a3, a4⟩ := hC.2.2.2.2.2.1
  obtain ⟨N, hN⟩ : ∃ N : Nat, α 0 3 = (N : Int) := ⟨(α 0 3).toNat, by omega⟩
  rw [hN] at a1 a4
  have eN : ((N : Int)).toNat = N := by omega
  rw [eN] at a4
  have r6 := hR.2.2.1
  have r7 := hR.2.2.2.1
  have r8 := hR.2.2.2.2.1
  have r5 := hR.2.1
  have loop : ∀ n p : Nat, p + n = (α 5 3).toNat → ∀ σ' : Mem, σ' 29 (13 * nx) = α 5 0 → σ' 29 (13 * nx + 1) = α 5 1 → σ' 29 (13 * nx + 2) = α 5 2 → (∀ q : Nat, q < p → σ' 29 (13 * nx + 3 + q) = α 5 (24 + q) ∧ σ' 29 (13 * nx + 8 + q) = α 5 (19 + q)) → (∀ i, (i < 13 * nx ∨ 13 * nx + 13 ≤ i) → σ' 29 i = σ 29 i) → fm 29 σ σ' →
      Z rc M_X4_keep 0 0 44 [some (zR 28), some (zR 8), some (zI ((13 * nx : Nat) : Int)), some (zI (p : Int))] [] (hp σ') (qV (fun σ' => CI σ' (pshU α) ∧ ∀ o j, o ≠ 28 → o ≠ 29 → σ' o j = σ o j)) := by
    intro n
    induction n with
    | zero =>
      intro p hpn σ' i1 i2 i3 i4 i5 i6
      have j5 := i6 8 5 (by omega)
      have j1 := i6 28 1 (by omega)
      have j2 := i6 28 2 (by omega)
      refine z_iload_n dX4_keep_44 rfl ?_
      first | refine z_aload_n dX4_keep_45 rfl ?_ | refine z_aload_nT dX4_keep_45 rfl ?_
      refine h_geti dX4_keep_46 fl_X4_31 (by first | assumption | rfl) (by rfl) ?_
      refine z_icmp_ge (tgt := 91) dX4_keep_49 (by decide) (by omega) (by omega) (fun b49 => ?_) (fun b49 => ?_)
      · first | refine z_aload_n dX4_keep_91 rfl ?_ | refine z_aload_nT dX4_keep_91 rfl ?_
        first | refine z_aload_n dX4_keep_92 rfl ?_ | refine z_aload_nT dX4_keep_92 rfl ?_
        refine h_geti dX4_keep_93 fl_X4_15 (by first | assumption | rfl) (by rfl) ?_
        refine z_iconst dX4_keep_96 ?_
        refine z_iadd dX4_keep_97 ?_
        refine z_bipush dX4_keep_98 rfl ?_
        refine z_irem dX4_keep_100 (by omega) (by omega) (by omega) (by omega) ?_
        refine h_puti dX4_keep_101 fp_X4_15 (by first | assumption | rfl) (by rfl) ?_
        first | refine z_aload_n dX4_keep_104 rfl ?_ | refine z_aload_nT dX4_keep_104 rfl ?_
        refine z_bipush dX4_keep_105 rfl ?_
        first | refine z_aload_n dX4_keep_107 rfl ?_ | refine z_aload_nT dX4_keep_107 rfl ?_
        refine h_geti dX4_keep_108 fl_X4_19 (by first | assumption | rfl) (by rfl) ?_
        refine z_iconst dX4_keep_111 ?_
        refine z_iadd dX4_keep_112 ?_
        have e2 : zu σ' 28 1 ((σ' 28 1 + 1) % 24) 28 2 = (N : Int) := by rw [zu_j (by omega), j2, a1]
        rw [e2]
        refine h_Si2 (Y' := M_J9_min_7cf53) dX4_keep_113 zw_422 zw_423 ok_J9_min_7cf53 (by decide) rfl (Nat.le_of_ble_eq_true rfl) ⟨rfl, rfl⟩ (by decide) (k_min (by omega) (by omega)) (fun vv σ2 hq => ?_)
        obtain ⟨rfl, rfl⟩ := hq
        refine h_puti dX4_keep_116 fp_X4_19 (by first | assumption | rfl) (by rfl) ?_
        refine h_vret dX4_keep_119 rfl rfl rfl ?_
        rw [j1, a3]
        have ez : ∀ i, zu (zu σ' 28 1 (((nx : Int) + 1) % 24)) 28 2 (min 24 ((N : Int) + 1)) 29 i = σ' 29 i := fun i => by rw [zu_o (by omega), zu_o (by omega)]
        refine ⟨CI_act hC ⟨?_, (nx + 1) % 24, by omega, ?_, fun j hj => ?_⟩ (fun o j h1 h2 => by rw [zu_o h1, zu_o h1]; exact i6 o j h2), fun o j h1 h2 => by rw [zu_o h1, zu_o h1]; exact i6 o j h2⟩
        · rw [zu_eq, hN]
        · rw [zu_j (by omega), zu_eq]; omega
        · rw [actU_10, hN]
          rw [hN] at hj
          rw [ez, ez, ez]
          have em : (min 24 ((N : Int) + 1)).toNat = min 24 (N + 1) := by omega
          rw [em]
          by_cases hlt : N < 24
          · have e24 : min 24 (N + 1) = N + 1 := by omega
            rw [e24]
            by_cases hjN : j = N
            · subst hjN
              have ex : ((nx + 1) % 24 + 24 - (j + 1) + j) % 24 = nx := by omega
              rw [ex]
              have ep : psh α j = α 5 := by
                unfold psh
                rw [if_pos (by omega), if_pos (by omega)]
              rw [ep]
              refine ⟨i1, i2, i3, fun q hq => ?_⟩
              rw [ez, ez]
              exact i4 q (by omega)
            · have ex : ((nx + 1) % 24 + 24 - (N + 1) + j) % 24 = (nx + 24 - N + j) % 24 := by omega
              rw [ex]
              have hne : (nx + 24 - N + j) % 24 ≠ nx := by omega
              have ep : psh α j = α (10 + j) := by
                unfold psh
                rw [if_pos (by omega), if_neg (by omega)]
              rw [ep]
              obtain ⟨b0, b1, b2, bp⟩ := a4 j (by omega)
              generalize (nx + 24 - N + j) % 24 = x at hne b0 b1 b2 bp ⊢
              rw [i5 _ (by omega), i5 _ (by omega), i5 _ (by omega)]
              refine ⟨b0, b1, b2, fun q hq => ?_⟩
              rw [ez, ez, i5 _ (by omega), i5 _ (by omega)]
              exact bp q hq
          · have e24 : min 24 (N + 1) = 24 := by omega
            have eN24 : N = 24 := by omega
            rw [e24]
            by_cases hj23 : j = 23
            · subst hj23
              have ex : ((nx + 1) % 24 + 24 - 24 + 23) % 24 = nx := by omega
              rw [ex]
              have ep : psh α 23 = α 5 := by
                unfold psh
                rw [if_neg (by omega), if_pos rfl]
              rw [ep]
              refine ⟨i1, i2, i3, fun q hq => ?_⟩
              rw [ez, ez]
              exact i4 q (by omega)
            · have ex : ((nx + 1) % 24 + 24 - 24 + j) % 24 = (nx + 24 - N + (j + 1)) % 24 := by omega
              rw [ex]
              have hne : (nx + 24 - N + (j + 1)) % 24 ≠ nx := by omega
              have ep : psh α j = α (10 + (j + 1)) := by
                unfold psh
                rw [if_neg (by omega), if_neg hj23]
              rw [ep]
              obtain ⟨b0, b1, b2, bp⟩ := a4 (j + 1) (by omega)
              generalize (nx + 24 - N + (j + 1)) % 24 = x at hne b0 b1 b2 bp ⊢
              rw [i5 _ (by omega), i5 _ (by omega), i5 _ (by omega)]
              refine ⟨b0, b1, b2, fun q hq => ?_⟩
              rw [ez, ez, i5 _ (by omega), i5 _ (by omega)]
              exact bp q hq
      · omega
    | succ n ih =>
      intro p hpn σ' i1 i2 i3 i4 i5 i6
      have j5 := i6 8 5 (by omega)
      obtain ⟨p1, p2, p3, p4⟩ := cR8p hR (p := p) (by omega)
      refine z_iload_n dX4_keep_44 rfl ?_
      first | refine z_aload_n dX4_keep_45 rfl ?_ | refine z_aload_nT dX4_keep_45 rfl ?_
      refine h_geti dX4_keep_46 fl_X4_31 (by first | assumption | rfl) (by rfl) ?_
      refine z_icmp_ge (tgt := 91) dX4_keep_49 (by decide) (by omega) (by omega) (fun b49 => ?_) (fun b49 => ?_)
      · omega
      · first | refine z_aload_n dX4_keep_52 rfl ?_ | refine z_aload_nT dX4_keep_52 rfl ?_
        refine h_getr dX4_keep_53 fl_X4_11 (by first | assumption | rfl) (by rfl) ?_
        refine z_iload_n dX4_keep_56 rfl ?_
        refine z_iconst dX4_keep_57 ?_
        refine z_iadd dX4_keep_58 ?_
        refine z_iload_n dX4_keep_59 rfl ?_
        refine z_iadd dX4_keep_60 ?_
        first | refine z_aload_n dX4_keep_61 rfl ?_ | refine z_aload_nT dX4_keep_61 rfl ?_
        refine h_getr dX4_keep_62 fl_X4_34 (by first | assumption | rfl) (by rfl) ?_
        refine z_iload_n dX4_keep_65 rfl ?_
        first | refine h_iald dX4_keep_66 (by first | assumption | rfl) (by repeat' first | apply zc_add | apply zc_mul | with_reducible exact zc_var _ | exact zc_lit _) (by omega) (by decide) ?_ | refine z_ialdT _ dX4_keep_66 (by assumption) (by repeat' first | apply zc_add | apply zc_mul | with_reducible exact zc_var _ | exact zc_lit _) (by omega) (by omega) ?_
        refine h_iast dX4_keep_67 (by first | assumption | rfl) (by repeat' first | apply zc_add | apply zc_mul | with_reducible exact zc_var _ | exact zc_lit _) (by omega) (by decide) ?_
        first | refine z_aload_n dX4_keep_68 rfl ?_ | refine z_aload_nT dX4_keep_68 rfl ?_
        refine h_getr dX4_keep_69 fl_X4_11 (by first | assumption | rfl) (by rfl) ?_
        refine z_iload_n dX4_keep_72 rfl ?_
        refine z_bipush dX4_keep_73 rfl ?_
        refine z_iadd dX4_keep_75 ?_
        refine z_iload_n dX4_keep_76 rfl ?_
        refine z_iadd dX4_keep_77 ?_
        first | refine z_aload_n dX4_keep_78 rfl ?_ | refine z_aload_nT dX4_keep_78 rfl ?_
        refine h_getr dX4_keep_79 fl_X4_37 (by first | assumption | rfl) (by rfl) ?_
        refine z_iload_n dX4_keep_82 rfl ?_
        first | refine h_iald dX4_keep_83 (by first | assumption | rfl) (by repeat' first | apply zc_add | apply zc_mul | with_reducible exact zc_var _ | exact zc_lit _) (by omega) (by decide) ?_ | refine z_ialdT _ dX4_keep_83 (by assumption) (by repeat' first | apply zc_add | apply zc_mul | with_reducible exact zc_var _ | exact zc_lit _) (by omega) (by omega) ?_
        refine h_iast dX4_keep_84 (by first | assumption | rfl) (by repeat' first | apply zc_add | apply zc_mul | with_reducible exact zc_var _ | exact zc_lit _) (by omega) (by decide) ?_
        refine z_iinc dX4_keep_85 rfl (by decide) rfl ?_
        refine z_goto (tgt := 44) dX4_keep_88 (by decide) ?_
        have g1 : σ' 12 p = α 5 (24 + p) := (i6 _ _ (by omega)).trans p4
        rw [g1]
        have g2 : zu σ' 29 (13 * nx + 3 + p) (α 5 (24 + p)) 11 p = α 5 (19 + p) := by rw [zu_o (by omega)]; exact (i6 _ _ (by omega)).trans p3
        rw [g2]
        have h9 := ih (p + 1) (by omega) (zu (zu σ' 29 (13 * nx + 3 + p) (α 5 (24 + p))) 29 (13 * nx + 8 + p) (α 5 (19 + p))) (by rw [zu_j (by omega), zu_j (by omega)]; exact i1) (by rw [zu_j (by omega), zu_j (by omega)]; exact i2) (by rw [zu_j (by omega), zu_j (by omega)]; exact i3) (fun q hq => by
          by_cases hqp : q = p
          · subst hqp
            refine ⟨?_, zu_eq⟩
            rw [zu_j (by omega), zu_eq]
          · rw [zu_j (by omega), zu_j (by omega), zu_j (by omega), zu_j (by omega)]
            exact i4 q (by omega)) (fun i hi => by rw [zu_j (by omega), zu_j (by omega)]; exact i5 i hi) (fun o j h => by rw [zu_o h, zu_o h]; exact i6 o j h)
        rw [nsucc] at h9
        exact h9
  refine K_of 2 (by decide) (Nat.le_of_ble_eq_true rfl) (show Z _ _ 0 0 0 [some (zR 28), some (zR 8), none, none] [] _ _ from ?_)
  first | refine z_aload_n dX4_keep_0 rfl ?_ | refine z_aload_nT dX4_keep_0 rfl ?_
  refine h_geti dX4_keep_1 fl_X4_15 (by first | assumption | rfl) (by rfl) ?_
  refine z_bipush dX4_keep_4 rfl ?_
  rw [a3]
  refine z_imul dX4_keep_6 ?_
  rw [show (nx : Int) * 13 = ((13 * nx : Nat) : Int) by omega]
  refine z_istore_n dX4_keep_7 (by decide) rfl ?_
  first | refine z_aload_n dX4_keep_8 rfl ?_ | refine z_aload_nT dX4_keep_8 rfl ?_
  refine h_getr dX4_keep_9 fl_X4_11 (by first | assumption | rfl) (by rfl) ?_
  refine z_iload_n dX4_keep_12 rfl ?_
  first | refine z_aload_n dX4_keep_13 rfl ?_ | refine z_aload_nT dX4_keep_13 rfl ?_
  refine h_geti dX4_keep_14 fl_X4_22 (by first | assumption | rfl) (by rfl) ?_
  refine h_iast dX4_keep_17 (by first | assumption | rfl) (by repeat' first | apply zc_add | apply zc_mul | with_reducible exact zc_var _ | exact zc_lit _) (by omega) (by decide) ?_
  first | refine z_aload_n dX4_keep_18 rfl ?_ | refine z_aload_nT dX4_keep_18 rfl ?_
  refine h_getr dX4_keep_19 fl_X4_11 (by first | assumption | rfl) (by rfl) ?_
  refine z_iload_n dX4_keep_22 rfl ?_
  refine z_iconst dX4_keep_23 ?_
  refine z_iadd dX4_keep_24 ?_
  first | refine z_aload_n dX4_keep_25 rfl ?_ | refine z_aload_nT dX4_keep_25 rfl ?_
  refine h_geti dX4_keep_26 fl_X4_25 (by first | assumption | rfl) (by rfl) ?_
  refine h_iast dX4_keep_29 (by first | assumption | rfl) (by repeat' first | apply zc_add | apply zc_mul | with_reducible exact zc_var _ | exact zc_lit _) (by omega) (by decide) ?_
  first | refine z_aload_n dX4_keep_30 rfl ?_ | refine z_aload_nT dX4_keep_30 rfl ?_
  refine h_getr dX4_keep_31 fl_X4_11 (by first | assumption | rfl) (by rfl) ?_
  refine z_iload_n dX4_keep_34 rfl ?_
  refine z_iconst dX4_keep_35 ?_
  refine z_iadd dX4_keep_36 ?_
  first | refine z_aload_n dX4_keep_37 rfl ?_ | refine z_aload_nT dX4_keep_37 rfl ?_
  refine h_geti dX4_keep_38 fl_X4_28 (by first | assumption | rfl) (by rfl) ?_
  refine h_iast dX4_keep_41 (by first | assumption | rfl) (by repeat' first | apply zc_add | apply zc_mul | with_reducible exact zc_var _ | exact zc_lit _) (by omega) (by decide) ?_
  refine z_iconst dX4_keep_42 ?_
  refine z_istore_n dX4_keep_43 (by decide) rfl ?_
  refine loop _ 0 (Nat.zero_add _) _ ?_ ?_ ?_ (fun q hq => by omega) (fun i hi => ?_) (fun o j h => by rw [zu_o h, zu_o h, zu_o h])
  · rw [zu_j (by omega), zu_j (by omega), zu_eq, r6]
  · rw [zu_j (by omega), zu_eq, zu_o (by omega), r7]
  · rw [zu_eq, zu_o (by omega), zu_o (by omega), r8]
  · rw [zu_j (by omega), zu_j (by omega), zu_j (by omega)]
theorem m_note (hM : MI σ α) (hO : OK α) : KV rc M_X12_note [zR 40] σ (fun σ' => MI σ' (pshU α) ∧ ∀ o j, o ≠ 50 → ¬ (o = 40 ∧ j = 18) → σ' o j = σ o j) := by
  have hb := hO.1.2.2.2.1
  have hR := hM.2.2.2.1
  obtain ⟨a1, a2⟩ := hM.2.2.2.2.2.1
  obtain ⟨N, hN⟩ : ∃ N : Nat, α 0 3 = (N : Int) := ⟨(α 0 3).toNat, by omega⟩
  rw [hN] at a1 a2
  have fin : ∀ (m : Nat) (σ' : Mem) (x1 : Option ZV), m < 24 → σ' 40 18 = (m : Int) → (∀ j, j < m → ∀ i, i < 29 → σ' 50 (29 * j + i) = psh α j i) → (min 24 (α 0 3 + 1) = (m : Int) + 1) → psh α m = α 5 → (∀ o j, o ≠ 50 → ¬ (o = 40 ∧ j = 18) → σ' o j = σ o j) → Z rc M_X12_note 0 0 49 [some (zR 40), x1] [] (hp σ') (qV (fun σ' => MI σ' (pshU α) ∧ ∀ o j, o ≠ 50 → ¬ (o = 40 ∧ j = 18) → σ' o j = σ o j)) := by
    intro m σ' x1 hm e1 e2 e3 e4 e5
    first | refine z_aload_n dX12_note_49 rfl ?_ | refine z_aload_nT dX12_note_49 rfl ?_
    refine h_getr dX12_note_50 fl_X12_22 (by first | assumption | rfl) (by rfl) ?_
    refine z_iconst dX12_note_53 ?_
    first | refine z_aload_n dX12_note_54 rfl ?_ | refine z_aload_nT dX12_note_54 rfl ?_
    refine h_getr dX12_note_55 fl_X12_38 (by first | assumption | rfl) (by rfl) ?_
    refine z_bipush dX12_note_58 rfl ?_
    first | refine z_aload_n dX12_note_60 rfl ?_ | refine z_aload_nT dX12_note_60 rfl ?_
    refine h_geti dX12_note_61 fl_X12_133 (by first | assumption | rfl) (by rfl) ?_
    rw [e1]
    refine z_imul dX12_note_64 ?_
    rw [show (29 : Int) * (m : Int) = ((29 * m : Nat) : Int) by omega]
    refine h_Sv4 (Y' := M_X12_lay) dX12_note_65 zw_930 zw_931 ok_X12_lay (by decide) rfl (Nat.le_of_ble_eq_true rfl) ⟨rfl, rfl⟩ (by decide) (m_lay (f := 0) (g := 29 * m) (a := 45) (b := 50) rfl rfl (by decide) (by decide) (by omega) (by decide) (by decide)) (fun σ2 hq => ?_)
    obtain ⟨h1, h2, h3⟩ := hq
    first | refine z_aload_n dX12_note_68 rfl ?_ | refine z_aload_nT dX12_note_68 rfl ?_
    refine z_dup dX12_note_69 rfl ?_
    refine h_geti dX12_note_70 fl_X12_133 (by first | assumption | rfl) (by rfl) ?_
    refine z_iconst dX12_note_73 ?_
    refine z_iadd dX12_note_74 ?_
    refine h_puti dX12_note_75 fp_X12_133 (by first | assumption | rfl) (by rfl) ?_
    refine h_vret dX12_note_78 rfl rfl rfl ?_
    have ea : σ2 40 18 = (m : Int) := (h3 _ _ (by omega)).trans e1
    rw [ea]
    have z : ∀ o j, o ≠ 50 → ¬ (o = 40 ∧ j = 18) → zu σ2 40 18 ((m : Int) + 1) o j = σ o j := fun o j k1 k2 => by
      by_cases ho : o = 40
      · subst ho
        rw [zu_j (by omega), h3 _ _ (by omega)]
        exact e5 _ _ (by omega) (by omega)
      · rw [zu_o ho, h3 _ _ k1]
        exact e5 _ _ k1 k2
    refine ⟨?_, z⟩
    obtain ⟨⟨b1, b2⟩, ⟨d1, d2⟩, ⟨c1, c2⟩, d, ⟨⟨f1, f2⟩, f3, f4⟩, ⟨k1, k2⟩, ⟨g1, g2⟩⟩ := hM
    refine ⟨⟨(z _ _ (by omega) (by omega)).trans b1, (z _ _ (by omega) (by omega)).trans b2⟩, ⟨fun r hr => ⟨(z _ _ (by omega) (by omega)).trans (d1 r hr).1, (z _ _ (by omega) (by omega)).trans (d1 r hr).2⟩, fun i hi => (z _ _ (by omega) (by omega)).trans (d2 i hi)⟩, ⟨(z _ _ (by omega) (by omega)).trans c1, fun i hi => (z _ _ (by omega) (by omega)).trans (c2 i hi)⟩, fun i hi => (z _ _ (by omega) (by omega)).trans (d i hi), ⟨⟨(z _ _ (by omega) (by omega)).trans f1, (z _ _ (by omega) (by omega)).trans f2⟩, fun h i hi => (z _ _ (by omega) (by omega)).trans (f3 h i hi), fun h i hi => (z _ _ (by omega) (by omega)).trans (f4 h i hi)⟩, ⟨?_, fun j hj i hi => ?_⟩, ⟨(z _ _ (by omega) (by omega)).trans g1, fun i hi => (z _ _ (by omega) (by omega)).trans (g2 i hi)⟩⟩
    · rw [zu_eq]
      exact e3.symm
    · have hj : (j : Int) < min 24 (α 0 3 + 1) := hj
      show zu σ2 40 18 ((m : Int) + 1) 50 (29 * j + i) = pshU α (10 + j) i
      unfold pshU
      rw [actU_10, zu_o (by omega)]
      by_cases hjm : j = m
      · subst hjm
        rw [h1 i hi, e4, Nat.zero_add, e5 _ _ (by omega) (by omega)]
        exact hR i hi
      · rw [h2 _ (by omega)]
        exact e2 j (by omega) i hi
  have loop : N = 24 → ∀ n k : Nat, k + n = 667 → ∀ σ' : Mem, (∀ i, i < 696 → σ' 50 i = if i < k then σ 50 (i + 29) else σ 50 i) → fm 50 σ σ' → Z rc M_X12_note 0 0 11 [some (zR 40), some (zI (k : Int))] [] (hp σ') (qV (fun σ' => MI σ' (pshU α) ∧ ∀ o j, o ≠ 50 → ¬ (o = 40 ∧ j = 18) → σ' o j = σ o j)) := by
    intro h24 n
    induction n with
    | zero =>
      intro k hk σ' i1 i2
      have ja : σ' 40 18 = 24 := by rw [i2 _ _ (by omega), a1, h24]; rfl
      refine z_iload_n dX12_note_11 rfl ?_
      refine z_sipush dX12_note_12 rfl ?_
      refine z_icmp_ge (tgt := 39) dX12_note_15 (by decide) (by omega) (by omega) (fun b15 => ?_) (fun b15 => ?_)
      · first | refine z_aload_n dX12_note_39 rfl ?_ | refine z_aload_nT dX12_note_39 rfl ?_
        refine z_dup dX12_note_40 rfl ?_
        refine h_geti dX12_note_41 fl_X12_133 (by first | assumption | rfl) (by rfl) ?_
        refine z_iconst dX12_note_44 ?_
        refine z_isub dX12_note_45 ?_
        refine h_puti dX12_note_46 fp_X12_133 (by first | assumption | rfl) (by rfl) ?_
        rw [ja]
        refine fin 23 _ _ (by omega) (by rw [zu_eq]; rfl) (fun j hj i hi => ?_) (by omega) ?_ (fun o j h1 h2 => ?_)
        · rw [zu_o (by omega), i1 _ (by omega), if_pos (by omega), show 29 * j + i + 29 = 29 * (j + 1) + i by omega, a2 (j + 1) (by omega) i hi]
          unfold psh
          rw [if_neg (by omega), if_neg (by omega)]
        · unfold psh
          rw [if_neg (by omega), if_pos rfl]
        · by_cases ho : o = 40
          · subst ho
            rw [zu_j (by omega)]
            exact i2 _ _ h1
          · rw [zu_o ho]
            exact i2 _ _ h1
      · omega
    | succ n ih =>
      intro k hk σ' i1 i2
      refine z_iload_n dX12_note_11 rfl ?_
      refine z_sipush dX12_note_12 rfl ?_
      refine z_icmp_ge (tgt := 39) dX12_note_15 (by decide) (by omega) (by omega) (fun b15 => ?_) (fun b15 => ?_)
      · omega
      · first | refine z_aload_n dX12_note_18 rfl ?_ | refine z_aload_nT dX12_note_18 rfl ?_
        refine h_getr dX12_note_19 fl_X12_38 (by first | assumption | rfl) (by rfl) ?_
        refine z_iload_n dX12_note_22 rfl ?_
        first | refine z_aload_n dX12_note_23 rfl ?_ | refine z_aload_nT dX12_note_23 rfl ?_
        refine h_getr dX12_note_24 fl_X12_38 (by first | assumption | rfl) (by rfl) ?_
        refine z_iload_n dX12_note_27 rfl ?_
        refine z_bipush dX12_note_28 rfl ?_
        refine z_iadd dX12_note_30 ?_
        first | refine h_iald dX12_note_31 (by first | assumption | rfl) (by repeat' first | apply zc_add | apply zc_mul | with_reducible exact zc_var _ | exact zc_lit _) (by omega) (by decide) ?_ | refine z_ialdT _ dX12_note_31 (by assumption) (by repeat' first | apply zc_add | apply zc_mul | with_reducible exact zc_var _ | exact zc_lit _) (by omega) (by omega) ?_
        refine h_iast dX12_note_32 (by first | assumption | rfl) (by repeat' first | apply zc_add | apply zc_mul | with_reducible exact zc_var _ | exact zc_lit _) (by omega) (by decide) ?_
        refine z_iinc dX12_note_33 rfl (by decide) rfl ?_
        refine z_goto (tgt := 11) dX12_note_36 (by decide) ?_
        have h9 := ih (k + 1) (by omega) (zu σ' 50 k (σ' 50 (k + 29))) (fun i hi => by
          by_cases hik : i = k
          · subst hik
            rw [zu_eq, i1 _ (by omega), if_neg (by omega), if_pos (by omega)]
          · rw [zu_j hik, i1 i hi]
            by_cases h2 : i < k
            · rw [if_pos h2, if_pos (by omega)]
            · rw [if_neg h2, if_neg (by omega)]) (fun o j h => by rw [zu_o h]; exact i2 o j h)
        rw [nsucc] at h9
        exact h9
  refine K_of 1 (by decide) (Nat.le_of_ble_eq_true rfl) (show Z _ _ 0 0 0 [some (zR 40), none] [] _ _ from ?_)
  first | refine z_aload_n dX12_note_0 rfl ?_ | refine z_aload_nT dX12_note_0 rfl ?_
  refine h_geti dX12_note_1 fl_X12_133 (by first | assumption | rfl) (by rfl) ?_
  refine z_bipush dX12_note_4 rfl ?_
  refine z_icmp_ne (tgt := 49) dX12_note_6 (by decide) (by omega) (by omega) (fun b6 => ?_) (fun b6 => ?_)
  · refine fin N σ none (by omega) a1 (fun j hj i hi => ?_) (by omega) ?_ (fun _ _ _ _ => rfl)
    · rw [a2 j (by omega) i hi]
      unfold psh
      rw [if_pos (by omega), if_neg (by omega)]
    · unfold psh
      rw [if_pos (by omega), if_pos (by omega)]
  · refine z_iconst dX12_note_9 ?_
    refine z_istore_n dX12_note_10 (by decide) rfl ?_
    exact loop (by omega) 667 0 rfl σ (fun i hi => by rw [if_neg (by omega)]) fm.rf
end
