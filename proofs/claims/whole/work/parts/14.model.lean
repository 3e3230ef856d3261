/-! the reference: its numbers in arrays of 29 -/
def mR (σ : Mem) (o : Nat) (t : Nat → Int) : Prop := ∀ i, i < 29 → σ o i = t i
def fm (o : Nat) (σ σ' : Mem) : Prop := ∀ o' j, o' ≠ o → σ' o' j = σ o' j
theorem fm.rf {o : Nat} {σ : Mem} : fm o σ σ := fun _ _ _ => rfl
theorem fm.tr {o : Nat} {σ σ1 σ2 : Mem} (h1 : fm o σ σ1) (h2 : fm o σ1 σ2) : fm o σ σ2 := fun o' j h => (h2 o' j h).trans (h1 o' j h)
theorem place_eq {a lean sp : Int} (h1 : 0 ≤ lean) (h2 : lean ≤ 2) : (a + (if lean = 0 then 10 - sp % 10 else if lean = 1 then 0 else sp % 10)) % 10 = placeF a lean sp := by
  unfold placeF
  have h : lean = 0 ∨ lean = 1 ∨ lean = 2 := by omega
  rcases h with rfl | rfl | rfl
  · rw [if_pos rfl]; omega
  · rw [if_neg (by decide), if_pos rfl]; omega
  · rw [if_neg (by decide), if_neg (by decide)]; omega
section
variable {rc : ZRC} {σ : Mem} {o : Nat} {t : Nat → Int} {B : Int}
theorem m_in {a b c : Int} (ha : zin a) (hb : zin b) (hc : zin c) : KI rc M_X12_in [zI a, zI b, zI c] σ (fun v σ' => v = (if b ≤ a ∧ a ≤ c then 1 else 0) ∧ σ' = σ) := by
  refine K_of 0 (by decide) (Nat.le_of_ble_eq_true rfl) (show Z _ _ 0 0 0 [some (zI a), some (zI b), some (zI c)] [] _ _ from ?_)
  refine z_iload_n dX12_in_0 rfl ?_
  refine z_iload_n dX12_in_1 rfl ?_
  refine z_icmp_lt (tgt := 14) dX12_in_2 (by decide) (by omega) (by omega) (fun b2 => ?_) (fun b2 => ?_)
  · refine z_iconst dX12_in_14 ?_
    refine h_zret dX12_in_15 rfl (by omega) rfl rfl ?_
    exact ⟨by rw [if_neg (by omega)], rfl⟩
  · refine z_iload_n dX12_in_5 rfl ?_
    refine z_iload_n dX12_in_6 rfl ?_
    refine z_icmp_gt (tgt := 14) dX12_in_7 (by decide) (by omega) (by omega) (fun b7 => ?_) (fun b7 => ?_)
    · refine z_iconst dX12_in_14 ?_
      refine h_zret dX12_in_15 rfl (by omega) rfl rfl ?_
      exact ⟨by rw [if_neg (by omega)], rfl⟩
    · refine z_iconst dX12_in_10 ?_
      refine z_goto (tgt := 15) dX12_in_11 (by decide) ?_
      refine h_zret dX12_in_15 rfl (by omega) rfl rfl ?_
      exact ⟨by rw [if_pos (by omega)], rfl⟩
theorem m_lay {a b f g n1 n2 : Nat} (ha : zsh[a]? = some (.inl (true, n1))) (hb : zsh[b]? = some (.inl (true, n2))) (hab : a ≠ b) (hf : f + 29 ≤ n1) (hg : g + 29 ≤ n2) (hn1 : n1 ≤ 1000) (hn2 : n2 ≤ 1000) : KV rc M_X12_lay [zR a, zI (f : Int), zR b, zI (g : Int)] σ (fun σ' => (∀ i, i < 29 → σ' b (g + i) = σ a (f + i)) ∧ (∀ j, (j < g ∨ g + 29 ≤ j) → σ' b j = σ b j) ∧ fm b σ σ') := by
  have loop : ∀ n p : Nat, p + n = 29 → ∀ σ' : Mem, (∀ i, i < p → σ' b (g + i) = σ a (f + i)) → (∀ j, (j < g ∨ g + 29 ≤ j) → σ' b j = σ b j) → fm b σ σ' → Z rc M_X12_lay 0 0 3 [some (zR a), some (zI (f : Int)), some (zR b), some (zI (g : Int)), some (zI (p : Int))] [] (hp σ') (qV (fun σ' => (∀ i, i < 29 → σ' b (g + i) = σ a (f + i)) ∧ (∀ j, (j < g ∨ g + 29 ≤ j) → σ' b j = σ b j) ∧ fm b σ σ')) := by
    intro n
    induction n with
    | zero =>
      intro p hpn σ' i1 i2 i3
      refine z_iload dX12_lay_3 rfl ?_
      refine z_bipush dX12_lay_5 rfl ?_
      refine z_icmp_ge (tgt := 28) dX12_lay_7 (by decide) (by omega) (by omega) (fun b7 => ?_) (fun b7 => ?_)
      · refine h_vret dX12_lay_28 rfl rfl rfl ?_
        exact ⟨fun i hi => i1 i (by omega), i2, i3⟩
      · omega
    | succ n ih =>
      intro p hpn σ' i1 i2 i3
      refine z_iload dX12_lay_3 rfl ?_
      refine z_bipush dX12_lay_5 rfl ?_
      refine z_icmp_ge (tgt := 28) dX12_lay_7 (by decide) (by omega) (by omega) (fun b7 => ?_) (fun b7 => ?_)
      · omega
      · refine z_aload_n dX12_lay_10 rfl ?_
        refine z_iload_n dX12_lay_11 rfl ?_
        refine z_iload dX12_lay_12 rfl ?_
        refine z_iadd dX12_lay_14 ?_
        first | refine z_aload_n dX12_lay_15 rfl ?_ | refine z_aload_nT dX12_lay_15 rfl ?_
        refine z_iload_n dX12_lay_16 rfl ?_
        refine z_iload dX12_lay_17 rfl ?_
        refine z_iadd dX12_lay_19 ?_
        refine h_iald dX12_lay_20 ha (zc_add (zc_var _) (zc_var _)) (by omega) (by omega) ?_
        refine h_iast dX12_lay_21 hb (zc_add (zc_var _) (zc_var _)) (by omega) (by omega) ?_
        refine z_iinc dX12_lay_22 rfl (by decide) rfl ?_
        refine z_goto (tgt := 3) dX12_lay_25 (by decide) ?_
        have := ih (p + 1) (by omega) (zu σ' b (g + p) (σ' a (f + p))) (fun i hi => by
          by_cases hip : i = p
          · subst hip
            rw [zu_eq]
            exact i3 _ _ hab
          · rw [zu_j (by omega)]
            exact i1 i (by omega)) (fun j hj => by rw [zu_j (by omega)]; exact i2 j hj) (fun o' j ho' => by rw [zu_o ho']; exact i3 o' j ho')
        rw [nsucc] at this
        exact this
  refine K_of 1 (by decide) (Nat.le_of_ble_eq_true rfl) (show Z _ _ 0 0 0 [some (zR a), some (zI (f : Int)), some (zR b), some (zI (g : Int)), none] [] _ _ from ?_)
  refine z_iconst dX12_lay_0 ?_
  refine z_istore dX12_lay_1 (by decide) rfl ?_
  exact loop _ 0 (Nat.zero_add _) σ (fun i hi => by omega) (fun _ _ => rfl) fm.rf
theorem m_placeBy {p : Nat} {sp : Int} (ho : zsh[o]? = some (.inl (true, 29))) (hp5 : p < 5) (q2 : 0 ≤ σ o (14 + p) ∧ σ o (14 + p) ≤ 9) (q3 : 0 ≤ σ o (19 + p) ∧ σ o (19 + p) ≤ 2) (h1 : 0 ≤ sp) (h2 : sp ≤ 1000) : KI rc M_X12_placeBy [zR o, zI (p : Int), zI sp] σ (fun v σ' => v = placeF (σ o (14 + p)) (σ o (19 + p)) sp ∧ σ' = σ) := by
  have hpl := place_eq (a := σ o (14 + p)) (sp := sp) q3.1 q3.2
  refine K_of 1 (by decide) (Nat.le_of_ble_eq_true rfl) (show Z _ _ 0 0 0 [some (zR o), some (zI (p : Int)), some (zI sp), none] [] _ _ from ?_)
  first | refine z_aload_n dX12_placeBy_0 rfl ?_ | refine z_aload_nT dX12_placeBy_0 rfl ?_
  refine z_bipush dX12_placeBy_1 rfl ?_
  refine z_iload_n dX12_placeBy_3 rfl ?_
  refine z_iadd dX12_placeBy_4 ?_
  first | refine h_iald dX12_placeBy_5 (by first | assumption | rfl) (by repeat' first | apply zc_add | apply zc_mul | with_reducible exact zc_var _ | exact zc_lit _) (by omega) (by decide) ?_ | refine z_ialdT _ dX12_placeBy_5 (by assumption) (by repeat' first | apply zc_add | apply zc_mul | with_reducible exact zc_var _ | exact zc_lit _) (by omega) (by omega) ?_
  refine z_if_ne (tgt := 19) dX12_placeBy_6 (by decide) (by omega) (fun b6 => ?_) (fun b6 => ?_)
  · first | refine z_aload_n dX12_placeBy_19 rfl ?_ | refine z_aload_nT dX12_placeBy_19 rfl ?_
    refine z_bipush dX12_placeBy_20 rfl ?_
    refine z_iload_n dX12_placeBy_22 rfl ?_
    refine z_iadd dX12_placeBy_23 ?_
    first | refine h_iald dX12_placeBy_24 (by first | assumption | rfl) (by repeat' first | apply zc_add | apply zc_mul | with_reducible exact zc_var _ | exact zc_lit _) (by omega) (by decide) ?_ | refine z_ialdT _ dX12_placeBy_24 (by assumption) (by repeat' first | apply zc_add | apply zc_mul | with_reducible exact zc_var _ | exact zc_lit _) (by omega) (by omega) ?_
    refine z_iconst dX12_placeBy_25 ?_
    refine z_icmp_ne (tgt := 33) dX12_placeBy_26 (by decide) (by omega) (by omega) (fun b26 => ?_) (fun b26 => ?_)
    · refine z_iload_n dX12_placeBy_33 rfl ?_
      refine z_bipush dX12_placeBy_34 rfl ?_
      refine z_irem dX12_placeBy_36 (by omega) (by omega) (by omega) (by omega) ?_
      refine z_istore_n dX12_placeBy_37 (by decide) rfl ?_
      first | refine z_aload_n dX12_placeBy_38 rfl ?_ | refine z_aload_nT dX12_placeBy_38 rfl ?_
      refine z_bipush dX12_placeBy_39 rfl ?_
      refine z_iload_n dX12_placeBy_41 rfl ?_
      refine z_iadd dX12_placeBy_42 ?_
      first | refine h_iald dX12_placeBy_43 (by first | assumption | rfl) (by repeat' first | apply zc_add | apply zc_mul | with_reducible exact zc_var _ | exact zc_lit _) (by omega) (by decide) ?_ | refine z_ialdT _ dX12_placeBy_43 (by assumption) (by repeat' first | apply zc_add | apply zc_mul | with_reducible exact zc_var _ | exact zc_lit _) (by omega) (by omega) ?_
      refine z_iload_n dX12_placeBy_44 rfl ?_
      refine z_iadd dX12_placeBy_45 ?_
      refine z_bipush dX12_placeBy_46 rfl ?_
      refine z_irem dX12_placeBy_48 (by omega) (by omega) (by omega) (by omega) ?_
      refine h_iret dX12_placeBy_49 rfl rfl rfl ?_
      exact ⟨by rw [← hpl, if_neg b6, if_neg b26], rfl⟩
    · refine z_iconst dX12_placeBy_29 ?_
      refine z_goto (tgt := 37) dX12_placeBy_30 (by decide) ?_
      refine z_istore_n dX12_placeBy_37 (by decide) rfl ?_
      first | refine z_aload_n dX12_placeBy_38 rfl ?_ | refine z_aload_nT dX12_placeBy_38 rfl ?_
      refine z_bipush dX12_placeBy_39 rfl ?_
      refine z_iload_n dX12_placeBy_41 rfl ?_
      refine z_iadd dX12_placeBy_42 ?_
      first | refine h_iald dX12_placeBy_43 (by first | assumption | rfl) (by repeat' first | apply zc_add | apply zc_mul | with_reducible exact zc_var _ | exact zc_lit _) (by omega) (by decide) ?_ | refine z_ialdT _ dX12_placeBy_43 (by assumption) (by repeat' first | apply zc_add | apply zc_mul | with_reducible exact zc_var _ | exact zc_lit _) (by omega) (by omega) ?_
      refine z_iload_n dX12_placeBy_44 rfl ?_
      refine z_iadd dX12_placeBy_45 ?_
      refine z_bipush dX12_placeBy_46 rfl ?_
      refine z_irem dX12_placeBy_48 (by omega) (by omega) (by omega) (by omega) ?_
      refine h_iret dX12_placeBy_49 rfl rfl rfl ?_
      exact ⟨by rw [← hpl, if_neg b6, if_pos b26], rfl⟩
  · refine z_bipush dX12_placeBy_9 rfl ?_
    refine z_iload_n dX12_placeBy_11 rfl ?_
    refine z_bipush dX12_placeBy_12 rfl ?_
    refine z_irem dX12_placeBy_14 (by omega) (by omega) (by omega) (by omega) ?_
    refine z_isub dX12_placeBy_15 ?_
    refine z_goto (tgt := 37) dX12_placeBy_16 (by decide) ?_
    refine z_istore_n dX12_placeBy_37 (by decide) rfl ?_
    first | refine z_aload_n dX12_placeBy_38 rfl ?_ | refine z_aload_nT dX12_placeBy_38 rfl ?_
    refine z_bipush dX12_placeBy_39 rfl ?_
    refine z_iload_n dX12_placeBy_41 rfl ?_
    refine z_iadd dX12_placeBy_42 ?_
    first | refine h_iald dX12_placeBy_43 (by first | assumption | rfl) (by repeat' first | apply zc_add | apply zc_mul | with_reducible exact zc_var _ | exact zc_lit _) (by omega) (by decide) ?_ | refine z_ialdT _ dX12_placeBy_43 (by assumption) (by repeat' first | apply zc_add | apply zc_mul | with_reducible exact zc_var _ | exact zc_lit _) (by omega) (by omega) ?_
    refine z_iload_n dX12_placeBy_44 rfl ?_
    refine z_iadd dX12_placeBy_45 ?_
    refine z_bipush dX12_placeBy_46 rfl ?_
    refine z_irem dX12_placeBy_48 (by omega) (by omega) (by omega) (by omega) ?_
    refine h_iret dX12_placeBy_49 rfl rfl rfl ?_
    exact ⟨by rw [← hpl, if_pos b6], rfl⟩
theorem m_takeBy {pl far : Int} (ho : zsh[o]? = some (.inl (true, 29))) (h1 : 0 ≤ pl) (h2 : pl ≤ 9) (h3 : 0 ≤ far) (h4 : far ≤ 999) (a4 : 0 ≤ σ o 4 ∧ σ o 4 ≤ 9) (a5 : 0 ≤ σ o 5 ∧ σ o 5 ≤ 9) (a6 : 1 ≤ σ o 6 ∧ σ o 6 ≤ 30) : KI rc M_X12_takeBy [zR o, zI pl, zI far] σ (fun v σ' => v = takeF (σ o 4) (σ o 5) (σ o 6) pl far ∧ σ' = σ) := by
  have m1 : 0 ≤ pl * σ o 4 ∧ pl * σ o 4 ≤ 81 := ⟨Int.mul_nonneg h1 a4.1, Int.mul_le_mul h2 a4.2 a4.1 (by omega)⟩
  have m2 : 0 ≤ far * σ o 5 ∧ far * σ o 5 ≤ 8991 := ⟨Int.mul_nonneg h3 a5.1, Int.mul_le_mul h4 a5.2 a5.1 (by omega)⟩
  refine K_of 0 (by decide) (Nat.le_of_ble_eq_true rfl) (show Z _ _ 0 0 0 [some (zR o), some (zI pl), some (zI far)] [] _ _ from ?_)
  refine z_iload_n dX12_takeBy_0 rfl ?_
  refine z_if_ne (tgt := 8) dX12_takeBy_1 (by decide) (by omega) (fun b1 => ?_) (fun b1 => ?_)
  · refine z_iload_n dX12_takeBy_8 rfl ?_
    first | refine z_aload_n dX12_takeBy_9 rfl ?_ | refine z_aload_nT dX12_takeBy_9 rfl ?_
    refine z_iconst dX12_takeBy_10 ?_
    first | refine h_iald dX12_takeBy_11 (by first | assumption | rfl) (by repeat' first | apply zc_add | apply zc_mul | with_reducible exact zc_var _ | exact zc_lit _) (by omega) (by decide) ?_ | refine z_ialdT _ dX12_takeBy_11 (by assumption) (by repeat' first | apply zc_add | apply zc_mul | with_reducible exact zc_var _ | exact zc_lit _) (by omega) (by omega) ?_
    refine z_imul dX12_takeBy_12 ?_
    refine z_iload_n dX12_takeBy_13 rfl ?_
    first | refine z_aload_n dX12_takeBy_14 rfl ?_ | refine z_aload_nT dX12_takeBy_14 rfl ?_
    refine z_iconst dX12_takeBy_15 ?_
    first | refine h_iald dX12_takeBy_16 (by first | assumption | rfl) (by repeat' first | apply zc_add | apply zc_mul | with_reducible exact zc_var _ | exact zc_lit _) (by omega) (by decide) ?_ | refine z_ialdT _ dX12_takeBy_16 (by assumption) (by repeat' first | apply zc_add | apply zc_mul | with_reducible exact zc_var _ | exact zc_lit _) (by omega) (by omega) ?_
    refine z_imul dX12_takeBy_17 ?_
    refine z_iadd dX12_takeBy_18 ?_
    first | refine z_aload_n dX12_takeBy_19 rfl ?_ | refine z_aload_nT dX12_takeBy_19 rfl ?_
    refine z_bipush dX12_takeBy_20 rfl ?_
    first | refine h_iald dX12_takeBy_22 (by first | assumption | rfl) (by repeat' first | apply zc_add | apply zc_mul | with_reducible exact zc_var _ | exact zc_lit _) (by omega) (by decide) ?_ | refine z_ialdT _ dX12_takeBy_22 (by assumption) (by repeat' first | apply zc_add | apply zc_mul | with_reducible exact zc_var _ | exact zc_lit _) (by omega) (by omega) ?_
    refine z_irem dX12_takeBy_23 (by omega) (by omega) (by omega) (by omega) ?_
    refine h_iret dX12_takeBy_24 rfl rfl rfl ?_
    exact ⟨by unfold takeF; rw [if_neg b1], rfl⟩
  · refine z_iconst dX12_takeBy_4 ?_
    refine z_goto (tgt := 24) dX12_takeBy_5 (by decide) ?_
    refine h_iret dX12_takeBy_24 rfl rfl rfl ?_
    exact ⟨by unfold takeF; rw [if_pos b1], rfl⟩
theorem m_takeOf {p : Nat} (ho : zsh[o]? = some (.inl (true, 29))) (hR : mR σ o t) (hk : cok B t) (hpp : (p : Int) < t 3) : KI rc M_X12_takeOf [zR o, zI (p : Int)] σ (fun v σ' => v = toF t p ∧ σ' = σ) := by
  obtain ⟨h8, h3, a0, a1, a2, a4, a5, a6, a7, hq⟩ := hk
  obtain ⟨q1, q2, q3, q4⟩ := hq p hpp
  have e14 := hR (14 + p) (by omega)
  have e19 := hR (19 + p) (by omega)
  have e24 := hR (24 + p) (by omega)
  have e4 := hR 4 (by omega)
  have e5 := hR 5 (by omega)
  have e6 := hR 6 (by omega)
  have pin := placeF_in (σ o (14 + p)) (σ o (19 + p)) (σ o (24 + p))
  refine K_of 0 (by decide) (Nat.le_of_ble_eq_true rfl) (show Z _ _ 0 0 0 [some (zR o), some (zI (p : Int))] [] _ _ from ?_)
  first | refine z_aload_n dX12_takeOf_0 rfl ?_ | refine z_aload_nT dX12_takeOf_0 rfl ?_
  first | refine z_aload_n dX12_takeOf_1 rfl ?_ | refine z_aload_nT dX12_takeOf_1 rfl ?_
  refine z_iload_n dX12_takeOf_2 rfl ?_
  first | refine z_aload_n dX12_takeOf_3 rfl ?_ | refine z_aload_nT dX12_takeOf_3 rfl ?_
  refine z_bipush dX12_takeOf_4 rfl ?_
  refine z_iload_n dX12_takeOf_6 rfl ?_
  refine z_iadd dX12_takeOf_7 ?_
  first | refine h_iald dX12_takeOf_8 (by first | assumption | rfl) (by repeat' first | apply zc_add | apply zc_mul | with_reducible exact zc_var _ | exact zc_lit _) (by omega) (by decide) ?_ | refine z_ialdT _ dX12_takeOf_8 (by assumption) (by repeat' first | apply zc_add | apply zc_mul | with_reducible exact zc_var _ | exact zc_lit _) (by omega) (by omega) ?_
  refine h_Si3 (Y' := M_X12_placeBy) dX12_takeOf_9 zw_962 zw_963 ok_X12_placeBy (by decide) rfl (Nat.le_of_ble_eq_true rfl) ⟨rfl, rfl⟩ (by decide) (m_placeBy ho (by omega) (by omega) (by omega) (by omega) (by omega)) (fun vv σ2 hq => ?_)
  obtain ⟨rfl, rfl⟩ := hq
  first | refine z_aload_n dX12_takeOf_12 rfl ?_ | refine z_aload_nT dX12_takeOf_12 rfl ?_
  refine z_bipush dX12_takeOf_13 rfl ?_
  refine z_iload_n dX12_takeOf_15 rfl ?_
  refine z_iadd dX12_takeOf_16 ?_
  first | refine h_iald dX12_takeOf_17 (by first | assumption | rfl) (by repeat' first | apply zc_add | apply zc_mul | with_reducible exact zc_var _ | exact zc_lit _) (by omega) (by decide) ?_ | refine z_ialdT _ dX12_takeOf_17 (by assumption) (by repeat' first | apply zc_add | apply zc_mul | with_reducible exact zc_var _ | exact zc_lit _) (by omega) (by omega) ?_
  refine h_Si3 (Y' := M_X12_takeBy) dX12_takeOf_18 zw_965 zw_966 ok_X12_takeBy (by decide) rfl (Nat.le_of_ble_eq_true rfl) ⟨rfl, rfl⟩ (by decide) (m_takeBy ho (by omega) (by omega) (by omega) (by omega) (by omega) (by omega) (by omega)) (fun vv σ2 hq => ?_)
  obtain ⟨rfl, rfl⟩ := hq
  refine h_iret dX12_takeOf_21 rfl rfl rfl ?_
  exact ⟨by unfold toF tkF pcF; rw [e14, e19, e24, e4, e5, e6], rfl⟩
theorem m_takenIn (ho : zsh[o]? = some (.inl (true, 29))) (hR : mR σ o t) (hk : cok B t) : KI rc M_X12_takenIn [zR o] σ (fun v σ' => v = tsF t (t 3).toNat ∧ σ' = σ) := by
  have e3 := hR 3 (by omega)
  have h3 := hk.2.1
  have loop : ∀ n p : Nat, p + n = (t 3).toNat → Z rc M_X12_takenIn 0 0 4 [some (zR o), some (zI (tsF t p)), some (zI (p : Int))] [] (hp σ) (qI (fun v σ' => v = tsF t (t 3).toNat ∧ σ' = σ)) := by
    intro n
    induction n with
    | zero =>
      intro p hpn
      refine z_iload_n dX12_takenIn_4 rfl ?_
      first | refine z_aload_n dX12_takenIn_5 rfl ?_ | refine z_aload_nT dX12_takenIn_5 rfl ?_
      refine z_iconst dX12_takenIn_6 ?_
      first | refine h_iald dX12_takenIn_7 (by first | assumption | rfl) (by repeat' first | apply zc_add | apply zc_mul | with_reducible exact zc_var _ | exact zc_lit _) (by omega) (by decide) ?_ | refine z_ialdT _ dX12_takenIn_7 (by assumption) (by repeat' first | apply zc_add | apply zc_mul | with_reducible exact zc_var _ | exact zc_lit _) (by omega) (by omega) ?_
      refine z_icmp_ge (tgt := 25) dX12_takenIn_8 (by decide) (by omega) (by omega) (fun b8 => ?_) (fun b8 => ?_)
      · refine z_iload_n dX12_takenIn_25 rfl ?_
        refine h_iret dX12_takenIn_26 rfl rfl rfl ?_
        exact ⟨by rw [← hpn]; rfl, rfl⟩
      · omega
    | succ n ih =>
      intro p hpn
      refine z_iload_n dX12_takenIn_4 rfl ?_
      first | refine z_aload_n dX12_takenIn_5 rfl ?_ | refine z_aload_nT dX12_takenIn_5 rfl ?_
      refine z_iconst dX12_takenIn_6 ?_
      first | refine h_iald dX12_takenIn_7 (by first | assumption | rfl) (by repeat' first | apply zc_add | apply zc_mul | with_reducible exact zc_var _ | exact zc_lit _) (by omega) (by decide) ?_ | refine z_ialdT _ dX12_takenIn_7 (by assumption) (by repeat' first | apply zc_add | apply zc_mul | with_reducible exact zc_var _ | exact zc_lit _) (by omega) (by omega) ?_
      refine z_icmp_ge (tgt := 25) dX12_takenIn_8 (by decide) (by omega) (by omega) (fun b8 => ?_) (fun b8 => ?_)
      · omega
      · refine z_iload_n dX12_takenIn_11 rfl ?_
        first | refine z_aload_n dX12_takenIn_12 rfl ?_ | refine z_aload_nT dX12_takenIn_12 rfl ?_
        refine z_iload_n dX12_takenIn_13 rfl ?_
        refine h_Si2 (Y' := M_X12_takeOf) dX12_takenIn_14 zw_959 zw_960 ok_X12_takeOf (by decide) rfl (Nat.le_of_ble_eq_true rfl) ⟨rfl, rfl⟩ (by decide) (m_takeOf ho hR hk (by omega)) (fun vv σ2 hq => ?_)
        obtain ⟨rfl, rfl⟩ := hq
        refine z_iadd dX12_takenIn_17 ?_
        refine z_istore_n dX12_takenIn_18 (by decide) rfl ?_
        refine z_iinc dX12_takenIn_19 rfl (by decide) rfl ?_
        refine z_goto (tgt := 4) dX12_takenIn_22 (by decide) ?_
        have := ih (p + 1) (by omega)
        rw [nsucc] at this
        exact this
  refine K_of 2 (by decide) (Nat.le_of_ble_eq_true rfl) (show Z _ _ 0 0 0 [some (zR o), none, none] [] _ _ from ?_)
  refine z_iconst dX12_takenIn_0 ?_
  refine z_istore_n dX12_takenIn_1 (by decide) rfl ?_
  refine z_iconst dX12_takenIn_2 ?_
  refine z_istore_n dX12_takenIn_3 (by decide) rfl ?_
  exact loop _ 0 (Nat.zero_add _)
theorem m_stormIn (ho : zsh[o]? = some (.inl (true, 29))) (e0 : σ o 0 = t 0) (e7 : σ o 7 = t 7) (a7 : 0 ≤ t 7 ∧ t 7 ≤ 9) (a0 : 0 ≤ t 0 ∧ t 0 ≤ 100000) : KI rc M_X12_stormIn [zR o] σ (fun v σ' => v = stF t ∧ σ' = σ) := by
  have m1 : 0 ≤ (σ o 0 + 1) * σ o 7 ∧ (σ o 0 + 1) * σ o 7 ≤ 900009 := ⟨Int.mul_nonneg (by omega) (by omega), Int.mul_le_mul (show σ o 0 + 1 ≤ 100001 by omega) (show σ o 7 ≤ 9 by omega) (by omega) (by omega)⟩
  refine K_of 0 (by decide) (Nat.le_of_ble_eq_true rfl) (show Z _ _ 0 0 0 [some (zR o)] [] _ _ from ?_)
  first | refine z_aload_n dX12_stormIn_0 rfl ?_ | refine z_aload_nT dX12_stormIn_0 rfl ?_
  refine z_iconst dX12_stormIn_1 ?_
  first | refine h_iald dX12_stormIn_2 (by first | assumption | rfl) (by repeat' first | apply zc_add | apply zc_mul | with_reducible exact zc_var _ | exact zc_lit _) (by omega) (by decide) ?_ | refine z_ialdT _ dX12_stormIn_2 (by assumption) (by repeat' first | apply zc_add | apply zc_mul | with_reducible exact zc_var _ | exact zc_lit _) (by omega) (by omega) ?_
  refine z_iconst dX12_stormIn_3 ?_
  refine z_iadd dX12_stormIn_4 ?_
  first | refine z_aload_n dX12_stormIn_5 rfl ?_ | refine z_aload_nT dX12_stormIn_5 rfl ?_
  refine z_bipush dX12_stormIn_6 rfl ?_
  first | refine h_iald dX12_stormIn_8 (by first | assumption | rfl) (by repeat' first | apply zc_add | apply zc_mul | with_reducible exact zc_var _ | exact zc_lit _) (by omega) (by decide) ?_ | refine z_ialdT _ dX12_stormIn_8 (by assumption) (by repeat' first | apply zc_add | apply zc_mul | with_reducible exact zc_var _ | exact zc_lit _) (by omega) (by omega) ?_
  refine z_imul dX12_stormIn_9 ?_
  refine z_iconst dX12_stormIn_10 ?_
  refine z_irem dX12_stormIn_11 (by omega) (by omega) (by omega) (by omega) ?_
  refine h_iret dX12_stormIn_12 rfl rfl rfl ?_
  exact ⟨by rw [e0, e7]; rfl, rfl⟩
theorem m_lossOf {p : Nat} {s : Int} (ho : zsh[o]? = some (.inl (true, 29))) (hp5 : p < 5) (e9 : σ o (9 + p) = t (9 + p)) (e24 : σ o (24 + p) = t (24 + p)) (e0 : σ o 0 = t 0) (q1 : 1 ≤ t (9 + p) ∧ t (9 + p) ≤ 5) (q4 : 0 ≤ t (24 + p) ∧ t (24 + p) ≤ 99) (a0 : 0 ≤ t 0 ∧ t 0 ≤ 100000) (hs : 0 ≤ s) (hs2 : s ≤ 4) : KI rc M_X12_lossOf [zR o, zI (p : Int), zI s] σ (fun v σ' => v = loF t p s ∧ σ' = σ) := by
  have fin : ∀ x : Int, x = lkF (t (9 + p)) s (t 0) → 0 ≤ x → x ≤ 5 → Z rc M_X12_lossOf 0 0 71 [some (zR o), some (zI (p : Int)), some (zI s), some (zI (σ o (9 + p))), none] [zI x] (hp σ) (qI (fun v σ' => v = loF t p s ∧ σ' = σ)) := by
    intro x hx h0 h5
    refine z_istore dX12_lossOf_71 (by decide) rfl ?_
    refine z_iload dX12_lossOf_73 rfl ?_
    first | refine z_aload_n dX12_lossOf_75 rfl ?_ | refine z_aload_nT dX12_lossOf_75 rfl ?_
    refine z_bipush dX12_lossOf_76 rfl ?_
    refine z_iload_n dX12_lossOf_78 rfl ?_
    refine z_iadd dX12_lossOf_79 ?_
    first | refine h_iald dX12_lossOf_80 (by first | assumption | rfl) (by repeat' first | apply zc_add | apply zc_mul | with_reducible exact zc_var _ | exact zc_lit _) (by omega) (by decide) ?_ | refine z_ialdT _ dX12_lossOf_80 (by assumption) (by repeat' first | apply zc_add | apply zc_mul | with_reducible exact zc_var _ | exact zc_lit _) (by omega) (by omega) ?_
    refine z_icmp_le (tgt := 93) dX12_lossOf_81 (by decide) (by omega) (by omega) (fun b81 => ?_) (fun b81 => ?_)
    · refine z_iload dX12_lossOf_93 rfl ?_
      refine h_iret dX12_lossOf_95 rfl rfl rfl ?_
      exact ⟨by unfold loF; rw [← hx]; omega, rfl⟩
    · first | refine z_aload_n dX12_lossOf_84 rfl ?_ | refine z_aload_nT dX12_lossOf_84 rfl ?_
      refine z_bipush dX12_lossOf_85 rfl ?_
      refine z_iload_n dX12_lossOf_87 rfl ?_
      refine z_iadd dX12_lossOf_88 ?_
      first | refine h_iald dX12_lossOf_89 (by first | assumption | rfl) (by repeat' first | apply zc_add | apply zc_mul | with_reducible exact zc_var _ | exact zc_lit _) (by omega) (by decide) ?_ | refine z_ialdT _ dX12_lossOf_89 (by assumption) (by repeat' first | apply zc_add | apply zc_mul | with_reducible exact zc_var _ | exact zc_lit _) (by omega) (by omega) ?_
      refine z_goto (tgt := 95) dX12_lossOf_90 (by decide) ?_
      refine h_iret dX12_lossOf_95 rfl rfl rfl ?_
      exact ⟨by unfold loF; rw [← hx]; omega, rfl⟩
  have hl := lkF_in (k := t (9 + p)) (w := t 0) hs hs2
  refine K_of 2 (by decide) (Nat.le_of_ble_eq_true rfl) (show Z _ _ 0 0 0 [some (zR o), some (zI (p : Int)), some (zI s), none, none] [] _ _ from ?_)
  first | refine z_aload_n dX12_lossOf_0 rfl ?_ | refine z_aload_nT dX12_lossOf_0 rfl ?_
  refine z_bipush dX12_lossOf_1 rfl ?_
  refine z_iload_n dX12_lossOf_3 rfl ?_
  refine z_iadd dX12_lossOf_4 ?_
  first | refine h_iald dX12_lossOf_5 (by first | assumption | rfl) (by repeat' first | apply zc_add | apply zc_mul | with_reducible exact zc_var _ | exact zc_lit _) (by omega) (by decide) ?_ | refine z_ialdT _ dX12_lossOf_5 (by assumption) (by repeat' first | apply zc_add | apply zc_mul | with_reducible exact zc_var _ | exact zc_lit _) (by omega) (by omega) ?_
  refine z_istore_n dX12_lossOf_6 (by decide) rfl ?_
  refine z_iload_n dX12_lossOf_7 rfl ?_
  refine z_iconst dX12_lossOf_8 ?_
  refine z_icmp_ne (tgt := 16) dX12_lossOf_9 (by decide) (by omega) (by omega) (fun b9 => ?_) (fun b9 => ?_)
  · refine z_iload_n dX12_lossOf_16 rfl ?_
    refine z_iconst dX12_lossOf_17 ?_
    refine z_icmp_ne (tgt := 27) dX12_lossOf_18 (by decide) (by omega) (by omega) (fun b18 => ?_) (fun b18 => ?_)
    · refine z_iload_n dX12_lossOf_27 rfl ?_
      refine z_iconst dX12_lossOf_28 ?_
      refine z_icmp_ne (tgt := 44) dX12_lossOf_29 (by decide) (by omega) (by omega) (fun b29 => ?_) (fun b29 => ?_)
      · refine z_iload_n dX12_lossOf_44 rfl ?_
        refine z_iconst dX12_lossOf_45 ?_
        refine z_icmp_ne (tgt := 61) dX12_lossOf_46 (by decide) (by omega) (by omega) (fun b46 => ?_) (fun b46 => ?_)
        · refine z_iload_n dX12_lossOf_61 rfl ?_
          refine z_iconst dX12_lossOf_62 ?_
          refine z_icmp_ne (tgt := 70) dX12_lossOf_63 (by decide) (by omega) (by omega) (fun b63 => ?_) (fun b63 => ?_)
          · refine z_iconst dX12_lossOf_70 ?_
            refine fin _ ?_ (by omega) (by omega)
            rw [← e9]
            unfold lkF
            rw [if_neg (by omega), if_neg (by omega), if_neg (by omega), if_pos (by omega), if_neg b63]
          · refine z_iconst dX12_lossOf_66 ?_
            refine z_goto (tgt := 71) dX12_lossOf_67 (by decide) ?_
            refine fin _ ?_ (by omega) (by omega)
            rw [← e9]
            unfold lkF
            rw [if_neg (by omega), if_neg (by omega), if_neg (by omega), if_pos (by omega), if_pos b63]
        · refine z_iload_n dX12_lossOf_49 rfl ?_
          refine z_if_le (tgt := 57) dX12_lossOf_50 (by decide) (by omega) (fun b50 => ?_) (fun b50 => ?_)
          · refine z_iconst dX12_lossOf_57 ?_
            refine z_goto (tgt := 71) dX12_lossOf_58 (by decide) ?_
            refine fin _ ?_ (by omega) (by omega)
            rw [← e9]
            unfold lkF
            rw [if_neg (by omega), if_neg (by omega), if_pos (by omega), if_neg (by omega)]
          · refine z_iconst dX12_lossOf_53 ?_
            refine z_goto (tgt := 71) dX12_lossOf_54 (by decide) ?_
            refine fin _ ?_ (by omega) (by omega)
            rw [← e9]
            unfold lkF
            rw [if_neg (by omega), if_neg (by omega), if_pos (by omega), if_pos (by omega)]
      · refine z_iload_n dX12_lossOf_32 rfl ?_
        refine z_iconst dX12_lossOf_33 ?_
        refine z_iadd dX12_lossOf_34 ?_
        first | refine z_aload_n dX12_lossOf_35 rfl ?_ | refine z_aload_nT dX12_lossOf_35 rfl ?_
        refine z_iconst dX12_lossOf_36 ?_
        first | refine h_iald dX12_lossOf_37 (by first | assumption | rfl) (by repeat' first | apply zc_add | apply zc_mul | with_reducible exact zc_var _ | exact zc_lit _) (by omega) (by decide) ?_ | refine z_ialdT _ dX12_lossOf_37 (by assumption) (by repeat' first | apply zc_add | apply zc_mul | with_reducible exact zc_var _ | exact zc_lit _) (by omega) (by omega) ?_
        refine z_iconst dX12_lossOf_38 ?_
        refine z_irem dX12_lossOf_39 (by omega) (by omega) (by omega) (by omega) ?_
        refine z_isub dX12_lossOf_40 ?_
        refine z_goto (tgt := 71) dX12_lossOf_41 (by decide) ?_
        refine fin _ ?_ (by omega) (by omega)
        rw [← e9, ← e0]
        unfold lkF
        rw [if_neg (by omega), if_pos (by omega)]
        split <;> omega
    · refine z_iload_n dX12_lossOf_21 rfl ?_
      refine z_iconst dX12_lossOf_22 ?_
      refine z_idiv dX12_lossOf_23 (by omega) (by omega) (by omega) (by omega) ?_
      refine z_goto (tgt := 71) dX12_lossOf_24 (by decide) ?_
      refine fin _ ?_ (by omega) (by omega)
      rw [← e9]
      unfold lkF
      rw [if_pos (by omega)]
  · refine z_iload_n dX12_lossOf_12 rfl ?_
    refine z_goto (tgt := 71) dX12_lossOf_13 (by decide) ?_
    refine fin _ ?_ (by omega) (by omega)
    rw [← e9]
    unfold lkF
    rw [if_neg (by omega), if_neg (by omega), if_neg (by omega), if_neg (by omega)]
theorem m_goBy {s : Int} (ho : zsh[o]? = some (.inl (true, 29))) (hR : mR σ o t) (hk : cok B t) (hB : B ≤ 100000) (hs : 0 ≤ s) (hs2 : s ≤ 4) : KV rc M_X12_goBy [zR o, zI s] σ (fun σ' => mR σ' o (goF t s) ∧ fm o σ σ') := by
  have hts := tsF_in hk (t 3).toNat (by have := hk.2.1; omega)
  obtain ⟨h8, h3, a0, a1, a2, a4, a5, a6, a7, hq⟩ := hk
  have hk : cok B t := ⟨h8, h3, a0, a1, a2, a4, a5, a6, a7, hq⟩
  have e3 := hR 3 (by omega)
  have e1 := hR 1 (by omega)
  have loop : ∀ n p : Nat, p + n = (t 3).toNat → ∀ (σ' : Mem) (u : Int), σ' o 1 = min 9999 (t 1 + tsF t (t 3).toNat) → (∀ i, i < 24 → i ≠ 1 → σ' o i = t i) → (∀ q : Nat, q < p → σ' o (24 + q) = t (24 + q) - loF t q s) → (∀ q : Nat, p ≤ q → q < 5 → σ' o (24 + q) = t (24 + q)) → fm o σ σ' →
      Z rc M_X12_goBy 0 0 28 [some (zR o), some (zI s), some (zI u), some (zI (p : Int))] [] (hp σ') (qV (fun σ' => mR σ' o (goF t s) ∧ fm o σ σ')) := by
    intro n
    induction n with
    | zero =>
      intro p hpn σ' u i1 i2 i3 i4 i5
      have j3 := i2 3 (by omega) (by omega)
      have j0 := i2 0 (by omega) (by omega)
      refine z_iload_n dX12_goBy_28 rfl ?_
      first | refine z_aload_n dX12_goBy_29 rfl ?_ | refine z_aload_nT dX12_goBy_29 rfl ?_
      refine z_iconst dX12_goBy_30 ?_
      first | refine h_iald dX12_goBy_31 (by first | assumption | rfl) (by repeat' first | apply zc_add | apply zc_mul | with_reducible exact zc_var _ | exact zc_lit _) (by omega) (by decide) ?_ | refine z_ialdT _ dX12_goBy_31 (by assumption) (by repeat' first | apply zc_add | apply zc_mul | with_reducible exact zc_var _ | exact zc_lit _) (by omega) (by omega) ?_
      refine z_icmp_ge (tgt := 56) dX12_goBy_32 (by decide) (by omega) (by omega) (fun b32 => ?_) (fun b32 => ?_)
      · first | refine z_aload_n dX12_goBy_56 rfl ?_ | refine z_aload_nT dX12_goBy_56 rfl ?_
        refine z_iconst dX12_goBy_57 ?_
        refine z_dup2 dX12_goBy_58 rfl rfl ?_
        first | refine h_iald dX12_goBy_59 (by first | assumption | rfl) (by repeat' first | apply zc_add | apply zc_mul | with_reducible exact zc_var _ | exact zc_lit _) (by omega) (by decide) ?_ | refine z_ialdT _ dX12_goBy_59 (by assumption) (by repeat' first | apply zc_add | apply zc_mul | with_reducible exact zc_var _ | exact zc_lit _) (by omega) (by omega) ?_
        refine z_iconst dX12_goBy_60 ?_
        refine z_iadd dX12_goBy_61 ?_
        refine h_iast dX12_goBy_62 (by first | assumption | rfl) (by repeat' first | apply zc_add | apply zc_mul | with_reducible exact zc_var _ | exact zc_lit _) (by omega) (by decide) ?_
        refine h_vret dX12_goBy_63 rfl rfl rfl ?_
        refine ⟨fun i hi => ?_, fun o' j h => by rw [zu_o h]; exact i5 o' j h⟩
        by_cases h0 : i = 0
        · subst h0
          rw [zu_eq, j0, goF_0]
        · rw [zu_j h0]
          by_cases h1 : i = 1
          · subst h1
            rw [i1, goF_1]
          · by_cases h2 : i < 24
            · rw [i2 i h2 h1, goF_lo (by omega) h2]
            · obtain ⟨q, rfl⟩ : ∃ q, i = 24 + q := ⟨i - 24, by omega⟩
              by_cases h4 : q < p
              · rw [i3 q h4, goF_sp (by omega)]
              · rw [i4 q (by omega) (by omega), goF_hi (by omega) (by omega)]
      · omega
    | succ n ih =>
      intro p hpn σ' u i1 i2 i3 i4 i5
      have hp3 : (p : Int) < t 3 := by omega
      obtain ⟨q1, q2, q3, q4⟩ := hq p hp3
      have j3 := i2 3 (by omega) (by omega)
      have j0 := i2 0 (by omega) (by omega)
      have j9 := i2 (9 + p) (by omega) (by omega)
      have j24 := i4 p (by omega) (by omega)
      refine z_iload_n dX12_goBy_28 rfl ?_
      first | refine z_aload_n dX12_goBy_29 rfl ?_ | refine z_aload_nT dX12_goBy_29 rfl ?_
      refine z_iconst dX12_goBy_30 ?_
      first | refine h_iald dX12_goBy_31 (by first | assumption | rfl) (by repeat' first | apply zc_add | apply zc_mul | with_reducible exact zc_var _ | exact zc_lit _) (by omega) (by decide) ?_ | refine z_ialdT _ dX12_goBy_31 (by assumption) (by repeat' first | apply zc_add | apply zc_mul | with_reducible exact zc_var _ | exact zc_lit _) (by omega) (by omega) ?_
      refine z_icmp_ge (tgt := 56) dX12_goBy_32 (by decide) (by omega) (by omega) (fun b32 => ?_) (fun b32 => ?_)
      · omega
      · first | refine z_aload_n dX12_goBy_35 rfl ?_ | refine z_aload_nT dX12_goBy_35 rfl ?_
        refine z_bipush dX12_goBy_36 rfl ?_
        refine z_iload_n dX12_goBy_38 rfl ?_
        refine z_iadd dX12_goBy_39 ?_
        refine z_dup2 dX12_goBy_40 rfl rfl ?_
        first | refine h_iald dX12_goBy_41 (by first | assumption | rfl) (by repeat' first | apply zc_add | apply zc_mul | with_reducible exact zc_var _ | exact zc_lit _) (by omega) (by decide) ?_ | refine z_ialdT _ dX12_goBy_41 (by assumption) (by repeat' first | apply zc_add | apply zc_mul | with_reducible exact zc_var _ | exact zc_lit _) (by omega) (by omega) ?_
        first | refine z_aload_n dX12_goBy_42 rfl ?_ | refine z_aload_nT dX12_goBy_42 rfl ?_
        refine z_iload_n dX12_goBy_43 rfl ?_
        refine z_iload_n dX12_goBy_44 rfl ?_
        refine h_Si3 (Y' := M_X12_lossOf) dX12_goBy_45 zw_968 zw_969 ok_X12_lossOf (by decide) rfl (Nat.le_of_ble_eq_true rfl) ⟨rfl, rfl⟩ (by decide) (m_lossOf (t := t) ho (by omega) j9 j24 j0 q1 q4 ⟨by omega, by omega⟩ hs hs2) (fun vv σ2 hq => ?_)
        obtain ⟨rfl, rfl⟩ := hq
        refine z_isub dX12_goBy_48 ?_
        refine h_iast dX12_goBy_49 (by first | assumption | rfl) (by repeat' first | apply zc_add | apply zc_mul | with_reducible exact zc_var _ | exact zc_lit _) (by omega) (by decide) ?_
        refine z_iinc dX12_goBy_50 rfl (by decide) rfl ?_
        refine z_goto (tgt := 28) dX12_goBy_53 (by decide) ?_
        have := ih (p + 1) (by omega) (zu σ2 o (24 + p) (σ2 o (24 + p) - loF t p s)) u (by rw [zu_j (by omega)]; exact i1) (fun i h1 h2 => by rw [zu_j (by omega)]; exact i2 i h1 h2) (fun q hq => by
          by_cases hqp : q = p
          · subst hqp
            rw [zu_eq, j24]
          · rw [zu_j (by omega)]
            exact i3 q (by omega)) (fun q h1 h2 => by rw [zu_j (by omega)]; exact i4 q (by omega) h2) (fun o' j h => by rw [zu_o h]; exact i5 o' j h)
        rw [nsucc] at this
        exact this
  refine K_of 2 (by decide) (Nat.le_of_ble_eq_true rfl) (show Z _ _ 0 0 0 [some (zR o), some (zI s), none, none] [] _ _ from ?_)
  first | refine z_aload_n dX12_goBy_0 rfl ?_ | refine z_aload_nT dX12_goBy_0 rfl ?_
  refine z_iconst dX12_goBy_1 ?_
  first | refine h_iald dX12_goBy_2 (by first | assumption | rfl) (by repeat' first | apply zc_add | apply zc_mul | with_reducible exact zc_var _ | exact zc_lit _) (by omega) (by decide) ?_ | refine z_ialdT _ dX12_goBy_2 (by assumption) (by repeat' first | apply zc_add | apply zc_mul | with_reducible exact zc_var _ | exact zc_lit _) (by omega) (by omega) ?_
  first | refine z_aload_n dX12_goBy_3 rfl ?_ | refine z_aload_nT dX12_goBy_3 rfl ?_
  refine h_Si1 (Y' := M_X12_takenIn) dX12_goBy_4 zw_956 zw_957 ok_X12_takenIn (by decide) rfl (Nat.le_of_ble_eq_true rfl) ⟨rfl, rfl⟩ (by decide) (m_takenIn ho hR hk) (fun vv σ2 hq => ?_)
  obtain ⟨rfl, rfl⟩ := hq
  have fin : ∀ x : Int, x = min 9999 (t 1 + tsF t (t 3).toNat) → Z rc M_X12_goBy 0 0 25 [some (zR o), some (zI s), some (zI (σ2 o 1 + tsF t (t 3).toNat)), none] [zI x, zI 1, zR o] (hp σ2) (qV (fun σ' => mR σ' o (goF t s) ∧ fm o σ2 σ')) := by
    intro x hx
    refine h_iast dX12_goBy_25 (by first | assumption | rfl) (by repeat' first | apply zc_add | apply zc_mul | with_reducible exact zc_var _ | exact zc_lit _) (by omega) (by decide) ?_
    refine z_iconst dX12_goBy_26 ?_
    refine z_istore_n dX12_goBy_27 (by decide) rfl ?_
    refine loop _ 0 (Nat.zero_add _) (zu σ2 o 1 x) _ (by rw [zu_eq, hx]) (fun i h1 h2 => by rw [zu_j h2]; exact hR i (by omega)) (fun q hq => by omega) (fun q h1 h2 => by rw [zu_j (by omega)]; exact hR _ (by omega)) (fun o' j h => zu_o h)
  refine z_iadd dX12_goBy_7 ?_
  refine z_istore_n dX12_goBy_8 (by decide) rfl ?_
  first | refine z_aload_n dX12_goBy_9 rfl ?_ | refine z_aload_nT dX12_goBy_9 rfl ?_
  refine z_iconst dX12_goBy_10 ?_
  refine z_iload_n dX12_goBy_11 rfl ?_
  refine z_sipush dX12_goBy_12 rfl ?_
  refine z_icmp_le (tgt := 24) dX12_goBy_15 (by decide) (by omega) (by omega) (fun b15 => ?_) (fun b15 => ?_)
  · refine z_iload_n dX12_goBy_24 rfl ?_
    exact fin _ (by omega)
  · refine z_sipush dX12_goBy_18 rfl ?_
    refine z_goto (tgt := 25) dX12_goBy_21 (by decide) ?_
    exact fin _ (by omega)
end
