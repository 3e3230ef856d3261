/-! rows: row, set, copy, drop -/
def rowsU (α : Mem) (a1 a2 a3 : Nat → Int) (st : Int) : Mem := fun i => if i = 1 then a1 else if i = 2 then a2 else if i = 3 then a3 else if i = 0 then zup (α 0) 0 st else α i
theorem Cact.congr {σ : Mem} {n many : Int} {A A' : Nat → Nat → Int} (h : Cact σ n many A) (e : ∀ j, A' (10 + j) = A (10 + j)) : Cact σ n many A' := by
  obtain ⟨h1, nx, h2, h3, h4⟩ := h
  refine ⟨h1, nx, h2, h3, fun j hj => ?_⟩
  rw [e j]
  exact h4 j hj
theorem rowsU_10 {α : Mem} {a1 a2 a3 : Nat → Int} {st : Int} (j : Nat) : rowsU α a1 a2 a3 st (10 + j) = α (10 + j) := by
  unfold rowsU
  rw [if_neg (by omega), if_neg (by omega), if_neg (by omega), if_neg (by omega)]
theorem CI_rows {σ σ' α : Mem} {a1 a2 a3 : Nat → Int} {st : Int} (h : CI σ α) (hr : Crow σ' a1 a2 a3) (hs : σ' 0 17 = st) (e : ∀ o j, o < 40 → o ≠ 2 → o ≠ 3 → o ≠ 4 → ¬ (o = 0 ∧ j = 17) → σ' o j = σ o j) : CI σ' (rowsU α a1 a2 a3 st) := by
  obtain ⟨⟨_, b2⟩, _, ⟨c1, c2⟩, d, ⟨⟨e1, e2⟩, e3, e4⟩, f, ⟨g1, g2⟩⟩ := h
  have z : ∀ o j, o < 40 → o ≠ 2 → o ≠ 3 → o ≠ 4 → (o = 0 → j ≠ 17) → σ' o j = σ o j := fun o j h1 h2 h3 h4 h5 => e o j h1 h2 h3 h4 (by omega)
  exact ⟨⟨hs, (z _ _ (by omega) (by omega) (by omega) (by omega) (by omega)).trans b2⟩, hr, ⟨(z _ _ (by omega) (by omega) (by omega) (by omega) (by omega)).trans c1, fun i hi => (z _ _ (by omega) (by omega) (by omega) (by omega) (by omega)).trans (c2 i hi)⟩, cR_eq d (fun o j h1 h2 => z o j (by omega) (by omega) (by omega) (by omega) (by omega)), ⟨⟨(z _ _ (by omega) (by omega) (by omega) (by omega) (by omega)).trans e1, (z _ _ (by omega) (by omega) (by omega) (by omega) (by omega)).trans e2⟩, fun h => cR_eq (e3 h) (fun o j h1 h2 => z o j (by omega) (by omega) (by omega) (by omega) (by omega)), fun h => cR_eq (e4 h) (fun o j h1 h2 => z o j (by omega) (by omega) (by omega) (by omega) (by omega))⟩, (f.eq (fun o j h1 h2 => z o j (by omega) (by omega) (by omega) (by omega) (by omega))).congr rowsU_10, ⟨(z _ _ (by omega) (by omega) (by omega) (by omega) (by omega)).trans g1, fun i hi => (z _ _ (by omega) (by omega) (by omega) (by omega) (by omega)).trans (g2 i hi)⟩⟩
def Mrow (σ : Mem) (a1 a2 a3 : Nat → Int) : Prop := (∀ r, r < 8 → σ 41 r = a1 r ∧ σ 42 r = a2 r) ∧ ∀ i, i < 320 → σ 43 i = a3 i
theorem MI_rows {σ σ' α : Mem} {a1 a2 a3 : Nat → Int} {st : Int} (h : MI σ α) (hr : Mrow σ' a1 a2 a3) (hs : σ' 40 3 = st) (e : ∀ o j, 40 ≤ o → o ≠ 41 → o ≠ 42 → o ≠ 43 → ¬ (o = 40 ∧ j = 3) → ¬ mse o j → σ' o j = σ o j) : MI σ' (rowsU α a1 a2 a3 st) := by
  obtain ⟨⟨_, b2⟩, _, ⟨c1, c2⟩, d, ⟨⟨e1, e2⟩, e3, e4⟩, ⟨f1, f2⟩, ⟨g1, g2⟩⟩ := h
  have z : ∀ o j, 40 ≤ o → o ≠ 41 → o ≠ 42 → o ≠ 43 → (o = 40 → j ≠ 3) → ((o = 40 → j < 6 ∨ (10 < j ∧ j < 24)) ∧ o ≠ 46 ∧ o ≠ 47 ∧ o < 52) → σ' o j = σ o j := fun o j h1 h2 h3 h4 h5 h6 => e o j h1 h2 h3 h4 (by omega) (by unfold mse; omega)
  exact ⟨⟨hs, (z _ _ (by omega) (by omega) (by omega) (by omega) (by omega) (by omega)).trans b2⟩, hr, ⟨(z _ _ (by omega) (by omega) (by omega) (by omega) (by omega) (by omega)).trans c1, fun i hi => (z _ _ (by omega) (by omega) (by omega) (by omega) (by omega) (by omega)).trans (c2 i hi)⟩, fun i hi => (z _ _ (by omega) (by omega) (by omega) (by omega) (by omega) (by omega)).trans (d i hi), ⟨⟨(z _ _ (by omega) (by omega) (by omega) (by omega) (by omega) (by omega)).trans e1, (z _ _ (by omega) (by omega) (by omega) (by omega) (by omega) (by omega)).trans e2⟩, fun h i hi => (z _ _ (by omega) (by omega) (by omega) (by omega) (by omega) (by omega)).trans (e3 h i hi), fun h i hi => (z _ _ (by omega) (by omega) (by omega) (by omega) (by omega) (by omega)).trans (e4 h i hi)⟩, ⟨(z _ _ (by omega) (by omega) (by omega) (by omega) (by omega) (by omega)).trans f1, fun j hj i hi => by rw [rowsU_10]; exact (z _ _ (by omega) (by omega) (by omega) (by omega) (by omega) (by omega)).trans (f2 j hj i hi)⟩, ⟨(z _ _ (by omega) (by omega) (by omega) (by omega) (by omega) (by omega)).trans g1, fun i hi => (z _ _ (by omega) (by omega) (by omega) (by omega) (by omega) (by omega)).trans (g2 i hi)⟩⟩
/-- only the status changes -/
theorem CI_st {σ α : Mem} (h : CI σ α) (x : Int) : CI (zu σ 0 17 x) (rowsU α (α 1) (α 2) (α 3) x) ∧ fr 0 40 σ (zu σ 0 17 x) := ⟨CI_rows h (h.2.1.eq (fun o j h1 h2 => zu_o (by omega))) zu_eq (fun o j h1 h2 h3 h4 h5 => by
  by_cases ho : o = 0
  · subst ho; exact zu_j (by omega)
  · exact zu_o ho), fun o j h => zu_o (by omega)⟩
theorem MI_st {σ α : Mem} (h : MI σ α) (x : Int) : MI (zu σ 40 3 x) (rowsU α (α 1) (α 2) (α 3) x) ∧ fr 40 15 σ (zu σ 40 3 x) := ⟨MI_rows h ⟨fun r hr => ⟨by rw [zu_o (by omega)]; exact (h.2.1.1 r hr).1, by rw [zu_o (by omega)]; exact (h.2.1.1 r hr).2⟩, fun i hi => by rw [zu_o (by omega)]; exact h.2.1.2 i hi⟩ zu_eq (fun o j h1 h2 h3 h4 h5 h6 => by
  by_cases ho : o = 40
  · subst ho; exact zu_j (by omega)
  · exact zu_o ho), fun o j h => zu_o (by omega)⟩
section
variable {rc : ZRC} {σ α : Mem}
theorem k_isMissing {r : Nat} (hC : CI σ α) (hO : OK α) (hr : r < 8) : KI rc M_X7_isMissing [zR 1, zI (r : Int)] σ (fun v σ' => ((v = 1 ∧ α 1 r < 0) ∨ (v = 0 ∧ ¬ α 1 r < 0)) ∧ σ' = σ) := by
  have h1 := (hC.2.1.1 r hr).1
  have h2 := (hO.2.1.1 r hr).1
  refine K_of 0 (by decide) (Nat.le_of_ble_eq_true rfl) (show Z _ _ 0 0 0 [some (zR 1), some (zI (r : Int))] [] _ _ from ?_)
  first | refine z_aload_n dX7_isMissing_0 rfl ?_ | refine z_aload_nT dX7_isMissing_0 rfl ?_
  refine h_getr dX7_isMissing_1 fl_X7_9 (by first | assumption | rfl) (by rfl) ?_
  refine z_iload_n dX7_isMissing_4 rfl ?_
  first | refine h_iald dX7_isMissing_5 (by first | assumption | rfl) (by repeat' first | apply zc_add | apply zc_mul | with_reducible exact zc_var _ | exact zc_lit _) (by omega) (by decide) ?_ | refine z_ialdT _ dX7_isMissing_5 (by assumption) (by repeat' first | apply zc_add | apply zc_mul | with_reducible exact zc_var _ | exact zc_lit _) (by omega) (by omega) ?_
  refine z_if_ne (tgt := 13) dX7_isMissing_6 (by decide) (by omega) (fun b6 => ?_) (fun b6 => ?_)
  · refine z_iconst dX7_isMissing_13 ?_
    refine h_zret dX7_isMissing_14 rfl (by omega) rfl rfl ?_
    exact ⟨by omega, rfl⟩
  · refine z_iconst dX7_isMissing_9 ?_
    refine z_goto (tgt := 14) dX7_isMissing_10 (by decide) ?_
    refine h_zret dX7_isMissing_14 rfl (by omega) rfl rfl ?_
    exact ⟨by omega, rfl⟩
theorem k_areAlike {a b : Nat} (hC : CI σ α) (hO : OK α) (ha : a < 8) (hb : b < 8) : KI rc M_X7_areAlike [zR 1, zI (a : Int), zI (b : Int)] σ (fun v σ' => ((v = 1 ∧ α 1 a = α 1 b) ∨ (v = 0 ∧ ¬ α 1 a = α 1 b)) ∧ σ' = σ) := by
  have h1 := (hC.2.1.1 a ha).1
  have h2 := (hO.2.1.1 a ha).1
  have h3 := (hC.2.1.1 b hb).1
  have h4 := (hO.2.1.1 b hb).1
  refine K_of 0 (by decide) (Nat.le_of_ble_eq_true rfl) (show Z _ _ 0 0 0 [some (zR 1), some (zI (a : Int)), some (zI (b : Int))] [] _ _ from ?_)
  first | refine z_aload_n dX7_areAlike_0 rfl ?_ | refine z_aload_nT dX7_areAlike_0 rfl ?_
  refine h_getr dX7_areAlike_1 fl_X7_9 (by first | assumption | rfl) (by rfl) ?_
  refine z_iload_n dX7_areAlike_4 rfl ?_
  first | refine h_iald dX7_areAlike_5 (by first | assumption | rfl) (by repeat' first | apply zc_add | apply zc_mul | with_reducible exact zc_var _ | exact zc_lit _) (by omega) (by decide) ?_ | refine z_ialdT _ dX7_areAlike_5 (by assumption) (by repeat' first | apply zc_add | apply zc_mul | with_reducible exact zc_var _ | exact zc_lit _) (by omega) (by omega) ?_
  first | refine z_aload_n dX7_areAlike_6 rfl ?_ | refine z_aload_nT dX7_areAlike_6 rfl ?_
  refine h_getr dX7_areAlike_7 fl_X7_9 (by first | assumption | rfl) (by rfl) ?_
  refine z_iload_n dX7_areAlike_10 rfl ?_
  first | refine h_iald dX7_areAlike_11 (by first | assumption | rfl) (by repeat' first | apply zc_add | apply zc_mul | with_reducible exact zc_var _ | exact zc_lit _) (by omega) (by decide) ?_ | refine z_ialdT _ dX7_areAlike_11 (by assumption) (by repeat' first | apply zc_add | apply zc_mul | with_reducible exact zc_var _ | exact zc_lit _) (by omega) (by omega) ?_
  refine z_icmp_ne (tgt := 19) dX7_areAlike_12 (by decide) (by omega) (by omega) (fun b12 => ?_) (fun b12 => ?_)
  · refine z_iconst dX7_areAlike_19 ?_
    refine h_zret dX7_areAlike_20 rfl (by omega) rfl rfl ?_
    exact ⟨by omega, rfl⟩
  · refine z_iconst dX7_areAlike_15 ?_
    refine z_goto (tgt := 20) dX7_areAlike_16 (by decide) ?_
    refine h_zret dX7_areAlike_20 rfl (by omega) rfl rfl ?_
    exact ⟨by omega, rfl⟩
theorem k_holds {r : Nat} {i n : Int} (hC : CI σ α) (hO : OK α) (hr : r < 8) (hi : zin i) (hn : zin n) : KI rc M_X7_holds [zR 1, zI (r : Int), zI i, zI n] σ (fun v σ' => ((v = 1 ∧ 0 ≤ i ∧ 0 ≤ n ∧ i + n ≤ α 2 r) ∨ (v = 0 ∧ ¬ (0 ≤ i ∧ 0 ≤ n ∧ i + n ≤ α 2 r))) ∧ σ' = σ) := by
  have h1 := (hC.2.1.1 r hr).2
  have h2 := (hO.2.1.1 r hr).2
  refine K_of 0 (by decide) (Nat.le_of_ble_eq_true rfl) (show Z _ _ 0 0 0 [some (zR 1), some (zI (r : Int)), some (zI i), some (zI n)] [] _ _ from ?_)
  refine z_iload_n dX7_holds_0 rfl ?_
  refine z_if_lt (tgt := 34) dX7_holds_1 (by decide) (by omega) (fun b1 => ?_) (fun b1 => ?_)
  · refine z_iconst dX7_holds_34 ?_
    refine h_zret dX7_holds_35 rfl (by omega) rfl rfl ?_
    exact ⟨by omega, rfl⟩
  · refine z_iload_n dX7_holds_4 rfl ?_
    refine z_if_lt (tgt := 34) dX7_holds_5 (by decide) (by omega) (fun b5 => ?_) (fun b5 => ?_)
    · refine z_iconst dX7_holds_34 ?_
      refine h_zret dX7_holds_35 rfl (by omega) rfl rfl ?_
      exact ⟨by omega, rfl⟩
    · refine z_iload_n dX7_holds_8 rfl ?_
      first | refine z_aload_n dX7_holds_9 rfl ?_ | refine z_aload_nT dX7_holds_9 rfl ?_
      refine h_getr dX7_holds_10 fl_X7_13 (by first | assumption | rfl) (by rfl) ?_
      refine z_iload_n dX7_holds_13 rfl ?_
      first | refine h_iald dX7_holds_14 (by first | assumption | rfl) (by repeat' first | apply zc_add | apply zc_mul | with_reducible exact zc_var _ | exact zc_lit _) (by omega) (by decide) ?_ | refine z_ialdT _ dX7_holds_14 (by assumption) (by repeat' first | apply zc_add | apply zc_mul | with_reducible exact zc_var _ | exact zc_lit _) (by omega) (by omega) ?_
      refine z_icmp_gt (tgt := 34) dX7_holds_15 (by decide) (by omega) (by omega) (fun b15 => ?_) (fun b15 => ?_)
      · refine z_iconst dX7_holds_34 ?_
        refine h_zret dX7_holds_35 rfl (by omega) rfl rfl ?_
        exact ⟨by omega, rfl⟩
      · refine z_iload_n dX7_holds_18 rfl ?_
        first | refine z_aload_n dX7_holds_19 rfl ?_ | refine z_aload_nT dX7_holds_19 rfl ?_
        refine h_getr dX7_holds_20 fl_X7_13 (by first | assumption | rfl) (by rfl) ?_
        refine z_iload_n dX7_holds_23 rfl ?_
        first | refine h_iald dX7_holds_24 (by first | assumption | rfl) (by repeat' first | apply zc_add | apply zc_mul | with_reducible exact zc_var _ | exact zc_lit _) (by omega) (by decide) ?_ | refine z_ialdT _ dX7_holds_24 (by assumption) (by repeat' first | apply zc_add | apply zc_mul | with_reducible exact zc_var _ | exact zc_lit _) (by omega) (by omega) ?_
        refine z_iload_n dX7_holds_25 rfl ?_
        refine z_isub dX7_holds_26 ?_
        refine z_icmp_gt (tgt := 34) dX7_holds_27 (by decide) (by omega) (by omega) (fun b27 => ?_) (fun b27 => ?_)
        · refine z_iconst dX7_holds_34 ?_
          refine h_zret dX7_holds_35 rfl (by omega) rfl rfl ?_
          exact ⟨by omega, rfl⟩
        · refine z_iconst dX7_holds_30 ?_
          refine z_goto (tgt := 35) dX7_holds_31 (by decide) ?_
          refine h_zret dX7_holds_35 rfl (by omega) rfl rfl ?_
          exact ⟨by omega, rfl⟩
theorem m_isPart {i n all : Int} (hi : zin i) (hn : zin n) (ha : 0 ≤ all) (ha2 : all ≤ 1000) : KI rc M_X12_isPart [zI i, zI n, zI all] σ (fun v σ' => ((v = 1 ∧ 0 ≤ i ∧ 0 ≤ n ∧ i + n ≤ all) ∨ (v = 0 ∧ ¬ (0 ≤ i ∧ 0 ≤ n ∧ i + n ≤ all))) ∧ σ' = σ) := by
  refine K_of 0 (by decide) (Nat.le_of_ble_eq_true rfl) (show Z _ _ 0 0 0 [some (zI i), some (zI n), some (zI all)] [] _ _ from ?_)
  refine z_iload_n dX12_isPart_0 rfl ?_
  refine z_if_lt (tgt := 24) dX12_isPart_1 (by decide) (by omega) (fun b1 => ?_) (fun b1 => ?_)
  · refine z_iconst dX12_isPart_24 ?_
    refine h_zret dX12_isPart_25 rfl (by omega) rfl rfl ?_
    exact ⟨by omega, rfl⟩
  · refine z_iload_n dX12_isPart_4 rfl ?_
    refine z_if_lt (tgt := 24) dX12_isPart_5 (by decide) (by omega) (fun b5 => ?_) (fun b5 => ?_)
    · refine z_iconst dX12_isPart_24 ?_
      refine h_zret dX12_isPart_25 rfl (by omega) rfl rfl ?_
      exact ⟨by omega, rfl⟩
    · refine z_iload_n dX12_isPart_8 rfl ?_
      refine z_iload_n dX12_isPart_9 rfl ?_
      refine z_icmp_gt (tgt := 24) dX12_isPart_10 (by decide) (by omega) (by omega) (fun b10 => ?_) (fun b10 => ?_)
      · refine z_iconst dX12_isPart_24 ?_
        refine h_zret dX12_isPart_25 rfl (by omega) rfl rfl ?_
        exact ⟨by omega, rfl⟩
      · refine z_iload_n dX12_isPart_13 rfl ?_
        refine z_iload_n dX12_isPart_14 rfl ?_
        refine z_iload_n dX12_isPart_15 rfl ?_
        refine z_isub dX12_isPart_16 ?_
        refine z_icmp_gt (tgt := 24) dX12_isPart_17 (by decide) (by omega) (by omega) (fun b17 => ?_) (fun b17 => ?_)
        · refine z_iconst dX12_isPart_24 ?_
          refine h_zret dX12_isPart_25 rfl (by omega) rfl rfl ?_
          exact ⟨by omega, rfl⟩
        · refine z_iconst dX12_isPart_20 ?_
          refine z_goto (tgt := 25) dX12_isPart_21 (by decide) ?_
          refine h_zret dX12_isPart_25 rfl (by omega) rfl rfl ?_
          exact ⟨by omega, rfl⟩
/-- items with those of a row 0 -/
def clF (f : Nat → Int) (r : Nat) : Nat → Int := fun i => if 40 * r ≤ i ∧ i < 40 * r + 40 then 0 else f i
theorem k_make {r : Nat} {l n : Int} (hC : CI σ α) (hr : r < 8) : KV rc M_X7_make [zR 1, zI (r : Int), zI l, zI n] σ (fun σ' => Crow σ' (zup (α 1) r l) (zup (α 2) r n) (clF (α 3) r) ∧ ∀ o j, o ≠ 2 → o ≠ 3 → o ≠ 4 → σ' o j = σ o j) := by
  have loop : ∀ m i : Nat, i + m = 40 → ∀ σ' : Mem, (∀ q, q < 8 → σ' 2 q = zup (α 1) r l q + 1 ∧ σ' 3 q = zup (α 2) r n q) → (∀ q, q < 320 → σ' 4 q = if 40 * r ≤ q ∧ q < 40 * r + i then 0 else α 3 q) → (∀ o j, o ≠ 2 → o ≠ 3 → o ≠ 4 → σ' o j = σ o j) → Z rc M_X7_make 0 0 19 [some (zR 1), some (zI (r : Int)), some (zI l), some (zI n), some (zI (i : Int))] [] (hp σ') (qV (fun σ' => Crow σ' (zup (α 1) r l) (zup (α 2) r n) (clF (α 3) r) ∧ ∀ o j, o ≠ 2 → o ≠ 3 → o ≠ 4 → σ' o j = σ o j)) := by
    intro m
    induction m with
    | zero =>
      intro i hi σ' i1 i2 i3
      refine z_iload dX7_make_19 rfl ?_
      refine z_bipush dX7_make_21 rfl ?_
      refine z_icmp_ge (tgt := 45) dX7_make_23 (by decide) (by omega) (by omega) (fun b23 => ?_) (fun b23 => ?_)
      · refine h_vret dX7_make_45 rfl rfl rfl ?_
        refine ⟨⟨i1, fun q hq => ?_⟩, i3⟩
        rw [i2 q hq]
        unfold clF
        rw [show i = 40 by omega]
      · omega
    | succ m ih =>
      intro i hi σ' i1 i2 i3
      refine z_iload dX7_make_19 rfl ?_
      refine z_bipush dX7_make_21 rfl ?_
      refine z_icmp_ge (tgt := 45) dX7_make_23 (by decide) (by omega) (by omega) (fun b23 => ?_) (fun b23 => ?_)
      · omega
      · first | refine z_aload_n dX7_make_26 rfl ?_ | refine z_aload_nT dX7_make_26 rfl ?_
        refine h_getr dX7_make_27 fl_X7_16 (by first | assumption | rfl) (by rfl) ?_
        refine z_iload_n dX7_make_30 rfl ?_
        refine z_bipush dX7_make_31 rfl ?_
        refine z_imul dX7_make_33 ?_
        refine z_iload dX7_make_34 rfl ?_
        refine z_iadd dX7_make_36 ?_
        refine z_iconst dX7_make_37 ?_
        refine h_iast dX7_make_38 (by first | assumption | rfl) (by repeat' first | apply zc_add | apply zc_mul | with_reducible exact zc_var _ | exact zc_lit _) (by omega) (by decide) ?_
        refine z_iinc dX7_make_39 rfl (by decide) rfl ?_
        refine z_goto (tgt := 19) dX7_make_42 (by decide) ?_
        have h9 := ih (i + 1) (by omega) (zu σ' 4 (r * 40 + i) 0) (fun q hq => by rw [zu_o (by omega), zu_o (by omega)]; exact i1 q hq) (fun q hq => by
          by_cases h : q = r * 40 + i
          · subst h
            rw [zu_eq, if_pos (by omega)]
          · rw [zu_j h, i2 q hq]
            by_cases h2 : 40 * r ≤ q ∧ q < 40 * r + i
            · rw [if_pos h2, if_pos (by omega)]
            · rw [if_neg h2, if_neg (by omega)]) (fun o j h1 h2 h3 => by rw [zu_o h3]; exact i3 o j h1 h2 h3)
        rw [nsucc] at h9
        exact h9
  refine K_of 1 (by decide) (Nat.le_of_ble_eq_true rfl) (show Z _ _ 0 0 0 [some (zR 1), some (zI (r : Int)), some (zI l), some (zI n), none] [] _ _ from ?_)
  first | refine z_aload_n dX7_make_0 rfl ?_ | refine z_aload_nT dX7_make_0 rfl ?_
  refine h_getr dX7_make_1 fl_X7_9 (by first | assumption | rfl) (by rfl) ?_
  refine z_iload_n dX7_make_4 rfl ?_
  refine z_iload_n dX7_make_5 rfl ?_
  refine z_iconst dX7_make_6 ?_
  refine z_iadd dX7_make_7 ?_
  refine h_iast dX7_make_8 (by first | assumption | rfl) (by repeat' first | apply zc_add | apply zc_mul | with_reducible exact zc_var _ | exact zc_lit _) (by omega) (by decide) ?_
  first | refine z_aload_n dX7_make_9 rfl ?_ | refine z_aload_nT dX7_make_9 rfl ?_
  refine h_getr dX7_make_10 fl_X7_13 (by first | assumption | rfl) (by rfl) ?_
  refine z_iload_n dX7_make_13 rfl ?_
  refine z_iload_n dX7_make_14 rfl ?_
  refine h_iast dX7_make_15 (by first | assumption | rfl) (by repeat' first | apply zc_add | apply zc_mul | with_reducible exact zc_var _ | exact zc_lit _) (by omega) (by decide) ?_
  refine z_iconst dX7_make_16 ?_
  refine z_istore dX7_make_17 (by decide) rfl ?_
  refine loop 40 0 rfl _ (fun q hq => ?_) (fun q hq => ?_) (fun o j h1 h2 h3 => by rw [zu_o h2, zu_o h1])
  · have h1 := hC.2.1.1 q hq
    unfold zup
    by_cases h : q = r
    · subst h
      rw [zu_o (by omega), zu_eq, zu_eq, if_pos rfl, if_pos rfl]
      exact ⟨rfl, rfl⟩
    · rw [zu_o (by omega), zu_j h, zu_j h, zu_o (by omega), if_neg h, if_neg h]
      exact h1
  · rw [zu_o (by omega), zu_o (by omega), if_neg (by omega)]
    exact hC.2.1.2 q hq
def rBad (r l n : Int) : Prop := ¬ (0 ≤ r ∧ r ≤ 7) ∨ ¬ (0 ≤ l ∧ l ≤ 2) ∨ 40 < n
def aRow (r l n : Int) : Int := if ¬ (0 ≤ r ∧ r ≤ 7) ∨ ¬ (0 ≤ l ∧ l ≤ 2) ∨ 40 < n then BAD else if n < 0 then -1000014 else n
def nRow (α : Mem) (r l n : Int) : Mem := if ¬ (0 ≤ r ∧ r ≤ 7) ∨ ¬ (0 ≤ l ∧ l ≤ 2) ∨ 40 < n then α else if n < 0 then rowsU α (α 1) (α 2) (α 3) 4 else rowsU α (zup (α 1) r.toNat l) (zup (α 2) r.toNat n) (clF (α 3) r.toNat) 0
theorem c_row {r l n : Int} (hC : CI σ α) (hO : OK α) (hr : zin r) (hl : zin l) (hn : zin n) : KI rc M_X11_row [zR 0, zI r, zI l, zI n] σ (cP σ α (aRow r l n) (nRow α r l n)) := by
  have bad : ∀ σ2 : Mem, σ2 = σ → (¬ (0 ≤ r ∧ r ≤ 7) ∨ ¬ (0 ≤ l ∧ l ≤ 2) ∨ 40 < n) → Z rc M_X11_row 0 0 22 [some (zR 0), some (zI r), some (zI l), some (zI n)] [] (hp σ2) (qI (cP σ α (aRow r l n) (nRow α r l n))) := by
    intro σ2 e hb
    subst e
    refine z_ldc (n := -1000001) dX11_row_22 zw_268 rfl ?_
    refine h_iret dX11_row_24 rfl rfl rfl ?_
    exact ⟨by unfold aRow; rw [if_pos hb], by unfold nRow; rw [if_pos hb]; exact hC, fr.rf⟩
  refine K_of 0 (by decide) (Nat.le_of_ble_eq_true rfl) (show Z _ _ 0 0 0 [some (zR 0), some (zI r), some (zI l), some (zI n)] [] _ _ from ?_)
  refine z_iload_n dX11_row_0 rfl ?_
  refine h_Si1 (Y' := M_X11_isRow) dX11_row_1 zw_262 zw_263 ok_X11_isRow (by decide) rfl (Nat.le_of_ble_eq_true rfl) ⟨rfl, rfl⟩ (by decide) (c_isRow hr) (fun vv σ2 hq => ?_)
  obtain ⟨hv1, rfl⟩ := hq
  refine z_if_eq (tgt := 22) dX11_row_4 (by decide) (by omega) (fun b4 => ?_) (fun b4 => ?_)
  · exact bad _ rfl (by omega)
  · refine z_iload_n dX11_row_7 rfl ?_
    refine z_iconst dX11_row_8 ?_
    refine z_iconst dX11_row_9 ?_
    refine h_Si3 (Y' := M_X11_isWithin) dX11_row_10 zw_265 zw_266 ok_X11_isWithin (by decide) rfl (Nat.le_of_ble_eq_true rfl) ⟨rfl, rfl⟩ (by decide) (c_within hl (by omega) (by omega)) (fun vv σ2 hq => ?_)
    obtain ⟨hv2, rfl⟩ := hq
    refine z_if_eq (tgt := 22) dX11_row_13 (by decide) (by omega) (fun b13 => ?_) (fun b13 => ?_)
    · exact bad _ rfl (by omega)
    · refine z_iload_n dX11_row_16 rfl ?_
      refine z_bipush dX11_row_17 rfl ?_
      refine z_icmp_le (tgt := 25) dX11_row_19 (by decide) (by omega) (by omega) (fun b19 => ?_) (fun b19 => ?_)
      · refine z_iload_n dX11_row_25 rfl ?_
        refine z_if_ge (tgt := 35) dX11_row_26 (by decide) (by omega) (fun b26 => ?_) (fun b26 => ?_)
        · obtain ⟨q, rfl⟩ : ∃ p : Nat, r = (p : Int) := ⟨r.toNat, by omega⟩
          first | refine z_aload_n dX11_row_35 rfl ?_ | refine z_aload_nT dX11_row_35 rfl ?_
          refine h_getr dX11_row_36 fl_X11_12 (by first | assumption | rfl) (by rfl) ?_
          refine z_iload_n dX11_row_39 rfl ?_
          refine z_iload_n dX11_row_40 rfl ?_
          refine z_iload_n dX11_row_41 rfl ?_
          refine h_Vv3 (Y' := M_X7_make) dX11_row_42 zw_274 zw_275 zw_276 rfl ok_X7_make (by decide) rfl (Nat.le_of_ble_eq_true rfl) ⟨rfl, rfl⟩ (by decide) (by first | assumption | rfl) (k_make hC (by omega)) (fun σ2 hq => ?_)
          obtain ⟨h1, h2⟩ := hq
          first | refine z_aload_n dX11_row_45 rfl ?_ | refine z_aload_nT dX11_row_45 rfl ?_
          refine z_iload_n dX11_row_46 rfl ?_
          refine h_Vi1 (Y' := M_X11_fine) dX11_row_47 zw_278 zw_280 zs_1 rfl ok_X11_fine (by decide) rfl (Nat.le_of_ble_eq_true rfl) ⟨rfl, rfl⟩ (by decide) (by first | assumption | rfl) (c_fine) (fun vv σ2 hq => ?_)
          obtain ⟨rfl, rfl⟩ := hq
          refine h_iret dX11_row_50 rfl rfl rfl ?_
          refine ⟨by unfold aRow; rw [if_neg (by omega), if_neg (by omega)], ?_, fun o j h => by rw [zu_o (by omega), h2 o j (by omega) (by omega) (by omega)]⟩
          unfold nRow
          rw [if_neg (by omega), if_neg (by omega)]
          refine CI_rows hC (h1.eq (fun o j h3 h4 => zu_o (by omega))) zu_eq (fun o j a1 a2 a3 a4 a5 => ?_)
          by_cases ho : o = 0
          · subst ho
            rw [zu_j (by omega), h2 _ _ (by omega) (by omega) (by omega)]
          · rw [zu_o ho, h2 _ _ a2 a3 a4]
        · first | refine z_aload_n dX11_row_29 rfl ?_ | refine z_aload_nT dX11_row_29 rfl ?_
          refine z_iconst dX11_row_30 ?_
          refine h_Vi1 (Y' := M_X11_found) dX11_row_31 zw_269 zw_271 zs_0 rfl ok_X11_found (by decide) rfl (Nat.le_of_ble_eq_true rfl) ⟨rfl, rfl⟩ (by decide) (by first | assumption | rfl) (c_found) (fun vv σ2 hq => ?_)
          obtain ⟨rfl, rfl⟩ := hq
          refine h_iret dX11_row_34 rfl rfl rfl ?_
          refine ⟨by unfold aRow; rw [if_neg (by omega), if_pos (by omega)]; rfl, ?_⟩
          unfold nRow
          rw [if_neg (by omega), if_pos (by omega)]
          exact CI_st hC 4
      · exact bad _ rfl (by omega)
theorem r_row {r l n : Int} (hM : MI σ α) (hO : OK α) (hr : zin r) (hl : zin l) (hn : zin n) : KI rc M_X12_row [zR 40, zI r, zI l, zI n] σ (mP σ α (aRow r l n) (nRow α r l n)) := by
  have bad : ∀ σ2 : Mem, σ2 = σ → (¬ (0 ≤ r ∧ r ≤ 7) ∨ ¬ (0 ≤ l ∧ l ≤ 2) ∨ 40 < n) → Z rc M_X12_row 0 0 22 [some (zR 40), some (zI r), some (zI l), some (zI n), none] [] (hp σ2) (qI (mP σ α (aRow r l n) (nRow α r l n))) := by
    intro σ2 e hb
    subst e
    refine z_ldc (n := -1000001) dX12_row_22 zw_860 rfl ?_
    refine h_iret dX12_row_24 rfl rfl rfl ?_
    exact ⟨by unfold aRow; rw [if_pos hb], by unfold nRow; rw [if_pos hb]; exact hM, fr.rf⟩
  refine K_of 1 (by decide) (Nat.le_of_ble_eq_true rfl) (show Z _ _ 0 0 0 [some (zR 40), some (zI r), some (zI l), some (zI n), none] [] _ _ from ?_)
  refine z_iload_n dX12_row_0 rfl ?_
  refine h_Si1 (Y' := M_X12_isRow) dX12_row_1 zw_854 zw_855 ok_X12_isRow (by decide) rfl (Nat.le_of_ble_eq_true rfl) ⟨rfl, rfl⟩ (by decide) (m_isRow hr) (fun vv σ2 hq => ?_)
  obtain ⟨hv1, rfl⟩ := hq
  refine z_if_eq (tgt := 22) dX12_row_4 (by decide) (by omega) (fun b4 => ?_) (fun b4 => ?_)
  · exact bad _ rfl (by omega)
  · refine z_iload_n dX12_row_7 rfl ?_
    refine z_iconst dX12_row_8 ?_
    refine z_iconst dX12_row_9 ?_
    refine h_Si3 (Y' := M_X12_in) dX12_row_10 zw_857 zw_858 ok_X12_in (by decide) rfl (Nat.le_of_ble_eq_true rfl) ⟨rfl, rfl⟩ (by decide) (m_within hl (by omega) (by omega)) (fun vv σ2 hq => ?_)
    obtain ⟨hv2, rfl⟩ := hq
    refine z_if_eq (tgt := 22) dX12_row_13 (by decide) (by omega) (fun b13 => ?_) (fun b13 => ?_)
    · exact bad _ rfl (by omega)
    · refine z_iload_n dX12_row_16 rfl ?_
      refine z_bipush dX12_row_17 rfl ?_
      refine z_icmp_le (tgt := 25) dX12_row_19 (by decide) (by omega) (by omega) (fun b19 => ?_) (fun b19 => ?_)
      · refine z_iload_n dX12_row_25 rfl ?_
        refine z_if_ge (tgt := 35) dX12_row_26 (by decide) (by omega) (fun b26 => ?_) (fun b26 => ?_)
        · obtain ⟨q, rfl⟩ : ∃ p : Nat, r = (p : Int) := ⟨r.toNat, by omega⟩
          have loop : ∀ m i : Nat, i + m = 40 → ∀ σ' : Mem, (∀ x, x < 8 → σ' 41 x = zup (α 1) q l x ∧ σ' 42 x = zup (α 2) q n x) → (∀ x, x < 320 → σ' 43 x = if 40 * q ≤ x ∧ x < 40 * q + i then 0 else α 3 x) → (∀ o j, o ≠ 41 → o ≠ 42 → o ≠ 43 → σ' o j = σ2 o j) → Z rc M_X12_row 0 0 52 [some (zR 40), some (zI (q : Int)), some (zI l), some (zI n), some (zI (i : Int))] [] (hp σ') (qI (mP σ2 α (aRow q l n) (nRow α q l n))) := by
            intro m
            induction m with
            | zero =>
              intro i hi σ' i1 i2 i3
              refine z_iload dX12_row_52 rfl ?_
              refine z_bipush dX12_row_54 rfl ?_
              refine z_icmp_ge (tgt := 78) dX12_row_56 (by decide) (by omega) (by omega) (fun b56 => ?_) (fun b56 => ?_)
              · first | refine z_aload_n dX12_row_78 rfl ?_ | refine z_aload_nT dX12_row_78 rfl ?_
                refine z_iload_n dX12_row_79 rfl ?_
                refine h_Vi1 (Y' := M_X12_done) dX12_row_80 zw_866 zw_868 zs_27 rfl ok_X12_done (by decide) rfl (Nat.le_of_ble_eq_true rfl) ⟨rfl, rfl⟩ (by decide) (by first | assumption | rfl) (m_done) (fun vv σ2 hq => ?_)
                obtain ⟨rfl, rfl⟩ := hq
                refine h_iret dX12_row_83 rfl rfl rfl ?_
                refine ⟨by unfold aRow; rw [if_neg (by omega), if_neg (by omega)], ?_, fun o j h => by rw [zu_o (by omega), i3 o j (by omega) (by omega) (by omega)]⟩
                unfold nRow
                rw [if_neg (by omega), if_neg (by omega)]
                refine MI_rows hM ⟨fun x hx => by rw [zu_o (by omega), zu_o (by omega)]; exact i1 x hx, fun x hx => ?_⟩ zu_eq (fun o j a1 a2 a3 a4 a5 a6 => ?_)
                · rw [zu_o (by omega), i2 x hx]
                  unfold clF
                  rw [show i = 40 by omega]
                  rfl
                · by_cases ho : o = 40
                  · subst ho
                    rw [zu_j (by omega), i3 _ _ (by omega) (by omega) (by omega)]
                  · rw [zu_o ho, i3 _ _ a2 a3 a4]
              · omega
            | succ m ih =>
              intro i hi σ' i1 i2 i3
              refine z_iload dX12_row_52 rfl ?_
              refine z_bipush dX12_row_54 rfl ?_
              refine z_icmp_ge (tgt := 78) dX12_row_56 (by decide) (by omega) (by omega) (fun b56 => ?_) (fun b56 => ?_)
              · omega
              · first | refine z_aload_n dX12_row_59 rfl ?_ | refine z_aload_nT dX12_row_59 rfl ?_
                refine h_getr dX12_row_60 fl_X12_16 (by first | assumption | rfl) (by rfl) ?_
                refine z_bipush dX12_row_63 rfl ?_
                refine z_iload_n dX12_row_65 rfl ?_
                refine z_imul dX12_row_66 ?_
                refine z_iload dX12_row_67 rfl ?_
                refine z_iadd dX12_row_69 ?_
                refine z_iconst dX12_row_70 ?_
                refine h_iast dX12_row_71 (by first | assumption | rfl) (by repeat' first | apply zc_add | apply zc_mul | with_reducible exact zc_var _ | exact zc_lit _) (by omega) (by decide) ?_
                refine z_iinc dX12_row_72 rfl (by decide) rfl ?_
                refine z_goto (tgt := 52) dX12_row_75 (by decide) ?_
                have h9 := ih (i + 1) (by omega) (zu σ' 43 (40 * q + i) 0) (fun x hx => by rw [zu_o (by omega), zu_o (by omega)]; exact i1 x hx) (fun x hx => by
                  by_cases h : x = 40 * q + i
                  · subst h
                    rw [zu_eq, if_pos (by omega)]
                  · rw [zu_j h, i2 x hx]
                    by_cases h2 : 40 * q ≤ x ∧ x < 40 * q + i
                    · rw [if_pos h2, if_pos (by omega)]
                    · rw [if_neg h2, if_neg (by omega)]) (fun o j h1 h2 h3 => by rw [zu_o h3]; exact i3 o j h1 h2 h3)
                rw [nsucc] at h9
                exact h9
          first | refine z_aload_n dX12_row_35 rfl ?_ | refine z_aload_nT dX12_row_35 rfl ?_
          refine h_getr dX12_row_36 fl_X12_7 (by first | assumption | rfl) (by rfl) ?_
          refine z_iload_n dX12_row_39 rfl ?_
          refine z_iload_n dX12_row_40 rfl ?_
          refine h_iast dX12_row_41 (by first | assumption | rfl) (by repeat' first | apply zc_add | apply zc_mul | with_reducible exact zc_var _ | exact zc_lit _) (by omega) (by decide) ?_
          first | refine z_aload_n dX12_row_42 rfl ?_ | refine z_aload_nT dX12_row_42 rfl ?_
          refine h_getr dX12_row_43 fl_X12_13 (by first | assumption | rfl) (by rfl) ?_
          refine z_iload_n dX12_row_46 rfl ?_
          refine z_iload_n dX12_row_47 rfl ?_
          refine h_iast dX12_row_48 (by first | assumption | rfl) (by repeat' first | apply zc_add | apply zc_mul | with_reducible exact zc_var _ | exact zc_lit _) (by omega) (by decide) ?_
          refine z_iconst dX12_row_49 ?_
          refine z_istore dX12_row_50 (by decide) rfl ?_
          refine loop 40 0 rfl _ (fun x hx => ?_) (fun x hx => ?_) (fun o j h1 h2 h3 => by rw [zu_o h2, zu_o h1])
          · have h1 := hM.2.1.1 x hx
            unfold zup
            by_cases h : x = q
            · subst h
              rw [zu_o (by omega), zu_eq, zu_eq, if_pos rfl, if_pos rfl]
              exact ⟨rfl, rfl⟩
            · rw [zu_o (by omega), zu_j h, zu_j h, zu_o (by omega), if_neg h, if_neg h]
              exact h1
          · rw [zu_o (by omega), zu_o (by omega), if_neg (by omega)]
            exact hM.2.1.2 x hx
        · first | refine z_aload_n dX12_row_29 rfl ?_ | refine z_aload_nT dX12_row_29 rfl ?_
          refine z_iconst dX12_row_30 ?_
          refine h_Vi1 (Y' := M_X12_finds) dX12_row_31 zw_861 zw_863 zs_26 rfl ok_X12_finds (by decide) rfl (Nat.le_of_ble_eq_true rfl) ⟨rfl, rfl⟩ (by decide) (by first | assumption | rfl) (m_finds) (fun vv σ2 hq => ?_)
          obtain ⟨rfl, rfl⟩ := hq
          refine h_iret dX12_row_34 rfl rfl rfl ?_
          refine ⟨by unfold aRow; rw [if_neg (by omega), if_pos (by omega)]; rfl, ?_⟩
          unfold nRow
          rw [if_neg (by omega), if_pos (by omega)]
          exact MI_st hM 4
      · exact bad _ rfl (by omega)
def aDrop (α : Mem) (r : Int) : Int := if ¬ (0 ≤ r ∧ r ≤ 7) then BAD else if α 1 r.toNat < 0 then -1000011 else α 2 r.toNat
def nDrop (α : Mem) (r : Int) : Mem := if ¬ (0 ≤ r ∧ r ≤ 7) then α else if α 1 r.toNat < 0 then rowsU α (α 1) (α 2) (α 3) 1 else rowsU α (zup (α 1) r.toNat (-1)) (α 2) (α 3) 0
theorem c_drop {r : Int} (hC : CI σ α) (hO : OK α) (hr : zin r) : KI rc M_X11_drop [zR 0, zI r] σ (cP σ α (aDrop α r) (nDrop α r)) := by
  refine K_of 0 (by decide) (Nat.le_of_ble_eq_true rfl) (show Z _ _ 0 0 0 [some (zR 0), some (zI r)] [] _ _ from ?_)
  refine z_iload_n dX11_drop_0 rfl ?_
  refine h_Si1 (Y' := M_X11_isRow) dX11_drop_1 zw_262 zw_263 ok_X11_isRow (by decide) rfl (Nat.le_of_ble_eq_true rfl) ⟨rfl, rfl⟩ (by decide) (c_isRow hr) (fun vv σ2 hq => ?_)
  obtain ⟨hv1, rfl⟩ := hq
  refine z_if_ne (tgt := 10) dX11_drop_4 (by decide) (by omega) (fun b4 => ?_) (fun b4 => ?_)
  · obtain ⟨q, rfl⟩ : ∃ p : Nat, r = (p : Int) := ⟨r.toNat, by omega⟩
    first | refine z_aload_n dX11_drop_10 rfl ?_ | refine z_aload_nT dX11_drop_10 rfl ?_
    refine h_getr dX11_drop_11 fl_X11_12 (by first | assumption | rfl) (by rfl) ?_
    refine z_iload_n dX11_drop_14 rfl ?_
    refine h_Vi1 (Y' := M_X7_isMissing) dX11_drop_15 zw_286 zw_287 zw_288 rfl ok_X7_isMissing (by decide) rfl (Nat.le_of_ble_eq_true rfl) ⟨rfl, rfl⟩ (by decide) (by first | assumption | rfl) (k_isMissing hC hO (by omega)) (fun vv σ2 hq => ?_)
    obtain ⟨hv2, rfl⟩ := hq
    refine z_if_eq (tgt := 27) dX11_drop_18 (by decide) (by omega) (fun b18 => ?_) (fun b18 => ?_)
    · first | refine z_aload_n dX11_drop_27 rfl ?_ | refine z_aload_nT dX11_drop_27 rfl ?_
      first | refine z_aload_n dX11_drop_28 rfl ?_ | refine z_aload_nT dX11_drop_28 rfl ?_
      refine h_getr dX11_drop_29 fl_X11_12 (by first | assumption | rfl) (by rfl) ?_
      refine z_iload_n dX11_drop_32 rfl ?_
      refine h_Vi1 (Y' := M_X7_remove) (P := fun v σ' => v = σ2 3 q ∧ σ' = zu σ2 2 q 0) dX11_drop_33 zw_317 zw_318 zw_319 rfl ok_X7_remove (by decide) rfl (Nat.le_of_ble_eq_true rfl) ⟨rfl, rfl⟩ (by decide) rfl ?_ (fun v σ3 hq => ?_)
      · refine K_of 0 (by decide) (Nat.le_of_ble_eq_true rfl) (show Z _ _ 0 0 0 [some (zR 1), some (zI (q : Int))] [] _ _ from ?_)
        first | refine z_aload_n dX7_remove_0 rfl ?_ | refine z_aload_nT dX7_remove_0 rfl ?_
        refine h_getr dX7_remove_1 fl_X7_9 (by first | assumption | rfl) (by rfl) ?_
        refine z_iload_n dX7_remove_4 rfl ?_
        refine z_iconst dX7_remove_5 ?_
        refine h_iast dX7_remove_6 (by first | assumption | rfl) (by repeat' first | apply zc_add | apply zc_mul | with_reducible exact zc_var _ | exact zc_lit _) (by omega) (by decide) ?_
        first | refine z_aload_n dX7_remove_7 rfl ?_ | refine z_aload_nT dX7_remove_7 rfl ?_
        refine h_getr dX7_remove_8 fl_X7_13 (by first | assumption | rfl) (by rfl) ?_
        refine z_iload_n dX7_remove_11 rfl ?_
        first | refine h_iald dX7_remove_12 (by first | assumption | rfl) (by repeat' first | apply zc_add | apply zc_mul | with_reducible exact zc_var _ | exact zc_lit _) (by omega) (by decide) ?_ | refine z_ialdT _ dX7_remove_12 (by assumption) (by repeat' first | apply zc_add | apply zc_mul | with_reducible exact zc_var _ | exact zc_lit _) (by omega) (by omega) ?_
        refine h_iret dX7_remove_13 rfl rfl rfl ?_
        exact ⟨by rw [zu_o (by omega)], rfl⟩
      · obtain ⟨rfl, rfl⟩ := hq
        refine h_Vi1 (Y' := M_X11_fine) dX11_drop_36 zw_278 zw_280 zs_1 rfl ok_X11_fine (by decide) rfl (Nat.le_of_ble_eq_true rfl) ⟨rfl, rfl⟩ (by decide) (by first | assumption | rfl) (c_fine) (fun vv σ2 hq => ?_)
        obtain ⟨rfl, rfl⟩ := hq
        refine h_iret dX11_drop_39 rfl rfl rfl ?_
        have e2 := (hC.2.1.1 q (by omega)).2
        refine ⟨by unfold aDrop; rw [if_neg (by omega), if_neg (by show ¬ α 1 q < 0; omega)]; exact e2, ?_, fun o j h => by rw [zu_o (by omega), zu_o (by omega)]⟩
        unfold nDrop
        rw [if_neg (by omega), if_neg (by show ¬ α 1 q < 0; omega)]
        refine CI_rows hC ⟨fun x hx => ?_, fun x hx => by rw [zu_o (by omega), zu_o (by omega)]; exact hC.2.1.2 x hx⟩ zu_eq (fun o j a1 a2 a3 a4 a5 => ?_)
        · have h1 := hC.2.1.1 x hx
          refine ⟨?_, by rw [zu_o (by omega), zu_o (by omega)]; exact h1.2⟩
          show _ = zup (α 1) q (-1) x + 1
          unfold zup
          rw [zu_o (by omega)]
          by_cases h : x = q
          · subst h
            rw [zu_eq, if_pos rfl]
            rfl
          · rw [zu_j h, if_neg h]
            exact h1.1
        · by_cases ho : o = 0
          · subst ho
            rw [zu_j (by omega), zu_o (by omega)]
          · rw [zu_o ho, zu_o a2]
    · first | refine z_aload_n dX11_drop_21 rfl ?_ | refine z_aload_nT dX11_drop_21 rfl ?_
      refine z_iconst dX11_drop_22 ?_
      refine h_Vi1 (Y' := M_X11_found) dX11_drop_23 zw_269 zw_271 zs_0 rfl ok_X11_found (by decide) rfl (Nat.le_of_ble_eq_true rfl) ⟨rfl, rfl⟩ (by decide) (by first | assumption | rfl) (c_found) (fun vv σ2 hq => ?_)
      obtain ⟨rfl, rfl⟩ := hq
      refine h_iret dX11_drop_26 rfl rfl rfl ?_
      refine ⟨by unfold aDrop; rw [if_neg (by omega), if_pos (by show α 1 q < 0; omega)]; rfl, ?_⟩
      unfold nDrop
      rw [if_neg (by omega), if_pos (by show α 1 q < 0; omega)]
      exact CI_st hC 1
  · refine z_ldc (n := -1000001) dX11_drop_7 zw_268 rfl ?_
    refine h_iret dX11_drop_9 rfl rfl rfl ?_
    exact ⟨by unfold aDrop; rw [if_pos (by omega)], by unfold nDrop; rw [if_pos (by omega)]; exact hC, fr.rf⟩
theorem r_drop {r : Int} (hM : MI σ α) (hO : OK α) (hr : zin r) : KI rc M_X12_drop [zR 40, zI r] σ (mP σ α (aDrop α r) (nDrop α r)) := by
  refine K_of 0 (by decide) (Nat.le_of_ble_eq_true rfl) (show Z _ _ 0 0 0 [some (zR 40), some (zI r)] [] _ _ from ?_)
  refine z_iload_n dX12_drop_0 rfl ?_
  refine h_Si1 (Y' := M_X12_isRow) dX12_drop_1 zw_854 zw_855 ok_X12_isRow (by decide) rfl (Nat.le_of_ble_eq_true rfl) ⟨rfl, rfl⟩ (by decide) (m_isRow hr) (fun vv σ2 hq => ?_)
  obtain ⟨hv1, rfl⟩ := hq
  refine z_if_ne (tgt := 10) dX12_drop_4 (by decide) (by omega) (fun b4 => ?_) (fun b4 => ?_)
  · obtain ⟨q, rfl⟩ : ∃ p : Nat, r = (p : Int) := ⟨r.toNat, by omega⟩
    have e1 := (hM.2.1.1 q (by omega)).1
    have e2 := (hM.2.1.1 q (by omega)).2
    have o1 := (hO.2.1.1 q (by omega)).1
    first | refine z_aload_n dX12_drop_10 rfl ?_ | refine z_aload_nT dX12_drop_10 rfl ?_
    refine h_getr dX12_drop_11 fl_X12_7 (by first | assumption | rfl) (by rfl) ?_
    refine z_iload_n dX12_drop_14 rfl ?_
    first | refine h_iald dX12_drop_15 (by first | assumption | rfl) (by repeat' first | apply zc_add | apply zc_mul | with_reducible exact zc_var _ | exact zc_lit _) (by omega) (by decide) ?_ | refine z_ialdT _ dX12_drop_15 (by assumption) (by repeat' first | apply zc_add | apply zc_mul | with_reducible exact zc_var _ | exact zc_lit _) (by omega) (by omega) ?_
    refine z_if_ge (tgt := 25) dX12_drop_16 (by decide) (by omega) (fun b16 => ?_) (fun b16 => ?_)
    · first | refine z_aload_n dX12_drop_25 rfl ?_ | refine z_aload_nT dX12_drop_25 rfl ?_
      refine h_getr dX12_drop_26 fl_X12_7 (by first | assumption | rfl) (by rfl) ?_
      refine z_iload_n dX12_drop_29 rfl ?_
      refine z_iconst dX12_drop_30 ?_
      refine h_iast dX12_drop_31 (by first | assumption | rfl) (by repeat' first | apply zc_add | apply zc_mul | with_reducible exact zc_var _ | exact zc_lit _) (by omega) (by decide) ?_
      first | refine z_aload_n dX12_drop_32 rfl ?_ | refine z_aload_nT dX12_drop_32 rfl ?_
      first | refine z_aload_n dX12_drop_33 rfl ?_ | refine z_aload_nT dX12_drop_33 rfl ?_
      refine h_getr dX12_drop_34 fl_X12_13 (by first | assumption | rfl) (by rfl) ?_
      refine z_iload_n dX12_drop_37 rfl ?_
      first | refine h_iald dX12_drop_38 (by first | assumption | rfl) (by repeat' first | apply zc_add | apply zc_mul | with_reducible exact zc_var _ | exact zc_lit _) (by omega) (by decide) ?_ | refine z_ialdT _ dX12_drop_38 (by assumption) (by repeat' first | apply zc_add | apply zc_mul | with_reducible exact zc_var _ | exact zc_lit _) (by omega) (by omega) ?_
      refine h_Vi1 (Y' := M_X12_done) dX12_drop_39 zw_866 zw_868 zs_27 rfl ok_X12_done (by decide) rfl (Nat.le_of_ble_eq_true rfl) ⟨rfl, rfl⟩ (by decide) (by first | assumption | rfl) (m_done) (fun vv σ2 hq => ?_)
      obtain ⟨rfl, rfl⟩ := hq
      refine h_iret dX12_drop_42 rfl rfl rfl ?_
      refine ⟨by unfold aDrop; rw [if_neg (by omega), if_neg (by show ¬ α 1 q < 0; omega), zu_o (by omega)]; exact e2, ?_, fun o j h => by rw [zu_o (by omega), zu_o (by omega)]⟩
      unfold nDrop
      rw [if_neg (by omega), if_neg (by show ¬ α 1 q < 0; omega)]
      refine MI_rows hM ⟨fun x hx => ?_, fun x hx => by rw [zu_o (by omega), zu_o (by omega)]; exact hM.2.1.2 x hx⟩ zu_eq (fun o j a1 a2 a3 a4 a5 a6 => ?_)
      · have h1 := hM.2.1.1 x hx
        refine ⟨?_, by rw [zu_o (by omega), zu_o (by omega)]; exact h1.2⟩
        show _ = zup (α 1) q (-1) x
        unfold zup
        rw [zu_o (by omega)]
        by_cases h : x = q
        · subst h
          rw [zu_eq, if_pos rfl]
        · rw [zu_j h, if_neg h]
          exact h1.1
      · by_cases ho : o = 40
        · subst ho
          rw [zu_j (by omega), zu_o (by omega)]
        · rw [zu_o ho, zu_o a2]
    · first | refine z_aload_n dX12_drop_19 rfl ?_ | refine z_aload_nT dX12_drop_19 rfl ?_
      refine z_iconst dX12_drop_20 ?_
      refine h_Vi1 (Y' := M_X12_finds) dX12_drop_21 zw_861 zw_863 zs_26 rfl ok_X12_finds (by decide) rfl (Nat.le_of_ble_eq_true rfl) ⟨rfl, rfl⟩ (by decide) (by first | assumption | rfl) (m_finds) (fun vv σ2 hq => ?_)
      obtain ⟨rfl, rfl⟩ := hq
      refine h_iret dX12_drop_24 rfl rfl rfl ?_
      refine ⟨by unfold aDrop; rw [if_neg (by omega), if_pos (by show α 1 q < 0; omega)]; rfl, ?_⟩
      unfold nDrop
      rw [if_neg (by omega), if_pos (by show α 1 q < 0; omega)]
      exact MI_st hM 1
  · refine z_ldc (n := -1000001) dX12_drop_7 zw_860 rfl ?_
    refine h_iret dX12_drop_9 rfl rfl rfl ?_
    exact ⟨by unfold aDrop; rw [if_pos (by omega)], by unfold nDrop; rw [if_pos (by omega)]; exact hM, fr.rf⟩
end
