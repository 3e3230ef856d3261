/-! drawn -/
def blF (t : Nat → Int) (p : Nat) : Nat → Int := zup (zup t (24 + p) (t (24 + p) + 1)) 2 (t 2 - 1)
theorem blF_lo {t : Nat → Int} {p i : Nat} (h : i ≠ 2) (h2 : i < 24) : blF t p i = t i := by
  unfold blF
  rw [zup_ne h, zup_ne (by omega)]
theorem cok_bl {B : Int} {t : Nat → Int} {p : Nat} (h : cok B t) (h2 : 1 ≤ t 2) (h9 : t (24 + p) < 99) : cok B (blF t p) := by
  have e : ∀ i, i ≠ 2 → i < 24 → blF t p i = t i := fun i h1 h2 => blF_lo h1 h2
  obtain ⟨a8, a3, a0, a1, a2, a4, a5, a6, a7, hq⟩ := h
  refine ⟨?_, ?_, ?_, ?_, ?_, ?_, ?_, ?_, ?_, ?_⟩
  · rw [e 8 (by omega) (by omega)]; exact a8
  · rw [e 3 (by omega) (by omega)]; exact a3
  · rw [e 0 (by omega) (by omega)]; exact a0
  · rw [e 1 (by omega) (by omega)]; exact a1
  · have : blF t p 2 = t 2 - 1 := by
      unfold blF zup
      rw [if_pos rfl]
    omega
  · rw [e 4 (by omega) (by omega)]; exact a4
  · rw [e 5 (by omega) (by omega)]; exact a5
  · rw [e 6 (by omega) (by omega)]; exact a6
  · rw [e 7 (by omega) (by omega)]; exact a7
  · intro q hq2
    rw [e 3 (by omega) (by omega)] at hq2
    obtain ⟨q1, q2, q3, q4⟩ := hq q hq2
    rw [e (9 + q) (by omega) (by omega), e (14 + q) (by omega) (by omega), e (19 + q) (by omega) (by omega)]
    refine ⟨q1, q2, q3, ?_⟩
    unfold blF
    rw [zup_ne (by omega)]
    by_cases hqp : q = p
    · subst hqp
      unfold zup
      rw [if_pos rfl]
      omega
    · rw [zup_ne (by omega)]
      exact q4
theorem mR_bl {σ : Mem} {o p : Nat} {t : Nat → Int} (h : mR σ o t) (hp5 : p < 5) : mR (zu (zu σ o 2 (t 2 - 1)) o (24 + p) (t (24 + p) + 1)) o (blF t p) := by
  intro i hi
  unfold blF zup
  by_cases h2 : i = 2
  · subst h2
    rw [zu_j (by omega), zu_eq, if_pos rfl]
  · rw [if_neg h2]
    by_cases h4 : i = 24 + p
    · subst h4
      rw [zu_eq, if_pos rfl]
    · rw [zu_j h4, zu_j h2, if_neg h4]
      exact h i hi
def drX (x : Int) : Int := x * 16807 % 2147483647
def drB (t : Nat → Int) (x : Int) : Nat → Int := if t 3 = 0 ∨ t 2 = 0 then t else if t (24 + (x % t 3).toNat) < 99 then blF t (x % t 3).toNat else t
def drS (t : Nat → Int) (x : Int) : Nat → Int := goF (if x % 2 = 0 then drB t x else t) (x % 5)
def drL : Nat → Int → (Nat → Int) → (Nat → Int)
  | 0, _, t => t
  | n + 1, x, t => drL n (drX x) (drS t (drX x))
theorem drL_s {n : Nat} {x : Int} {t : Nat → Int} : drL (n + 1) x t = drL n (drX x) (drS t (drX x)) := rfl
theorem drB_ok {B x : Int} {t : Nat → Int} (h : cok B t) : cok B (drB t x) ∧ drB t x 3 = t 3 := by
  unfold drB
  split
  · exact ⟨h, rfl⟩
  · split
    · exact ⟨cok_bl h (by have := h.2.2.2.2.1; omega) (by assumption), blF_lo (by omega) (by omega)⟩
    · exact ⟨h, rfl⟩
theorem drS_ok {B x : Int} {t : Nat → Int} (h : cok B t) : cok (B + 1) (drS t x) ∧ drS t x 3 = t 3 := by
  unfold drS
  split
  · exact ⟨goF_ok (drB_ok h).1 (by omega) (by omega), (goF_lo (by omega) (by omega)).trans (drB_ok h).2⟩
  · exact ⟨goF_ok h (by omega) (by omega), goF_lo (by omega) (by omega)⟩
section
variable {rc : ZRC} {σ α : Mem}
theorem c_buildDrawn {x B : Int} {t : Nat → Int} (hR : cR σ 13 t) (hk : cok B t) (h0 : 0 ≤ x) (h1 : x ≤ 2147483647) : KV rc M_X11_buildDrawn [zR 0, zJ x] σ (fun σ' => cR σ' 13 (drB t x) ∧ fr 13 5 σ σ') := by
  have a3 := hk.2.1
  have a2 := hk.2.2.2.2.1
  have e5 := hR.2.1
  have e8 := hR.2.2.2.2.1
  have no : (t 3 = 0 ∨ t 2 = 0) → Z rc M_X11_buildDrawn 0 0 20 [some (zR 0), some (zJ x), none, none] [] (hp σ) (qV (fun σ' => cR σ' 13 (drB t x) ∧ fr 13 5 σ σ')) := by
    intro h
    refine h_vret dX11_buildDrawn_20 rfl rfl rfl ?_
    unfold drB
    rw [if_pos h]
    exact ⟨hR, fr.rf⟩
  refine K_of 1 (by decide) (Nat.le_of_ble_eq_true rfl) (show Z _ _ 0 0 0 [some (zR 0), some (zJ x), none, none] [] _ _ from ?_)
  first | refine z_aload_n dX11_buildDrawn_0 rfl ?_ | refine z_aload_nT dX11_buildDrawn_0 rfl ?_
  refine h_getr dX11_buildDrawn_1 fl_X11_30 (by first | assumption | rfl) (by rfl) ?_
  refine h_geti dX11_buildDrawn_4 fl_X11_173 (by first | assumption | rfl) (by rfl) ?_
  refine z_if_eq (tgt := 20) dX11_buildDrawn_7 (by decide) (by omega) (fun b7 => ?_) (fun b7 => ?_)
  · exact no (by omega)
  · first | refine z_aload_n dX11_buildDrawn_10 rfl ?_ | refine z_aload_nT dX11_buildDrawn_10 rfl ?_
    refine h_getr dX11_buildDrawn_11 fl_X11_30 (by first | assumption | rfl) (by rfl) ?_
    refine h_geti dX11_buildDrawn_14 fl_X11_200 (by first | assumption | rfl) (by rfl) ?_
    refine z_if_ne (tgt := 21) dX11_buildDrawn_17 (by decide) (by omega) (fun b17 => ?_) (fun b17 => ?_)
    · have m1 := Int.emod_nonneg x (b := t 3) (by omega)
      have m2 := Int.emod_lt_of_pos x (b := t 3) (by omega)
      obtain ⟨p, hpe⟩ : ∃ p : Nat, x % t 3 = (p : Int) := ⟨(x % t 3).toNat, by omega⟩
      have q := cR13p hR (p := p) (by omega)
      have q4 := (hk.2.2.2.2.2.2.2.2.2 p (by omega)).2.2.2
      have ed : drB t x = if t (24 + p) < 99 then blF t p else t := by
        unfold drB
        rw [if_neg (by omega), hpe]
        rfl
      rw [ed]
      refine z_lload_n dX11_buildDrawn_21 rfl ?_
      first | refine z_aload_n dX11_buildDrawn_22 rfl ?_ | refine z_aload_nT dX11_buildDrawn_22 rfl ?_
      refine h_getr dX11_buildDrawn_23 fl_X11_30 (by first | assumption | rfl) (by rfl) ?_
      refine h_geti dX11_buildDrawn_26 fl_X11_173 (by first | assumption | rfl) (by rfl) ?_
      refine z_i2l dX11_buildDrawn_29 (by omega) ?_
      refine z_lrem dX11_buildDrawn_30 (by omega) (by omega) (by omega) (by omega) ?_
      refine z_l2i dX11_buildDrawn_31 ?_
      rw [e5, hpe]
      refine z_istore_n dX11_buildDrawn_32 (by decide) rfl ?_
      first | refine z_aload_n dX11_buildDrawn_33 rfl ?_ | refine z_aload_nT dX11_buildDrawn_33 rfl ?_
      refine h_getr dX11_buildDrawn_34 fl_X11_30 (by first | assumption | rfl) (by rfl) ?_
      refine h_getr dX11_buildDrawn_37 fl_X11_203 (by first | assumption | rfl) (by rfl) ?_
      refine z_iload_n dX11_buildDrawn_40 rfl ?_
      first | refine h_iald dX11_buildDrawn_41 (by first | assumption | rfl) (by repeat' first | apply zc_add | apply zc_mul | with_reducible exact zc_var _ | exact zc_lit _) (by omega) (by decide) ?_ | refine z_ialdT _ dX11_buildDrawn_41 (by assumption) (by repeat' first | apply zc_add | apply zc_mul | with_reducible exact zc_var _ | exact zc_lit _) (by omega) (by omega) ?_
      refine z_bipush dX11_buildDrawn_42 rfl ?_
      refine z_icmp_ge (tgt := 55) dX11_buildDrawn_44 (by decide) (by omega) (by omega) (fun b44 => ?_) (fun b44 => ?_)
      · refine h_vret dX11_buildDrawn_55 rfl rfl rfl ?_
        rw [if_neg (by omega)]
        exact ⟨hR, fr.rf⟩
      · first | refine z_aload_n dX11_buildDrawn_47 rfl ?_ | refine z_aload_nT dX11_buildDrawn_47 rfl ?_
        refine h_getr dX11_buildDrawn_48 fl_X11_30 (by first | assumption | rfl) (by rfl) ?_
        refine z_iload_n dX11_buildDrawn_51 rfl ?_
        refine h_Vv1 (Y' := M_X2_buildSpan) dX11_buildDrawn_52 zw_472 zw_473 zw_474 rfl ok_X2_buildSpan (by decide) rfl (Nat.le_of_ble_eq_true rfl) ⟨rfl, rfl⟩ (by decide) (by first | assumption | rfl) (k_buildSpan (Or.inr (Or.inl rfl)) hR a3 (by omega)) (fun σ2 hq => ?_)
        rw [if_pos (by omega)]
        refine h_vret dX11_buildDrawn_55 rfl rfl rfl ?_
        exact hq
    · exact no (by omega)
def aDrawn (α : Mem) (n s w : Int) : Int := if α 5 8 = 0 then STATE else if ¬ (0 ≤ n ∧ n ≤ 60) ∨ ¬ (1 ≤ s ∧ s ≤ 999999) ∨ ¬ (0 ≤ w ∧ w ≤ 1) then BAD else if w = 0 then drL n.toNat s (α 5) 1 else spF (drL n.toNat s (α 5)) (α 5 3).toNat
theorem c_drawn {n s w : Int} (hC : CI σ α) (hO : OK α) (hn : zin n) (hs : zin s) (hw : zin w) : KI rc M_X11_drawn [zR 0, zI n, zI s, zI w] σ (cP σ α (aDrawn α n s w) α) := by
  have h3 := OKc_3 hO
  have h8 := OKc_8 hO
  have hR := hC.2.2.2.1
  have e8 := hR.1
  have bad : ∀ σ2 : Mem, σ2 = σ → ¬ α 5 8 = 0 → (¬ (0 ≤ n ∧ n ≤ 60) ∨ ¬ (1 ≤ s ∧ s ≤ 999999) ∨ ¬ (0 ≤ w ∧ w ≤ 1)) → Z rc M_X11_drawn 0 0 43 [some (zR 0), some (zI n), some (zI s), some (zI w), none, none, none] [] (hp σ2) (qI (cP σ α (aDrawn α n s w) α)) := by
    intro σ2 e hn hb
    subst e
    refine z_ldc (n := -1000001) dX11_drawn_43 zw_268 rfl ?_
    refine h_iret dX11_drawn_45 rfl rfl rfl ?_
    exact ⟨by unfold aDrawn; rw [if_neg hn, if_pos hb], hC, fr.rf⟩
  refine K_of 3 (by decide) (Nat.le_of_ble_eq_true rfl) (show Z _ _ 0 0 0 [some (zR 0), some (zI n), some (zI s), some (zI w), none, none, none] [] _ _ from ?_)
  first | refine z_aload_n dX11_drawn_0 rfl ?_ | refine z_aload_nT dX11_drawn_0 rfl ?_
  refine h_getr dX11_drawn_1 fl_X11_26 (by first | assumption | rfl) (by rfl) ?_
  refine h_geti dX11_drawn_4 fl_X11_176 (by first | assumption | rfl) (by rfl) ?_
  refine z_if_ne (tgt := 13) dX11_drawn_7 (by decide) (by omega) (fun b7 => ?_) (fun b7 => ?_)
  · have hk := OKc_s hO (by omega)
    refine z_iload_n dX11_drawn_13 rfl ?_
    refine z_iconst dX11_drawn_14 ?_
    refine z_bipush dX11_drawn_15 rfl ?_
    refine h_Si3 (Y' := M_X11_isWithin) dX11_drawn_17 zw_265 zw_266 ok_X11_isWithin (by decide) rfl (Nat.le_of_ble_eq_true rfl) ⟨rfl, rfl⟩ (by decide) (c_within hn (by omega) (by omega)) (fun vv σ2 hq => ?_)
    obtain ⟨hv1, rfl⟩ := hq
    refine z_if_eq (tgt := 43) dX11_drawn_20 (by decide) (by omega) (fun b20 => ?_) (fun b20 => ?_)
    · exact bad _ rfl (by omega) (by omega)
    · refine z_iload_n dX11_drawn_23 rfl ?_
      refine z_iconst dX11_drawn_24 ?_
      refine z_ldcw (n := 999999) dX11_drawn_25 zw_639 rfl ?_
      refine h_Si3 (Y' := M_X11_isWithin) dX11_drawn_28 zw_265 zw_266 ok_X11_isWithin (by decide) rfl (Nat.le_of_ble_eq_true rfl) ⟨rfl, rfl⟩ (by decide) (c_within hs (by omega) (by omega)) (fun vv σ2 hq => ?_)
      obtain ⟨hv2, rfl⟩ := hq
      refine z_if_eq (tgt := 43) dX11_drawn_31 (by decide) (by omega) (fun b31 => ?_) (fun b31 => ?_)
      · exact bad _ rfl (by omega) (by omega)
      · refine z_iload_n dX11_drawn_34 rfl ?_
        refine z_iconst dX11_drawn_35 ?_
        refine z_iconst dX11_drawn_36 ?_
        refine h_Si3 (Y' := M_X11_isWithin) dX11_drawn_37 zw_265 zw_266 ok_X11_isWithin (by decide) rfl (Nat.le_of_ble_eq_true rfl) ⟨rfl, rfl⟩ (by decide) (c_within hw (by omega) (by omega)) (fun vv σ2 hq => ?_)
        obtain ⟨hv3, rfl⟩ := hq
        refine z_if_ne (tgt := 46) dX11_drawn_40 (by decide) (by omega) (fun b40 => ?_) (fun b40 => ?_)
        · obtain ⟨n, rfl⟩ : ∃ x : Nat, n = (x : Int) := ⟨n.toNat, by omega⟩
          have loop : ∀ m k : Nat, k + m = n → ∀ (σ' : Mem) (t : Nat → Int) (x : Int), 0 ≤ x → x ≤ 2147483647 → cok (999 + k) t → t 3 = α 5 3 → cR σ' 13 t → fr 13 5 σ2 σ' → Z rc M_X11_drawn 0 0 64 [some (zR 0), some (zI (n : Int)), some (zI s), some (zI w), some (zJ x), none, some (zI (k : Int))] [] (hp σ') (qI (fun v σ' => v = (if w = 0 then drL m x t 1 else spF (drL m x t) (α 5 3).toNat) ∧ fr 13 5 σ2 σ')) := by
            intro m
            induction m with
            | zero =>
              intro k hkm σ' t x x0 x1 hk2 t3 i1 i2
              refine z_iload dX11_drawn_64 rfl ?_
              refine z_iload_n dX11_drawn_66 rfl ?_
              refine z_icmp_ge (tgt := 119) dX11_drawn_67 (by decide) (by omega) (by omega) (fun b67 => ?_) (fun b67 => ?_)
              · refine z_iload_n dX11_drawn_119 rfl ?_
                refine z_if_ne (tgt := 133) dX11_drawn_120 (by decide) (by omega) (fun b120 => ?_) (fun b120 => ?_)
                · rw [if_neg (by omega), ← t3]
                  first | refine z_aload_n dX11_drawn_133 rfl ?_ | refine z_aload_nT dX11_drawn_133 rfl ?_
                  refine h_getr dX11_drawn_134 fl_X11_30 (by first | assumption | rfl) (by rfl) ?_
                  refine h_Vi0 (Y' := M_X2_allSpans) dX11_drawn_137 zw_648 zw_649 zw_650 rfl ok_X2_allSpans (by decide) rfl (Nat.le_of_ble_eq_true rfl) ⟨rfl, rfl⟩ (by decide) (by first | assumption | rfl) (k_allSpans (Or.inr (Or.inl rfl)) i1 hk2.2.1 (spF t) rfl (fun _ _ => rfl)) (fun vv σ2 hq => ?_)
                  obtain ⟨rfl, rfl⟩ := hq
                  refine h_iret dX11_drawn_140 rfl rfl rfl ?_
                  exact ⟨rfl, i2⟩
                · rw [if_pos (by omega)]
                  first | refine z_aload_n dX11_drawn_123 rfl ?_ | refine z_aload_nT dX11_drawn_123 rfl ?_
                  refine h_getr dX11_drawn_124 fl_X11_30 (by first | assumption | rfl) (by rfl) ?_
                  refine h_geti dX11_drawn_127 fl_X11_194 (by first | assumption | rfl) (by rfl) ?_
                  refine z_goto (tgt := 140) dX11_drawn_130 (by decide) ?_
                  refine h_iret dX11_drawn_140 rfl rfl rfl ?_
                  exact ⟨i1.2.2.2.1, i2⟩
              · omega
            | succ m ih =>
              intro k hkm σ' t x x0 x1 hk2 t3 i1 i2
              have hX : 0 ≤ drX x ∧ drX x ≤ 2147483647 := by unfold drX; omega
              rw [drL_s]
              obtain ⟨y, hy⟩ : ∃ y, y = drX x := ⟨_, rfl⟩
              have hy2 : x * 16807 % 2147483647 = y := hy.symm
              rw [← hy] at hX ⊢
              have hS := drS_ok (x := y) hk2
              have nxt : ∀ (σ3 : Mem) (t1 : Nat → Int), cok (999 + k) t1 → drS t y = goF t1 (y % 5) → cR σ3 13 t1 → fr 13 5 σ2 σ3 → Z rc M_X11_drawn 0 0 99 [some (zR 0), some (zI (n : Int)), some (zI s), some (zI w), some (zJ y), none, some (zI (k : Int))] [] (hp σ3) (qI (fun v σ' => v = (if w = 0 then drL m y (drS t y) 1 else spF (drL m y (drS t y)) (α 5 3).toNat) ∧ fr 13 5 σ2 σ')) := by
                intro σ3 t1 c1 c2 c3 c4
                first | refine z_aload_n dX11_drawn_99 rfl ?_ | refine z_aload_nT dX11_drawn_99 rfl ?_
                refine h_getr dX11_drawn_100 fl_X11_30 (by first | assumption | rfl) (by rfl) ?_
                refine z_lload dX11_drawn_103 rfl ?_
                refine z_ldc2 (n := 5) dX11_drawn_105 zw_647 rfl ?_
                refine z_lrem dX11_drawn_108 (by omega) (by omega) (by omega) (by omega) ?_
                refine z_l2i dX11_drawn_109 ?_
                obtain ⟨σ1, rfl⟩ : ∃ z, z = σ2 := ⟨_, rfl⟩
                refine h_Vv1 (Y' := M_X2_pass) dX11_drawn_110 zw_433 zw_434 zw_435 rfl ok_X2_pass (by decide) rfl (Nat.le_of_ble_eq_true rfl) ⟨rfl, rfl⟩ (by decide) (by first | assumption | rfl) (k_pass (Or.inr (Or.inl rfl)) c3 c1 (by omega) (by omega) (by omega)) (fun σ2 hq => ?_)
                obtain ⟨j1, j2⟩ := hq
                rw [← c2] at j1
                refine z_iinc dX11_drawn_113 rfl (by decide) rfl ?_
                refine z_goto (tgt := 64) dX11_drawn_116 (by decide) ?_
                have := ih (k + 1) (by omega) σ2 (drS t y) y hX.1 hX.2 (by have := hS.1; rw [nsucc, ← Int.add_assoc]; exact this) (hS.2.trans t3) j1 (c4.tr j2)
                rw [nsucc] at this
                exact this
              refine z_iload dX11_drawn_64 rfl ?_
              refine z_iload_n dX11_drawn_66 rfl ?_
              refine z_icmp_ge (tgt := 119) dX11_drawn_67 (by decide) (by omega) (by omega) (fun b67 => ?_) (fun b67 => ?_)
              · omega
              · refine z_lload dX11_drawn_70 rfl ?_
                refine z_ldc2 (n := 16807) dX11_drawn_72 zw_640 rfl ?_
                refine z_lmul dX11_drawn_75 ?_
                refine z_ldc2 (n := 2147483647) dX11_drawn_76 zw_641 rfl ?_
                refine z_lrem dX11_drawn_79 (by omega) (by omega) (by omega) (by omega) ?_
                rw [hy2]
                refine z_lstore dX11_drawn_80 (by decide) rfl ?_
                refine z_lload dX11_drawn_82 rfl ?_
                refine z_ldc2 (n := 2) dX11_drawn_84 zw_642 rfl ?_
                refine z_lrem dX11_drawn_87 (by omega) (by omega) (by omega) (by omega) ?_
                refine z_lconst dX11_drawn_88 ?_
                refine z_lcmp dX11_drawn_89 (by omega) (by omega) ?_
                by_cases hy0 : y % 2 = 0
                · rw [hy0]
                  refine z_if_ne (tgt := 99) dX11_drawn_90 (by decide) (by omega) (fun b90 => ?_) (fun b90 => ?_)
                  · exact absurd rfl b90
                  · first | refine z_aload_n dX11_drawn_93 rfl ?_ | refine z_aload_nT dX11_drawn_93 rfl ?_
                    refine z_lload dX11_drawn_94 rfl ?_
                    obtain ⟨σ1, rfl⟩ : ∃ z, z = σ2 := ⟨_, rfl⟩
                    refine h_Vv1 (Y' := M_X11_buildDrawn) dX11_drawn_96 zw_643 zw_645 zs_23 rfl ok_X11_buildDrawn (by decide) rfl (Nat.le_of_ble_eq_true rfl) ⟨rfl, rfl⟩ (by decide) (by first | assumption | rfl) (c_buildDrawn i1 hk2 hX.1 hX.2) (fun σ2 hq => ?_)
                    exact nxt σ2 (drB t y) (drB_ok hk2).1 (by unfold drS; rw [if_pos hy0]) hq.1 (i2.tr hq.2)
                · have hy1 : y % 2 = 1 := by omega
                  rw [hy1]
                  refine z_if_ne (tgt := 99) dX11_drawn_90 (by decide) (by omega) (fun b90 => ?_) (fun b90 => ?_)
                  · exact nxt σ' t hk2 (by unfold drS; rw [if_neg hy0]) i1 i2
                  · exact absurd b90 (by decide)
          first | refine z_aload_n dX11_drawn_46 rfl ?_ | refine z_aload_nT dX11_drawn_46 rfl ?_
          refine h_getr dX11_drawn_47 fl_X11_30 (by first | assumption | rfl) (by rfl) ?_
          first | refine z_aload_n dX11_drawn_50 rfl ?_ | refine z_aload_nT dX11_drawn_50 rfl ?_
          refine h_getr dX11_drawn_51 fl_X11_26 (by first | assumption | rfl) (by rfl) ?_
          obtain ⟨σ1, rfl⟩ : ∃ z, z = σ2 := ⟨_, rfl⟩
          refine h_Vv1 (Y' := M_X2_become) dX11_drawn_54 zw_401 zw_402 zw_403 rfl ok_X2_become (by decide) rfl (Nat.le_of_ble_eq_true rfl) ⟨rfl, rfl⟩ (by decide) (by first | assumption | rfl) (k_become (Or.inr (Or.inl rfl)) (Or.inl rfl) (by decide) hR hk.2.1 (Or.inr hk.1)) (fun σ2 hq => ?_)
          obtain ⟨j1, j2⟩ := hq
          refine z_iload_n dX11_drawn_57 rfl ?_
          refine z_i2l dX11_drawn_58 (by omega) ?_
          refine z_lstore dX11_drawn_59 (by decide) rfl ?_
          refine z_iconst dX11_drawn_61 ?_
          refine z_istore dX11_drawn_62 (by decide) rfl ?_
          refine Z_mono (loop n 0 (by omega) σ2 (α 5) s (by omega) (by omega) hk rfl j1 j2) (fun v σ' hq => ?_)
          refine ⟨?_, CI13 hC hq.2⟩
          unfold aDrawn
          rw [if_neg (by omega), if_neg (by omega)]
          exact hq.1
        · exact bad _ rfl (by omega) (by omega)
  · refine z_ldc (n := -1000002) dX11_drawn_10 zw_417 rfl ?_
    refine h_iret dX11_drawn_12 rfl rfl rfl ?_
    exact ⟨by unfold aDrawn; rw [if_pos (by omega)], hC, fr.rf⟩
end
