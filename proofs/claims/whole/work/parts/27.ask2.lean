/-! ask -/
section
variable {rc : ZRC} {σ α : Mem}
def aAsk (α : Mem) (a w : Int) : Int := if ¬ (0 ≤ a ∧ a < α 5 3) ∨ ¬ (0 ≤ w ∧ w ≤ 1) then BAD else if w = 0 then szV (α 5 (9 + a.toNat)) a (α 5 (24 + a.toNat)) (α 5 (14 + a.toNat)) else mkV (α 5 (9 + a.toNat)) a (α 5 (24 + a.toNat)) (α 5 (14 + a.toNat))
def nAsk (α : Mem) (a w : Int) : Mem := if ¬ (0 ≤ a ∧ a < α 5 3) ∨ ¬ (0 ≤ w ∧ w ≤ 1) then α else if w = 0 then trU α (szT (α 5 (9 + a.toNat))) else trU α (mkT (α 5 (9 + a.toNat)))
theorem CI_tr {τ : Mem} {l : List Int} (h : CI σ α) (h1 : τ 30 1 = 0) (e : ∀ o j, o ≠ 30 → τ o j = σ o j) : CI (l.foldl lvC τ) (trU α l) ∧ fr 0 40 σ (l.foldl lvC τ) := by
  obtain ⟨t1, t2, t3, t4⟩ := trC (l := l) (σ := τ) (n := 0) h1
  have z : ∀ o j, o ≠ 30 → o ≠ 31 → (l.foldl lvC τ) o j = σ o j := fun o j k1 k2 => (t4 o j k2 (Or.inl k1)).trans (e o j k1)
  obtain ⟨⟨b1, b2⟩, d1, ⟨c1, c2⟩, d, ⟨⟨f1, f2⟩, f3, f4⟩, f, ⟨g1, g2⟩⟩ := h
  refine ⟨⟨⟨(z _ _ (by omega) (by omega)).trans b1, (z _ _ (by omega) (by omega)).trans b2⟩, d1.eq (fun o j h1 h2 => z o j (by omega) (by omega)), ⟨(z _ _ (by omega) (by omega)).trans c1, fun i hi => (z _ _ (by omega) (by omega)).trans (c2 i hi)⟩, cR_eq d (fun o j h1 h2 => z o j (by omega) (by omega)), ⟨⟨(z _ _ (by omega) (by omega)).trans f1, (z _ _ (by omega) (by omega)).trans f2⟩, fun h => cR_eq (f3 h) (fun o j h1 h2 => z o j (by omega) (by omega)), fun h => cR_eq (f4 h) (fun o j h1 h2 => z o j (by omega) (by omega))⟩, (f.eq (fun o j h1 h2 => z o j (by omega) (by omega))).congr trU_10, ⟨?_, fun i hi => ?_⟩⟩, fun o j h => z o j (by omega) (by omega)⟩
  · rw [t1, Nat.zero_add]
    rfl
  · have hi : (i : Int) < (l.length : Int) := hi
    have := t3 i (by omega)
    rw [Nat.zero_add] at this
    exact this
theorem MI_tr {τ : Mem} {l : List Int} (h : MI σ α) (h1 : τ 40 20 = 0) (e : ∀ o j, ¬ (o = 40 ∧ j = 20) → τ o j = σ o j) : MI (l.foldl lvM τ) (trU α l) ∧ fr 40 15 σ (l.foldl lvM τ) := by
  obtain ⟨t1, t2, t3, t4⟩ := trM (l := l) (σ := τ) (n := 0) h1
  have z : ∀ o j, o ≠ 51 → ¬ (o = 40 ∧ j = 20) → (l.foldl lvM τ) o j = σ o j := fun o j k1 k2 => (t4 o j k1 (by omega)).trans (e o j k2)
  obtain ⟨⟨b1, b2⟩, ⟨d1, d2⟩, ⟨c1, c2⟩, d, ⟨⟨f1, f2⟩, f3, f4⟩, ⟨k1, k2⟩, ⟨g1, g2⟩⟩ := h
  refine ⟨⟨⟨(z _ _ (by omega) (by omega)).trans b1, (z _ _ (by omega) (by omega)).trans b2⟩, ⟨fun r hr => ⟨(z _ _ (by omega) (by omega)).trans (d1 r hr).1, (z _ _ (by omega) (by omega)).trans (d1 r hr).2⟩, fun i hi => (z _ _ (by omega) (by omega)).trans (d2 i hi)⟩, ⟨(z _ _ (by omega) (by omega)).trans c1, fun i hi => (z _ _ (by omega) (by omega)).trans (c2 i hi)⟩, fun i hi => (z _ _ (by omega) (by omega)).trans (d i hi), ⟨⟨(z _ _ (by omega) (by omega)).trans f1, (z _ _ (by omega) (by omega)).trans f2⟩, fun h i hi => (z _ _ (by omega) (by omega)).trans (f3 h i hi), fun h i hi => (z _ _ (by omega) (by omega)).trans (f4 h i hi)⟩, ⟨(z _ _ (by omega) (by omega)).trans k1, fun j hj i hi => by rw [trU_10]; exact (z _ _ (by omega) (by omega)).trans (k2 j hj i hi)⟩, ⟨?_, fun i hi => ?_⟩⟩, fun o j h => z o j (by omega) (by omega)⟩
  · rw [t1, Nat.zero_add]
    rfl
  · have hi : (i : Int) < (l.length : Int) := hi
    have := t3 i (by omega)
    rw [Nat.zero_add] at this
    exact this
theorem k_abegin {a b c : Int} : KV rc M_X0_begin [zR 30, zI a, zI b, zI c] σ (fun σ' => σ' 30 1 = 0 ∧ σ' 30 2 = a ∧ σ' 30 3 = b ∧ σ' 30 4 = c ∧ ∀ o j, o ≠ 30 → σ' o j = σ o j) := by
  refine K_of 0 (by decide) (Nat.le_of_ble_eq_true rfl) (show Z _ _ 0 0 0 [some (zR 30), some (zI a), some (zI b), some (zI c)] [] _ _ from ?_)
  first | refine z_aload_n dX0_begin_0 rfl ?_ | refine z_aload_nT dX0_begin_0 rfl ?_
  refine z_iconst dX0_begin_1 ?_
  refine h_puti dX0_begin_2 fp_X0_15 (by first | assumption | rfl) (by rfl) ?_
  first | refine z_aload_n dX0_begin_5 rfl ?_ | refine z_aload_nT dX0_begin_5 rfl ?_
  refine z_iload_n dX0_begin_6 rfl ?_
  refine h_puti dX0_begin_7 fp_X0_19 (by first | assumption | rfl) (by rfl) ?_
  first | refine z_aload_n dX0_begin_10 rfl ?_ | refine z_aload_nT dX0_begin_10 rfl ?_
  refine z_iload_n dX0_begin_11 rfl ?_
  refine h_puti dX0_begin_12 fp_X0_22 (by first | assumption | rfl) (by rfl) ?_
  first | refine z_aload_n dX0_begin_15 rfl ?_ | refine z_aload_nT dX0_begin_15 rfl ?_
  refine z_iload_n dX0_begin_16 rfl ?_
  refine h_puti dX0_begin_17 fp_X0_25 (by first | assumption | rfl) (by rfl) ?_
  refine h_vret dX0_begin_20 rfl rfl rfl ?_
  refine ⟨?_, ?_, ?_, ?_, fun o j h => ?_⟩
  · simp [zu, zup]
  · simp [zu, zup]
  · simp [zu, zup]
  · simp [zu, zup]
  · simp [zu, h]
theorem c_ask {a w : Int} (hC : CI σ α) (hO : OK α) (ha : zin a) (hw : zin w) : KI rc M_X11_ask [zR 0, zI a, zI w] σ (cP σ α (aAsk α a w) (nAsk α a w)) := by
  have h3 := OKc_3 hO
  have hR := hC.2.2.2.1
  have bad : ∀ σ2 : Mem, σ2 = σ → (¬ (0 ≤ a ∧ a < α 5 3) ∨ ¬ (0 ≤ w ∧ w ≤ 1)) → Z rc M_X11_ask 0 0 17 [some (zR 0), some (zI a), some (zI w), none] [] (hp σ2) (qI (cP σ α (aAsk α a w) (nAsk α a w))) := by
    intro σ2 e hb
    subst e
    refine z_ldc (n := -1000001) dX11_ask_17 zw_268 rfl ?_
    refine h_iret dX11_ask_19 rfl rfl rfl ?_
    exact ⟨by unfold aAsk; rw [if_pos hb], by unfold nAsk; rw [if_pos hb]; exact hC, fr.rf⟩
  refine K_of 1 (by decide) (Nat.le_of_ble_eq_true rfl) (show Z _ _ 0 0 0 [some (zR 0), some (zI a), some (zI w), none] [] _ _ from ?_)
  first | refine z_aload_n dX11_ask_0 rfl ?_ | refine z_aload_nT dX11_ask_0 rfl ?_
  refine z_iload_n dX11_ask_1 rfl ?_
  refine h_Vi1 (Y' := M_X11_isPier) dX11_ask_2 zw_468 zw_470 zs_10 rfl ok_X11_isPier (by decide) rfl (Nat.le_of_ble_eq_true rfl) ⟨rfl, rfl⟩ (by decide) (by first | assumption | rfl) (c_isPier ha hR.2.1 h3) (fun vv σ2 hq => ?_)
  obtain ⟨hv1, rfl⟩ := hq
  refine z_if_eq (tgt := 17) dX11_ask_5 (by decide) (by omega) (fun b5 => ?_) (fun b5 => ?_)
  · exact bad _ rfl (by omega)
  · refine z_iload_n dX11_ask_8 rfl ?_
    refine z_iconst dX11_ask_9 ?_
    refine z_iconst dX11_ask_10 ?_
    refine h_Si3 (Y' := M_X11_isWithin) dX11_ask_11 zw_265 zw_266 ok_X11_isWithin (by decide) rfl (Nat.le_of_ble_eq_true rfl) ⟨rfl, rfl⟩ (by decide) (c_within hw (by omega) (by omega)) (fun vv σ2 hq => ?_)
    obtain ⟨hv2, rfl⟩ := hq
    refine z_if_ne (tgt := 20) dX11_ask_14 (by decide) (by omega) (fun b14 => ?_) (fun b14 => ?_)
    · have hk := OKc_p hO (a := a) (by omega) (by omega)
      obtain ⟨p, rfl⟩ : ∃ p : Nat, a = (p : Int) := ⟨a.toNat, by omega⟩
      obtain ⟨p1, p2, p3, p4⟩ := cR8p hR (p := p) (by omega)
      obtain ⟨q1, q2, q3, q4⟩ := hk.2.2.2.2.2.2.2.2.2 p (by omega)
      obtain ⟨σ1, rfl⟩ : ∃ z, z = σ2 := ⟨_, rfl⟩
      first | refine z_aload_n dX11_ask_20 rfl ?_ | refine z_aload_nT dX11_ask_20 rfl ?_
      refine h_getr dX11_ask_21 fl_X11_49 (by first | assumption | rfl) (by rfl) ?_
      refine z_iload_n dX11_ask_24 rfl ?_
      first | refine z_aload_n dX11_ask_25 rfl ?_ | refine z_aload_nT dX11_ask_25 rfl ?_
      refine h_getr dX11_ask_26 fl_X11_26 (by first | assumption | rfl) (by rfl) ?_
      refine h_getr dX11_ask_29 fl_X11_218 (by first | assumption | rfl) (by rfl) ?_
      refine z_iload_n dX11_ask_32 rfl ?_
      first | refine h_iald dX11_ask_33 (by first | assumption | rfl) (by repeat' first | apply zc_add | apply zc_mul | with_reducible exact zc_var _ | exact zc_lit _) (by omega) (by decide) ?_ | refine z_ialdT _ dX11_ask_33 (by assumption) (by repeat' first | apply zc_add | apply zc_mul | with_reducible exact zc_var _ | exact zc_lit _) (by omega) (by omega) ?_
      first | refine z_aload_n dX11_ask_34 rfl ?_ | refine z_aload_nT dX11_ask_34 rfl ?_
      refine h_getr dX11_ask_35 fl_X11_26 (by first | assumption | rfl) (by rfl) ?_
      refine h_getr dX11_ask_38 fl_X11_203 (by first | assumption | rfl) (by rfl) ?_
      refine z_iload_n dX11_ask_41 rfl ?_
      first | refine h_iald dX11_ask_42 (by first | assumption | rfl) (by repeat' first | apply zc_add | apply zc_mul | with_reducible exact zc_var _ | exact zc_lit _) (by omega) (by decide) ?_ | refine z_ialdT _ dX11_ask_42 (by assumption) (by repeat' first | apply zc_add | apply zc_mul | with_reducible exact zc_var _ | exact zc_lit _) (by omega) (by omega) ?_
      rw [p2, p4]
      refine h_Vv3 (Y' := M_X0_begin) dX11_ask_43 zw_684 zw_685 zw_686 rfl ok_X0_begin (by decide) rfl (Nat.le_of_ble_eq_true rfl) ⟨rfl, rfl⟩ (by decide) (by first | assumption | rfl) (k_abegin) (fun σ2 hq => ?_)
      obtain ⟨i1, i2, i3, i4, i5⟩ := hq
      have j9 := i5 9 p (by omega)
      first | refine z_aload_n dX11_ask_46 rfl ?_ | refine z_aload_nT dX11_ask_46 rfl ?_
      first | refine z_aload_n dX11_ask_47 rfl ?_ | refine z_aload_nT dX11_ask_47 rfl ?_
      refine h_getr dX11_ask_48 fl_X11_26 (by first | assumption | rfl) (by rfl) ?_
      refine h_getr dX11_ask_51 fl_X11_315 (by first | assumption | rfl) (by rfl) ?_
      refine z_iload_n dX11_ask_54 rfl ?_
      first | refine h_iald dX11_ask_55 (by first | assumption | rfl) (by repeat' first | apply zc_add | apply zc_mul | with_reducible exact zc_var _ | exact zc_lit _) (by omega) (by decide) ?_ | refine z_ialdT _ dX11_ask_55 (by assumption) (by repeat' first | apply zc_add | apply zc_mul | with_reducible exact zc_var _ | exact zc_lit _) (by omega) (by omega) ?_
      rw [j9, p1]
      refine h_Vr1 (Y' := M_X11_bodyOf) dX11_ask_56 zw_672 zw_674 zs_25 rfl ok_X11_bodyOf (by decide) rfl (Nat.le_of_ble_eq_true rfl) ⟨rfl, rfl⟩ (by decide) (by first | assumption | rfl) (c_bodyOf q1.1 q1.2) (fun vv σ2 hq => ?_)
      obtain ⟨rfl, rfl⟩ := hq
      have hc : α 5 (9 + p) = 1 ∨ α 5 (9 + p) = 2 ∨ α 5 (9 + p) = 3 ∨ α 5 (9 + p) = 4 ∨ α 5 (9 + p) = 5 := by omega
      have fin : ∀ (v : Int) (l : List Int), (v = if w = 0 then szV (α 5 (9 + p)) (p : Int) (α 5 (24 + p)) (α 5 (14 + p)) else mkV (α 5 (9 + p)) (p : Int) (α 5 (24 + p)) (α 5 (14 + p))) → (l = if w = 0 then szT (α 5 (9 + p)) else mkT (α 5 (9 + p))) → ∀ x3 : Option ZV, Z rc M_X11_ask 0 0 83 [some (zR 0), some (zI (p : Int)), some (zI w), x3] [zI v] (hp (l.foldl lvC σ2)) (qI (cP σ1 α (aAsk α p w) (nAsk α p w))) := by
        intro v l hv hl x3
        refine h_iret dX11_ask_83 rfl rfl rfl ?_
        obtain ⟨c1, c2⟩ := CI_tr (l := l) hC i1 i5
        refine ⟨by unfold aAsk; rw [if_neg (by omega)]; exact hv, ?_, c2⟩
        unfold nAsk
        rw [if_neg (by omega)]
        by_cases hw0 : w = 0
        · rw [if_pos hw0]
          rw [if_pos hw0] at hl
          rw [hl] at c1 ⊢
          exact c1
        · rw [if_neg hw0]
          rw [if_neg hw0] at hl
          rw [hl] at c1 ⊢
          exact c1
      refine z_astore_n dX11_ask_59 (by decide) rfl ?_
      refine z_iload_n dX11_ask_60 rfl ?_
      refine z_if_ne (tgt := 75) dX11_ask_61 (by decide) (by omega) (fun b61 => ?_) (fun b61 => ?_)
      · rcases hc with hc | hc | hc | hc | hc
        · have eo : kiO (α 5 (9 + p)) = 32 := by rw [hc]; rfl
          rw [eo]
          first | refine z_aload_n dX11_ask_75 rfl ?_ | refine z_aload_nT dX11_ask_75 rfl ?_
          first | refine z_aload_n dX11_ask_76 rfl ?_ | refine z_aload_nT dX11_ask_76 rfl ?_
          refine h_getr dX11_ask_77 fl_X11_49 (by first | assumption | rfl) (by rfl) ?_
          refine h_Ui1 (Y' := M_X3_mark) (X := M_X5_mark) "PierYears$Irons" dX11_ask_80 zw_734 zw_1140 zw_718 zw_704 zw_1143 rfl ok_X5_mark rfl ok_X3_mark (by decide) rfl (Nat.le_of_ble_eq_true rfl) ⟨rfl, rfl⟩ (by decide) (by first | assumption | rfl) (k_imk rfl (by decide) (by omega) (by omega)) (fun vv σ2 hq => ?_)
          obtain ⟨rfl, rfl⟩ := hq
          exact fin _ (mkT 1) (by rw [if_neg b61, hc]; first | (rw [i2, i3, i4]; rfl) | (rw [i2, i4]; rfl) | (rw [i2, i3]; rfl) | (rw [i3]; rfl)) (by rw [if_neg b61, hc]) _
        · have eo : kiO (α 5 (9 + p)) = 33 := by rw [hc]; rfl
          rw [eo]
          first | refine z_aload_n dX11_ask_75 rfl ?_ | refine z_aload_nT dX11_ask_75 rfl ?_
          first | refine z_aload_n dX11_ask_76 rfl ?_ | refine z_aload_nT dX11_ask_76 rfl ?_
          refine h_getr dX11_ask_77 fl_X11_49 (by first | assumption | rfl) (by rfl) ?_
          refine h_Ui1 (Y' := M_X1_mark) (X := M_X5_mark) "PierYears$Cast" dX11_ask_80 zw_734 zw_1140 zw_718 zw_708 zw_1142 rfl ok_X5_mark rfl ok_X1_mark (by decide) rfl (Nat.le_of_ble_eq_true rfl) ⟨rfl, rfl⟩ (by decide) (by first | assumption | rfl) (k_cmk rfl (by decide) (by omega) (by omega)) (fun vv σ2 hq => ?_)
          obtain ⟨rfl, rfl⟩ := hq
          exact fin _ (mkT 2) (by rw [if_neg b61, hc]; first | (rw [i2, i3, i4]; rfl) | (rw [i2, i4]; rfl) | (rw [i2, i3]; rfl) | (rw [i3]; rfl)) (by rw [if_neg b61, hc]) _
        · have eo : kiO (α 5 (9 + p)) = 34 := by rw [hc]; rfl
          rw [eo]
          first | refine z_aload_n dX11_ask_75 rfl ?_ | refine z_aload_nT dX11_ask_75 rfl ?_
          first | refine z_aload_n dX11_ask_76 rfl ?_ | refine z_aload_nT dX11_ask_76 rfl ?_
          refine h_getr dX11_ask_77 fl_X11_49 (by first | assumption | rfl) (by rfl) ?_
          refine h_Ui1 (Y' := M_X8_mark) (X := M_X5_mark) "PierYears$Rusty" dX11_ask_80 zw_734 zw_1140 zw_718 zw_712 zw_1147 rfl ok_X5_mark rfl ok_X8_mark (by decide) rfl (Nat.le_of_ble_eq_true rfl) ⟨rfl, rfl⟩ (by decide) (by first | assumption | rfl) (k_rmk rfl (by decide) (by omega) (by omega)) (fun vv σ2 hq => ?_)
          obtain ⟨rfl, rfl⟩ := hq
          exact fin _ (mkT 3) (by rw [if_neg b61, hc]; first | (rw [i2, i3, i4]; rfl) | (rw [i2, i4]; rfl) | (rw [i2, i3]; rfl) | (rw [i3]; rfl)) (by rw [if_neg b61, hc]) _
        · have eo : kiO (α 5 (9 + p)) = 35 := by rw [hc]; rfl
          rw [eo]
          first | refine z_aload_n dX11_ask_75 rfl ?_ | refine z_aload_nT dX11_ask_75 rfl ?_
          first | refine z_aload_n dX11_ask_76 rfl ?_ | refine z_aload_nT dX11_ask_76 rfl ?_
          refine h_getr dX11_ask_77 fl_X11_49 (by first | assumption | rfl) (by rfl) ?_
          refine h_Ui1 (Y' := M_X10_mark) (X := M_X5_mark) "PierYears$Wooden" dX11_ask_80 zw_734 zw_1140 zw_718 zw_735 zw_1148 rfl ok_X5_mark rfl ok_X10_mark (by decide) rfl (Nat.le_of_ble_eq_true rfl) ⟨rfl, rfl⟩ (by decide) (by first | assumption | rfl) (k_wmk4 (by omega)) (fun vv σ2 hq => ?_)
          obtain ⟨rfl, rfl⟩ := hq
          exact fin _ (mkT 4) (by rw [if_neg b61, hc]; first | (rw [i2, i3, i4]; rfl) | (rw [i2, i4]; rfl) | (rw [i2, i3]; rfl) | (rw [i3]; rfl)) (by rw [if_neg b61, hc]) _
        · have eo : kiO (α 5 (9 + p)) = 36 := by rw [hc]; rfl
          rw [eo]
          first | refine z_aload_n dX11_ask_75 rfl ?_ | refine z_aload_nT dX11_ask_75 rfl ?_
          first | refine z_aload_n dX11_ask_76 rfl ?_ | refine z_aload_nT dX11_ask_76 rfl ?_
          refine h_getr dX11_ask_77 fl_X11_49 (by first | assumption | rfl) (by rfl) ?_
          refine h_Ui1 (Y' := M_X10_mark) (X := M_X5_mark) "PierYears$Piled" dX11_ask_80 zw_734 zw_1140 zw_718 zw_735 zw_1144 rfl ok_X5_mark rfl ok_X10_mark (by decide) rfl (Nat.le_of_ble_eq_true rfl) ⟨rfl, rfl⟩ (by decide) (by first | assumption | rfl) (k_wmk5 (by omega)) (fun vv σ2 hq => ?_)
          obtain ⟨rfl, rfl⟩ := hq
          exact fin _ (mkT 5) (by rw [if_neg b61, hc]; first | (rw [i2, i3, i4]; rfl) | (rw [i2, i4]; rfl) | (rw [i2, i3]; rfl) | (rw [i3]; rfl)) (by rw [if_neg b61, hc]) _
      · rcases hc with hc | hc | hc | hc | hc
        · have eo : kiO (α 5 (9 + p)) = 32 := by rw [hc]; rfl
          rw [eo]
          first | refine z_aload_n dX11_ask_64 rfl ?_ | refine z_aload_nT dX11_ask_64 rfl ?_
          first | refine z_aload_n dX11_ask_65 rfl ?_ | refine z_aload_nT dX11_ask_65 rfl ?_
          refine h_getr dX11_ask_66 fl_X11_49 (by first | assumption | rfl) (by rfl) ?_
          refine h_Ui1 (Y' := M_X3_size) (X := M_X5_size) "PierYears$Irons" dX11_ask_69 zw_688 zw_690 zw_689 zw_699 zw_721 rfl ok_X5_size rfl ok_X3_size (by decide) rfl (Nat.le_of_ble_eq_true rfl) ⟨rfl, rfl⟩ (by decide) (by first | assumption | rfl) (k_isz1 (by omega)) (fun vv σ2 hq => ?_)
          obtain ⟨rfl, rfl⟩ := hq
          refine z_goto (tgt := 83) dX11_ask_72 (by decide) ?_
          exact fin _ (szT 1) (by rw [if_pos b61, hc]; first | (rw [i2, i3, i4]; rfl) | (rw [i2, i4]; rfl) | (rw [i2, i3]; rfl) | (rw [i3]; rfl)) (by rw [if_pos b61, hc]) _
        · have eo : kiO (α 5 (9 + p)) = 33 := by rw [hc]; rfl
          rw [eo]
          first | refine z_aload_n dX11_ask_64 rfl ?_ | refine z_aload_nT dX11_ask_64 rfl ?_
          first | refine z_aload_n dX11_ask_65 rfl ?_ | refine z_aload_nT dX11_ask_65 rfl ?_
          refine h_getr dX11_ask_66 fl_X11_49 (by first | assumption | rfl) (by rfl) ?_
          refine h_Ui1 (Y' := M_X1_size) (X := M_X5_size) "PierYears$Cast" dX11_ask_69 zw_688 zw_690 zw_689 zw_692 zw_691 rfl ok_X5_size rfl ok_X1_size (by decide) rfl (Nat.le_of_ble_eq_true rfl) ⟨rfl, rfl⟩ (by decide) (by first | assumption | rfl) (k_csz (by omega)) (fun vv σ2 hq => ?_)
          obtain ⟨rfl, rfl⟩ := hq
          refine z_goto (tgt := 83) dX11_ask_72 (by decide) ?_
          exact fin _ (szT 2) (by rw [if_pos b61, hc]; first | (rw [i2, i3, i4]; rfl) | (rw [i2, i4]; rfl) | (rw [i2, i3]; rfl) | (rw [i3]; rfl)) (by rw [if_pos b61, hc]) _
        · have eo : kiO (α 5 (9 + p)) = 34 := by rw [hc]; rfl
          rw [eo]
          first | refine z_aload_n dX11_ask_64 rfl ?_ | refine z_aload_nT dX11_ask_64 rfl ?_
          first | refine z_aload_n dX11_ask_65 rfl ?_ | refine z_aload_nT dX11_ask_65 rfl ?_
          refine h_getr dX11_ask_66 fl_X11_49 (by first | assumption | rfl) (by rfl) ?_
          refine h_Ui1 (Y' := M_X3_size) (X := M_X5_size) "PierYears$Rusty" dX11_ask_69 zw_688 zw_690 zw_689 zw_699 zw_731 rfl ok_X5_size rfl ok_X3_size (by decide) rfl (Nat.le_of_ble_eq_true rfl) ⟨rfl, rfl⟩ (by decide) (by first | assumption | rfl) (k_isz3 (by omega)) (fun vv σ2 hq => ?_)
          obtain ⟨rfl, rfl⟩ := hq
          refine z_goto (tgt := 83) dX11_ask_72 (by decide) ?_
          exact fin _ (szT 3) (by rw [if_pos b61, hc]; first | (rw [i2, i3, i4]; rfl) | (rw [i2, i4]; rfl) | (rw [i2, i3]; rfl) | (rw [i3]; rfl)) (by rw [if_pos b61, hc]) _
        · have eo : kiO (α 5 (9 + p)) = 35 := by rw [hc]; rfl
          rw [eo]
          first | refine z_aload_n dX11_ask_64 rfl ?_ | refine z_aload_nT dX11_ask_64 rfl ?_
          first | refine z_aload_n dX11_ask_65 rfl ?_ | refine z_aload_nT dX11_ask_65 rfl ?_
          refine h_getr dX11_ask_66 fl_X11_49 (by first | assumption | rfl) (by rfl) ?_
          refine h_Ui1 (Y' := M_X10_size) (X := M_X5_size) "PierYears$Wooden" dX11_ask_69 zw_688 zw_690 zw_689 zw_727 zw_732 rfl ok_X5_size rfl ok_X10_size (by decide) rfl (Nat.le_of_ble_eq_true rfl) ⟨rfl, rfl⟩ (by decide) (by first | assumption | rfl) (k_wsz rfl (by decide) (by omega) (by omega)) (fun vv σ2 hq => ?_)
          obtain ⟨rfl, rfl⟩ := hq
          refine z_goto (tgt := 83) dX11_ask_72 (by decide) ?_
          exact fin _ (szT 4) (by rw [if_pos b61, hc]; first | (rw [i2, i3, i4]; rfl) | (rw [i2, i4]; rfl) | (rw [i2, i3]; rfl) | (rw [i3]; rfl)) (by rw [if_pos b61, hc]) _
        · have eo : kiO (α 5 (9 + p)) = 36 := by rw [hc]; rfl
          rw [eo]
          first | refine z_aload_n dX11_ask_64 rfl ?_ | refine z_aload_nT dX11_ask_64 rfl ?_
          first | refine z_aload_n dX11_ask_65 rfl ?_ | refine z_aload_nT dX11_ask_65 rfl ?_
          refine h_getr dX11_ask_66 fl_X11_49 (by first | assumption | rfl) (by rfl) ?_
          refine h_Ui1 (Y' := M_X6_size) (X := M_X5_size) "PierYears$Piled" dX11_ask_69 zw_688 zw_690 zw_689 zw_723 zw_722 rfl ok_X5_size rfl ok_X6_size (by decide) rfl (Nat.le_of_ble_eq_true rfl) ⟨rfl, rfl⟩ (by decide) (by first | assumption | rfl) (k_psz5 rfl (by decide) (by omega) (by omega)) (fun vv σ2 hq => ?_)
          obtain ⟨rfl, rfl⟩ := hq
          refine z_goto (tgt := 83) dX11_ask_72 (by decide) ?_
          exact fin _ (szT 5) (by rw [if_pos b61, hc]; first | (rw [i2, i3, i4]; rfl) | (rw [i2, i4]; rfl) | (rw [i2, i3]; rfl) | (rw [i3]; rfl)) (by rw [if_pos b61, hc]) _
    · exact bad _ rfl (by omega)
theorem m_mkIrons {p : Nat} (h24 : σ 45 (24 + p) = α 5 (24 + p)) (hp5 : p < 5) (h0 : 0 ≤ σ 40 20) (h1 : σ 40 20 < 14) : KI rc M_X12_markIrons [zR 40, zI (p : Int)] σ (fun v σ' => v = (p : Int) + α 5 (24 + p) ∧ σ' = lvM (lvM σ 21) 20) := by
  refine K_of 0 (by decide) (Nat.le_of_ble_eq_true rfl) (show Z _ _ 0 0 0 [some (zR 40), some (zI (p : Int))] [] _ _ from ?_)
  first | refine z_aload_n dX12_markIrons_0 rfl ?_ | refine z_aload_nT dX12_markIrons_0 rfl ?_
  refine z_bipush dX12_markIrons_1 rfl ?_
  refine h_Vv1 (Y' := M_X12_begins) dX12_markIrons_3 zw_1107 zw_1109 zs_48 rfl ok_X12_begins (by decide) rfl (Nat.le_of_ble_eq_true rfl) ⟨rfl, rfl⟩ (by decide) (by first | assumption | rfl) (m_begins h0 (by omega)) (fun σ2 hq => ?_)
  subst hq
  first | refine z_aload_n dX12_markIrons_6 rfl ?_ | refine z_aload_nT dX12_markIrons_6 rfl ?_
  refine z_bipush dX12_markIrons_7 rfl ?_
  refine h_Vv1 (Y' := M_X12_begins) dX12_markIrons_9 zw_1107 zw_1109 zs_48 rfl ok_X12_begins (by decide) rfl (Nat.le_of_ble_eq_true rfl) ⟨rfl, rfl⟩ (by decide) (by first | assumption | rfl) (m_begins (by rw [lvM_1]; omega) (by rw [lvM_1]; omega)) (fun σ2 hq => ?_)
  subst hq
  refine z_iload_n dX12_markIrons_12 rfl ?_
  first | refine z_aload_n dX12_markIrons_13 rfl ?_ | refine z_aload_nT dX12_markIrons_13 rfl ?_
  refine h_getr dX12_markIrons_14 fl_X12_22 (by first | assumption | rfl) (by rfl) ?_
  refine z_bipush dX12_markIrons_17 rfl ?_
  refine z_iload_n dX12_markIrons_19 rfl ?_
  refine z_iadd dX12_markIrons_20 ?_
  first | refine h_iald dX12_markIrons_21 (by first | assumption | rfl) (by repeat' first | apply zc_add | apply zc_mul | with_reducible exact zc_var _ | exact zc_lit _) (by omega) (by decide) ?_ | refine z_ialdT _ dX12_markIrons_21 (by assumption) (by repeat' first | apply zc_add | apply zc_mul | with_reducible exact zc_var _ | exact zc_lit _) (by omega) (by omega) ?_
  refine z_iadd dX12_markIrons_22 ?_
  refine h_iret dX12_markIrons_23 rfl rfl rfl ?_
  exact ⟨by rw [lvM_o (by omega) (by omega), lvM_o (by omega) (by omega), h24], rfl⟩
theorem m_szWooden {p : Nat} (h14 : σ 45 (14 + p) = α 5 (14 + p)) (hp5 : p < 5) (h0 : 0 ≤ σ 40 20) (h1 : σ 40 20 < 14) : KI rc M_X12_sizeWooden [zR 40, zI (p : Int)] σ (fun v σ' => v = α 5 (14 + p) - 100 ∧ σ' = lvM (lvM σ 13) 10) := by
  refine K_of 0 (by decide) (Nat.le_of_ble_eq_true rfl) (show Z _ _ 0 0 0 [some (zR 40), some (zI (p : Int))] [] _ _ from ?_)
  first | refine z_aload_n dX12_sizeWooden_0 rfl ?_ | refine z_aload_nT dX12_sizeWooden_0 rfl ?_
  refine z_bipush dX12_sizeWooden_1 rfl ?_
  refine h_Vv1 (Y' := M_X12_begins) dX12_sizeWooden_3 zw_1107 zw_1109 zs_48 rfl ok_X12_begins (by decide) rfl (Nat.le_of_ble_eq_true rfl) ⟨rfl, rfl⟩ (by decide) (by first | assumption | rfl) (m_begins h0 (by omega)) (fun σ2 hq => ?_)
  subst hq
  first | refine z_aload_n dX12_sizeWooden_6 rfl ?_ | refine z_aload_nT dX12_sizeWooden_6 rfl ?_
  refine z_bipush dX12_sizeWooden_7 rfl ?_
  refine h_Vv1 (Y' := M_X12_begins) dX12_sizeWooden_9 zw_1107 zw_1109 zs_48 rfl ok_X12_begins (by decide) rfl (Nat.le_of_ble_eq_true rfl) ⟨rfl, rfl⟩ (by decide) (by first | assumption | rfl) (m_begins (by rw [lvM_1]; omega) (by rw [lvM_1]; omega)) (fun σ2 hq => ?_)
  subst hq
  first | refine z_aload_n dX12_sizeWooden_12 rfl ?_ | refine z_aload_nT dX12_sizeWooden_12 rfl ?_
  refine h_getr dX12_sizeWooden_13 fl_X12_22 (by first | assumption | rfl) (by rfl) ?_
  refine z_bipush dX12_sizeWooden_16 rfl ?_
  refine z_iload_n dX12_sizeWooden_18 rfl ?_
  refine z_iadd dX12_sizeWooden_19 ?_
  first | refine h_iald dX12_sizeWooden_20 (by first | assumption | rfl) (by repeat' first | apply zc_add | apply zc_mul | with_reducible exact zc_var _ | exact zc_lit _) (by omega) (by decide) ?_ | refine z_ialdT _ dX12_sizeWooden_20 (by assumption) (by repeat' first | apply zc_add | apply zc_mul | with_reducible exact zc_var _ | exact zc_lit _) (by omega) (by omega) ?_
  refine z_bipush dX12_sizeWooden_21 rfl ?_
  refine z_isub dX12_sizeWooden_23 ?_
  refine h_iret dX12_sizeWooden_24 rfl rfl rfl ?_
  exact ⟨by rw [lvM_o (by omega) (by omega), lvM_o (by omega) (by omega), h14], rfl⟩
def mnV (k p sp : Int) : Int := if k = 2 then 2 * (p + sp) else if k = 3 then p + sp - 1000 else p + sp
def mnT (k : Int) : List Int := if k = 2 then [24, 21, 20] else if k = 3 then [22, 21, 20] else [21, 20]
theorem m_mkNew {p : Nat} (h9 : σ 45 (9 + p) = α 5 (9 + p)) (hz : zin (α 5 (9 + p))) (h24 : σ 45 (24 + p) = α 5 (24 + p)) (hp5 : p < 5) (h0 : 0 ≤ σ 40 20) (h1 : σ 40 20 < 13) : KI rc M_X12_markNew [zR 40, zI (p : Int)] σ (fun v σ' => v = mnV (α 5 (9 + p)) (p : Int) (α 5 (24 + p)) ∧ σ' = (mnT (α 5 (9 + p))).foldl lvM σ) := by
  refine K_of 1 (by decide) (Nat.le_of_ble_eq_true rfl) (show Z _ _ 0 0 0 [some (zR 40), some (zI (p : Int)), none] [] _ _ from ?_)
  first | refine z_aload_n dX12_markNew_0 rfl ?_ | refine z_aload_nT dX12_markNew_0 rfl ?_
  refine h_getr dX12_markNew_1 fl_X12_22 (by first | assumption | rfl) (by rfl) ?_
  refine z_bipush dX12_markNew_4 rfl ?_
  refine z_iload_n dX12_markNew_6 rfl ?_
  refine z_iadd dX12_markNew_7 ?_
  first | refine h_iald dX12_markNew_8 (by first | assumption | rfl) (by repeat' first | apply zc_add | apply zc_mul | with_reducible exact zc_var _ | exact zc_lit _) (by omega) (by decide) ?_ | refine z_ialdT _ dX12_markNew_8 (by assumption) (by repeat' first | apply zc_add | apply zc_mul | with_reducible exact zc_var _ | exact zc_lit _) (by omega) (by omega) ?_
  rw [h9]
  refine z_istore_n dX12_markNew_9 (by decide) rfl ?_
  refine z_iload_n dX12_markNew_10 rfl ?_
  refine z_iconst dX12_markNew_11 ?_
  refine z_icmp_ne (tgt := 29) dX12_markNew_12 (by decide) (by omega) (by omega) (fun b12 => ?_) (fun b12 => ?_)
  · refine z_iload_n dX12_markNew_29 rfl ?_
    refine z_iconst dX12_markNew_30 ?_
    refine z_icmp_ne (tgt := 50) dX12_markNew_31 (by decide) (by omega) (by omega) (fun b31 => ?_) (fun b31 => ?_)
    · first | refine z_aload_n dX12_markNew_50 rfl ?_ | refine z_aload_nT dX12_markNew_50 rfl ?_
      refine z_iload_n dX12_markNew_51 rfl ?_
      refine h_Vi1 (Y' := M_X12_markIrons) dX12_markNew_52 zw_1119 zw_1121 zs_51 rfl ok_X12_markIrons (by decide) rfl (Nat.le_of_ble_eq_true rfl) ⟨rfl, rfl⟩ (by decide) (by first | assumption | rfl) (m_mkIrons h24 hp5 h0 (by omega)) (fun vv σ2 hq => ?_)
      obtain ⟨rfl, rfl⟩ := hq
      refine h_iret dX12_markNew_55 rfl rfl rfl ?_
      exact ⟨by unfold mnV; rw [if_neg b12, if_neg b31], by unfold mnT; rw [if_neg b12, if_neg b31]; rfl⟩
    · first | refine z_aload_n dX12_markNew_34 rfl ?_ | refine z_aload_nT dX12_markNew_34 rfl ?_
      refine z_bipush dX12_markNew_35 rfl ?_
      refine h_Vv1 (Y' := M_X12_begins) dX12_markNew_37 zw_1107 zw_1109 zs_48 rfl ok_X12_begins (by decide) rfl (Nat.le_of_ble_eq_true rfl) ⟨rfl, rfl⟩ (by decide) (by first | assumption | rfl) (m_begins h0 (by omega)) (fun σ2 hq => ?_)
      subst hq
      first | refine z_aload_n dX12_markNew_40 rfl ?_ | refine z_aload_nT dX12_markNew_40 rfl ?_
      refine z_iload_n dX12_markNew_41 rfl ?_
      refine h_Vi1 (Y' := M_X12_markIrons) dX12_markNew_42 zw_1119 zw_1121 zs_51 rfl ok_X12_markIrons (by decide) rfl (Nat.le_of_ble_eq_true rfl) ⟨rfl, rfl⟩ (by decide) (by first | assumption | rfl) (m_mkIrons (by rw [lvM_o (by omega) (by omega)]; exact h24) hp5 (by rw [lvM_1]; omega) (by rw [lvM_1]; omega)) (fun vv σ2 hq => ?_)
      obtain ⟨rfl, rfl⟩ := hq
      refine z_sipush dX12_markNew_45 rfl ?_
      refine z_isub dX12_markNew_48 ?_
      refine h_iret dX12_markNew_49 rfl rfl rfl ?_
      exact ⟨by unfold mnV; rw [if_neg b12, if_pos b31], by unfold mnT; rw [if_neg b12, if_pos b31]; rfl⟩
  · first | refine z_aload_n dX12_markNew_15 rfl ?_ | refine z_aload_nT dX12_markNew_15 rfl ?_
    refine z_bipush dX12_markNew_16 rfl ?_
    refine h_Vv1 (Y' := M_X12_begins) dX12_markNew_18 zw_1107 zw_1109 zs_48 rfl ok_X12_begins (by decide) rfl (Nat.le_of_ble_eq_true rfl) ⟨rfl, rfl⟩ (by decide) (by first | assumption | rfl) (m_begins h0 (by omega)) (fun σ2 hq => ?_)
    subst hq
    refine z_iconst dX12_markNew_21 ?_
    first | refine z_aload_n dX12_markNew_22 rfl ?_ | refine z_aload_nT dX12_markNew_22 rfl ?_
    refine z_iload_n dX12_markNew_23 rfl ?_
    refine h_Vi1 (Y' := M_X12_markIrons) dX12_markNew_24 zw_1119 zw_1121 zs_51 rfl ok_X12_markIrons (by decide) rfl (Nat.le_of_ble_eq_true rfl) ⟨rfl, rfl⟩ (by decide) (by first | assumption | rfl) (m_mkIrons (by rw [lvM_o (by omega) (by omega)]; exact h24) hp5 (by rw [lvM_1]; omega) (by rw [lvM_1]; omega)) (fun vv σ2 hq => ?_)
    obtain ⟨rfl, rfl⟩ := hq
    refine z_imul dX12_markNew_27 ?_
    refine h_iret dX12_markNew_28 rfl rfl rfl ?_
    exact ⟨by unfold mnV; rw [if_pos b12], by unfold mnT; rw [if_pos b12]; rfl⟩
theorem m_sizeOf {p : Nat} (h9 : σ 45 (9 + p) = α 5 (9 + p)) (q1 : 1 ≤ α 5 (9 + p) ∧ α 5 (9 + p) ≤ 5) (h24 : σ 45 (24 + p) = α 5 (24 + p)) (h14 : σ 45 (14 + p) = α 5 (14 + p)) (hp5 : p < 5) (h0 : 0 ≤ σ 40 20) (h1 : σ 40 20 < 10) : KI rc M_X12_sizeOf [zR 40, zI (p : Int)] σ (fun v σ' => v = szV (α 5 (9 + p)) (p : Int) (α 5 (24 + p)) (α 5 (14 + p)) ∧ σ' = (szT (α 5 (9 + p))).foldl lvM σ) := by
  have fin : (α 5 (9 + p) = 1 ∨ α 5 (9 + p) = 2 ∨ α 5 (9 + p) = 3) → ∀ τ : Mem, (∀ o j, o ≠ 51 → (o ≠ 40 ∨ j ≠ 20) → τ o j = σ o j) → 0 ≤ τ 40 20 → τ 40 20 < 11 → ([11, 10] ++ mnT (α 5 (9 + p))).foldl lvM τ = (szT (α 5 (9 + p))).foldl lvM σ → Z rc M_X12_sizeOf 0 0 51 [some (zR 40), some (zI (p : Int)), some (zI (α 5 (9 + p))), none] [] (hp τ) (qI (fun v σ' => v = szV (α 5 (9 + p)) (p : Int) (α 5 (24 + p)) (α 5 (14 + p)) ∧ σ' = (szT (α 5 (9 + p))).foldl lvM σ)) := by
    intro hk τ ht t0 t1 te
    have u14 : τ 45 (14 + p) = α 5 (14 + p) := (ht _ _ (by omega) (by omega)).trans h14
    have u24 : τ 45 (24 + p) = α 5 (24 + p) := (ht _ _ (by omega) (by omega)).trans h24
    have u9 : τ 45 (9 + p) = α 5 (9 + p) := (ht _ _ (by omega) (by omega)).trans h9
    first | refine z_aload_n dX12_sizeOf_51 rfl ?_ | refine z_aload_nT dX12_sizeOf_51 rfl ?_
    refine z_bipush dX12_sizeOf_52 rfl ?_
    refine h_Vv1 (Y' := M_X12_begins) dX12_sizeOf_54 zw_1107 zw_1109 zs_48 rfl ok_X12_begins (by decide) rfl (Nat.le_of_ble_eq_true rfl) ⟨rfl, rfl⟩ (by decide) (by first | assumption | rfl) (m_begins t0 (by omega)) (fun σ2 hq => ?_)
    subst hq
    first | refine z_aload_n dX12_sizeOf_57 rfl ?_ | refine z_aload_nT dX12_sizeOf_57 rfl ?_
    refine z_bipush dX12_sizeOf_58 rfl ?_
    refine h_Vv1 (Y' := M_X12_begins) dX12_sizeOf_60 zw_1107 zw_1109 zs_48 rfl ok_X12_begins (by decide) rfl (Nat.le_of_ble_eq_true rfl) ⟨rfl, rfl⟩ (by decide) (by first | assumption | rfl) (m_begins (by rw [lvM_1]; omega) (by rw [lvM_1]; omega)) (fun σ2 hq => ?_)
    subst hq
    first | refine z_aload_n dX12_sizeOf_63 rfl ?_ | refine z_aload_nT dX12_sizeOf_63 rfl ?_
    refine h_getr dX12_sizeOf_64 fl_X12_22 (by first | assumption | rfl) (by rfl) ?_
    refine z_bipush dX12_sizeOf_67 rfl ?_
    refine z_iload_n dX12_sizeOf_69 rfl ?_
    refine z_iadd dX12_sizeOf_70 ?_
    first | refine h_iald dX12_sizeOf_71 (by first | assumption | rfl) (by repeat' first | apply zc_add | apply zc_mul | with_reducible exact zc_var _ | exact zc_lit _) (by omega) (by decide) ?_ | refine z_ialdT _ dX12_sizeOf_71 (by assumption) (by repeat' first | apply zc_add | apply zc_mul | with_reducible exact zc_var _ | exact zc_lit _) (by omega) (by omega) ?_
    first | refine z_aload_n dX12_sizeOf_72 rfl ?_ | refine z_aload_nT dX12_sizeOf_72 rfl ?_
    refine z_iload_n dX12_sizeOf_73 rfl ?_
    have v14 : lvM (lvM τ 11) 10 45 (14 + p) = α 5 (14 + p) := by rw [lvM_o (by omega) (by omega), lvM_o (by omega) (by omega)]; exact u14
    rw [v14]
    refine h_Vi1 (Y' := M_X12_markNew) dX12_sizeOf_74 zw_1115 zw_1117 zs_50 rfl ok_X12_markNew (by decide) rfl (Nat.le_of_ble_eq_true rfl) ⟨rfl, rfl⟩ (by decide) (by first | assumption | rfl) (m_mkNew (α := α) (by rw [lvM_o (by omega) (by omega), lvM_o (by omega) (by omega)]; exact u9) (by omega) (by rw [lvM_o (by omega) (by omega), lvM_o (by omega) (by omega)]; exact u24) hp5 (by rw [lvM_1, lvM_1]; omega) (by rw [lvM_1, lvM_1]; omega)) (fun vv σ2 hq => ?_)
    obtain ⟨rfl, rfl⟩ := hq
    have te2 : (mnT (α 5 (9 + p))).foldl lvM (lvM (lvM τ 11) 10) = (szT (α 5 (9 + p))).foldl lvM σ := te
    rw [te2]
    refine z_iadd dX12_sizeOf_77 ?_
    refine z_istore_n dX12_sizeOf_78 (by decide) rfl ?_
    refine z_iload_n dX12_sizeOf_79 rfl ?_
    refine z_iconst dX12_sizeOf_80 ?_
    refine z_icmp_ne (tgt := 89) dX12_sizeOf_81 (by decide) (by omega) (by omega) (fun b81 => ?_) (fun b81 => ?_)
    · refine z_iload_n dX12_sizeOf_89 rfl ?_
      refine h_iret dX12_sizeOf_90 rfl rfl rfl ?_
      refine ⟨?_, rfl⟩
      rcases hk with hk | hk | hk
      · rw [hk]; rfl
      · exact absurd hk b81
      · rw [hk]; rfl
    · refine z_iload_n dX12_sizeOf_84 rfl ?_
      refine z_ineg dX12_sizeOf_85 ?_
      refine z_goto (tgt := 90) dX12_sizeOf_86 (by decide) ?_
      refine h_iret dX12_sizeOf_90 rfl rfl rfl ?_
      refine ⟨?_, rfl⟩
      rw [b81]
      show -(α 5 (14 + p) + 2 * ((p : Int) + α 5 (24 + p))) = -(α 5 (14 + p) + ((p : Int) + α 5 (24 + p)) * 2)
      omega
  refine K_of 2 (by decide) (Nat.le_of_ble_eq_true rfl) (show Z _ _ 0 0 0 [some (zR 40), some (zI (p : Int)), none, none] [] _ _ from ?_)
  first | refine z_aload_n dX12_sizeOf_0 rfl ?_ | refine z_aload_nT dX12_sizeOf_0 rfl ?_
  refine h_getr dX12_sizeOf_1 fl_X12_22 (by first | assumption | rfl) (by rfl) ?_
  refine z_bipush dX12_sizeOf_4 rfl ?_
  refine z_iload_n dX12_sizeOf_6 rfl ?_
  refine z_iadd dX12_sizeOf_7 ?_
  first | refine h_iald dX12_sizeOf_8 (by first | assumption | rfl) (by repeat' first | apply zc_add | apply zc_mul | with_reducible exact zc_var _ | exact zc_lit _) (by omega) (by decide) ?_ | refine z_ialdT _ dX12_sizeOf_8 (by assumption) (by repeat' first | apply zc_add | apply zc_mul | with_reducible exact zc_var _ | exact zc_lit _) (by omega) (by omega) ?_
  rw [h9]
  refine z_istore_n dX12_sizeOf_9 (by decide) rfl ?_
  refine z_iload_n dX12_sizeOf_10 rfl ?_
  refine z_iconst dX12_sizeOf_11 ?_
  refine z_icmp_ne (tgt := 29) dX12_sizeOf_12 (by decide) (by omega) (by omega) (fun b12 => ?_) (fun b12 => ?_)
  · refine z_iload_n dX12_sizeOf_29 rfl ?_
    refine z_iconst dX12_sizeOf_30 ?_
    refine z_icmp_ne (tgt := 40) dX12_sizeOf_31 (by decide) (by omega) (by omega) (fun b31 => ?_) (fun b31 => ?_)
    · refine z_iload_n dX12_sizeOf_40 rfl ?_
      refine z_iconst dX12_sizeOf_41 ?_
      refine z_icmp_ne (tgt := 51) dX12_sizeOf_42 (by decide) (by omega) (by omega) (fun b42 => ?_) (fun b42 => ?_)
      · exact fin (by omega) σ (fun _ _ _ _ => rfl) h0 (by omega) (by
          have hc : α 5 (9 + p) = 1 ∨ α 5 (9 + p) = 3 := by omega
          rcases hc with hc | hc <;> rw [hc] <;> rfl)
      · first | refine z_aload_n dX12_sizeOf_45 rfl ?_ | refine z_aload_nT dX12_sizeOf_45 rfl ?_
        refine z_bipush dX12_sizeOf_46 rfl ?_
        refine h_Vv1 (Y' := M_X12_begins) dX12_sizeOf_48 zw_1107 zw_1109 zs_48 rfl ok_X12_begins (by decide) rfl (Nat.le_of_ble_eq_true rfl) ⟨rfl, rfl⟩ (by decide) (by first | assumption | rfl) (m_begins h0 (by omega)) (fun σ2 hq => ?_)
        subst hq
        exact fin (by omega) (lvM σ 12) (fun o j k1 k2 => lvM_o k1 k2) (by rw [lvM_1]; omega) (by rw [lvM_1]; omega) (by rw [b42]; rfl)
    · first | refine z_aload_n dX12_sizeOf_34 rfl ?_ | refine z_aload_nT dX12_sizeOf_34 rfl ?_
      refine z_iload_n dX12_sizeOf_35 rfl ?_
      refine h_Vi1 (Y' := M_X12_sizeWooden) dX12_sizeOf_36 zw_1111 zw_1113 zs_49 rfl ok_X12_sizeWooden (by decide) rfl (Nat.le_of_ble_eq_true rfl) ⟨rfl, rfl⟩ (by decide) (by first | assumption | rfl) (m_szWooden h14 hp5 h0 (by omega)) (fun vv σ2 hq => ?_)
      obtain ⟨rfl, rfl⟩ := hq
      refine h_iret dX12_sizeOf_39 rfl rfl rfl ?_
      exact ⟨by rw [b31]; rfl, by rw [b31]; rfl⟩
  · first | refine z_aload_n dX12_sizeOf_15 rfl ?_ | refine z_aload_nT dX12_sizeOf_15 rfl ?_
    refine z_bipush dX12_sizeOf_16 rfl ?_
    refine h_Vv1 (Y' := M_X12_begins) dX12_sizeOf_18 zw_1107 zw_1109 zs_48 rfl ok_X12_begins (by decide) rfl (Nat.le_of_ble_eq_true rfl) ⟨rfl, rfl⟩ (by decide) (by first | assumption | rfl) (m_begins h0 (by omega)) (fun σ2 hq => ?_)
    subst hq
    refine z_iconst dX12_sizeOf_21 ?_
    first | refine z_aload_n dX12_sizeOf_22 rfl ?_ | refine z_aload_nT dX12_sizeOf_22 rfl ?_
    refine z_iload_n dX12_sizeOf_23 rfl ?_
    refine h_Vi1 (Y' := M_X12_sizeWooden) dX12_sizeOf_24 zw_1111 zw_1113 zs_49 rfl ok_X12_sizeWooden (by decide) rfl (Nat.le_of_ble_eq_true rfl) ⟨rfl, rfl⟩ (by decide) (by first | assumption | rfl) (m_szWooden (by rw [lvM_o (by omega) (by omega)]; exact h14) hp5 (by rw [lvM_1]; omega) (by rw [lvM_1]; omega)) (fun vv σ2 hq => ?_)
    obtain ⟨rfl, rfl⟩ := hq
    refine z_imul dX12_sizeOf_27 ?_
    refine h_iret dX12_sizeOf_28 rfl rfl rfl ?_
    refine ⟨?_, by rw [b12]; rfl⟩
    rw [b12]
    show 2 * (α 5 (14 + p) - 100) = (α 5 (14 + p) - 100) * 2
    omega
theorem m_markOf {p : Nat} (h9 : σ 45 (9 + p) = α 5 (9 + p)) (q1 : 1 ≤ α 5 (9 + p) ∧ α 5 (9 + p) ≤ 5) (h24 : σ 45 (24 + p) = α 5 (24 + p)) (h14 : σ 45 (14 + p) = α 5 (14 + p)) (hp5 : p < 5) (h0 : 0 ≤ σ 40 20) (h1 : σ 40 20 < 8) : KI rc M_X12_markOf [zR 40, zI (p : Int)] σ (fun v σ' => v = mkV (α 5 (9 + p)) (p : Int) (α 5 (24 + p)) (α 5 (14 + p)) ∧ σ' = (mkT (α 5 (9 + p))).foldl lvM σ) := by
  refine K_of 0 (by decide) (Nat.le_of_ble_eq_true rfl) (show Z _ _ 0 0 0 [some (zR 40), some (zI (p : Int))] [] _ _ from ?_)
  first | refine z_aload_n dX12_markOf_0 rfl ?_ | refine z_aload_nT dX12_markOf_0 rfl ?_
  refine h_getr dX12_markOf_1 fl_X12_22 (by first | assumption | rfl) (by rfl) ?_
  refine z_bipush dX12_markOf_4 rfl ?_
  refine z_iload_n dX12_markOf_6 rfl ?_
  refine z_iadd dX12_markOf_7 ?_
  first | refine h_iald dX12_markOf_8 (by first | assumption | rfl) (by repeat' first | apply zc_add | apply zc_mul | with_reducible exact zc_var _ | exact zc_lit _) (by omega) (by decide) ?_ | refine z_ialdT _ dX12_markOf_8 (by assumption) (by repeat' first | apply zc_add | apply zc_mul | with_reducible exact zc_var _ | exact zc_lit _) (by omega) (by omega) ?_
  rw [h9]
  refine z_iconst dX12_markOf_9 ?_
  refine z_icmp_ge (tgt := 19) dX12_markOf_10 (by decide) (by omega) (by omega) (fun b10 => ?_) (fun b10 => ?_)
  · first | refine z_aload_n dX12_markOf_19 rfl ?_ | refine z_aload_nT dX12_markOf_19 rfl ?_
    refine z_bipush dX12_markOf_20 rfl ?_
    refine h_Vv1 (Y' := M_X12_begins) dX12_markOf_22 zw_1107 zw_1109 zs_48 rfl ok_X12_begins (by decide) rfl (Nat.le_of_ble_eq_true rfl) ⟨rfl, rfl⟩ (by decide) (by first | assumption | rfl) (m_begins h0 (by omega)) (fun σ2 hq => ?_)
    subst hq
    first | refine z_aload_n dX12_markOf_25 rfl ?_ | refine z_aload_nT dX12_markOf_25 rfl ?_
    refine z_bipush dX12_markOf_26 rfl ?_
    refine h_Vv1 (Y' := M_X12_begins) dX12_markOf_28 zw_1107 zw_1109 zs_48 rfl ok_X12_begins (by decide) rfl (Nat.le_of_ble_eq_true rfl) ⟨rfl, rfl⟩ (by decide) (by first | assumption | rfl) (m_begins (by rw [lvM_1]; omega) (by rw [lvM_1]; omega)) (fun σ2 hq => ?_)
    subst hq
    refine z_iload_n dX12_markOf_31 rfl ?_
    first | refine z_aload_n dX12_markOf_32 rfl ?_ | refine z_aload_nT dX12_markOf_32 rfl ?_
    refine z_iload_n dX12_markOf_33 rfl ?_
    refine h_Vi1 (Y' := M_X12_sizeOf) dX12_markOf_34 zw_1103 zw_1105 zs_47 rfl ok_X12_sizeOf (by decide) rfl (Nat.le_of_ble_eq_true rfl) ⟨rfl, rfl⟩ (by decide) (by first | assumption | rfl) (m_sizeOf (α := α) (by rw [lvM_o (by omega) (by omega), lvM_o (by omega) (by omega)]; exact h9) q1 (by rw [lvM_o (by omega) (by omega), lvM_o (by omega) (by omega)]; exact h24) (by rw [lvM_o (by omega) (by omega), lvM_o (by omega) (by omega)]; exact h14) hp5 (by rw [lvM_1, lvM_1]; omega) (by rw [lvM_1, lvM_1]; omega)) (fun vv σ2 hq => ?_)
    obtain ⟨rfl, rfl⟩ := hq
    refine z_isub dX12_markOf_37 ?_
    refine h_iret dX12_markOf_38 rfl rfl rfl ?_
    have hc : α 5 (9 + p) = 4 ∨ α 5 (9 + p) = 5 := by omega
    rcases hc with hc | hc <;> rw [hc] <;> exact ⟨rfl, rfl⟩
  · first | refine z_aload_n dX12_markOf_13 rfl ?_ | refine z_aload_nT dX12_markOf_13 rfl ?_
    refine z_iload_n dX12_markOf_14 rfl ?_
    refine h_Vi1 (Y' := M_X12_markNew) dX12_markOf_15 zw_1115 zw_1117 zs_50 rfl ok_X12_markNew (by decide) rfl (Nat.le_of_ble_eq_true rfl) ⟨rfl, rfl⟩ (by decide) (by first | assumption | rfl) (m_mkNew h9 (by omega) h24 hp5 h0 (by omega)) (fun vv σ2 hq => ?_)
    obtain ⟨rfl, rfl⟩ := hq
    refine h_iret dX12_markOf_18 rfl rfl rfl ?_
    have hc : α 5 (9 + p) = 1 ∨ α 5 (9 + p) = 2 ∨ α 5 (9 + p) = 3 := by omega
    rcases hc with hc | hc | hc
    · rw [hc]; exact ⟨rfl, rfl⟩
    · rw [hc]
      refine ⟨?_, rfl⟩
      show 2 * ((p : Int) + α 5 (24 + p)) = ((p : Int) + α 5 (24 + p)) * 2
      omega
    · rw [hc]; exact ⟨rfl, rfl⟩
theorem r_ask {a w : Int} (hM : MI σ α) (hO : OK α) (ha : zin a) (hw : zin w) : KI rc M_X12_ask [zR 40, zI a, zI w] σ (mP σ α (aAsk α a w) (nAsk α a w)) := by
  have h3 := OKc_3 hO
  have hR := hM.2.2.2.1
  have bad : ∀ σ2 : Mem, σ2 = σ → (¬ (0 ≤ a ∧ a < α 5 3) ∨ ¬ (0 ≤ w ∧ w ≤ 1)) → Z rc M_X12_ask 0 0 17 [some (zR 40), some (zI a), some (zI w)] [] (hp σ2) (qI (mP σ α (aAsk α a w) (nAsk α a w))) := by
    intro σ2 e hb
    subst e
    refine z_ldc (n := -1000001) dX12_ask_17 zw_860 rfl ?_
    refine h_iret dX12_ask_19 rfl rfl rfl ?_
    exact ⟨by unfold aAsk; rw [if_pos hb], by unfold nAsk; rw [if_pos hb]; exact hM, fr.rf⟩
  refine K_of 0 (by decide) (Nat.le_of_ble_eq_true rfl) (show Z _ _ 0 0 0 [some (zR 40), some (zI a), some (zI w)] [] _ _ from ?_)
  first | refine z_aload_n dX12_ask_0 rfl ?_ | refine z_aload_nT dX12_ask_0 rfl ?_
  refine z_iload_n dX12_ask_1 rfl ?_
  refine h_Vi1 (Y' := M_X12_isOne) dX12_ask_2 zw_975 zw_977 zs_38 rfl ok_X12_isOne (by decide) rfl (Nat.le_of_ble_eq_true rfl) ⟨rfl, rfl⟩ (by decide) (by first | assumption | rfl) (m_isOne ha (hR 3 (by omega)) h3) (fun vv σ2 hq => ?_)
  obtain ⟨hv1, rfl⟩ := hq
  refine z_if_eq (tgt := 17) dX12_ask_5 (by decide) (by omega) (fun b5 => ?_) (fun b5 => ?_)
  · exact bad _ rfl (by omega)
  · refine z_iload_n dX12_ask_8 rfl ?_
    refine z_iconst dX12_ask_9 ?_
    refine z_iconst dX12_ask_10 ?_
    refine h_Si3 (Y' := M_X12_in) dX12_ask_11 zw_857 zw_858 ok_X12_in (by decide) rfl (Nat.le_of_ble_eq_true rfl) ⟨rfl, rfl⟩ (by decide) (m_within hw (by omega) (by omega)) (fun vv σ2 hq => ?_)
    obtain ⟨hv2, rfl⟩ := hq
    refine z_if_ne (tgt := 20) dX12_ask_14 (by decide) (by omega) (fun b14 => ?_) (fun b14 => ?_)
    · have hk := OKc_p hO (a := a) (by omega) (by omega)
      obtain ⟨p, rfl⟩ : ∃ p : Nat, a = (p : Int) := ⟨a.toNat, by omega⟩
      obtain ⟨q1, q2, q3, q4⟩ := hk.2.2.2.2.2.2.2.2.2 p (by omega)
      have z : ∀ o j, ¬ (o = 40 ∧ j = 20) → zu σ2 40 20 0 o j = σ2 o j := fun o j h => by
        by_cases ho : o = 40
        · subst ho
          exact zu_j (by omega)
        · exact zu_o ho
      have u9 : zu σ2 40 20 0 45 (9 + p) = α 5 (9 + p) := (z _ _ (by omega)).trans (hR _ (by omega))
      have u14 : zu σ2 40 20 0 45 (14 + p) = α 5 (14 + p) := (z _ _ (by omega)).trans (hR _ (by omega))
      have u24 : zu σ2 40 20 0 45 (24 + p) = α 5 (24 + p) := (z _ _ (by omega)).trans (hR _ (by omega))
      have e0 : zu σ2 40 20 0 40 20 = 0 := zu_eq
      obtain ⟨σ1, rfl⟩ : ∃ z, z = σ2 := ⟨_, rfl⟩
      first | refine z_aload_n dX12_ask_20 rfl ?_ | refine z_aload_nT dX12_ask_20 rfl ?_
      refine z_iconst dX12_ask_21 ?_
      refine h_puti dX12_ask_22 fp_X12_220 (by first | assumption | rfl) (by rfl) ?_
      refine z_iload_n dX12_ask_25 rfl ?_
      refine z_if_ne (tgt := 37) dX12_ask_26 (by decide) (by omega) (fun b26 => ?_) (fun b26 => ?_)
      · first | refine z_aload_n dX12_ask_37 rfl ?_ | refine z_aload_nT dX12_ask_37 rfl ?_
        refine z_iload_n dX12_ask_38 rfl ?_
        refine h_Vi1 (Y' := M_X12_markOf) dX12_ask_39 zw_1123 zw_1125 zs_52 rfl ok_X12_markOf (by decide) rfl (Nat.le_of_ble_eq_true rfl) ⟨rfl, rfl⟩ (by decide) (by first | assumption | rfl) (m_markOf u9 q1 u24 u14 (by omega) (by omega) (by omega)) (fun vv σ2 hq => ?_)
        obtain ⟨rfl, rfl⟩ := hq
        refine h_iret dX12_ask_42 rfl rfl rfl ?_
        obtain ⟨c1, c2⟩ := MI_tr (l := mkT (α 5 (9 + p))) hM e0 z
        refine ⟨by unfold aAsk; rw [if_neg (by omega), if_neg b26]; rfl, ?_, c2⟩
        unfold nAsk
        rw [if_neg (by omega), if_neg b26]
        exact c1
      · first | refine z_aload_n dX12_ask_29 rfl ?_ | refine z_aload_nT dX12_ask_29 rfl ?_
        refine z_iload_n dX12_ask_30 rfl ?_
        refine h_Vi1 (Y' := M_X12_sizeOf) dX12_ask_31 zw_1103 zw_1105 zs_47 rfl ok_X12_sizeOf (by decide) rfl (Nat.le_of_ble_eq_true rfl) ⟨rfl, rfl⟩ (by decide) (by first | assumption | rfl) (m_sizeOf u9 q1 u24 u14 (by omega) (by omega) (by omega)) (fun vv σ2 hq => ?_)
        obtain ⟨rfl, rfl⟩ := hq
        refine z_goto (tgt := 42) dX12_ask_34 (by decide) ?_
        refine h_iret dX12_ask_42 rfl rfl rfl ?_
        obtain ⟨c1, c2⟩ := MI_tr (l := szT (α 5 (9 + p))) hM e0 z
        refine ⟨by unfold aAsk; rw [if_neg (by omega), if_pos b26]; rfl, ?_, c2⟩
        unfold nAsk
        rw [if_neg (by omega), if_pos b26]
        exact c1
    · exact bad _ rfl (by omega)
end
