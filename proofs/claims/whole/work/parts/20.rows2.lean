/-! rows: set, copy -/
def laneF (l v : Int) : Int := if l = 0 then ((Int32.ofInt v).toInt8.toInt32).toInt else if l = 1 then ((Int32.ofInt v).toInt16.toInt32).toInt else v
section
variable {rc : ZRC} {σ α : Mem}
theorem k_put {r i : Nat} {v : Int} (hC : CI σ α) (hO : OK α) (hr : r < 8) (hl : ¬ α 1 r < 0) (hi : i < 40) : KI rc M_X7_put [zR 1, zI (r : Int), zI (i : Int), zI v] σ (fun x σ' => x = laneF (α 1 r) v ∧ σ' = zu σ 4 (40 * r + i) (laneF (α 1 r) v)) := by
  have h1 := (hC.2.1.1 r hr).1
  have h2 := (hO.2.1.1 r hr).1
  have e40 : r * 40 + i = 40 * r + i := by omega
  have fin : ∀ x : Int, x = laneF (α 1 r) v → Z rc M_X7_put 0 0 34 [some (zR 1), some (zI (r : Int)), some (zI (i : Int)), some (zI v), some (zI x)] [] (hp σ) (qI (fun x σ' => x = laneF (α 1 r) v ∧ σ' = zu σ 4 (40 * r + i) (laneF (α 1 r) v))) := by
    intro x hx
    first | refine z_aload_n dX7_put_34 rfl ?_ | refine z_aload_nT dX7_put_34 rfl ?_
    refine h_getr dX7_put_35 fl_X7_16 (by first | assumption | rfl) (by rfl) ?_
    refine z_iload_n dX7_put_38 rfl ?_
    refine z_bipush dX7_put_39 rfl ?_
    refine z_imul dX7_put_41 ?_
    refine z_iload_n dX7_put_42 rfl ?_
    refine z_iadd dX7_put_43 ?_
    refine z_iload dX7_put_44 rfl ?_
    refine h_iast dX7_put_46 (by first | assumption | rfl) (by repeat' first | apply zc_add | apply zc_mul | with_reducible exact zc_var _ | exact zc_lit _) (by omega) (by decide) ?_
    refine z_iload dX7_put_47 rfl ?_
    refine h_iret dX7_put_49 rfl rfl rfl ?_
    exact ⟨hx, by rw [e40, hx]⟩
  refine K_of 1 (by decide) (Nat.le_of_ble_eq_true rfl) (show Z _ _ 0 0 0 [some (zR 1), some (zI (r : Int)), some (zI (i : Int)), some (zI v), none] [] _ _ from ?_)
  refine z_iload_n dX7_put_0 rfl ?_
  refine z_istore dX7_put_1 (by decide) rfl ?_
  first | refine z_aload_n dX7_put_3 rfl ?_ | refine z_aload_nT dX7_put_3 rfl ?_
  refine h_getr dX7_put_4 fl_X7_9 (by first | assumption | rfl) (by rfl) ?_
  refine z_iload_n dX7_put_7 rfl ?_
  first | refine h_iald dX7_put_8 (by first | assumption | rfl) (by repeat' first | apply zc_add | apply zc_mul | with_reducible exact zc_var _ | exact zc_lit _) (by omega) (by decide) ?_ | refine z_ialdT _ dX7_put_8 (by assumption) (by repeat' first | apply zc_add | apply zc_mul | with_reducible exact zc_var _ | exact zc_lit _) (by omega) (by omega) ?_
  refine z_iconst dX7_put_9 ?_
  refine z_icmp_ne (tgt := 20) dX7_put_10 (by decide) (by omega) (by omega) (fun b10 => ?_) (fun b10 => ?_)
  · first | refine z_aload_n dX7_put_20 rfl ?_ | refine z_aload_nT dX7_put_20 rfl ?_
    refine h_getr dX7_put_21 fl_X7_9 (by first | assumption | rfl) (by rfl) ?_
    refine z_iload_n dX7_put_24 rfl ?_
    first | refine h_iald dX7_put_25 (by first | assumption | rfl) (by repeat' first | apply zc_add | apply zc_mul | with_reducible exact zc_var _ | exact zc_lit _) (by omega) (by decide) ?_ | refine z_ialdT _ dX7_put_25 (by assumption) (by repeat' first | apply zc_add | apply zc_mul | with_reducible exact zc_var _ | exact zc_lit _) (by omega) (by omega) ?_
    refine z_iconst dX7_put_26 ?_
    refine z_icmp_ne (tgt := 34) dX7_put_27 (by decide) (by omega) (by omega) (fun b27 => ?_) (fun b27 => ?_)
    · exact fin v (by unfold laneF; rw [if_neg (by omega), if_neg (by omega)])
    · refine z_iload_n dX7_put_30 rfl ?_
      refine z_i2s dX7_put_31 ?_
      refine z_istore dX7_put_32 (by decide) rfl ?_
      exact fin _ (by unfold laneF; rw [if_neg (by omega), if_pos (by omega)])
  · refine z_iload_n dX7_put_13 rfl ?_
    refine z_i2b dX7_put_14 ?_
    refine z_istore dX7_put_15 (by decide) rfl ?_
    refine z_goto (tgt := 34) dX7_put_17 (by decide) ?_
    exact fin _ (by unfold laneF; rw [if_pos (by omega)])
def aSet (α : Mem) (r i v : Int) : Int := if ¬ (0 ≤ r ∧ r ≤ 7) then BAD else if α 1 r.toNat < 0 then -1000011 else if ¬ (0 ≤ i ∧ i < α 2 r.toNat) then -1000012 else laneF (α 1 r.toNat) v
def nSet (α : Mem) (r i v : Int) : Mem := if ¬ (0 ≤ r ∧ r ≤ 7) then α else if α 1 r.toNat < 0 then rowsU α (α 1) (α 2) (α 3) 1 else if ¬ (0 ≤ i ∧ i < α 2 r.toNat) then rowsU α (α 1) (α 2) (α 3) 2 else rowsU α (α 1) (α 2) (zup (α 3) (40 * r.toNat + i.toNat) (laneF (α 1 r.toNat) v)) 0
theorem c_set {r i v : Int} (hC : CI σ α) (hO : OK α) (hr : zin r) (hi : zin i) (hv : zin v) : KI rc M_X11_set [zR 0, zI r, zI i, zI v] σ (cP σ α (aSet α r i v) (nSet α r i v)) := by
  refine K_of 0 (by decide) (Nat.le_of_ble_eq_true rfl) (show Z _ _ 0 0 0 [some (zR 0), some (zI r), some (zI i), some (zI v)] [] _ _ from ?_)
  refine z_iload_n dX11_set_0 rfl ?_
  refine h_Si1 (Y' := M_X11_isRow) dX11_set_1 zw_262 zw_263 ok_X11_isRow (by decide) rfl (Nat.le_of_ble_eq_true rfl) ⟨rfl, rfl⟩ (by decide) (c_isRow hr) (fun vv σ2 hq => ?_)
  obtain ⟨hv1, rfl⟩ := hq
  refine z_if_ne (tgt := 10) dX11_set_4 (by decide) (by omega) (fun b4 => ?_) (fun b4 => ?_)
  · obtain ⟨q, rfl⟩ : ∃ p : Nat, r = (p : Int) := ⟨r.toNat, by omega⟩
    have o2 := (hO.2.1.1 q (by omega)).2
    first | refine z_aload_n dX11_set_10 rfl ?_ | refine z_aload_nT dX11_set_10 rfl ?_
    refine h_getr dX11_set_11 fl_X11_12 (by first | assumption | rfl) (by rfl) ?_
    refine z_iload_n dX11_set_14 rfl ?_
    refine h_Vi1 (Y' := M_X7_isMissing) dX11_set_15 zw_286 zw_287 zw_288 rfl ok_X7_isMissing (by decide) rfl (Nat.le_of_ble_eq_true rfl) ⟨rfl, rfl⟩ (by decide) (by first | assumption | rfl) (k_isMissing hC hO (by omega)) (fun vv σ2 hq => ?_)
    obtain ⟨hv2, rfl⟩ := hq
    refine z_if_eq (tgt := 27) dX11_set_18 (by decide) (by omega) (fun b18 => ?_) (fun b18 => ?_)
    · first | refine z_aload_n dX11_set_27 rfl ?_ | refine z_aload_nT dX11_set_27 rfl ?_
      refine h_getr dX11_set_28 fl_X11_12 (by first | assumption | rfl) (by rfl) ?_
      refine z_iload_n dX11_set_31 rfl ?_
      refine z_iload_n dX11_set_32 rfl ?_
      refine z_iconst dX11_set_33 ?_
      refine h_Vi3 (Y' := M_X7_holds) dX11_set_34 zw_290 zw_291 zw_292 rfl ok_X7_holds (by decide) rfl (Nat.le_of_ble_eq_true rfl) ⟨rfl, rfl⟩ (by decide) (by first | assumption | rfl) (k_holds hC hO (by omega) hi (by omega)) (fun vv σ2 hq => ?_)
      obtain ⟨hv3, rfl⟩ := hq
      refine z_if_ne (tgt := 46) dX11_set_37 (by decide) (by omega) (fun b37 => ?_) (fun b37 => ?_)
      · obtain ⟨x, rfl⟩ : ∃ p : Nat, i = (p : Int) := ⟨i.toNat, by omega⟩
        first | refine z_aload_n dX11_set_46 rfl ?_ | refine z_aload_nT dX11_set_46 rfl ?_
        first | refine z_aload_n dX11_set_47 rfl ?_ | refine z_aload_nT dX11_set_47 rfl ?_
        refine h_getr dX11_set_48 fl_X11_12 (by first | assumption | rfl) (by rfl) ?_
        refine z_iload_n dX11_set_51 rfl ?_
        refine z_iload_n dX11_set_52 rfl ?_
        refine z_iload_n dX11_set_53 rfl ?_
        refine h_Vi3 (Y' := M_X7_put) dX11_set_54 zw_294 zw_295 zw_296 rfl ok_X7_put (by decide) rfl (Nat.le_of_ble_eq_true rfl) ⟨rfl, rfl⟩ (by decide) (by first | assumption | rfl) (k_put hC hO (by omega) (by omega) (by omega)) (fun vv σ2 hq => ?_)
        obtain ⟨rfl, rfl⟩ := hq
        refine h_Vi1 (Y' := M_X11_fine) dX11_set_57 zw_278 zw_280 zs_1 rfl ok_X11_fine (by decide) rfl (Nat.le_of_ble_eq_true rfl) ⟨rfl, rfl⟩ (by decide) (by first | assumption | rfl) (c_fine) (fun vv σ2 hq => ?_)
        obtain ⟨rfl, rfl⟩ := hq
        refine h_iret dX11_set_60 rfl rfl rfl ?_
        refine ⟨by unfold aSet; rw [if_neg (by omega), if_neg (by show ¬ α 1 q < 0; omega), if_neg (by show ¬ ¬ (0 ≤ (x : Int) ∧ (x : Int) < α 2 q); omega)]; rfl, ?_, fun o j h => by rw [zu_o (by omega), zu_o (by omega)]⟩
        unfold nSet
        rw [if_neg (by omega), if_neg (by show ¬ α 1 q < 0; omega), if_neg (by show ¬ ¬ (0 ≤ (x : Int) ∧ (x : Int) < α 2 q); omega)]
        refine CI_rows hC ⟨fun y hy => by rw [zu_o (by omega), zu_o (by omega), zu_o (by omega), zu_o (by omega)]; exact hC.2.1.1 y hy, fun y hy => ?_⟩ zu_eq (fun o j a1 a2 a3 a4 a5 => ?_)
        · show _ = zup (α 3) (40 * q + x) (laneF (α 1 q) v) y
          unfold zup
          rw [zu_o (by omega)]
          by_cases h : y = 40 * q + x
          · subst h
            rw [zu_eq, if_pos rfl]
          · rw [zu_j h, if_neg h]
            exact hC.2.1.2 y hy
        · by_cases ho : o = 0
          · subst ho
            rw [zu_j (by omega), zu_o (by omega)]
          · rw [zu_o ho, zu_o a4]
      · first | refine z_aload_n dX11_set_40 rfl ?_ | refine z_aload_nT dX11_set_40 rfl ?_
        refine z_iconst dX11_set_41 ?_
        refine h_Vi1 (Y' := M_X11_found) dX11_set_42 zw_269 zw_271 zs_0 rfl ok_X11_found (by decide) rfl (Nat.le_of_ble_eq_true rfl) ⟨rfl, rfl⟩ (by decide) (by first | assumption | rfl) (c_found) (fun vv σ2 hq => ?_)
        obtain ⟨rfl, rfl⟩ := hq
        refine h_iret dX11_set_45 rfl rfl rfl ?_
        refine ⟨by unfold aSet; rw [if_neg (by omega), if_neg (by show ¬ α 1 q < 0; omega), if_pos (by show ¬ (0 ≤ i ∧ i < α 2 q); omega)]; rfl, ?_⟩
        unfold nSet
        rw [if_neg (by omega), if_neg (by show ¬ α 1 q < 0; omega), if_pos (by show ¬ (0 ≤ i ∧ i < α 2 q); omega)]
        exact CI_st hC 2
    · first | refine z_aload_n dX11_set_21 rfl ?_ | refine z_aload_nT dX11_set_21 rfl ?_
      refine z_iconst dX11_set_22 ?_
      refine h_Vi1 (Y' := M_X11_found) dX11_set_23 zw_269 zw_271 zs_0 rfl ok_X11_found (by decide) rfl (Nat.le_of_ble_eq_true rfl) ⟨rfl, rfl⟩ (by decide) (by first | assumption | rfl) (c_found) (fun vv σ2 hq => ?_)
      obtain ⟨rfl, rfl⟩ := hq
      refine h_iret dX11_set_26 rfl rfl rfl ?_
      refine ⟨by unfold aSet; rw [if_neg (by omega), if_pos (by show α 1 q < 0; omega)]; rfl, ?_⟩
      unfold nSet
      rw [if_neg (by omega), if_pos (by show α 1 q < 0; omega)]
      exact CI_st hC 1
  · refine z_ldc (n := -1000001) dX11_set_7 zw_268 rfl ?_
    refine h_iret dX11_set_9 rfl rfl rfl ?_
    exact ⟨by unfold aSet; rw [if_pos (by omega)], by unfold nSet; rw [if_pos (by omega)]; exact hC, fr.rf⟩
theorem r_set {r i v : Int} (hM : MI σ α) (hO : OK α) (hr : zin r) (hi : zin i) (hv : zin v) : KI rc M_X12_set [zR 40, zI r, zI i, zI v] σ (mP σ α (aSet α r i v) (nSet α r i v)) := by
  refine K_of 0 (by decide) (Nat.le_of_ble_eq_true rfl) (show Z _ _ 0 0 0 [some (zR 40), some (zI r), some (zI i), some (zI v)] [] _ _ from ?_)
  refine z_iload_n dX12_set_0 rfl ?_
  refine h_Si1 (Y' := M_X12_isRow) dX12_set_1 zw_854 zw_855 ok_X12_isRow (by decide) rfl (Nat.le_of_ble_eq_true rfl) ⟨rfl, rfl⟩ (by decide) (m_isRow hr) (fun vv σ2 hq => ?_)
  obtain ⟨hv1, rfl⟩ := hq
  refine z_if_ne (tgt := 10) dX12_set_4 (by decide) (by omega) (fun b4 => ?_) (fun b4 => ?_)
  · obtain ⟨q, rfl⟩ : ∃ p : Nat, r = (p : Int) := ⟨r.toNat, by omega⟩
    have e1 := (hM.2.1.1 q (by omega)).1
    have e2 := (hM.2.1.1 q (by omega)).2
    have o1 := (hO.2.1.1 q (by omega)).1
    have o2 := (hO.2.1.1 q (by omega)).2
    first | refine z_aload_n dX12_set_10 rfl ?_ | refine z_aload_nT dX12_set_10 rfl ?_
    refine h_getr dX12_set_11 fl_X12_7 (by first | assumption | rfl) (by rfl) ?_
    refine z_iload_n dX12_set_14 rfl ?_
    first | refine h_iald dX12_set_15 (by first | assumption | rfl) (by repeat' first | apply zc_add | apply zc_mul | with_reducible exact zc_var _ | exact zc_lit _) (by omega) (by decide) ?_ | refine z_ialdT _ dX12_set_15 (by assumption) (by repeat' first | apply zc_add | apply zc_mul | with_reducible exact zc_var _ | exact zc_lit _) (by omega) (by omega) ?_
    refine z_if_ge (tgt := 25) dX12_set_16 (by decide) (by omega) (fun b16 => ?_) (fun b16 => ?_)
    · refine z_iload_n dX12_set_25 rfl ?_
      refine z_iconst dX12_set_26 ?_
      first | refine z_aload_n dX12_set_27 rfl ?_ | refine z_aload_nT dX12_set_27 rfl ?_
      refine h_getr dX12_set_28 fl_X12_13 (by first | assumption | rfl) (by rfl) ?_
      refine z_iload_n dX12_set_31 rfl ?_
      first | refine h_iald dX12_set_32 (by first | assumption | rfl) (by repeat' first | apply zc_add | apply zc_mul | with_reducible exact zc_var _ | exact zc_lit _) (by omega) (by decide) ?_ | refine z_ialdT _ dX12_set_32 (by assumption) (by repeat' first | apply zc_add | apply zc_mul | with_reducible exact zc_var _ | exact zc_lit _) (by omega) (by omega) ?_
      refine z_iconst dX12_set_33 ?_
      refine z_isub dX12_set_34 ?_
      refine h_Si3 (Y' := M_X12_in) dX12_set_35 zw_857 zw_858 ok_X12_in (by decide) rfl (Nat.le_of_ble_eq_true rfl) ⟨rfl, rfl⟩ (by decide) (m_within hi (by omega) (by omega)) (fun vv σ2 hq => ?_)
      obtain ⟨hv3, rfl⟩ := hq
      refine z_if_ne (tgt := 47) dX12_set_38 (by decide) (by omega) (fun b38 => ?_) (fun b38 => ?_)
      · obtain ⟨x, rfl⟩ : ∃ p : Nat, i = (p : Int) := ⟨i.toNat, by omega⟩
        have fin : ∀ y : Int, y = laneF (α 1 q) v → Z rc M_X12_set 0 0 87 [some (zR 40), some (zI (q : Int)), some (zI (x : Int)), some (zI v)] [zI y, zI (40 * (q : Int) + (x : Int)), zR 43] (hp σ2) (qI (mP σ2 α (aSet α q x v) (nSet α q x v))) := by
          intro y hy
          refine h_iast dX12_set_87 (by first | assumption | rfl) (by repeat' first | apply zc_add | apply zc_mul | with_reducible exact zc_var _ | exact zc_lit _) (by omega) (by decide) ?_
          first | refine z_aload_n dX12_set_88 rfl ?_ | refine z_aload_nT dX12_set_88 rfl ?_
          first | refine z_aload_n dX12_set_89 rfl ?_ | refine z_aload_nT dX12_set_89 rfl ?_
          refine h_getr dX12_set_90 fl_X12_16 (by first | assumption | rfl) (by rfl) ?_
          refine z_bipush dX12_set_93 rfl ?_
          refine z_iload_n dX12_set_95 rfl ?_
          refine z_imul dX12_set_96 ?_
          refine z_iload_n dX12_set_97 rfl ?_
          refine z_iadd dX12_set_98 ?_
          first | refine h_iald dX12_set_99 (by first | assumption | rfl) (by repeat' first | apply zc_add | apply zc_mul | with_reducible exact zc_var _ | exact zc_lit _) (by omega) (by decide) ?_ | refine z_ialdT _ dX12_set_99 (by assumption) (by repeat' first | apply zc_add | apply zc_mul | with_reducible exact zc_var _ | exact zc_lit _) (by omega) (by omega) ?_
          refine h_Vi1 (Y' := M_X12_done) dX12_set_100 zw_866 zw_868 zs_27 rfl ok_X12_done (by decide) rfl (Nat.le_of_ble_eq_true rfl) ⟨rfl, rfl⟩ (by decide) (by first | assumption | rfl) (m_done) (fun vv σ2 hq => ?_)
          obtain ⟨rfl, rfl⟩ := hq
          refine h_iret dX12_set_103 rfl rfl rfl ?_
          refine ⟨by unfold aSet; rw [if_neg (by omega), if_neg (by show ¬ α 1 q < 0; omega), if_neg (by show ¬ ¬ (0 ≤ (x : Int) ∧ (x : Int) < α 2 q); omega), zu_eq, hy]; rfl, ?_, fun o j h => by rw [zu_o (by omega), zu_o (by omega)]⟩
          unfold nSet
          rw [if_neg (by omega), if_neg (by show ¬ α 1 q < 0; omega), if_neg (by show ¬ ¬ (0 ≤ (x : Int) ∧ (x : Int) < α 2 q); omega)]
          refine MI_rows hM ⟨fun z hz => by rw [zu_o (by omega), zu_o (by omega), zu_o (by omega), zu_o (by omega)]; exact hM.2.1.1 z hz, fun z hz => ?_⟩ zu_eq (fun o j a1 a2 a3 a4 a5 a6 => ?_)
          · show _ = zup (α 3) (40 * q + x) (laneF (α 1 q) v) z
            unfold zup
            rw [zu_o (by omega)]
            by_cases h : z = 40 * q + x
            · subst h
              rw [zu_eq, if_pos rfl, hy]
            · rw [zu_j h, if_neg h]
              exact hM.2.1.2 z hz
          · by_cases ho : o = 40
            · subst ho
              rw [zu_j (by omega), zu_o (by omega)]
            · rw [zu_o ho, zu_o a4]
        first | refine z_aload_n dX12_set_47 rfl ?_ | refine z_aload_nT dX12_set_47 rfl ?_
        refine h_getr dX12_set_48 fl_X12_16 (by first | assumption | rfl) (by rfl) ?_
        refine z_bipush dX12_set_51 rfl ?_
        refine z_iload_n dX12_set_53 rfl ?_
        refine z_imul dX12_set_54 ?_
        refine z_iload_n dX12_set_55 rfl ?_
        refine z_iadd dX12_set_56 ?_
        first | refine z_aload_n dX12_set_57 rfl ?_ | refine z_aload_nT dX12_set_57 rfl ?_
        refine h_getr dX12_set_58 fl_X12_7 (by first | assumption | rfl) (by rfl) ?_
        refine z_iload_n dX12_set_61 rfl ?_
        first | refine h_iald dX12_set_62 (by first | assumption | rfl) (by repeat' first | apply zc_add | apply zc_mul | with_reducible exact zc_var _ | exact zc_lit _) (by omega) (by decide) ?_ | refine z_ialdT _ dX12_set_62 (by assumption) (by repeat' first | apply zc_add | apply zc_mul | with_reducible exact zc_var _ | exact zc_lit _) (by omega) (by omega) ?_
        refine z_if_ne (tgt := 71) dX12_set_63 (by decide) (by omega) (fun b63 => ?_) (fun b63 => ?_)
        · first | refine z_aload_n dX12_set_71 rfl ?_ | refine z_aload_nT dX12_set_71 rfl ?_
          refine h_getr dX12_set_72 fl_X12_7 (by first | assumption | rfl) (by rfl) ?_
          refine z_iload_n dX12_set_75 rfl ?_
          first | refine h_iald dX12_set_76 (by first | assumption | rfl) (by repeat' first | apply zc_add | apply zc_mul | with_reducible exact zc_var _ | exact zc_lit _) (by omega) (by decide) ?_ | refine z_ialdT _ dX12_set_76 (by assumption) (by repeat' first | apply zc_add | apply zc_mul | with_reducible exact zc_var _ | exact zc_lit _) (by omega) (by omega) ?_
          refine z_iconst dX12_set_77 ?_
          refine z_icmp_ne (tgt := 86) dX12_set_78 (by decide) (by omega) (by omega) (fun b78 => ?_) (fun b78 => ?_)
          · refine z_iload_n dX12_set_86 rfl ?_
            exact fin _ (by unfold laneF; rw [if_neg (by omega), if_neg (by omega)])
          · refine z_iload_n dX12_set_81 rfl ?_
            refine z_i2s dX12_set_82 ?_
            refine z_goto (tgt := 87) dX12_set_83 (by decide) ?_
            exact fin _ (by unfold laneF; rw [if_neg (by omega), if_pos (by omega)])
        · refine z_iload_n dX12_set_66 rfl ?_
          refine z_i2b dX12_set_67 ?_
          refine z_goto (tgt := 87) dX12_set_68 (by decide) ?_
          exact fin _ (by unfold laneF; rw [if_pos (by omega)])
      · first | refine z_aload_n dX12_set_41 rfl ?_ | refine z_aload_nT dX12_set_41 rfl ?_
        refine z_iconst dX12_set_42 ?_
        refine h_Vi1 (Y' := M_X12_finds) dX12_set_43 zw_861 zw_863 zs_26 rfl ok_X12_finds (by decide) rfl (Nat.le_of_ble_eq_true rfl) ⟨rfl, rfl⟩ (by decide) (by first | assumption | rfl) (m_finds) (fun vv σ2 hq => ?_)
        obtain ⟨rfl, rfl⟩ := hq
        refine h_iret dX12_set_46 rfl rfl rfl ?_
        refine ⟨by unfold aSet; rw [if_neg (by omega), if_neg (by show ¬ α 1 q < 0; omega), if_pos (by show ¬ (0 ≤ i ∧ i < α 2 q); omega)]; rfl, ?_⟩
        unfold nSet
        rw [if_neg (by omega), if_neg (by show ¬ α 1 q < 0; omega), if_pos (by show ¬ (0 ≤ i ∧ i < α 2 q); omega)]
        exact MI_st hM 2
    · first | refine z_aload_n dX12_set_19 rfl ?_ | refine z_aload_nT dX12_set_19 rfl ?_
      refine z_iconst dX12_set_20 ?_
      refine h_Vi1 (Y' := M_X12_finds) dX12_set_21 zw_861 zw_863 zs_26 rfl ok_X12_finds (by decide) rfl (Nat.le_of_ble_eq_true rfl) ⟨rfl, rfl⟩ (by decide) (by first | assumption | rfl) (m_finds) (fun vv σ2 hq => ?_)
      obtain ⟨rfl, rfl⟩ := hq
      refine h_iret dX12_set_24 rfl rfl rfl ?_
      refine ⟨by unfold aSet; rw [if_neg (by omega), if_pos (by show α 1 q < 0; omega)]; rfl, ?_⟩
      unfold nSet
      rw [if_neg (by omega), if_pos (by show α 1 q < 0; omega)]
      exact MI_st hM 1
  · refine z_ldc (n := -1000001) dX12_set_7 zw_860 rfl ?_
    refine h_iret dX12_set_9 rfl rfl rfl ?_
    exact ⟨by unfold aSet; rw [if_pos (by omega)], by unfold nSet; rw [if_pos (by omega)]; exact hM, fr.rf⟩
theorem k_move {a i b j n : Nat} (h1 : 40 * a + i + n ≤ 320) (h2 : 40 * b + j + n ≤ 320) : KV rc M_X7_move [zR 1, zI (a : Int), zI (i : Int), zI (b : Int), zI (j : Int), zI (n : Int)] σ (fun σ' => σ' = zmv σ 4 (40 * a + i) (40 * b + j) n) := by
  refine K_of 0 (by decide) (Nat.le_of_ble_eq_true rfl) (show Z _ _ 0 0 0 [some (zR 1), some (zI (a : Int)), some (zI (i : Int)), some (zI (b : Int)), some (zI (j : Int)), some (zI (n : Int))] [] _ _ from ?_)
  first | refine z_aload_n dX7_move_0 rfl ?_ | refine z_aload_nT dX7_move_0 rfl ?_
  refine h_getr dX7_move_1 fl_X7_16 (by first | assumption | rfl) (by rfl) ?_
  refine z_iload_n dX7_move_4 rfl ?_
  refine z_bipush dX7_move_5 rfl ?_
  refine z_imul dX7_move_7 ?_
  refine z_iload_n dX7_move_8 rfl ?_
  refine z_iadd dX7_move_9 ?_
  first | refine z_aload_n dX7_move_10 rfl ?_ | refine z_aload_nT dX7_move_10 rfl ?_
  refine h_getr dX7_move_11 fl_X7_16 (by first | assumption | rfl) (by rfl) ?_
  refine z_iload_n dX7_move_14 rfl ?_
  refine z_bipush dX7_move_15 rfl ?_
  refine z_imul dX7_move_17 ?_
  refine z_iload dX7_move_18 rfl ?_
  refine z_iadd dX7_move_20 ?_
  refine z_iload dX7_move_21 rfl ?_
  refine h_copy (40 * a + i) (40 * b + j) n dX7_move_23 zw_310 zw_312 zw_311 zw_14 (by decide) (Nat.le_of_ble_eq_true rfl) rfl (by omega) (by omega) (by omega) (by omega) (by omega) (by decide) ?_
  refine h_vret dX7_move_26 rfl rfl rfl ?_
  rfl
/-- copy: what it answers, by its reasons -/
def cpB (a b : Int) : Prop := ¬ (0 ≤ a ∧ a ≤ 7) ∨ ¬ (0 ≤ b ∧ b ≤ 7)
def cpP (α : Mem) (a i b j n : Int) : Prop := (0 ≤ i ∧ 0 ≤ n ∧ i + n ≤ α 2 a.toNat) ∧ (0 ≤ j ∧ 0 ≤ n ∧ j + n ≤ α 2 b.toNat)
def aCopy (α : Mem) (a i b j n : Int) : Int := if ¬ (0 ≤ a ∧ a ≤ 7) ∨ ¬ (0 ≤ b ∧ b ≤ 7) then BAD else if α 1 a.toNat < 0 ∨ α 1 b.toNat < 0 then -1000011 else if ¬ α 1 a.toNat = α 1 b.toNat then -1000015 else if ¬ ((0 ≤ i ∧ 0 ≤ n ∧ i + n ≤ α 2 a.toNat) ∧ (0 ≤ j ∧ 0 ≤ n ∧ j + n ≤ α 2 b.toNat)) then -1000012 else n
def nCopy (α : Mem) (a i b j n : Int) : Mem := if ¬ (0 ≤ a ∧ a ≤ 7) ∨ ¬ (0 ≤ b ∧ b ≤ 7) then α else if α 1 a.toNat < 0 ∨ α 1 b.toNat < 0 then rowsU α (α 1) (α 2) (α 3) 1 else if ¬ α 1 a.toNat = α 1 b.toNat then rowsU α (α 1) (α 2) (α 3) 5 else if ¬ ((0 ≤ i ∧ 0 ≤ n ∧ i + n ≤ α 2 a.toNat) ∧ (0 ≤ j ∧ 0 ≤ n ∧ j + n ≤ α 2 b.toNat)) then rowsU α (α 1) (α 2) (α 3) 2 else rowsU α (α 1) (α 2) (zcpy (α 3) (α 3) (40 * a.toNat + i.toNat) (40 * b.toNat + j.toNat) n.toNat) 0
theorem c_copy {a i b j n : Int} (hC : CI σ α) (hO : OK α) (ha : zin a) (hi : zin i) (hb : zin b) (hj : zin j) (hn : zin n) : KI rc M_X11_copy [zR 0, zI a, zI i, zI b, zI j, zI n] σ (cP σ α (aCopy α a i b j n) (nCopy α a i b j n)) := by
  have bad : ∀ σ2 : Mem, σ2 = σ → (¬ (0 ≤ a ∧ a ≤ 7) ∨ ¬ (0 ≤ b ∧ b ≤ 7)) → Z rc M_X11_copy 0 0 14 [some (zR 0), some (zI a), some (zI i), some (zI b), some (zI j), some (zI n)] [] (hp σ2) (qI (cP σ α (aCopy α a i b j n) (nCopy α a i b j n))) := by
    intro σ2 e hb
    subst e
    refine z_ldc (n := -1000001) dX11_copy_14 zw_268 rfl ?_
    refine h_iret dX11_copy_16 rfl rfl rfl ?_
    exact ⟨by unfold aCopy; rw [if_pos hb], by unfold nCopy; rw [if_pos hb]; exact hC, fr.rf⟩
  refine K_of 0 (by decide) (Nat.le_of_ble_eq_true rfl) (show Z _ _ 0 0 0 [some (zR 0), some (zI a), some (zI i), some (zI b), some (zI j), some (zI n)] [] _ _ from ?_)
  refine z_iload_n dX11_copy_0 rfl ?_
  refine h_Si1 (Y' := M_X11_isRow) dX11_copy_1 zw_262 zw_263 ok_X11_isRow (by decide) rfl (Nat.le_of_ble_eq_true rfl) ⟨rfl, rfl⟩ (by decide) (c_isRow ha) (fun vv σ2 hq => ?_)
  obtain ⟨hv1, rfl⟩ := hq
  refine z_if_eq (tgt := 14) dX11_copy_4 (by decide) (by omega) (fun b4 => ?_) (fun b4 => ?_)
  · exact bad _ rfl (by omega)
  · refine z_iload_n dX11_copy_7 rfl ?_
    refine h_Si1 (Y' := M_X11_isRow) dX11_copy_8 zw_262 zw_263 ok_X11_isRow (by decide) rfl (Nat.le_of_ble_eq_true rfl) ⟨rfl, rfl⟩ (by decide) (c_isRow hb) (fun vv σ2 hq => ?_)
    obtain ⟨hv2, rfl⟩ := hq
    refine z_if_ne (tgt := 17) dX11_copy_11 (by decide) (by omega) (fun b11 => ?_) (fun b11 => ?_)
    · obtain ⟨p, rfl⟩ : ∃ p : Nat, a = (p : Int) := ⟨a.toNat, by omega⟩
      obtain ⟨q, rfl⟩ : ∃ p : Nat, b = (p : Int) := ⟨b.toNat, by omega⟩
      have o2 := (hO.2.1.1 p (by omega)).2
      have o3 := (hO.2.1.1 q (by omega)).2
      have nul : ∀ σ3 : Mem, σ3 = σ2 → (α 1 p < 0 ∨ α 1 q < 0) → Z rc M_X11_copy 0 0 39 [some (zR 0), some (zI (p : Int)), some (zI i), some (zI (q : Int)), some (zI j), some (zI n)] [] (hp σ3) (qI (cP σ2 α (aCopy α p i q j n) (nCopy α p i q j n))) := by
        intro σ3 e h
        subst e
        first | refine z_aload_n dX11_copy_39 rfl ?_ | refine z_aload_nT dX11_copy_39 rfl ?_
        refine z_iconst dX11_copy_40 ?_
        refine h_Vi1 (Y' := M_X11_found) dX11_copy_41 zw_269 zw_271 zs_0 rfl ok_X11_found (by decide) rfl (Nat.le_of_ble_eq_true rfl) ⟨rfl, rfl⟩ (by decide) (by first | assumption | rfl) (c_found) (fun vv σ2 hq => ?_)
        obtain ⟨rfl, rfl⟩ := hq
        refine h_iret dX11_copy_44 rfl rfl rfl ?_
        refine ⟨by unfold aCopy; rw [if_neg (by omega), if_pos (by exact h)]; rfl, ?_⟩
        unfold nCopy
        rw [if_neg (by omega), if_pos (by exact h)]
        exact CI_st hC 1
      have plc : ∀ σ3 : Mem, σ3 = σ2 → ¬ (α 1 p < 0 ∨ α 1 q < 0) → α 1 p = α 1 q → ¬ ((0 ≤ i ∧ 0 ≤ n ∧ i + n ≤ α 2 p) ∧ (0 ≤ j ∧ 0 ≤ n ∧ j + n ≤ α 2 q)) → Z rc M_X11_copy 0 0 92 [some (zR 0), some (zI (p : Int)), some (zI i), some (zI (q : Int)), some (zI j), some (zI n)] [] (hp σ3) (qI (cP σ2 α (aCopy α p i q j n) (nCopy α p i q j n))) := by
        intro σ3 e h1 h2 h3
        subst e
        first | refine z_aload_n dX11_copy_92 rfl ?_ | refine z_aload_nT dX11_copy_92 rfl ?_
        refine z_iconst dX11_copy_93 ?_
        refine h_Vi1 (Y' := M_X11_found) dX11_copy_94 zw_269 zw_271 zs_0 rfl ok_X11_found (by decide) rfl (Nat.le_of_ble_eq_true rfl) ⟨rfl, rfl⟩ (by decide) (by first | assumption | rfl) (c_found) (fun vv σ2 hq => ?_)
        obtain ⟨rfl, rfl⟩ := hq
        refine h_iret dX11_copy_97 rfl rfl rfl ?_
        refine ⟨by unfold aCopy; rw [if_neg (by omega), if_neg (by exact h1), if_neg (fun h => h h2), if_pos (by exact h3)]; rfl, ?_⟩
        unfold nCopy
        rw [if_neg (by omega), if_neg (by exact h1), if_neg (fun h => h h2), if_pos (by exact h3)]
        exact CI_st hC 2
      first | refine z_aload_n dX11_copy_17 rfl ?_ | refine z_aload_nT dX11_copy_17 rfl ?_
      refine h_getr dX11_copy_18 fl_X11_12 (by first | assumption | rfl) (by rfl) ?_
      refine z_iload_n dX11_copy_21 rfl ?_
      refine h_Vi1 (Y' := M_X7_isMissing) dX11_copy_22 zw_286 zw_287 zw_288 rfl ok_X7_isMissing (by decide) rfl (Nat.le_of_ble_eq_true rfl) ⟨rfl, rfl⟩ (by decide) (by first | assumption | rfl) (k_isMissing hC hO (by omega)) (fun vv σ2 hq => ?_)
      obtain ⟨hv3, rfl⟩ := hq
      refine z_if_ne (tgt := 39) dX11_copy_25 (by decide) (by omega) (fun b25 => ?_) (fun b25 => ?_)
      · exact nul _ rfl (by omega)
      · first | refine z_aload_n dX11_copy_28 rfl ?_ | refine z_aload_nT dX11_copy_28 rfl ?_
        refine h_getr dX11_copy_29 fl_X11_12 (by first | assumption | rfl) (by rfl) ?_
        refine z_iload_n dX11_copy_32 rfl ?_
        refine h_Vi1 (Y' := M_X7_isMissing) dX11_copy_33 zw_286 zw_287 zw_288 rfl ok_X7_isMissing (by decide) rfl (Nat.le_of_ble_eq_true rfl) ⟨rfl, rfl⟩ (by decide) (by first | assumption | rfl) (k_isMissing hC hO (by omega)) (fun vv σ2 hq => ?_)
        obtain ⟨hv4, rfl⟩ := hq
        refine z_if_eq (tgt := 45) dX11_copy_36 (by decide) (by omega) (fun b36 => ?_) (fun b36 => ?_)
        · first | refine z_aload_n dX11_copy_45 rfl ?_ | refine z_aload_nT dX11_copy_45 rfl ?_
          refine h_getr dX11_copy_46 fl_X11_12 (by first | assumption | rfl) (by rfl) ?_
          refine z_iload_n dX11_copy_49 rfl ?_
          refine z_iload_n dX11_copy_50 rfl ?_
          refine h_Vi2 (Y' := M_X7_areAlike) dX11_copy_51 zw_302 zw_303 zw_304 rfl ok_X7_areAlike (by decide) rfl (Nat.le_of_ble_eq_true rfl) ⟨rfl, rfl⟩ (by decide) (by first | assumption | rfl) (k_areAlike hC hO (by omega) (by omega)) (fun vv σ2 hq => ?_)
          obtain ⟨hv5, rfl⟩ := hq
          refine z_if_ne (tgt := 63) dX11_copy_54 (by decide) (by omega) (fun b54 => ?_) (fun b54 => ?_)
          · first | refine z_aload_n dX11_copy_63 rfl ?_ | refine z_aload_nT dX11_copy_63 rfl ?_
            refine h_getr dX11_copy_64 fl_X11_12 (by first | assumption | rfl) (by rfl) ?_
            refine z_iload_n dX11_copy_67 rfl ?_
            refine z_iload_n dX11_copy_68 rfl ?_
            refine z_iload dX11_copy_69 rfl ?_
            refine h_Vi3 (Y' := M_X7_holds) dX11_copy_71 zw_290 zw_291 zw_292 rfl ok_X7_holds (by decide) rfl (Nat.le_of_ble_eq_true rfl) ⟨rfl, rfl⟩ (by decide) (by first | assumption | rfl) (k_holds hC hO (by omega) hi hn) (fun vv σ2 hq => ?_)
            obtain ⟨hv6, rfl⟩ := hq
            refine z_if_eq (tgt := 92) dX11_copy_74 (by decide) (by omega) (fun b74 => ?_) (fun b74 => ?_)
            · exact plc _ rfl (by omega) (by omega) (by omega)
            · first | refine z_aload_n dX11_copy_77 rfl ?_ | refine z_aload_nT dX11_copy_77 rfl ?_
              refine h_getr dX11_copy_78 fl_X11_12 (by first | assumption | rfl) (by rfl) ?_
              refine z_iload_n dX11_copy_81 rfl ?_
              refine z_iload dX11_copy_82 rfl ?_
              refine z_iload dX11_copy_84 rfl ?_
              refine h_Vi3 (Y' := M_X7_holds) dX11_copy_86 zw_290 zw_291 zw_292 rfl ok_X7_holds (by decide) rfl (Nat.le_of_ble_eq_true rfl) ⟨rfl, rfl⟩ (by decide) (by first | assumption | rfl) (k_holds hC hO (by omega) hj hn) (fun vv σ2 hq => ?_)
              obtain ⟨hv7, rfl⟩ := hq
              refine z_if_ne (tgt := 98) dX11_copy_89 (by decide) (by omega) (fun b89 => ?_) (fun b89 => ?_)
              · obtain ⟨x, rfl⟩ : ∃ p : Nat, i = (p : Int) := ⟨i.toNat, by omega⟩
                obtain ⟨y, rfl⟩ : ∃ p : Nat, j = (p : Int) := ⟨j.toNat, by omega⟩
                obtain ⟨m, rfl⟩ : ∃ p : Nat, n = (p : Int) := ⟨n.toNat, by omega⟩
                first | refine z_aload_n dX11_copy_98 rfl ?_ | refine z_aload_nT dX11_copy_98 rfl ?_
                refine h_getr dX11_copy_99 fl_X11_12 (by first | assumption | rfl) (by rfl) ?_
                refine z_iload_n dX11_copy_102 rfl ?_
                refine z_iload_n dX11_copy_103 rfl ?_
                refine z_iload_n dX11_copy_104 rfl ?_
                refine z_iload dX11_copy_105 rfl ?_
                refine z_iload dX11_copy_107 rfl ?_
                refine h_Vv5 (Y' := M_X7_move) dX11_copy_109 zw_306 zw_307 zw_308 rfl ok_X7_move (by decide) rfl (Nat.le_of_ble_eq_true rfl) ⟨rfl, rfl⟩ (by decide) (by first | assumption | rfl) (k_move (by omega) (by omega)) (fun σ2 hq => ?_)
                subst hq
                first | refine z_aload_n dX11_copy_112 rfl ?_ | refine z_aload_nT dX11_copy_112 rfl ?_
                refine z_iload dX11_copy_113 rfl ?_
                refine h_Vi1 (Y' := M_X11_fine) dX11_copy_115 zw_278 zw_280 zs_1 rfl ok_X11_fine (by decide) rfl (Nat.le_of_ble_eq_true rfl) ⟨rfl, rfl⟩ (by decide) (by first | assumption | rfl) (c_fine) (fun vv σ2 hq => ?_)
                obtain ⟨rfl, rfl⟩ := hq
                refine h_iret dX11_copy_118 rfl rfl rfl ?_
                have g1 : ¬ (α 1 p < 0 ∨ α 1 q < 0) := by omega
                have g2 : α 1 p = α 1 q := by omega
                have g3 : (0 ≤ (x : Int) ∧ 0 ≤ (m : Int) ∧ (x : Int) + m ≤ α 2 p) ∧ (0 ≤ (y : Int) ∧ 0 ≤ (m : Int) ∧ (y : Int) + m ≤ α 2 q) := by omega
                refine ⟨by unfold aCopy; rw [if_neg (by omega), if_neg (by exact g1), if_neg (fun h => h g2), if_neg (fun h => h g3)], ?_, fun o z h => by rw [zu_o (by omega)]; unfold zmv; rw [if_neg (by omega)]⟩
                unfold nCopy
                rw [if_neg (by omega), if_neg (by exact g1), if_neg (fun h => h g2), if_neg (fun h => h g3)]
                refine CI_rows hC ⟨fun z hz => ?_, fun z hz => ?_⟩ zu_eq (fun o z a1 a2 a3 a4 a5 => ?_)
                · rw [zu_o (by omega), zu_o (by omega)]
                  exact hC.2.1.1 z hz
                · rw [zu_o (by omega)]
                  show zcpy (σ2 4) (σ2 4) (40 * p + x) (40 * q + y) m z = zcpy (α 3) (α 3) (40 * p + x) (40 * q + y) m z
                  unfold zcpy
                  by_cases h : 40 * q + y ≤ z ∧ z < 40 * q + y + m
                  · rw [if_pos h, if_pos h]
                    exact hC.2.1.2 _ (by omega)
                  · rw [if_neg h, if_neg h]
                    exact hC.2.1.2 _ hz
                · by_cases ho : o = 0
                  · subst ho
                    rw [zu_j (by omega)]
                    rfl
                  · rw [zu_o ho]
                    unfold zmv
                    rw [if_neg a4]
              · exact plc _ rfl (by omega) (by omega) (by omega)
          · first | refine z_aload_n dX11_copy_57 rfl ?_ | refine z_aload_nT dX11_copy_57 rfl ?_
            refine z_iconst dX11_copy_58 ?_
            refine h_Vi1 (Y' := M_X11_found) dX11_copy_59 zw_269 zw_271 zs_0 rfl ok_X11_found (by decide) rfl (Nat.le_of_ble_eq_true rfl) ⟨rfl, rfl⟩ (by decide) (by first | assumption | rfl) (c_found) (fun vv σ2 hq => ?_)
            obtain ⟨rfl, rfl⟩ := hq
            refine h_iret dX11_copy_62 rfl rfl rfl ?_
            have g1 : ¬ (α 1 p < 0 ∨ α 1 q < 0) := by omega
            have g2 : ¬ α 1 p = α 1 q := by omega
            refine ⟨by unfold aCopy; rw [if_neg (by omega), if_neg (by exact g1), if_pos (by exact g2)]; rfl, ?_⟩
            unfold nCopy
            rw [if_neg (by omega), if_neg (by exact g1), if_pos (by exact g2)]
            exact CI_st hC 5
        · exact nul _ rfl (by omega)
    · exact bad _ rfl (by omega)
end
