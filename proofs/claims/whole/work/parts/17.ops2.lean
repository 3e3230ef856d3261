/-! calls that read, on: pier, gone, aim, count, cross -/
theorem Z_mono0 {rc : ZRC} {Y : ZY} {kc ks pc : Nat} {L : ZL} {S : List ZV} {h : ZH} {Q Q' : Option ZV → ZH → Prop} (hz : Z rc Y kc ks pc L S h Q) (hq : ∀ r h', Q r h' → Q' r h') : Z rc Y kc ks pc L S h Q' := by
  intro p l e R s m args below meth c D A ro ads0 Qm H locs more ls st hc hr hw hl hs
  exact hz hc (fun pc H locs more ls st r h' q a b d => hr pc H locs more ls st r h' (hq r h' q) a b d) hw hl hs
theorem Z_mono {rc : ZRC} {Y : ZY} {kc ks pc : Nat} {L : ZL} {S : List ZV} {h : ZH} {P P' : Int → Mem → Prop} (hz : Z rc Y kc ks pc L S h (qI P)) (hq : ∀ v σ', P v σ' → P' v σ') : Z rc Y kc ks pc L S h (qI P') := Z_mono0 hz (fun r h' q => by
  obtain ⟨v, σ', e1, e2, e3⟩ := q
  exact ⟨v, σ', e1, e2, hq v σ' e3⟩)
theorem Z_monoV {rc : ZRC} {Y : ZY} {kc ks pc : Nat} {L : ZL} {S : List ZV} {h : ZH} {P P' : Mem → Prop} (hz : Z rc Y kc ks pc L S h (qV P)) (hq : ∀ σ', P σ' → P' σ') : Z rc Y kc ks pc L S h (qV P') := Z_mono0 hz (fun r h' q => by
  obtain ⟨σ', e1, e2, e3⟩ := q
  exact ⟨σ', e1, e2, hq σ' e3⟩)
theorem cR8p {σ : Mem} {t : Nat → Int} (h : cR σ 8 t) {p : Nat} (hp : (p : Int) < t 3) : σ 9 p = t (9 + p) ∧ σ 10 p = t (14 + p) ∧ σ 11 p = t (19 + p) ∧ σ 12 p = t (24 + p) := h.2.2.2.2.2.2.2.2.2 p hp
theorem cR13p {σ : Mem} {t : Nat → Int} (h : cR σ 13 t) {p : Nat} (hp : (p : Int) < t 3) : σ 14 p = t (9 + p) ∧ σ 15 p = t (14 + p) ∧ σ 16 p = t (19 + p) ∧ σ 17 p = t (24 + p) := h.2.2.2.2.2.2.2.2.2 p hp
section
variable {rc : ZRC} {σ α : Mem}
def aPier (α : Mem) (a w : Int) : Int := if ¬ (0 ≤ a ∧ a < α 5 3) then BAD else if w = 0 then α 5 (14 + a.toNat) else if w = 1 then α 5 (19 + a.toNat) else if w = 2 then α 5 (24 + a.toNat) else if w = 3 then pcF (α 5) a.toNat (α 5 (24 + a.toNat)) else if w = 4 then toF (α 5) a.toNat else if w = 5 then loF (α 5) a.toNat (stF (α 5)) else BAD
theorem c_pier {a w : Int} (hC : CI σ α) (hO : OK α) (ha : zin a) (hw : zin w) : KI rc M_X11_pier [zR 0, zI a, zI w] σ (cP σ α (aPier α a w) α) := by
  have h3 := OKc_3 hO
  have hR := hC.2.2.2.1
  refine K_of 0 (by decide) (Nat.le_of_ble_eq_true rfl) (show Z _ _ 0 0 0 [some (zR 0), some (zI a), some (zI w)] [] _ _ from ?_)
  first | refine z_aload_n dX11_pier_0 rfl ?_ | refine z_aload_nT dX11_pier_0 rfl ?_
  refine z_iload_n dX11_pier_1 rfl ?_
  refine h_Vi1 (Y' := M_X11_isPier) dX11_pier_2 zw_468 zw_470 zs_10 rfl ok_X11_isPier (by decide) rfl (Nat.le_of_ble_eq_true rfl) ⟨rfl, rfl⟩ (by decide) (by first | assumption | rfl) (c_isPier ha hR.2.1 h3) (fun vv σ2 hq => ?_)
  obtain ⟨hv1, rfl⟩ := hq
  refine z_if_ne (tgt := 11) dX11_pier_5 (by decide) (by omega) (fun b5 => ?_) (fun b5 => ?_)
  · have hk := OKc_p hO (a := a) (by omega) (by omega)
    have hs := stF_in (α 5)
    obtain ⟨p, rfl⟩ : ∃ p : Nat, a = (p : Int) := ⟨a.toNat, by omega⟩
    obtain ⟨r4, r5, r6, r7, r8, r9, r10, r11, r12, rp⟩ := hR
    obtain ⟨k8, k3, a0, a1, a2, a4, a5, a6, a7, hq⟩ := hk
    obtain ⟨p1, p2, p3, p4⟩ := rp p (by omega)
    obtain ⟨q1, q2, q3, q4⟩ := hq p (by omega)
    refine z_iload_n dX11_pier_11 rfl ?_
    by_cases hw0 : w < 0 ∨ 5 < w
    · refine z_tswOut (tgt := 116) dX11_pier_12 hw hw0 (by decide) ?_
      refine z_ldc (n := -1000001) dX11_pier_116 zw_268 rfl ?_
      refine h_iret dX11_pier_118 rfl rfl rfl ?_
      exact ⟨by unfold aPier; rw [if_neg (by omega), if_neg (by omega), if_neg (by omega), if_neg (by omega), if_neg (by omega), if_neg (by omega), if_neg (by omega)], hC, fr.rf⟩
    · have hc : w = 0 ∨ w = 1 ∨ w = 2 ∨ w = 3 ∨ w = 4 ∨ w = 5 := by omega
      rcases hc with rfl | rfl | rfl | rfl | rfl | rfl
      · refine z_tswIn (tgt := 52) dX11_pier_12 (by omega) (by omega) (by omega) rfl (by decide) ?_
        first | refine z_aload_n dX11_pier_52 rfl ?_ | refine z_aload_nT dX11_pier_52 rfl ?_
        refine h_getr dX11_pier_53 fl_X11_26 (by first | assumption | rfl) (by rfl) ?_
        refine h_getr dX11_pier_56 fl_X11_218 (by first | assumption | rfl) (by rfl) ?_
        refine z_iload_n dX11_pier_59 rfl ?_
        first | refine h_iald dX11_pier_60 (by first | assumption | rfl) (by repeat' first | apply zc_add | apply zc_mul | with_reducible exact zc_var _ | exact zc_lit _) (by omega) (by decide) ?_ | refine z_ialdT _ dX11_pier_60 (by assumption) (by repeat' first | apply zc_add | apply zc_mul | with_reducible exact zc_var _ | exact zc_lit _) (by omega) (by omega) ?_
        refine h_iret dX11_pier_61 rfl rfl rfl ?_
        exact ⟨by unfold aPier; rw [if_neg (by omega), if_pos rfl]; exact p2, hC, fr.rf⟩
      · refine z_tswIn (tgt := 62) dX11_pier_12 (by omega) (by omega) (by omega) rfl (by decide) ?_
        first | refine z_aload_n dX11_pier_62 rfl ?_ | refine z_aload_nT dX11_pier_62 rfl ?_
        refine h_getr dX11_pier_63 fl_X11_26 (by first | assumption | rfl) (by rfl) ?_
        refine h_getr dX11_pier_66 fl_X11_209 (by first | assumption | rfl) (by rfl) ?_
        refine z_iload_n dX11_pier_69 rfl ?_
        first | refine h_iald dX11_pier_70 (by first | assumption | rfl) (by repeat' first | apply zc_add | apply zc_mul | with_reducible exact zc_var _ | exact zc_lit _) (by omega) (by decide) ?_ | refine z_ialdT _ dX11_pier_70 (by assumption) (by repeat' first | apply zc_add | apply zc_mul | with_reducible exact zc_var _ | exact zc_lit _) (by omega) (by omega) ?_
        refine h_iret dX11_pier_71 rfl rfl rfl ?_
        exact ⟨by unfold aPier; rw [if_neg (by omega), if_neg (by decide), if_pos rfl]; exact p3, hC, fr.rf⟩
      · refine z_tswIn (tgt := 72) dX11_pier_12 (by omega) (by omega) (by omega) rfl (by decide) ?_
        first | refine z_aload_n dX11_pier_72 rfl ?_ | refine z_aload_nT dX11_pier_72 rfl ?_
        refine h_getr dX11_pier_73 fl_X11_26 (by first | assumption | rfl) (by rfl) ?_
        refine h_getr dX11_pier_76 fl_X11_203 (by first | assumption | rfl) (by rfl) ?_
        refine z_iload_n dX11_pier_79 rfl ?_
        first | refine h_iald dX11_pier_80 (by first | assumption | rfl) (by repeat' first | apply zc_add | apply zc_mul | with_reducible exact zc_var _ | exact zc_lit _) (by omega) (by decide) ?_ | refine z_ialdT _ dX11_pier_80 (by assumption) (by repeat' first | apply zc_add | apply zc_mul | with_reducible exact zc_var _ | exact zc_lit _) (by omega) (by omega) ?_
        refine h_iret dX11_pier_81 rfl rfl rfl ?_
        exact ⟨by unfold aPier; rw [if_neg (by omega), if_neg (by decide), if_neg (by decide), if_pos rfl]; exact p4, hC, fr.rf⟩
      · refine z_tswIn (tgt := 82) dX11_pier_12 (by omega) (by omega) (by omega) rfl (by decide) ?_
        first | refine z_aload_n dX11_pier_82 rfl ?_ | refine z_aload_nT dX11_pier_82 rfl ?_
        refine h_getr dX11_pier_83 fl_X11_26 (by first | assumption | rfl) (by rfl) ?_
        refine z_iload_n dX11_pier_86 rfl ?_
        refine h_Vi1 (Y' := M_X2_endOf) dX11_pier_87 zw_500 zw_446 zw_447 rfl ok_X2_endOf (by decide) rfl (Nat.le_of_ble_eq_true rfl) ⟨rfl, rfl⟩ (by decide) (by first | assumption | rfl) (k_endOf (Or.inl rfl) (by omega) (by omega) (by omega) (by omega) (by omega) (by omega) (by omega)) (fun vv σ2 hq => ?_)
        obtain ⟨rfl, rfl⟩ := hq
        refine h_iret dX11_pier_90 rfl rfl rfl ?_
        exact ⟨by unfold aPier; rw [if_neg (by omega), if_neg (by decide), if_neg (by decide), if_neg (by decide), if_pos rfl, p2, p3, p4]; rfl, hC, fr.rf⟩
      · refine z_tswIn (tgt := 91) dX11_pier_12 (by omega) (by omega) (by omega) rfl (by decide) ?_
        first | refine z_aload_n dX11_pier_91 rfl ?_ | refine z_aload_nT dX11_pier_91 rfl ?_
        refine h_getr dX11_pier_92 fl_X11_26 (by first | assumption | rfl) (by rfl) ?_
        refine z_iload_n dX11_pier_95 rfl ?_
        refine h_Vi1 (Y' := M_X2_takeOf) dX11_pier_96 zw_501 zw_442 zw_443 rfl ok_X2_takeOf (by decide) rfl (Nat.le_of_ble_eq_true rfl) ⟨rfl, rfl⟩ (by decide) (by first | assumption | rfl) (k_takeOf (Or.inl rfl) hC.2.2.2.1 ⟨k8, k3, a0, a1, a2, a4, a5, a6, a7, hq⟩ (by omega)) (fun vv σ2 hq => ?_)
        obtain ⟨rfl, rfl⟩ := hq
        refine h_iret dX11_pier_99 rfl rfl rfl ?_
        exact ⟨by unfold aPier; rw [if_neg (by omega), if_neg (by decide), if_neg (by decide), if_neg (by decide), if_neg (by decide), if_pos rfl]; rfl, hC, fr.rf⟩
      · refine z_tswIn (tgt := 100) dX11_pier_12 (by omega) (by omega) (by omega) rfl (by decide) ?_
        first | refine z_aload_n dX11_pier_100 rfl ?_ | refine z_aload_nT dX11_pier_100 rfl ?_
        refine h_getr dX11_pier_101 fl_X11_26 (by first | assumption | rfl) (by rfl) ?_
        refine z_iload_n dX11_pier_104 rfl ?_
        first | refine z_aload_n dX11_pier_105 rfl ?_ | refine z_aload_nT dX11_pier_105 rfl ?_
        refine h_getr dX11_pier_106 fl_X11_26 (by first | assumption | rfl) (by rfl) ?_
        refine h_Vi0 (Y' := M_X2_storm) dX11_pier_109 zw_425 zw_426 zw_427 rfl ok_X2_storm (by decide) rfl (Nat.le_of_ble_eq_true rfl) ⟨rfl, rfl⟩ (by decide) (by first | assumption | rfl) (k_storm (t := α 5) (Or.inl rfl) r12 r6 a7 a0.1 (by omega)) (fun vv σ2 hq => ?_)
        obtain ⟨rfl, rfl⟩ := hq
        refine h_Vi2 (Y' := M_X2_lossOf) dX11_pier_112 zw_502 zw_458 zw_459 rfl ok_X2_lossOf (by decide) rfl (Nat.le_of_ble_eq_true rfl) ⟨rfl, rfl⟩ (by decide) (by first | assumption | rfl) (k_lossOf (t := α 5) (Or.inl rfl) p1 p4 r6 (by omega) q1 q4 ⟨by omega, by omega⟩ hs.1 hs.2) (fun vv σ2 hq => ?_)
        obtain ⟨rfl, rfl⟩ := hq
        refine h_iret dX11_pier_115 rfl rfl rfl ?_
        exact ⟨by unfold aPier; rw [if_neg (by omega), if_neg (by decide), if_neg (by decide), if_neg (by decide), if_neg (by decide), if_neg (by decide), if_pos rfl]; rfl, hC, fr.rf⟩
  · refine z_ldc (n := -1000001) dX11_pier_8 zw_268 rfl ?_
    refine h_iret dX11_pier_10 rfl rfl rfl ?_
    exact ⟨by unfold aPier; rw [if_pos (by omega)], hC, fr.rf⟩
theorem r_pier {a w : Int} (hM : MI σ α) (hO : OK α) (ha : zin a) (hw : zin w) : KI rc M_X12_pier [zR 40, zI a, zI w] σ (mP σ α (aPier α a w) α) := by
  have h3 := OKc_3 hO
  have hR := hM.2.2.2.1
  refine K_of 0 (by decide) (Nat.le_of_ble_eq_true rfl) (show Z _ _ 0 0 0 [some (zR 40), some (zI a), some (zI w)] [] _ _ from ?_)
  first | refine z_aload_n dX12_pier_0 rfl ?_ | refine z_aload_nT dX12_pier_0 rfl ?_
  refine z_iload_n dX12_pier_1 rfl ?_
  refine h_Vi1 (Y' := M_X12_isOne) dX12_pier_2 zw_975 zw_977 zs_38 rfl ok_X12_isOne (by decide) rfl (Nat.le_of_ble_eq_true rfl) ⟨rfl, rfl⟩ (by decide) (by first | assumption | rfl) (m_isOne ha (hR 3 (by omega)) h3) (fun vv σ2 hq => ?_)
  obtain ⟨hv1, rfl⟩ := hq
  refine z_if_ne (tgt := 11) dX12_pier_5 (by decide) (by omega) (fun b5 => ?_) (fun b5 => ?_)
  · have hk := OKc_p hO (a := a) (by omega) (by omega)
    have hs := stF_in (α 5)
    obtain ⟨p, rfl⟩ : ∃ p : Nat, a = (p : Int) := ⟨a.toNat, by omega⟩
    obtain ⟨k8, k3, a0, a1, a2, a4, a5, a6, a7, hq⟩ := hk
    obtain ⟨q1, q2, q3, q4⟩ := hq p (by omega)
    have p1 := hR (9 + p) (by omega)
    have p2 := hR (14 + p) (by omega)
    have p3 := hR (19 + p) (by omega)
    have p4 := hR (24 + p) (by omega)
    have e0 := hR 0 (by omega)
    have e7 := hR 7 (by omega)
    refine z_iload_n dX12_pier_11 rfl ?_
    by_cases hw0 : w < 0 ∨ 5 < w
    · refine z_tswOut (tgt := 125) dX12_pier_12 hw hw0 (by decide) ?_
      refine z_ldc (n := -1000001) dX12_pier_125 zw_860 rfl ?_
      refine h_iret dX12_pier_127 rfl rfl rfl ?_
      exact ⟨by unfold aPier; rw [if_neg (by omega), if_neg (by omega), if_neg (by omega), if_neg (by omega), if_neg (by omega), if_neg (by omega), if_neg (by omega)], hM, fr.rf⟩
    · have hc : w = 0 ∨ w = 1 ∨ w = 2 ∨ w = 3 ∨ w = 4 ∨ w = 5 := by omega
      rcases hc with rfl | rfl | rfl | rfl | rfl | rfl
      · refine z_tswIn (tgt := 52) dX12_pier_12 (by omega) (by omega) (by omega) rfl (by decide) ?_
        first | refine z_aload_n dX12_pier_52 rfl ?_ | refine z_aload_nT dX12_pier_52 rfl ?_
        refine h_getr dX12_pier_53 fl_X12_22 (by first | assumption | rfl) (by rfl) ?_
        refine z_bipush dX12_pier_56 rfl ?_
        refine z_iload_n dX12_pier_58 rfl ?_
        refine z_iadd dX12_pier_59 ?_
        first | refine h_iald dX12_pier_60 (by first | assumption | rfl) (by repeat' first | apply zc_add | apply zc_mul | with_reducible exact zc_var _ | exact zc_lit _) (by omega) (by decide) ?_ | refine z_ialdT _ dX12_pier_60 (by assumption) (by repeat' first | apply zc_add | apply zc_mul | with_reducible exact zc_var _ | exact zc_lit _) (by omega) (by omega) ?_
        refine h_iret dX12_pier_61 rfl rfl rfl ?_
        exact ⟨by unfold aPier; rw [if_neg (by omega), if_pos rfl]; exact p2, hM, fr.rf⟩
      · refine z_tswIn (tgt := 62) dX12_pier_12 (by omega) (by omega) (by omega) rfl (by decide) ?_
        first | refine z_aload_n dX12_pier_62 rfl ?_ | refine z_aload_nT dX12_pier_62 rfl ?_
        refine h_getr dX12_pier_63 fl_X12_22 (by first | assumption | rfl) (by rfl) ?_
        refine z_bipush dX12_pier_66 rfl ?_
        refine z_iload_n dX12_pier_68 rfl ?_
        refine z_iadd dX12_pier_69 ?_
        first | refine h_iald dX12_pier_70 (by first | assumption | rfl) (by repeat' first | apply zc_add | apply zc_mul | with_reducible exact zc_var _ | exact zc_lit _) (by omega) (by decide) ?_ | refine z_ialdT _ dX12_pier_70 (by assumption) (by repeat' first | apply zc_add | apply zc_mul | with_reducible exact zc_var _ | exact zc_lit _) (by omega) (by omega) ?_
        refine h_iret dX12_pier_71 rfl rfl rfl ?_
        exact ⟨by unfold aPier; rw [if_neg (by omega), if_neg (by decide), if_pos rfl]; exact p3, hM, fr.rf⟩
      · refine z_tswIn (tgt := 72) dX12_pier_12 (by omega) (by omega) (by omega) rfl (by decide) ?_
        first | refine z_aload_n dX12_pier_72 rfl ?_ | refine z_aload_nT dX12_pier_72 rfl ?_
        refine h_getr dX12_pier_73 fl_X12_22 (by first | assumption | rfl) (by rfl) ?_
        refine z_bipush dX12_pier_76 rfl ?_
        refine z_iload_n dX12_pier_78 rfl ?_
        refine z_iadd dX12_pier_79 ?_
        first | refine h_iald dX12_pier_80 (by first | assumption | rfl) (by repeat' first | apply zc_add | apply zc_mul | with_reducible exact zc_var _ | exact zc_lit _) (by omega) (by decide) ?_ | refine z_ialdT _ dX12_pier_80 (by assumption) (by repeat' first | apply zc_add | apply zc_mul | with_reducible exact zc_var _ | exact zc_lit _) (by omega) (by omega) ?_
        refine h_iret dX12_pier_81 rfl rfl rfl ?_
        exact ⟨by unfold aPier; rw [if_neg (by omega), if_neg (by decide), if_neg (by decide), if_pos rfl]; exact p4, hM, fr.rf⟩
      · refine z_tswIn (tgt := 82) dX12_pier_12 (by omega) (by omega) (by omega) rfl (by decide) ?_
        first | refine z_aload_n dX12_pier_82 rfl ?_ | refine z_aload_nT dX12_pier_82 rfl ?_
        refine h_getr dX12_pier_83 fl_X12_22 (by first | assumption | rfl) (by rfl) ?_
        refine z_iload_n dX12_pier_86 rfl ?_
        first | refine z_aload_n dX12_pier_87 rfl ?_ | refine z_aload_nT dX12_pier_87 rfl ?_
        refine h_getr dX12_pier_88 fl_X12_22 (by first | assumption | rfl) (by rfl) ?_
        refine z_bipush dX12_pier_91 rfl ?_
        refine z_iload_n dX12_pier_93 rfl ?_
        refine z_iadd dX12_pier_94 ?_
        first | refine h_iald dX12_pier_95 (by first | assumption | rfl) (by repeat' first | apply zc_add | apply zc_mul | with_reducible exact zc_var _ | exact zc_lit _) (by omega) (by decide) ?_ | refine z_ialdT _ dX12_pier_95 (by assumption) (by repeat' first | apply zc_add | apply zc_mul | with_reducible exact zc_var _ | exact zc_lit _) (by omega) (by omega) ?_
        refine h_Si3 (Y' := M_X12_placeBy) dX12_pier_96 zw_962 zw_963 ok_X12_placeBy (by decide) rfl (Nat.le_of_ble_eq_true rfl) ⟨rfl, rfl⟩ (by decide) (m_placeBy rfl (by omega) (by omega) (by omega) (by omega) (by omega)) (fun vv σ2 hq => ?_)
        obtain ⟨rfl, rfl⟩ := hq
        refine h_iret dX12_pier_99 rfl rfl rfl ?_
        exact ⟨by unfold aPier; rw [if_neg (by omega), if_neg (by decide), if_neg (by decide), if_neg (by decide), if_pos rfl, p2, p3, p4]; rfl, hM, fr.rf⟩
      · refine z_tswIn (tgt := 100) dX12_pier_12 (by omega) (by omega) (by omega) rfl (by decide) ?_
        first | refine z_aload_n dX12_pier_100 rfl ?_ | refine z_aload_nT dX12_pier_100 rfl ?_
        refine h_getr dX12_pier_101 fl_X12_22 (by first | assumption | rfl) (by rfl) ?_
        refine z_iload_n dX12_pier_104 rfl ?_
        refine h_Si2 (Y' := M_X12_takeOf) dX12_pier_105 zw_959 zw_960 ok_X12_takeOf (by decide) rfl (Nat.le_of_ble_eq_true rfl) ⟨rfl, rfl⟩ (by decide) (m_takeOf rfl hR ⟨k8, k3, a0, a1, a2, a4, a5, a6, a7, hq⟩ (by omega)) (fun vv σ2 hq => ?_)
        obtain ⟨rfl, rfl⟩ := hq
        refine h_iret dX12_pier_108 rfl rfl rfl ?_
        exact ⟨by unfold aPier; rw [if_neg (by omega), if_neg (by decide), if_neg (by decide), if_neg (by decide), if_neg (by decide), if_pos rfl]; rfl, hM, fr.rf⟩
      · refine z_tswIn (tgt := 109) dX12_pier_12 (by omega) (by omega) (by omega) rfl (by decide) ?_
        first | refine z_aload_n dX12_pier_109 rfl ?_ | refine z_aload_nT dX12_pier_109 rfl ?_
        refine h_getr dX12_pier_110 fl_X12_22 (by first | assumption | rfl) (by rfl) ?_
        refine z_iload_n dX12_pier_113 rfl ?_
        first | refine z_aload_n dX12_pier_114 rfl ?_ | refine z_aload_nT dX12_pier_114 rfl ?_
        refine h_getr dX12_pier_115 fl_X12_22 (by first | assumption | rfl) (by rfl) ?_
        refine h_Si1 (Y' := M_X12_stormIn) dX12_pier_118 zw_950 zw_951 ok_X12_stormIn (by decide) rfl (Nat.le_of_ble_eq_true rfl) ⟨rfl, rfl⟩ (by decide) (m_stormIn (t := α 5) rfl e0 e7 a7 ⟨by omega, by omega⟩) (fun vv σ2 hq => ?_)
        obtain ⟨rfl, rfl⟩ := hq
        refine h_Si3 (Y' := M_X12_lossOf) dX12_pier_121 zw_968 zw_969 ok_X12_lossOf (by decide) rfl (Nat.le_of_ble_eq_true rfl) ⟨rfl, rfl⟩ (by decide) (m_lossOf (t := α 5) rfl (by omega) p1 p4 e0 q1 q4 ⟨by omega, by omega⟩ hs.1 hs.2) (fun vv σ2 hq => ?_)
        obtain ⟨rfl, rfl⟩ := hq
        refine h_iret dX12_pier_124 rfl rfl rfl ?_
        exact ⟨by unfold aPier; rw [if_neg (by omega), if_neg (by decide), if_neg (by decide), if_neg (by decide), if_neg (by decide), if_neg (by decide), if_pos rfl]; rfl, hM, fr.rf⟩
  · refine z_ldc (n := -1000001) dX12_pier_8 zw_860 rfl ?_
    refine h_iret dX12_pier_10 rfl rfl rfl ?_
    exact ⟨by unfold aPier; rw [if_pos (by omega)], hM, fr.rf⟩
/-- behind how many seasons, from d on, n at most, the pier has no spans -/
def gvF (t : Nat → Int) (p : Nat) : Nat → Nat → Int
  | 0, _ => NONE
  | n + 1, d => if gnF t d (24 + p) = 0 then (d : Int) else gvF t p n (d + 1)
def aGone (α : Mem) (a : Int) : Int := if ¬ (0 ≤ a ∧ a < α 5 3) then BAD else gvF (α 5) a.toNat 61 0
theorem c_gone {a : Int} (hC : CI σ α) (hO : OK α) (ha : zin a) : KI rc M_X11_gone [zR 0, zI a] σ (cP σ α (aGone α a) α) := by
  have h3 := OKc_3 hO
  have hR := hC.2.2.2.1
  refine K_of 1 (by decide) (Nat.le_of_ble_eq_true rfl) (show Z _ _ 0 0 0 [some (zR 0), some (zI a), none] [] _ _ from ?_)
  first | refine z_aload_n dX11_gone_0 rfl ?_ | refine z_aload_nT dX11_gone_0 rfl ?_
  refine z_iload_n dX11_gone_1 rfl ?_
  refine h_Vi1 (Y' := M_X11_isPier) dX11_gone_2 zw_468 zw_470 zs_10 rfl ok_X11_isPier (by decide) rfl (Nat.le_of_ble_eq_true rfl) ⟨rfl, rfl⟩ (by decide) (by first | assumption | rfl) (c_isPier ha hR.2.1 h3) (fun vv σ2 hq => ?_)
  obtain ⟨hv1, rfl⟩ := hq
  refine z_if_ne (tgt := 11) dX11_gone_5 (by decide) (by omega) (fun b5 => ?_) (fun b5 => ?_)
  · have hk := OKc_p hO (a := a) (by omega) (by omega)
    obtain ⟨p, rfl⟩ : ∃ p : Nat, a = (p : Int) := ⟨a.toNat, by omega⟩
    have loop : ∀ n d : Nat, d + n = 61 → ∀ σ' : Mem, cR σ' 13 (gnF (α 5) d) → fr 13 5 σ2 σ' → Z rc M_X11_gone 0 0 24 [some (zR 0), some (zI (p : Int)), some (zI (d : Int))] [] (hp σ') (qI (fun v σ' => v = gvF (α 5) p n d ∧ fr 13 5 σ2 σ')) := by
      intro n
      induction n with
      | zero =>
        intro d hd σ' i1 i2
        refine z_iload_n dX11_gone_24 rfl ?_
        refine z_bipush dX11_gone_25 rfl ?_
        refine z_icmp_gt (tgt := 64) dX11_gone_27 (by decide) (by omega) (by omega) (fun b27 => ?_) (fun b27 => ?_)
        · refine z_ldc (n := -1000000) dX11_gone_64 zw_528 rfl ?_
          refine h_iret dX11_gone_66 rfl rfl rfl ?_
          exact ⟨rfl, i2⟩
        · omega
      | succ n ih =>
        intro d hd σ' i1 i2
        have hg := gnF_ok hk d
        have e3 := gnF_3 (t := α 5) d
        have hst := stF_in (gnF (α 5) d)
        have p4 := (cR13p i1 (p := p) (by omega)).2.2.2
        have q4 := (hg.2.2.2.2.2.2.2.2.2 p (by omega)).2.2.2
        refine z_iload_n dX11_gone_24 rfl ?_
        refine z_bipush dX11_gone_25 rfl ?_
        refine z_icmp_gt (tgt := 64) dX11_gone_27 (by decide) (by omega) (by omega) (fun b27 => ?_) (fun b27 => ?_)
        · omega
        · first | refine z_aload_n dX11_gone_30 rfl ?_ | refine z_aload_nT dX11_gone_30 rfl ?_
          refine h_getr dX11_gone_31 fl_X11_30 (by first | assumption | rfl) (by rfl) ?_
          refine h_getr dX11_gone_34 fl_X11_203 (by first | assumption | rfl) (by rfl) ?_
          refine z_iload_n dX11_gone_37 rfl ?_
          first | refine h_iald dX11_gone_38 (by first | assumption | rfl) (by repeat' first | apply zc_add | apply zc_mul | with_reducible exact zc_var _ | exact zc_lit _) (by omega) (by decide) ?_ | refine z_ialdT _ dX11_gone_38 (by assumption) (by repeat' first | apply zc_add | apply zc_mul | with_reducible exact zc_var _ | exact zc_lit _) (by omega) (by omega) ?_
          refine z_if_ne (tgt := 44) dX11_gone_39 (by decide) (by omega) (fun b39 => ?_) (fun b39 => ?_)
          · have e : gvF (α 5) p (n + 1) d = gvF (α 5) p n (d + 1) := by
              conv => lhs; unfold gvF
              rw [if_neg (by omega)]
            rw [e]
            first | refine z_aload_n dX11_gone_44 rfl ?_ | refine z_aload_nT dX11_gone_44 rfl ?_
            refine h_getr dX11_gone_45 fl_X11_30 (by first | assumption | rfl) (by rfl) ?_
            first | refine z_aload_n dX11_gone_48 rfl ?_ | refine z_aload_nT dX11_gone_48 rfl ?_
            refine h_getr dX11_gone_49 fl_X11_30 (by first | assumption | rfl) (by rfl) ?_
            refine h_Vi0 (Y' := M_X2_storm) dX11_gone_52 zw_425 zw_426 zw_427 rfl ok_X2_storm (by decide) rfl (Nat.le_of_ble_eq_true rfl) ⟨rfl, rfl⟩ (by decide) (by first | assumption | rfl) (k_storm (t := gnF (α 5) d) (Or.inr (Or.inl rfl)) i1.2.2.2.2.2.2.2.2.1 i1.2.2.1 hg.2.2.2.2.2.2.2.2.1 hg.2.2.1.1 (by have := hg.2.2.1.2; omega)) (fun vv σ2 hq => ?_)
            obtain ⟨rfl, rfl⟩ := hq
            refine h_Vv1 (Y' := M_X2_pass) dX11_gone_55 zw_433 zw_434 zw_435 rfl ok_X2_pass (by decide) rfl (Nat.le_of_ble_eq_true rfl) ⟨rfl, rfl⟩ (by decide) (by first | assumption | rfl) (k_pass (Or.inr (Or.inl rfl)) i1 hg (by omega) hst.1 hst.2) (fun σ2 hq => ?_)
            obtain ⟨j1, j2⟩ := hq
            refine z_iinc dX11_gone_58 rfl (by decide) rfl ?_
            refine z_goto (tgt := 24) dX11_gone_61 (by decide) ?_
            have := ih (d + 1) (by omega) _ j1 (i2.tr j2)
            rw [nsucc] at this
            exact this
          · refine z_iload_n dX11_gone_42 rfl ?_
            refine h_iret dX11_gone_43 rfl rfl rfl ?_
            refine ⟨?_, i2⟩
            unfold gvF
            rw [if_pos (by omega)]
    first | refine z_aload_n dX11_gone_11 rfl ?_ | refine z_aload_nT dX11_gone_11 rfl ?_
    refine h_getr dX11_gone_12 fl_X11_30 (by first | assumption | rfl) (by rfl) ?_
    first | refine z_aload_n dX11_gone_15 rfl ?_ | refine z_aload_nT dX11_gone_15 rfl ?_
    refine h_getr dX11_gone_16 fl_X11_26 (by first | assumption | rfl) (by rfl) ?_
    refine h_Vv1 (Y' := M_X2_become) dX11_gone_19 zw_401 zw_402 zw_403 rfl ok_X2_become (by decide) rfl (Nat.le_of_ble_eq_true rfl) ⟨rfl, rfl⟩ (by decide) (by first | assumption | rfl) (k_become (Or.inr (Or.inl rfl)) (Or.inl rfl) (by decide) hR hk.2.1 (Or.inr hk.1)) (fun σ2 hq => ?_)
    obtain ⟨j1, j2⟩ := hq
    refine z_iconst dX11_gone_22 ?_
    refine z_istore_n dX11_gone_23 (by decide) rfl ?_
    refine Z_mono (loop 61 0 rfl _ j1 j2) (fun v σ' hq => ?_)
    exact ⟨by unfold aGone; rw [if_neg (by omega)]; exact hq.1, CI13 hC hq.2⟩
  · refine z_ldc (n := -1000001) dX11_gone_8 zw_268 rfl ?_
    refine h_iret dX11_gone_10 rfl rfl rfl ?_
    exact ⟨by unfold aGone; rw [if_pos (by omega)], hC, fr.rf⟩
theorem r_gone {a : Int} (hM : MI σ α) (hO : OK α) (ha : zin a) : KI rc M_X12_gone [zR 40, zI a] σ (mP σ α (aGone α a) α) := by
  have h3 := OKc_3 hO
  have hR := hM.2.2.2.1
  refine K_of 1 (by decide) (Nat.le_of_ble_eq_true rfl) (show Z _ _ 0 0 0 [some (zR 40), some (zI a), none] [] _ _ from ?_)
  first | refine z_aload_n dX12_gone_0 rfl ?_ | refine z_aload_nT dX12_gone_0 rfl ?_
  refine z_iload_n dX12_gone_1 rfl ?_
  refine h_Vi1 (Y' := M_X12_isOne) dX12_gone_2 zw_975 zw_977 zs_38 rfl ok_X12_isOne (by decide) rfl (Nat.le_of_ble_eq_true rfl) ⟨rfl, rfl⟩ (by decide) (by first | assumption | rfl) (m_isOne ha (hR 3 (by omega)) h3) (fun vv σ2 hq => ?_)
  obtain ⟨hv1, rfl⟩ := hq
  refine z_if_ne (tgt := 11) dX12_gone_5 (by decide) (by omega) (fun b5 => ?_) (fun b5 => ?_)
  · have hk := OKc_p hO (a := a) (by omega) (by omega)
    obtain ⟨p, rfl⟩ : ∃ p : Nat, a = (p : Int) := ⟨a.toNat, by omega⟩
    have loop : ∀ n d : Nat, d + n = 61 → ∀ σ' : Mem, mR σ' 47 (gnF (α 5) d) → fm 47 σ2 σ' → Z rc M_X12_gone 0 0 17 [some (zR 40), some (zI (p : Int)), some (zI (d : Int))] [] (hp σ') (qI (fun v σ' => v = gvF (α 5) p n d ∧ fm 47 σ2 σ')) := by
      intro n
      induction n with
      | zero =>
        intro d hd σ' i1 i2
        refine z_iload_n dX12_gone_17 rfl ?_
        refine z_bipush dX12_gone_18 rfl ?_
        refine z_icmp_gt (tgt := 48) dX12_gone_20 (by decide) (by omega) (by omega) (fun b20 => ?_) (fun b20 => ?_)
        · refine z_ldc (n := -1000000) dX12_gone_48 zw_1015 rfl ?_
          refine h_iret dX12_gone_50 rfl rfl rfl ?_
          exact ⟨rfl, i2⟩
        · omega
      | succ n ih =>
        intro d hd σ' i1 i2
        have hg := gnF_ok hk d
        have e3 := gnF_3 (t := α 5) d
        have p4 := i1 (24 + p) (by omega)
        have q4 := (hg.2.2.2.2.2.2.2.2.2 p (by omega)).2.2.2
        refine z_iload_n dX12_gone_17 rfl ?_
        refine z_bipush dX12_gone_18 rfl ?_
        refine z_icmp_gt (tgt := 48) dX12_gone_20 (by decide) (by omega) (by omega) (fun b20 => ?_) (fun b20 => ?_)
        · omega
        · first | refine z_aload_n dX12_gone_23 rfl ?_ | refine z_aload_nT dX12_gone_23 rfl ?_
          refine h_getr dX12_gone_24 fl_X12_28 (by first | assumption | rfl) (by rfl) ?_
          refine z_bipush dX12_gone_27 rfl ?_
          refine z_iload_n dX12_gone_29 rfl ?_
          refine z_iadd dX12_gone_30 ?_
          first | refine h_iald dX12_gone_31 (by first | assumption | rfl) (by repeat' first | apply zc_add | apply zc_mul | with_reducible exact zc_var _ | exact zc_lit _) (by omega) (by decide) ?_ | refine z_ialdT _ dX12_gone_31 (by assumption) (by repeat' first | apply zc_add | apply zc_mul | with_reducible exact zc_var _ | exact zc_lit _) (by omega) (by omega) ?_
          refine z_if_ne (tgt := 37) dX12_gone_32 (by decide) (by omega) (fun b32 => ?_) (fun b32 => ?_)
          · have e : gvF (α 5) p (n + 1) d = gvF (α 5) p n (d + 1) := by
              conv => lhs; unfold gvF
              rw [if_neg (by omega)]
            rw [e]
            first | refine z_aload_n dX12_gone_37 rfl ?_ | refine z_aload_nT dX12_gone_37 rfl ?_
            refine z_iconst dX12_gone_38 ?_
            refine h_Vv1 (Y' := M_X12_goOn) dX12_gone_39 zw_1003 zw_1005 zs_40 rfl ok_X12_goOn (by decide) rfl (Nat.le_of_ble_eq_true rfl) ⟨rfl, rfl⟩ (by decide) (by first | assumption | rfl) (m_goOn (d := 1) i1 hg (by omega) (by omega)) (fun σ2 hq => ?_)
            obtain ⟨j1, j2⟩ := hq
            refine z_iinc dX12_gone_42 rfl (by decide) rfl ?_
            refine z_goto (tgt := 17) dX12_gone_45 (by decide) ?_
            have := ih (d + 1) (by omega) _ j1 (i2.tr j2)
            rw [nsucc] at this
            exact this
          · refine z_iload_n dX12_gone_35 rfl ?_
            refine h_iret dX12_gone_36 rfl rfl rfl ?_
            refine ⟨?_, i2⟩
            unfold gvF
            rw [if_pos (by omega)]
    first | refine z_aload_n dX12_gone_11 rfl ?_ | refine z_aload_nT dX12_gone_11 rfl ?_
    refine h_Vv0 (Y' := M_X12_begin) dX12_gone_12 zw_999 zw_1001 zs_39 rfl ok_X12_begin (by decide) rfl (Nat.le_of_ble_eq_true rfl) ⟨rfl, rfl⟩ (by decide) (by first | assumption | rfl) (m_begin hR) (fun σ2 hq => ?_)
    obtain ⟨j1, j2⟩ := hq
    refine z_iconst dX12_gone_15 ?_
    refine z_istore_n dX12_gone_16 (by decide) rfl ?_
    refine Z_mono (loop 61 0 rfl _ j1 j2) (fun v σ' hq => ?_)
    exact ⟨by unfold aGone; rw [if_neg (by omega)]; exact hq.1, MI47 hM hq.2⟩
  · refine z_ldc (n := -1000001) dX12_gone_8 zw_860 rfl ?_
    refine h_iret dX12_gone_10 rfl rfl rfl ?_
    exact ⟨by unfold aGone; rw [if_pos (by omega)], hM, fr.rf⟩
/-- the least lean, from l on, by which out is at the place -/
def aiL (f pl out need w : Int) : Nat → Nat → Int
  | 0, _ => NONE
  | n + 1, l => if placeF f (l : Int) out = pl then (if w = 0 then (l : Int) else need) else aiL f pl out need w n (l + 1)
def aAim (α : Mem) (a pl out w : Int) : Int := if ¬ (0 ≤ a ∧ a < α 5 3) ∨ ¬ (0 ≤ pl ∧ pl ≤ 9) ∨ ¬ (1 ≤ out ∧ out ≤ 20) ∨ ¬ (0 ≤ w ∧ w ≤ 1) then BAD else if out - α 5 (24 + a.toNat) < 0 ∨ α 5 2 < out - α 5 (24 + a.toNat) then NONE else aiL (α 5 (14 + a.toNat)) pl out (out - α 5 (24 + a.toNat)) w 3 0
theorem c_aim {a pl out w : Int} (hC : CI σ α) (hO : OK α) (ha : zin a) (hpl : zin pl) (hout : zin out) (hw : zin w) : KI rc M_X11_aim [zR 0, zI a, zI pl, zI out, zI w] σ (cP σ α (aAim α a pl out w) α) := by
  have h3 := OKc_3 hO
  have hR := hC.2.2.2.1
  have bad : ∀ σ2 : Mem, σ2 = σ → ¬ ((0 ≤ a ∧ a < α 5 3) ∧ (0 ≤ pl ∧ pl ≤ 9) ∧ (1 ≤ out ∧ out ≤ 20) ∧ (0 ≤ w ∧ w ≤ 1)) → Z rc M_X11_aim 0 0 39 [some (zR 0), some (zI a), some (zI pl), some (zI out), some (zI w), none, none, none] [] (hp σ2) (qI (cP σ α (aAim α a pl out w) α)) := by
    intro σ2 e hb
    subst e
    refine z_iconst dX11_aim_39 ?_
    refine z_istore dX11_aim_40 (by decide) rfl ?_
    refine z_iload dX11_aim_42 rfl ?_
    refine z_if_ne (tgt := 50) dX11_aim_44 (by decide) (by omega) (fun b44 => ?_) (fun b44 => ?_)
    · omega
    · refine z_ldc (n := -1000001) dX11_aim_47 zw_268 rfl ?_
      refine h_iret dX11_aim_49 rfl rfl rfl ?_
      exact ⟨by unfold aAim; rw [if_pos (by omega)], hC, fr.rf⟩
  refine K_of 3 (by decide) (Nat.le_of_ble_eq_true rfl) (show Z _ _ 0 0 0 [some (zR 0), some (zI a), some (zI pl), some (zI out), some (zI w), none, none, none] [] _ _ from ?_)
  first | refine z_aload_n dX11_aim_0 rfl ?_ | refine z_aload_nT dX11_aim_0 rfl ?_
  refine z_iload_n dX11_aim_1 rfl ?_
  refine h_Vi1 (Y' := M_X11_isPier) dX11_aim_2 zw_468 zw_470 zs_10 rfl ok_X11_isPier (by decide) rfl (Nat.le_of_ble_eq_true rfl) ⟨rfl, rfl⟩ (by decide) (by first | assumption | rfl) (c_isPier ha hR.2.1 h3) (fun vv σ2 hq => ?_)
  obtain ⟨hv1, rfl⟩ := hq
  refine z_if_eq (tgt := 39) dX11_aim_5 (by decide) (by omega) (fun b5 => ?_) (fun b5 => ?_)
  · exact bad _ rfl (by omega)
  · refine z_iload_n dX11_aim_8 rfl ?_
    refine h_Si1 (Y' := M_X11_isPlace) dX11_aim_9 zw_533 zw_534 ok_X11_isPlace (by decide) rfl (Nat.le_of_ble_eq_true rfl) ⟨rfl, rfl⟩ (by decide) (c_isPlace hpl) (fun vv σ2 hq => ?_)
    obtain ⟨hv2, rfl⟩ := hq
    refine z_if_eq (tgt := 39) dX11_aim_12 (by decide) (by omega) (fun b12 => ?_) (fun b12 => ?_)
    · exact bad _ rfl (by omega)
    · refine z_iload_n dX11_aim_15 rfl ?_
      refine z_iconst dX11_aim_16 ?_
      refine z_bipush dX11_aim_17 rfl ?_
      refine h_Si3 (Y' := M_X11_isWithin) dX11_aim_19 zw_265 zw_266 ok_X11_isWithin (by decide) rfl (Nat.le_of_ble_eq_true rfl) ⟨rfl, rfl⟩ (by decide) (c_within hout (by omega) (by omega)) (fun vv σ2 hq => ?_)
      obtain ⟨hv3, rfl⟩ := hq
      refine z_if_eq (tgt := 39) dX11_aim_22 (by decide) (by omega) (fun b22 => ?_) (fun b22 => ?_)
      · exact bad _ rfl (by omega)
      · refine z_iload dX11_aim_25 rfl ?_
        refine z_iconst dX11_aim_27 ?_
        refine z_iconst dX11_aim_28 ?_
        refine h_Si3 (Y' := M_X11_isWithin) dX11_aim_29 zw_265 zw_266 ok_X11_isWithin (by decide) rfl (Nat.le_of_ble_eq_true rfl) ⟨rfl, rfl⟩ (by decide) (c_within hw (by omega) (by omega)) (fun vv σ2 hq => ?_)
        obtain ⟨hv4, rfl⟩ := hq
        refine z_if_eq (tgt := 39) dX11_aim_32 (by decide) (by omega) (fun b32 => ?_) (fun b32 => ?_)
        · exact bad _ rfl (by omega)
        · have hk := OKc_p hO (a := a) (by omega) (by omega)
          obtain ⟨p, rfl⟩ : ∃ p : Nat, a = (p : Int) := ⟨a.toNat, by omega⟩
          obtain ⟨r4, r5, r6, r7, r8, r9, r10, r11, r12, rp⟩ := hR
          obtain ⟨k8, k3, a0, a1, a2, a4, a5, a6, a7, hq⟩ := hk
          obtain ⟨p1, p2, p3, p4⟩ := cR8p hC.2.2.2.1 (p := p) (by omega)
          obtain ⟨q1, q2, q3, q4⟩ := hq p (by omega)
          have loop : ∀ n l : Nat, l + n = 3 → Z rc M_X11_aim 0 0 86 [some (zR 0), some (zI (p : Int)), some (zI pl), some (zI out), some (zI w), some (zI 1), some (zI (out - σ2 12 p)), some (zI (l : Int))] [] (hp σ2) (qI (fun v σ' => v = aiL (α 5 (14 + p)) pl out (out - α 5 (24 + p)) w n l ∧ σ' = σ2)) := by
            intro n
            induction n with
            | zero =>
              intro l hl
              refine z_iload dX11_aim_86 rfl ?_
              refine z_iconst dX11_aim_88 ?_
              refine z_icmp_gt (tgt := 130) dX11_aim_89 (by decide) (by omega) (by omega) (fun b89 => ?_) (fun b89 => ?_)
              · refine z_ldc (n := -1000000) dX11_aim_130 zw_528 rfl ?_
                refine h_iret dX11_aim_132 rfl rfl rfl ?_
                exact ⟨rfl, rfl⟩
              · omega
            | succ n ih =>
              intro l hl
              have pin := placeF_in (σ2 10 p) (l : Int) out
              refine z_iload dX11_aim_86 rfl ?_
              refine z_iconst dX11_aim_88 ?_
              refine z_icmp_gt (tgt := 130) dX11_aim_89 (by decide) (by omega) (by omega) (fun b89 => ?_) (fun b89 => ?_)
              · omega
              · first | refine z_aload_n dX11_aim_92 rfl ?_ | refine z_aload_nT dX11_aim_92 rfl ?_
                refine h_getr dX11_aim_93 fl_X11_26 (by first | assumption | rfl) (by rfl) ?_
                refine h_getr dX11_aim_96 fl_X11_218 (by first | assumption | rfl) (by rfl) ?_
                refine z_iload_n dX11_aim_99 rfl ?_
                first | refine h_iald dX11_aim_100 (by first | assumption | rfl) (by repeat' first | apply zc_add | apply zc_mul | with_reducible exact zc_var _ | exact zc_lit _) (by omega) (by decide) ?_ | refine z_ialdT _ dX11_aim_100 (by assumption) (by repeat' first | apply zc_add | apply zc_mul | with_reducible exact zc_var _ | exact zc_lit _) (by omega) (by omega) ?_
                refine z_iload dX11_aim_101 rfl ?_
                refine z_iload_n dX11_aim_103 rfl ?_
                refine h_Si3 (Y' := M_X2_placeFrom) dX11_aim_104 zw_536 zw_450 ok_X2_placeFrom (by decide) rfl (Nat.le_of_ble_eq_true rfl) ⟨rfl, rfl⟩ (by decide) (k_placeFrom (by omega) (by omega) (by omega) (by omega) (by omega) (by omega)) (fun vv σ2 hq => ?_)
                obtain ⟨rfl, rfl⟩ := hq
                refine z_iload_n dX11_aim_107 rfl ?_
                refine z_icmp_ne (tgt := 124) dX11_aim_108 (by decide) (by omega) (by omega) (fun b108 => ?_) (fun b108 => ?_)
                · have e : aiL (α 5 (14 + p)) pl out (out - α 5 (24 + p)) w (n + 1) l = aiL (α 5 (14 + p)) pl out (out - α 5 (24 + p)) w n (l + 1) := by
                    conv => lhs; unfold aiL
                    rw [if_neg (by rw [← p2]; exact b108)]
                  rw [e]
                  refine z_iinc dX11_aim_124 rfl (by decide) rfl ?_
                  refine z_goto (tgt := 86) dX11_aim_127 (by decide) ?_
                  have := ih (l + 1) (by omega)
                  rw [nsucc] at this
                  exact this
                · refine z_iload dX11_aim_111 rfl ?_
                  refine z_if_ne (tgt := 121) dX11_aim_113 (by decide) (by omega) (fun b113 => ?_) (fun b113 => ?_)
                  · refine z_iload dX11_aim_121 rfl ?_
                    refine h_iret dX11_aim_123 rfl rfl rfl ?_
                    refine ⟨?_, rfl⟩
                    unfold aiL
                    rw [if_pos (by rw [← p2]; exact b108), if_neg b113, ← p4]
                  · refine z_iload dX11_aim_116 rfl ?_
                    refine z_goto (tgt := 123) dX11_aim_118 (by decide) ?_
                    refine h_iret dX11_aim_123 rfl rfl rfl ?_
                    refine ⟨?_, rfl⟩
                    unfold aiL
                    rw [if_pos (by rw [← p2]; exact b108), if_pos b113]
          refine z_iconst dX11_aim_35 ?_
          refine z_goto (tgt := 40) dX11_aim_36 (by decide) ?_
          refine z_istore dX11_aim_40 (by decide) rfl ?_
          refine z_iload dX11_aim_42 rfl ?_
          refine z_if_ne (tgt := 50) dX11_aim_44 (by decide) (by omega) (fun b44 => ?_) (fun b44 => ?_)
          · refine z_iload_n dX11_aim_50 rfl ?_
            first | refine z_aload_n dX11_aim_51 rfl ?_ | refine z_aload_nT dX11_aim_51 rfl ?_
            refine h_getr dX11_aim_52 fl_X11_26 (by first | assumption | rfl) (by rfl) ?_
            refine h_getr dX11_aim_55 fl_X11_203 (by first | assumption | rfl) (by rfl) ?_
            refine z_iload_n dX11_aim_58 rfl ?_
            first | refine h_iald dX11_aim_59 (by first | assumption | rfl) (by repeat' first | apply zc_add | apply zc_mul | with_reducible exact zc_var _ | exact zc_lit _) (by omega) (by decide) ?_ | refine z_ialdT _ dX11_aim_59 (by assumption) (by repeat' first | apply zc_add | apply zc_mul | with_reducible exact zc_var _ | exact zc_lit _) (by omega) (by omega) ?_
            refine z_isub dX11_aim_60 ?_
            refine z_istore dX11_aim_61 (by decide) rfl ?_
            refine z_iload dX11_aim_63 rfl ?_
            refine z_if_lt (tgt := 80) dX11_aim_65 (by decide) (by omega) (fun b65 => ?_) (fun b65 => ?_)
            · refine z_ldc (n := -1000000) dX11_aim_80 zw_528 rfl ?_
              refine h_iret dX11_aim_82 rfl rfl rfl ?_
              exact ⟨by unfold aAim; rw [if_neg (by omega), if_pos]; show out - α 5 (24 + p) < 0 ∨ _; omega, hC, fr.rf⟩
            · refine z_iload dX11_aim_68 rfl ?_
              first | refine z_aload_n dX11_aim_70 rfl ?_ | refine z_aload_nT dX11_aim_70 rfl ?_
              refine h_getr dX11_aim_71 fl_X11_26 (by first | assumption | rfl) (by rfl) ?_
              refine h_geti dX11_aim_74 fl_X11_200 (by first | assumption | rfl) (by rfl) ?_
              refine z_icmp_le (tgt := 83) dX11_aim_77 (by decide) (by omega) (by omega) (fun b77 => ?_) (fun b77 => ?_)
              · refine z_iconst dX11_aim_83 ?_
                refine z_istore dX11_aim_84 (by decide) rfl ?_
                refine Z_mono (loop 3 0 rfl) (fun v σ' hq => ?_)
                obtain ⟨e1, rfl⟩ := hq
                exact ⟨by unfold aAim; rw [if_neg (by omega), if_neg]; exact e1; show ¬ (out - α 5 (24 + p) < 0 ∨ α 5 2 < out - α 5 (24 + p)); omega, hC, fr.rf⟩
              · refine z_ldc (n := -1000000) dX11_aim_80 zw_528 rfl ?_
                refine h_iret dX11_aim_82 rfl rfl rfl ?_
                exact ⟨by unfold aAim; rw [if_neg (by omega), if_pos]; show out - α 5 (24 + p) < 0 ∨ α 5 2 < out - α 5 (24 + p); omega, hC, fr.rf⟩
          · omega
end
