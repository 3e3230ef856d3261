/-! fits: the call -/
def fLo (w : Nat) : Int := if w = 2 then 1 else 0
def fHi (w : Nat) : Int := if w = 0 then 9 else if w = 1 then 2 else if w = 2 then 5 else 29
theorem cok_chg {B v : Int} {t : Nat → Int} {p w : Nat} (h : cok B t) (hp5 : p < 5) (hw : w < 4) (h1 : fLo w ≤ v) (h2 : v ≤ fHi w) : cok B (zup t (chI w + p) v) := by
  have hc : chI w = 14 ∨ chI w = 19 ∨ chI w = 9 ∨ chI w = 24 := by
    unfold chI
    split
    · exact Or.inl rfl
    · split
      · exact Or.inr (Or.inl rfl)
      · split
        · exact Or.inr (Or.inr (Or.inl rfl))
        · exact Or.inr (Or.inr (Or.inr rfl))
  have e : ∀ i, i ≠ chI w + p → zup t (chI w + p) v i = t i := fun i hi => zup_ne hi
  obtain ⟨a8, a3, a0, a1, a2, a4, a5, a6, a7, hq⟩ := h
  refine ⟨?_, ?_, ?_, ?_, ?_, ?_, ?_, ?_, ?_, ?_⟩
  · rw [e 8 (by omega)]; exact a8
  · rw [e 3 (by omega)]; exact a3
  · rw [e 0 (by omega)]; exact a0
  · rw [e 1 (by omega)]; exact a1
  · rw [e 2 (by omega)]; exact a2
  · rw [e 4 (by omega)]; exact a4
  · rw [e 5 (by omega)]; exact a5
  · rw [e 6 (by omega)]; exact a6
  · rw [e 7 (by omega)]; exact a7
  · intro q hq2
    rw [e 3 (by omega)] at hq2
    obtain ⟨q1, q2, q3, q4⟩ := hq q hq2
    have hw2 : w = 0 ∨ w = 1 ∨ w = 2 ∨ w = 3 := by omega
    unfold fLo at h1
    unfold fHi at h2
    rcases hw2 with rfl | rfl | rfl | rfl
    · have ec : chI 0 = 14 := rfl
      rw [ec] at e ⊢
      rw [e (9 + q) (by omega), e (19 + q) (by omega), e (24 + q) (by omega)]
      refine ⟨q1, ?_, q3, q4⟩
      by_cases hqp : q = p
      · subst hqp
        unfold zup
        rw [if_pos rfl]
        exact ⟨h1, h2⟩
      · rw [e (14 + q) (by omega)]
        exact q2
    · have ec : chI 1 = 19 := rfl
      rw [ec] at e ⊢
      rw [e (9 + q) (by omega), e (14 + q) (by omega), e (24 + q) (by omega)]
      refine ⟨q1, q2, ?_, q4⟩
      by_cases hqp : q = p
      · subst hqp
        unfold zup
        rw [if_pos rfl]
        exact ⟨h1, h2⟩
      · rw [e (19 + q) (by omega)]
        exact q3
    · have ec : chI 2 = 9 := rfl
      rw [ec] at e ⊢
      rw [e (14 + q) (by omega), e (19 + q) (by omega), e (24 + q) (by omega)]
      refine ⟨?_, q2, q3, q4⟩
      by_cases hqp : q = p
      · subst hqp
        unfold zup
        rw [if_pos rfl]
        exact ⟨h1, h2⟩
      · rw [e (9 + q) (by omega)]
        exact q1
    · have ec : chI 3 = 24 := rfl
      rw [ec] at e ⊢
      rw [e (14 + q) (by omega), e (19 + q) (by omega), e (9 + q) (by omega)]
      refine ⟨q1, q2, q3, ?_⟩
      by_cases hqp : q = p
      · subst hqp
        unfold zup
        rw [if_pos rfl]
        exact ⟨h1, by have h2' : v ≤ 29 := h2; omega⟩
      · rw [e (24 + q) (by omega)]
        exact q4
theorem soF_congr {t f g : Nat → Int} : ∀ n k, (∀ j, k ≤ j → j < k + n → f j = g j) → soF t f n k = soF t g n k
  | 0, _, _ => rfl
  | n + 1, k, h => by
    rw [soF_s, soF_s, h k (by omega) (by omega), soF_congr n (k + 1) (fun j h1 h2 => h j (by omega) (by omega))]
def fiG (α : Mem) (p r i n w : Nat) (v : Nat) : Int := soF (zup (α 5) (chI w + p) (v : Int)) (fun k => α 3 (40 * r + i + k)) n 0
theorem fiG_b {α : Mem} {p r i n w v : Nat} : fiG α p r i n w v = 0 ∨ fiG α p r i n w v = 1 := soF_b _ _
abbrev fiBad (α : Mem) (a r n w : Int) : Prop := ¬ (0 ≤ a ∧ a < α 5 3) ∨ ¬ (0 ≤ r ∧ r ≤ 7) ∨ ¬ (1 ≤ n ∧ n ≤ 16) ∨ ¬ (0 ≤ w ∧ w ≤ 3)
def aFits (α : Mem) (a r i n w : Int) : Int := if ¬ (0 ≤ a ∧ a < α 5 3) ∨ ¬ (0 ≤ r ∧ r ≤ 7) ∨ ¬ (1 ≤ n ∧ n ≤ 16) ∨ ¬ (0 ≤ w ∧ w ≤ 3) then BAD else if α 1 r.toNat < 0 then -1000011 else if ¬ (0 ≤ i ∧ 0 ≤ n ∧ i + n ≤ α 2 r.toNat) then -1000012 else fiL (fiG α a.toNat r.toNat i.toNat n.toNat w.toNat) (fHi w.toNat + 1 - fLo w.toNat).toNat (fLo w.toNat).toNat 0
def nFits (α : Mem) (a r i n w : Int) : Mem := if ¬ (0 ≤ a ∧ a < α 5 3) ∨ ¬ (0 ≤ r ∧ r ≤ 7) ∨ ¬ (1 ≤ n ∧ n ≤ 16) ∨ ¬ (0 ≤ w ∧ w ≤ 3) then α else if α 1 r.toNat < 0 then rowsU α (α 1) (α 2) (α 3) 1 else if ¬ (0 ≤ i ∧ 0 ≤ n ∧ i + n ≤ α 2 r.toNat) then rowsU α (α 1) (α 2) (α 3) 2 else rowsU α (α 1) (α 2) (α 3) 0
theorem fLH (w : Nat) : (0 ≤ fLo w ∧ fLo w ≤ 1) ∧ (2 ≤ fHi w ∧ fHi w ≤ 29) := by
  unfold fLo fHi
  refine ⟨?_, ?_⟩
  · split <;> omega
  · split
    · omega
    · split
      · omega
      · split <;> omega
section
variable {rc : ZRC} {σ α : Mem}
theorem c_fits {a r i n w : Int} (h0 : rc 0 = some (4, fLo)) (h1 : rc 1 = some (4, fHi)) (hC : CI σ α) (hO : OK α) (ha : zin a) (hr : zin r) (hi : zin i) (hn : zin n) (hw : zin w) : KI rc M_X11_fits [zR 0, zI a, zI r, zI i, zI n, zI w] σ (cP σ α (aFits α a r i n w) (nFits α a r i n w)) := by
  have h3 := OKc_3 hO
  have hR := hC.2.2.2.1
  have bad : ∀ σ2 : Mem, σ2 = σ → (¬ (0 ≤ a ∧ a < α 5 3) ∨ ¬ (0 ≤ r ∧ r ≤ 7) ∨ ¬ (1 ≤ n ∧ n ≤ 16) ∨ ¬ (0 ≤ w ∧ w ≤ 3)) → Z rc M_X11_fits 0 0 36 [some (zR 0), some (zI a), some (zI r), some (zI i), some (zI n), some (zI w), none, none] [] (hp σ2) (qI (cP σ α (aFits α a r i n w) (nFits α a r i n w))) := by
    intro σ2 e hb
    subst e
    refine z_ldc (n := -1000001) dX11_fits_36 zw_268 rfl ?_
    refine h_iret dX11_fits_38 rfl rfl rfl ?_
    exact ⟨by unfold aFits; rw [if_pos hb], by unfold nFits; rw [if_pos hb]; exact hC, fr.rf⟩
  refine K_of 2 (by decide) (Nat.le_of_ble_eq_true rfl) (show Z _ _ 0 0 0 [some (zR 0), some (zI a), some (zI r), some (zI i), some (zI n), some (zI w), none, none] [] _ _ from ?_)
  first | refine z_aload_n dX11_fits_0 rfl ?_ | refine z_aload_nT dX11_fits_0 rfl ?_
  refine z_iload_n dX11_fits_1 rfl ?_
  refine h_Vi1 (Y' := M_X11_isPier) dX11_fits_2 zw_468 zw_470 zs_10 rfl ok_X11_isPier (by decide) rfl (Nat.le_of_ble_eq_true rfl) ⟨rfl, rfl⟩ (by decide) (by first | assumption | rfl) (c_isPier ha hR.2.1 h3) (fun vv σ2 hq => ?_)
  obtain ⟨hv1, rfl⟩ := hq
  refine z_if_eq (tgt := 36) dX11_fits_5 (by decide) (by omega) (fun b5 => ?_) (fun b5 => ?_)
  · exact bad _ rfl (by omega)
  · refine z_iload_n dX11_fits_8 rfl ?_
    refine h_Si1 (Y' := M_X11_isRow) dX11_fits_9 zw_262 zw_263 ok_X11_isRow (by decide) rfl (Nat.le_of_ble_eq_true rfl) ⟨rfl, rfl⟩ (by decide) (c_isRow hr) (fun vv σ2 hq => ?_)
    obtain ⟨hv2, rfl⟩ := hq
    refine z_if_eq (tgt := 36) dX11_fits_12 (by decide) (by omega) (fun b12 => ?_) (fun b12 => ?_)
    · exact bad _ rfl (by omega)
    · refine z_iload dX11_fits_15 rfl ?_
      refine z_iconst dX11_fits_17 ?_
      refine z_bipush dX11_fits_18 rfl ?_
      refine h_Si3 (Y' := M_X11_isWithin) dX11_fits_20 zw_265 zw_266 ok_X11_isWithin (by decide) rfl (Nat.le_of_ble_eq_true rfl) ⟨rfl, rfl⟩ (by decide) (c_within hn (by omega) (by omega)) (fun vv σ2 hq => ?_)
      obtain ⟨hv3, rfl⟩ := hq
      refine z_if_eq (tgt := 36) dX11_fits_23 (by decide) (by omega) (fun b23 => ?_) (fun b23 => ?_)
      · exact bad _ rfl (by omega)
      · refine z_iload dX11_fits_26 rfl ?_
        refine z_iconst dX11_fits_28 ?_
        refine z_iconst dX11_fits_29 ?_
        refine h_Si3 (Y' := M_X11_isWithin) dX11_fits_30 zw_265 zw_266 ok_X11_isWithin (by decide) rfl (Nat.le_of_ble_eq_true rfl) ⟨rfl, rfl⟩ (by decide) (c_within hw (by omega) (by omega)) (fun vv σ2 hq => ?_)
        obtain ⟨hv4, rfl⟩ := hq
        refine z_if_ne (tgt := 39) dX11_fits_33 (by decide) (by omega) (fun b33 => ?_) (fun b33 => ?_)
        · have hk := OKc_p hO (a := a) (by omega) (by omega)
          obtain ⟨p, rfl⟩ : ∃ p : Nat, a = (p : Int) := ⟨a.toNat, by omega⟩
          obtain ⟨r, rfl⟩ : ∃ p : Nat, r = (p : Int) := ⟨r.toNat, by omega⟩
          obtain ⟨n, rfl⟩ : ∃ p : Nat, n = (p : Int) := ⟨n.toNat, by omega⟩
          obtain ⟨w, rfl⟩ : ∃ p : Nat, w = (p : Int) := ⟨w.toNat, by omega⟩
          have o2 := (hO.2.1.1 r (by omega)).2
          first | refine z_aload_n dX11_fits_39 rfl ?_ | refine z_aload_nT dX11_fits_39 rfl ?_
          refine h_getr dX11_fits_40 fl_X11_12 (by first | assumption | rfl) (by rfl) ?_
          refine z_iload_n dX11_fits_43 rfl ?_
          refine h_Vi1 (Y' := M_X7_isMissing) dX11_fits_44 zw_286 zw_287 zw_288 rfl ok_X7_isMissing (by decide) rfl (Nat.le_of_ble_eq_true rfl) ⟨rfl, rfl⟩ (by decide) (by first | assumption | rfl) (k_isMissing hC hO (by omega)) (fun vv σ2 hq => ?_)
          obtain ⟨hv5, rfl⟩ := hq
          refine z_if_eq (tgt := 56) dX11_fits_47 (by decide) (by omega) (fun b47 => ?_) (fun b47 => ?_)
          · first | refine z_aload_n dX11_fits_56 rfl ?_ | refine z_aload_nT dX11_fits_56 rfl ?_
            refine h_getr dX11_fits_57 fl_X11_12 (by first | assumption | rfl) (by rfl) ?_
            refine z_iload_n dX11_fits_60 rfl ?_
            refine z_iload_n dX11_fits_61 rfl ?_
            refine z_iload dX11_fits_62 rfl ?_
            refine h_Vi3 (Y' := M_X7_holds) dX11_fits_64 zw_290 zw_291 zw_292 rfl ok_X7_holds (by decide) rfl (Nat.le_of_ble_eq_true rfl) ⟨rfl, rfl⟩ (by decide) (by first | assumption | rfl) (k_holds hC hO (by omega) hi hn) (fun vv σ2 hq => ?_)
            obtain ⟨hv6, rfl⟩ := hq
            refine z_if_ne (tgt := 76) dX11_fits_67 (by decide) (by omega) (fun b67 => ?_) (fun b67 => ?_)
            · obtain ⟨i, rfl⟩ : ∃ p : Nat, i = (p : Int) := ⟨i.toNat, by omega⟩
              have hLH := fLH w
              have loop : ∀ m v : Nat, (v : Int) + m = fHi w + 1 → fLo w ≤ v → ∀ (σ' : Mem) (acc : Int), fr 13 5 σ2 σ' → Z rc M_X11_fits 0 0 87 [some (zR 0), some (zI (p : Int)), some (zI (r : Int)), some (zI (i : Int)), some (zI (n : Int)), some (zI (w : Int)), some (zI acc), some (zI (v : Int))] [] (hp σ') (qI (fun x σ' => x = fiL (fiG α p r i n w) m v acc ∧ CI σ' (rowsU α (α 1) (α 2) (α 3) 0) ∧ fr 0 40 σ2 σ')) := by
                intro m
                induction m with
                | zero =>
                  intro v hv hl σ' acc i2
                  refine z_iload dX11_fits_87 rfl ?_
                  refine z_gets 1 dX11_fits_89 rfl zw_605 ?_
                  refine z_iload dX11_fits_92 rfl ?_
                  refine z_ialdT w dX11_fits_94 h1 rfl (by omega) (by omega) ?_
                  refine z_icmp_gt (tgt := 147) dX11_fits_95 (by decide) (by omega) (by omega) (fun b95 => ?_) (fun b95 => ?_)
                  · first | refine z_aload_n dX11_fits_147 rfl ?_ | refine z_aload_nT dX11_fits_147 rfl ?_
                    refine z_iload dX11_fits_148 rfl ?_
                    refine h_Vi1 (Y' := M_X11_fine) dX11_fits_150 zw_278 zw_280 zs_1 rfl ok_X11_fine (by decide) rfl (Nat.le_of_ble_eq_true rfl) ⟨rfl, rfl⟩ (by decide) (by first | assumption | rfl) (c_fine) (fun vv σ2 hq => ?_)
                    obtain ⟨rfl, rfl⟩ := hq
                    have hc2 := CI13 hC i2
                    have hc3 := CI_st hc2.1 0
                    refine h_iret dX11_fits_153 rfl rfl rfl ?_
                    exact ⟨rfl, hc3.1, hc2.2.tr hc3.2⟩
                  · omega
                | succ m ih =>
                  intro v hv hl σ' acc i2
                  have hR' : cR σ' 8 (α 5) := cR_eq hR (fun o j _ _ => i2 o j (by omega))
                  have hk2 := cok_chg (v := (v : Int)) (p := p) (w := w) hk (by omega) (by omega) hl (by omega)
                  have hgb := fiG_b (α := α) (p := p) (r := r) (i := i) (n := n) (w := w) (v := v)
                  rw [fiL_s]
                  refine z_iload dX11_fits_87 rfl ?_
                  refine z_gets 1 dX11_fits_89 rfl zw_605 ?_
                  refine z_iload dX11_fits_92 rfl ?_
                  refine z_ialdT w dX11_fits_94 h1 rfl (by omega) (by omega) ?_
                  refine z_icmp_gt (tgt := 147) dX11_fits_95 (by decide) (by omega) (by omega) (fun b95 => ?_) (fun b95 => ?_)
                  · omega
                  · first | refine z_aload_n dX11_fits_98 rfl ?_ | refine z_aload_nT dX11_fits_98 rfl ?_
                    refine h_getr dX11_fits_99 fl_X11_30 (by first | assumption | rfl) (by rfl) ?_
                    first | refine z_aload_n dX11_fits_102 rfl ?_ | refine z_aload_nT dX11_fits_102 rfl ?_
                    refine h_getr dX11_fits_103 fl_X11_26 (by first | assumption | rfl) (by rfl) ?_
                    refine h_Vv1 (Y' := M_X2_become) dX11_fits_106 zw_401 zw_402 zw_403 rfl ok_X2_become (by decide) rfl (Nat.le_of_ble_eq_true rfl) ⟨rfl, rfl⟩ (by decide) (by first | assumption | rfl) (k_become (Or.inr (Or.inl rfl)) (Or.inl rfl) (by decide) hR' hk.2.1 (Or.inr hk.1)) (fun σ2 hq => ?_)
                    obtain ⟨j1, j2⟩ := hq
                    have j2 := i2.tr j2
                    first | refine z_aload_n dX11_fits_109 rfl ?_ | refine z_aload_nT dX11_fits_109 rfl ?_
                    refine h_getr dX11_fits_110 fl_X11_30 (by first | assumption | rfl) (by rfl) ?_
                    refine z_iload_n dX11_fits_113 rfl ?_
                    refine z_iload dX11_fits_114 rfl ?_
                    refine z_iload dX11_fits_116 rfl ?_
                    refine h_Vv3 (Y' := M_X2_change) dX11_fits_118 zw_607 zw_608 zw_609 rfl ok_X2_change (by decide) rfl (Nat.le_of_ble_eq_true rfl) ⟨rfl, rfl⟩ (by decide) (by first | assumption | rfl) (k_change (Or.inr (Or.inl rfl)) j1 hk.2.1 (by omega) (by omega)) (fun σ2 hq => ?_)
                    obtain ⟨e1, e2⟩ := hq
                    have e2 := j2.tr e2
                    first | refine z_aload_n dX11_fits_121 rfl ?_ | refine z_aload_nT dX11_fits_121 rfl ?_
                    refine z_iload_n dX11_fits_122 rfl ?_
                    refine z_iload_n dX11_fits_123 rfl ?_
                    refine z_iload dX11_fits_124 rfl ?_
                    refine h_Vi3 (Y' := M_X11_isTaken) dX11_fits_126 zw_611 zw_613 zs_20 rfl ok_X11_isTaken (by decide) rfl (Nat.le_of_ble_eq_true rfl) ⟨rfl, rfl⟩ (by decide) (by first | assumption | rfl) (k_isTaken e1 hk2 (by omega) (fun j hj => by rw [e2 4 j (by omega), hC.2.1.2 j hj]; exact hO.2.1.2 j hj)) (fun vv σ2 hq => ?_)
                    obtain ⟨g1, g2⟩ := hq
                    have g2 := e2.tr g2
                    have g3 : vv = fiG α p r i n w v := by
                      rw [g1]
                      unfold fiG
                      exact soF_congr _ _ (fun j _ hj => (e2 4 _ (by omega)).trans (hC.2.1.2 _ (by omega)))
                    subst g3
                    refine z_if_eq (tgt := 141) dX11_fits_129 (by decide) (by omega) (fun b129 => ?_) (fun b129 => ?_)
                    · rw [if_pos b129]
                      refine z_iinc dX11_fits_141 rfl (by decide) rfl ?_
                      refine z_goto (tgt := 87) dX11_fits_144 (by decide) ?_
                      have := ih (v + 1) (by omega) (by omega) σ2 acc g2
                      rw [nsucc] at this
                      exact this
                    · rw [if_neg b129]
                      refine z_iload dX11_fits_132 rfl ?_
                      refine z_iconst dX11_fits_134 ?_
                      refine z_iload dX11_fits_135 rfl ?_
                      refine z_ishl (Int32.ofInt 1 <<< (Int32.ofInt (v : Int) &&& 31)).toInt dX11_fits_137 (Int32.ofInt_toInt _).symm ?_
                      refine z_ior (bitU acc (v : Int)) dX11_fits_138 (by unfold bitU; rw [Int32.ofInt_toInt, Int32.ofInt_toInt]) ?_
                      refine z_istore dX11_fits_139 (by decide) rfl ?_
                      refine z_iinc dX11_fits_141 rfl (by decide) rfl ?_
                      refine z_goto (tgt := 87) dX11_fits_144 (by decide) ?_
                      have := ih (v + 1) (by omega) (by omega) σ2 (bitU acc (v : Int)) g2
                      rw [nsucc] at this
                      exact this
              refine z_iconst dX11_fits_76 ?_
              refine z_istore dX11_fits_77 (by decide) rfl ?_
              refine z_gets 0 dX11_fits_79 rfl zw_603 ?_
              refine z_iload dX11_fits_82 rfl ?_
              refine z_ialdT w dX11_fits_84 h0 rfl (by omega) (by omega) ?_
              refine z_istore dX11_fits_85 (by decide) rfl ?_
              have e1 : fLo w = (((fLo w).toNat : Nat) : Int) := by omega
              rw [e1]
              refine Z_mono (loop (fHi w + 1 - fLo w).toNat (fLo w).toNat (by omega) (by omega) σ2 0 fr.rf) (fun x σ' hq => ?_)
              refine ⟨?_, ?_, hq.2.2⟩
              · unfold aFits
                rw [if_neg (by omega), if_neg (by show ¬ α 1 r < 0; omega), if_neg (by show ¬ ¬ (_ ∧ _ ∧ _ ≤ α 2 r); omega)]
                exact hq.1
              · unfold nFits
                rw [if_neg (by omega), if_neg (by show ¬ α 1 r < 0; omega), if_neg (by show ¬ ¬ (_ ∧ _ ∧ _ ≤ α 2 r); omega)]
                exact hq.2.1
            · first | refine z_aload_n dX11_fits_70 rfl ?_ | refine z_aload_nT dX11_fits_70 rfl ?_
              refine z_iconst dX11_fits_71 ?_
              refine h_Vi1 (Y' := M_X11_found) dX11_fits_72 zw_269 zw_271 zs_0 rfl ok_X11_found (by decide) rfl (Nat.le_of_ble_eq_true rfl) ⟨rfl, rfl⟩ (by decide) (by first | assumption | rfl) (c_found) (fun vv σ2 hq => ?_)
              obtain ⟨rfl, rfl⟩ := hq
              refine h_iret dX11_fits_75 rfl rfl rfl ?_
              refine ⟨?_, ?_, (CI_st hC 2).2⟩
              · unfold aFits
                rw [if_neg (by omega), if_neg (by show ¬ α 1 r < 0; omega), if_pos (by show ¬ (_ ∧ _ ∧ _ ≤ α 2 r); omega)]
                rfl
              · unfold nFits
                rw [if_neg (by omega), if_neg (by show ¬ α 1 r < 0; omega), if_pos (by show ¬ (_ ∧ _ ∧ _ ≤ α 2 r); omega)]
                exact (CI_st hC 2).1
          · first | refine z_aload_n dX11_fits_50 rfl ?_ | refine z_aload_nT dX11_fits_50 rfl ?_
            refine z_iconst dX11_fits_51 ?_
            refine h_Vi1 (Y' := M_X11_found) dX11_fits_52 zw_269 zw_271 zs_0 rfl ok_X11_found (by decide) rfl (Nat.le_of_ble_eq_true rfl) ⟨rfl, rfl⟩ (by decide) (by first | assumption | rfl) (c_found) (fun vv σ2 hq => ?_)
            obtain ⟨rfl, rfl⟩ := hq
            refine h_iret dX11_fits_55 rfl rfl rfl ?_
            refine ⟨?_, ?_, (CI_st hC 1).2⟩
            · unfold aFits
              rw [if_neg (by omega), if_pos (by show α 1 r < 0; omega)]
              rfl
            · unfold nFits
              rw [if_neg (by omega), if_pos (by show α 1 r < 0; omega)]
              exact (CI_st hC 1).1
        · exact bad _ rfl (by omega)
theorem r_fits {a r i n w : Int} (hM : MI σ α) (hO : OK α) (ha : zin a) (hr : zin r) (hi : zin i) (hn : zin n) (hw : zin w) : KI rc M_X12_fits [zR 40, zI a, zI r, zI i, zI n, zI w] σ (mP σ α (aFits α a r i n w) (nFits α a r i n w)) := by
  have h3 := OKc_3 hO
  have hR := hM.2.2.2.1
  have bad : ∀ σ2 : Mem, σ2 = σ → (¬ (0 ≤ a ∧ a < α 5 3) ∨ ¬ (0 ≤ r ∧ r ≤ 7) ∨ ¬ (1 ≤ n ∧ n ≤ 16) ∨ ¬ (0 ≤ w ∧ w ≤ 3)) → Z rc M_X12_fits 0 0 36 [some (zR 40), some (zI a), some (zI r), some (zI i), some (zI n), some (zI w), none, none, none, none, none] [] (hp σ2) (qI (mP σ α (aFits α a r i n w) (nFits α a r i n w))) := by
    intro σ2 e hb
    subst e
    refine z_ldc (n := -1000001) dX12_fits_36 zw_860 rfl ?_
    refine h_iret dX12_fits_38 rfl rfl rfl ?_
    exact ⟨by unfold aFits; rw [if_pos hb], by unfold nFits; rw [if_pos hb]; exact hM, fr.rf⟩
  refine K_of 5 (by decide) (Nat.le_of_ble_eq_true rfl) (show Z _ _ 0 0 0 [some (zR 40), some (zI a), some (zI r), some (zI i), some (zI n), some (zI w), none, none, none, none, none] [] _ _ from ?_)
  first | refine z_aload_n dX12_fits_0 rfl ?_ | refine z_aload_nT dX12_fits_0 rfl ?_
  refine z_iload_n dX12_fits_1 rfl ?_
  refine h_Vi1 (Y' := M_X12_isOne) dX12_fits_2 zw_975 zw_977 zs_38 rfl ok_X12_isOne (by decide) rfl (Nat.le_of_ble_eq_true rfl) ⟨rfl, rfl⟩ (by decide) (by first | assumption | rfl) (m_isOne ha (hR 3 (by omega)) h3) (fun vv σ2 hq => ?_)
  obtain ⟨hv1, rfl⟩ := hq
  refine z_if_eq (tgt := 36) dX12_fits_5 (by decide) (by omega) (fun b5 => ?_) (fun b5 => ?_)
  · exact bad _ rfl (by omega)
  · refine z_iload_n dX12_fits_8 rfl ?_
    refine h_Si1 (Y' := M_X12_isRow) dX12_fits_9 zw_854 zw_855 ok_X12_isRow (by decide) rfl (Nat.le_of_ble_eq_true rfl) ⟨rfl, rfl⟩ (by decide) (m_isRow hr) (fun vv σ2 hq => ?_)
    obtain ⟨hv2, rfl⟩ := hq
    refine z_if_eq (tgt := 36) dX12_fits_12 (by decide) (by omega) (fun b12 => ?_) (fun b12 => ?_)
    · exact bad _ rfl (by omega)
    · refine z_iload dX12_fits_15 rfl ?_
      refine z_iconst dX12_fits_17 ?_
      refine z_bipush dX12_fits_18 rfl ?_
      refine h_Si3 (Y' := M_X12_in) dX12_fits_20 zw_857 zw_858 ok_X12_in (by decide) rfl (Nat.le_of_ble_eq_true rfl) ⟨rfl, rfl⟩ (by decide) (m_within hn (by omega) (by omega)) (fun vv σ2 hq => ?_)
      obtain ⟨hv3, rfl⟩ := hq
      refine z_if_eq (tgt := 36) dX12_fits_23 (by decide) (by omega) (fun b23 => ?_) (fun b23 => ?_)
      · exact bad _ rfl (by omega)
      · refine z_iload dX12_fits_26 rfl ?_
        refine z_iconst dX12_fits_28 ?_
        refine z_iconst dX12_fits_29 ?_
        refine h_Si3 (Y' := M_X12_in) dX12_fits_30 zw_857 zw_858 ok_X12_in (by decide) rfl (Nat.le_of_ble_eq_true rfl) ⟨rfl, rfl⟩ (by decide) (m_within hw (by omega) (by omega)) (fun vv σ2 hq => ?_)
        obtain ⟨hv4, rfl⟩ := hq
        refine z_if_ne (tgt := 39) dX12_fits_33 (by decide) (by omega) (fun b33 => ?_) (fun b33 => ?_)
        · have hk := OKc_p hO (a := a) (by omega) (by omega)
          obtain ⟨p, rfl⟩ : ∃ p : Nat, a = (p : Int) := ⟨a.toNat, by omega⟩
          obtain ⟨r, rfl⟩ : ∃ p : Nat, r = (p : Int) := ⟨r.toNat, by omega⟩
          obtain ⟨n, rfl⟩ : ∃ p : Nat, n = (p : Int) := ⟨n.toNat, by omega⟩
          obtain ⟨w, rfl⟩ : ∃ p : Nat, w = (p : Int) := ⟨w.toNat, by omega⟩
          have o2 := (hO.2.1.1 r (by omega)).2
          first | refine z_aload_n dX12_fits_39 rfl ?_ | refine z_aload_nT dX12_fits_39 rfl ?_
          refine z_iload_n dX12_fits_40 rfl ?_
          refine z_iload_n dX12_fits_41 rfl ?_
          refine z_iload dX12_fits_42 rfl ?_
          obtain ⟨σ1, rfl⟩ : ∃ z, z = σ2 := ⟨_, rfl⟩
          refine h_Vi3 (Y' := M_X12_takeOut) dX12_fits_44 zw_1052 zw_1054 zs_44 rfl ok_X12_takeOut (by decide) rfl (Nat.le_of_ble_eq_true rfl) ⟨rfl, rfl⟩ (by decide) (by first | assumption | rfl) (m_takeOut hM hO (by omega) hi (by omega) (by omega)) (fun vv σ2 hq => ?_)
          rcases hq with ⟨f1, rfl, rfl⟩ | ⟨f1, f2, rfl, rfl⟩ | ⟨f1, f2, rfl, f3, f4⟩
          · refine z_istore dX12_fits_47 (by decide) rfl ?_
            refine z_iload dX12_fits_49 rfl ?_
            refine z_if_ge (tgt := 57) dX12_fits_51 (by decide) (by omega) (fun b51 => ?_) (fun b51 => ?_)
            · omega
            · refine z_iload dX12_fits_54 rfl ?_
              refine h_iret dX12_fits_56 rfl rfl rfl ?_
              refine ⟨?_, ?_, (MI_st hM 1).2⟩
              · unfold aFits
                rw [if_neg (by omega), if_pos (by show α 1 r < 0; omega)]
              · unfold nFits
                rw [if_neg (by omega), if_pos (by show α 1 r < 0; omega)]
                exact (MI_st hM 1).1
          · refine z_istore dX12_fits_47 (by decide) rfl ?_
            refine z_iload dX12_fits_49 rfl ?_
            refine z_if_ge (tgt := 57) dX12_fits_51 (by decide) (by omega) (fun b51 => ?_) (fun b51 => ?_)
            · omega
            · refine z_iload dX12_fits_54 rfl ?_
              refine h_iret dX12_fits_56 rfl rfl rfl ?_
              refine ⟨?_, ?_, (MI_st hM 2).2⟩
              · unfold aFits
                rw [if_neg (by omega), if_neg (by show ¬ α 1 r < 0; omega), if_pos (by show ¬ (_ ∧ _ ∧ _ ≤ α 2 r); omega)]
              · unfold nFits
                rw [if_neg (by omega), if_neg (by show ¬ α 1 r < 0; omega), if_pos (by show ¬ (_ ∧ _ ∧ _ ≤ α 2 r); omega)]
                exact (MI_st hM 2).1
          · obtain ⟨i, rfl⟩ : ∃ p : Nat, i = (p : Int) := ⟨i.toNat, by omega⟩
            have f3 : ∀ k : Nat, (k : Int) < n → σ2 52 k = α 3 (40 * r + i + k) := f3
            have hLH := fLH w
            have step : ∀ (v : Nat) (σ' : Mem) (Q : Int → Mem → Prop) (x6 x7 x8 : Option ZV) (x9 : Option ZV) (x10 : Option ZV) (S : List ZV), (Z rc M_X12_fits 0 0 160 [some (zR 40), some (zI (p : Int)), some (zI (r : Int)), some (zI (i : Int)), some (zI (n : Int)), some (zI (w : Int)), x6, x7, x8, x9, x10] (zI ((chI w : Nat) : Int) :: S) (hp σ') (qI Q)) → Z rc M_X12_fits 0 0 126 [some (zR 40), some (zI (p : Int)), some (zI (r : Int)), some (zI (i : Int)), some (zI (n : Int)), some (zI (w : Int)), x6, x7, x8, x9, x10] S (hp σ') (qI Q) := by
              intro v σ' Q x6 x7 x8 x9 x10 S hz
              have hw2 : w = 0 ∨ w = 1 ∨ w = 2 ∨ w = 3 := by omega
              rcases hw2 with rfl | rfl | rfl | rfl
              · refine z_iload dX12_fits_126 rfl ?_
                refine z_if_ne (tgt := 136) dX12_fits_128 (by decide) (by omega) (fun b128 => ?_) (fun b128 => ?_)
                · omega
                · refine z_bipush dX12_fits_131 rfl ?_
                  refine z_goto (tgt := 160) dX12_fits_133 (by decide) ?_
                  exact hz
              · refine z_iload dX12_fits_126 rfl ?_
                refine z_if_ne (tgt := 136) dX12_fits_128 (by decide) (by omega) (fun b128 => ?_) (fun b128 => ?_)
                · refine z_iload dX12_fits_136 rfl ?_
                  refine z_iconst dX12_fits_138 ?_
                  refine z_icmp_ne (tgt := 147) dX12_fits_139 (by decide) (by omega) (by omega) (fun b139 => ?_) (fun b139 => ?_)
                  · omega
                  · refine z_bipush dX12_fits_142 rfl ?_
                    refine z_goto (tgt := 160) dX12_fits_144 (by decide) ?_
                    exact hz
                · omega
              · refine z_iload dX12_fits_126 rfl ?_
                refine z_if_ne (tgt := 136) dX12_fits_128 (by decide) (by omega) (fun b128 => ?_) (fun b128 => ?_)
                · refine z_iload dX12_fits_136 rfl ?_
                  refine z_iconst dX12_fits_138 ?_
                  refine z_icmp_ne (tgt := 147) dX12_fits_139 (by decide) (by omega) (by omega) (fun b139 => ?_) (fun b139 => ?_)
                  · refine z_iload dX12_fits_147 rfl ?_
                    refine z_iconst dX12_fits_149 ?_
                    refine z_icmp_ne (tgt := 158) dX12_fits_150 (by decide) (by omega) (by omega) (fun b150 => ?_) (fun b150 => ?_)
                    · omega
                    · refine z_bipush dX12_fits_153 rfl ?_
                      refine z_goto (tgt := 160) dX12_fits_155 (by decide) ?_
                      exact hz
                  · omega
                · omega
              · refine z_iload dX12_fits_126 rfl ?_
                refine z_if_ne (tgt := 136) dX12_fits_128 (by decide) (by omega) (fun b128 => ?_) (fun b128 => ?_)
                · refine z_iload dX12_fits_136 rfl ?_
                  refine z_iconst dX12_fits_138 ?_
                  refine z_icmp_ne (tgt := 147) dX12_fits_139 (by decide) (by omega) (by omega) (fun b139 => ?_) (fun b139 => ?_)
                  · refine z_iload dX12_fits_147 rfl ?_
                    refine z_iconst dX12_fits_149 ?_
                    refine z_icmp_ne (tgt := 158) dX12_fits_150 (by decide) (by omega) (by omega) (fun b150 => ?_) (fun b150 => ?_)
                    · refine z_bipush dX12_fits_158 rfl ?_
                      exact hz
                    · omega
                  · omega
                · omega
            have loop : ∀ m v : Nat, (v : Int) + m = fHi w + 1 → fLo w ≤ v → ∀ (σ' : Mem) (acc : Int), fm 47 σ2 σ' → Z rc M_X12_fits 0 0 111 [some (zR 40), some (zI (p : Int)), some (zI (r : Int)), some (zI (i : Int)), some (zI (n : Int)), some (zI (w : Int)), some (zI 0), some (zI (fLo w)), some (zI (fHi w)), some (zI acc), some (zI (v : Int))] [] (hp σ') (qI (fun x σ' => x = fiL (fiG α p r i n w) m v acc ∧ MI σ' (rowsU α (α 1) (α 2) (α 3) 0) ∧ fr 40 15 σ1 σ')) := by
              intro m
              induction m with
              | zero =>
                intro v hv hl σ' acc i2
                refine z_iload dX12_fits_111 rfl ?_
                refine z_iload dX12_fits_113 rfl ?_
                refine z_icmp_gt (tgt := 193) dX12_fits_115 (by decide) (by omega) (by omega) (fun b115 => ?_) (fun b115 => ?_)
                · first | refine z_aload_n dX12_fits_193 rfl ?_ | refine z_aload_nT dX12_fits_193 rfl ?_
                  refine z_iload dX12_fits_194 rfl ?_
                  refine h_Vi1 (Y' := M_X12_done) dX12_fits_196 zw_866 zw_868 zs_27 rfl ok_X12_done (by decide) rfl (Nat.le_of_ble_eq_true rfl) ⟨rfl, rfl⟩ (by decide) (by first | assumption | rfl) (m_done) (fun vv σ2 hq => ?_)
                  obtain ⟨rfl, rfl⟩ := hq
                  have hc0 : MI σ2 α := hM.keep (fun o j _ _ h2 => f4 o j (by unfold mse at h2; omega))
                  have hc2 := MI47 hc0 i2
                  have hc3 := MI_st hc2.1 0
                  refine h_iret dX12_fits_199 rfl rfl rfl ?_
                  exact ⟨rfl, hc3.1, fun o j h => by rw [hc3.2 o j h, hc2.2 o j h, f4 o j (by omega)]⟩
                · omega
              | succ m ih =>
                intro v hv hl σ' acc i2
                have hR' : mR σ' 45 (α 5) := fun i hi => by rw [i2 45 i (by omega), f4 45 i (by omega)]; exact hR i hi
                have hk2 := cok_chg (v := (v : Int)) (p := p) (w := w) hk (by omega) (by omega) hl (by omega)
                have hgb := fiG_b (α := α) (p := p) (r := r) (i := i) (n := n) (w := w) (v := v)
                have hch : chI w ≤ 24 := by
                  unfold chI
                  split
                  · omega
                  · split
                    · omega
                    · split <;> omega
                rw [fiL_s]
                refine z_iload dX12_fits_111 rfl ?_
                refine z_iload dX12_fits_113 rfl ?_
                refine z_icmp_gt (tgt := 193) dX12_fits_115 (by decide) (by omega) (by omega) (fun b115 => ?_) (fun b115 => ?_)
                · omega
                · first | refine z_aload_n dX12_fits_118 rfl ?_ | refine z_aload_nT dX12_fits_118 rfl ?_
                  obtain ⟨σ4, rfl⟩ : ∃ z, z = σ2 := ⟨_, rfl⟩
                  refine h_Vv0 (Y' := M_X12_begin) dX12_fits_119 zw_999 zw_1001 zs_39 rfl ok_X12_begin (by decide) rfl (Nat.le_of_ble_eq_true rfl) ⟨rfl, rfl⟩ (by decide) (by first | assumption | rfl) (m_begin hR') (fun σ2 hq => ?_)
                  obtain ⟨j1, j2⟩ := hq
                  have j2 := i2.tr j2
                  first | refine z_aload_n dX12_fits_122 rfl ?_ | refine z_aload_nT dX12_fits_122 rfl ?_
                  refine h_getr dX12_fits_123 fl_X12_28 (by first | assumption | rfl) (by rfl) ?_
                  refine step v _ _ _ _ _ _ _ _ ?_
                  refine z_iload_n dX12_fits_160 rfl ?_
                  refine z_iadd dX12_fits_161 ?_
                  refine z_iload dX12_fits_162 rfl ?_
                  refine h_iast dX12_fits_164 (by first | assumption | rfl) (by repeat' first | apply zc_add | apply zc_mul | with_reducible exact zc_var _ | exact zc_lit _) (by omega) (by decide) ?_
                  refine z_iload dX12_fits_165 rfl ?_
                  first | refine z_aload_n dX12_fits_167 rfl ?_ | refine z_aload_nT dX12_fits_167 rfl ?_
                  have jj : mR (zu σ2 47 (chI w + p) (v : Int)) 47 (zup (α 5) (chI w + p) (v : Int)) := by
                    intro i hi
                    unfold zup
                    by_cases h2 : i = chI w + p
                    · subst h2
                      rw [zu_eq, if_pos rfl]
                    · rw [zu_j h2, if_neg h2]
                      exact j1 i hi
                  have jf : fm 47 σ2 (zu σ2 47 (chI w + p) (v : Int)) := fun o j h => zu_o h
                  have jf := j2.tr jf
                  obtain ⟨σ3, h3e⟩ : ∃ z, z = zu σ2 47 (chI w + p) (v : Int) := ⟨_, rfl⟩
                  rw [← h3e] at jj jf ⊢
                  refine z_iload dX12_fits_168 rfl ?_
                  refine h_Vi1 (Y' := M_X12_isSo) dX12_fits_170 zw_1056 zw_1058 zs_45 rfl ok_X12_isSo (by decide) rfl (Nat.le_of_ble_eq_true rfl) ⟨rfl, rfl⟩ (by decide) (by first | assumption | rfl) (m_isSo jj hk2 (by omega) (fun j hj => by rw [jf 52 j (by omega), f3 j (by omega)]; exact hO.2.1.2 _ (by omega))) (fun vv σ2 hq => ?_)
                  obtain ⟨g1, g2⟩ := hq
                  have g2 := jf.tr g2
                  have g3 : vv = fiG α p r i n w v := by
                    rw [g1]
                    unfold fiG
                    exact soF_congr _ _ (fun j _ hj => (jf 52 j (by omega)).trans (f3 j (by omega)))
                  subst g3
                  refine z_if_eq (tgt := 183) dX12_fits_173 (by decide) (by omega) (fun b173 => ?_) (fun b173 => ?_)
                  · rw [if_pos b173]
                    refine z_iconst dX12_fits_183 ?_
                    refine z_ior acc dX12_fits_184 (by show Int32.ofInt acc ||| 0 = _; exact Int32.or_zero) ?_
                    refine z_istore dX12_fits_185 (by decide) rfl ?_
                    refine z_iinc dX12_fits_187 rfl (by decide) rfl ?_
                    refine z_goto (tgt := 111) dX12_fits_190 (by decide) ?_
                    have := ih (v + 1) (by omega) (by omega) σ2 acc g2
                    rw [nsucc] at this
                    exact this
                  · rw [if_neg b173]
                    refine z_iconst dX12_fits_176 ?_
                    refine z_iload dX12_fits_177 rfl ?_
                    refine z_ishl (Int32.ofInt 1 <<< (Int32.ofInt (v : Int) &&& 31)).toInt dX12_fits_179 (Int32.ofInt_toInt _).symm ?_
                    refine z_goto (tgt := 184) dX12_fits_180 (by decide) ?_
                    refine z_ior (bitU acc (v : Int)) dX12_fits_184 (by unfold bitU; rw [Int32.ofInt_toInt, Int32.ofInt_toInt]) ?_
                    refine z_istore dX12_fits_185 (by decide) rfl ?_
                    refine z_iinc dX12_fits_187 rfl (by decide) rfl ?_
                    refine z_goto (tgt := 111) dX12_fits_190 (by decide) ?_
                    have := ih (v + 1) (by omega) (by omega) σ2 (bitU acc (v : Int)) g2
                    rw [nsucc] at this
                    exact this
            have fin : ∀ S : Prop, Z rc M_X12_fits 0 0 111 [some (zR 40), some (zI (p : Int)), some (zI (r : Int)), some (zI (i : Int)), some (zI (n : Int)), some (zI (w : Int)), some (zI 0), some (zI (fLo w)), some (zI (fHi w)), some (zI 0), some (zI (fLo w))] [] (hp σ2) (qI (mP σ1 α (aFits α p r i n w) (nFits α p r i n w))) := by
              intro _
              have e1 : fLo w = (((fLo w).toNat : Nat) : Int) := by omega
              have := loop (fHi w + 1 - fLo w).toNat (fLo w).toNat (by omega) (by omega) σ2 0 fm.rf
              rw [← e1] at this
              refine Z_mono this (fun x σ' hq => ?_)
              refine ⟨?_, ?_, hq.2.2⟩
              · unfold aFits
                rw [if_neg (by omega), if_neg (by show ¬ α 1 r < 0; omega), if_neg (by show ¬ ¬ (_ ∧ _ ∧ _ ≤ α 2 r); omega)]
                exact hq.1
              · unfold nFits
                rw [if_neg (by omega), if_neg (by show ¬ α 1 r < 0; omega), if_neg (by show ¬ ¬ (_ ∧ _ ∧ _ ≤ α 2 r); omega)]
                exact hq.2.1
            have fin := fin True
            clear loop step
            refine z_istore dX12_fits_47 (by decide) rfl ?_
            refine z_iload dX12_fits_49 rfl ?_
            refine z_if_ge (tgt := 57) dX12_fits_51 (by decide) (by omega) (fun b51 => ?_) (fun b51 => ?_)
            · have hw2 : w = 0 ∨ w = 1 ∨ w = 2 ∨ w = 3 := by omega
              rcases hw2 with rfl | rfl | rfl | rfl
              · refine z_iload dX12_fits_57 rfl ?_
                refine z_iconst dX12_fits_59 ?_
                refine z_icmp_ne (tgt := 67) dX12_fits_60 (by decide) (by omega) (by omega) (fun b60 => ?_) (fun b60 => ?_)
                · refine z_iconst dX12_fits_67 ?_
                  refine z_istore dX12_fits_68 (by decide) rfl ?_
                  refine z_iload dX12_fits_70 rfl ?_
                  refine z_if_ne (tgt := 80) dX12_fits_72 (by decide) (by omega) (fun b72 => ?_) (fun b72 => ?_)
                  · omega
                  · refine z_bipush dX12_fits_75 rfl ?_
                    refine z_goto (tgt := 102) dX12_fits_77 (by decide) ?_
                    refine z_istore dX12_fits_102 (by decide) rfl ?_
                    refine z_iconst dX12_fits_104 ?_
                    refine z_istore dX12_fits_105 (by decide) rfl ?_
                    refine z_iload dX12_fits_107 rfl ?_
                    refine z_istore dX12_fits_109 (by decide) rfl ?_
                    exact fin
                · omega
              · refine z_iload dX12_fits_57 rfl ?_
                refine z_iconst dX12_fits_59 ?_
                refine z_icmp_ne (tgt := 67) dX12_fits_60 (by decide) (by omega) (by omega) (fun b60 => ?_) (fun b60 => ?_)
                · refine z_iconst dX12_fits_67 ?_
                  refine z_istore dX12_fits_68 (by decide) rfl ?_
                  refine z_iload dX12_fits_70 rfl ?_
                  refine z_if_ne (tgt := 80) dX12_fits_72 (by decide) (by omega) (fun b72 => ?_) (fun b72 => ?_)
                  · refine z_iload dX12_fits_80 rfl ?_
                    refine z_iconst dX12_fits_82 ?_
                    refine z_icmp_ne (tgt := 90) dX12_fits_83 (by decide) (by omega) (by omega) (fun b83 => ?_) (fun b83 => ?_)
                    · omega
                    · refine z_iconst dX12_fits_86 ?_
                      refine z_goto (tgt := 102) dX12_fits_87 (by decide) ?_
                      refine z_istore dX12_fits_102 (by decide) rfl ?_
                      refine z_iconst dX12_fits_104 ?_
                      refine z_istore dX12_fits_105 (by decide) rfl ?_
                      refine z_iload dX12_fits_107 rfl ?_
                      refine z_istore dX12_fits_109 (by decide) rfl ?_
                      exact fin
                  · omega
                · omega
              · refine z_iload dX12_fits_57 rfl ?_
                refine z_iconst dX12_fits_59 ?_
                refine z_icmp_ne (tgt := 67) dX12_fits_60 (by decide) (by omega) (by omega) (fun b60 => ?_) (fun b60 => ?_)
                · omega
                · refine z_iconst dX12_fits_63 ?_
                  refine z_goto (tgt := 68) dX12_fits_64 (by decide) ?_
                  refine z_istore dX12_fits_68 (by decide) rfl ?_
                  refine z_iload dX12_fits_70 rfl ?_
                  refine z_if_ne (tgt := 80) dX12_fits_72 (by decide) (by omega) (fun b72 => ?_) (fun b72 => ?_)
                  · refine z_iload dX12_fits_80 rfl ?_
                    refine z_iconst dX12_fits_82 ?_
                    refine z_icmp_ne (tgt := 90) dX12_fits_83 (by decide) (by omega) (by omega) (fun b83 => ?_) (fun b83 => ?_)
                    · refine z_iload dX12_fits_90 rfl ?_
                      refine z_iconst dX12_fits_92 ?_
                      refine z_icmp_ne (tgt := 100) dX12_fits_93 (by decide) (by omega) (by omega) (fun b93 => ?_) (fun b93 => ?_)
                      · omega
                      · refine z_iconst dX12_fits_96 ?_
                        refine z_goto (tgt := 102) dX12_fits_97 (by decide) ?_
                        refine z_istore dX12_fits_102 (by decide) rfl ?_
                        refine z_iconst dX12_fits_104 ?_
                        refine z_istore dX12_fits_105 (by decide) rfl ?_
                        refine z_iload dX12_fits_107 rfl ?_
                        refine z_istore dX12_fits_109 (by decide) rfl ?_
                        exact fin
                    · omega
                  · omega
              · refine z_iload dX12_fits_57 rfl ?_
                refine z_iconst dX12_fits_59 ?_
                refine z_icmp_ne (tgt := 67) dX12_fits_60 (by decide) (by omega) (by omega) (fun b60 => ?_) (fun b60 => ?_)
                · refine z_iconst dX12_fits_67 ?_
                  refine z_istore dX12_fits_68 (by decide) rfl ?_
                  refine z_iload dX12_fits_70 rfl ?_
                  refine z_if_ne (tgt := 80) dX12_fits_72 (by decide) (by omega) (fun b72 => ?_) (fun b72 => ?_)
                  · refine z_iload dX12_fits_80 rfl ?_
                    refine z_iconst dX12_fits_82 ?_
                    refine z_icmp_ne (tgt := 90) dX12_fits_83 (by decide) (by omega) (by omega) (fun b83 => ?_) (fun b83 => ?_)
                    · refine z_iload dX12_fits_90 rfl ?_
                      refine z_iconst dX12_fits_92 ?_
                      refine z_icmp_ne (tgt := 100) dX12_fits_93 (by decide) (by omega) (by omega) (fun b93 => ?_) (fun b93 => ?_)
                      · refine z_bipush dX12_fits_100 rfl ?_
                        refine z_istore dX12_fits_102 (by decide) rfl ?_
                        refine z_iconst dX12_fits_104 ?_
                        refine z_istore dX12_fits_105 (by decide) rfl ?_
                        refine z_iload dX12_fits_107 rfl ?_
                        refine z_istore dX12_fits_109 (by decide) rfl ?_
                        exact fin
                      · omega
                    · omega
                  · omega
                · omega
            · omega
        · exact bad _ rfl (by omega)
end
