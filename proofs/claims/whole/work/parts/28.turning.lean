/-! turning -/
theorem cok_lean {B l : Int} {t : Nat → Int} {p : Nat} (h : cok B t) (hp5 : p < 5) (h1 : 0 ≤ l) (h2 : l ≤ 2) : cok B (zup t (19 + p) l) := by
  have e : ∀ i, i ≠ 19 + p → zup t (19 + p) l i = t i := fun i hi => zup_ne hi
  obtain ⟨a8, a3, a0, a1, a2, a4, a5, a6, a7, hq⟩ := h
  refine ⟨?_, ?_, ?_, ?_, ?_, ?_, ?_, ?_, ?_, ?_⟩
  · rw [e 8 (by omega)]; exact a8
  · rw [e 3 (by omega)]; exact a3
  · rw [e 0 (by omega)]; exact a0
  · rw [e 1 (by omega)]; exact a1
  · rw [e 2 (by omega)]; exact a2
  · rw [e 4 (by omega)]; exact a4
  · rw [e 5 (by omega)]; exact a5
  · rw [e 6 (by omega)]; exact a6
  · rw [e 7 (by omega)]; exact a7
  · intro q hq2
    rw [e 3 (by omega)] at hq2
    obtain ⟨q1, q2, q3, q4⟩ := hq q hq2
    rw [e (9 + q) (by omega), e (14 + q) (by omega), e (24 + q) (by omega)]
    refine ⟨q1, q2, ?_, q4⟩
    by_cases hqp : q = p
    · subst hqp
      unfold zup
      rw [if_pos rfl]
      exact ⟨h1, h2⟩
    · rw [e (19 + q) (by omega)]
      exact q3
def tuV (t : Nat → Int) (d n : Nat) : Int := gnF (zup t (19 + n / 3) ((n % 3 : Nat) : Int)) d 1
def tuM (t : Nat → Int) (d : Nat) : Nat → Int
  | 0 => -1
  | n + 1 => if t (19 + n / 3) = ((n % 3 : Nat) : Int) then tuM t d n else if tuM t d n < tuV t d n then tuV t d n else tuM t d n
def tuC (t : Nat → Int) (d : Nat) : Nat → Int
  | 0 => NONE
  | n + 1 => if t (19 + n / 3) = ((n % 3 : Nat) : Int) then tuC t d n else if tuM t d n < tuV t d n then (n : Int) else tuC t d n
theorem tuM_s {t : Nat → Int} {d n : Nat} : tuM t d (n + 1) = if t (19 + n / 3) = ((n % 3 : Nat) : Int) then tuM t d n else if tuM t d n < tuV t d n then tuV t d n else tuM t d n := rfl
theorem tuC_s {t : Nat → Int} {d n : Nat} : tuC t d (n + 1) = if t (19 + n / 3) = ((n % 3 : Nat) : Int) then tuC t d n else if tuM t d n < tuV t d n then (n : Int) else tuC t d n := rfl
theorem tuV_in {B : Int} {t : Nat → Int} {d n : Nat} (h : cok B t) (hn : n < 15) : 0 ≤ tuV t d n ∧ tuV t d n ≤ 9999 :=
  (gnF_ok (cok_lean (l := ((n % 3 : Nat) : Int)) (p := n / 3) h (by omega) (by omega) (by omega)) d).2.2.2.1
theorem tu_in {B : Int} {t : Nat → Int} {d : Nat} (h : cok B t) : ∀ n, n ≤ 15 → (tuC t d n = NONE ∧ tuM t d n = -1) ∨ (0 ≤ tuC t d n ∧ tuC t d n < n ∧ 0 ≤ tuM t d n ∧ tuM t d n ≤ 9999)
  | 0, _ => Or.inl ⟨rfl, rfl⟩
  | n + 1, hn => by
    have ih := tu_in (d := d) h n (by omega)
    have hv := tuV_in (d := d) h (n := n) (by omega)
    rw [tuC_s, tuM_s]
    by_cases h1 : t (19 + n / 3) = ((n % 3 : Nat) : Int)
    · rw [if_pos h1, if_pos h1]; omega
    · rw [if_neg h1, if_neg h1]
      by_cases h2 : tuM t d n < tuV t d n
      · rw [if_pos h2, if_pos h2]; omega
      · rw [if_neg h2, if_neg h2]; omega
section
variable {rc : ZRC} {σ α : Mem}
def aTurning (α : Mem) (d w : Int) : Int := if α 5 8 = 0 then STATE else if ¬ (0 ≤ d ∧ d ≤ 60) ∨ ¬ (0 ≤ w ∧ w ≤ 2) then BAD else
  if tuC (α 5) d.toNat (3 * α 5 3).toNat = NONE then NONE else if w = 0 then tuC (α 5) d.toNat (3 * α 5 3).toNat / 3 else if w = 1 then tuC (α 5) d.toNat (3 * α 5 3).toNat % 3 else tuM (α 5) d.toNat (3 * α 5 3).toNat
theorem c_purseTurned {p l d : Nat} {t : Nat → Int} (hR : cR σ 8 t) (hk : cok 999 t) (hpp : (p : Int) < t 3) (hl : l ≤ 2) (hd : d ≤ 60) : KI rc M_X11_purseTurned [zR 0, zI (p : Int), zI (l : Int), zI (d : Int)] σ (fun v σ' => v = gnF (zup t (19 + p) (l : Int)) d 1 ∧ fr 13 5 σ σ') := by
  have h3 := hk.2.1
  have hk2 := cok_lean (l := (l : Int)) (p := p) hk (by omega) (by omega) (by omega)
  refine K_of 0 (by decide) (Nat.le_of_ble_eq_true rfl) (show Z _ _ 0 0 0 [some (zR 0), some (zI (p : Int)), some (zI (l : Int)), some (zI (d : Int))] [] _ _ from ?_)
  first | refine z_aload_n dX11_purseTurned_0 rfl ?_ | refine z_aload_nT dX11_purseTurned_0 rfl ?_
  refine h_getr dX11_purseTurned_1 fl_X11_30 (by first | assumption | rfl) (by rfl) ?_
  first | refine z_aload_n dX11_purseTurned_4 rfl ?_ | refine z_aload_nT dX11_purseTurned_4 rfl ?_
  refine h_getr dX11_purseTurned_5 fl_X11_26 (by first | assumption | rfl) (by rfl) ?_
  refine h_Vv1 (Y' := M_X2_become) dX11_purseTurned_8 zw_401 zw_402 zw_403 rfl ok_X2_become (by decide) rfl (Nat.le_of_ble_eq_true rfl) ⟨rfl, rfl⟩ (by decide) (by first | assumption | rfl) (k_become (Or.inr (Or.inl rfl)) (Or.inl rfl) (by decide) hR hk.2.1 (Or.inr hk.1)) (fun σ2 hq => ?_)
  obtain ⟨j1, j2⟩ := hq
  first | refine z_aload_n dX11_purseTurned_11 rfl ?_ | refine z_aload_nT dX11_purseTurned_11 rfl ?_
  refine h_getr dX11_purseTurned_12 fl_X11_30 (by first | assumption | rfl) (by rfl) ?_
  refine h_getr dX11_purseTurned_15 fl_X11_209 (by first | assumption | rfl) (by rfl) ?_
  refine z_iload_n dX11_purseTurned_18 rfl ?_
  refine z_iload_n dX11_purseTurned_19 rfl ?_
  refine h_iast dX11_purseTurned_20 (by first | assumption | rfl) (by repeat' first | apply zc_add | apply zc_mul | with_reducible exact zc_var _ | exact zc_lit _) (by omega) (by decide) ?_
  first | refine z_aload_n dX11_purseTurned_21 rfl ?_ | refine z_aload_nT dX11_purseTurned_21 rfl ?_
  refine h_getr dX11_purseTurned_22 fl_X11_30 (by first | assumption | rfl) (by rfl) ?_
  refine z_iload_n dX11_purseTurned_25 rfl ?_
  refine h_Vv1 (Y' := M_X2_passAll) dX11_purseTurned_26 zw_514 zw_515 zw_516 rfl ok_X2_passAll (by decide) rfl (Nat.le_of_ble_eq_true rfl) ⟨rfl, rfl⟩ (by decide) (by first | assumption | rfl) (k_passAll (Or.inr (Or.inl rfl)) (cR_up (k := 13) (i := 2) (p := p) (x := (l : Int)) j1 h3 hpp (by omega) rfl) hk2 (by omega) (by omega)) (fun σ2 hq => ?_)
  obtain ⟨e1, e2⟩ := hq
  first | refine z_aload_n dX11_purseTurned_29 rfl ?_ | refine z_aload_nT dX11_purseTurned_29 rfl ?_
  refine h_getr dX11_purseTurned_30 fl_X11_30 (by first | assumption | rfl) (by rfl) ?_
  refine h_geti dX11_purseTurned_33 fl_X11_194 (by first | assumption | rfl) (by rfl) ?_
  refine h_iret dX11_purseTurned_36 rfl rfl rfl ?_
  exact ⟨e1.2.2.2.1, fun o j h => by rw [e2 o j h, zu_o (by omega), j2 o j h]⟩
def tuA (t : Nat → Int) (d n : Nat) (x : Int) : Int := if tuC t d n = NONE then NONE else x
theorem c_turning {d w : Int} (hC : CI σ α) (hO : OK α) (hd : zin d) (hw : zin w) : KI rc M_X11_turning [zR 0, zI d, zI w] σ (cP σ α (aTurning α d w) α) := by
  have h3 := OKc_3 hO
  have h8 := OKc_8 hO
  have hNN : (NONE : Int) = -1000000 := rfl
  have hR := hC.2.2.2.1
  have e8 := hR.1
  have bad : ∀ σ2 : Mem, σ2 = σ → ¬ α 5 8 = 0 → (¬ (0 ≤ d ∧ d ≤ 60) ∨ ¬ (0 ≤ w ∧ w ≤ 2)) → Z rc M_X11_turning 0 0 29 [some (zR 0), some (zI d), some (zI w), none, none, none, none, none, none] [] (hp σ2) (qI (cP σ α (aTurning α d w) α)) := by
    intro σ2 e hn hb
    subst e
    refine z_ldc (n := -1000001) dX11_turning_29 zw_268 rfl ?_
    refine h_iret dX11_turning_31 rfl rfl rfl ?_
    exact ⟨by unfold aTurning; rw [if_neg hn, if_pos hb], hC, fr.rf⟩
  refine K_of 6 (by decide) (Nat.le_of_ble_eq_true rfl) (show Z _ _ 0 0 0 [some (zR 0), some (zI d), some (zI w), none, none, none, none, none, none] [] _ _ from ?_)
  first | refine z_aload_n dX11_turning_0 rfl ?_ | refine z_aload_nT dX11_turning_0 rfl ?_
  refine h_getr dX11_turning_1 fl_X11_26 (by first | assumption | rfl) (by rfl) ?_
  refine h_geti dX11_turning_4 fl_X11_176 (by first | assumption | rfl) (by rfl) ?_
  refine z_if_ne (tgt := 13) dX11_turning_7 (by decide) (by omega) (fun b7 => ?_) (fun b7 => ?_)
  · have hk := OKc_s hO (by omega)
    refine z_iload_n dX11_turning_13 rfl ?_
    refine h_Si1 (Y' := M_X11_isAhead) dX11_turning_14 zw_507 zw_508 ok_X11_isAhead (by decide) rfl (Nat.le_of_ble_eq_true rfl) ⟨rfl, rfl⟩ (by decide) (c_isAhead hd) (fun vv σ2 hq => ?_)
    obtain ⟨hv1, rfl⟩ := hq
    refine z_if_eq (tgt := 29) dX11_turning_17 (by decide) (by omega) (fun b17 => ?_) (fun b17 => ?_)
    · exact bad _ rfl (by omega) (by omega)
    · refine z_iload_n dX11_turning_20 rfl ?_
      refine z_iconst dX11_turning_21 ?_
      refine z_iconst dX11_turning_22 ?_
      refine h_Si3 (Y' := M_X11_isWithin) dX11_turning_23 zw_265 zw_266 ok_X11_isWithin (by decide) rfl (Nat.le_of_ble_eq_true rfl) ⟨rfl, rfl⟩ (by decide) (c_within hw (by omega) (by omega)) (fun vv σ2 hq => ?_)
      obtain ⟨hv2, rfl⟩ := hq
      refine z_if_ne (tgt := 32) dX11_turning_26 (by decide) (by omega) (fun b26 => ?_) (fun b26 => ?_)
      · obtain ⟨d, rfl⟩ : ∃ x : Nat, d = (x : Int) := ⟨d.toNat, by omega⟩
        obtain ⟨m, hm⟩ : ∃ x : Nat, α 5 3 = (x : Int) := ⟨(α 5 3).toNat, by omega⟩
        have fin : ∀ (σ' : Mem) (x7 x8 : Option ZV), fr 13 5 σ2 σ' → Z rc M_X11_turning 0 0 127 [some (zR 0), some (zI (d : Int)), some (zI w), some (zI (tuA (α 5) d (3 * m) (tuM (α 5) d (3 * m)))), some (zI (tuA (α 5) d (3 * m) (tuC (α 5) d (3 * m) / 3))), some (zI (tuA (α 5) d (3 * m) (tuC (α 5) d (3 * m) % 3))), some (zI (m : Int)), x7, x8] [] (hp σ') (qI (cP σ2 α (aTurning α (d : Int) w) α)) := by
          intro σ' x7 x8 i2
          have ht : ∀ x y z : Int, aTurning α (d : Int) w = (if w = 0 then tuA (α 5) d (3 * m) (tuC (α 5) d (3 * m) / 3) else if w = 1 then tuA (α 5) d (3 * m) (tuC (α 5) d (3 * m) % 3) else tuA (α 5) d (3 * m) (tuM (α 5) d (3 * m))) := by
            intro _ _ _
            unfold aTurning tuA
            rw [if_neg (by omega), if_neg (by omega)]
            have e1 : (3 * α 5 3).toNat = 3 * m := by omega
            have e2 : ((d : Int)).toNat = d := by omega
            rw [e1, e2]
            by_cases c : tuC (α 5) d (3 * m) = NONE
            · rw [if_pos c, if_pos c, if_pos c, if_pos c]
              split
              · rfl
              · split <;> rfl
            · rw [if_neg c, if_neg c, if_neg c, if_neg c]
          have ht2 := ht 0 0 0
          refine z_iload_n dX11_turning_127 rfl ?_
          refine z_if_ne (tgt := 134) dX11_turning_128 (by decide) (by omega) (fun b128 => ?_) (fun b128 => ?_)
          · refine z_iload_n dX11_turning_134 rfl ?_
            refine z_iconst dX11_turning_135 ?_
            refine z_icmp_ne (tgt := 144) dX11_turning_136 (by decide) (by omega) (by omega) (fun b136 => ?_) (fun b136 => ?_)
            · refine z_iload_n dX11_turning_144 rfl ?_
              refine h_iret dX11_turning_145 rfl rfl rfl ?_
              exact ⟨by rw [ht2, if_neg (by omega), if_neg (by omega)], CI13 hC i2⟩
            · refine z_iload dX11_turning_139 rfl ?_
              refine z_goto (tgt := 145) dX11_turning_141 (by decide) ?_
              refine h_iret dX11_turning_145 rfl rfl rfl ?_
              exact ⟨by rw [ht2, if_neg (by omega), if_pos (by omega)], CI13 hC i2⟩
          · refine z_iload dX11_turning_131 rfl ?_
            refine h_iret dX11_turning_133 rfl rfl rfl ?_
            exact ⟨by rw [ht2, if_pos (by omega)], CI13 hC i2⟩
        have nxt : ∀ k p l : Nat, 3 * p + l + k + 1 = 3 * m → l ≤ 2 → (∀ p' l' : Nat, 3 * p' + l' = 3 * p + l + 1 → l' ≤ 2 → k ≠ 0 → ∀ (σ' : Mem) (x8 : Option ZV), fr 13 5 σ2 σ' → Z rc M_X11_turning 0 0 61 [some (zR 0), some (zI (d : Int)), some (zI w), some (zI (tuA (α 5) d (3 * p' + l') (tuM (α 5) d (3 * p' + l')))), some (zI (tuA (α 5) d (3 * p' + l') (tuC (α 5) d (3 * p' + l') / 3))), some (zI (tuA (α 5) d (3 * p' + l') (tuC (α 5) d (3 * p' + l') % 3))), some (zI (p' : Int)), some (zI (l' : Int)), x8] [] (hp σ') (qI (cP σ2 α (aTurning α (d : Int) w) α))) → ∀ (σ' : Mem) (x8 : Option ZV), fr 13 5 σ2 σ' → Z rc M_X11_turning 0 0 115 [some (zR 0), some (zI (d : Int)), some (zI w), some (zI (tuA (α 5) d (3 * p + l + 1) (tuM (α 5) d (3 * p + l + 1)))), some (zI (tuA (α 5) d (3 * p + l + 1) (tuC (α 5) d (3 * p + l + 1) / 3))), some (zI (tuA (α 5) d (3 * p + l + 1) (tuC (α 5) d (3 * p + l + 1) % 3))), some (zI (p : Int)), some (zI (l : Int)), x8] [] (hp σ') (qI (cP σ2 α (aTurning α (d : Int) w) α)) := by
          intro k p l hkpl hl2 hN σ' x8 i2
          have e5 : σ' 8 5 = α 5 3 := (i2 8 5 (by omega)).trans hR.2.1
          refine z_iinc dX11_turning_115 rfl (by decide) rfl ?_
          refine z_goto (tgt := 61) dX11_turning_118 (by decide) ?_
          by_cases hl : l = 2
          · subst hl
            refine z_iload dX11_turning_61 rfl ?_
            refine z_iconst dX11_turning_63 ?_
            refine z_icmp_gt (tgt := 121) dX11_turning_64 (by decide) (by omega) (by omega) (fun b64 => ?_) (fun b64 => ?_)
            · refine z_iinc dX11_turning_121 rfl (by decide) rfl ?_
              refine z_goto (tgt := 46) dX11_turning_124 (by decide) ?_
              refine z_iload dX11_turning_46 rfl ?_
              first | refine z_aload_n dX11_turning_48 rfl ?_ | refine z_aload_nT dX11_turning_48 rfl ?_
              refine h_getr dX11_turning_49 fl_X11_26 (by first | assumption | rfl) (by rfl) ?_
              refine h_geti dX11_turning_52 fl_X11_173 (by first | assumption | rfl) (by rfl) ?_
              refine z_icmp_ge (tgt := 127) dX11_turning_55 (by decide) (by omega) (by omega) (fun b55 => ?_) (fun b55 => ?_)
              · have hpm : p + 1 = m := by omega
                have := fin σ' (some (zI ((2 : Nat) + 1 : Int))) x8 i2
                have e1 : 3 * p + 2 + 1 = 3 * m := by omega
                rw [e1]
                have e2 : ((p : Int) + 1) = (m : Int) := by omega
                rw [e2]
                exact this
              · refine z_iconst dX11_turning_58 ?_
                refine z_istore dX11_turning_59 (by decide) rfl ?_
                have := hN (p + 1) 0 (by omega) (by omega) (by omega) σ' x8 i2
                have e1 : 3 * p + 2 + 1 = 3 * (p + 1) + 0 := by omega
                rw [e1]
                rw [nsucc] at this
                exact this
            · omega
          · have := hN p (l + 1) (by omega) (by omega) (by omega) σ' x8 i2
            have e1 : 3 * p + l + 1 = 3 * p + (l + 1) := by omega
            rw [e1]
            rw [nsucc] at this
            exact this
        have body : ∀ k p l : Nat, 3 * p + l + k + 1 = 3 * m → l ≤ 2 → (∀ (σ' : Mem) (x8 : Option ZV), fr 13 5 σ2 σ' → Z rc M_X11_turning 0 0 115 [some (zR 0), some (zI (d : Int)), some (zI w), some (zI (tuA (α 5) d (3 * p + l + 1) (tuM (α 5) d (3 * p + l + 1)))), some (zI (tuA (α 5) d (3 * p + l + 1) (tuC (α 5) d (3 * p + l + 1) / 3))), some (zI (tuA (α 5) d (3 * p + l + 1) (tuC (α 5) d (3 * p + l + 1) % 3))), some (zI (p : Int)), some (zI (l : Int)), x8] [] (hp σ') (qI (cP σ2 α (aTurning α (d : Int) w) α))) → ∀ (σ' : Mem) (x8 : Option ZV), fr 13 5 σ2 σ' → Z rc M_X11_turning 0 0 61 [some (zR 0), some (zI (d : Int)), some (zI w), some (zI (tuA (α 5) d (3 * p + l) (tuM (α 5) d (3 * p + l)))), some (zI (tuA (α 5) d (3 * p + l) (tuC (α 5) d (3 * p + l) / 3))), some (zI (tuA (α 5) d (3 * p + l) (tuC (α 5) d (3 * p + l) % 3))), some (zI (p : Int)), some (zI (l : Int)), x8] [] (hp σ') (qI (cP σ2 α (aTurning α (d : Int) w) α)) := by
          intro k p l hkpl hl2 hN σ' x8 i2
          have hpm : p < m := by omega
          have e11 : σ' 11 p = α 5 (19 + p) := (i2 11 p (by omega)).trans (cR8p hR (p := p) (by omega)).2.2.1
          have q3 := (hk.2.2.2.2.2.2.2.2.2 p (by omega)).2.2.1
          have hin := tu_in (d := d) hk (3 * p + l) (by omega)
          have hvv := tuV_in (d := d) hk (n := 3 * p + l) (by omega)
          have d1 : (3 * p + l) / 3 = p := by omega
          have d2 : (3 * p + l) % 3 = l := by omega
          have sM := tuM_s (t := α 5) (d := d) (n := 3 * p + l)
          have sC := tuC_s (t := α 5) (d := d) (n := 3 * p + l)
          rw [d1, d2] at sM sC
          have hta : zin (tuA (α 5) d (3 * p + l) (tuM (α 5) d (3 * p + l))) := by
            unfold tuA
            split <;> (unfold zin; omega)
          have hR' : cR σ' 8 (α 5) := cR_eq hR (fun o j _ _ => i2 o j (by omega))
          refine z_iload dX11_turning_61 rfl ?_
          refine z_iconst dX11_turning_63 ?_
          refine z_icmp_gt (tgt := 121) dX11_turning_64 (by decide) (by omega) (by omega) (fun b64 => ?_) (fun b64 => ?_)
          · omega
          · refine z_iload dX11_turning_67 rfl ?_
            first | refine z_aload_n dX11_turning_69 rfl ?_ | refine z_aload_nT dX11_turning_69 rfl ?_
            refine h_getr dX11_turning_70 fl_X11_26 (by first | assumption | rfl) (by rfl) ?_
            refine h_getr dX11_turning_73 fl_X11_209 (by first | assumption | rfl) (by rfl) ?_
            refine z_iload dX11_turning_76 rfl ?_
            first | refine h_iald dX11_turning_78 (by first | assumption | rfl) (by repeat' first | apply zc_add | apply zc_mul | with_reducible exact zc_var _ | exact zc_lit _) (by omega) (by decide) ?_ | refine z_ialdT _ dX11_turning_78 (by assumption) (by repeat' first | apply zc_add | apply zc_mul | with_reducible exact zc_var _ | exact zc_lit _) (by omega) (by omega) ?_
            refine z_icmp_ne (tgt := 87) dX11_turning_79 (by decide) (by omega) (by omega) (fun b79 => ?_) (fun b79 => ?_)
            · rw [if_neg (by omega)] at sM sC
              first | refine z_aload_n dX11_turning_87 rfl ?_ | refine z_aload_nT dX11_turning_87 rfl ?_
              refine z_iload dX11_turning_88 rfl ?_
              refine z_iload dX11_turning_90 rfl ?_
              refine z_iload_n dX11_turning_92 rfl ?_
              refine h_Vi3 (Y' := M_X11_purseTurned) dX11_turning_93 zw_587 zw_589 zs_19 rfl ok_X11_purseTurned (by decide) rfl (Nat.le_of_ble_eq_true rfl) ⟨rfl, rfl⟩ (by decide) (by first | assumption | rfl) (c_purseTurned hR' hk (by omega) hl2 (by omega)) (fun vv σ2 hq => ?_)
              obtain ⟨rfl, j2⟩ := hq
              have j2 := i2.tr j2
              have hvd : gnF (zup (α 5) (19 + p) (l : Int)) d 1 = tuV (α 5) d (3 * p + l) := by
                unfold tuV
                rw [d1, d2]
              rw [hvd]
              refine z_istore dX11_turning_96 (by decide) rfl ?_
              refine z_iload dX11_turning_98 rfl ?_
              refine z_iload_n dX11_turning_100 rfl ?_
              refine z_icmp_le (tgt := 115) dX11_turning_101 (by decide) (by omega) (by omega) (fun b101 => ?_) (fun b101 => ?_)
              · have hle : ¬ tuM (α 5) d (3 * p + l) < tuV (α 5) d (3 * p + l) := by
                  unfold tuA at b101
                  split at b101 <;> omega
                rw [if_neg hle] at sM sC
                have := hN _ (some (zI (tuV (α 5) d (3 * p + l)))) j2
                unfold tuA at this ⊢
                rw [sM, sC] at this
                exact this
              · have hle : tuM (α 5) d (3 * p + l) < tuV (α 5) d (3 * p + l) := by
                  unfold tuA at b101
                  split at b101 <;> omega
                rw [if_pos hle] at sM sC
                refine z_iload dX11_turning_104 rfl ?_
                refine z_istore_n dX11_turning_106 (by decide) rfl ?_
                refine z_iload dX11_turning_107 rfl ?_
                refine z_istore dX11_turning_109 (by decide) rfl ?_
                refine z_iload dX11_turning_111 rfl ?_
                refine z_istore dX11_turning_113 (by decide) rfl ?_
                have := hN _ (some (zI (tuV (α 5) d (3 * p + l)))) j2
                unfold tuA at this
                rw [sM, sC, if_neg (by omega), if_neg (by omega), if_neg (by omega)] at this
                have e1 : ((3 * p + l : Nat) : Int) / 3 = (p : Int) := by omega
                have e2 : ((3 * p + l : Nat) : Int) % 3 = (l : Int) := by omega
                rw [e1, e2] at this
                exact this
            · rw [if_pos (by omega)] at sM sC
              refine z_ldc (n := -1000000) dX11_turning_82 zw_528 rfl ?_
              refine z_goto (tgt := 96) dX11_turning_84 (by decide) ?_
              refine z_istore dX11_turning_96 (by decide) rfl ?_
              refine z_iload dX11_turning_98 rfl ?_
              refine z_iload_n dX11_turning_100 rfl ?_
              refine z_icmp_le (tgt := 115) dX11_turning_101 (by decide) (by omega) (by omega) (fun b101 => ?_) (fun b101 => ?_)
              · have := hN _ (some (zI (-1000000))) i2
                unfold tuA at this ⊢
                rw [sM, sC] at this
                exact this
              · exfalso
                unfold tuA at b101
                split at b101 <;> omega
        have loop : ∀ k p l : Nat, 3 * p + l + k + 1 = 3 * m → l ≤ 2 → ∀ (σ' : Mem) (x8 : Option ZV), fr 13 5 σ2 σ' → Z rc M_X11_turning 0 0 61 [some (zR 0), some (zI (d : Int)), some (zI w), some (zI (tuA (α 5) d (3 * p + l) (tuM (α 5) d (3 * p + l)))), some (zI (tuA (α 5) d (3 * p + l) (tuC (α 5) d (3 * p + l) / 3))), some (zI (tuA (α 5) d (3 * p + l) (tuC (α 5) d (3 * p + l) % 3))), some (zI (p : Int)), some (zI (l : Int)), x8] [] (hp σ') (qI (cP σ2 α (aTurning α (d : Int) w) α)) := by
          intro k
          induction k with
          | zero =>
            intro p l h1 h2
            exact body 0 p l h1 h2 (nxt 0 p l h1 h2 (fun _ _ _ _ h => absurd rfl h))
          | succ k ih =>
            intro p l h1 h2
            exact body (k + 1) p l h1 h2 (nxt (k + 1) p l h1 h2 (fun p' l' h3 h4 _ => ih p' l' (by omega) h4))
        have e5 := hR.2.1
        refine z_ldc (n := -1000000) dX11_turning_32 zw_528 rfl ?_
        refine z_istore_n dX11_turning_34 (by decide) rfl ?_
        refine z_ldc (n := -1000000) dX11_turning_35 zw_528 rfl ?_
        refine z_istore dX11_turning_37 (by decide) rfl ?_
        refine z_ldc (n := -1000000) dX11_turning_39 zw_528 rfl ?_
        refine z_istore dX11_turning_41 (by decide) rfl ?_
        refine z_iconst dX11_turning_43 ?_
        refine z_istore dX11_turning_44 (by decide) rfl ?_
        refine z_iload dX11_turning_46 rfl ?_
        first | refine z_aload_n dX11_turning_48 rfl ?_ | refine z_aload_nT dX11_turning_48 rfl ?_
        refine h_getr dX11_turning_49 fl_X11_26 (by first | assumption | rfl) (by rfl) ?_
        refine h_geti dX11_turning_52 fl_X11_173 (by first | assumption | rfl) (by rfl) ?_
        refine z_icmp_ge (tgt := 127) dX11_turning_55 (by decide) (by omega) (by omega) (fun b55 => ?_) (fun b55 => ?_)
        · have e1 : m = 0 := by omega
          subst e1
          exact fin σ2 none none fr.rf
        · refine z_iconst dX11_turning_58 ?_
          refine z_istore dX11_turning_59 (by decide) rfl ?_
          exact loop (3 * m - 1) 0 0 (by omega) (by omega) σ2 none fr.rf
      · exact bad _ rfl (by omega) (by omega)
  · refine z_ldc (n := -1000002) dX11_turning_10 zw_417 rfl ?_
    refine h_iret dX11_turning_12 rfl rfl rfl ?_
    exact ⟨by unfold aTurning; rw [if_pos (by omega)], hC, fr.rf⟩
theorem r_turning {d w : Int} (hM : MI σ α) (hO : OK α) (hd : zin d) (hw : zin w) : KI rc M_X12_turning [zR 40, zI d, zI w] σ (mP σ α (aTurning α d w) α) := by
  have h3 := OKc_3 hO
  have h8 := OKc_8 hO
  have hNN : (NONE : Int) = -1000000 := rfl
  have hR := hM.2.2.2.1
  have bad : ∀ σ2 : Mem, σ2 = σ → ¬ α 5 8 = 0 → (¬ (0 ≤ d ∧ d ≤ 60) ∨ ¬ (0 ≤ w ∧ w ≤ 2)) → Z rc M_X12_turning 0 0 29 [some (zR 40), some (zI d), some (zI w), none, none, none, none] [] (hp σ2) (qI (mP σ α (aTurning α d w) α)) := by
    intro σ2 e hn hb
    subst e
    refine z_ldc (n := -1000001) dX12_turning_29 zw_860 rfl ?_
    refine h_iret dX12_turning_31 rfl rfl rfl ?_
    exact ⟨by unfold aTurning; rw [if_neg hn, if_pos hb], hM, fr.rf⟩
  refine K_of 4 (by decide) (Nat.le_of_ble_eq_true rfl) (show Z _ _ 0 0 0 [some (zR 40), some (zI d), some (zI w), none, none, none, none] [] _ _ from ?_)
  first | refine z_aload_n dX12_turning_0 rfl ?_ | refine z_aload_nT dX12_turning_0 rfl ?_
  refine h_Vi0 (Y' := M_X12_isCoast) dX12_turning_1 zw_941 zw_943 zs_36 rfl ok_X12_isCoast (by decide) rfl (Nat.le_of_ble_eq_true rfl) ⟨rfl, rfl⟩ (by decide) (by first | assumption | rfl) (m_isCoast (hR 8 (by omega)) h8) (fun vv σ2 hq => ?_)
  obtain ⟨rfl, rfl⟩ := hq
  refine z_if_ne (tgt := 10) dX12_turning_4 (by decide) (by omega) (fun b4 => ?_) (fun b4 => ?_)
  · have hk := OKc_s hO (by omega)
    refine z_iload_n dX12_turning_10 rfl ?_
    refine z_iconst dX12_turning_11 ?_
    refine z_bipush dX12_turning_12 rfl ?_
    refine h_Si3 (Y' := M_X12_in) dX12_turning_14 zw_857 zw_858 ok_X12_in (by decide) rfl (Nat.le_of_ble_eq_true rfl) ⟨rfl, rfl⟩ (by decide) (m_within hd (by omega) (by omega)) (fun vv σ2 hq => ?_)
    obtain ⟨hv1, rfl⟩ := hq
    refine z_if_eq (tgt := 29) dX12_turning_17 (by decide) (by omega) (fun b17 => ?_) (fun b17 => ?_)
    · exact bad _ rfl (by omega) (by omega)
    · refine z_iload_n dX12_turning_20 rfl ?_
      refine z_iconst dX12_turning_21 ?_
      refine z_iconst dX12_turning_22 ?_
      refine h_Si3 (Y' := M_X12_in) dX12_turning_23 zw_857 zw_858 ok_X12_in (by decide) rfl (Nat.le_of_ble_eq_true rfl) ⟨rfl, rfl⟩ (by decide) (m_within hw (by omega) (by omega)) (fun vv σ2 hq => ?_)
      obtain ⟨hv2, rfl⟩ := hq
      refine z_if_ne (tgt := 32) dX12_turning_26 (by decide) (by omega) (fun b26 => ?_) (fun b26 => ?_)
      · obtain ⟨d, rfl⟩ : ∃ x : Nat, d = (x : Int) := ⟨d.toNat, by omega⟩
        obtain ⟨m, hm⟩ : ∃ x : Nat, α 5 3 = (x : Int) := ⟨(α 5 3).toNat, by omega⟩
        have loop : ∀ k n : Nat, n + k = 3 * m → ∀ (σ' : Mem) (x6 : Option ZV), fm 47 σ2 σ' → Z rc M_X12_turning 0 0 41 [some (zR 40), some (zI (d : Int)), some (zI w), some (zI (tuC (α 5) d (n))), some (zI (tuM (α 5) d (n))), some (zI (n : Int)), x6] [] (hp σ') (qI (mP σ2 α (aTurning α (d : Int) w) α)) := by
          intro k
          induction k with
          | zero =>
            intro n hn σ' x6 i2
            have e3 : σ' 45 3 = α 5 3 := (i2 45 3 (by omega)).trans (hR 3 (by omega))
            have hin := tu_in (d := d) hk n (by omega)
            have ht : aTurning α (d : Int) w = if tuC (α 5) d n = NONE then NONE else if w = 0 then tuC (α 5) d n / 3 else if w = 1 then tuC (α 5) d n % 3 else tuM (α 5) d n := by
              unfold aTurning
              rw [if_neg (by omega), if_neg (by omega)]
              have e1 : (3 * α 5 3).toNat = n := by omega
              have e2 : ((d : Int)).toNat = d := by omega
              rw [e1, e2]
            have hKM := MI47 hM i2
            refine z_iload dX12_turning_41 rfl ?_
            refine z_iconst dX12_turning_43 ?_
            first | refine z_aload_n dX12_turning_44 rfl ?_ | refine z_aload_nT dX12_turning_44 rfl ?_
            refine h_getr dX12_turning_45 fl_X12_22 (by first | assumption | rfl) (by rfl) ?_
            refine z_iconst dX12_turning_48 ?_
            first | refine h_iald dX12_turning_49 (by first | assumption | rfl) (by repeat' first | apply zc_add | apply zc_mul | with_reducible exact zc_var _ | exact zc_lit _) (by omega) (by decide) ?_ | refine z_ialdT _ dX12_turning_49 (by assumption) (by repeat' first | apply zc_add | apply zc_mul | with_reducible exact zc_var _ | exact zc_lit _) (by omega) (by omega) ?_
            refine z_imul dX12_turning_50 ?_
            refine z_icmp_ge (tgt := 148) dX12_turning_51 (by decide) (by omega) (by omega) (fun b51 => ?_) (fun b51 => ?_)
            · refine z_iload_n dX12_turning_148 rfl ?_
              refine z_ldc (n := -1000000) dX12_turning_149 zw_1015 rfl ?_
              refine z_icmp_ne (tgt := 157) dX12_turning_151 (by decide) (by omega) (by omega) (fun b151 => ?_) (fun b151 => ?_)
              · rw [if_neg (by omega)] at ht
                refine z_iload_n dX12_turning_157 rfl ?_
                refine z_if_ne (tgt := 167) dX12_turning_158 (by decide) (by omega) (fun b158 => ?_) (fun b158 => ?_)
                · rw [if_neg (by omega)] at ht
                  refine z_iload_n dX12_turning_167 rfl ?_
                  refine z_iconst dX12_turning_168 ?_
                  refine z_icmp_ne (tgt := 178) dX12_turning_169 (by decide) (by omega) (by omega) (fun b169 => ?_) (fun b169 => ?_)
                  · rw [if_neg (by omega)] at ht
                    refine z_iload dX12_turning_178 rfl ?_
                    refine h_iret dX12_turning_180 rfl rfl rfl ?_
                    exact ⟨ht.symm, hKM⟩
                  · rw [if_pos (by omega)] at ht
                    refine z_iload_n dX12_turning_172 rfl ?_
                    refine z_iconst dX12_turning_173 ?_
                    refine z_irem dX12_turning_174 (by omega) (by omega) (by omega) (by omega) ?_
                    refine z_goto (tgt := 180) dX12_turning_175 (by decide) ?_
                    refine h_iret dX12_turning_180 rfl rfl rfl ?_
                    exact ⟨ht.symm, hKM⟩
                · rw [if_pos (by omega)] at ht
                  refine z_iload_n dX12_turning_161 rfl ?_
                  refine z_iconst dX12_turning_162 ?_
                  refine z_idiv dX12_turning_163 (by omega) (by omega) (by omega) (by omega) ?_
                  refine z_goto (tgt := 180) dX12_turning_164 (by decide) ?_
                  refine h_iret dX12_turning_180 rfl rfl rfl ?_
                  exact ⟨ht.symm, hKM⟩
              · rw [if_pos (by omega)] at ht
                refine z_ldc (n := -1000000) dX12_turning_154 zw_1015 rfl ?_
                refine h_iret dX12_turning_156 rfl rfl rfl ?_
                exact ⟨ht.symm, hKM⟩
            · omega
          | succ k ih =>
            intro n hn σ' x6 i2
            have e3 : σ' 45 3 = α 5 3 := (i2 45 3 (by omega)).trans (hR 3 (by omega))
            have e19 : σ' 45 (19 + n / 3) = α 5 (19 + n / 3) := (i2 45 _ (by omega)).trans (hR _ (by omega))
            have hin := tu_in (d := d) hk n (by omega)
            have hvv := tuV_in (d := d) hk (n := n) (by omega)
            have q3 := (hk.2.2.2.2.2.2.2.2.2 (n / 3) (by omega)).2.2.1
            have sM := tuM_s (t := α 5) (d := d) (n := n)
            have sC := tuC_s (t := α 5) (d := d) (n := n)
            have hc1 : ((n : Int) / 3) = ((n / 3 : Nat) : Int) := by omega
            have hc2 : ((n : Int) % 3) = ((n % 3 : Nat) : Int) := by omega
            have hR' : mR σ' 45 (α 5) := fun i hi => (i2 45 i (by omega)).trans (hR i hi)
            refine z_iload dX12_turning_41 rfl ?_
            refine z_iconst dX12_turning_43 ?_
            first | refine z_aload_n dX12_turning_44 rfl ?_ | refine z_aload_nT dX12_turning_44 rfl ?_
            refine h_getr dX12_turning_45 fl_X12_22 (by first | assumption | rfl) (by rfl) ?_
            refine z_iconst dX12_turning_48 ?_
            first | refine h_iald dX12_turning_49 (by first | assumption | rfl) (by repeat' first | apply zc_add | apply zc_mul | with_reducible exact zc_var _ | exact zc_lit _) (by omega) (by decide) ?_ | refine z_ialdT _ dX12_turning_49 (by assumption) (by repeat' first | apply zc_add | apply zc_mul | with_reducible exact zc_var _ | exact zc_lit _) (by omega) (by omega) ?_
            refine z_imul dX12_turning_50 ?_
            refine z_icmp_ge (tgt := 148) dX12_turning_51 (by decide) (by omega) (by omega) (fun b51 => ?_) (fun b51 => ?_)
            · omega
            · refine z_iload dX12_turning_54 rfl ?_
              refine z_iconst dX12_turning_56 ?_
              refine z_idiv dX12_turning_57 (by omega) (by omega) (by omega) (by omega) ?_
              refine z_istore dX12_turning_58 (by decide) rfl ?_
              rw [hc1]
              first | refine z_aload_n dX12_turning_60 rfl ?_ | refine z_aload_nT dX12_turning_60 rfl ?_
              refine h_getr dX12_turning_61 fl_X12_22 (by first | assumption | rfl) (by rfl) ?_
              refine z_bipush dX12_turning_64 rfl ?_
              refine z_iload dX12_turning_66 rfl ?_
              refine z_iadd dX12_turning_68 ?_
              first | refine h_iald dX12_turning_69 (by first | assumption | rfl) (by repeat' first | apply zc_add | apply zc_mul | with_reducible exact zc_var _ | exact zc_lit _) (by omega) (by decide) ?_ | refine z_ialdT _ dX12_turning_69 (by assumption) (by repeat' first | apply zc_add | apply zc_mul | with_reducible exact zc_var _ | exact zc_lit _) (by omega) (by omega) ?_
              refine z_iload dX12_turning_70 rfl ?_
              refine z_iconst dX12_turning_72 ?_
              refine z_irem dX12_turning_73 (by omega) (by omega) (by omega) (by omega) ?_
              refine z_icmp_eq (tgt := 142) dX12_turning_74 (by decide) (by omega) (by omega) (fun b74 => ?_) (fun b74 => ?_)
              · rw [if_pos (by omega)] at sM sC
                refine z_iinc dX12_turning_142 rfl (by decide) rfl ?_
                refine z_goto (tgt := 41) dX12_turning_145 (by decide) ?_
                have := ih (n + 1) (by omega) σ' (some (zI ((n / 3 : Nat) : Int))) i2
                rw [sM, sC, nsucc] at this
                exact this
              · rw [if_neg (by omega)] at sM sC
                first | refine z_aload_n dX12_turning_77 rfl ?_ | refine z_aload_nT dX12_turning_77 rfl ?_
                refine h_Vv0 (Y' := M_X12_begin) dX12_turning_78 zw_999 zw_1001 zs_39 rfl ok_X12_begin (by decide) rfl (Nat.le_of_ble_eq_true rfl) ⟨rfl, rfl⟩ (by decide) (by first | assumption | rfl) (m_begin hR') (fun σ2 hq => ?_)
                obtain ⟨j1, j2⟩ := hq
                have j2 := i2.tr j2
                first | refine z_aload_n dX12_turning_81 rfl ?_ | refine z_aload_nT dX12_turning_81 rfl ?_
                refine h_getr dX12_turning_82 fl_X12_28 (by first | assumption | rfl) (by rfl) ?_
                refine z_bipush dX12_turning_85 rfl ?_
                refine z_iload dX12_turning_87 rfl ?_
                refine z_iadd dX12_turning_89 ?_
                refine z_iload dX12_turning_90 rfl ?_
                refine z_iconst dX12_turning_92 ?_
                refine z_irem dX12_turning_93 (by omega) (by omega) (by omega) (by omega) ?_
                refine h_iast dX12_turning_94 (by first | assumption | rfl) (by repeat' first | apply zc_add | apply zc_mul | with_reducible exact zc_var _ | exact zc_lit _) (by omega) (by decide) ?_
                first | refine z_aload_n dX12_turning_95 rfl ?_ | refine z_aload_nT dX12_turning_95 rfl ?_
                refine z_iload_n dX12_turning_96 rfl ?_
                rw [hc2]
                have jj : mR (zu σ2 47 (19 + n / 3) ((n % 3 : Nat) : Int)) 47 (zup (α 5) (19 + n / 3) ((n % 3 : Nat) : Int)) := by
                  intro i hi
                  unfold zup
                  by_cases h2 : i = 19 + n / 3
                  · subst h2
                    rw [zu_eq, if_pos rfl]
                  · rw [zu_j h2, if_neg h2]
                    exact j1 i hi
                have jf : fm 47 σ2 (zu σ2 47 (19 + n / 3) ((n % 3 : Nat) : Int)) := fun o j h => zu_o h
                have jf := j2.tr jf
                obtain ⟨σ3, h3e⟩ : ∃ z, z = zu σ2 47 (19 + n / 3) ((n % 3 : Nat) : Int) := ⟨_, rfl⟩
                rw [← h3e] at jj jf ⊢
                have hk2 := cok_lean (l := ((n % 3 : Nat) : Int)) (p := n / 3) hk (by omega) (by omega) (by omega)
                refine h_Vv1 (Y' := M_X12_goOn) dX12_turning_97 zw_1003 zw_1005 zs_40 rfl ok_X12_goOn (by decide) rfl (Nat.le_of_ble_eq_true rfl) ⟨rfl, rfl⟩ (by decide) (by first | assumption | rfl) (m_goOn (d := d) jj hk2 (by omega) (by omega)) (fun σ2 hq => ?_)
                obtain ⟨z1, z2⟩ := hq
                have z2 := jf.tr z2
                have y1 : σ2 47 1 = tuV (α 5) d n := z1 1 (by omega)
                first | refine z_aload_n dX12_turning_100 rfl ?_ | refine z_aload_nT dX12_turning_100 rfl ?_
                refine h_getr dX12_turning_101 fl_X12_28 (by first | assumption | rfl) (by rfl) ?_
                refine z_iconst dX12_turning_104 ?_
                first | refine h_iald dX12_turning_105 (by first | assumption | rfl) (by repeat' first | apply zc_add | apply zc_mul | with_reducible exact zc_var _ | exact zc_lit _) (by omega) (by decide) ?_ | refine z_ialdT _ dX12_turning_105 (by assumption) (by repeat' first | apply zc_add | apply zc_mul | with_reducible exact zc_var _ | exact zc_lit _) (by omega) (by omega) ?_
                refine z_iload dX12_turning_106 rfl ?_
                refine z_icmp_le (tgt := 116) dX12_turning_108 (by decide) (by omega) (by omega) (fun b108 => ?_) (fun b108 => ?_)
                · rw [if_neg (by omega)] at sM sC
                  refine z_iload_n dX12_turning_116 rfl ?_
                  refine z_istore_n dX12_turning_117 (by decide) rfl ?_
                  first | refine z_aload_n dX12_turning_118 rfl ?_ | refine z_aload_nT dX12_turning_118 rfl ?_
                  refine h_getr dX12_turning_119 fl_X12_28 (by first | assumption | rfl) (by rfl) ?_
                  refine z_iconst dX12_turning_122 ?_
                  first | refine h_iald dX12_turning_123 (by first | assumption | rfl) (by repeat' first | apply zc_add | apply zc_mul | with_reducible exact zc_var _ | exact zc_lit _) (by omega) (by decide) ?_ | refine z_ialdT _ dX12_turning_123 (by assumption) (by repeat' first | apply zc_add | apply zc_mul | with_reducible exact zc_var _ | exact zc_lit _) (by omega) (by omega) ?_
                  refine z_iload dX12_turning_124 rfl ?_
                  refine z_icmp_le (tgt := 138) dX12_turning_126 (by decide) (by omega) (by omega) (fun b126 => ?_) (fun b126 => ?_)
                  · refine z_iload dX12_turning_138 rfl ?_
                    refine z_istore dX12_turning_140 (by decide) rfl ?_
                    refine z_iinc dX12_turning_142 rfl (by decide) rfl ?_
                    refine z_goto (tgt := 41) dX12_turning_145 (by decide) ?_
                    have := ih (n + 1) (by omega) σ2 (some (zI ((n / 3 : Nat) : Int))) z2
                    rw [sM, sC, nsucc] at this
                    exact this
                  · omega
                · rw [if_pos (by omega)] at sM sC
                  refine z_iload dX12_turning_111 rfl ?_
                  refine z_goto (tgt := 117) dX12_turning_113 (by decide) ?_
                  refine z_istore_n dX12_turning_117 (by decide) rfl ?_
                  first | refine z_aload_n dX12_turning_118 rfl ?_ | refine z_aload_nT dX12_turning_118 rfl ?_
                  refine h_getr dX12_turning_119 fl_X12_28 (by first | assumption | rfl) (by rfl) ?_
                  refine z_iconst dX12_turning_122 ?_
                  first | refine h_iald dX12_turning_123 (by first | assumption | rfl) (by repeat' first | apply zc_add | apply zc_mul | with_reducible exact zc_var _ | exact zc_lit _) (by omega) (by decide) ?_ | refine z_ialdT _ dX12_turning_123 (by assumption) (by repeat' first | apply zc_add | apply zc_mul | with_reducible exact zc_var _ | exact zc_lit _) (by omega) (by omega) ?_
                  refine z_iload dX12_turning_124 rfl ?_
                  refine z_icmp_le (tgt := 138) dX12_turning_126 (by decide) (by omega) (by omega) (fun b126 => ?_) (fun b126 => ?_)
                  · omega
                  · first | refine z_aload_n dX12_turning_129 rfl ?_ | refine z_aload_nT dX12_turning_129 rfl ?_
                    refine h_getr dX12_turning_130 fl_X12_28 (by first | assumption | rfl) (by rfl) ?_
                    refine z_iconst dX12_turning_133 ?_
                    first | refine h_iald dX12_turning_134 (by first | assumption | rfl) (by repeat' first | apply zc_add | apply zc_mul | with_reducible exact zc_var _ | exact zc_lit _) (by omega) (by decide) ?_ | refine z_ialdT _ dX12_turning_134 (by assumption) (by repeat' first | apply zc_add | apply zc_mul | with_reducible exact zc_var _ | exact zc_lit _) (by omega) (by omega) ?_
                    refine z_goto (tgt := 140) dX12_turning_135 (by decide) ?_
                    refine z_istore dX12_turning_140 (by decide) rfl ?_
                    refine z_iinc dX12_turning_142 rfl (by decide) rfl ?_
                    refine z_goto (tgt := 41) dX12_turning_145 (by decide) ?_
                    have := ih (n + 1) (by omega) σ2 (some (zI ((n / 3 : Nat) : Int))) z2
                    rw [sM, sC, nsucc, ← y1] at this
                    exact this
        refine z_ldc (n := -1000000) dX12_turning_32 zw_1015 rfl ?_
        refine z_istore_n dX12_turning_34 (by decide) rfl ?_
        refine z_iconst dX12_turning_35 ?_
        refine z_istore dX12_turning_36 (by decide) rfl ?_
        refine z_iconst dX12_turning_38 ?_
        refine z_istore dX12_turning_39 (by decide) rfl ?_
        exact loop (3 * m) 0 (by omega) σ2 none fm.rf
      · exact bad _ rfl (by omega) (by omega)
  · refine z_ldc (n := -1000002) dX12_turning_7 zw_945 rfl ?_
    refine h_iret dX12_turning_9 rfl rfl rfl ?_
    exact ⟨by unfold aTurning; rw [if_pos (by omega)], hM, fr.rf⟩
end
