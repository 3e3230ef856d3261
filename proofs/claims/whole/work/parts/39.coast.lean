/-! coast: the class -/
def cstU (α : Mem) (t : Nat → Int) : Mem := fun i => if i = 5 then t else if i = 0 then zup (zup (α 0) 1 0) 3 0 else α i
def badU (α : Mem) (fa : Int) : Mem := fun i => if i = 0 then zup (zup (α 0) 1 0) 2 fa else α i
theorem cstU_10 {α : Mem} {t : Nat → Int} (j : Nat) : cstU α t (10 + j) = α (10 + j) := by
  unfold cstU
  rw [if_neg (by omega), if_neg (by omega)]
theorem badU_10 {α : Mem} {x : Int} (j : Nat) : badU α x (10 + j) = α (10 + j) := by
  unfold badU
  rw [if_neg (by omega)]
def coR (α : Mem) : PR := coF (α 4) (α 0 1).toNat
def aCoast (α : Mem) : Int := if (coR α).ok = true then (coR α).va 3 else -1000100 - ((coR α).pl : Int)
def nCoast (α : Mem) : Mem := if (coR α).ok = true then cstU α (coR α).va else badU α (coR α).fa
theorem OK_TF {α : Mem} (hO : OK α) : TF (α 4) (α 0 1).toNat := ⟨by have := hO.1.2.1; omega, fun i hi => hO.2.2.2.2.1 i (by omega)⟩
section
variable {rc : ZRC} {σ α : Mem}
theorem k_faultNumber : KI rc M_X9_faultNumber [zR 5] σ (fun v σ' => v = σ 5 4 ∧ σ' = σ) := by
  refine K_of 0 (by decide) (Nat.le_of_ble_eq_true rfl) (show Z _ _ 0 0 0 [some (zR 5)] [] _ _ from ?_)
  first | refine z_aload_n dX9_faultNumber_0 rfl ?_ | refine z_aload_nT dX9_faultNumber_0 rfl ?_
  refine h_geti dX9_faultNumber_1 fl_X9_23 (by first | assumption | rfl) (by rfl) ?_
  refine h_iret dX9_faultNumber_4 rfl rfl rfl ?_
  exact ⟨rfl, rfl⟩
theorem k_faultPlace : KI rc M_X9_faultPlace [zR 5] σ (fun v σ' => v = σ 5 3 ∧ σ' = σ) := by
  refine K_of 0 (by decide) (Nat.le_of_ble_eq_true rfl) (show Z _ _ 0 0 0 [some (zR 5)] [] _ _ from ?_)
  first | refine z_aload_n dX9_faultPlace_0 rfl ?_ | refine z_aload_nT dX9_faultPlace_0 rfl ?_
  refine h_geti dX9_faultPlace_1 fl_X9_20 (by first | assumption | rfl) (by rfl) ?_
  refine h_iret dX9_faultPlace_4 rfl rfl rfl ?_
  exact ⟨rfl, rfl⟩
theorem c_coast (r2 : rc 2 = some (5, loL)) (r3 : rc 3 = some (5, hiL)) (r4 : rc 4 = some (3, loP)) (r5 : rc 5 = some (3, hiP)) (hC : CI σ α) (hO : OK α) : KI rc M_X11_coast [zR 0] σ (cP σ α (aCoast α) (nCoast α)) := by
  have hl := hO.1.2.1
  refine K_of 1 (by decide) (Nat.le_of_ble_eq_true rfl) (show Z _ _ 0 0 0 [some (zR 0), none] [] _ _ from ?_)
  first | refine z_aload_n dX11_coast_0 rfl ?_ | refine z_aload_nT dX11_coast_0 rfl ?_
  refine h_getr dX11_coast_1 fl_X11_19 (by first | assumption | rfl) (by rfl) ?_
  first | refine z_aload_n dX11_coast_4 rfl ?_ | refine z_aload_nT dX11_coast_4 rfl ?_
  refine h_getr dX11_coast_5 fl_X11_30 (by first | assumption | rfl) (by rfl) ?_
  refine h_Vi1 (Y' := M_X9_readInto) dX11_coast_8 zw_338 zw_339 zw_340 rfl ok_X9_readInto (by decide) rfl (Nat.le_of_ble_eq_true rfl) ⟨rfl, rfl⟩ (by decide) (by first | assumption | rfl) (k_readInto (N := (α 0 1).toNat) (f := α 4) r2 r3 r4 r5 (by rw [hC.2.2.1.1]; omega) (fun i hi => hC.2.2.1.2 i (by omega)) (OK_TF hO)) (fun vv σ2 hq => ?_)
  obtain ⟨q1, q2, q3, q4⟩ := hq
  have q2 : σ2 5 3 = ((coR α).pl : Int) := q2
  have hAct := hC.2.2.2.2.2.1
  obtain ⟨⟨b1, b2⟩, d1, ⟨c1, c2⟩, d, ⟨⟨f1, f2⟩, f3, f4⟩, ⟨a1, nx, a2, a3, a4⟩, ⟨g1, g2⟩⟩ := hC
  rcases q1 with ⟨rfl, o1, o2⟩ | ⟨rfl, o1, o2⟩
  · have o1 : (coR α).ok = true := o1
    have o2 : cR σ2 13 (coR α).va := o2
    have hk : cok 0 (coR α).va := coF_ok o1
    refine z_istore_n dX11_coast_11 (by decide) rfl ?_
    refine z_iload_n dX11_coast_12 rfl ?_
    refine z_if_ne (tgt := 38) dX11_coast_13 (by decide) (by omega) (fun b13 => ?_) (fun b13 => ?_)
    · first | refine z_aload_n dX11_coast_38 rfl ?_ | refine z_aload_nT dX11_coast_38 rfl ?_
      refine h_getr dX11_coast_39 fl_X11_26 (by first | assumption | rfl) (by rfl) ?_
      first | refine z_aload_n dX11_coast_42 rfl ?_ | refine z_aload_nT dX11_coast_42 rfl ?_
      refine h_getr dX11_coast_43 fl_X11_30 (by first | assumption | rfl) (by rfl) ?_
      obtain ⟨σ1, rfl⟩ : ∃ z, z = σ2 := ⟨_, rfl⟩
      refine h_Vv1 (Y' := M_X2_become) dX11_coast_46 zw_401 zw_402 zw_403 rfl ok_X2_become (by decide) rfl (Nat.le_of_ble_eq_true rfl) ⟨rfl, rfl⟩ (by decide) (by first | assumption | rfl) (k_become (Or.inl rfl) (Or.inr (Or.inl rfl)) (by decide) o2 hk.2.1 (Or.inr hk.1)) (fun σ2 hq => ?_)
      obtain ⟨j1, j2⟩ := hq
      first | refine z_aload_n dX11_coast_49 rfl ?_ | refine z_aload_nT dX11_coast_49 rfl ?_
      refine h_getr dX11_coast_50 fl_X11_42 (by first | assumption | rfl) (by rfl) ?_
      refine h_Vv0 (Y' := M_X4_forgetAll) dX11_coast_53 zw_405 zw_406 zw_407 rfl ok_X4_forgetAll (by decide) rfl (Nat.le_of_ble_eq_true rfl) ⟨rfl, rfl⟩ (by decide) (by first | assumption | rfl) (k_forget) (fun σ2 hq => ?_)
      subst hq
      first | refine z_aload_n dX11_coast_56 rfl ?_ | refine z_aload_nT dX11_coast_56 rfl ?_
      refine h_getr dX11_coast_57 fl_X11_26 (by first | assumption | rfl) (by rfl) ?_
      refine h_geti dX11_coast_60 fl_X11_173 (by first | assumption | rfl) (by rfl) ?_
      refine h_iret dX11_coast_63 rfl rfl rfl ?_
      have z : ∀ o j, (o < 8 ∨ 13 ≤ o) → o ≠ 7 → o ≠ 5 → ¬ (13 ≤ o ∧ o ≤ 17) → ¬ (o = 28 ∧ j = 2) → zu σ2 28 2 0 o j = σ o j := fun o j h1 h2 h3 h4 h5 => by
        by_cases ho : o = 28
        · subst ho
          rw [zu_j (by omega), j2 _ _ (by omega)]
          exact q4 _ _ h2 h4 h3
        · rw [zu_o ho, j2 _ _ (by omega)]
          exact q4 _ _ h2 h4 h3
      refine ⟨by unfold aCoast; rw [if_pos o1, zu_o (by omega)]; exact j1.2.1, ?_, fun o j h => by rw [zu_o (by omega), j2 o j (by omega)]; exact q4 o j (by omega) (by omega) (by omega)⟩
      unfold nCoast
      rw [if_pos o1]
      exact ⟨⟨(z _ _ (by omega) (by omega) (by omega) (by omega) (by omega)).trans b1, (z _ _ (by omega) (by omega) (by omega) (by omega) (by omega)).trans b2⟩, d1.eq (fun o j h1 h2 => z o j (by omega) (by omega) (by omega) (by omega) (by omega)), ⟨by rw [zu_o (by omega), j2 _ _ (by omega)]; exact q3, fun i hi => by have hi : (i : Int) < 0 := hi; omega⟩, cR_eq j1 (fun o j h1 h2 => zu_o (by omega)), ⟨⟨(z _ _ (by omega) (by omega) (by omega) (by omega) (by omega)).trans f1, (z _ _ (by omega) (by omega) (by omega) (by omega) (by omega)).trans f2⟩, fun h => cR_eq (f3 h) (fun o j h1 h2 => z o j (by omega) (by omega) (by omega) (by omega) (by omega)), fun h => cR_eq (f4 h) (fun o j h1 h2 => z o j (by omega) (by omega) (by omega) (by omega) (by omega))⟩, ⟨zu_eq, nx, a2, (z _ _ (by omega) (by omega) (by omega) (by omega) (by omega)).trans a3, fun j hj => by have hj : (j : Int) < 0 := hj; omega⟩, ⟨(z _ _ (by omega) (by omega) (by omega) (by omega) (by omega)).trans g1, fun i hi => (z _ _ (by omega) (by omega) (by omega) (by omega) (by omega)).trans (g2 i hi)⟩⟩
    · omega
  · have o1 : (coR α).ok = false := o1
    have o2 : σ2 5 4 = (coR α).fa := o2
    have o3 : ¬ (coR α).ok = true := by rw [o1]; decide
    refine z_istore_n dX11_coast_11 (by decide) rfl ?_
    refine z_iload_n dX11_coast_12 rfl ?_
    refine z_if_ne (tgt := 38) dX11_coast_13 (by decide) (by omega) (fun b13 => ?_) (fun b13 => ?_)
    · omega
    · first | refine z_aload_n dX11_coast_16 rfl ?_ | refine z_aload_nT dX11_coast_16 rfl ?_
      first | refine z_aload_n dX11_coast_17 rfl ?_ | refine z_aload_nT dX11_coast_17 rfl ?_
      refine h_getr dX11_coast_18 fl_X11_19 (by first | assumption | rfl) (by rfl) ?_
      refine h_Vi0 (Y' := M_X9_faultNumber) dX11_coast_21 zw_392 zw_393 zw_394 rfl ok_X9_faultNumber (by decide) rfl (Nat.le_of_ble_eq_true rfl) ⟨rfl, rfl⟩ (by decide) (by first | assumption | rfl) (k_faultNumber) (fun vv σ2 hq => ?_)
      obtain ⟨rfl, rfl⟩ := hq
      refine h_puti dX11_coast_24 fp_X11_98 (by first | assumption | rfl) (by rfl) ?_
      refine z_ldc (n := -1000100) dX11_coast_27 zw_396 rfl ?_
      first | refine z_aload_n dX11_coast_29 rfl ?_ | refine z_aload_nT dX11_coast_29 rfl ?_
      refine h_getr dX11_coast_30 fl_X11_19 (by first | assumption | rfl) (by rfl) ?_
      refine h_Vi0 (Y' := M_X9_faultPlace) dX11_coast_33 zw_397 zw_398 zw_399 rfl ok_X9_faultPlace (by decide) rfl (Nat.le_of_ble_eq_true rfl) ⟨rfl, rfl⟩ (by decide) (by first | assumption | rfl) (k_faultPlace) (fun vv σ2 hq => ?_)
      obtain ⟨rfl, rfl⟩ := hq
      refine z_isub dX11_coast_36 ?_
      refine h_iret dX11_coast_37 rfl rfl rfl ?_
      rw [o2]
      have z : ∀ o j, o ≠ 7 → o ≠ 5 → ¬ (13 ≤ o ∧ o ≤ 17) → ¬ (o = 0 ∧ j = 16) → zu σ2 0 16 (coR α).fa o j = σ o j := fun o j h2 h3 h4 h5 => by
        by_cases ho : o = 0
        · subst ho
          rw [zu_j (by omega)]
          exact q4 _ _ h2 h4 h3
        · rw [zu_o ho]
          exact q4 _ _ h2 h4 h3
      refine ⟨by unfold aCoast; rw [if_neg o3, zu_o (by omega), q2], ?_, fun o j h => z o j (by omega) (by omega) (by omega) (by omega)⟩
      unfold nCoast
      rw [if_neg o3]
      exact ⟨⟨(z _ _ (by omega) (by omega) (by omega) (by omega)).trans b1, zu_eq⟩, d1.eq (fun o j h1 h2 => z o j (by omega) (by omega) (by omega) (by omega)), ⟨by rw [zu_o (by omega)]; exact q3, fun i hi => by have hi : (i : Int) < 0 := hi; omega⟩, cR_eq d (fun o j h1 h2 => z o j (by omega) (by omega) (by omega) (by omega)), ⟨⟨(z _ _ (by omega) (by omega) (by omega) (by omega)).trans f1, (z _ _ (by omega) (by omega) (by omega) (by omega)).trans f2⟩, fun h => cR_eq (f3 h) (fun o j h1 h2 => z o j (by omega) (by omega) (by omega) (by omega)), fun h => cR_eq (f4 h) (fun o j h1 h2 => z o j (by omega) (by omega) (by omega) (by omega))⟩, (hAct.eq (fun o j h1 h2 => z o j (by omega) (by omega) (by omega) (by omega))).congr (fun j => badU_10 j), ⟨(z _ _ (by omega) (by omega) (by omega) (by omega)).trans g1, fun i hi => (z _ _ (by omega) (by omega) (by omega) (by omega)).trans (g2 i hi)⟩⟩
end
