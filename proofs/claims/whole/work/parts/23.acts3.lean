/-! acts: seasons, build, turn, buy, undo -/
theorem cok_t {B B' : Int} {t : Nat → Int} (h : cok B t) (h0 : t 0 ≤ B') : cok B' t := ⟨h.1, h.2.1, ⟨h.2.2.1.1, h0⟩, h.2.2.2⟩
theorem zup_ne {f : Nat → Int} {k j : Nat} {x : Int} (h : j ≠ k) : zup f k x j = f j := by
  unfold zup
  rw [if_neg h]
theorem same_go {t : Nat → Int} {s : Int} (h3 : t 3 ≤ 5) : same t (goF t s) := ⟨fun i h1 h2 => (goF_lo (by omega) (by omega)).symm, fun p hp => by
  rw [goF_lo (by omega) (by omega)] at hp
  exact ⟨(goF_lo (by omega) (by omega)).symm, (goF_lo (by omega) (by omega)).symm⟩⟩
theorem same_tr {r s t : Nat → Int} (h1 : same r s) (h2 : same s t) : same r t := ⟨fun i a b => (h1.1 i a b).trans (h2.1 i a b), fun p hp => by
  have e := h2.1 3 (by omega) (by omega)
  have k1 := h1.2 p (by omega)
  have k2 := h2.2 p hp
  exact ⟨k1.1.trans k2.1, k1.2.trans k2.2⟩⟩
theorem OK_now {α : Mem} {t : Nat → Int} (h : OK α) (hk : cok 999 t) (hs : same (α 5) t) : OK (nowU α t) := ⟨h.1, h.2.1, ⟨Or.inl hk, fun j hj => by
  rw [nowU_10]
  have h1 := h.2.2.1.2 j hj
  exact ⟨h1.1, same_tr h1.2 hs⟩⟩, h.2.2.2.1, h.2.2.2.2⟩
theorem OK_psh {α : Mem} (h : OK α) (hk : cok 999 (α 5)) : OK (pshU α) := by
  have hb := h.1.2.2.2.1
  have h3 := hk.2.1
  refine ⟨⟨h.1.1, h.1.2.1, h.1.2.2.1, ⟨show 0 ≤ min 24 (α 0 3 + 1) by omega, show min 24 (α 0 3 + 1) ≤ 24 by omega⟩, h.1.2.2.2.2⟩, h.2.1, ⟨Or.inl hk, fun j hj => ?_⟩, h.2.2.2.1, h.2.2.2.2⟩
  have hj : (j : Int) < min 24 (α 0 3 + 1) := hj
  show cok 999 (pshU α (10 + j)) ∧ same (pshU α (10 + j)) (α 5)
  unfold pshU
  rw [actU_10]
  have rf : same (α 5) (α 5) := ⟨fun _ _ _ => rfl, fun _ _ => ⟨rfl, rfl⟩⟩
  unfold psh
  by_cases h1 : α 0 3 < 24
  · rw [if_pos h1]
    by_cases h2 : j = (α 0 3).toNat
    · rw [if_pos h2]
      exact ⟨hk, rf⟩
    · rw [if_neg h2]
      exact h.2.2.1.2 j (by omega)
  · rw [if_neg h1]
    by_cases h2 : j = 23
    · rw [if_pos h2]
      exact ⟨hk, rf⟩
    · rw [if_neg h2]
      exact h.2.2.1.2 (j + 1) (by omega)
def seaF (α : Mem) : Nat → Mem
  | 0 => α
  | k + 1 => nowU (pshU (seaF α k)) (goF (seaF α k 5) (stF (seaF α k 5)))
theorem seaF_ok {α : Mem} (h : OK α) (hk : cok 999 (α 5)) : ∀ k : Nat, α 5 0 + k ≤ 999 → OK (seaF α k) ∧ cok 999 (seaF α k 5) ∧ seaF α k 5 0 = α 5 0 + k
  | 0, _ => ⟨h, hk, by simp [seaF]⟩
  | k + 1, hn => by
    obtain ⟨h1, h2, h3⟩ := seaF_ok h hk k (by omega)
    have hs := stF_in (seaF α k 5)
    have e0 : goF (seaF α k 5) (stF (seaF α k 5)) 0 = α 5 0 + ((k + 1 : Nat) : Int) := by rw [goF_0, h3]; omega
    have h4 : cok 999 (goF (seaF α k 5) (stF (seaF α k 5))) := cok_t (goF_ok h2 hs.1 hs.2) (by rw [e0]; exact hn)
    exact ⟨OK_now (OK_psh h1 h2) h4 (same_go h2.2.1.2), h4, e0⟩
section
variable {rc : ZRC} {σ α : Mem}
theorem CI_8 (h : CI σ α) : σ 8 4 = α 5 8 ∧ σ 8 5 = α 5 3 ∧ σ 8 6 = α 5 0 ∧ σ 8 7 = α 5 1 ∧ σ 8 8 = α 5 2 ∧ σ 8 12 = α 5 7 := ⟨h.2.2.2.1.1, h.2.2.2.1.2.1, h.2.2.2.1.2.2.1, h.2.2.2.1.2.2.2.1, h.2.2.2.1.2.2.2.2.1, h.2.2.2.1.2.2.2.2.2.2.2.2.1⟩
def aSeas (α : Mem) (n : Int) : Int := if α 5 8 = 0 then STATE else if ¬ (1 ≤ n ∧ n ≤ 24) then BAD else if 999 < α 5 0 + n then FULL else seaF α n.toNat 5 1
def nSeas (α : Mem) (n : Int) : Mem := if α 5 8 = 0 then α else if ¬ (1 ≤ n ∧ n ≤ 24) then α else if 999 < α 5 0 + n then α else seaF α n.toNat
theorem c_seasons {n : Int} (hC : CI σ α) (hO : OK α) (hn : zin n) : KI rc M_X11_seasons [zR 0, zI n] σ (cP σ α (aSeas α n) (nSeas α n)) := by
  have h8 := OKc_8 hO
  obtain ⟨e4, e5, e6, e7, e8, e12⟩ := CI_8 hC
  have a0 := (OKc_70 hO).2
  refine K_of 1 (by decide) (Nat.le_of_ble_eq_true rfl) (show Z _ _ 0 0 0 [some (zR 0), some (zI n), none] [] _ _ from ?_)
  first | refine z_aload_n dX11_seasons_0 rfl ?_ | refine z_aload_nT dX11_seasons_0 rfl ?_
  refine h_getr dX11_seasons_1 fl_X11_26 (by first | assumption | rfl) (by rfl) ?_
  refine h_geti dX11_seasons_4 fl_X11_176 (by first | assumption | rfl) (by rfl) ?_
  refine z_if_ne (tgt := 13) dX11_seasons_7 (by decide) (by omega) (fun b7 => ?_) (fun b7 => ?_)
  · refine z_iload_n dX11_seasons_13 rfl ?_
    refine z_iconst dX11_seasons_14 ?_
    refine z_bipush dX11_seasons_15 rfl ?_
    refine h_Si3 (Y' := M_X11_isWithin) dX11_seasons_17 zw_265 zw_266 ok_X11_isWithin (by decide) rfl (Nat.le_of_ble_eq_true rfl) ⟨rfl, rfl⟩ (by decide) (c_within hn (by omega) (by omega)) (fun vv σ2 hq => ?_)
    obtain ⟨hv, rfl⟩ := hq
    refine z_if_ne (tgt := 26) dX11_seasons_20 (by decide) (by omega) (fun b20 => ?_) (fun b20 => ?_)
    · first | refine z_aload_n dX11_seasons_26 rfl ?_ | refine z_aload_nT dX11_seasons_26 rfl ?_
      refine h_getr dX11_seasons_27 fl_X11_26 (by first | assumption | rfl) (by rfl) ?_
      refine h_geti dX11_seasons_30 fl_X11_181 (by first | assumption | rfl) (by rfl) ?_
      refine z_iload_n dX11_seasons_33 rfl ?_
      refine z_iadd dX11_seasons_34 ?_
      refine z_sipush dX11_seasons_35 rfl ?_
      refine z_icmp_le (tgt := 44) dX11_seasons_38 (by decide) (by omega) (by omega) (fun b38 => ?_) (fun b38 => ?_)
      · have hk := OKc_s hO (by omega)
        obtain ⟨d, rfl⟩ : ∃ p : Nat, n = (p : Int) := ⟨n.toNat, by omega⟩
        have loop : ∀ m k : Nat, k + m = d → ∀ σ' : Mem, CI σ' (seaF α k) → fr 0 40 σ2 σ' → Z rc M_X11_seasons 0 0 46 [some (zR 0), some (zI (d : Int)), some (zI (k : Int))] [] (hp σ') (qI (cP σ2 α (seaF α d 5 1) (seaF α d))) := by
          intro m
          induction m with
          | zero =>
            intro k hkm σ' i1 i2
            refine z_iload_n dX11_seasons_46 rfl ?_
            refine z_iload_n dX11_seasons_47 rfl ?_
            refine z_icmp_ge (tgt := 82) dX11_seasons_48 (by decide) (by omega) (by omega) (fun b48 => ?_) (fun b48 => ?_)
            · first | refine z_aload_n dX11_seasons_82 rfl ?_ | refine z_aload_nT dX11_seasons_82 rfl ?_
              refine h_getr dX11_seasons_83 fl_X11_26 (by first | assumption | rfl) (by rfl) ?_
              refine h_geti dX11_seasons_86 fl_X11_194 (by first | assumption | rfl) (by rfl) ?_
              refine h_iret dX11_seasons_89 rfl rfl rfl ?_
              have ekd : k = d := by omega
              subst ekd
              exact ⟨(CI_8 i1).2.2.2.1, i1, i2⟩
            · omega
          | succ m ih =>
            intro k hkm σ' i1 i2
            obtain ⟨o1, o2, o3⟩ := seaF_ok hO hk k (by omega)
            have hs := stF_in (seaF α k 5)
            refine z_iload_n dX11_seasons_46 rfl ?_
            refine z_iload_n dX11_seasons_47 rfl ?_
            refine z_icmp_ge (tgt := 82) dX11_seasons_48 (by decide) (by omega) (by omega) (fun b48 => ?_) (fun b48 => ?_)
            · omega
            · first | refine z_aload_n dX11_seasons_51 rfl ?_ | refine z_aload_nT dX11_seasons_51 rfl ?_
              refine h_getr dX11_seasons_52 fl_X11_42 (by first | assumption | rfl) (by rfl) ?_
              first | refine z_aload_n dX11_seasons_55 rfl ?_ | refine z_aload_nT dX11_seasons_55 rfl ?_
              refine h_getr dX11_seasons_56 fl_X11_26 (by first | assumption | rfl) (by rfl) ?_
              refine h_Vv1 (Y' := M_X4_keep) dX11_seasons_59 zw_418 zw_419 zw_420 rfl ok_X4_keep (by decide) rfl (Nat.le_of_ble_eq_true rfl) ⟨rfl, rfl⟩ (by decide) (by first | assumption | rfl) (k_keep i1 o1) (fun σ2 hq => ?_)
              obtain ⟨j1, j2⟩ := hq
              obtain ⟨f4, f5, f6, f7, f8, f12⟩ := CI_8 j1
              have o2' : cok 999 (pshU (seaF α k) 5) := o2
              first | refine z_aload_n dX11_seasons_62 rfl ?_ | refine z_aload_nT dX11_seasons_62 rfl ?_
              refine h_getr dX11_seasons_63 fl_X11_26 (by first | assumption | rfl) (by rfl) ?_
              first | refine z_aload_n dX11_seasons_66 rfl ?_ | refine z_aload_nT dX11_seasons_66 rfl ?_
              refine h_getr dX11_seasons_67 fl_X11_26 (by first | assumption | rfl) (by rfl) ?_
              refine h_Vi0 (Y' := M_X2_storm) dX11_seasons_70 zw_425 zw_426 zw_427 rfl ok_X2_storm (by decide) rfl (Nat.le_of_ble_eq_true rfl) ⟨rfl, rfl⟩ (by decide) (by first | assumption | rfl) (k_storm (t := seaF α k 5) (Or.inl rfl) f12 f6 o2.2.2.2.2.2.2.2.2.1 o2.2.2.1.1 (by have := o2.2.2.1.2; omega)) (fun vv σ2 hq => ?_)
              obtain ⟨rfl, rfl⟩ := hq
              refine h_Vv1 (Y' := M_X2_pass) dX11_seasons_73 zw_433 zw_434 zw_435 rfl ok_X2_pass (by decide) rfl (Nat.le_of_ble_eq_true rfl) ⟨rfl, rfl⟩ (by decide) (by first | assumption | rfl) (k_pass (t := seaF α k 5) (Or.inl rfl) j1.2.2.2.1 o2 (by omega) hs.1 hs.2) (fun σ2 hq => ?_)
              obtain ⟨j3, j4⟩ := hq
              refine z_iinc dX11_seasons_76 rfl (by decide) rfl ?_
              refine z_goto (tgt := 46) dX11_seasons_79 (by decide) ?_
              have h9 := ih (k + 1) (by omega) _ (CI_now j1 j3 (goF_lo (by omega) (by omega)) j4) (fun o j h => by rw [j4 o j (by omega), j2 o j (by omega) (by omega)]; exact i2 o j h)
              rw [nsucc] at h9
              exact h9
        refine z_iconst dX11_seasons_44 ?_
        refine z_istore_n dX11_seasons_45 (by decide) rfl ?_
        refine Z_mono (loop d 0 (Nat.zero_add _) σ2 hC fr.rf) (fun v σ' hq => ?_)
        refine ⟨?_, ?_, hq.2.2⟩
        · unfold aSeas
          rw [if_neg (by omega), if_neg (by omega), if_neg (by omega)]
          exact hq.1
        · unfold nSeas
          rw [if_neg (by omega), if_neg (by omega), if_neg (by omega)]
          exact hq.2.1
      · refine z_ldc (n := -1000003) dX11_seasons_41 zw_329 rfl ?_
        refine h_iret dX11_seasons_43 rfl rfl rfl ?_
        exact ⟨by unfold aSeas; rw [if_neg (by omega), if_neg (by omega), if_pos (by omega)], by unfold nSeas; rw [if_neg (by omega), if_neg (by omega), if_pos (by omega)]; exact hC, fr.rf⟩
    · refine z_ldc (n := -1000001) dX11_seasons_23 zw_268 rfl ?_
      refine h_iret dX11_seasons_25 rfl rfl rfl ?_
      exact ⟨by unfold aSeas; rw [if_neg (by omega), if_pos (by omega)], by unfold nSeas; rw [if_neg (by omega), if_pos (by omega)]; exact hC, fr.rf⟩
  · refine z_ldc (n := -1000002) dX11_seasons_10 zw_417 rfl ?_
    refine h_iret dX11_seasons_12 rfl rfl rfl ?_
    exact ⟨by unfold aSeas; rw [if_pos (by omega)], by unfold nSeas; rw [if_pos (by omega)]; exact hC, fr.rf⟩
theorem r_seasons {n : Int} (hM : MI σ α) (hO : OK α) (hn : zin n) : KI rc M_X12_seasons [zR 40, zI n] σ (mP σ α (aSeas α n) (nSeas α n)) := by
  have h8 := OKc_8 hO
  have hR := hM.2.2.2.1
  have e0 := hR 0 (by omega)
  have a0 := (OKc_70 hO).2
  refine K_of 1 (by decide) (Nat.le_of_ble_eq_true rfl) (show Z _ _ 0 0 0 [some (zR 40), some (zI n), none] [] _ _ from ?_)
  first | refine z_aload_n dX12_seasons_0 rfl ?_ | refine z_aload_nT dX12_seasons_0 rfl ?_
  refine h_Vi0 (Y' := M_X12_isCoast) dX12_seasons_1 zw_941 zw_943 zs_36 rfl ok_X12_isCoast (by decide) rfl (Nat.le_of_ble_eq_true rfl) ⟨rfl, rfl⟩ (by decide) (by first | assumption | rfl) (m_isCoast (hR 8 (by omega)) h8) (fun vv σ2 hq => ?_)
  obtain ⟨rfl, rfl⟩ := hq
  refine z_if_ne (tgt := 10) dX12_seasons_4 (by decide) (by omega) (fun b4 => ?_) (fun b4 => ?_)
  · refine z_iload_n dX12_seasons_10 rfl ?_
    refine z_iconst dX12_seasons_11 ?_
    refine z_bipush dX12_seasons_12 rfl ?_
    refine h_Si3 (Y' := M_X12_in) dX12_seasons_14 zw_857 zw_858 ok_X12_in (by decide) rfl (Nat.le_of_ble_eq_true rfl) ⟨rfl, rfl⟩ (by decide) (m_within hn (by omega) (by omega)) (fun vv σ2 hq => ?_)
    obtain ⟨hv, rfl⟩ := hq
    refine z_if_ne (tgt := 23) dX12_seasons_17 (by decide) (by omega) (fun b17 => ?_) (fun b17 => ?_)
    · first | refine z_aload_n dX12_seasons_23 rfl ?_ | refine z_aload_nT dX12_seasons_23 rfl ?_
      refine h_getr dX12_seasons_24 fl_X12_22 (by first | assumption | rfl) (by rfl) ?_
      refine z_iconst dX12_seasons_27 ?_
      first | refine h_iald dX12_seasons_28 (by first | assumption | rfl) (by repeat' first | apply zc_add | apply zc_mul | with_reducible exact zc_var _ | exact zc_lit _) (by omega) (by decide) ?_ | refine z_ialdT _ dX12_seasons_28 (by assumption) (by repeat' first | apply zc_add | apply zc_mul | with_reducible exact zc_var _ | exact zc_lit _) (by omega) (by omega) ?_
      refine z_iload_n dX12_seasons_29 rfl ?_
      refine z_iadd dX12_seasons_30 ?_
      refine z_sipush dX12_seasons_31 rfl ?_
      refine z_icmp_le (tgt := 40) dX12_seasons_34 (by decide) (by omega) (by omega) (fun b34 => ?_) (fun b34 => ?_)
      · have hk := OKc_s hO (by omega)
        obtain ⟨d, rfl⟩ : ∃ p : Nat, n = (p : Int) := ⟨n.toNat, by omega⟩
        have loop : ∀ m k : Nat, k + m = d → ∀ σ' : Mem, MI σ' (seaF α k) → fr 40 15 σ2 σ' → Z rc M_X12_seasons 0 0 42 [some (zR 40), some (zI (d : Int)), some (zI (k : Int))] [] (hp σ') (qI (mP σ2 α (seaF α d 5 1) (seaF α d))) := by
          intro m
          induction m with
          | zero =>
            intro k hkm σ' i1 i2
            refine z_iload_n dX12_seasons_42 rfl ?_
            refine z_iload_n dX12_seasons_43 rfl ?_
            refine z_icmp_ge (tgt := 71) dX12_seasons_44 (by decide) (by omega) (by omega) (fun b44 => ?_) (fun b44 => ?_)
            · first | refine z_aload_n dX12_seasons_71 rfl ?_ | refine z_aload_nT dX12_seasons_71 rfl ?_
              refine h_getr dX12_seasons_72 fl_X12_22 (by first | assumption | rfl) (by rfl) ?_
              refine z_iconst dX12_seasons_75 ?_
              first | refine h_iald dX12_seasons_76 (by first | assumption | rfl) (by repeat' first | apply zc_add | apply zc_mul | with_reducible exact zc_var _ | exact zc_lit _) (by omega) (by decide) ?_ | refine z_ialdT _ dX12_seasons_76 (by assumption) (by repeat' first | apply zc_add | apply zc_mul | with_reducible exact zc_var _ | exact zc_lit _) (by omega) (by omega) ?_
              refine h_iret dX12_seasons_77 rfl rfl rfl ?_
              have ekd : k = d := by omega
              subst ekd
              exact ⟨i1.2.2.2.1 1 (by omega), i1, i2⟩
            · omega
          | succ m ih =>
            intro k hkm σ' i1 i2
            obtain ⟨o1, o2, o3⟩ := seaF_ok hO hk k (by omega)
            have hs := stF_in (seaF α k 5)
            refine z_iload_n dX12_seasons_42 rfl ?_
            refine z_iload_n dX12_seasons_43 rfl ?_
            refine z_icmp_ge (tgt := 71) dX12_seasons_44 (by decide) (by omega) (by omega) (fun b44 => ?_) (fun b44 => ?_)
            · omega
            · first | refine z_aload_n dX12_seasons_47 rfl ?_ | refine z_aload_nT dX12_seasons_47 rfl ?_
              refine h_Vv0 (Y' := M_X12_note) dX12_seasons_48 zw_946 zw_948 zs_37 rfl ok_X12_note (by decide) rfl (Nat.le_of_ble_eq_true rfl) ⟨rfl, rfl⟩ (by decide) (by first | assumption | rfl) (m_note i1 o1) (fun σ2 hq => ?_)
              obtain ⟨j1, j2⟩ := hq
              have jR : mR σ2 45 (seaF α k 5) := j1.2.2.2.1
              first | refine z_aload_n dX12_seasons_51 rfl ?_ | refine z_aload_nT dX12_seasons_51 rfl ?_
              refine h_getr dX12_seasons_52 fl_X12_22 (by first | assumption | rfl) (by rfl) ?_
              first | refine z_aload_n dX12_seasons_55 rfl ?_ | refine z_aload_nT dX12_seasons_55 rfl ?_
              refine h_getr dX12_seasons_56 fl_X12_22 (by first | assumption | rfl) (by rfl) ?_
              refine h_Si1 (Y' := M_X12_stormIn) dX12_seasons_59 zw_950 zw_951 ok_X12_stormIn (by decide) rfl (Nat.le_of_ble_eq_true rfl) ⟨rfl, rfl⟩ (by decide) (m_stormIn (t := seaF α k 5) rfl (jR 0 (by omega)) (jR 7 (by omega)) o2.2.2.2.2.2.2.2.2.1 ⟨o2.2.2.1.1, by have := o2.2.2.1.2; omega⟩) (fun vv σ2 hq => ?_)
              obtain ⟨rfl, rfl⟩ := hq
              refine h_Sv2 (Y' := M_X12_goBy) dX12_seasons_62 zw_953 zw_954 ok_X12_goBy (by decide) rfl (Nat.le_of_ble_eq_true rfl) ⟨rfl, rfl⟩ (by decide) (m_goBy rfl jR o2 (by omega) hs.1 hs.2) (fun σ2 hq => ?_)
              obtain ⟨j3, j4⟩ := hq
              refine z_iinc dX12_seasons_65 rfl (by decide) rfl ?_
              refine z_goto (tgt := 42) dX12_seasons_68 (by decide) ?_
              have h9 := ih (k + 1) (by omega) _ (MI_now j1 j3 j4) (fun o j h => by rw [j4 o j (by omega), j2 o j (by omega) (by omega)]; exact i2 o j h)
              rw [nsucc] at h9
              exact h9
        refine z_iconst dX12_seasons_40 ?_
        refine z_istore_n dX12_seasons_41 (by decide) rfl ?_
        refine Z_mono (loop d 0 (Nat.zero_add _) σ2 hM fr.rf) (fun v σ' hq => ?_)
        refine ⟨?_, ?_, hq.2.2⟩
        · unfold aSeas
          rw [if_neg (by omega), if_neg (by omega), if_neg (by omega)]
          exact hq.1
        · unfold nSeas
          rw [if_neg (by omega), if_neg (by omega), if_neg (by omega)]
          exact hq.2.1
      · refine z_ldc (n := -1000003) dX12_seasons_37 zw_889 rfl ?_
        refine h_iret dX12_seasons_39 rfl rfl rfl ?_
        exact ⟨by unfold aSeas; rw [if_neg (by omega), if_neg (by omega), if_pos (by omega)], by unfold nSeas; rw [if_neg (by omega), if_neg (by omega), if_pos (by omega)]; exact hM, fr.rf⟩
    · refine z_ldc (n := -1000001) dX12_seasons_20 zw_860 rfl ?_
      refine h_iret dX12_seasons_22 rfl rfl rfl ?_
      exact ⟨by unfold aSeas; rw [if_neg (by omega), if_pos (by omega)], by unfold nSeas; rw [if_neg (by omega), if_pos (by omega)]; exact hM, fr.rf⟩
  · refine z_ldc (n := -1000002) dX12_seasons_7 zw_945 rfl ?_
    refine h_iret dX12_seasons_9 rfl rfl rfl ?_
    exact ⟨by unfold aSeas; rw [if_pos (by omega)], by unfold nSeas; rw [if_pos (by omega)]; exact hM, fr.rf⟩
def aBuild (α : Mem) (a : Int) : Int := if ¬ (0 ≤ a ∧ a < α 5 3) then BAD else if α 5 2 = 0 then STATE else if α 5 (24 + a.toNat) = 99 then FULL else α 5 (24 + a.toNat) + 1
def nBuild (α : Mem) (a : Int) : Mem := if ¬ (0 ≤ a ∧ a < α 5 3) then α else if α 5 2 = 0 then α else if α 5 (24 + a.toNat) = 99 then α else nowU (pshU α) (zup (zup (α 5) (24 + a.toNat) (α 5 (24 + a.toNat) + 1)) 2 (α 5 2 - 1))
theorem c_build {a : Int} (hC : CI σ α) (hO : OK α) (ha : zin a) : KI rc M_X11_build [zR 0, zI a] σ (cP σ α (aBuild α a) (nBuild α a)) := by
  have h3 := OKc_3 hO
  have hR := hC.2.2.2.1
  obtain ⟨e4, e5, e6, e7, e8, e12⟩ := CI_8 hC
  refine K_of 0 (by decide) (Nat.le_of_ble_eq_true rfl) (show Z _ _ 0 0 0 [some (zR 0), some (zI a)] [] _ _ from ?_)
  first | refine z_aload_n dX11_build_0 rfl ?_ | refine z_aload_nT dX11_build_0 rfl ?_
  refine z_iload_n dX11_build_1 rfl ?_
  refine h_Vi1 (Y' := M_X11_isPier) dX11_build_2 zw_468 zw_470 zs_10 rfl ok_X11_isPier (by decide) rfl (Nat.le_of_ble_eq_true rfl) ⟨rfl, rfl⟩ (by decide) (by first | assumption | rfl) (c_isPier ha hR.2.1 h3) (fun vv σ2 hq => ?_)
  obtain ⟨hv1, rfl⟩ := hq
  refine z_if_ne (tgt := 11) dX11_build_5 (by decide) (by omega) (fun b5 => ?_) (fun b5 => ?_)
  · have hk := OKc_p hO (a := a) (by omega) (by omega)
    obtain ⟨p, rfl⟩ : ∃ p : Nat, a = (p : Int) := ⟨a.toNat, by omega⟩
    obtain ⟨p1, p2, p3, p4⟩ := cR8p hR (p := p) (by omega)
    obtain ⟨q1, q2, q3, q4⟩ := hk.2.2.2.2.2.2.2.2.2 p (by omega)
    have k2 := hk.2.2.2.2.1
    first | refine z_aload_n dX11_build_11 rfl ?_ | refine z_aload_nT dX11_build_11 rfl ?_
    refine h_getr dX11_build_12 fl_X11_26 (by first | assumption | rfl) (by rfl) ?_
    refine h_geti dX11_build_15 fl_X11_200 (by first | assumption | rfl) (by rfl) ?_
    refine z_if_ne (tgt := 24) dX11_build_18 (by decide) (by omega) (fun b18 => ?_) (fun b18 => ?_)
    · first | refine z_aload_n dX11_build_24 rfl ?_ | refine z_aload_nT dX11_build_24 rfl ?_
      refine h_getr dX11_build_25 fl_X11_26 (by first | assumption | rfl) (by rfl) ?_
      refine h_getr dX11_build_28 fl_X11_203 (by first | assumption | rfl) (by rfl) ?_
      refine z_iload_n dX11_build_31 rfl ?_
      first | refine h_iald dX11_build_32 (by first | assumption | rfl) (by repeat' first | apply zc_add | apply zc_mul | with_reducible exact zc_var _ | exact zc_lit _) (by omega) (by decide) ?_ | refine z_ialdT _ dX11_build_32 (by assumption) (by repeat' first | apply zc_add | apply zc_mul | with_reducible exact zc_var _ | exact zc_lit _) (by omega) (by omega) ?_
      refine z_bipush dX11_build_33 rfl ?_
      refine z_icmp_lt (tgt := 41) dX11_build_35 (by decide) (by omega) (by omega) (fun b35 => ?_) (fun b35 => ?_)
      · first | refine z_aload_n dX11_build_41 rfl ?_ | refine z_aload_nT dX11_build_41 rfl ?_
        refine h_getr dX11_build_42 fl_X11_42 (by first | assumption | rfl) (by rfl) ?_
        first | refine z_aload_n dX11_build_45 rfl ?_ | refine z_aload_nT dX11_build_45 rfl ?_
        refine h_getr dX11_build_46 fl_X11_26 (by first | assumption | rfl) (by rfl) ?_
        refine h_Vv1 (Y' := M_X4_keep) dX11_build_49 zw_418 zw_419 zw_420 rfl ok_X4_keep (by decide) rfl (Nat.le_of_ble_eq_true rfl) ⟨rfl, rfl⟩ (by decide) (by first | assumption | rfl) (k_keep hC hO) (fun σ2 hq => ?_)
        obtain ⟨j1, j2⟩ := hq
        first | refine z_aload_n dX11_build_52 rfl ?_ | refine z_aload_nT dX11_build_52 rfl ?_
        refine h_getr dX11_build_53 fl_X11_26 (by first | assumption | rfl) (by rfl) ?_
        refine z_iload_n dX11_build_56 rfl ?_
        refine h_Vv1 (Y' := M_X2_buildSpan) dX11_build_57 zw_472 zw_473 zw_474 rfl ok_X2_buildSpan (by decide) rfl (Nat.le_of_ble_eq_true rfl) ⟨rfl, rfl⟩ (by decide) (by first | assumption | rfl) (k_buildSpan (t := α 5) (Or.inl rfl) j1.2.2.2.1 h3 (by omega)) (fun σ2 hq => ?_)
        obtain ⟨j3, j4⟩ := hq
        obtain ⟨_, _, _, s4⟩ := cR8p j3 (p := p) (by rw [zup_ne (by omega), zup_ne (by omega)]; omega)
        first | refine z_aload_n dX11_build_60 rfl ?_ | refine z_aload_nT dX11_build_60 rfl ?_
        refine h_getr dX11_build_61 fl_X11_26 (by first | assumption | rfl) (by rfl) ?_
        refine h_getr dX11_build_64 fl_X11_203 (by first | assumption | rfl) (by rfl) ?_
        refine z_iload_n dX11_build_67 rfl ?_
        first | refine h_iald dX11_build_68 (by first | assumption | rfl) (by repeat' first | apply zc_add | apply zc_mul | with_reducible exact zc_var _ | exact zc_lit _) (by omega) (by decide) ?_ | refine z_ialdT _ dX11_build_68 (by assumption) (by repeat' first | apply zc_add | apply zc_mul | with_reducible exact zc_var _ | exact zc_lit _) (by omega) (by omega) ?_
        refine h_iret dX11_build_69 rfl rfl rfl ?_
        refine ⟨?_, ?_, fun o j h => by rw [j4 o j (by omega), j2 o j (by omega) (by omega)]⟩
        · unfold aBuild
          rw [if_neg (by omega), if_neg (by omega), if_neg (by show ¬ α 5 (24 + p) = 99; omega)]
          refine s4.trans ?_
          unfold zup
          rw [if_neg (by omega), if_pos rfl]
          rfl
        · unfold nBuild
          rw [if_neg (by omega), if_neg (by omega), if_neg (by show ¬ α 5 (24 + p) = 99; omega)]
          exact CI_now j1 j3 (by rw [zup_ne (by omega), zup_ne (by omega)]; rfl) j4
      · refine z_ldc (n := -1000003) dX11_build_38 zw_329 rfl ?_
        refine h_iret dX11_build_40 rfl rfl rfl ?_
        exact ⟨by unfold aBuild; rw [if_neg (by omega), if_neg (by omega), if_pos (by show α 5 (24 + p) = 99; omega)], by unfold nBuild; rw [if_neg (by omega), if_neg (by omega), if_pos (by show α 5 (24 + p) = 99; omega)]; exact hC, fr.rf⟩
    · refine z_ldc (n := -1000002) dX11_build_21 zw_417 rfl ?_
      refine h_iret dX11_build_23 rfl rfl rfl ?_
      exact ⟨by unfold aBuild; rw [if_neg (by omega), if_pos (by omega)], by unfold nBuild; rw [if_neg (by omega), if_pos (by omega)]; exact hC, fr.rf⟩
  · refine z_ldc (n := -1000001) dX11_build_8 zw_268 rfl ?_
    refine h_iret dX11_build_10 rfl rfl rfl ?_
    exact ⟨by unfold aBuild; rw [if_pos (by omega)], by unfold nBuild; rw [if_pos (by omega)]; exact hC, fr.rf⟩
theorem r_build {a : Int} (hM : MI σ α) (hO : OK α) (ha : zin a) : KI rc M_X12_build [zR 40, zI a] σ (mP σ α (aBuild α a) (nBuild α a)) := by
  have h3 := OKc_3 hO
  have hR := hM.2.2.2.1
  have e2 := hR 2 (by omega)
  refine K_of 0 (by decide) (Nat.le_of_ble_eq_true rfl) (show Z _ _ 0 0 0 [some (zR 40), some (zI a)] [] _ _ from ?_)
  first | refine z_aload_n dX12_build_0 rfl ?_ | refine z_aload_nT dX12_build_0 rfl ?_
  refine z_iload_n dX12_build_1 rfl ?_
  refine h_Vi1 (Y' := M_X12_isOne) dX12_build_2 zw_975 zw_977 zs_38 rfl ok_X12_isOne (by decide) rfl (Nat.le_of_ble_eq_true rfl) ⟨rfl, rfl⟩ (by decide) (by first | assumption | rfl) (m_isOne ha (hR 3 (by omega)) h3) (fun vv σ2 hq => ?_)
  obtain ⟨hv1, rfl⟩ := hq
  refine z_if_ne (tgt := 11) dX12_build_5 (by decide) (by omega) (fun b5 => ?_) (fun b5 => ?_)
  · have hk := OKc_p hO (a := a) (by omega) (by omega)
    obtain ⟨p, rfl⟩ : ∃ p : Nat, a = (p : Int) := ⟨a.toNat, by omega⟩
    have p4 := hR (24 + p) (by omega)
    obtain ⟨q1, q2, q3, q4⟩ := hk.2.2.2.2.2.2.2.2.2 p (by omega)
    have k2 := hk.2.2.2.2.1
    first | refine z_aload_n dX12_build_11 rfl ?_ | refine z_aload_nT dX12_build_11 rfl ?_
    refine h_getr dX12_build_12 fl_X12_22 (by first | assumption | rfl) (by rfl) ?_
    refine z_iconst dX12_build_15 ?_
    first | refine h_iald dX12_build_16 (by first | assumption | rfl) (by repeat' first | apply zc_add | apply zc_mul | with_reducible exact zc_var _ | exact zc_lit _) (by omega) (by decide) ?_ | refine z_ialdT _ dX12_build_16 (by assumption) (by repeat' first | apply zc_add | apply zc_mul | with_reducible exact zc_var _ | exact zc_lit _) (by omega) (by omega) ?_
    refine z_if_ne (tgt := 23) dX12_build_17 (by decide) (by omega) (fun b17 => ?_) (fun b17 => ?_)
    · first | refine z_aload_n dX12_build_23 rfl ?_ | refine z_aload_nT dX12_build_23 rfl ?_
      refine h_getr dX12_build_24 fl_X12_22 (by first | assumption | rfl) (by rfl) ?_
      refine z_bipush dX12_build_27 rfl ?_
      refine z_iload_n dX12_build_29 rfl ?_
      refine z_iadd dX12_build_30 ?_
      first | refine h_iald dX12_build_31 (by first | assumption | rfl) (by repeat' first | apply zc_add | apply zc_mul | with_reducible exact zc_var _ | exact zc_lit _) (by omega) (by decide) ?_ | refine z_ialdT _ dX12_build_31 (by assumption) (by repeat' first | apply zc_add | apply zc_mul | with_reducible exact zc_var _ | exact zc_lit _) (by omega) (by omega) ?_
      refine z_bipush dX12_build_32 rfl ?_
      refine z_icmp_ne (tgt := 40) dX12_build_34 (by decide) (by omega) (by omega) (fun b34 => ?_) (fun b34 => ?_)
      · first | refine z_aload_n dX12_build_40 rfl ?_ | refine z_aload_nT dX12_build_40 rfl ?_
        refine h_Vv0 (Y' := M_X12_note) dX12_build_41 zw_946 zw_948 zs_37 rfl ok_X12_note (by decide) rfl (Nat.le_of_ble_eq_true rfl) ⟨rfl, rfl⟩ (by decide) (by first | assumption | rfl) (m_note hM hO) (fun σ2 hq => ?_)
        obtain ⟨j1, j2⟩ := hq
        have jR : mR σ2 45 (α 5) := j1.2.2.2.1
        have g2 := jR 2 (by omega)
        have g4 := jR (24 + p) (by omega)
        first | refine z_aload_n dX12_build_44 rfl ?_ | refine z_aload_nT dX12_build_44 rfl ?_
        refine h_getr dX12_build_45 fl_X12_22 (by first | assumption | rfl) (by rfl) ?_
        refine z_iconst dX12_build_48 ?_
        refine z_dup2 dX12_build_49 rfl rfl ?_
        first | refine h_iald dX12_build_50 (by first | assumption | rfl) (by repeat' first | apply zc_add | apply zc_mul | with_reducible exact zc_var _ | exact zc_lit _) (by omega) (by decide) ?_ | refine z_ialdT _ dX12_build_50 (by assumption) (by repeat' first | apply zc_add | apply zc_mul | with_reducible exact zc_var _ | exact zc_lit _) (by omega) (by omega) ?_
        refine z_iconst dX12_build_51 ?_
        refine z_isub dX12_build_52 ?_
        refine h_iast dX12_build_53 (by first | assumption | rfl) (by repeat' first | apply zc_add | apply zc_mul | with_reducible exact zc_var _ | exact zc_lit _) (by omega) (by decide) ?_
        first | refine z_aload_n dX12_build_54 rfl ?_ | refine z_aload_nT dX12_build_54 rfl ?_
        refine h_getr dX12_build_55 fl_X12_22 (by first | assumption | rfl) (by rfl) ?_
        refine z_bipush dX12_build_58 rfl ?_
        refine z_iload_n dX12_build_60 rfl ?_
        refine z_iadd dX12_build_61 ?_
        refine z_dup2 dX12_build_62 rfl rfl ?_
        first | refine h_iald dX12_build_63 (by first | assumption | rfl) (by repeat' first | apply zc_add | apply zc_mul | with_reducible exact zc_var _ | exact zc_lit _) (by omega) (by decide) ?_ | refine z_ialdT _ dX12_build_63 (by assumption) (by repeat' first | apply zc_add | apply zc_mul | with_reducible exact zc_var _ | exact zc_lit _) (by omega) (by omega) ?_
        refine z_iconst dX12_build_64 ?_
        refine z_iadd dX12_build_65 ?_
        refine h_iast dX12_build_66 (by first | assumption | rfl) (by repeat' first | apply zc_add | apply zc_mul | with_reducible exact zc_var _ | exact zc_lit _) (by omega) (by decide) ?_
        rw [g2]
        have g5 : zu σ2 45 2 (α 5 2 - 1) 45 (24 + p) = α 5 (24 + p) := by rw [zu_j (by omega), g4]
        rw [g5]
        first | refine z_aload_n dX12_build_67 rfl ?_ | refine z_aload_nT dX12_build_67 rfl ?_
        refine h_getr dX12_build_68 fl_X12_22 (by first | assumption | rfl) (by rfl) ?_
        refine z_bipush dX12_build_71 rfl ?_
        refine z_iload_n dX12_build_73 rfl ?_
        refine z_iadd dX12_build_74 ?_
        first | refine h_iald dX12_build_75 (by first | assumption | rfl) (by repeat' first | apply zc_add | apply zc_mul | with_reducible exact zc_var _ | exact zc_lit _) (by omega) (by decide) ?_ | refine z_ialdT _ dX12_build_75 (by assumption) (by repeat' first | apply zc_add | apply zc_mul | with_reducible exact zc_var _ | exact zc_lit _) (by omega) (by omega) ?_
        refine h_iret dX12_build_76 rfl rfl rfl ?_
        refine ⟨?_, ?_, fun o j h => by rw [zu_o (by omega), zu_o (by omega), j2 o j (by omega) (by omega)]⟩
        · unfold aBuild
          rw [if_neg (by omega), if_neg (by omega), if_neg (by show ¬ α 5 (24 + p) = 99; omega), zu_eq]
          rfl
        · unfold nBuild
          rw [if_neg (by omega), if_neg (by omega), if_neg (by show ¬ α 5 (24 + p) = 99; omega)]
          refine MI_now j1 (fun i hi => ?_) (fun o j h => by rw [zu_o h, zu_o h])
          show _ = zup (zup (α 5) (24 + p) (α 5 (24 + p) + 1)) 2 (α 5 2 - 1) i
          unfold zup
          by_cases h1 : i = 2
          · subst h1
            rw [zu_j (by omega), zu_eq, if_pos rfl]
          · rw [if_neg h1]
            by_cases h2 : i = 24 + p
            · subst h2
              rw [zu_eq, if_pos rfl]
            · rw [zu_j h2, zu_j h1, if_neg h2]
              exact jR i hi
      · refine z_ldc (n := -1000003) dX12_build_37 zw_889 rfl ?_
        refine h_iret dX12_build_39 rfl rfl rfl ?_
        exact ⟨by unfold aBuild; rw [if_neg (by omega), if_neg (by omega), if_pos (by show α 5 (24 + p) = 99; omega)], by unfold nBuild; rw [if_neg (by omega), if_neg (by omega), if_pos (by show α 5 (24 + p) = 99; omega)]; exact hM, fr.rf⟩
    · refine z_ldc (n := -1000002) dX12_build_20 zw_945 rfl ?_
      refine h_iret dX12_build_22 rfl rfl rfl ?_
      exact ⟨by unfold aBuild; rw [if_neg (by omega), if_pos (by omega)], by unfold nBuild; rw [if_neg (by omega), if_pos (by omega)]; exact hM, fr.rf⟩
  · refine z_ldc (n := -1000001) dX12_build_8 zw_860 rfl ?_
    refine h_iret dX12_build_10 rfl rfl rfl ?_
    exact ⟨by unfold aBuild; rw [if_pos (by omega)], by unfold nBuild; rw [if_pos (by omega)]; exact hM, fr.rf⟩
def aTurn (α : Mem) (a l : Int) : Int := if ¬ (0 ≤ a ∧ a < α 5 3) ∨ ¬ (0 ≤ l ∧ l ≤ 2) then BAD else if α 5 (19 + a.toNat) = l then STATE else α 5 (19 + a.toNat)
def nTurn (α : Mem) (a l : Int) : Mem := if ¬ (0 ≤ a ∧ a < α 5 3) ∨ ¬ (0 ≤ l ∧ l ≤ 2) then α else if α 5 (19 + a.toNat) = l then α else nowU (pshU α) (zup (α 5) (19 + a.toNat) l)
theorem c_turn {a l : Int} (hC : CI σ α) (hO : OK α) (ha : zin a) (hl : zin l) : KI rc M_X11_turn [zR 0, zI a, zI l] σ (cP σ α (aTurn α a l) (nTurn α a l)) := by
  have h3 := OKc_3 hO
  have hR := hC.2.2.2.1
  have bad : ∀ σ2 : Mem, σ2 = σ → (¬ (0 ≤ a ∧ a < α 5 3) ∨ ¬ (0 ≤ l ∧ l ≤ 2)) → Z rc M_X11_turn 0 0 17 [some (zR 0), some (zI a), some (zI l), none] [] (hp σ2) (qI (cP σ α (aTurn α a l) (nTurn α a l))) := by
    intro σ2 e hb
    subst e
    refine z_ldc (n := -1000001) dX11_turn_17 zw_268 rfl ?_
    refine h_iret dX11_turn_19 rfl rfl rfl ?_
    exact ⟨by unfold aTurn; rw [if_pos hb], by unfold nTurn; rw [if_pos hb]; exact hC, fr.rf⟩
  refine K_of 1 (by decide) (Nat.le_of_ble_eq_true rfl) (show Z _ _ 0 0 0 [some (zR 0), some (zI a), some (zI l), none] [] _ _ from ?_)
  first | refine z_aload_n dX11_turn_0 rfl ?_ | refine z_aload_nT dX11_turn_0 rfl ?_
  refine z_iload_n dX11_turn_1 rfl ?_
  refine h_Vi1 (Y' := M_X11_isPier) dX11_turn_2 zw_468 zw_470 zs_10 rfl ok_X11_isPier (by decide) rfl (Nat.le_of_ble_eq_true rfl) ⟨rfl, rfl⟩ (by decide) (by first | assumption | rfl) (c_isPier ha hR.2.1 h3) (fun vv σ2 hq => ?_)
  obtain ⟨hv1, rfl⟩ := hq
  refine z_if_eq (tgt := 17) dX11_turn_5 (by decide) (by omega) (fun b5 => ?_) (fun b5 => ?_)
  · exact bad _ rfl (by omega)
  · refine z_iload_n dX11_turn_8 rfl ?_
    refine z_iconst dX11_turn_9 ?_
    refine z_iconst dX11_turn_10 ?_
    refine h_Si3 (Y' := M_X11_isWithin) dX11_turn_11 zw_265 zw_266 ok_X11_isWithin (by decide) rfl (Nat.le_of_ble_eq_true rfl) ⟨rfl, rfl⟩ (by decide) (c_within hl (by omega) (by omega)) (fun vv σ2 hq => ?_)
    obtain ⟨hv2, rfl⟩ := hq
    refine z_if_ne (tgt := 20) dX11_turn_14 (by decide) (by omega) (fun b14 => ?_) (fun b14 => ?_)
    · have hk := OKc_p hO (a := a) (by omega) (by omega)
      obtain ⟨p, rfl⟩ : ∃ p : Nat, a = (p : Int) := ⟨a.toNat, by omega⟩
      obtain ⟨p1, p2, p3, p4⟩ := cR8p hR (p := p) (by omega)
      obtain ⟨q1, q2, q3, q4⟩ := hk.2.2.2.2.2.2.2.2.2 p (by omega)
      first | refine z_aload_n dX11_turn_20 rfl ?_ | refine z_aload_nT dX11_turn_20 rfl ?_
      refine h_getr dX11_turn_21 fl_X11_26 (by first | assumption | rfl) (by rfl) ?_
      refine h_getr dX11_turn_24 fl_X11_209 (by first | assumption | rfl) (by rfl) ?_
      refine z_iload_n dX11_turn_27 rfl ?_
      first | refine h_iald dX11_turn_28 (by first | assumption | rfl) (by repeat' first | apply zc_add | apply zc_mul | with_reducible exact zc_var _ | exact zc_lit _) (by omega) (by decide) ?_ | refine z_ialdT _ dX11_turn_28 (by assumption) (by repeat' first | apply zc_add | apply zc_mul | with_reducible exact zc_var _ | exact zc_lit _) (by omega) (by omega) ?_
      refine z_istore_n dX11_turn_29 (by decide) rfl ?_
      refine z_iload_n dX11_turn_30 rfl ?_
      refine z_iload_n dX11_turn_31 rfl ?_
      refine z_icmp_ne (tgt := 38) dX11_turn_32 (by decide) (by omega) (by omega) (fun b32 => ?_) (fun b32 => ?_)
      · first | refine z_aload_n dX11_turn_38 rfl ?_ | refine z_aload_nT dX11_turn_38 rfl ?_
        refine h_getr dX11_turn_39 fl_X11_42 (by first | assumption | rfl) (by rfl) ?_
        first | refine z_aload_n dX11_turn_42 rfl ?_ | refine z_aload_nT dX11_turn_42 rfl ?_
        refine h_getr dX11_turn_43 fl_X11_26 (by first | assumption | rfl) (by rfl) ?_
        refine h_Vv1 (Y' := M_X4_keep) dX11_turn_46 zw_418 zw_419 zw_420 rfl ok_X4_keep (by decide) rfl (Nat.le_of_ble_eq_true rfl) ⟨rfl, rfl⟩ (by decide) (by first | assumption | rfl) (k_keep hC hO) (fun σ2 hq => ?_)
        obtain ⟨j1, j2⟩ := hq
        first | refine z_aload_n dX11_turn_49 rfl ?_ | refine z_aload_nT dX11_turn_49 rfl ?_
        refine h_getr dX11_turn_50 fl_X11_26 (by first | assumption | rfl) (by rfl) ?_
        refine h_getr dX11_turn_53 fl_X11_209 (by first | assumption | rfl) (by rfl) ?_
        refine z_iload_n dX11_turn_56 rfl ?_
        refine z_iload_n dX11_turn_57 rfl ?_
        refine h_iast dX11_turn_58 (by first | assumption | rfl) (by repeat' first | apply zc_add | apply zc_mul | with_reducible exact zc_var _ | exact zc_lit _) (by omega) (by decide) ?_
        refine z_iload_n dX11_turn_59 rfl ?_
        refine h_iret dX11_turn_60 rfl rfl rfl ?_
        refine ⟨?_, ?_, fun o j h => by rw [zu_o (by omega), j2 o j (by omega) (by omega)]⟩
        · unfold aTurn
          rw [if_neg (by omega), if_neg (by show ¬ α 5 (19 + p) = l; omega)]
          exact p3
        · unfold nTurn
          rw [if_neg (by omega), if_neg (by show ¬ α 5 (19 + p) = l; omega)]
          exact CI_now j1 (cR_up (k := 8) (i := 2) (p := p) (x := l) j1.2.2.2.1 h3 (by show (p : Int) < α 5 3; omega) (by omega) rfl) (zup_ne (by omega)) (fun o j h => zu_o (by omega))
      · refine z_ldc (n := -1000002) dX11_turn_35 zw_417 rfl ?_
        refine h_iret dX11_turn_37 rfl rfl rfl ?_
        exact ⟨by unfold aTurn; rw [if_neg (by omega), if_pos (by show α 5 (19 + p) = l; omega)], by unfold nTurn; rw [if_neg (by omega), if_pos (by show α 5 (19 + p) = l; omega)]; exact hC, fr.rf⟩
    · exact bad _ rfl (by omega)
theorem r_turn {a l : Int} (hM : MI σ α) (hO : OK α) (ha : zin a) (hl : zin l) : KI rc M_X12_turn [zR 40, zI a, zI l] σ (mP σ α (aTurn α a l) (nTurn α a l)) := by
  have h3 := OKc_3 hO
  have hR := hM.2.2.2.1
  have bad : ∀ σ2 : Mem, σ2 = σ → (¬ (0 ≤ a ∧ a < α 5 3) ∨ ¬ (0 ≤ l ∧ l ≤ 2)) → Z rc M_X12_turn 0 0 17 [some (zR 40), some (zI a), some (zI l), none] [] (hp σ2) (qI (mP σ α (aTurn α a l) (nTurn α a l))) := by
    intro σ2 e hb
    subst e
    refine z_ldc (n := -1000001) dX12_turn_17 zw_860 rfl ?_
    refine h_iret dX12_turn_19 rfl rfl rfl ?_
    exact ⟨by unfold aTurn; rw [if_pos hb], by unfold nTurn; rw [if_pos hb]; exact hM, fr.rf⟩
  refine K_of 1 (by decide) (Nat.le_of_ble_eq_true rfl) (show Z _ _ 0 0 0 [some (zR 40), some (zI a), some (zI l), none] [] _ _ from ?_)
  first | refine z_aload_n dX12_turn_0 rfl ?_ | refine z_aload_nT dX12_turn_0 rfl ?_
  refine z_iload_n dX12_turn_1 rfl ?_
  refine h_Vi1 (Y' := M_X12_isOne) dX12_turn_2 zw_975 zw_977 zs_38 rfl ok_X12_isOne (by decide) rfl (Nat.le_of_ble_eq_true rfl) ⟨rfl, rfl⟩ (by decide) (by first | assumption | rfl) (m_isOne ha (hR 3 (by omega)) h3) (fun vv σ2 hq => ?_)
  obtain ⟨hv1, rfl⟩ := hq
  refine z_if_eq (tgt := 17) dX12_turn_5 (by decide) (by omega) (fun b5 => ?_) (fun b5 => ?_)
  · exact bad _ rfl (by omega)
  · refine z_iload_n dX12_turn_8 rfl ?_
    refine z_iconst dX12_turn_9 ?_
    refine z_iconst dX12_turn_10 ?_
    refine h_Si3 (Y' := M_X12_in) dX12_turn_11 zw_857 zw_858 ok_X12_in (by decide) rfl (Nat.le_of_ble_eq_true rfl) ⟨rfl, rfl⟩ (by decide) (m_within hl (by omega) (by omega)) (fun vv σ2 hq => ?_)
    obtain ⟨hv2, rfl⟩ := hq
    refine z_if_ne (tgt := 20) dX12_turn_14 (by decide) (by omega) (fun b14 => ?_) (fun b14 => ?_)
    · have hk := OKc_p hO (a := a) (by omega) (by omega)
      obtain ⟨p, rfl⟩ : ∃ p : Nat, a = (p : Int) := ⟨a.toNat, by omega⟩
      have p3 := hR (19 + p) (by omega)
      obtain ⟨q1, q2, q3, q4⟩ := hk.2.2.2.2.2.2.2.2.2 p (by omega)
      first | refine z_aload_n dX12_turn_20 rfl ?_ | refine z_aload_nT dX12_turn_20 rfl ?_
      refine h_getr dX12_turn_21 fl_X12_22 (by first | assumption | rfl) (by rfl) ?_
      refine z_bipush dX12_turn_24 rfl ?_
      refine z_iload_n dX12_turn_26 rfl ?_
      refine z_iadd dX12_turn_27 ?_
      first | refine h_iald dX12_turn_28 (by first | assumption | rfl) (by repeat' first | apply zc_add | apply zc_mul | with_reducible exact zc_var _ | exact zc_lit _) (by omega) (by decide) ?_ | refine z_ialdT _ dX12_turn_28 (by assumption) (by repeat' first | apply zc_add | apply zc_mul | with_reducible exact zc_var _ | exact zc_lit _) (by omega) (by omega) ?_
      refine z_iload_n dX12_turn_29 rfl ?_
      refine z_icmp_ne (tgt := 36) dX12_turn_30 (by decide) (by omega) (by omega) (fun b30 => ?_) (fun b30 => ?_)
      · first | refine z_aload_n dX12_turn_36 rfl ?_ | refine z_aload_nT dX12_turn_36 rfl ?_
        refine h_Vv0 (Y' := M_X12_note) dX12_turn_37 zw_946 zw_948 zs_37 rfl ok_X12_note (by decide) rfl (Nat.le_of_ble_eq_true rfl) ⟨rfl, rfl⟩ (by decide) (by first | assumption | rfl) (m_note hM hO) (fun σ2 hq => ?_)
        obtain ⟨j1, j2⟩ := hq
        have jR : mR σ2 45 (α 5) := j1.2.2.2.1
        first | refine z_aload_n dX12_turn_40 rfl ?_ | refine z_aload_nT dX12_turn_40 rfl ?_
        refine h_getr dX12_turn_41 fl_X12_22 (by first | assumption | rfl) (by rfl) ?_
        refine z_bipush dX12_turn_44 rfl ?_
        refine z_iload_n dX12_turn_46 rfl ?_
        refine z_iadd dX12_turn_47 ?_
        first | refine h_iald dX12_turn_48 (by first | assumption | rfl) (by repeat' first | apply zc_add | apply zc_mul | with_reducible exact zc_var _ | exact zc_lit _) (by omega) (by decide) ?_ | refine z_ialdT _ dX12_turn_48 (by assumption) (by repeat' first | apply zc_add | apply zc_mul | with_reducible exact zc_var _ | exact zc_lit _) (by omega) (by omega) ?_
        refine z_istore_n dX12_turn_49 (by decide) rfl ?_
        first | refine z_aload_n dX12_turn_50 rfl ?_ | refine z_aload_nT dX12_turn_50 rfl ?_
        refine h_getr dX12_turn_51 fl_X12_22 (by first | assumption | rfl) (by rfl) ?_
        refine z_bipush dX12_turn_54 rfl ?_
        refine z_iload_n dX12_turn_56 rfl ?_
        refine z_iadd dX12_turn_57 ?_
        refine z_iload_n dX12_turn_58 rfl ?_
        refine h_iast dX12_turn_59 (by first | assumption | rfl) (by repeat' first | apply zc_add | apply zc_mul | with_reducible exact zc_var _ | exact zc_lit _) (by omega) (by decide) ?_
        refine z_iload_n dX12_turn_60 rfl ?_
        refine h_iret dX12_turn_61 rfl rfl rfl ?_
        refine ⟨?_, ?_, fun o j h => by rw [zu_o (by omega), j2 o j (by omega) (by omega)]⟩
        · unfold aTurn
          rw [if_neg (by omega), if_neg (by show ¬ α 5 (19 + p) = l; omega)]
          exact jR _ (by omega)
        · unfold nTurn
          rw [if_neg (by omega), if_neg (by show ¬ α 5 (19 + p) = l; omega)]
          refine MI_now j1 (fun i hi => ?_) (fun o j h => zu_o h)
          show _ = zup (α 5) (19 + p) l i
          unfold zup
          by_cases h2 : i = 19 + p
          · subst h2
            rw [zu_eq, if_pos rfl]
          · rw [zu_j h2, if_neg h2]
            exact jR i hi
      · refine z_ldc (n := -1000002) dX12_turn_33 zw_945 rfl ?_
        refine h_iret dX12_turn_35 rfl rfl rfl ?_
        exact ⟨by unfold aTurn; rw [if_neg (by omega), if_pos (by show α 5 (19 + p) = l; omega)], by unfold nTurn; rw [if_neg (by omega), if_pos (by show α 5 (19 + p) = l; omega)]; exact hM, fr.rf⟩
    · exact bad _ rfl (by omega)
def aBuy (α : Mem) (n : Int) : Int := if α 5 8 = 0 then STATE else if ¬ (1 ≤ n ∧ n ≤ 20) then BAD else if α 5 1 < 5 * n then STATE else if 99 < α 5 2 + n then FULL else α 5 2 + n
def nBuy (α : Mem) (n : Int) : Mem := if α 5 8 = 0 then α else if ¬ (1 ≤ n ∧ n ≤ 20) then α else if α 5 1 < 5 * n then α else if 99 < α 5 2 + n then α else nowU (pshU α) (zup (zup (α 5) 1 (α 5 1 - 5 * n)) 2 (α 5 2 + n))
theorem cR_up0 {σ : Mem} {t : Nat → Int} {x y : Int} (h : cR σ 8 t) : cR (zu (zu σ 8 7 x) 8 8 y) 8 (zup (zup t 1 x) 2 y) := by
  obtain ⟨r4, r5, r6, r7, r8, r9, r10, r11, r12, rp⟩ := h
  have hz : ∀ j, j ≠ 1 → j ≠ 2 → zup (zup t 1 x) 2 y j = t j := fun j h1 h2 => by
    unfold zup
    rw [if_neg h2, if_neg h1]
  have ek : ∀ j, j ≠ 7 → j ≠ 8 → zu (zu σ 8 7 x) 8 8 y 8 j = σ 8 j := fun j h1 h2 => by rw [zu_j h2, zu_j h1]
  have eo : ∀ o j, o ≠ 8 → zu (zu σ 8 7 x) 8 8 y o j = σ o j := fun o j h => by rw [zu_o h, zu_o h]
  refine ⟨?_, ?_, ?_, ?_, ?_, ?_, ?_, fun h => ?_, ?_, fun q hq => ?_⟩
  · rw [ek 4 (by omega) (by omega), hz 8 (by omega) (by omega), r4]
  · rw [ek 5 (by omega) (by omega), hz 3 (by omega) (by omega), r5]
  · rw [ek 6 (by omega) (by omega), hz 0 (by omega) (by omega), r6]
  · rw [zu_j (by omega), zu_eq]; rfl
  · rw [zu_eq]; rfl
  · rw [ek 9 (by omega) (by omega), hz 4 (by omega) (by omega), r9]
  · rw [ek 10 (by omega) (by omega), hz 5 (by omega) (by omega), r10]
  · rw [hz 8 (by omega) (by omega)] at h
    rw [ek 11 (by omega) (by omega), hz 6 (by omega) (by omega), r11 h]
  · rw [ek 12 (by omega) (by omega), hz 7 (by omega) (by omega), r12]
  · rw [hz 3 (by omega) (by omega)] at hq
    rw [eo _ _ (by omega), eo _ _ (by omega), eo _ _ (by omega), eo _ _ (by omega), hz _ (by omega) (by omega), hz _ (by omega) (by omega), hz _ (by omega) (by omega), hz _ (by omega) (by omega)]
    exact rp q hq
theorem c_buy {n : Int} (hC : CI σ α) (hO : OK α) (hn : zin n) : KI rc M_X11_buy [zR 0, zI n] σ (cP σ α (aBuy α n) (nBuy α n)) := by
  have h8 := OKc_8 hO
  obtain ⟨e4, e5, e6, e7, e8, e12⟩ := CI_8 hC
  refine K_of 0 (by decide) (Nat.le_of_ble_eq_true rfl) (show Z _ _ 0 0 0 [some (zR 0), some (zI n)] [] _ _ from ?_)
  first | refine z_aload_n dX11_buy_0 rfl ?_ | refine z_aload_nT dX11_buy_0 rfl ?_
  refine h_getr dX11_buy_1 fl_X11_26 (by first | assumption | rfl) (by rfl) ?_
  refine h_geti dX11_buy_4 fl_X11_176 (by first | assumption | rfl) (by rfl) ?_
  refine z_if_ne (tgt := 13) dX11_buy_7 (by decide) (by omega) (fun b7 => ?_) (fun b7 => ?_)
  · have hk := OKc_s hO (by omega)
    have k1 := hk.2.2.2.1
    have k2 := hk.2.2.2.2.1
    refine z_iload_n dX11_buy_13 rfl ?_
    refine z_iconst dX11_buy_14 ?_
    refine z_bipush dX11_buy_15 rfl ?_
    refine h_Si3 (Y' := M_X11_isWithin) dX11_buy_17 zw_265 zw_266 ok_X11_isWithin (by decide) rfl (Nat.le_of_ble_eq_true rfl) ⟨rfl, rfl⟩ (by decide) (c_within hn (by omega) (by omega)) (fun vv σ2 hq => ?_)
    obtain ⟨hv, rfl⟩ := hq
    refine z_if_ne (tgt := 26) dX11_buy_20 (by decide) (by omega) (fun b20 => ?_) (fun b20 => ?_)
    · first | refine z_aload_n dX11_buy_26 rfl ?_ | refine z_aload_nT dX11_buy_26 rfl ?_
      refine h_getr dX11_buy_27 fl_X11_26 (by first | assumption | rfl) (by rfl) ?_
      refine h_geti dX11_buy_30 fl_X11_194 (by first | assumption | rfl) (by rfl) ?_
      refine z_iload_n dX11_buy_33 rfl ?_
      refine z_iconst dX11_buy_34 ?_
      refine z_imul dX11_buy_35 ?_
      refine z_icmp_ge (tgt := 42) dX11_buy_36 (by decide) (by omega) (by omega) (fun b36 => ?_) (fun b36 => ?_)
      · first | refine z_aload_n dX11_buy_42 rfl ?_ | refine z_aload_nT dX11_buy_42 rfl ?_
        refine h_getr dX11_buy_43 fl_X11_26 (by first | assumption | rfl) (by rfl) ?_
        refine h_geti dX11_buy_46 fl_X11_200 (by first | assumption | rfl) (by rfl) ?_
        refine z_iload_n dX11_buy_49 rfl ?_
        refine z_iadd dX11_buy_50 ?_
        refine z_bipush dX11_buy_51 rfl ?_
        refine z_icmp_le (tgt := 59) dX11_buy_53 (by decide) (by omega) (by omega) (fun b53 => ?_) (fun b53 => ?_)
        · first | refine z_aload_n dX11_buy_59 rfl ?_ | refine z_aload_nT dX11_buy_59 rfl ?_
          refine h_getr dX11_buy_60 fl_X11_42 (by first | assumption | rfl) (by rfl) ?_
          first | refine z_aload_n dX11_buy_63 rfl ?_ | refine z_aload_nT dX11_buy_63 rfl ?_
          refine h_getr dX11_buy_64 fl_X11_26 (by first | assumption | rfl) (by rfl) ?_
          refine h_Vv1 (Y' := M_X4_keep) dX11_buy_67 zw_418 zw_419 zw_420 rfl ok_X4_keep (by decide) rfl (Nat.le_of_ble_eq_true rfl) ⟨rfl, rfl⟩ (by decide) (by first | assumption | rfl) (k_keep hC hO) (fun σ2 hq => ?_)
          obtain ⟨j1, j2⟩ := hq
          obtain ⟨f4, f5, f6, f7, f8, f12⟩ := CI_8 j1
          have f7 : σ2 8 7 = α 5 1 := f7
          have f8 : σ2 8 8 = α 5 2 := f8
          first | refine z_aload_n dX11_buy_70 rfl ?_ | refine z_aload_nT dX11_buy_70 rfl ?_
          refine h_getr dX11_buy_71 fl_X11_26 (by first | assumption | rfl) (by rfl) ?_
          refine z_dup dX11_buy_74 rfl ?_
          refine h_geti dX11_buy_75 fl_X11_194 (by first | assumption | rfl) (by rfl) ?_
          refine z_iload_n dX11_buy_78 rfl ?_
          refine z_iconst dX11_buy_79 ?_
          refine z_imul dX11_buy_80 ?_
          refine z_isub dX11_buy_81 ?_
          refine h_puti dX11_buy_82 fp_X11_194 (by first | assumption | rfl) (by rfl) ?_
          first | refine z_aload_n dX11_buy_85 rfl ?_ | refine z_aload_nT dX11_buy_85 rfl ?_
          refine h_getr dX11_buy_86 fl_X11_26 (by first | assumption | rfl) (by rfl) ?_
          refine z_dup dX11_buy_89 rfl ?_
          refine h_geti dX11_buy_90 fl_X11_200 (by first | assumption | rfl) (by rfl) ?_
          refine z_iload_n dX11_buy_93 rfl ?_
          refine z_iadd dX11_buy_94 ?_
          refine h_puti dX11_buy_95 fp_X11_200 (by first | assumption | rfl) (by rfl) ?_
          rw [f7]
          have g : zu σ2 8 7 (α 5 1 - n * 5) 8 8 = α 5 2 := by rw [zu_j (by omega), f8]
          rw [g, Int.mul_comm n 5]
          first | refine z_aload_n dX11_buy_98 rfl ?_ | refine z_aload_nT dX11_buy_98 rfl ?_
          refine h_getr dX11_buy_99 fl_X11_26 (by first | assumption | rfl) (by rfl) ?_
          refine h_geti dX11_buy_102 fl_X11_200 (by first | assumption | rfl) (by rfl) ?_
          refine h_iret dX11_buy_105 rfl rfl rfl ?_
          refine ⟨?_, ?_, fun o j h => by rw [zu_o (by omega), zu_o (by omega), j2 o j (by omega) (by omega)]⟩
          · unfold aBuy
            rw [if_neg (by omega), if_neg (by omega), if_neg (by omega), if_neg (by omega), zu_eq]
          · unfold nBuy
            rw [if_neg (by omega), if_neg (by omega), if_neg (by omega), if_neg (by omega)]
            exact CI_now j1 (cR_up0 j1.2.2.2.1) (by rw [zup_ne (by omega), zup_ne (by omega)]; rfl) (fun o j h => by rw [zu_o (by omega), zu_o (by omega)])
        · refine z_ldc (n := -1000003) dX11_buy_56 zw_329 rfl ?_
          refine h_iret dX11_buy_58 rfl rfl rfl ?_
          exact ⟨by unfold aBuy; rw [if_neg (by omega), if_neg (by omega), if_neg (by omega), if_pos (by omega)], by unfold nBuy; rw [if_neg (by omega), if_neg (by omega), if_neg (by omega), if_pos (by omega)]; exact hC, fr.rf⟩
      · refine z_ldc (n := -1000002) dX11_buy_39 zw_417 rfl ?_
        refine h_iret dX11_buy_41 rfl rfl rfl ?_
        exact ⟨by unfold aBuy; rw [if_neg (by omega), if_neg (by omega), if_pos (by omega)], by unfold nBuy; rw [if_neg (by omega), if_neg (by omega), if_pos (by omega)]; exact hC, fr.rf⟩
    · refine z_ldc (n := -1000001) dX11_buy_23 zw_268 rfl ?_
      refine h_iret dX11_buy_25 rfl rfl rfl ?_
      exact ⟨by unfold aBuy; rw [if_neg (by omega), if_pos (by omega)], by unfold nBuy; rw [if_neg (by omega), if_pos (by omega)]; exact hC, fr.rf⟩
  · refine z_ldc (n := -1000002) dX11_buy_10 zw_417 rfl ?_
    refine h_iret dX11_buy_12 rfl rfl rfl ?_
    exact ⟨by unfold aBuy; rw [if_pos (by omega)], by unfold nBuy; rw [if_pos (by omega)]; exact hC, fr.rf⟩
theorem r_buy {n : Int} (hM : MI σ α) (hO : OK α) (hn : zin n) : KI rc M_X12_buy [zR 40, zI n] σ (mP σ α (aBuy α n) (nBuy α n)) := by
  have h8 := OKc_8 hO
  have hR := hM.2.2.2.1
  have e1 := hR 1 (by omega)
  have e2 := hR 2 (by omega)
  refine K_of 0 (by decide) (Nat.le_of_ble_eq_true rfl) (show Z _ _ 0 0 0 [some (zR 40), some (zI n)] [] _ _ from ?_)
  first | refine z_aload_n dX12_buy_0 rfl ?_ | refine z_aload_nT dX12_buy_0 rfl ?_
  refine h_Vi0 (Y' := M_X12_isCoast) dX12_buy_1 zw_941 zw_943 zs_36 rfl ok_X12_isCoast (by decide) rfl (Nat.le_of_ble_eq_true rfl) ⟨rfl, rfl⟩ (by decide) (by first | assumption | rfl) (m_isCoast (hR 8 (by omega)) h8) (fun vv σ2 hq => ?_)
  obtain ⟨rfl, rfl⟩ := hq
  refine z_if_ne (tgt := 10) dX12_buy_4 (by decide) (by omega) (fun b4 => ?_) (fun b4 => ?_)
  · have hk := OKc_s hO (by omega)
    have k1 := hk.2.2.2.1
    have k2 := hk.2.2.2.2.1
    refine z_iload_n dX12_buy_10 rfl ?_
    refine z_iconst dX12_buy_11 ?_
    refine z_bipush dX12_buy_12 rfl ?_
    refine h_Si3 (Y' := M_X12_in) dX12_buy_14 zw_857 zw_858 ok_X12_in (by decide) rfl (Nat.le_of_ble_eq_true rfl) ⟨rfl, rfl⟩ (by decide) (m_within hn (by omega) (by omega)) (fun vv σ2 hq => ?_)
    obtain ⟨hv, rfl⟩ := hq
    refine z_if_ne (tgt := 23) dX12_buy_17 (by decide) (by omega) (fun b17 => ?_) (fun b17 => ?_)
    · first | refine z_aload_n dX12_buy_23 rfl ?_ | refine z_aload_nT dX12_buy_23 rfl ?_
      refine h_getr dX12_buy_24 fl_X12_22 (by first | assumption | rfl) (by rfl) ?_
      refine z_iconst dX12_buy_27 ?_
      first | refine h_iald dX12_buy_28 (by first | assumption | rfl) (by repeat' first | apply zc_add | apply zc_mul | with_reducible exact zc_var _ | exact zc_lit _) (by omega) (by decide) ?_ | refine z_ialdT _ dX12_buy_28 (by assumption) (by repeat' first | apply zc_add | apply zc_mul | with_reducible exact zc_var _ | exact zc_lit _) (by omega) (by omega) ?_
      refine z_iconst dX12_buy_29 ?_
      refine z_iload_n dX12_buy_30 rfl ?_
      refine z_imul dX12_buy_31 ?_
      refine z_icmp_ge (tgt := 38) dX12_buy_32 (by decide) (by omega) (by omega) (fun b32 => ?_) (fun b32 => ?_)
      · first | refine z_aload_n dX12_buy_38 rfl ?_ | refine z_aload_nT dX12_buy_38 rfl ?_
        refine h_getr dX12_buy_39 fl_X12_22 (by first | assumption | rfl) (by rfl) ?_
        refine z_iconst dX12_buy_42 ?_
        first | refine h_iald dX12_buy_43 (by first | assumption | rfl) (by repeat' first | apply zc_add | apply zc_mul | with_reducible exact zc_var _ | exact zc_lit _) (by omega) (by decide) ?_ | refine z_ialdT _ dX12_buy_43 (by assumption) (by repeat' first | apply zc_add | apply zc_mul | with_reducible exact zc_var _ | exact zc_lit _) (by omega) (by omega) ?_
        refine z_iload_n dX12_buy_44 rfl ?_
        refine z_iadd dX12_buy_45 ?_
        refine z_bipush dX12_buy_46 rfl ?_
        refine z_icmp_le (tgt := 54) dX12_buy_48 (by decide) (by omega) (by omega) (fun b48 => ?_) (fun b48 => ?_)
        · first | refine z_aload_n dX12_buy_54 rfl ?_ | refine z_aload_nT dX12_buy_54 rfl ?_
          refine h_Vv0 (Y' := M_X12_note) dX12_buy_55 zw_946 zw_948 zs_37 rfl ok_X12_note (by decide) rfl (Nat.le_of_ble_eq_true rfl) ⟨rfl, rfl⟩ (by decide) (by first | assumption | rfl) (m_note hM hO) (fun σ2 hq => ?_)
          obtain ⟨j1, j2⟩ := hq
          have jR : mR σ2 45 (α 5) := j1.2.2.2.1
          have g1 := jR 1 (by omega)
          have g2 := jR 2 (by omega)
          first | refine z_aload_n dX12_buy_58 rfl ?_ | refine z_aload_nT dX12_buy_58 rfl ?_
          refine h_getr dX12_buy_59 fl_X12_22 (by first | assumption | rfl) (by rfl) ?_
          refine z_iconst dX12_buy_62 ?_
          refine z_dup2 dX12_buy_63 rfl rfl ?_
          first | refine h_iald dX12_buy_64 (by first | assumption | rfl) (by repeat' first | apply zc_add | apply zc_mul | with_reducible exact zc_var _ | exact zc_lit _) (by omega) (by decide) ?_ | refine z_ialdT _ dX12_buy_64 (by assumption) (by repeat' first | apply zc_add | apply zc_mul | with_reducible exact zc_var _ | exact zc_lit _) (by omega) (by omega) ?_
          refine z_iconst dX12_buy_65 ?_
          refine z_iload_n dX12_buy_66 rfl ?_
          refine z_imul dX12_buy_67 ?_
          refine z_isub dX12_buy_68 ?_
          refine h_iast dX12_buy_69 (by first | assumption | rfl) (by repeat' first | apply zc_add | apply zc_mul | with_reducible exact zc_var _ | exact zc_lit _) (by omega) (by decide) ?_
          first | refine z_aload_n dX12_buy_70 rfl ?_ | refine z_aload_nT dX12_buy_70 rfl ?_
          refine h_getr dX12_buy_71 fl_X12_22 (by first | assumption | rfl) (by rfl) ?_
          refine z_iconst dX12_buy_74 ?_
          refine z_dup2 dX12_buy_75 rfl rfl ?_
          first | refine h_iald dX12_buy_76 (by first | assumption | rfl) (by repeat' first | apply zc_add | apply zc_mul | with_reducible exact zc_var _ | exact zc_lit _) (by omega) (by decide) ?_ | refine z_ialdT _ dX12_buy_76 (by assumption) (by repeat' first | apply zc_add | apply zc_mul | with_reducible exact zc_var _ | exact zc_lit _) (by omega) (by omega) ?_
          refine z_iload_n dX12_buy_77 rfl ?_
          refine z_iadd dX12_buy_78 ?_
          refine h_iast dX12_buy_79 (by first | assumption | rfl) (by repeat' first | apply zc_add | apply zc_mul | with_reducible exact zc_var _ | exact zc_lit _) (by omega) (by decide) ?_
          rw [g1]
          have g : zu σ2 45 1 (α 5 1 - 5 * n) 45 2 = α 5 2 := by rw [zu_j (by omega), g2]
          rw [g]
          first | refine z_aload_n dX12_buy_80 rfl ?_ | refine z_aload_nT dX12_buy_80 rfl ?_
          refine h_getr dX12_buy_81 fl_X12_22 (by first | assumption | rfl) (by rfl) ?_
          refine z_iconst dX12_buy_84 ?_
          first | refine h_iald dX12_buy_85 (by first | assumption | rfl) (by repeat' first | apply zc_add | apply zc_mul | with_reducible exact zc_var _ | exact zc_lit _) (by omega) (by decide) ?_ | refine z_ialdT _ dX12_buy_85 (by assumption) (by repeat' first | apply zc_add | apply zc_mul | with_reducible exact zc_var _ | exact zc_lit _) (by omega) (by omega) ?_
          refine h_iret dX12_buy_86 rfl rfl rfl ?_
          refine ⟨?_, ?_, fun o j h => by rw [zu_o (by omega), zu_o (by omega), j2 o j (by omega) (by omega)]⟩
          · unfold aBuy
            rw [if_neg (by omega), if_neg (by omega), if_neg (by omega), if_neg (by omega), zu_eq]
          · unfold nBuy
            rw [if_neg (by omega), if_neg (by omega), if_neg (by omega), if_neg (by omega)]
            refine MI_now j1 (fun i hi => ?_) (fun o j h => by rw [zu_o h, zu_o h])
            show _ = zup (zup (α 5) 1 (α 5 1 - 5 * n)) 2 (α 5 2 + n) i
            unfold zup
            by_cases h1 : i = 2
            · subst h1
              rw [zu_eq, if_pos rfl]
            · rw [if_neg h1, zu_j h1]
              by_cases h2 : i = 1
              · subst h2
                rw [zu_eq, if_pos rfl]
              · rw [zu_j h2, if_neg h2]
                exact jR i hi
        · refine z_ldc (n := -1000003) dX12_buy_51 zw_889 rfl ?_
          refine h_iret dX12_buy_53 rfl rfl rfl ?_
          exact ⟨by unfold aBuy; rw [if_neg (by omega), if_neg (by omega), if_neg (by omega), if_pos (by omega)], by unfold nBuy; rw [if_neg (by omega), if_neg (by omega), if_neg (by omega), if_pos (by omega)]; exact hM, fr.rf⟩
      · refine z_ldc (n := -1000002) dX12_buy_35 zw_945 rfl ?_
        refine h_iret dX12_buy_37 rfl rfl rfl ?_
        exact ⟨by unfold aBuy; rw [if_neg (by omega), if_neg (by omega), if_pos (by omega)], by unfold nBuy; rw [if_neg (by omega), if_neg (by omega), if_pos (by omega)]; exact hM, fr.rf⟩
    · refine z_ldc (n := -1000001) dX12_buy_20 zw_860 rfl ?_
      refine h_iret dX12_buy_22 rfl rfl rfl ?_
      exact ⟨by unfold aBuy; rw [if_neg (by omega), if_pos (by omega)], by unfold nBuy; rw [if_neg (by omega), if_pos (by omega)]; exact hM, fr.rf⟩
  · refine z_ldc (n := -1000002) dX12_buy_7 zw_945 rfl ?_
    refine h_iret dX12_buy_9 rfl rfl rfl ?_
    exact ⟨by unfold aBuy; rw [if_pos (by omega)], by unfold nBuy; rw [if_pos (by omega)]; exact hM, fr.rf⟩
end
