/-! the tape: the law and the piers; class -/
def loL (k : Nat) : Int := if k = 2 then 1 else 0
def hiL (k : Nat) : Int := if k = 2 then 30 else 9
def loP (_ : Nat) : Int := 0
def hiP (k : Nat) : Int := if k = 1 then 2 else 9
def zZ : Nat → Int := fun _ => 0
def lwF (v : Nat → Int) : Nat → Int := fun i => if i = 2 then v 4 else if i = 4 then v 0 else if i = 5 then v 1 else if i = 6 then v 2 else if i = 7 then v 3 else if i = 8 then 1 else 0
def laR (f : Nat → Int) (N : Nat) : PR := psL f N loL hiL 5 5 0 1 zZ
def laF (f : Nat → Int) (N : Nat) : PR := if ¬ (0 < N ∧ f 0 = 108) then (false, 0, 1, zZ) else if (laR f N).ok = true then (true, (laR f N).pl, 0, lwF (laR f N).va) else (false, (laR f N).pl, (laR f N).fa, zZ)
def kiF (c : Int) : Int := if c = 105 then 1 else if c = 99 then 2 else if c = 114 then 3 else if c = 119 then 4 else if c = 112 then 5 else 0
def prF (t : Nat → Int) (k : Int) (v : Nat → Int) : Nat → Int := zup (zup (zup (zup (zup t (9 + (t 3).toNat) k) (14 + (t 3).toNat) (v 0)) (19 + (t 3).toNat) (v 1)) (24 + (t 3).toNat) (v 2)) 3 (t 3 + 1)
def piR (f : Nat → Int) (N a : Nat) : PR := psL f N loP hiP 3 3 0 (a + 1) zZ
def piF (f : Nat → Int) (N : Nat) : Nat → Nat → (Nat → Int) → PR
  | 0, a, t => (true, a, 0, t)
  | m + 1, a, t => if N ≤ a then (true, a, 0, t) else if kiF (f a) = 0 then (false, a, 1, t) else if 5 ≤ t 3 then (false, a, 3, t) else if (piR f N a).ok = true then piF f N m (piR f N a).pl (prF t (kiF (f a)) (piR f N a).va) else (false, (piR f N a).pl, (piR f N a).fa, t)
theorem piF_s {f : Nat → Int} {N m a : Nat} {t : Nat → Int} : piF f N (m + 1) a t = if N ≤ a then (true, a, 0, t) else if kiF (f a) = 0 then (false, a, 1, t) else if 5 ≤ t 3 then (false, a, 3, t) else if (piR f N a).ok = true then piF f N m (piR f N a).pl (prF t (kiF (f a)) (piR f N a).va) else (false, (piR f N a).pl, (piR f N a).fa, t) := rfl
def coF (f : Nat → Int) (N : Nat) : PR := if (laF f N).ok = true then piF f N N (laF f N).pl (laF f N).va else laF f N
def FT (σ σ' : Mem) : Prop := ∀ o j, o ≠ 7 → ¬ (13 ≤ o ∧ o ≤ 17) → ¬ (o = 5 ∧ (j = 3 ∨ j = 4)) → σ' o j = σ o j
theorem FT.rf {σ : Mem} : FT σ σ := fun _ _ _ _ _ => rfl
theorem FT.tr {σ σ1 σ2 : Mem} (h1 : FT σ σ1) (h2 : FT σ1 σ2) : FT σ σ2 := fun o j a b c => (h2 o j a b c).trans (h1 o j a b c)
theorem TC_FT {σ σ' : Mem} {f : Nat → Int} {N a b : Nat} (h : TC σ f N a) (hf : FT σ σ') (hb : σ' 5 3 = (b : Int)) : TC σ' f N b := ⟨(hf 5 2 (by omega) (by omega) (by omega)).trans h.1, hb, fun i hi => (hf 6 i (by omega) (by omega) (by omega)).trans (h.2.2 i hi)⟩
theorem prF_lo {t v : Nat → Int} {k : Int} {i : Nat} (h : i ≠ 3) (h9 : i < 9) : prF t k v i = t i := by
  unfold prF
  rw [zup_ne h, zup_ne (by omega), zup_ne (by omega), zup_ne (by omega), zup_ne (by omega)]
theorem prF_3 {t v : Nat → Int} {k : Int} : prF t k v 3 = t 3 + 1 := by
  unfold prF
  rw [show ∀ g : Nat → Int, zup g 3 (t 3 + 1) 3 = t 3 + 1 from fun g => by unfold zup; rw [if_pos rfl]]
theorem prF_hi {t v : Nat → Int} {k : Int} {p q : Nat} (hp : t 3 = (p : Int)) (hp5 : p < 5) (hq : q < 5) : (prF t k v (9 + q) = if q = p then k else t (9 + q)) ∧ (prF t k v (14 + q) = if q = p then v 0 else t (14 + q)) ∧ (prF t k v (19 + q) = if q = p then v 1 else t (19 + q)) ∧ (prF t k v (24 + q) = if q = p then v 2 else t (24 + q)) := by
  have e : (t 3).toNat = p := by omega
  unfold prF
  rw [e]
  have up : ∀ (g : Nat → Int) (i : Nat) (x : Int), zup g i x i = x := fun g i x => by unfold zup; rw [if_pos rfl]
  by_cases h : q = p
  · subst h
    rw [if_pos rfl, if_pos rfl, if_pos rfl, if_pos rfl]
    refine ⟨?_, ?_, ?_, ?_⟩
    · rw [zup_ne (by omega), zup_ne (by omega), zup_ne (by omega), zup_ne (by omega), up]
    · rw [zup_ne (by omega), zup_ne (by omega), zup_ne (by omega), up]
    · rw [zup_ne (by omega), zup_ne (by omega), up]
    · rw [zup_ne (by omega), up]
  · rw [if_neg h, if_neg h, if_neg h, if_neg h]
    refine ⟨?_, ?_, ?_, ?_⟩ <;> rw [zup_ne (by omega), zup_ne (by omega), zup_ne (by omega), zup_ne (by omega), zup_ne (by omega)]
section
variable {rc : ZRC} {σ α : Mem} {f : Nat → Int} {N a : Nat}
theorem k_kindOfLetter {c : Int} (hc : zin c) : KI rc M_X9_kindOfLetter [zI c] σ (fun v σ' => v = kiF c ∧ σ' = σ) := by
  refine K_of 0 (by decide) (Nat.le_of_ble_eq_true rfl) (show Z _ _ 0 0 0 [some (zI c)] [] _ _ from ?_)
  refine z_iload_n dX9_kindOfLetter_0 rfl ?_
  by_cases h1 : c = 105
  · subst h1
    refine z_lsw (tgt := 52) dX9_kindOfLetter_1 hc (by decide) rfl (by decide) ?_
    refine z_iconst dX9_kindOfLetter_52 ?_
    refine h_iret dX9_kindOfLetter_53 rfl rfl rfl ?_
    exact ⟨rfl, rfl⟩
  · by_cases h2 : c = 99
    · subst h2
      refine z_lsw (tgt := 54) dX9_kindOfLetter_1 hc (by decide) rfl (by decide) ?_
      refine z_iconst dX9_kindOfLetter_54 ?_
      refine h_iret dX9_kindOfLetter_55 rfl rfl rfl ?_
      exact ⟨rfl, rfl⟩
    · by_cases h3 : c = 114
      · subst h3
        refine z_lsw (tgt := 56) dX9_kindOfLetter_1 hc (by decide) rfl (by decide) ?_
        refine z_iconst dX9_kindOfLetter_56 ?_
        refine h_iret dX9_kindOfLetter_57 rfl rfl rfl ?_
        exact ⟨rfl, rfl⟩
      · by_cases h4 : c = 119
        · subst h4
          refine z_lsw (tgt := 58) dX9_kindOfLetter_1 hc (by decide) rfl (by decide) ?_
          refine z_iconst dX9_kindOfLetter_58 ?_
          refine h_iret dX9_kindOfLetter_59 rfl rfl rfl ?_
          exact ⟨rfl, rfl⟩
        · by_cases h5 : c = 112
          · subst h5
            refine z_lsw (tgt := 60) dX9_kindOfLetter_1 hc (by decide) rfl (by decide) ?_
            refine z_iconst dX9_kindOfLetter_60 ?_
            refine h_iret dX9_kindOfLetter_61 rfl rfl rfl ?_
            exact ⟨rfl, rfl⟩
          · refine z_lsw (tgt := 62) (off := 61) dX9_kindOfLetter_1 hc (by decide) (by
              show Op.lookupswitch.offset [(99, 53), (105, 51), (112, 59), (114, 55), (119, 57)] 61 c = 61
              rw [Op.lookupswitch.offset_cons, if_neg (by omega), Op.lookupswitch.offset_cons, if_neg (by omega), Op.lookupswitch.offset_cons, if_neg (by omega), Op.lookupswitch.offset_cons, if_neg (by omega), Op.lookupswitch.offset_cons, if_neg (by omega)]
              rfl) (by decide) ?_
            refine z_iconst dX9_kindOfLetter_62 ?_
            refine h_iret dX9_kindOfLetter_63 rfl rfl rfl ?_
            refine ⟨?_, rfl⟩
            unfold kiF
            rw [if_neg h1, if_neg h2, if_neg h3, if_neg h4, if_neg h5]
theorem k_readLaw (r2 : rc 2 = some (5, loL)) (r3 : rc 3 = some (5, hiL)) (hT : TC σ f N 0) (hF : TF f N) : KI rc M_X9_readLaw [zR 5, zR 13] σ (fun v σ' => ((v = 1 ∧ (laF f N).ok = true ∧ cR σ' 13 (laF f N).va) ∨ (v = 0 ∧ (laF f N).ok = false ∧ σ' 5 4 = (laF f N).fa)) ∧ σ' 5 3 = ((laF f N).pl : Int) ∧ FT σ σ') := by
  have hzL : ∀ k, k < 5 → zin (loL k) ∧ zin (hiL k) := by
    intro k _
    unfold loL hiL
    split <;> omega
  have no : ∀ σ2 : Mem, ((laF f N).ok = false ∧ σ2 5 4 = (laF f N).fa) → σ2 5 3 = ((laF f N).pl : Int) → FT σ σ2 → Z rc M_X9_readLaw 0 0 22 [some (zR 5), some (zR 13)] [] (hp σ2) (qI (fun v σ' => ((v = 1 ∧ (laF f N).ok = true ∧ cR σ' 13 (laF f N).va) ∨ (v = 0 ∧ (laF f N).ok = false ∧ σ' 5 4 = (laF f N).fa)) ∧ σ' 5 3 = ((laF f N).pl : Int) ∧ FT σ σ')) := by
    intro σ2 h1 h2 h3
    refine z_iconst dX9_readLaw_22 ?_
    refine h_zret dX9_readLaw_23 rfl (by omega) rfl rfl ?_
    exact ⟨Or.inr ⟨rfl, h1⟩, h2, h3⟩
  refine K_of 0 (by decide) (Nat.le_of_ble_eq_true rfl) (show Z _ _ 0 0 0 [some (zR 5), some (zR 13)] [] _ _ from ?_)
  first | refine z_aload_n dX9_readLaw_0 rfl ?_ | refine z_aload_nT dX9_readLaw_0 rfl ?_
  refine z_bipush dX9_readLaw_1 rfl ?_
  refine h_Vi1 (Y' := M_X9_readSign) dX9_readLaw_3 zw_346 zw_348 zs_3 rfl ok_X9_readSign (by decide) rfl (Nat.le_of_ble_eq_true rfl) ⟨rfl, rfl⟩ (by decide) (by first | assumption | rfl) (k_readSign hT hF (by omega) (by omega) (by omega)) (fun vv σ2 hq => ?_)
  rcases hq with ⟨rfl, g1, rfl⟩ | ⟨rfl, g1, rfl⟩
  · have eL : laF f N = (false, 0, 1, zZ) := by
      unfold laF
      rw [if_pos g1]
    refine z_if_eq (tgt := 22) dX9_readLaw_6 (by decide) (by omega) (fun b6 => ?_) (fun b6 => ?_)
    · refine no _ ?_ ?_ (fun o j e1 e2 e3 => ?_)
      · rw [eL]
        exact ⟨rfl, zu_eq⟩
      · rw [eL, zu_j (by omega)]
        exact hT.2.1
      · by_cases ho : o = 5
        · subst ho
          rw [zu_j (by omega)]
        · rw [zu_o ho]
    · omega
  · have eL : laF f N = if (laR f N).ok = true then (true, (laR f N).pl, 0, lwF (laR f N).va) else (false, (laR f N).pl, (laR f N).fa, zZ) := by
      unfold laF
      rw [if_neg (by omega)]
    obtain ⟨σ1, h1⟩ : ∃ z, z = zu σ 5 3 (((0 : Nat) : Int) + 1) := ⟨_, rfl⟩
    rw [← h1]
    have hf1 : FT σ σ1 := fun o j e1 e2 e3 => by
      rw [h1]
      by_cases ho : o = 5
      · subst ho
        rw [zu_j (by omega)]
      · rw [zu_o ho]
    have hT1 : TC σ1 f N 1 := TC_FT hT hf1 (by rw [h1, zu_eq]; omega)
    refine z_if_eq (tgt := 22) dX9_readLaw_6 (by decide) (by omega) (fun b6 => ?_) (fun b6 => ?_)
    · omega
    · first | refine z_aload_n dX9_readLaw_9 rfl ?_ | refine z_aload_nT dX9_readLaw_9 rfl ?_
      refine z_gets 2 dX9_readLaw_10 rfl zw_358 ?_
      refine z_gets 3 dX9_readLaw_13 rfl zw_360 ?_
      refine h_Vi2 (Y' := M_X9_readNumbers) dX9_readLaw_16 zw_362 zw_364 zs_6 rfl ok_X9_readNumbers (by decide) rfl (Nat.le_of_ble_eq_true rfl) ⟨rfl, rfl⟩ (by decide) (by first | assumption | rfl) (k_readNumbers r2 r3 (by omega) hzL hT1 hF (by omega) zZ) (fun vv σ2 hq => ?_)
      obtain ⟨q1, q2, q3⟩ := hq
      have q2 : σ2 5 3 = ((laR f N).pl : Int) := q2
      have hf2 : FT σ σ2 := hf1.tr (fun o j e1 e2 e3 => q3 o j e1 e3)
      rcases q1 with ⟨rfl, o1, o2⟩ | ⟨rfl, o1, o2⟩
      · have o1 : (laR f N).ok = true := o1
        have o2 : ∀ j, j < 5 → σ2 7 j = (laR f N).va j := o2
        rw [if_pos o1] at eL
        refine z_if_ne (tgt := 24) dX9_readLaw_19 (by decide) (by omega) (fun b19 => ?_) (fun b19 => ?_)
        · first | refine z_aload_n dX9_readLaw_24 rfl ?_ | refine z_aload_nT dX9_readLaw_24 rfl ?_
          first | refine z_aload_n dX9_readLaw_25 rfl ?_ | refine z_aload_nT dX9_readLaw_25 rfl ?_
          refine h_getr dX9_readLaw_26 fl_X9_13 (by first | assumption | rfl) (by rfl) ?_
          refine z_iconst dX9_readLaw_29 ?_
          first | refine h_iald dX9_readLaw_30 (by first | assumption | rfl) (by repeat' first | apply zc_add | apply zc_mul | with_reducible exact zc_var _ | exact zc_lit _) (by omega) (by decide) ?_ | refine z_ialdT _ dX9_readLaw_30 (by assumption) (by repeat' first | apply zc_add | apply zc_mul | with_reducible exact zc_var _ | exact zc_lit _) (by omega) (by omega) ?_
          first | refine z_aload_n dX9_readLaw_31 rfl ?_ | refine z_aload_nT dX9_readLaw_31 rfl ?_
          refine h_getr dX9_readLaw_32 fl_X9_13 (by first | assumption | rfl) (by rfl) ?_
          refine z_iconst dX9_readLaw_35 ?_
          first | refine h_iald dX9_readLaw_36 (by first | assumption | rfl) (by repeat' first | apply zc_add | apply zc_mul | with_reducible exact zc_var _ | exact zc_lit _) (by omega) (by decide) ?_ | refine z_ialdT _ dX9_readLaw_36 (by assumption) (by repeat' first | apply zc_add | apply zc_mul | with_reducible exact zc_var _ | exact zc_lit _) (by omega) (by omega) ?_
          first | refine z_aload_n dX9_readLaw_37 rfl ?_ | refine z_aload_nT dX9_readLaw_37 rfl ?_
          refine h_getr dX9_readLaw_38 fl_X9_13 (by first | assumption | rfl) (by rfl) ?_
          refine z_iconst dX9_readLaw_41 ?_
          first | refine h_iald dX9_readLaw_42 (by first | assumption | rfl) (by repeat' first | apply zc_add | apply zc_mul | with_reducible exact zc_var _ | exact zc_lit _) (by omega) (by decide) ?_ | refine z_ialdT _ dX9_readLaw_42 (by assumption) (by repeat' first | apply zc_add | apply zc_mul | with_reducible exact zc_var _ | exact zc_lit _) (by omega) (by omega) ?_
          first | refine z_aload_n dX9_readLaw_43 rfl ?_ | refine z_aload_nT dX9_readLaw_43 rfl ?_
          refine h_getr dX9_readLaw_44 fl_X9_13 (by first | assumption | rfl) (by rfl) ?_
          refine z_iconst dX9_readLaw_47 ?_
          first | refine h_iald dX9_readLaw_48 (by first | assumption | rfl) (by repeat' first | apply zc_add | apply zc_mul | with_reducible exact zc_var _ | exact zc_lit _) (by omega) (by decide) ?_ | refine z_ialdT _ dX9_readLaw_48 (by assumption) (by repeat' first | apply zc_add | apply zc_mul | with_reducible exact zc_var _ | exact zc_lit _) (by omega) (by omega) ?_
          first | refine z_aload_n dX9_readLaw_49 rfl ?_ | refine z_aload_nT dX9_readLaw_49 rfl ?_
          refine h_getr dX9_readLaw_50 fl_X9_13 (by first | assumption | rfl) (by rfl) ?_
          refine z_iconst dX9_readLaw_53 ?_
          first | refine h_iald dX9_readLaw_54 (by first | assumption | rfl) (by repeat' first | apply zc_add | apply zc_mul | with_reducible exact zc_var _ | exact zc_lit _) (by omega) (by decide) ?_ | refine z_ialdT _ dX9_readLaw_54 (by assumption) (by repeat' first | apply zc_add | apply zc_mul | with_reducible exact zc_var _ | exact zc_lit _) (by omega) (by omega) ?_
          refine h_Vv5 (Y' := M_X2_begin) dX9_readLaw_55 zw_373 zw_374 zw_375 rfl ok_X2_begin (by decide) rfl (Nat.le_of_ble_eq_true rfl) ⟨rfl, rfl⟩ (by decide) (by first | assumption | rfl) (k_begin (Or.inr (Or.inl rfl))) (fun σ2 hq => ?_)
          obtain ⟨c4, c5, c6, c7, c8, c9, c10, c11, c12, cf⟩ := hq
          refine z_iconst dX9_readLaw_58 ?_
          refine h_zret dX9_readLaw_59 rfl (by omega) rfl rfl ?_
          rw [eL]
          refine ⟨Or.inl ⟨rfl, rfl, ?_⟩, ?_, hf2.tr (fun o j e1 e2 e3 => cf o j (by omega))⟩
          · show cR σ2 13 (lwF (laR f N).va)
            refine ⟨c4, c5, c6, c7, c8.trans (o2 4 (by omega)), c9.trans (o2 0 (by omega)), c10.trans (o2 1 (by omega)), fun _ => c11.trans (o2 2 (by omega)), c12.trans (o2 3 (by omega)), fun p hpp => ?_⟩
            have : (p : Int) < 0 := hpp
            omega
          · rw [cf 5 3 (by omega)]
            exact q2
        · omega
      · have o1 : (laR f N).ok = false := o1
        have o2 : σ2 5 4 = (laR f N).fa := o2
        rw [if_neg (by rw [o1]; decide)] at eL
        refine z_if_ne (tgt := 24) dX9_readLaw_19 (by decide) (by omega) (fun b19 => ?_) (fun b19 => ?_)
        · omega
        · exact no _ (by rw [eL]; exact ⟨rfl, o2⟩) (by rw [eL]; exact q2) hf2
end
