/-! coasts: what changes them -/
theorem goF_0 {t : Nat → Int} {s : Int} : goF t s 0 = t 0 + 1 := rfl
theorem goF_1 {t : Nat → Int} {s : Int} : goF t s 1 = min 9999 (t 1 + tsF t (t 3).toNat) := rfl
theorem goF_lo {t : Nat → Int} {s : Int} {i : Nat} (h0 : 2 ≤ i) (h1 : i < 24) : goF t s i = t i := by
  unfold goF
  rw [if_neg (by omega), if_neg (by omega), if_neg (by omega)]
theorem goF_sp {t : Nat → Int} {s : Int} {p : Nat} (h : (p : Int) < t 3) : goF t s (24 + p) = t (24 + p) - loF t p s := by
  unfold goF
  rw [if_neg (by omega), if_neg (by omega), if_pos (by omega), show 24 + p - 24 = p by omega]
theorem goF_hi {t : Nat → Int} {s : Int} {i : Nat} (h0 : 24 ≤ i) (h : ¬ (i : Int) < 24 + t 3) : goF t s i = t i := by
  unfold goF
  rw [if_neg (by omega), if_neg (by omega), if_neg (by omega)]
section
variable {rc : ZRC} {σ : Mem} {k : Nat} {t : Nat → Int} {B : Int}
theorem k_pass {s : Int} (hk : isC k) (hR : cR σ k t) (ho : cok B t) (hB : B ≤ 100000) (hs : 0 ≤ s) (hs2 : s ≤ 4) : KV rc M_X2_pass [zR k, zI s] σ (fun σ' => cR σ' k (goF t s) ∧ fr k 5 σ σ') := by
  have hts := tsF_in ho (t 3).toNat (by have := ho.2.1; omega)
  obtain ⟨r4, r5, r6, r7, r8, r9, r10, r11, r12, rp⟩ := hR
  have hR : cR σ k t := ⟨r4, r5, r6, r7, r8, r9, r10, r11, r12, rp⟩
  obtain ⟨h8, h3, a0, a1, a2, a4, a5, a6, a7, hq⟩ := ho
  have ho : cok B t := ⟨h8, h3, a0, a1, a2, a4, a5, a6, a7, hq⟩
  have c0 := cs0 hk
  have c4 := cs4 hk
  have loop : ∀ n p : Nat, p + n = (t 3).toNat → ∀ σ' : Mem, (∀ j, j ≠ 7 → σ' k j = σ k j) → σ' k 7 = min 9999 (t 1 + tsF t (t 3).toNat) → (∀ o j, o ≠ k → o ≠ k + 4 → σ' o j = σ o j) → (∀ q : Nat, q < p → σ' (k + 4) q = t (24 + q) - loF t q s) → (∀ q : Nat, p ≤ q → σ' (k + 4) q = σ (k + 4) q) →
      Z rc M_X2_pass 0 0 21 [some (zR k), some (zI s), some (zI (p : Int))] [] (hp σ') (qV (fun σ' => cR σ' k (goF t s) ∧ fr k 5 σ σ')) := by
    intro n
    induction n with
    | zero =>
      intro p hpn σ' i1 i2 i3 i4 i5
      have j5 := i1 5 (by omega)
      refine z_iload_n dX2_pass_21 rfl ?_
      first | refine z_aload_n dX2_pass_22 rfl ?_ | refine z_aload_nT dX2_pass_22 rfl ?_
      refine h_geti dX2_pass_23 fl_X2_26 (by first | assumption | rfl) (by rfl) ?_
      refine z_icmp_ge (tgt := 50) dX2_pass_26 (by decide) (by omega) (by omega) (fun b26 => ?_) (fun b26 => ?_)
      · first | refine z_aload_n dX2_pass_50 rfl ?_ | refine z_aload_nT dX2_pass_50 rfl ?_
        refine z_dup dX2_pass_51 rfl ?_
        refine h_geti dX2_pass_52 fl_X2_30 (by first | assumption | rfl) (by rfl) ?_
        refine z_iconst dX2_pass_55 ?_
        refine z_iadd dX2_pass_56 ?_
        refine h_puti dX2_pass_57 fp_X2_30 (by first | assumption | rfl) (by rfl) ?_
        refine h_vret dX2_pass_60 rfl rfl rfl ?_
        have e : ∀ j, j ≠ 6 → zu σ' k 6 (σ' k 6 + 1) k j = σ' k j := fun j hj => zu_j hj
        refine ⟨⟨?_, ?_, ?_, ?_, ?_, ?_, ?_, fun _ => ?_, ?_, fun q hq => ?_⟩, fun o j hoj => ?_⟩
        · rw [e 4 (by omega), i1 4 (by omega), r4, goF_lo (by omega) (by omega)]
        · rw [e 5 (by omega), i1 5 (by omega), r5, goF_lo (by omega) (by omega)]
        · rw [zu_eq, i1 6 (by omega), r6, goF_0]
        · rw [e 7 (by omega), i2, goF_1]
        · rw [e 8 (by omega), i1 8 (by omega), r8, goF_lo (by omega) (by omega)]
        · rw [e 9 (by omega), i1 9 (by omega), r9, goF_lo (by omega) (by omega)]
        · rw [e 10 (by omega), i1 10 (by omega), r10, goF_lo (by omega) (by omega)]
        · rw [e 11 (by omega), i1 11 (by omega), r11 h8, goF_lo (by omega) (by omega)]
        · rw [e 12 (by omega), i1 12 (by omega), r12, goF_lo (by omega) (by omega)]
        · rw [goF_lo (by omega) (by omega)] at hq
          obtain ⟨p1, p2, p3, p4⟩ := rp q hq
          refine ⟨?_, ?_, ?_, ?_⟩
          · rw [zu_o (by omega), i3 _ _ (by omega) (by omega), p1, goF_lo (by omega) (by omega)]
          · rw [zu_o (by omega), i3 _ _ (by omega) (by omega), p2, goF_lo (by omega) (by omega)]
          · rw [zu_o (by omega), i3 _ _ (by omega) (by omega), p3, goF_lo (by omega) (by omega)]
          · rw [zu_o (by omega), i4 q (by omega), goF_sp hq]
        · rw [zu_o (by omega), i3 _ _ (by omega) (by omega)]
      · omega
    | succ n ih =>
      intro p hpn σ' i1 i2 i3 i4 i5
      have j5 := i1 5 (by omega)
      have j6 := i1 6 (by omega)
      have hp3 : (p : Int) < t 3 := by omega
      obtain ⟨p1, p2, p3, p4⟩ := rp p hp3
      obtain ⟨q1, q2, q3, q4⟩ := hq p hp3
      have g1 := i3 (k + 1) p (by omega) (by omega)
      have g4 := i5 p (by omega)
      refine z_iload_n dX2_pass_21 rfl ?_
      first | refine z_aload_n dX2_pass_22 rfl ?_ | refine z_aload_nT dX2_pass_22 rfl ?_
      refine h_geti dX2_pass_23 fl_X2_26 (by first | assumption | rfl) (by rfl) ?_
      refine z_icmp_ge (tgt := 50) dX2_pass_26 (by decide) (by omega) (by omega) (fun b26 => ?_) (fun b26 => ?_)
      · omega
      · first | refine z_aload_n dX2_pass_29 rfl ?_ | refine z_aload_nT dX2_pass_29 rfl ?_
        refine h_getr dX2_pass_30 fl_X2_19 (by first | assumption | rfl) (by rfl) ?_
        refine z_iload_n dX2_pass_33 rfl ?_
        refine z_dup2 dX2_pass_34 rfl rfl ?_
        first | refine h_iald dX2_pass_35 (by first | assumption | rfl) (by repeat' first | apply zc_add | apply zc_mul | with_reducible exact zc_var _ | exact zc_lit _) (by omega) (by decide) ?_ | refine z_ialdT _ dX2_pass_35 (by assumption) (by repeat' first | apply zc_add | apply zc_mul | with_reducible exact zc_var _ | exact zc_lit _) (by omega) (by omega) ?_
        first | refine z_aload_n dX2_pass_36 rfl ?_ | refine z_aload_nT dX2_pass_36 rfl ?_
        refine z_iload_n dX2_pass_37 rfl ?_
        refine z_iload_n dX2_pass_38 rfl ?_
        refine h_Vi2 (Y' := M_X2_lossOf) dX2_pass_39 zw_457 zw_458 zw_459 rfl ok_X2_lossOf (by decide) rfl (Nat.le_of_ble_eq_true rfl) ⟨rfl, rfl⟩ (by decide) (by first | assumption | rfl) (k_lossOf (t := t) hk (g1.trans p1) (g4.trans p4) (j6.trans r6) (by omega) q1 q4 ⟨by omega, by omega⟩ hs hs2) (fun vv σ2 hq => ?_)
        obtain ⟨rfl, rfl⟩ := hq
        refine z_isub dX2_pass_42 ?_
        refine h_iast dX2_pass_43 (by first | assumption | rfl) (by repeat' first | apply zc_add | apply zc_mul | with_reducible exact zc_var _ | exact zc_lit _) (by omega) (by decide) ?_
        refine z_iinc dX2_pass_44 rfl (by decide) rfl ?_
        refine z_goto (tgt := 21) dX2_pass_47 (by decide) ?_
        have := ih (p + 1) (by omega) (zu σ2 (k + 4) p (σ2 (k + 4) p - loF t p s)) (fun j hj => by rw [zu_o (by omega)]; exact i1 j hj) (by rw [zu_o (by omega)]; exact i2) (fun o j h1 h2 => by rw [zu_o h2]; exact i3 o j h1 h2) (fun q hq => by
          by_cases hqp : q = p
          · subst hqp
            rw [zu_eq, g4, p4]
          · rw [zu_j hqp]
            exact i4 q (by omega)) (fun q hq => by
          rw [zu_j (by omega)]
          exact i5 q (by omega))
        rw [nsucc] at this
        exact this
  refine K_of 1 (by decide) (Nat.le_of_ble_eq_true rfl) (show Z _ _ 0 0 0 [some (zR k), some (zI s), none] [] _ _ from ?_)
  first | refine z_aload_n dX2_pass_0 rfl ?_ | refine z_aload_nT dX2_pass_0 rfl ?_
  refine z_sipush dX2_pass_1 rfl ?_
  first | refine z_aload_n dX2_pass_4 rfl ?_ | refine z_aload_nT dX2_pass_4 rfl ?_
  refine h_geti dX2_pass_5 fl_X2_33 (by first | assumption | rfl) (by rfl) ?_
  first | refine z_aload_n dX2_pass_8 rfl ?_ | refine z_aload_nT dX2_pass_8 rfl ?_
  refine h_Vi0 (Y' := M_X2_takeTogether) dX2_pass_9 zw_437 zw_438 zw_439 rfl ok_X2_takeTogether (by decide) rfl (Nat.le_of_ble_eq_true rfl) ⟨rfl, rfl⟩ (by decide) (by first | assumption | rfl) (k_takeTogether hk hR ho) (fun vv σ2 hq => ?_)
  obtain ⟨rfl, rfl⟩ := hq
  refine z_iadd dX2_pass_12 ?_
  refine h_Si2 (Y' := M_J9_min_7cf53) dX2_pass_13 zw_456 zw_423 ok_J9_min_7cf53 (by decide) rfl (Nat.le_of_ble_eq_true rfl) ⟨rfl, rfl⟩ (by decide) (k_min (by omega) (by omega)) (fun vv σ2 hq => ?_)
  obtain ⟨rfl, rfl⟩ := hq
  refine h_puti dX2_pass_16 fp_X2_33 (by first | assumption | rfl) (by rfl) ?_
  refine z_iconst dX2_pass_19 ?_
  refine z_istore_n dX2_pass_20 (by decide) rfl ?_
  refine loop _ 0 (Nat.zero_add _) _ (fun j hj => zu_j hj) (by rw [zu_eq, r7]) (fun o j h1 h2 => zu_o h1) (fun q hq => by omega) (fun q _ => zu_o (by omega))
theorem k_passAll {d : Nat} (hk : isC k) (hR : cR σ k t) (ho : cok B t) (hB : B + d ≤ 100000) (hd : d ≤ 1000) : KV rc M_X2_passAll [zR k, zI (d : Int)] σ (fun σ' => cR σ' k (gnF t d) ∧ fr k 5 σ σ') := by
  have loop : ∀ n p : Nat, p + n = d → ∀ σ' : Mem, cR σ' k (gnF t p) → fr k 5 σ σ' → Z rc M_X2_passAll 0 0 2 [some (zR k), some (zI (d : Int)), some (zI (p : Int))] [] (hp σ') (qV (fun σ' => cR σ' k (gnF t d) ∧ fr k 5 σ σ')) := by
    intro n
    induction n with
    | zero =>
      intro p hpn σ' i1 i2
      refine z_iload_n dX2_passAll_2 rfl ?_
      refine z_iload_n dX2_passAll_3 rfl ?_
      refine z_icmp_ge (tgt := 21) dX2_passAll_4 (by decide) (by omega) (by omega) (fun b4 => ?_) (fun b4 => ?_)
      · refine h_vret dX2_passAll_21 rfl rfl rfl ?_
        rw [show p = d by omega] at i1
        exact ⟨i1, i2⟩
      · omega
    | succ n ih =>
      intro p hpn σ' i1 i2
      have hg := gnF_ok ho p
      have hst := stF_in (gnF t p)
      have c0 := cs0 hk
      refine z_iload_n dX2_passAll_2 rfl ?_
      refine z_iload_n dX2_passAll_3 rfl ?_
      refine z_icmp_ge (tgt := 21) dX2_passAll_4 (by decide) (by omega) (by omega) (fun b4 => ?_) (fun b4 => ?_)
      · omega
      · first | refine z_aload_n dX2_passAll_7 rfl ?_ | refine z_aload_nT dX2_passAll_7 rfl ?_
        first | refine z_aload_n dX2_passAll_8 rfl ?_ | refine z_aload_nT dX2_passAll_8 rfl ?_
        refine h_Vi0 (Y' := M_X2_storm) dX2_passAll_9 zw_518 zw_426 zw_427 rfl ok_X2_storm (by decide) rfl (Nat.le_of_ble_eq_true rfl) ⟨rfl, rfl⟩ (by decide) (by first | assumption | rfl) (k_storm hk i1.2.2.2.2.2.2.2.2.1 i1.2.2.1 hg.2.2.2.2.2.2.2.2.1 hg.2.2.1.1 (by have := hg.2.2.1.2; omega)) (fun vv σ2 hq => ?_)
        obtain ⟨rfl, rfl⟩ := hq
        refine h_Vv1 (Y' := M_X2_pass) dX2_passAll_12 zw_519 zw_434 zw_435 rfl ok_X2_pass (by decide) rfl (Nat.le_of_ble_eq_true rfl) ⟨rfl, rfl⟩ (by decide) (by first | assumption | rfl) (k_pass hk i1 hg (by omega) hst.1 hst.2) (fun σ2 hq => ?_)
        obtain ⟨e1, e2⟩ := hq
        refine z_iinc dX2_passAll_15 rfl (by decide) rfl ?_
        refine z_goto (tgt := 2) dX2_passAll_18 (by decide) ?_
        have := ih (p + 1) (by omega) _ e1 (i2.tr e2)
        rw [nsucc] at this
        exact this
  refine K_of 1 (by decide) (Nat.le_of_ble_eq_true rfl) (show Z _ _ 0 0 0 [some (zR k), some (zI (d : Int)), none] [] _ _ from ?_)
  refine z_iconst dX2_passAll_0 ?_
  refine z_istore_n dX2_passAll_1 (by decide) rfl ?_
  exact loop _ 0 (Nat.zero_add _) σ hR fr.rf
theorem k_become {k2 : Nat} (hk : isC k) (hk2 : isC k2) (hne : k ≠ k2) (hR : cR σ k2 t) (h3 : 0 ≤ t 3 ∧ t 3 ≤ 5) (h8 : t 8 = 0 ∨ t 8 = 1) : KV rc M_X2_become [zR k, zR k2] σ (fun σ' => cR σ' k t ∧ fr k 5 σ σ') := by
  have hdis : k + 5 ≤ k2 ∨ k2 + 5 ≤ k := by unfold isC at hk hk2; omega
  obtain ⟨r4, r5, r6, r7, r8, r9, r10, r11, r12, rp⟩ := hR
  have c0 := cs0 hk
  have c1 := cs1 hk
  have c2 := cs2 hk
  have c3 := cs3 hk
  have c4 := cs4 hk
  have d0 := cs0 hk2
  have d1 := cs1 hk2
  have d2 := cs2 hk2
  have d3 := cs3 hk2
  have d4 := cs4 hk2
  have loop : ∀ n p : Nat, p + n = (t 3).toNat → ∀ σ' : Mem, σ' k 4 = t 8 → σ' k 5 = t 3 → σ' k 6 = t 0 → σ' k 7 = t 1 → σ' k 8 = t 2 → σ' k 9 = t 4 → σ' k 10 = t 5 → (t 8 = 1 → σ' k 11 = t 6) → σ' k 12 = t 7 → fr k 5 σ σ' → (∀ q : Nat, q < p → σ' (k + 1) q = t (9 + q) ∧ σ' (k + 2) q = t (14 + q) ∧ σ' (k + 3) q = t (19 + q) ∧ σ' (k + 4) q = t (24 + q)) →
      Z rc M_X2_become 0 0 74 [some (zR k), some (zR k2), some (zI (p : Int))] [] (hp σ') (qV (fun σ' => cR σ' k t ∧ fr k 5 σ σ')) := by
    intro n
    induction n with
    | zero =>
      intro p hpn σ' i4 i5 i6 i7 i8 i9 i10 i11 i12 hf ip
      refine z_iload_n dX2_become_74 rfl ?_
      first | refine z_aload_n dX2_become_75 rfl ?_ | refine z_aload_nT dX2_become_75 rfl ?_
      refine h_geti dX2_become_76 fl_X2_26 (by first | assumption | rfl) (by rfl) ?_
      refine z_icmp_ge (tgt := 136) dX2_become_79 (by decide) (by omega) (by omega) (fun b79 => ?_) (fun b79 => ?_)
      · refine h_vret dX2_become_136 rfl rfl rfl ?_
        exact ⟨⟨i4, i5, i6, i7, i8, i9, i10, i11, i12, fun q hq => ip q (by omega)⟩, hf⟩
      · omega
    | succ n ih =>
      intro p hpn σ' i4 i5 i6 i7 i8 i9 i10 i11 i12 hf ip
      have hp3 : (p : Int) < t 3 := by omega
      obtain ⟨p1, p2, p3, p4⟩ := rp p hp3
      refine z_iload_n dX2_become_74 rfl ?_
      first | refine z_aload_n dX2_become_75 rfl ?_ | refine z_aload_nT dX2_become_75 rfl ?_
      refine h_geti dX2_become_76 fl_X2_26 (by first | assumption | rfl) (by rfl) ?_
      refine z_icmp_ge (tgt := 136) dX2_become_79 (by decide) (by omega) (by omega) (fun b79 => ?_) (fun b79 => ?_)
      · omega
      · first | refine z_aload_n dX2_become_82 rfl ?_ | refine z_aload_nT dX2_become_82 rfl ?_
        refine h_getr dX2_become_83 fl_X2_9 (by first | assumption | rfl) (by rfl) ?_
        refine z_iload_n dX2_become_86 rfl ?_
        first | refine z_aload_n dX2_become_87 rfl ?_ | refine z_aload_nT dX2_become_87 rfl ?_
        refine h_getr dX2_become_88 fl_X2_9 (by first | assumption | rfl) (by rfl) ?_
        refine z_iload_n dX2_become_91 rfl ?_
        first | refine h_iald dX2_become_92 (by first | assumption | rfl) (by repeat' first | apply zc_add | apply zc_mul | with_reducible exact zc_var _ | exact zc_lit _) (by omega) (by decide) ?_ | refine z_ialdT _ dX2_become_92 (by assumption) (by repeat' first | apply zc_add | apply zc_mul | with_reducible exact zc_var _ | exact zc_lit _) (by omega) (by omega) ?_
        refine h_iast dX2_become_93 (by first | assumption | rfl) (by repeat' first | apply zc_add | apply zc_mul | with_reducible exact zc_var _ | exact zc_lit _) (by omega) (by decide) ?_
        first | refine z_aload_n dX2_become_94 rfl ?_ | refine z_aload_nT dX2_become_94 rfl ?_
        refine h_getr dX2_become_95 fl_X2_13 (by first | assumption | rfl) (by rfl) ?_
        refine z_iload_n dX2_become_98 rfl ?_
        first | refine z_aload_n dX2_become_99 rfl ?_ | refine z_aload_nT dX2_become_99 rfl ?_
        refine h_getr dX2_become_100 fl_X2_13 (by first | assumption | rfl) (by rfl) ?_
        refine z_iload_n dX2_become_103 rfl ?_
        first | refine h_iald dX2_become_104 (by first | assumption | rfl) (by repeat' first | apply zc_add | apply zc_mul | with_reducible exact zc_var _ | exact zc_lit _) (by omega) (by decide) ?_ | refine z_ialdT _ dX2_become_104 (by assumption) (by repeat' first | apply zc_add | apply zc_mul | with_reducible exact zc_var _ | exact zc_lit _) (by omega) (by omega) ?_
        refine h_iast dX2_become_105 (by first | assumption | rfl) (by repeat' first | apply zc_add | apply zc_mul | with_reducible exact zc_var _ | exact zc_lit _) (by omega) (by decide) ?_
        first | refine z_aload_n dX2_become_106 rfl ?_ | refine z_aload_nT dX2_become_106 rfl ?_
        refine h_getr dX2_become_107 fl_X2_16 (by first | assumption | rfl) (by rfl) ?_
        refine z_iload_n dX2_become_110 rfl ?_
        first | refine z_aload_n dX2_become_111 rfl ?_ | refine z_aload_nT dX2_become_111 rfl ?_
        refine h_getr dX2_become_112 fl_X2_16 (by first | assumption | rfl) (by rfl) ?_
        refine z_iload_n dX2_become_115 rfl ?_
        first | refine h_iald dX2_become_116 (by first | assumption | rfl) (by repeat' first | apply zc_add | apply zc_mul | with_reducible exact zc_var _ | exact zc_lit _) (by omega) (by decide) ?_ | refine z_ialdT _ dX2_become_116 (by assumption) (by repeat' first | apply zc_add | apply zc_mul | with_reducible exact zc_var _ | exact zc_lit _) (by omega) (by omega) ?_
        refine h_iast dX2_become_117 (by first | assumption | rfl) (by repeat' first | apply zc_add | apply zc_mul | with_reducible exact zc_var _ | exact zc_lit _) (by omega) (by decide) ?_
        first | refine z_aload_n dX2_become_118 rfl ?_ | refine z_aload_nT dX2_become_118 rfl ?_
        refine h_getr dX2_become_119 fl_X2_19 (by first | assumption | rfl) (by rfl) ?_
        refine z_iload_n dX2_become_122 rfl ?_
        first | refine z_aload_n dX2_become_123 rfl ?_ | refine z_aload_nT dX2_become_123 rfl ?_
        refine h_getr dX2_become_124 fl_X2_19 (by first | assumption | rfl) (by rfl) ?_
        refine z_iload_n dX2_become_127 rfl ?_
        first | refine h_iald dX2_become_128 (by first | assumption | rfl) (by repeat' first | apply zc_add | apply zc_mul | with_reducible exact zc_var _ | exact zc_lit _) (by omega) (by decide) ?_ | refine z_ialdT _ dX2_become_128 (by assumption) (by repeat' first | apply zc_add | apply zc_mul | with_reducible exact zc_var _ | exact zc_lit _) (by omega) (by omega) ?_
        refine h_iast dX2_become_129 (by first | assumption | rfl) (by repeat' first | apply zc_add | apply zc_mul | with_reducible exact zc_var _ | exact zc_lit _) (by omega) (by decide) ?_
        refine z_iinc dX2_become_130 rfl (by decide) rfl ?_
        refine z_goto (tgt := 74) dX2_become_133 (by decide) ?_
        have g1 : σ' (k2 + 1) p = t (9 + p) := (hf _ _ (by omega)).trans p1
        have g2 : zu σ' (k + 1) p (σ' (k2 + 1) p) (k2 + 2) p = t (14 + p) := by rw [zu_o (by omega)]; exact (hf _ _ (by omega)).trans p2
        have g3 : zu (zu σ' (k + 1) p (σ' (k2 + 1) p)) (k + 2) p (zu σ' (k + 1) p (σ' (k2 + 1) p) (k2 + 2) p) (k2 + 3) p = t (19 + p) := by rw [zu_o (by omega), zu_o (by omega)]; exact (hf _ _ (by omega)).trans p3
        rw [g3, g2, g1]
        have g4 : zu (zu (zu σ' (k + 1) p (t (9 + p))) (k + 2) p (t (14 + p))) (k + 3) p (t (19 + p)) (k2 + 4) p = t (24 + p) := by rw [zu_o (by omega), zu_o (by omega), zu_o (by omega)]; exact (hf _ _ (by omega)).trans p4
        rw [g4]
        have ek : ∀ j, zu (zu (zu (zu σ' (k + 1) p (t (9 + p))) (k + 2) p (t (14 + p))) (k + 3) p (t (19 + p))) (k + 4) p (t (24 + p)) k j = σ' k j := fun j => by rw [zu_o (by omega), zu_o (by omega), zu_o (by omega), zu_o (by omega)]
        have := ih (p + 1) (by omega) (zu (zu (zu (zu σ' (k + 1) p (t (9 + p))) (k + 2) p (t (14 + p))) (k + 3) p (t (19 + p))) (k + 4) p (t (24 + p))) (by rw [ek]; exact i4) (by rw [ek]; exact i5) (by rw [ek]; exact i6) (by rw [ek]; exact i7) (by rw [ek]; exact i8) (by rw [ek]; exact i9) (by rw [ek]; exact i10) (fun h => by rw [ek]; exact i11 h) (by rw [ek]; exact i12) (fun o j hoj => by rw [zu_o (by omega), zu_o (by omega), zu_o (by omega), zu_o (by omega)]; exact hf o j hoj) (fun q hq => by
          by_cases hqp : q = p
          · subst hqp
            refine ⟨?_, ?_, ?_, ?_⟩
            · rw [zu_o (by omega), zu_o (by omega), zu_o (by omega), zu_eq]
            · rw [zu_o (by omega), zu_o (by omega), zu_eq]
            · rw [zu_o (by omega), zu_eq]
            · rw [zu_eq]
          · rw [zu_j hqp, zu_j hqp, zu_j hqp, zu_j hqp, zu_j hqp, zu_j hqp, zu_j hqp, zu_j hqp, zu_j hqp, zu_j hqp, zu_j hqp, zu_j hqp, zu_j hqp, zu_j hqp, zu_j hqp, zu_j hqp]
            exact ip q (by omega))
        rw [nsucc] at this
        exact this
  refine K_of 1 (by decide) (Nat.le_of_ble_eq_true rfl) (show Z _ _ 0 0 0 [some (zR k), some (zR k2), none] [] _ _ from ?_)
  first | refine z_aload_n dX2_become_0 rfl ?_ | refine z_aload_nT dX2_become_0 rfl ?_
  first | refine z_aload_n dX2_become_1 rfl ?_ | refine z_aload_nT dX2_become_1 rfl ?_
  refine h_geti dX2_become_2 fl_X2_22 (by first | assumption | rfl) (by rfl) ?_
  refine h_putz dX2_become_5 fp_X2_22 (by omega) (by first | assumption | rfl) (by rfl) ?_
  first | refine z_aload_n dX2_become_8 rfl ?_ | refine z_aload_nT dX2_become_8 rfl ?_
  first | refine z_aload_n dX2_become_9 rfl ?_ | refine z_aload_nT dX2_become_9 rfl ?_
  refine h_geti dX2_become_10 fl_X2_26 (by first | assumption | rfl) (by rfl) ?_
  refine h_puti dX2_become_13 fp_X2_26 (by first | assumption | rfl) (by rfl) ?_
  first | refine z_aload_n dX2_become_16 rfl ?_ | refine z_aload_nT dX2_become_16 rfl ?_
  first | refine z_aload_n dX2_become_17 rfl ?_ | refine z_aload_nT dX2_become_17 rfl ?_
  refine h_geti dX2_become_18 fl_X2_30 (by first | assumption | rfl) (by rfl) ?_
  refine h_puti dX2_become_21 fp_X2_30 (by first | assumption | rfl) (by rfl) ?_
  first | refine z_aload_n dX2_become_24 rfl ?_ | refine z_aload_nT dX2_become_24 rfl ?_
  first | refine z_aload_n dX2_become_25 rfl ?_ | refine z_aload_nT dX2_become_25 rfl ?_
  refine h_geti dX2_become_26 fl_X2_33 (by first | assumption | rfl) (by rfl) ?_
  refine h_puti dX2_become_29 fp_X2_33 (by first | assumption | rfl) (by rfl) ?_
  first | refine z_aload_n dX2_become_32 rfl ?_ | refine z_aload_nT dX2_become_32 rfl ?_
  first | refine z_aload_n dX2_become_33 rfl ?_ | refine z_aload_nT dX2_become_33 rfl ?_
  refine h_geti dX2_become_34 fl_X2_36 (by first | assumption | rfl) (by rfl) ?_
  refine h_puti dX2_become_37 fp_X2_36 (by first | assumption | rfl) (by rfl) ?_
  first | refine z_aload_n dX2_become_40 rfl ?_ | refine z_aload_nT dX2_become_40 rfl ?_
  first | refine z_aload_n dX2_become_41 rfl ?_ | refine z_aload_nT dX2_become_41 rfl ?_
  refine h_geti dX2_become_42 fl_X2_39 (by first | assumption | rfl) (by rfl) ?_
  refine h_puti dX2_become_45 fp_X2_39 (by first | assumption | rfl) (by rfl) ?_
  first | refine z_aload_n dX2_become_48 rfl ?_ | refine z_aload_nT dX2_become_48 rfl ?_
  first | refine z_aload_n dX2_become_49 rfl ?_ | refine z_aload_nT dX2_become_49 rfl ?_
  refine h_geti dX2_become_50 fl_X2_42 (by first | assumption | rfl) (by rfl) ?_
  refine h_puti dX2_become_53 fp_X2_42 (by first | assumption | rfl) (by rfl) ?_
  first | refine z_aload_n dX2_become_56 rfl ?_ | refine z_aload_nT dX2_become_56 rfl ?_
  first | refine z_aload_n dX2_become_57 rfl ?_ | refine z_aload_nT dX2_become_57 rfl ?_
  refine h_geti dX2_become_58 fl_X2_45 (by first | assumption | rfl) (by rfl) ?_
  refine h_puti dX2_become_61 fp_X2_45 (by first | assumption | rfl) (by rfl) ?_
  first | refine z_aload_n dX2_become_64 rfl ?_ | refine z_aload_nT dX2_become_64 rfl ?_
  first | refine z_aload_n dX2_become_65 rfl ?_ | refine z_aload_nT dX2_become_65 rfl ?_
  refine h_geti dX2_become_66 fl_X2_48 (by first | assumption | rfl) (by rfl) ?_
  refine h_puti dX2_become_69 fp_X2_48 (by first | assumption | rfl) (by rfl) ?_
  refine z_iconst dX2_become_72 ?_
  refine z_istore_n dX2_become_73 (by decide) rfl ?_
  have ne := fun (τ : Mem) (j x : _) (j' : Nat) => @zu_o τ k j k2 j' x (Ne.symm hne)
  refine loop _ 0 (Nat.zero_add _) _ ?_ ?_ ?_ ?_ ?_ ?_ ?_ (fun h => ?_) ?_ (fun o j hoj => ?_) (fun q hq => by omega)
  · simp [zu, zup, Ne.symm hne, r4]
  · simp [zu, zup, Ne.symm hne, r5]
  · simp [zu, zup, Ne.symm hne, r6]
  · simp [zu, zup, Ne.symm hne, r7]
  · simp [zu, zup, Ne.symm hne, r8]
  · simp [zu, zup, Ne.symm hne, r9]
  · simp [zu, zup, Ne.symm hne, r10]
  · simp [zu, zup, Ne.symm hne, r11 h]
  · simp [zu, zup, Ne.symm hne, r12]
  · have : o ≠ k := by omega
    simp [zu, this]
theorem k_begin {a b c d e : Int} (hk : isC k) : KV rc M_X2_begin [zR k, zI a, zI b, zI c, zI d, zI e] σ (fun σ' => σ' k 4 = 1 ∧ σ' k 5 = 0 ∧ σ' k 6 = 0 ∧ σ' k 7 = 0 ∧ σ' k 8 = e ∧ σ' k 9 = a ∧ σ' k 10 = b ∧ σ' k 11 = c ∧ σ' k 12 = d ∧ fr k 5 σ σ') := by
  have c0 := cs0 hk
  refine K_of 0 (by decide) (Nat.le_of_ble_eq_true rfl) (show Z _ _ 0 0 0 [some (zR k), some (zI a), some (zI b), some (zI c), some (zI d), some (zI e)] [] _ _ from ?_)
  first | refine z_aload_n dX2_begin_0 rfl ?_ | refine z_aload_nT dX2_begin_0 rfl ?_
  refine z_iconst dX2_begin_1 ?_
  refine h_putz dX2_begin_2 fp_X2_22 (by omega) (by first | assumption | rfl) (by rfl) ?_
  first | refine z_aload_n dX2_begin_5 rfl ?_ | refine z_aload_nT dX2_begin_5 rfl ?_
  refine z_iconst dX2_begin_6 ?_
  refine h_puti dX2_begin_7 fp_X2_26 (by first | assumption | rfl) (by rfl) ?_
  first | refine z_aload_n dX2_begin_10 rfl ?_ | refine z_aload_nT dX2_begin_10 rfl ?_
  refine z_iconst dX2_begin_11 ?_
  refine h_puti dX2_begin_12 fp_X2_30 (by first | assumption | rfl) (by rfl) ?_
  first | refine z_aload_n dX2_begin_15 rfl ?_ | refine z_aload_nT dX2_begin_15 rfl ?_
  refine z_iconst dX2_begin_16 ?_
  refine h_puti dX2_begin_17 fp_X2_33 (by first | assumption | rfl) (by rfl) ?_
  first | refine z_aload_n dX2_begin_20 rfl ?_ | refine z_aload_nT dX2_begin_20 rfl ?_
  refine z_iload dX2_begin_21 rfl ?_
  refine h_puti dX2_begin_23 fp_X2_36 (by first | assumption | rfl) (by rfl) ?_
  first | refine z_aload_n dX2_begin_26 rfl ?_ | refine z_aload_nT dX2_begin_26 rfl ?_
  refine z_iload_n dX2_begin_27 rfl ?_
  refine h_puti dX2_begin_28 fp_X2_39 (by first | assumption | rfl) (by rfl) ?_
  first | refine z_aload_n dX2_begin_31 rfl ?_ | refine z_aload_nT dX2_begin_31 rfl ?_
  refine z_iload_n dX2_begin_32 rfl ?_
  refine h_puti dX2_begin_33 fp_X2_42 (by first | assumption | rfl) (by rfl) ?_
  first | refine z_aload_n dX2_begin_36 rfl ?_ | refine z_aload_nT dX2_begin_36 rfl ?_
  refine z_iload_n dX2_begin_37 rfl ?_
  refine h_puti dX2_begin_38 fp_X2_45 (by first | assumption | rfl) (by rfl) ?_
  first | refine z_aload_n dX2_begin_41 rfl ?_ | refine z_aload_nT dX2_begin_41 rfl ?_
  refine z_iload dX2_begin_42 rfl ?_
  refine h_puti dX2_begin_44 fp_X2_48 (by first | assumption | rfl) (by rfl) ?_
  refine h_vret dX2_begin_47 rfl rfl rfl ?_
  refine ⟨?_, ?_, ?_, ?_, ?_, ?_, ?_, ?_, ?_, fun o j hoj => ?_⟩
  · simp [zu, zup]
  · simp [zu, zup]
  · simp [zu, zup]
  · simp [zu, zup]
  · simp [zu, zup]
  · simp [zu, zup]
  · simp [zu, zup]
  · simp [zu, zup]
  · simp [zu, zup]
  · have : o ≠ k := by omega
    simp [zu, this]
theorem k_addPier {n : Nat} {a b c d : Int} (hk : isC k) (hn : σ k 5 = (n : Int)) (hn5 : n < 5) : KV rc M_X2_addPier [zR k, zI a, zI b, zI c, zI d] σ (fun σ' => σ' k 5 = (n : Int) + 1 ∧ (∀ j, j ≠ 5 → σ' k j = σ k j) ∧ σ' (k + 1) n = a ∧ σ' (k + 2) n = b ∧ σ' (k + 3) n = c ∧ σ' (k + 4) n = d ∧ (∀ i j, j ≠ n → σ' (k + 1 + i) j = σ (k + 1 + i) j) ∧ fr k 5 σ σ') := by
  have c0 := cs0 hk
  have c1 := cs1 hk
  have c2 := cs2 hk
  have c3 := cs3 hk
  have c4 := cs4 hk
  have ek : ∀ (τ : Mem) (i : Nat) (j : Nat) (x : Int), zu τ (k + 1 + i) j x k 5 = τ k 5 := fun τ i j x => zu_o (by omega)
  refine K_of 0 (by decide) (Nat.le_of_ble_eq_true rfl) (show Z _ _ 0 0 0 [some (zR k), some (zI a), some (zI b), some (zI c), some (zI d)] [] _ _ from ?_)
  first | refine z_aload_n dX2_addPier_0 rfl ?_ | refine z_aload_nT dX2_addPier_0 rfl ?_
  refine h_geti dX2_addPier_1 fl_X2_26 (by first | assumption | rfl) (by rfl) ?_
  refine z_iconst dX2_addPier_4 ?_
  refine z_icmp_lt (tgt := 9) dX2_addPier_5 (by decide) (by omega) (by omega) (fun b5 => ?_) (fun b5 => ?_)
  · first | refine z_aload_n dX2_addPier_9 rfl ?_ | refine z_aload_nT dX2_addPier_9 rfl ?_
    refine h_getr dX2_addPier_10 fl_X2_9 (by first | assumption | rfl) (by rfl) ?_
    first | refine z_aload_n dX2_addPier_13 rfl ?_ | refine z_aload_nT dX2_addPier_13 rfl ?_
    refine h_geti dX2_addPier_14 fl_X2_26 (by first | assumption | rfl) (by rfl) ?_
    rw [hn]
    refine z_iload_n dX2_addPier_17 rfl ?_
    refine h_iast dX2_addPier_18 (by first | assumption | rfl) (by repeat' first | apply zc_add | apply zc_mul | with_reducible exact zc_var _ | exact zc_lit _) (by omega) (by decide) ?_
    first | refine z_aload_n dX2_addPier_19 rfl ?_ | refine z_aload_nT dX2_addPier_19 rfl ?_
    refine h_getr dX2_addPier_20 fl_X2_13 (by first | assumption | rfl) (by rfl) ?_
    first | refine z_aload_n dX2_addPier_23 rfl ?_ | refine z_aload_nT dX2_addPier_23 rfl ?_
    refine h_geti dX2_addPier_24 fl_X2_26 (by first | assumption | rfl) (by rfl) ?_
    rw [zu_o (by omega), hn]
    refine z_iload_n dX2_addPier_27 rfl ?_
    refine h_iast dX2_addPier_28 (by first | assumption | rfl) (by repeat' first | apply zc_add | apply zc_mul | with_reducible exact zc_var _ | exact zc_lit _) (by omega) (by decide) ?_
    first | refine z_aload_n dX2_addPier_29 rfl ?_ | refine z_aload_nT dX2_addPier_29 rfl ?_
    refine h_getr dX2_addPier_30 fl_X2_16 (by first | assumption | rfl) (by rfl) ?_
    first | refine z_aload_n dX2_addPier_33 rfl ?_ | refine z_aload_nT dX2_addPier_33 rfl ?_
    refine h_geti dX2_addPier_34 fl_X2_26 (by first | assumption | rfl) (by rfl) ?_
    rw [zu_o (by omega), zu_o (by omega), hn]
    refine z_iload_n dX2_addPier_37 rfl ?_
    refine h_iast dX2_addPier_38 (by first | assumption | rfl) (by repeat' first | apply zc_add | apply zc_mul | with_reducible exact zc_var _ | exact zc_lit _) (by omega) (by decide) ?_
    first | refine z_aload_n dX2_addPier_39 rfl ?_ | refine z_aload_nT dX2_addPier_39 rfl ?_
    refine h_getr dX2_addPier_40 fl_X2_19 (by first | assumption | rfl) (by rfl) ?_
    first | refine z_aload_n dX2_addPier_43 rfl ?_ | refine z_aload_nT dX2_addPier_43 rfl ?_
    refine h_geti dX2_addPier_44 fl_X2_26 (by first | assumption | rfl) (by rfl) ?_
    rw [zu_o (by omega), zu_o (by omega), zu_o (by omega), hn]
    refine z_iload dX2_addPier_47 rfl ?_
    refine h_iast dX2_addPier_49 (by first | assumption | rfl) (by repeat' first | apply zc_add | apply zc_mul | with_reducible exact zc_var _ | exact zc_lit _) (by omega) (by decide) ?_
    first | refine z_aload_n dX2_addPier_50 rfl ?_ | refine z_aload_nT dX2_addPier_50 rfl ?_
    refine z_dup dX2_addPier_51 rfl ?_
    refine h_geti dX2_addPier_52 fl_X2_26 (by first | assumption | rfl) (by rfl) ?_
    refine z_iconst dX2_addPier_55 ?_
    refine z_iadd dX2_addPier_56 ?_
    refine h_puti dX2_addPier_57 fp_X2_26 (by first | assumption | rfl) (by rfl) ?_
    refine h_vret dX2_addPier_60 rfl rfl rfl ?_
    refine ⟨?_, fun j hj => ?_, ?_, ?_, ?_, ?_, fun i j hj => ?_, fun o j hoj => ?_⟩
    · rw [zu_eq, zu_o (by omega), zu_o (by omega), zu_o (by omega), zu_o (by omega), hn]
    · rw [zu_j hj, zu_o (by omega), zu_o (by omega), zu_o (by omega), zu_o (by omega)]
    · rw [zu_o (by omega), zu_o (by omega), zu_o (by omega), zu_o (by omega), zu_eq]
    · rw [zu_o (by omega), zu_o (by omega), zu_o (by omega), zu_eq]
    · rw [zu_o (by omega), zu_o (by omega), zu_eq]
    · rw [zu_o (by omega), zu_eq]
    · rw [zu_o (by omega), zu_j hj, zu_j hj, zu_j hj, zu_j hj]
    · rw [zu_o (by omega), zu_o (by omega), zu_o (by omega), zu_o (by omega), zu_o (by omega)]
  · omega
theorem cR_up {σ σ' : Mem} {i p : Nat} {x : Int} (hR : cR σ k t) (h3 : 0 ≤ t 3 ∧ t 3 ≤ 5) (hp : (p : Int) < t 3) (hi : i < 4) (he : σ' = zu σ (k + 1 + i) p x) : cR σ' k (zup t (9 + 5 * i + p) x) := by
  subst he
  obtain ⟨r4, r5, r6, r7, r8, r9, r10, r11, r12, rp⟩ := hR
  have hz : ∀ j, j < 9 → zup t (9 + 5 * i + p) x j = t j := fun j hj => by
    unfold zup
    rw [if_neg (by omega)]
  have ek : ∀ j, zu σ (k + 1 + i) p x k j = σ k j := fun j => zu_o (by omega)
  refine ⟨?_, ?_, ?_, ?_, ?_, ?_, ?_, fun h => ?_, ?_, fun q hq => ?_⟩
  · rw [ek, hz 8 (by omega), r4]
  · rw [ek, hz 3 (by omega), r5]
  · rw [ek, hz 0 (by omega), r6]
  · rw [ek, hz 1 (by omega), r7]
  · rw [ek, hz 2 (by omega), r8]
  · rw [ek, hz 4 (by omega), r9]
  · rw [ek, hz 5 (by omega), r10]
  · rw [hz 8 (by omega)] at h
    rw [ek, hz 6 (by omega), r11 h]
  · rw [ek, hz 7 (by omega), r12]
  · rw [hz 3 (by omega)] at hq
    obtain ⟨p1, p2, p3, p4⟩ := rp q hq
    have key : ∀ i', i' < 4 → σ (k + 1 + i') q = t (9 + 5 * i' + q) → zu σ (k + 1 + i) p x (k + 1 + i') q = zup t (9 + 5 * i + p) x (9 + 5 * i' + q) := fun i' hi' h => by
      unfold zup
      by_cases h1 : i' = i ∧ q = p
      · obtain ⟨rfl, rfl⟩ := h1
        rw [zu_eq, if_pos rfl]
      · rw [if_neg (by omega)]
        by_cases h2 : i' = i
        · subst h2
          rw [zu_j (by omega), h]
        · rw [zu_o (by omega), h]
    exact ⟨key 0 (by omega) p1, key 1 (by omega) p2, key 2 (by omega) p3, key 3 (by omega) p4⟩
def chI (what : Nat) : Nat := if what = 0 then 14 else if what = 1 then 19 else if what = 2 then 9 else 24
theorem k_change {p what : Nat} {v : Int} (hk : isC k) (hR : cR σ k t) (h3 : 0 ≤ t 3 ∧ t 3 ≤ 5) (hp : (p : Int) < t 3) (hw : what < 4) : KV rc M_X2_change [zR k, zI (p : Int), zI (what : Int), zI v] σ (fun σ' => cR σ' k (zup t (chI what + p) v) ∧ fr k 5 σ σ') := by
  have c0 := cs0 hk
  have c1 := cs1 hk
  have c2 := cs2 hk
  have c3 := cs3 hk
  have c4 := cs4 hk
  have hfr : ∀ i, i < 4 → fr k 5 σ (zu σ (k + 1 + i) p v) := fun i hi o j hoj => zu_o (by omega)
  have hc : what = 0 ∨ what = 1 ∨ what = 2 ∨ what = 3 := by omega
  refine K_of 0 (by decide) (Nat.le_of_ble_eq_true rfl) (show Z _ _ 0 0 0 [some (zR k), some (zI (p : Int)), some (zI (what : Int)), some (zI v)] [] _ _ from ?_)
  refine z_iload_n dX2_change_0 rfl ?_
  rcases hc with rfl | rfl | rfl | rfl
  · refine z_tswIn (tgt := 28) dX2_change_1 (by omega) (by omega) (by omega) rfl (by decide) ?_
    first | refine z_aload_n dX2_change_28 rfl ?_ | refine z_aload_nT dX2_change_28 rfl ?_
    refine h_getr dX2_change_29 fl_X2_13 (by first | assumption | rfl) (by rfl) ?_
    refine z_iload_n dX2_change_32 rfl ?_
    refine z_iload_n dX2_change_33 rfl ?_
    refine h_iast dX2_change_34 (by first | assumption | rfl) (by repeat' first | apply zc_add | apply zc_mul | with_reducible exact zc_var _ | exact zc_lit _) (by omega) (by decide) ?_
    refine z_goto (tgt := 65) dX2_change_35 (by decide) ?_
    refine h_vret dX2_change_65 rfl rfl rfl ?_
    exact ⟨cR_up hR h3 hp (i := 1) (by omega) rfl, hfr 1 (by omega)⟩
  · refine z_tswIn (tgt := 38) dX2_change_1 (by omega) (by omega) (by omega) rfl (by decide) ?_
    first | refine z_aload_n dX2_change_38 rfl ?_ | refine z_aload_nT dX2_change_38 rfl ?_
    refine h_getr dX2_change_39 fl_X2_16 (by first | assumption | rfl) (by rfl) ?_
    refine z_iload_n dX2_change_42 rfl ?_
    refine z_iload_n dX2_change_43 rfl ?_
    refine h_iast dX2_change_44 (by first | assumption | rfl) (by repeat' first | apply zc_add | apply zc_mul | with_reducible exact zc_var _ | exact zc_lit _) (by omega) (by decide) ?_
    refine z_goto (tgt := 65) dX2_change_45 (by decide) ?_
    refine h_vret dX2_change_65 rfl rfl rfl ?_
    exact ⟨cR_up hR h3 hp (i := 2) (by omega) rfl, hfr 2 (by omega)⟩
  · refine z_tswIn (tgt := 48) dX2_change_1 (by omega) (by omega) (by omega) rfl (by decide) ?_
    first | refine z_aload_n dX2_change_48 rfl ?_ | refine z_aload_nT dX2_change_48 rfl ?_
    refine h_getr dX2_change_49 fl_X2_9 (by first | assumption | rfl) (by rfl) ?_
    refine z_iload_n dX2_change_52 rfl ?_
    refine z_iload_n dX2_change_53 rfl ?_
    refine h_iast dX2_change_54 (by first | assumption | rfl) (by repeat' first | apply zc_add | apply zc_mul | with_reducible exact zc_var _ | exact zc_lit _) (by omega) (by decide) ?_
    refine z_goto (tgt := 65) dX2_change_55 (by decide) ?_
    refine h_vret dX2_change_65 rfl rfl rfl ?_
    exact ⟨cR_up hR h3 hp (i := 0) (by omega) rfl, hfr 0 (by omega)⟩
  · refine z_tswOut (tgt := 58) dX2_change_1 (by omega) (by omega) (by decide) ?_
    first | refine z_aload_n dX2_change_58 rfl ?_ | refine z_aload_nT dX2_change_58 rfl ?_
    refine h_getr dX2_change_59 fl_X2_19 (by first | assumption | rfl) (by rfl) ?_
    refine z_iload_n dX2_change_62 rfl ?_
    refine z_iload_n dX2_change_63 rfl ?_
    refine h_iast dX2_change_64 (by first | assumption | rfl) (by repeat' first | apply zc_add | apply zc_mul | with_reducible exact zc_var _ | exact zc_lit _) (by omega) (by decide) ?_
    refine h_vret dX2_change_65 rfl rfl rfl ?_
    exact ⟨cR_up hR h3 hp (i := 3) (by omega) rfl, hfr 3 (by omega)⟩
theorem k_buildSpan {p : Nat} (hk : isC k) (hR : cR σ k t) (h3 : 0 ≤ t 3 ∧ t 3 ≤ 5) (hp : (p : Int) < t 3) : KV rc M_X2_buildSpan [zR k, zI (p : Int)] σ (fun σ' => cR σ' k (zup (zup t (24 + p) (t (24 + p) + 1)) 2 (t 2 - 1)) ∧ fr k 5 σ σ') := by
  have c0 := cs0 hk
  have c4 := cs4 hk
  have e4 := (hR.2.2.2.2.2.2.2.2.2 p hp).2.2.2
  have e8 := hR.2.2.2.2.1
  have hU := cR_up hR h3 hp (i := 3) (x := t (24 + p) + 1) (by omega) rfl
  refine K_of 0 (by decide) (Nat.le_of_ble_eq_true rfl) (show Z _ _ 0 0 0 [some (zR k), some (zI (p : Int))] [] _ _ from ?_)
  first | refine z_aload_n dX2_buildSpan_0 rfl ?_ | refine z_aload_nT dX2_buildSpan_0 rfl ?_
  refine h_getr dX2_buildSpan_1 fl_X2_19 (by first | assumption | rfl) (by rfl) ?_
  refine z_iload_n dX2_buildSpan_4 rfl ?_
  refine z_dup2 dX2_buildSpan_5 rfl rfl ?_
  first | refine h_iald dX2_buildSpan_6 (by first | assumption | rfl) (by repeat' first | apply zc_add | apply zc_mul | with_reducible exact zc_var _ | exact zc_lit _) (by omega) (by decide) ?_ | refine z_ialdT _ dX2_buildSpan_6 (by assumption) (by repeat' first | apply zc_add | apply zc_mul | with_reducible exact zc_var _ | exact zc_lit _) (by omega) (by omega) ?_
  refine z_iconst dX2_buildSpan_7 ?_
  refine z_iadd dX2_buildSpan_8 ?_
  refine h_iast dX2_buildSpan_9 (by first | assumption | rfl) (by repeat' first | apply zc_add | apply zc_mul | with_reducible exact zc_var _ | exact zc_lit _) (by omega) (by decide) ?_
  first | refine z_aload_n dX2_buildSpan_10 rfl ?_ | refine z_aload_nT dX2_buildSpan_10 rfl ?_
  refine z_dup dX2_buildSpan_11 rfl ?_
  refine h_geti dX2_buildSpan_12 fl_X2_36 (by first | assumption | rfl) (by rfl) ?_
  refine z_iconst dX2_buildSpan_15 ?_
  refine z_isub dX2_buildSpan_16 ?_
  refine h_puti dX2_buildSpan_17 fp_X2_36 (by first | assumption | rfl) (by rfl) ?_
  refine h_vret dX2_buildSpan_20 rfl rfl rfl ?_
  rw [e4]
  have ek : zu σ (k + 4) p (t (24 + p) + 1) k 8 = t 2 := by rw [zu_o (by omega), e8]
  rw [ek]
  refine ⟨?_, fun o j hoj => by rw [zu_o (by omega), zu_o (by omega)]⟩
  have hU : cR (zu σ (k + 4) p (t (24 + p) + 1)) k (zup t (24 + p) (t (24 + p) + 1)) := hU
  generalize zup t (24 + p) (t (24 + p) + 1) = u at hU ⊢
  generalize zu σ (k + 4) p (t (24 + p) + 1) = τ at hU ⊢
  generalize t 2 - 1 = y
  obtain ⟨r4, r5, r6, r7, r8, r9, r10, r11, r12, rp⟩ := hU
  have hz : ∀ j, j ≠ 2 → zup u 2 y j = u j := fun j hj => by
    unfold zup
    rw [if_neg hj]
  refine ⟨?_, ?_, ?_, ?_, ?_, ?_, ?_, fun h => ?_, ?_, fun q hq => ?_⟩
  · rw [zu_j (by omega), hz 8 (by omega), r4]
  · rw [zu_j (by omega), hz 3 (by omega), r5]
  · rw [zu_j (by omega), hz 0 (by omega), r6]
  · rw [zu_j (by omega), hz 1 (by omega), r7]
  · rw [zu_eq]; simp [zup]
  · rw [zu_j (by omega), hz 4 (by omega), r9]
  · rw [zu_j (by omega), hz 5 (by omega), r10]
  · rw [hz 8 (by omega)] at h
    rw [zu_j (by omega), hz 6 (by omega), r11 h]
  · rw [zu_j (by omega), hz 7 (by omega), r12]
  · rw [hz 3 (by omega)] at hq
    obtain ⟨p1, p2, p3, p4⟩ := rp q hq
    rw [zu_o (by omega), zu_o (by omega), zu_o (by omega), zu_o (by omega), hz _ (by omega), hz _ (by omega), hz _ (by omega), hz _ (by omega)]
    exact ⟨p1, p2, p3, p4⟩
end
