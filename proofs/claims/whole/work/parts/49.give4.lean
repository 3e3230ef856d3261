/-! give: the class, the shares -/
theorem beF_00 {B : Int} {t : Nat → Int} {d m : Nat} (h : cok B t) (hm : t 3 = (m : Int)) (hd : d ≤ 60) : beF t d m m 0 ≠ NONE := by
  have := beF_ub (g := dgF m 0) h hm hd m (Nat.le_refl _) (fun p _ hp => (gvK_z (I := 0) h hm).1 p hp) 0 (by rw [Nat.sub_self, NF_z]; rfl)
  exact this.1
theorem VF_in {B : Int} {t : Nat → Int} {d m : Nat} {g : Nat → Nat} (h : cok B t) (hm : t 3 = (m : Int)) (hd : d ≤ 60) {p : Nat} (hp : p ≤ m) : 0 ≤ VF t d g p ∧ VF t d g p ≤ 1740 * (p : Int) := gsF_in p (fun q hq => by
  have := taF_in h (p := q) (by omega) d (t (24 + q) + (g q : Int)) (t 0)
  omega)
section
variable {rc : ZRC} {σ α : Mem} {t : Nat → Int} {d I m : Nat}
theorem c_fewestOfBest (hR : cR σ 8 t) (hk : cok 999 t) (hm : t 3 = (m : Int)) (hd : d ≤ 60) (hI : I ≤ 9) (hB : ∀ q n : Nat, q ≤ m → n ≤ I → σ 38 (q * 10 + n) = beF t d m (m - q) n) : KI rc M_X11_fewestOfBest [zR 0, zI (I : Int)] σ (fun v σ' => (∃ n0 : Nat, v = (n0 : Int) ∧ fwP t d I m n0) ∧ σ' = σ) := by
  have h3 := hk.2.1
  have h1 := hk.2.2.2.1
  have hNN : (NONE : Int) = -1000000 := rfl
  have hB0 : ∀ n : Nat, n ≤ I → σ 38 n = beF t d m m n := fun n hn => by
    have := hB 0 n (Nat.zero_le _) hn
    rw [Nat.zero_mul, Nat.zero_add, Nat.sub_zero] at this
    exact this
  have hbi : ∀ n : Nat, beF t d m m n = NONE ∨ (0 ≤ beF t d m m n ∧ beF t d m m n ≤ 10000) := fun n => by
    have := beF_in hk hm hd m (Nat.le_refl _) n
    omega
  have hpi : ∀ n : Nat, zin (pwF t (beF t d m m n)) := fun n => by
    have := hbi n
    unfold pwF zin
    omega
  have loop : ∀ k n : Nat, n + k = I + 1 → ∀ f : Nat, f < n → beF t d m m f ≠ NONE → (∀ j, j < n → beF t d m m j ≠ NONE → pwF t (beF t d m m j) ≤ pwF t (beF t d m m f) ∧ (pwF t (beF t d m m j) = pwF t (beF t d m m f) → f ≤ j)) → Z rc M_X11_fewestOfBest 0 0 4 [some (zR 0), some (zI (I : Int)), some (zI (f : Int)), some (zI (n : Int))] [] (hp σ) (qI (fun v σ' => (∃ n0 : Nat, v = (n0 : Int) ∧ fwP t d I m n0) ∧ σ' = σ)) := by
    intro k
    induction k with
    | zero =>
      intro n hn f f1 f2 f3
      refine z_iload_n dX11_fewestOfBest_4 rfl ?_
      refine z_iload_n dX11_fewestOfBest_5 rfl ?_
      refine z_icmp_gt (tgt := 51) dX11_fewestOfBest_6 (by decide) (by omega) (by omega) (fun b6 => ?_) (fun b6 => ?_)
      · refine z_iload_n dX11_fewestOfBest_51 rfl ?_
        refine h_iret dX11_fewestOfBest_52 rfl rfl rfl ?_
        exact ⟨⟨f, rfl, by omega, f2, fun j hj => f3 j (by omega)⟩, rfl⟩
      · omega
    | succ k ih =>
      intro n hn f f1 f2 f3
      have q1 := hbi n
      have q2 := hbi f
      have p1 := hpi n
      have p2 := hpi f
      have stay : (beF t d m m n = NONE ∨ pwF t (beF t d m m n) ≤ pwF t (beF t d m m f)) → Z rc M_X11_fewestOfBest 0 0 45 [some (zR 0), some (zI (I : Int)), some (zI (f : Int)), some (zI (n : Int))] [] (hp σ) (qI (fun v σ' => (∃ n0 : Nat, v = (n0 : Int) ∧ fwP t d I m n0) ∧ σ' = σ)) := by
        intro hs
        refine z_iinc dX11_fewestOfBest_45 rfl (by decide) rfl ?_
        refine z_goto (tgt := 4) dX11_fewestOfBest_48 (by decide) ?_
        have := ih (n + 1) (by omega) f (by omega) f2 (fun j hj hb => by
          by_cases e : j = n
          · subst e
            rcases hs with hs | hs
            · exact absurd hs hb
            · exact ⟨hs, fun _ => by omega⟩
          · exact f3 j (by omega) hb)
        rw [nsucc] at this
        exact this
      refine z_iload_n dX11_fewestOfBest_4 rfl ?_
      refine z_iload_n dX11_fewestOfBest_5 rfl ?_
      refine z_icmp_gt (tgt := 51) dX11_fewestOfBest_6 (by decide) (by omega) (by omega) (fun b6 => ?_) (fun b6 => ?_)
      · omega
      · first | refine z_aload_n dX11_fewestOfBest_9 rfl ?_ | refine z_aload_nT dX11_fewestOfBest_9 rfl ?_
        refine h_getr dX11_fewestOfBest_10 fl_X11_92 (by first | assumption | rfl) (by rfl) ?_
        refine z_iload_n dX11_fewestOfBest_13 rfl ?_
        first | refine h_iald dX11_fewestOfBest_14 (by first | assumption | rfl) (by repeat' first | apply zc_add | apply zc_mul | with_reducible exact zc_var _ | exact zc_lit _) (by omega) (by decide) ?_ | refine z_ialdT _ dX11_fewestOfBest_14 (by assumption) (by repeat' first | apply zc_add | apply zc_mul | with_reducible exact zc_var _ | exact zc_lit _) (by omega) (by omega) ?_
        rw [hB0 n (by omega)]
        refine z_ldc (n := -1000000) dX11_fewestOfBest_15 zw_528 rfl ?_
        refine z_icmp_eq (tgt := 45) dX11_fewestOfBest_17 (by decide) (by omega) (by omega) (fun b17 => ?_) (fun b17 => ?_)
        · exact stay (Or.inl b17)
        · first | refine z_aload_n dX11_fewestOfBest_20 rfl ?_ | refine z_aload_nT dX11_fewestOfBest_20 rfl ?_
          first | refine z_aload_n dX11_fewestOfBest_21 rfl ?_ | refine z_aload_nT dX11_fewestOfBest_21 rfl ?_
          refine h_getr dX11_fewestOfBest_22 fl_X11_92 (by first | assumption | rfl) (by rfl) ?_
          refine z_iload_n dX11_fewestOfBest_25 rfl ?_
          first | refine h_iald dX11_fewestOfBest_26 (by first | assumption | rfl) (by repeat' first | apply zc_add | apply zc_mul | with_reducible exact zc_var _ | exact zc_lit _) (by omega) (by decide) ?_ | refine z_ialdT _ dX11_fewestOfBest_26 (by assumption) (by repeat' first | apply zc_add | apply zc_mul | with_reducible exact zc_var _ | exact zc_lit _) (by omega) (by omega) ?_
          rw [hB0 n (by omega)]
          refine h_Vi1 (Y' := M_X11_purseWith) dX11_fewestOfBest_27 zw_571 zw_573 zs_16 rfl ok_X11_purseWith (by decide) rfl (Nat.le_of_ble_eq_true rfl) ⟨rfl, rfl⟩ (by decide) (by first | assumption | rfl) (c_purseWith (t := t) hR.2.2.2.1 h1 (by omega)) (fun vv σ2 hq => ?_)
          obtain ⟨rfl, rfl⟩ := hq
          first | refine z_aload_n dX11_fewestOfBest_30 rfl ?_ | refine z_aload_nT dX11_fewestOfBest_30 rfl ?_
          first | refine z_aload_n dX11_fewestOfBest_31 rfl ?_ | refine z_aload_nT dX11_fewestOfBest_31 rfl ?_
          refine h_getr dX11_fewestOfBest_32 fl_X11_92 (by first | assumption | rfl) (by rfl) ?_
          refine z_iload_n dX11_fewestOfBest_35 rfl ?_
          first | refine h_iald dX11_fewestOfBest_36 (by first | assumption | rfl) (by repeat' first | apply zc_add | apply zc_mul | with_reducible exact zc_var _ | exact zc_lit _) (by omega) (by decide) ?_ | refine z_ialdT _ dX11_fewestOfBest_36 (by assumption) (by repeat' first | apply zc_add | apply zc_mul | with_reducible exact zc_var _ | exact zc_lit _) (by omega) (by omega) ?_
          rw [hB0 f (by omega)]
          refine h_Vi1 (Y' := M_X11_purseWith) dX11_fewestOfBest_37 zw_571 zw_573 zs_16 rfl ok_X11_purseWith (by decide) rfl (Nat.le_of_ble_eq_true rfl) ⟨rfl, rfl⟩ (by decide) (by first | assumption | rfl) (c_purseWith (t := t) hR.2.2.2.1 h1 (by omega)) (fun vv σ2 hq => ?_)
          obtain ⟨rfl, rfl⟩ := hq
          refine z_icmp_le (tgt := 45) dX11_fewestOfBest_40 (by decide) (by omega) (by omega) (fun b40 => ?_) (fun b40 => ?_)
          · exact stay (Or.inr b40)
          · refine z_iload_n dX11_fewestOfBest_43 rfl ?_
            refine z_istore_n dX11_fewestOfBest_44 (by decide) rfl ?_
            refine z_iinc dX11_fewestOfBest_45 rfl (by decide) rfl ?_
            refine z_goto (tgt := 4) dX11_fewestOfBest_48 (by decide) ?_
            have := ih (n + 1) (by omega) n (by omega) b17 (fun j hj hb => by
              by_cases e : j = n
              · subst e
                exact ⟨by omega, fun _ => by omega⟩
              · have := f3 j (by omega) hb
                omega)
            rw [nsucc] at this
            exact this
  refine K_of 2 (by decide) (Nat.le_of_ble_eq_true rfl) (show Z _ _ 0 0 0 [some (zR 0), some (zI (I : Int)), none, none] [] _ _ from ?_)
  refine z_iconst dX11_fewestOfBest_0 ?_
  refine z_istore_n dX11_fewestOfBest_1 (by decide) rfl ?_
  refine z_iconst dX11_fewestOfBest_2 ?_
  refine z_istore_n dX11_fewestOfBest_3 (by decide) rfl ?_
  exact loop I 1 (by omega) 0 (by omega) (beF_00 hk hm hd) (fun j hj _ => by
    have e : j = 0 := by omega
    subst e
    exact ⟨Int.le_refl _, fun _ => Nat.le_refl _⟩)
theorem c_firstShare {p left : Nat} {gd most : Int} (hR : cR σ 8 t) (hk : cok 999 t) (hm : t 3 = (m : Int)) (hd : d ≤ 60) (hI : I ≤ 9) (hG : ∀ p x : Nat, p < m → x ≤ I → σ 37 (p * 10 + x) = gaV t d p x) (hB : ∀ q n : Nat, q ≤ m → n ≤ I → σ 38 (q * 10 + n) = beF t d m (m - q) n) (hpm : p < m) (hl : left ≤ I) (hg : 0 ≤ gd ∧ gd ≤ 10000) (hmo : zin most) : KI rc M_X11_firstShare [zR 0, zI (p : Int), zI (left : Int), zI gd, zI most] σ (fun v σ' => v = (fsF t d m most p left gd left 0 : Int) ∧ σ' = σ) := by
  have h3 := hk.2.1
  have h1 := hk.2.2.2.1
  have hNN : (NONE : Int) = -1000000 := rfl
  have hbn : ∀ n : Nat, beF t d m (m - (p + 1)) n = NONE ∨ (0 ≤ beF t d m (m - (p + 1)) n ∧ beF t d m (m - (p + 1)) n ≤ 10000) := fun n => by
    have := beF_in hk hm hd (m - (p + 1)) (by omega) n
    omega
  have hgi : ∀ x n : Nat, ghV t d m p x n = NONE ∨ (0 ≤ ghV t d m p x n ∧ ghV t d m p x n ≤ 11740) := fun x n => ghF_in (A := 10000) (by omega) (gaV_in hk (by omega) hd) (hbn (n - x))
  have loop : ∀ k x : Nat, x + k = left → ∀ x6 : Option ZV, Z rc M_X11_firstShare 0 0 3 [some (zR 0), some (zI (p : Int)), some (zI (left : Int)), some (zI gd), some (zI most), some (zI (x : Int)), x6] [] (hp σ) (qI (fun v σ' => v = (fsF t d m most p left gd k x : Int) ∧ σ' = σ)) := by
    intro k
    induction k with
    | zero =>
      intro x hx x6
      refine z_iload dX11_firstShare_3 rfl ?_
      refine z_iload_n dX11_firstShare_5 rfl ?_
      refine z_icmp_ge (tgt := 48) dX11_firstShare_6 (by decide) (by omega) (by omega) (fun b6 => ?_) (fun b6 => ?_)
      · refine z_iload_n dX11_firstShare_48 rfl ?_
        refine h_iret dX11_firstShare_49 rfl rfl rfl ?_
        have e : left = x := by omega
        exact ⟨by rw [e]; rfl, rfl⟩
      · omega
    | succ k ih =>
      intro x hx x6
      have g1 := hgi x left
      have hpz : ghV t d m p x left ≠ NONE → zin (pwF t (gd + ghV t d m p x left)) := fun _ => by
        unfold pwF zin
        omega
      have stay : ¬ (ghV t d m p x left ≠ NONE ∧ pwF t (gd + ghV t d m p x left) = most) → ∀ x6 : Option ZV, Z rc M_X11_firstShare 0 0 42 [some (zR 0), some (zI (p : Int)), some (zI (left : Int)), some (zI gd), some (zI most), some (zI (x : Int)), x6] [] (hp σ) (qI (fun v σ' => v = (fsF t d m most p left gd (k + 1) x : Int) ∧ σ' = σ)) := by
        intro hs x6
        rw [fsF_s, if_neg hs]
        refine z_iinc dX11_firstShare_42 rfl (by decide) rfl ?_
        refine z_goto (tgt := 3) dX11_firstShare_45 (by decide) ?_
        have := ih (x + 1) (by omega) x6
        rw [nsucc] at this
        exact this
      refine z_iload dX11_firstShare_3 rfl ?_
      refine z_iload_n dX11_firstShare_5 rfl ?_
      refine z_icmp_ge (tgt := 48) dX11_firstShare_6 (by decide) (by omega) (by omega) (fun b6 => ?_) (fun b6 => ?_)
      · omega
      · first | refine z_aload_n dX11_firstShare_9 rfl ?_ | refine z_aload_nT dX11_firstShare_9 rfl ?_
        refine z_iload_n dX11_firstShare_10 rfl ?_
        refine z_iload dX11_firstShare_11 rfl ?_
        refine z_iload_n dX11_firstShare_13 rfl ?_
        refine h_Vi3 (Y' := M_X11_gainBehind) dX11_firstShare_14 zw_562 zw_564 zs_14 rfl ok_X11_gainBehind (by decide) rfl (Nat.le_of_ble_eq_true rfl) ⟨rfl, rfl⟩ (by decide) (by first | assumption | rfl) (c_gainBehind (t := t) (d := d) (m := m) (by omega) (by omega) (by omega) (hG p x hpm (by omega)) (hB (p + 1) (left - x) (by omega) (by omega)) (gaV_in hk (by omega) hd) (hbn (left - x))) (fun vv σ2 hq => ?_)
        obtain ⟨rfl, rfl⟩ := hq
        refine z_istore dX11_firstShare_17 (by decide) rfl ?_
        refine z_iload dX11_firstShare_19 rfl ?_
        refine z_ldc (n := -1000000) dX11_firstShare_21 zw_528 rfl ?_
        refine z_icmp_eq (tgt := 42) dX11_firstShare_23 (by decide) (by omega) (by omega) (fun b23 => ?_) (fun b23 => ?_)
        · exact stay (fun h => h.1 b23) _
        · first | refine z_aload_n dX11_firstShare_26 rfl ?_ | refine z_aload_nT dX11_firstShare_26 rfl ?_
          refine z_iload_n dX11_firstShare_27 rfl ?_
          refine z_iload dX11_firstShare_28 rfl ?_
          refine z_iadd dX11_firstShare_30 ?_
          refine h_Vi1 (Y' := M_X11_purseWith) dX11_firstShare_31 zw_571 zw_573 zs_16 rfl ok_X11_purseWith (by decide) rfl (Nat.le_of_ble_eq_true rfl) ⟨rfl, rfl⟩ (by decide) (by first | assumption | rfl) (c_purseWith (t := t) hR.2.2.2.1 h1 (by omega)) (fun vv σ2 hq => ?_)
          obtain ⟨rfl, rfl⟩ := hq
          have hz := hpz b23
          refine z_iload dX11_firstShare_34 rfl ?_
          refine z_icmp_ne (tgt := 42) dX11_firstShare_36 (by decide) (by omega) (by omega) (fun b36 => ?_) (fun b36 => ?_)
          · exact stay (fun h => b36 h.2) _
          · refine z_iload dX11_firstShare_39 rfl ?_
            refine h_iret dX11_firstShare_41 rfl rfl rfl ?_
            exact ⟨by rw [fsF_s, if_pos ⟨b23, by omega⟩], rfl⟩
  refine K_of 2 (by decide) (Nat.le_of_ble_eq_true rfl) (show Z _ _ 0 0 0 [some (zR 0), some (zI (p : Int)), some (zI (left : Int)), some (zI gd), some (zI most), none, none] [] _ _ from ?_)
  refine z_iconst dX11_firstShare_0 ?_
  refine z_istore dX11_firstShare_1 (by decide) rfl ?_
  exact loop left 0 (by omega) none
theorem c_shareOut {n0 : Nat} (hR : cR σ 8 t) (hk : cok 999 t) (hm : t 3 = (m : Int)) (hd : d ≤ 60) (hI : I ≤ 9) (hG : ∀ p x : Nat, p < m → x ≤ I → σ 37 (p * 10 + x) = gaV t d p x) (hB : ∀ q n : Nat, q ≤ m → n ≤ I → σ 38 (q * 10 + n) = beF t d m (m - q) n) (hf : fwP t d I m n0) : KV rc M_X11_shareOut [zR 0, zI (n0 : Int), zI (pwF t (beF t d m m n0))] σ (fun σ' => (∀ p : Nat, p < m → σ' 39 p = (shS t d m n0 (pwF t (beF t d m m n0)) p : Int)) ∧ fm 39 σ σ') := by
  have h3 := hk.2.1
  have h1 := hk.2.2.2.1
  have hNN : (NONE : Int) = -1000000 := rfl
  have hmo : zin (pwF t (beF t d m m n0)) := by
    have := beF_in hk hm hd m (Nat.le_refl _) n0
    unfold pwF zin
    omega
  have loop : ∀ k p : Nat, p + k = m → ∀ (σ' : Mem) (x6 : Option ZV), (∀ q : Nat, q < p → σ' 39 q = (shS t d m n0 (pwF t (beF t d m m n0)) q : Int)) → fm 39 σ σ' → Z rc M_X11_shareOut 0 0 8 [some (zR 0), some (zI (n0 : Int)), some (zI (pwF t (beF t d m m n0))), some (zI ((shP t d m n0 (pwF t (beF t d m m n0)) p).1 : Int)), some (zI (shP t d m n0 (pwF t (beF t d m m n0)) p).2), some (zI (p : Int)), x6] [] (hp σ') (qV (fun σ' => (∀ p : Nat, p < m → σ' 39 p = (shS t d m n0 (pwF t (beF t d m m n0)) p : Int)) ∧ fm 39 σ σ')) := by
    intro k
    induction k with
    | zero =>
      intro p hpk σ' x6 i1 i3
      have e5 : σ' 8 5 = t 3 := (i3 8 5 (by omega)).trans hR.2.1
      refine z_iload dX11_shareOut_8 rfl ?_
      first | refine z_aload_n dX11_shareOut_10 rfl ?_ | refine z_aload_nT dX11_shareOut_10 rfl ?_
      refine h_getr dX11_shareOut_11 fl_X11_26 (by first | assumption | rfl) (by rfl) ?_
      refine h_geti dX11_shareOut_14 fl_X11_173 (by first | assumption | rfl) (by rfl) ?_
      refine z_icmp_ge (tgt := 70) dX11_shareOut_17 (by decide) (by omega) (by omega) (fun b17 => ?_) (fun b17 => ?_)
      · refine h_vret dX11_shareOut_70 rfl rfl rfl ?_
        exact ⟨fun q hq => i1 q (by omega), i3⟩
      · omega
    | succ k ih =>
      intro p hpk σ' x6 i1 i3
      have e5 : σ' 8 5 = t 3 := (i3 8 5 (by omega)).trans hR.2.1
      obtain ⟨⟨j1, j2⟩, j3, j4⟩ := sh_inv hk hm hd hf p (by omega)
      obtain ⟨s1, s2, s3⟩ := sh_step hk hm hd (by omega) j1 j2
      have hN := NF_nn (g := shS t d m n0 (pwF t (beF t d m m n0))) (m := p)
      have hV := VF_in (g := shS t d m n0 (pwF t (beF t d m m n0))) hk hm hd (p := p) (by omega)
      have f1 := hf.1
      refine z_iload dX11_shareOut_8 rfl ?_
      first | refine z_aload_n dX11_shareOut_10 rfl ?_ | refine z_aload_nT dX11_shareOut_10 rfl ?_
      refine h_getr dX11_shareOut_11 fl_X11_26 (by first | assumption | rfl) (by rfl) ?_
      refine h_geti dX11_shareOut_14 fl_X11_173 (by first | assumption | rfl) (by rfl) ?_
      refine z_icmp_ge (tgt := 70) dX11_shareOut_17 (by decide) (by omega) (by omega) (fun b17 => ?_) (fun b17 => ?_)
      · omega
      · first | refine z_aload_n dX11_shareOut_20 rfl ?_ | refine z_aload_nT dX11_shareOut_20 rfl ?_
        refine z_iload dX11_shareOut_21 rfl ?_
        refine z_iload_n dX11_shareOut_23 rfl ?_
        refine z_iload dX11_shareOut_24 rfl ?_
        refine z_iload_n dX11_shareOut_26 rfl ?_
        refine h_Vi4 (Y' := M_X11_firstShare) dX11_shareOut_27 zw_579 zw_581 zs_18 rfl ok_X11_firstShare (by decide) rfl (Nat.le_of_ble_eq_true rfl) ⟨rfl, rfl⟩ (by decide) (by first | assumption | rfl) (c_firstShare (t := t) (d := d) (m := m) (I := I) (cR_eq hR (fun o j _ _ => i3 o j (by omega))) hk hm hd hI (fun q x hq hx => (i3 37 _ (by omega)).trans (hG q x hq hx)) (fun q n hq hn => (i3 38 _ (by omega)).trans (hB q n hq hn)) (by omega) (by omega) (by omega) hmo) (fun vv σ2 hq => ?_)
        obtain ⟨rfl, rfl⟩ := hq
        have es : fsF t d m (pwF t (beF t d m m n0)) p (shP t d m n0 (pwF t (beF t d m m n0)) p).1 (shP t d m n0 (pwF t (beF t d m m n0)) p).2 (shP t d m n0 (pwF t (beF t d m m n0)) p).1 0 = shS t d m n0 (pwF t (beF t d m m n0)) p := rfl
        rw [es]
        refine z_istore dX11_shareOut_30 (by decide) rfl ?_
        first | refine z_aload_n dX11_shareOut_32 rfl ?_ | refine z_aload_nT dX11_shareOut_32 rfl ?_
        refine h_getr dX11_shareOut_33 fl_X11_95 (by first | assumption | rfl) (by rfl) ?_
        refine z_iload dX11_shareOut_36 rfl ?_
        refine z_iload dX11_shareOut_38 rfl ?_
        refine h_iast dX11_shareOut_40 (by first | assumption | rfl) (by repeat' first | apply zc_add | apply zc_mul | with_reducible exact zc_var _ | exact zc_lit _) (by omega) (by decide) ?_
        refine z_iload dX11_shareOut_41 rfl ?_
        first | refine z_aload_n dX11_shareOut_43 rfl ?_ | refine z_aload_nT dX11_shareOut_43 rfl ?_
        refine h_getr dX11_shareOut_44 fl_X11_88 (by first | assumption | rfl) (by rfl) ?_
        refine z_iload dX11_shareOut_47 rfl ?_
        refine z_bipush dX11_shareOut_49 rfl ?_
        refine z_imul dX11_shareOut_51 ?_
        refine z_iload dX11_shareOut_52 rfl ?_
        refine z_iadd dX11_shareOut_54 ?_
        first | refine h_iald dX11_shareOut_55 (by first | assumption | rfl) (by repeat' first | apply zc_add | apply zc_mul | with_reducible exact zc_var _ | exact zc_lit _) (by omega) (by decide) ?_ | refine z_ialdT _ dX11_shareOut_55 (by assumption) (by repeat' first | apply zc_add | apply zc_mul | with_reducible exact zc_var _ | exact zc_lit _) (by omega) (by omega) ?_
        rw [zu_o (show 37 ≠ 39 by omega), i3 37 _ (by omega), hG p _ (by omega) (by omega)]
        refine z_iadd dX11_shareOut_56 ?_
        refine z_istore dX11_shareOut_57 (by decide) rfl ?_
        refine z_iload_n dX11_shareOut_59 rfl ?_
        refine z_iload dX11_shareOut_60 rfl ?_
        refine z_isub dX11_shareOut_62 ?_
        refine z_istore_n dX11_shareOut_63 (by decide) rfl ?_
        refine z_iinc dX11_shareOut_64 rfl (by decide) rfl ?_
        refine z_goto (tgt := 8) dX11_shareOut_67 (by decide) ?_
        have := ih (p + 1) (by omega) (zu σ2 39 p (shS t d m n0 (pwF t (beF t d m m n0)) p : Int)) (some (zI (shS t d m n0 (pwF t (beF t d m m n0)) p : Int))) (fun q hq => by
          by_cases e : q = p
          · subst e
            rw [zu_eq]
          · rw [zu_j (by omega)]
            exact i1 q (by omega)) (fun o j ho => by rw [zu_o ho]; exact i3 o j ho)
        rw [shP_s, nsucc] at this
        have e1 : (((shP t d m n0 (pwF t (beF t d m m n0)) p).1 - shS t d m n0 (pwF t (beF t d m m n0)) p : Nat) : Int) = ((shP t d m n0 (pwF t (beF t d m m n0)) p).1 : Int) - (shS t d m n0 (pwF t (beF t d m m n0)) p : Int) := by omega
        dsimp only at this
        rw [e1] at this
        exact this
  refine K_of 4 (by decide) (Nat.le_of_ble_eq_true rfl) (show Z _ _ 0 0 0 [some (zR 0), some (zI (n0 : Int)), some (zI (pwF t (beF t d m m n0))), none, none, none, none] [] _ _ from ?_)
  refine z_iload_n dX11_shareOut_0 rfl ?_
  refine z_istore_n dX11_shareOut_1 (by decide) rfl ?_
  refine z_iconst dX11_shareOut_2 ?_
  refine z_istore dX11_shareOut_3 (by decide) rfl ?_
  refine z_iconst dX11_shareOut_5 ?_
  refine z_istore dX11_shareOut_6 (by decide) rfl ?_
  exact loop m 0 (by omega) σ none (fun q hq => by omega) fm.rf
noncomputable def aGive (α : Mem) (d k : Int) : Int := if α 5 8 = 0 then STATE else if ¬ (0 ≤ d ∧ d ≤ 60) ∨ ¬ (-2 ≤ k ∧ k ≤ 4) then BAD else if α 5 3 ≤ k then NONE else
  if k = -1 then pwF (α 5) (VF (α 5) d.toNat (dgF (α 5 3).toNat (gvC (α 5) d.toNat (min (α 5 2) 9).toNat (α 5 3).toNat)) (α 5 3).toNat) else if k = -2 then NF (dgF (α 5 3).toNat (gvC (α 5) d.toNat (min (α 5 2) 9).toNat (α 5 3).toNat)) (α 5 3).toNat else (dgF (α 5 3).toNat (gvC (α 5) d.toNat (min (α 5 2) 9).toNat (α 5 3).toNat) k.toNat : Int)
theorem c_give {d k : Int} (hC : CI σ α) (hO : OK α) (hd : zin d) (hw : zin k) : KI rc M_X11_give [zR 0, zI d, zI k] σ (cP σ α (aGive α d k) α) := by
  have h3 := OKc_3 hO
  have h8 := OKc_8 hO
  have hNN : (NONE : Int) = -1000000 := rfl
  have hR := hC.2.2.2.1
  have e8 := hR.1
  have e5 := hR.2.1
  have bad : ∀ σ2 : Mem, σ2 = σ → ¬ α 5 8 = 0 → (¬ (0 ≤ d ∧ d ≤ 60) ∨ ¬ (-2 ≤ k ∧ k ≤ 4)) → Z rc M_X11_give 0 0 30 [some (zR 0), some (zI d), some (zI k), none, none, none] [] (hp σ2) (qI (cP σ α (aGive α d k) α)) := by
    intro σ2 e hn hb
    subst e
    refine z_ldc (n := -1000001) dX11_give_30 zw_268 rfl ?_
    refine h_iret dX11_give_32 rfl rfl rfl ?_
    exact ⟨by unfold aGive; rw [if_neg hn, if_pos hb], hC, fr.rf⟩
  refine K_of 3 (by decide) (Nat.le_of_ble_eq_true rfl) (show Z _ _ 0 0 0 [some (zR 0), some (zI d), some (zI k), none, none, none] [] _ _ from ?_)
  first | refine z_aload_n dX11_give_0 rfl ?_ | refine z_aload_nT dX11_give_0 rfl ?_
  refine h_getr dX11_give_1 fl_X11_26 (by first | assumption | rfl) (by rfl) ?_
  refine h_geti dX11_give_4 fl_X11_176 (by first | assumption | rfl) (by rfl) ?_
  refine z_if_ne (tgt := 13) dX11_give_7 (by decide) (by omega) (fun b7 => ?_) (fun b7 => ?_)
  · have hk := OKc_s hO (by omega)
    refine z_iload_n dX11_give_13 rfl ?_
    refine h_Si1 (Y' := M_X11_isAhead) dX11_give_14 zw_507 zw_508 ok_X11_isAhead (by decide) rfl (Nat.le_of_ble_eq_true rfl) ⟨rfl, rfl⟩ (by decide) (c_isAhead hd) (fun vv σ2 hq => ?_)
    obtain ⟨hv1, rfl⟩ := hq
    refine z_if_eq (tgt := 30) dX11_give_17 (by decide) (by omega) (fun b17 => ?_) (fun b17 => ?_)
    · exact bad _ rfl (by omega) (by omega)
    · refine z_iload_n dX11_give_20 rfl ?_
      refine z_bipush dX11_give_21 rfl ?_
      refine z_iconst dX11_give_23 ?_
      refine h_Si3 (Y' := M_X11_isWithin) dX11_give_24 zw_265 zw_266 ok_X11_isWithin (by decide) rfl (Nat.le_of_ble_eq_true rfl) ⟨rfl, rfl⟩ (by decide) (c_within hw (by omega) (by omega)) (fun vv σ2 hq => ?_)
      obtain ⟨hv2, rfl⟩ := hq
      refine z_if_ne (tgt := 33) dX11_give_27 (by decide) (by omega) (fun b27 => ?_) (fun b27 => ?_)
      · obtain ⟨d, rfl⟩ : ∃ x : Nat, d = (x : Int) := ⟨d.toNat, by omega⟩
        obtain ⟨m, hm⟩ : ∃ x : Nat, α 5 3 = (x : Int) := ⟨(α 5 3).toNat, by omega⟩
        have a2 := hk.2.2.2.2.1
        have a1 := hk.2.2.2.1
        obtain ⟨I, hI⟩ : ∃ x : Nat, min (α 5 2) 9 = (x : Int) := ⟨(min (α 5 2) 9).toNat, by omega⟩
        have ea : aGive α (d : Int) k = if α 5 3 ≤ k then NONE else if k = -1 then pwF (α 5) (VF (α 5) d (dgF m (gvC (α 5) d I m)) m) else if k = -2 then NF (dgF m (gvC (α 5) d I m)) m else (dgF m (gvC (α 5) d I m) k.toNat : Int) := by
          unfold aGive
          rw [if_neg (by omega), if_neg (by omega), show (α 5 3).toNat = m by omega, show (min (α 5 2) 9).toNat = I by omega, show ((d : Int)).toNat = d by omega]
        have e2 : σ2 8 8 = α 5 2 := hR.2.2.2.2.1
        refine z_iload_n dX11_give_33 rfl ?_
        first | refine z_aload_n dX11_give_34 rfl ?_ | refine z_aload_nT dX11_give_34 rfl ?_
        refine h_getr dX11_give_35 fl_X11_26 (by first | assumption | rfl) (by rfl) ?_
        refine h_geti dX11_give_38 fl_X11_173 (by first | assumption | rfl) (by rfl) ?_
        refine z_icmp_lt (tgt := 47) dX11_give_41 (by decide) (by omega) (by omega) (fun b41 => ?_) (fun b41 => ?_)
        · rw [if_neg (by omega)] at ea
          first | refine z_aload_n dX11_give_47 rfl ?_ | refine z_aload_nT dX11_give_47 rfl ?_
          refine h_getr dX11_give_48 fl_X11_26 (by first | assumption | rfl) (by rfl) ?_
          refine h_geti dX11_give_51 fl_X11_200 (by first | assumption | rfl) (by rfl) ?_
          refine z_bipush dX11_give_54 rfl ?_
          rw [e2]
          refine h_Si2 (Y' := M_J9_min_7cf53) dX11_give_56 zw_546 zw_423 ok_J9_min_7cf53 (by decide) rfl (Nat.le_of_ble_eq_true rfl) ⟨rfl, rfl⟩ (by decide) (k_min (by omega) (by omega)) (fun vv σ2 hq => ?_)
          obtain ⟨rfl, rfl⟩ := hq
          rw [hI]
          refine z_istore_n dX11_give_59 (by decide) rfl ?_
          first | refine z_aload_n dX11_give_60 rfl ?_ | refine z_aload_nT dX11_give_60 rfl ?_
          refine z_iload_n dX11_give_61 rfl ?_
          refine z_iload_n dX11_give_62 rfl ?_
          obtain ⟨σ0, h0⟩ : ∃ z, z = σ2 := ⟨_, rfl⟩
          rw [← h0] at hC hR ⊢
          refine h_Vv2 (Y' := M_X11_weighGains) dX11_give_63 zw_547 zw_549 zs_12 rfl ok_X11_weighGains (by decide) rfl (Nat.le_of_ble_eq_true rfl) ⟨rfl, rfl⟩ (by decide) (by first | assumption | rfl) (c_weighGains (t := α 5) (m := m) (d := d) (I := I) hR hk hm (by omega) (by omega)) (fun σ2 hq => ?_)
          obtain ⟨g1, g2⟩ := hq
          have hR1 := fr37 g2 hR
          obtain ⟨σ1, h1⟩ : ∃ z, z = σ2 := ⟨_, rfl⟩
          rw [← h1] at g1 g2 hR1 ⊢
          first | refine z_aload_n dX11_give_66 rfl ?_ | refine z_aload_nT dX11_give_66 rfl ?_
          refine z_iload_n dX11_give_67 rfl ?_
          refine h_Vv1 (Y' := M_X11_weighBests) dX11_give_68 zw_558 zw_560 zs_13 rfl ok_X11_weighBests (by decide) rfl (Nat.le_of_ble_eq_true rfl) ⟨rfl, rfl⟩ (by decide) (by first | assumption | rfl) (c_weighBests (t := α 5) (m := m) (d := d) (I := I) hR1 hk hm (by omega) (by omega) g1) (fun σ2 hq => ?_)
          obtain ⟨b1, b2⟩ := hq
          have hR2 : cR σ2 8 (α 5) := cR_eq hR1 (fun o j _ _ => b2 o j (by omega))
          have g1 : ∀ p x : Nat, p < m → x ≤ I → σ2 37 (p * 10 + x) = gaV (α 5) d p x := fun p x hp hx => (b2 37 _ (by omega)).trans (g1 p x hp hx)
          have hC2 : CI σ2 α ∧ fr 0 40 σ0 σ2 := ⟨hC.keep (fun o j _ h2 => by
            unfold cse at h2
            rw [b2 o j (by omega), g2 o j (by omega)]), fun o j h1 => by rw [b2 o j (by omega), g2 o j (by omega)]⟩
          first | refine z_aload_n dX11_give_71 rfl ?_ | refine z_aload_nT dX11_give_71 rfl ?_
          refine z_iload_n dX11_give_72 rfl ?_
          refine h_Vi1 (Y' := M_X11_fewestOfBest) dX11_give_73 zw_567 zw_569 zs_15 rfl ok_X11_fewestOfBest (by decide) rfl (Nat.le_of_ble_eq_true rfl) ⟨rfl, rfl⟩ (by decide) (by first | assumption | rfl) (c_fewestOfBest (t := α 5) (m := m) (d := d) (I := I) hR2 hk hm (by omega) (by omega) b1) (fun vv σ2 hq => ?_)
          obtain ⟨⟨n0, rfl, hf⟩, rfl⟩ := hq
          have f1 := hf.1
          have hcB := gvC_is (d := d) (I := I) hk hm
          obtain ⟨c1, c2⟩ := gv_class hk hm (by omega) (by omega) hf hcB
          have hbi := beF_in (d := d) hk hm (by omega) m (Nat.le_refl _) n0
          have eb := b1 0 n0 (Nat.zero_le _) f1
          rw [Nat.zero_mul, Nat.zero_add, Nat.sub_zero] at eb
          refine z_istore dX11_give_76 (by decide) rfl ?_
          first | refine z_aload_n dX11_give_78 rfl ?_ | refine z_aload_nT dX11_give_78 rfl ?_
          first | refine z_aload_n dX11_give_79 rfl ?_ | refine z_aload_nT dX11_give_79 rfl ?_
          refine h_getr dX11_give_80 fl_X11_92 (by first | assumption | rfl) (by rfl) ?_
          refine z_iload dX11_give_83 rfl ?_
          first | refine h_iald dX11_give_85 (by first | assumption | rfl) (by repeat' first | apply zc_add | apply zc_mul | with_reducible exact zc_var _ | exact zc_lit _) (by omega) (by decide) ?_ | refine z_ialdT _ dX11_give_85 (by assumption) (by repeat' first | apply zc_add | apply zc_mul | with_reducible exact zc_var _ | exact zc_lit _) (by omega) (by omega) ?_
          rw [eb]
          refine h_Vi1 (Y' := M_X11_purseWith) dX11_give_86 zw_571 zw_573 zs_16 rfl ok_X11_purseWith (by decide) rfl (Nat.le_of_ble_eq_true rfl) ⟨rfl, rfl⟩ (by decide) (by first | assumption | rfl) (c_purseWith (t := α 5) hR2.2.2.2.1 a1 (by omega)) (fun vv σ2 hq => ?_)
          obtain ⟨rfl, rfl⟩ := hq
          have hpz : zin (pwF (α 5) (beF (α 5) d m m n0)) := by
            unfold pwF zin
            omega
          refine z_istore dX11_give_89 (by decide) rfl ?_
          refine z_iload_n dX11_give_91 rfl ?_
          refine z_iconst dX11_give_92 ?_
          refine z_icmp_ne (tgt := 99) dX11_give_93 (by decide) (by omega) (by omega) (fun b93 => ?_) (fun b93 => ?_)
          · rw [if_neg b93] at ea
            refine z_iload_n dX11_give_99 rfl ?_
            refine z_bipush dX11_give_100 rfl ?_
            refine z_icmp_ne (tgt := 108) dX11_give_102 (by decide) (by omega) (by omega) (fun b102 => ?_) (fun b102 => ?_)
            · rw [if_neg b102] at ea
              first | refine z_aload_n dX11_give_108 rfl ?_ | refine z_aload_nT dX11_give_108 rfl ?_
              refine z_iload dX11_give_109 rfl ?_
              refine z_iload dX11_give_111 rfl ?_
              refine h_Vv2 (Y' := M_X11_shareOut) dX11_give_113 zw_575 zw_577 zs_17 rfl ok_X11_shareOut (by decide) rfl (Nat.le_of_ble_eq_true rfl) ⟨rfl, rfl⟩ (by decide) (by first | assumption | rfl) (c_shareOut (t := α 5) (m := m) (d := d) (I := I) hR2 hk hm (by omega) (by omega) g1 b1 hf) (fun σ2 hq => ?_)
              obtain ⟨s1, s2⟩ := hq
              obtain ⟨k, rfl⟩ : ∃ x : Nat, k = (x : Int) := ⟨k.toNat, by omega⟩
              first | refine z_aload_n dX11_give_116 rfl ?_ | refine z_aload_nT dX11_give_116 rfl ?_
              refine h_getr dX11_give_117 fl_X11_95 (by first | assumption | rfl) (by rfl) ?_
              refine z_iload_n dX11_give_120 rfl ?_
              first | refine h_iald dX11_give_121 (by first | assumption | rfl) (by repeat' first | apply zc_add | apply zc_mul | with_reducible exact zc_var _ | exact zc_lit _) (by omega) (by decide) ?_ | refine z_ialdT _ dX11_give_121 (by assumption) (by repeat' first | apply zc_add | apply zc_mul | with_reducible exact zc_var _ | exact zc_lit _) (by omega) (by omega) ?_
              refine h_iret dX11_give_122 rfl rfl rfl ?_
              refine ⟨?_, hC2.1.keep (fun o j _ h2 => by unfold cse at h2; exact s2 o j (by omega)), fun o j h => by rw [s2 o j (by omega)]; exact hC2.2 o j h⟩
              rw [ea, s1 k (by omega), show ((k : Int)).toNat = k by omega, sh_all hk hm (by omega) (by omega) hf hcB k (by omega)]
            · rw [if_pos (by omega)] at ea
              refine z_iload dX11_give_105 rfl ?_
              refine h_iret dX11_give_107 rfl rfl rfl ?_
              exact ⟨by rw [ea, c2], hC2⟩
          · rw [if_pos (by omega)] at ea
            refine z_iload dX11_give_96 rfl ?_
            refine h_iret dX11_give_98 rfl rfl rfl ?_
            exact ⟨by rw [ea, c1], hC2⟩
        · refine z_ldc (n := -1000000) dX11_give_44 zw_528 rfl ?_
          refine h_iret dX11_give_46 rfl rfl rfl ?_
          exact ⟨by rw [ea, if_pos (by omega)], hC, fr.rf⟩
      · exact bad _ rfl (by omega) (by omega)
  · refine z_ldc (n := -1000002) dX11_give_10 zw_417 rfl ?_
    refine h_iret dX11_give_12 rfl rfl rfl ?_
    exact ⟨by unfold aGive; rw [if_pos (by omega)], hC, fr.rf⟩
end
