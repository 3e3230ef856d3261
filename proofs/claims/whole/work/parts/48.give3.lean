/-! give: the class -/
theorem fr37 {σ σ' : Mem} (h : fm 37 σ σ') {t : Nat → Int} (hR : cR σ 8 t) : cR σ' 8 t := cR_eq hR (fun o j _ _ => h o j (by omega))
theorem beF_q {t : Nat → Int} {d m q n : Nat} (h : q < m) : beF t d m (m - q) n = mxF (fun x => ghV t d m q x n) (n + 1) := by
  have hr : m - q = (m - (q + 1)) + 1 := by omega
  have hp2 : m - (m - (q + 1) + 1) = q := by omega
  rw [hr, beF_s, hp2]
  rfl
section
variable {rc : ZRC} {σ α : Mem} {t : Nat → Int} {d I m : Nat}
theorem c_purseWith {x : Int} (e7 : σ 8 7 = t 1) (h1 : 0 ≤ t 1 ∧ t 1 ≤ 9999) (hx : -1000000 ≤ x ∧ x ≤ 100000) : KI rc M_X11_purseWith [zR 0, zI x] σ (fun v σ' => v = pwF t x ∧ σ' = σ) := by
  refine K_of 0 (by decide) (Nat.le_of_ble_eq_true rfl) (show Z _ _ 0 0 0 [some (zR 0), some (zI x)] [] _ _ from ?_)
  refine z_sipush dX11_purseWith_0 rfl ?_
  first | refine z_aload_n dX11_purseWith_3 rfl ?_ | refine z_aload_nT dX11_purseWith_3 rfl ?_
  refine h_getr dX11_purseWith_4 fl_X11_26 (by first | assumption | rfl) (by rfl) ?_
  refine h_geti dX11_purseWith_7 fl_X11_194 (by first | assumption | rfl) (by rfl) ?_
  refine z_iload_n dX11_purseWith_10 rfl ?_
  refine z_iadd dX11_purseWith_11 ?_
  refine h_Si2 (Y' := M_J9_min_7cf53) dX11_purseWith_12 zw_546 zw_423 ok_J9_min_7cf53 (by decide) rfl (Nat.le_of_ble_eq_true rfl) ⟨rfl, rfl⟩ (by decide) (k_min (by omega) (by omega)) (fun vv σ2 hq => ?_)
  obtain ⟨rfl, rfl⟩ := hq
  refine h_iret dX11_purseWith_15 rfl rfl rfl ?_
  exact ⟨by unfold pwF; rw [e7], rfl⟩
theorem c_gainBehind {p x n : Nat} (hp5 : p < 5) (hn : n ≤ 9) (hx : x ≤ n) (h37 : σ 37 (p * 10 + x) = gaV t d p x) (h38 : σ 38 ((p + 1) * 10 + (n - x)) = beF t d m (m - (p + 1)) (n - x)) (b1 : gaV t d p x = NONE ∨ (0 ≤ gaV t d p x ∧ gaV t d p x ≤ 1740)) (b2 : beF t d m (m - (p + 1)) (n - x) = NONE ∨ (0 ≤ beF t d m (m - (p + 1)) (n - x) ∧ beF t d m (m - (p + 1)) (n - x) ≤ 10000)) : KI rc M_X11_gainBehind [zR 0, zI (p : Int), zI (x : Int), zI (n : Int)] σ (fun v σ' => v = ghV t d m p x n ∧ σ' = σ) := by
  have hNN : (NONE : Int) = -1000000 := rfl
  refine K_of 2 (by decide) (Nat.le_of_ble_eq_true rfl) (show Z _ _ 0 0 0 [some (zR 0), some (zI (p : Int)), some (zI (x : Int)), some (zI (n : Int)), none, none] [] _ _ from ?_)
  first | refine z_aload_n dX11_gainBehind_0 rfl ?_ | refine z_aload_nT dX11_gainBehind_0 rfl ?_
  refine h_getr dX11_gainBehind_1 fl_X11_88 (by first | assumption | rfl) (by rfl) ?_
  refine z_iload_n dX11_gainBehind_4 rfl ?_
  refine z_bipush dX11_gainBehind_5 rfl ?_
  refine z_imul dX11_gainBehind_7 ?_
  refine z_iload_n dX11_gainBehind_8 rfl ?_
  refine z_iadd dX11_gainBehind_9 ?_
  first | refine h_iald dX11_gainBehind_10 (by first | assumption | rfl) (by repeat' first | apply zc_add | apply zc_mul | with_reducible exact zc_var _ | exact zc_lit _) (by omega) (by decide) ?_ | refine z_ialdT _ dX11_gainBehind_10 (by assumption) (by repeat' first | apply zc_add | apply zc_mul | with_reducible exact zc_var _ | exact zc_lit _) (by omega) (by omega) ?_
  refine z_istore dX11_gainBehind_11 (by decide) rfl ?_
  first | refine z_aload_n dX11_gainBehind_13 rfl ?_ | refine z_aload_nT dX11_gainBehind_13 rfl ?_
  refine h_getr dX11_gainBehind_14 fl_X11_92 (by first | assumption | rfl) (by rfl) ?_
  refine z_iload_n dX11_gainBehind_17 rfl ?_
  refine z_iconst dX11_gainBehind_18 ?_
  refine z_iadd dX11_gainBehind_19 ?_
  refine z_bipush dX11_gainBehind_20 rfl ?_
  refine z_imul dX11_gainBehind_22 ?_
  refine z_iload_n dX11_gainBehind_23 rfl ?_
  refine z_iadd dX11_gainBehind_24 ?_
  refine z_iload_n dX11_gainBehind_25 rfl ?_
  refine z_isub dX11_gainBehind_26 ?_
  refine h_iald (j := (p + 1) * 10 + (n - x)) dX11_gainBehind_27 (by first | assumption | rfl) (by omega) (by omega) (by decide) ?_
  rw [h37, h38]
  have e : ghV t d m p x n = if gaV t d p x = NONE ∨ beF t d m (m - (p + 1)) (n - x) = NONE then NONE else gaV t d p x + beF t d m (m - (p + 1)) (n - x) := rfl
  refine z_istore dX11_gainBehind_28 (by decide) rfl ?_
  refine z_iload dX11_gainBehind_30 rfl ?_
  refine z_ldc (n := -1000000) dX11_gainBehind_32 zw_528 rfl ?_
  refine z_icmp_eq (tgt := 44) dX11_gainBehind_34 (by decide) (by omega) (by omega) (fun b34 => ?_) (fun b34 => ?_)
  · refine z_ldc (n := -1000000) dX11_gainBehind_44 zw_528 rfl ?_
    refine z_goto (tgt := 54) dX11_gainBehind_46 (by decide) ?_
    refine h_iret dX11_gainBehind_54 rfl rfl rfl ?_
    exact ⟨by rw [e, if_pos (by omega)], rfl⟩
  · refine z_iload dX11_gainBehind_37 rfl ?_
    refine z_ldc (n := -1000000) dX11_gainBehind_39 zw_528 rfl ?_
    refine z_icmp_ne (tgt := 49) dX11_gainBehind_41 (by decide) (by omega) (by omega) (fun b41 => ?_) (fun b41 => ?_)
    · refine z_iload dX11_gainBehind_49 rfl ?_
      refine z_iload dX11_gainBehind_51 rfl ?_
      refine z_iadd dX11_gainBehind_53 ?_
      refine h_iret dX11_gainBehind_54 rfl rfl rfl ?_
      exact ⟨by rw [e, if_neg (by omega)], rfl⟩
    · refine z_ldc (n := -1000000) dX11_gainBehind_44 zw_528 rfl ?_
      refine z_goto (tgt := 54) dX11_gainBehind_46 (by decide) ?_
      refine h_iret dX11_gainBehind_54 rfl rfl rfl ?_
      exact ⟨by rw [e, if_pos (by omega)], rfl⟩
theorem c_weighGains (hR : cR σ 8 t) (hk : cok 999 t) (hm : t 3 = (m : Int)) (hd : d ≤ 60) (hI : I ≤ 9) : KV rc M_X11_weighGains [zR 0, zI (d : Int), zI (I : Int)] σ (fun σ' => (∀ p x : Nat, p < m → x ≤ I → σ' 37 (p * 10 + x) = gaV t d p x) ∧ fm 37 σ σ') := by
  have h3 := hk.2.1
  have inner : ∀ (p : Nat), p < m → (∀ (σ' : Mem) (x4 x5 x6 : Option ZV), (∀ q x : Nat, q < p + 1 → x ≤ I → σ' 37 (q * 10 + x) = gaV t d q x) → fm 37 σ σ' → Z rc M_X11_weighGains 0 0 89 [some (zR 0), some (zI (d : Int)), some (zI (I : Int)), some (zI (p : Int)), x4, x5, x6] [] (hp σ') (qV (fun σ' => (∀ p x : Nat, p < m → x ≤ I → σ' 37 (p * 10 + x) = gaV t d p x) ∧ fm 37 σ σ'))) → ∀ k x : Nat, x + k = I + 1 → ∀ (σ' : Mem) (x5 x6 : Option ZV), (∀ q y : Nat, q < p → y ≤ I → σ' 37 (q * 10 + y) = gaV t d q y) → (∀ y : Nat, y < x → σ' 37 (p * 10 + y) = gaV t d p y) → fm 37 σ σ' → Z rc M_X11_weighGains 0 0 16 [some (zR 0), some (zI (d : Int)), some (zI (I : Int)), some (zI (p : Int)), some (zI (x : Int)), x5, x6] [] (hp σ') (qV (fun σ' => (∀ p x : Nat, p < m → x ≤ I → σ' 37 (p * 10 + x) = gaV t d p x) ∧ fm 37 σ σ')) := by
    intro p hpm fin k
    induction k with
    | zero =>
      intro x hx σ' x5 x6 i1 i2 i3
      refine z_iload dX11_weighGains_16 rfl ?_
      refine z_iload_n dX11_weighGains_18 rfl ?_
      refine z_icmp_gt (tgt := 89) dX11_weighGains_19 (by decide) (by omega) (by omega) (fun b19 => ?_) (fun b19 => ?_)
      · refine fin σ' _ _ _ (fun q y hq hy => ?_) i3
        by_cases e : q = p
        · subst e
          exact i2 y (by omega)
        · exact i1 q y (by omega) hy
      · omega
    | succ k ih =>
      intro x hx σ' x5 x6 i1 i2 i3
      have hR' := fr37 i3 hR
      have e12 := (cR8p hR' (p := p) (by omega)).2.2.2
      have q4 := (hk.2.2.2.2.2.2.2.2.2 p (by omega)).2.2.2
      have go : ∀ (v : Int) (x5 x6 : Option ZV), v = gaV t d p x → Z rc M_X11_weighGains 0 0 82 [some (zR 0), some (zI (d : Int)), some (zI (I : Int)), some (zI (p : Int)), some (zI (x : Int)), x5, x6] [zI v, zI ((p : Int) * 10 + (x : Int)), zR 37] (hp σ') (qV (fun σ' => (∀ p x : Nat, p < m → x ≤ I → σ' 37 (p * 10 + x) = gaV t d p x) ∧ fm 37 σ σ')) := by
        intro v x5 x6 hv
        refine h_iast dX11_weighGains_82 (by first | assumption | rfl) (by repeat' first | apply zc_add | apply zc_mul | with_reducible exact zc_var _ | exact zc_lit _) (by omega) (by decide) ?_
        refine z_iinc dX11_weighGains_83 rfl (by decide) rfl ?_
        refine z_goto (tgt := 16) dX11_weighGains_86 (by decide) ?_
        have := ih (x + 1) (by omega) (zu σ' 37 (p * 10 + x) v) x5 x6 (fun q y hq hy => by rw [zu_j (by omega)]; exact i1 q y hq hy) (fun y hy => by
          by_cases e : y = x
          · subst e
            rw [zu_eq]
            exact hv
          · rw [zu_j (by omega)]
            exact i2 y (by omega)) (fun o j ho => by rw [zu_o ho]; exact i3 o j ho)
        rw [nsucc] at this
        exact this
      refine z_iload dX11_weighGains_16 rfl ?_
      refine z_iload_n dX11_weighGains_18 rfl ?_
      refine z_icmp_gt (tgt := 89) dX11_weighGains_19 (by decide) (by omega) (by omega) (fun b19 => ?_) (fun b19 => ?_)
      · omega
      · first | refine z_aload_n dX11_weighGains_22 rfl ?_ | refine z_aload_nT dX11_weighGains_22 rfl ?_
        refine h_getr dX11_weighGains_23 fl_X11_26 (by first | assumption | rfl) (by rfl) ?_
        refine h_getr dX11_weighGains_26 fl_X11_203 (by first | assumption | rfl) (by rfl) ?_
        refine z_iload_n dX11_weighGains_29 rfl ?_
        first | refine h_iald dX11_weighGains_30 (by first | assumption | rfl) (by repeat' first | apply zc_add | apply zc_mul | with_reducible exact zc_var _ | exact zc_lit _) (by omega) (by decide) ?_ | refine z_ialdT _ dX11_weighGains_30 (by assumption) (by repeat' first | apply zc_add | apply zc_mul | with_reducible exact zc_var _ | exact zc_lit _) (by omega) (by omega) ?_
        rw [e12]
        refine z_iload dX11_weighGains_31 rfl ?_
        refine z_iadd dX11_weighGains_33 ?_
        refine z_istore dX11_weighGains_34 (by decide) rfl ?_
        refine z_iload dX11_weighGains_36 rfl ?_
        refine z_bipush dX11_weighGains_38 rfl ?_
        refine z_icmp_gt (tgt := 47) dX11_weighGains_40 (by decide) (by omega) (by omega) (fun b40 => ?_) (fun b40 => ?_)
        · refine z_iconst dX11_weighGains_47 ?_
          refine z_istore dX11_weighGains_48 (by decide) rfl ?_
          first | refine z_aload_n dX11_weighGains_50 rfl ?_ | refine z_aload_nT dX11_weighGains_50 rfl ?_
          refine h_getr dX11_weighGains_51 fl_X11_88 (by first | assumption | rfl) (by rfl) ?_
          refine z_iload_n dX11_weighGains_54 rfl ?_
          refine z_bipush dX11_weighGains_55 rfl ?_
          refine z_imul dX11_weighGains_57 ?_
          refine z_iload dX11_weighGains_58 rfl ?_
          refine z_iadd dX11_weighGains_60 ?_
          refine z_iload dX11_weighGains_61 rfl ?_
          refine z_if_eq (tgt := 80) dX11_weighGains_63 (by decide) (by omega) (fun b63 => ?_) (fun b63 => ?_)
          · refine z_ldc (n := -1000000) dX11_weighGains_80 zw_528 rfl ?_
            exact go _ _ _ (by unfold gaV; rw [if_neg (by omega)])
          · omega
        · refine z_iconst dX11_weighGains_43 ?_
          refine z_goto (tgt := 48) dX11_weighGains_44 (by decide) ?_
          refine z_istore dX11_weighGains_48 (by decide) rfl ?_
          first | refine z_aload_n dX11_weighGains_50 rfl ?_ | refine z_aload_nT dX11_weighGains_50 rfl ?_
          refine h_getr dX11_weighGains_51 fl_X11_88 (by first | assumption | rfl) (by rfl) ?_
          refine z_iload_n dX11_weighGains_54 rfl ?_
          refine z_bipush dX11_weighGains_55 rfl ?_
          refine z_imul dX11_weighGains_57 ?_
          refine z_iload dX11_weighGains_58 rfl ?_
          refine z_iadd dX11_weighGains_60 ?_
          refine z_iload dX11_weighGains_61 rfl ?_
          refine z_if_eq (tgt := 80) dX11_weighGains_63 (by decide) (by omega) (fun b63 => ?_) (fun b63 => ?_)
          · omega
          · first | refine z_aload_n dX11_weighGains_66 rfl ?_ | refine z_aload_nT dX11_weighGains_66 rfl ?_
            refine h_getr dX11_weighGains_67 fl_X11_26 (by first | assumption | rfl) (by rfl) ?_
            refine z_iload_n dX11_weighGains_70 rfl ?_
            refine z_iload dX11_weighGains_71 rfl ?_
            refine z_iload_n dX11_weighGains_73 rfl ?_
            refine h_Vi3 (Y' := M_X2_takenAhead) dX11_weighGains_74 zw_551 zw_552 zw_553 rfl ok_X2_takenAhead (by decide) rfl (Nat.le_of_ble_eq_true rfl) ⟨rfl, rfl⟩ (by decide) (by first | assumption | rfl) (k_takenAhead (Or.inl rfl) hR' hk (by omega) (by omega) (by omega) (by omega) (by omega)) (fun vv σ2 hq => ?_)
            obtain ⟨rfl, rfl⟩ := hq
            refine z_goto (tgt := 82) dX11_weighGains_77 (by decide) ?_
            exact go _ _ _ (by unfold gaV; rw [if_pos (by omega)])
  have outer : ∀ k p : Nat, p + k = m → ∀ (σ' : Mem) (x4 x5 x6 : Option ZV), (∀ q x : Nat, q < p → x ≤ I → σ' 37 (q * 10 + x) = gaV t d q x) → fm 37 σ σ' → Z rc M_X11_weighGains 0 0 2 [some (zR 0), some (zI (d : Int)), some (zI (I : Int)), some (zI (p : Int)), x4, x5, x6] [] (hp σ') (qV (fun σ' => (∀ p x : Nat, p < m → x ≤ I → σ' 37 (p * 10 + x) = gaV t d p x) ∧ fm 37 σ σ')) := by
    intro k
    induction k with
    | zero =>
      intro p hpk σ' x4 x5 x6 i1 i3
      have e5 : σ' 8 5 = t 3 := (fr37 i3 hR).2.1
      refine z_iload_n dX11_weighGains_2 rfl ?_
      first | refine z_aload_n dX11_weighGains_3 rfl ?_ | refine z_aload_nT dX11_weighGains_3 rfl ?_
      refine h_getr dX11_weighGains_4 fl_X11_26 (by first | assumption | rfl) (by rfl) ?_
      refine h_geti dX11_weighGains_7 fl_X11_173 (by first | assumption | rfl) (by rfl) ?_
      refine z_icmp_ge (tgt := 95) dX11_weighGains_10 (by decide) (by omega) (by omega) (fun b10 => ?_) (fun b10 => ?_)
      · refine h_vret dX11_weighGains_95 rfl rfl rfl ?_
        exact ⟨fun q x hq hx => i1 q x (by omega) hx, i3⟩
      · omega
    | succ k ih =>
      intro p hpk σ' x4 x5 x6 i1 i3
      have e5 : σ' 8 5 = t 3 := (fr37 i3 hR).2.1
      refine z_iload_n dX11_weighGains_2 rfl ?_
      first | refine z_aload_n dX11_weighGains_3 rfl ?_ | refine z_aload_nT dX11_weighGains_3 rfl ?_
      refine h_getr dX11_weighGains_4 fl_X11_26 (by first | assumption | rfl) (by rfl) ?_
      refine h_geti dX11_weighGains_7 fl_X11_173 (by first | assumption | rfl) (by rfl) ?_
      refine z_icmp_ge (tgt := 95) dX11_weighGains_10 (by decide) (by omega) (by omega) (fun b10 => ?_) (fun b10 => ?_)
      · omega
      · refine z_iconst dX11_weighGains_13 ?_
        refine z_istore dX11_weighGains_14 (by decide) rfl ?_
        refine inner p (by omega) (fun σ' x4 x5 x6 j1 j3 => ?_) (I + 1) 0 (by omega) σ' x5 x6 i1 (fun y hy => by omega) i3
        refine z_iinc dX11_weighGains_89 rfl (by decide) rfl ?_
        refine z_goto (tgt := 2) dX11_weighGains_92 (by decide) ?_
        have := ih (p + 1) (by omega) σ' x4 x5 x6 j1 j3
        rw [nsucc] at this
        exact this
  refine K_of 4 (by decide) (Nat.le_of_ble_eq_true rfl) (show Z _ _ 0 0 0 [some (zR 0), some (zI (d : Int)), some (zI (I : Int)), none, none, none, none] [] _ _ from ?_)
  refine z_iconst dX11_weighGains_0 ?_
  refine z_istore_n dX11_weighGains_1 (by decide) rfl ?_
  exact outer m 0 (by omega) σ none none none (fun q x hq => by omega) fm.rf
theorem c_weighBests (hR : cR σ 8 t) (hk : cok 999 t) (hm : t 3 = (m : Int)) (hd : d ≤ 60) (hI : I ≤ 9) (hG : ∀ p x : Nat, p < m → x ≤ I → σ 37 (p * 10 + x) = gaV t d p x) : KV rc M_X11_weighBests [zR 0, zI (I : Int)] σ (fun σ' => (∀ q n : Nat, q ≤ m → n ≤ I → σ' 38 (q * 10 + n) = beF t d m (m - q) n) ∧ fm 38 σ σ') := by
  have h3 := hk.2.1
  have hNN : (NONE : Int) = -1000000 := rfl
  obtain ⟨P, hP⟩ : ∃ P : Mem → Prop, P = (fun σ' => (∀ q n : Nat, q ≤ m → n ≤ I → σ' 38 (q * 10 + n) = beF t d m (m - q) n) ∧ fm 38 σ σ') := ⟨_, rfl⟩
  rw [← hP]
  have hbn : ∀ q n : Nat, beF t d m (m - (q + 1)) n = NONE ∨ (0 ≤ beF t d m (m - (q + 1)) n ∧ beF t d m (m - (q + 1)) n ≤ 10000) := fun q n => by
    have := beF_in hk hm hd (m - (q + 1)) (by omega) n
    omega
  have hgi : ∀ q x n : Nat, q < m → ghV t d m q x n = NONE ∨ (0 ≤ ghV t d m q x n ∧ ghV t d m q x n ≤ 11740) := fun q x n hq => ghF_in (A := 10000) (by omega) (gaV_in hk (by omega) hd) (hbn q (n - x))
  have hmi : ∀ q n x : Nat, q < m → mxF (fun y => ghV t d m q y n) x = NONE ∨ (0 ≤ mxF (fun y => ghV t d m q y n) x ∧ mxF (fun y => ghV t d m q y n) x ≤ 11740) := fun q n x hq => by
    rcases mxF_at (f := fun y => ghV t d m q y n) x with e | ⟨y, -, e⟩
    · exact Or.inl e
    · rw [e]
      exact hgi q y n hq
  have most : ∀ (q n : Nat), q < m → n ≤ I → ∀ σ' : Mem, fm 38 σ σ' → (∀ y : Nat, y ≤ I → σ' 38 ((q + 1) * 10 + y) = beF t d m (m - (q + 1)) y) → (∀ x5 : Option ZV, Z rc M_X11_weighBests 0 0 95 [some (zR 0), some (zI (I : Int)), some (zI (q : Int)), some (zI (n : Int)), some (zI (beF t d m (m - q) n)), x5] [] (hp σ') (qV P)) → ∀ k x : Nat, x + k = n + 1 → Z rc M_X11_weighBests 0 0 68 [some (zR 0), some (zI (I : Int)), some (zI (q : Int)), some (zI (n : Int)), some (zI (mxF (fun y => ghV t d m q y n) x)), some (zI (x : Int))] [] (hp σ') (qV P) := by
    intro q n hqm hn σ' i3 hB fin k
    induction k with
    | zero =>
      intro x hx
      refine z_iload dX11_weighBests_68 rfl ?_
      refine z_iload_n dX11_weighBests_70 rfl ?_
      refine z_icmp_gt (tgt := 95) dX11_weighBests_71 (by decide) (by omega) (by omega) (fun b71 => ?_) (fun b71 => ?_)
      · have e : x = n + 1 := by omega
        subst e
        rw [← beF_q hqm]
        exact fin _
      · omega
    | succ k ih =>
      intro x hx
      have g1 := hgi q x n hqm
      have g2 := hmi q n x hqm
      refine z_iload dX11_weighBests_68 rfl ?_
      refine z_iload_n dX11_weighBests_70 rfl ?_
      refine z_icmp_gt (tgt := 95) dX11_weighBests_71 (by decide) (by omega) (by omega) (fun b71 => ?_) (fun b71 => ?_)
      · omega
      · refine z_iload dX11_weighBests_74 rfl ?_
        first | refine z_aload_n dX11_weighBests_76 rfl ?_ | refine z_aload_nT dX11_weighBests_76 rfl ?_
        refine z_iload_n dX11_weighBests_77 rfl ?_
        refine z_iload dX11_weighBests_78 rfl ?_
        refine z_iload_n dX11_weighBests_80 rfl ?_
        refine h_Vi3 (Y' := M_X11_gainBehind) dX11_weighBests_81 zw_562 zw_564 zs_14 rfl ok_X11_gainBehind (by decide) rfl (Nat.le_of_ble_eq_true rfl) ⟨rfl, rfl⟩ (by decide) (by first | assumption | rfl) (c_gainBehind (t := t) (d := d) (m := m) (by omega) (by omega) (by omega) ((i3 37 _ (by omega)).trans (hG q x hqm (by omega))) (hB (n - x) (by omega)) (gaV_in hk (by omega) hd) (hbn q (n - x))) (fun vv σ2 hq => ?_)
        obtain ⟨rfl, rfl⟩ := hq
        refine h_Si2 (Y' := M_J9_max_7cf53) dX11_weighBests_84 zw_566 zw_556 ok_J9_max_7cf53 (by decide) rfl (Nat.le_of_ble_eq_true rfl) ⟨rfl, rfl⟩ (by decide) (k_max (by omega) (by omega)) (fun vv σ2 hq => ?_)
        obtain ⟨rfl, rfl⟩ := hq
        refine z_istore dX11_weighBests_87 (by decide) rfl ?_
        refine z_iinc dX11_weighBests_89 rfl (by decide) rfl ?_
        refine z_goto (tgt := 68) dX11_weighBests_92 (by decide) ?_
        have := ih (x + 1) (by omega)
        rw [nsucc] at this
        exact this
  have numb : ∀ q : Nat, q < m → (∀ (σ' : Mem) (x3 x4 x5 : Option ZV), (∀ q' n : Nat, q ≤ q' → q' ≤ m → n ≤ I → σ' 38 (q' * 10 + n) = beF t d m (m - q') n) → fm 38 σ σ' → Z rc M_X11_weighBests 0 0 114 [some (zR 0), some (zI (I : Int)), some (zI (q : Int)), x3, x4, x5] [] (hp σ') (qV P)) → ∀ k n : Nat, n + k = I + 1 → ∀ (σ' : Mem) (x4 x5 : Option ZV), (∀ q' n : Nat, q < q' → q' ≤ m → n ≤ I → σ' 38 (q' * 10 + n) = beF t d m (m - q') n) → (∀ y : Nat, y < n → σ' 38 (q * 10 + y) = beF t d m (m - q) y) → fm 38 σ σ' → Z rc M_X11_weighBests 0 0 56 [some (zR 0), some (zI (I : Int)), some (zI (q : Int)), some (zI (n : Int)), x4, x5] [] (hp σ') (qV P) := by
    intro q hqm fin k
    induction k with
    | zero =>
      intro n hn σ' x4 x5 i1 i2 i3
      refine z_iload_n dX11_weighBests_56 rfl ?_
      refine z_iload_n dX11_weighBests_57 rfl ?_
      refine z_icmp_gt (tgt := 114) dX11_weighBests_58 (by decide) (by omega) (by omega) (fun b58 => ?_) (fun b58 => ?_)
      · refine fin σ' _ _ _ (fun q' y h1 h2 hy => ?_) i3
        by_cases e : q' = q
        · subst e
          exact i2 y (by omega)
        · exact i1 q' y (by omega) h2 hy
      · omega
    | succ k ih =>
      intro n hn σ' x4 x5 i1 i2 i3
      refine z_iload_n dX11_weighBests_56 rfl ?_
      refine z_iload_n dX11_weighBests_57 rfl ?_
      refine z_icmp_gt (tgt := 114) dX11_weighBests_58 (by decide) (by omega) (by omega) (fun b58 => ?_) (fun b58 => ?_)
      · omega
      · refine z_ldc (n := -1000000) dX11_weighBests_61 zw_528 rfl ?_
        refine z_istore dX11_weighBests_63 (by decide) rfl ?_
        refine z_iconst dX11_weighBests_65 ?_
        refine z_istore dX11_weighBests_66 (by decide) rfl ?_
        refine most q n hqm (by omega) σ' i3 (fun y hy => i1 (q + 1) y (by omega) (by omega) hy) (fun x5 => ?_) (n + 1) 0 (by omega)
        first | refine z_aload_n dX11_weighBests_95 rfl ?_ | refine z_aload_nT dX11_weighBests_95 rfl ?_
        refine h_getr dX11_weighBests_96 fl_X11_92 (by first | assumption | rfl) (by rfl) ?_
        refine z_iload_n dX11_weighBests_99 rfl ?_
        refine z_bipush dX11_weighBests_100 rfl ?_
        refine z_imul dX11_weighBests_102 ?_
        refine z_iload_n dX11_weighBests_103 rfl ?_
        refine z_iadd dX11_weighBests_104 ?_
        refine z_iload dX11_weighBests_105 rfl ?_
        refine h_iast dX11_weighBests_107 (by first | assumption | rfl) (by repeat' first | apply zc_add | apply zc_mul | with_reducible exact zc_var _ | exact zc_lit _) (by omega) (by decide) ?_
        refine z_iinc dX11_weighBests_108 rfl (by decide) rfl ?_
        refine z_goto (tgt := 56) dX11_weighBests_111 (by decide) ?_
        have := ih (n + 1) (by omega) (zu σ' 38 (q * 10 + n) (beF t d m (m - q) n)) (some (zI (beF t d m (m - q) n))) x5 (fun q' y h1 h2 hy => by rw [zu_j (by omega)]; exact i1 q' y h1 h2 hy) (fun y hy => by
          by_cases e : y = n
          · subst e
            rw [zu_eq]
          · rw [zu_j (by omega)]
            exact i2 y (by omega)) (fun o j ho => by rw [zu_o ho]; exact i3 o j ho)
        rw [nsucc] at this
        exact this
  have pier : ∀ r : Nat, r ≤ m → ∀ (σ' : Mem) (x3 x4 x5 : Option ZV), (∀ q' n : Nat, r ≤ q' → q' ≤ m → n ≤ I → σ' 38 (q' * 10 + n) = beF t d m (m - q') n) → fm 38 σ σ' → Z rc M_X11_weighBests 0 0 50 [some (zR 0), some (zI (I : Int)), some (zI ((r : Int) - 1)), x3, x4, x5] [] (hp σ') (qV P) := by
    intro r
    induction r with
    | zero =>
      intro hr σ' x3 x4 x5 i1 i3
      refine z_iload_n dX11_weighBests_50 rfl ?_
      refine z_if_lt (tgt := 120) dX11_weighBests_51 (by decide) (by omega) (fun b51 => ?_) (fun b51 => ?_)
      · refine h_vret dX11_weighBests_120 rfl rfl rfl ?_
        rw [hP]
        exact ⟨fun q n hq hn => i1 q n (by omega) hq hn, i3⟩
      · omega
    | succ r ih =>
      intro hr σ' x3 x4 x5 i1 i3
      have e : (((r + 1 : Nat) : Int) - 1) = (r : Int) := by omega
      rw [e]
      refine z_iload_n dX11_weighBests_50 rfl ?_
      refine z_if_lt (tgt := 120) dX11_weighBests_51 (by decide) (by omega) (fun b51 => ?_) (fun b51 => ?_)
      · omega
      · refine z_iconst dX11_weighBests_54 ?_
        refine z_istore_n dX11_weighBests_55 (by decide) rfl ?_
        refine numb r (by omega) (fun σ' x3 x4 x5 j1 j3 => ?_) (I + 1) 0 (by omega) σ' x4 x5 (fun q' n h1 h2 h3 => i1 q' n (by omega) h2 h3) (fun y hy => by omega) i3
        refine z_iinc dX11_weighBests_114 rfl (by decide) rfl ?_
        refine z_goto (tgt := 50) dX11_weighBests_117 (by decide) ?_
        exact ih (by omega) σ' x3 x4 x5 j1 j3
  have first : ∀ k n : Nat, n + k = I + 1 → ∀ σ' : Mem, (∀ y : Nat, y < n → σ' 38 (m * 10 + y) = beF t d m 0 y) → fm 38 σ σ' → Z rc M_X11_weighBests 0 0 2 [some (zR 0), some (zI (I : Int)), some (zI (n : Int)), none, none, none] [] (hp σ') (qV P) := by
    intro k
    induction k with
    | zero =>
      intro n hn σ' i2 i3
      have e5 : σ' 8 5 = (m : Int) := ((i3 8 5 (by omega)).trans hR.2.1).trans hm
      refine z_iload_n dX11_weighBests_2 rfl ?_
      refine z_iload_n dX11_weighBests_3 rfl ?_
      refine z_icmp_gt (tgt := 40) dX11_weighBests_4 (by decide) (by omega) (by omega) (fun b4 => ?_) (fun b4 => ?_)
      · first | refine z_aload_n dX11_weighBests_40 rfl ?_ | refine z_aload_nT dX11_weighBests_40 rfl ?_
        refine h_getr dX11_weighBests_41 fl_X11_26 (by first | assumption | rfl) (by rfl) ?_
        refine h_geti dX11_weighBests_44 fl_X11_173 (by first | assumption | rfl) (by rfl) ?_
        rw [e5]
        refine z_iconst dX11_weighBests_47 ?_
        refine z_isub dX11_weighBests_48 ?_
        refine z_istore_n dX11_weighBests_49 (by decide) rfl ?_
        exact pier m (Nat.le_refl _) σ' none none none (fun q' y h1 h2 hy => by
          have e : q' = m := by omega
          subst e
          rw [Nat.sub_self]
          exact i2 y (by omega)) i3
      · omega
    | succ k ih =>
      intro n hn σ' i2 i3
      have e5 : σ' 8 5 = (m : Int) := ((i3 8 5 (by omega)).trans hR.2.1).trans hm
      have go : ∀ v : Int, v = beF t d m 0 n → Z rc M_X11_weighBests 0 0 33 [some (zR 0), some (zI (I : Int)), some (zI (n : Int)), none, none, none] [zI v, zI ((m : Int) * 10 + (n : Int)), zR 38] (hp σ') (qV P) := by
        intro v hv
        refine h_iast dX11_weighBests_33 (by first | assumption | rfl) (by repeat' first | apply zc_add | apply zc_mul | with_reducible exact zc_var _ | exact zc_lit _) (by omega) (by decide) ?_
        refine z_iinc dX11_weighBests_34 rfl (by decide) rfl ?_
        refine z_goto (tgt := 2) dX11_weighBests_37 (by decide) ?_
        have := ih (n + 1) (by omega) (zu σ' 38 (m * 10 + n) v) (fun y hy => by
          by_cases e : y = n
          · subst e
            rw [zu_eq]
            exact hv
          · rw [zu_j (by omega)]
            exact i2 y (by omega)) (fun o j ho => by rw [zu_o ho]; exact i3 o j ho)
        rw [nsucc] at this
        exact this
      refine z_iload_n dX11_weighBests_2 rfl ?_
      refine z_iload_n dX11_weighBests_3 rfl ?_
      refine z_icmp_gt (tgt := 40) dX11_weighBests_4 (by decide) (by omega) (by omega) (fun b4 => ?_) (fun b4 => ?_)
      · omega
      · first | refine z_aload_n dX11_weighBests_7 rfl ?_ | refine z_aload_nT dX11_weighBests_7 rfl ?_
        refine h_getr dX11_weighBests_8 fl_X11_92 (by first | assumption | rfl) (by rfl) ?_
        first | refine z_aload_n dX11_weighBests_11 rfl ?_ | refine z_aload_nT dX11_weighBests_11 rfl ?_
        refine h_getr dX11_weighBests_12 fl_X11_26 (by first | assumption | rfl) (by rfl) ?_
        refine h_geti dX11_weighBests_15 fl_X11_173 (by first | assumption | rfl) (by rfl) ?_
        rw [e5]
        refine z_bipush dX11_weighBests_18 rfl ?_
        refine z_imul dX11_weighBests_20 ?_
        refine z_iload_n dX11_weighBests_21 rfl ?_
        refine z_iadd dX11_weighBests_22 ?_
        refine z_iload_n dX11_weighBests_23 rfl ?_
        refine z_if_ne (tgt := 31) dX11_weighBests_24 (by decide) (by omega) (fun b24 => ?_) (fun b24 => ?_)
        · refine z_ldc (n := -1000000) dX11_weighBests_31 zw_528 rfl ?_
          exact go _ (by show _ = if n = 0 then (0 : Int) else NONE; rw [if_neg (by omega)])
        · refine z_iconst dX11_weighBests_27 ?_
          refine z_goto (tgt := 33) dX11_weighBests_28 (by decide) ?_
          exact go _ (by show _ = if n = 0 then (0 : Int) else NONE; rw [if_pos (by omega)])
  refine K_of 4 (by decide) (Nat.le_of_ble_eq_true rfl) (show Z _ _ 0 0 0 [some (zR 0), some (zI (I : Int)), none, none, none, none] [] _ _ from ?_)
  refine z_iconst dX11_weighBests_0 ?_
  refine z_istore_n dX11_weighBests_1 (by decide) rfl ?_
  exact first (I + 1) 0 (by omega) σ (fun y hy => by omega) fm.rf
end
