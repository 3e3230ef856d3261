/-! fire -/
theorem bit_java : ∀ m p : Nat, m < 32 → p < 5 → (Int32.ofInt (m : Int) >>> (Int32.ofInt (p : Int) &&& 31)) &&& Int32.ofInt 1 = Int32.ofInt (if m.testBit p then 1 else 0) := by
  have h : ∀ m : Fin 32, ∀ p : Fin 5, (Int32.ofInt ((m : Nat) : Int) >>> (Int32.ofInt ((p : Nat) : Int) &&& 31)) &&& Int32.ofInt 1 = Int32.ofInt (if (m : Nat).testBit p then 1 else 0) := by decide
  exact fun m p hm hp5 => h ⟨m, hm⟩ ⟨p, hp5⟩
theorem shl_java : ∀ k : Nat, k < 6 → Int32.ofInt 1 <<< (Int32.ofInt (k : Int) &&& 31) = Int32.ofInt ((2 ^ k : Nat) : Int) := by
  have h : ∀ k : Fin 6, Int32.ofInt 1 <<< (Int32.ofInt ((k : Nat) : Int) &&& 31) = Int32.ofInt ((2 ^ (k : Nat) : Nat) : Int) := by decide
  exact fun k hk => h ⟨k, hk⟩
def fiT (t : Nat → Int) (b : Nat → Bool) : Nat → Int
  | 0 => 0
  | p + 1 => fiT t b p + if b p then toF t p else 0
def fiC (c : Int) (b : Nat → Bool) : Nat → Int
  | 0 => 1
  | p + 1 => fiC c b p * if b p then 10 - c else c
def tnF : Nat → Int
  | 0 => 1
  | p + 1 => tnF p * 10
def suF (g : Nat → Int) : Nat → Int
  | 0 => 0
  | n + 1 => suF g n + g n
theorem fiT_s {t : Nat → Int} {b : Nat → Bool} {p : Nat} : fiT t b (p + 1) = fiT t b p + if b p then toF t p else 0 := rfl
theorem fiC_s {c : Int} {b : Nat → Bool} {p : Nat} : fiC c b (p + 1) = fiC c b p * if b p then 10 - c else c := rfl
theorem tnF_s {p : Nat} : tnF (p + 1) = tnF p * 10 := rfl
theorem suF_s {g : Nat → Int} {n : Nat} : suF g (n + 1) = suF g n + g n := rfl
theorem fiT_in {B : Int} {t : Nat → Int} {b : Nat → Bool} (h : cok B t) : ∀ p : Nat, (p : Int) ≤ t 3 → 0 ≤ fiT t b p ∧ fiT t b p ≤ 29 * p
  | 0, _ => ⟨Int.le_refl _, by simp [fiT]⟩
  | p + 1, hp => by
    have h1 := fiT_in (b := b) h p (by omega)
    have h2 := toF_in h (p := p) (by omega)
    rw [fiT_s]
    split <;> omega
theorem fiC_in {c : Int} {b : Nat → Bool} (h0 : 0 ≤ c) (h1 : c ≤ 10) : ∀ p : Nat, 0 ≤ fiC c b p ∧ fiC c b p ≤ tnF p
  | 0 => by simp [fiC, tnF]
  | p + 1 => by
    have ih := fiC_in (b := b) h0 h1 p
    rw [fiC_s, tnF_s]
    have key : ∀ x : Int, 0 ≤ x → x ≤ 10 → 0 ≤ fiC c b p * x ∧ fiC c b p * x ≤ tnF p * 10 := fun x x0 x1 => ⟨Int.mul_nonneg ih.1 x0, Int.mul_le_mul ih.2 x1 x0 (Int.le_trans ih.1 ih.2)⟩
    split
    · exact key _ (by omega) (by omega)
    · exact key _ h0 h1
theorem tnF_in : ∀ p : Nat, p ≤ 5 → 1 ≤ tnF p ∧ tnF p ≤ 100000
  | 0, _ => by decide
  | 1, _ => by decide
  | 2, _ => by decide
  | 3, _ => by decide
  | 4, _ => by decide
  | 5, _ => by decide
  | p + 6, h => by omega
theorem suF_in {g : Nat → Int} {M : Int} : ∀ n : Nat, (∀ i, i < n → 0 ≤ g i ∧ g i ≤ M) → 0 ≤ suF g n ∧ suF g n ≤ M * n
  | 0, _ => by simp [suF]
  | n + 1, h => by
    have ih := suF_in n (fun i hi => h i (by omega))
    have h1 := h n (by omega)
    rw [suF_s]
    have e : M * ((n + 1 : Nat) : Int) = M * n + M := by rw [Int.natCast_succ, Int.mul_add, Int.mul_one]
    omega
theorem suF_congr {g g' : Nat → Int} : ∀ n : Nat, (∀ i, i < n → g i = g' i) → suF g n = suF g' n
  | 0, _ => rfl
  | n + 1, h => by rw [suF_s, suF_s, suF_congr n (fun i hi => h i (by omega)), h n (by omega)]
theorem suF_front {g : Nat → Int} : ∀ n : Nat, suF g (n + 1) = g 0 + suF (fun i => g (i + 1)) n
  | 0 => by simp [suF]
  | n + 1 => by
    rw [suF_s, suF_front n, suF_s]
    omega
theorem suF_rev : ∀ (n : Nat) (g : Nat → Int), suF (fun i => g (n - 1 - i)) n = suF g n
  | 0, _ => rfl
  | n + 1, g => by
    rw [suF_front, suF_s, ← suF_rev n g]
    have e : suF (fun i => g (n + 1 - 1 - (i + 1))) n = suF (fun i => g (n - 1 - i)) n := suF_congr n (fun i hi => by
      show g (n + 1 - 1 - (i + 1)) = g (n - 1 - i)
      congr 1
      omega)
    show g (n + 1 - 1 - 0) + suF (fun i => g (n + 1 - 1 - (i + 1))) n = _
    rw [e]
    show g n + _ = _
    omega
def gaF (t : Nat → Int) (q c : Int) (k : Nat) (b : Nat → Bool) : Int := if fiT t b k < q then 0 else fiC c b k
theorem fiT_congr {t : Nat → Int} {b b' : Nat → Bool} : ∀ p : Nat, (∀ i, i < p → b i = b' i) → fiT t b p = fiT t b' p
  | 0, _ => rfl
  | p + 1, h => by rw [fiT_s, fiT_s, fiT_congr p (fun i hi => h i (by omega)), h p (by omega)]
theorem fiC_congr {c : Int} {b b' : Nat → Bool} : ∀ p : Nat, (∀ i, i < p → b i = b' i) → fiC c b p = fiC c b' p
  | 0, _ => rfl
  | p + 1, h => by rw [fiC_s, fiC_s, fiC_congr p (fun i hi => h i (by omega)), h p (by omega)]
def abF (t : Nat → Int) (q c : Int) (k : Nat) : Int := suF (fun s => gaF t q c k (fun p => s.testBit p)) (2 ^ k)
theorem abF_rev {t : Nat → Int} {q c : Int} {k : Nat} : suF (fun s => gaF t q c k (fun p => !s.testBit p)) (2 ^ k) = abF t q c k := by
  unfold abF
  rw [← suF_rev (2 ^ k) (fun s => gaF t q c k (fun p => s.testBit p))]
  refine suF_congr _ (fun m hm => ?_)
  have e : ∀ p, p < k → (!m.testBit p) = (2 ^ k - 1 - m).testBit p := by
    intro p hpk
    have h1 : 2 ^ k - 1 - m = 2 ^ k - (m + 1) := by omega
    rw [h1, Nat.testBit_two_pow_sub_succ hm]
    simp [hpk]
  show gaF t q c k _ = gaF t q c k _
  unfold gaF
  rw [fiT_congr k e, fiC_congr k e]
theorem gaF_in {t : Nat → Int} {q c : Int} {k : Nat} {b : Nat → Bool} (h0 : 0 ≤ c) (h1 : c ≤ 10) (hk : k ≤ 5) : 0 ≤ gaF t q c k b ∧ gaF t q c k b ≤ 100000 := by
  have h2 := fiC_in (b := b) h0 h1 k
  have h3 := tnF_in k hk
  unfold gaF
  split <;> omega
theorem pow5 : ∀ k : Nat, k ≤ 5 → 1 ≤ 2 ^ k ∧ 2 ^ k ≤ 32
  | 0, _ => by decide
  | 1, _ => by decide
  | 2, _ => by decide
  | 3, _ => by decide
  | 4, _ => by decide
  | 5, _ => by decide
  | p + 6, h => by omega
theorem abF_in {t : Nat → Int} {q c : Int} {k : Nat} (h0 : 0 ≤ c) (h1 : c ≤ 10) (hk : k ≤ 5) : 0 ≤ abF t q c k ∧ abF t q c k ≤ 3200000 := by
  have h2 := suF_in (g := fun s => gaF t q c k (fun p => s.testBit p)) (M := 100000) (2 ^ k) (fun i _ => gaF_in h0 h1 hk)
  have h3 := pow5 k hk
  unfold abF
  omega
section
variable {rc : ZRC} {σ α : Mem}
theorem k_gcd {a b : Nat} (ha : a ≤ 3200000) (hb : b ≤ 100000) : KI rc M_X11_commonDivisor [zI (a : Int), zI (b : Int)] σ (fun v σ' => v = ((a.gcd b : Nat) : Int) ∧ σ' = σ) := by
  have loop : ∀ m k x y : Nat, k + m = 64 → y < x → x * y < 2 ^ m → x ≤ 3200000 → ∀ x5 : Option ZV, Z rc M_X11_commonDivisor 0 0 7 [some (zI (a : Int)), some (zI (b : Int)), some (zI (x : Int)), some (zI (y : Int)), some (zI (k : Int)), x5] [] (hp σ) (qI (fun v σ' => v = ((x.gcd y : Nat) : Int) ∧ σ' = σ)) := by
    intro m
    induction m with
    | zero =>
      intro k x y hk hxy hm hx x5
      have hy : y = 0 := by
        rcases Nat.eq_zero_or_pos y with h | h
        · exact h
        · have := Nat.mul_pos (show 0 < x by omega) h
          omega
      subst hy
      refine z_iload dX11_commonDivisor_7 rfl ?_
      refine z_bipush dX11_commonDivisor_9 rfl ?_
      refine z_icmp_ge (tgt := 34) dX11_commonDivisor_11 (by decide) (by omega) (by omega) (fun b11 => ?_) (fun b11 => ?_)
      · refine z_iload_n dX11_commonDivisor_34 rfl ?_
        refine h_iret dX11_commonDivisor_35 rfl rfl rfl ?_
        exact ⟨by rw [Nat.gcd_zero_right], rfl⟩
      · omega
    | succ m ih =>
      intro k x y hk hxy hm hx x5
      refine z_iload dX11_commonDivisor_7 rfl ?_
      refine z_bipush dX11_commonDivisor_9 rfl ?_
      refine z_icmp_ge (tgt := 34) dX11_commonDivisor_11 (by decide) (by omega) (by omega) (fun b11 => ?_) (fun b11 => ?_)
      · omega
      · refine z_iload_n dX11_commonDivisor_14 rfl ?_
        refine z_if_eq (tgt := 34) dX11_commonDivisor_15 (by decide) (by omega) (fun b15 => ?_) (fun b15 => ?_)
        · have hy : y = 0 := by omega
          subst hy
          refine z_iload_n dX11_commonDivisor_34 rfl ?_
          refine h_iret dX11_commonDivisor_35 rfl rfl rfl ?_
          exact ⟨by rw [Nat.gcd_zero_right], rfl⟩
        · have hm1 : x % y < y := Nat.mod_lt x (by omega)
          have hm2 : x % y * 2 < x := by
            have h1 := Nat.mod_add_div x y
            have h2 : 1 ≤ x / y := (Nat.one_le_div_iff (by omega)).2 (by omega)
            have h3 : y ≤ y * (x / y) := Nat.le_mul_of_pos_right y h2
            omega
          have hm3 : y * (x % y) < 2 ^ m := by
            have h1 : y * (x % y * 2) ≤ y * x := Nat.mul_le_mul_left y (by omega)
            have h2 : y * (x % y * 2) = y * (x % y) * 2 := by rw [Nat.mul_assoc]
            have h3 : x * y = y * x := Nat.mul_comm x y
            have h4 : 2 ^ (m + 1) = 2 ^ m * 2 := Nat.pow_succ 2 m
            omega
          have hg : x.gcd y = y.gcd (x % y) := by
            rw [Nat.gcd_comm x y, Nat.gcd_rec y x, Nat.gcd_comm]
          rw [hg]
          refine z_iload_n dX11_commonDivisor_18 rfl ?_
          refine z_iload_n dX11_commonDivisor_19 rfl ?_
          refine z_irem dX11_commonDivisor_20 (by omega) (by omega) (by omega) (by omega) ?_
          rw [← Int.natCast_emod]
          refine z_istore dX11_commonDivisor_21 (by decide) rfl ?_
          refine z_iload_n dX11_commonDivisor_23 rfl ?_
          refine z_istore_n dX11_commonDivisor_24 (by decide) rfl ?_
          refine z_iload dX11_commonDivisor_25 rfl ?_
          refine z_istore_n dX11_commonDivisor_27 (by decide) rfl ?_
          refine z_iinc dX11_commonDivisor_28 rfl (by decide) rfl ?_
          refine z_goto (tgt := 7) dX11_commonDivisor_31 (by decide) ?_
          have := ih (k + 1) y (x % y) (by omega) hm1 hm3 (by omega) (some (zI ((x % y : Nat) : Int)))
          rw [nsucc] at this
          exact this
  refine K_of 4 (by decide) (Nat.le_of_ble_eq_true rfl) (show Z _ _ 0 0 0 [some (zI (a : Int)), some (zI (b : Int)), none, none, none, none] [] _ _ from ?_)
  refine z_iload_n dX11_commonDivisor_0 rfl ?_
  refine z_istore_n dX11_commonDivisor_1 (by decide) rfl ?_
  refine z_iload_n dX11_commonDivisor_2 rfl ?_
  refine z_istore_n dX11_commonDivisor_3 (by decide) rfl ?_
  refine z_iconst dX11_commonDivisor_4 ?_
  refine z_istore dX11_commonDivisor_5 (by decide) rfl ?_
  refine z_iload dX11_commonDivisor_7 rfl ?_
  refine z_bipush dX11_commonDivisor_9 rfl ?_
  refine z_icmp_ge (tgt := 34) dX11_commonDivisor_11 (by decide) (by omega) (by omega) (fun b11 => ?_) (fun b11 => ?_)
  · omega
  · refine z_iload_n dX11_commonDivisor_14 rfl ?_
    refine z_if_eq (tgt := 34) dX11_commonDivisor_15 (by decide) (by omega) (fun b15 => ?_) (fun b15 => ?_)
    · have hy : b = 0 := by omega
      subst hy
      refine z_iload_n dX11_commonDivisor_34 rfl ?_
      refine h_iret dX11_commonDivisor_35 rfl rfl rfl ?_
      exact ⟨by rw [Nat.gcd_zero_right], rfl⟩
    · have hm1 : a % b < b := Nat.mod_lt a (by omega)
      have hg : a.gcd b = b.gcd (a % b) := by
        rw [Nat.gcd_comm a b, Nat.gcd_rec b a, Nat.gcd_comm]
      rw [hg]
      refine z_iload_n dX11_commonDivisor_18 rfl ?_
      refine z_iload_n dX11_commonDivisor_19 rfl ?_
      refine z_irem dX11_commonDivisor_20 (by omega) (by omega) (by omega) (by omega) ?_
      rw [← Int.natCast_emod]
      refine z_istore dX11_commonDivisor_21 (by decide) rfl ?_
      refine z_iload_n dX11_commonDivisor_23 rfl ?_
      refine z_istore_n dX11_commonDivisor_24 (by decide) rfl ?_
      refine z_iload dX11_commonDivisor_25 rfl ?_
      refine z_istore_n dX11_commonDivisor_27 (by decide) rfl ?_
      refine z_iinc dX11_commonDivisor_28 rfl (by decide) rfl ?_
      refine z_goto (tgt := 7) dX11_commonDivisor_31 (by decide) ?_
      have h5 : b * (a % b) ≤ 100000 * 100000 := Nat.mul_le_mul hb (by omega)
      have := loop 63 1 b (a % b) (by omega) hm1 (Nat.lt_of_le_of_lt h5 (by decide)) (by omega) (some (zI ((a % b : Nat) : Int)))
      exact this
theorem k_takenBy {t : Nat → Int} {s : Nat} (hR : cR σ 8 t) (hk : cok 999 t) (hs : s < 32) : KI rc M_X11_takenBy [zR 0, zI (s : Int)] σ (fun v σ' => v = fiT t (fun p => s.testBit p) (t 3).toNat ∧ σ' = σ) := by
  have h3 := hk.2.1
  have e5 := hR.2.1
  have loop : ∀ m p : Nat, p + m = (t 3).toNat → Z rc M_X11_takenBy 0 0 4 [some (zR 0), some (zI (s : Int)), some (zI (fiT t (fun p => s.testBit p) p)), some (zI (p : Int))] [] (hp σ) (qI (fun v σ' => v = fiT t (fun p => s.testBit p) (t 3).toNat ∧ σ' = σ)) := by
    intro m
    induction m with
    | zero =>
      intro p hpm
      refine z_iload_n dX11_takenBy_4 rfl ?_
      first | refine z_aload_n dX11_takenBy_5 rfl ?_ | refine z_aload_nT dX11_takenBy_5 rfl ?_
      refine h_getr dX11_takenBy_6 fl_X11_26 (by first | assumption | rfl) (by rfl) ?_
      refine h_geti dX11_takenBy_9 fl_X11_173 (by first | assumption | rfl) (by rfl) ?_
      refine z_icmp_ge (tgt := 41) dX11_takenBy_12 (by decide) (by omega) (by omega) (fun b12 => ?_) (fun b12 => ?_)
      · refine z_iload_n dX11_takenBy_41 rfl ?_
        refine h_iret dX11_takenBy_42 rfl rfl rfl ?_
        have : p = (t 3).toNat := by omega
        rw [this]
        exact ⟨rfl, rfl⟩
      · omega
    | succ m ih =>
      intro p hpm
      have hih := ih (p + 1) (by omega)
      rw [fiT_s, nsucc] at hih
      refine z_iload_n dX11_takenBy_4 rfl ?_
      first | refine z_aload_n dX11_takenBy_5 rfl ?_ | refine z_aload_nT dX11_takenBy_5 rfl ?_
      refine h_getr dX11_takenBy_6 fl_X11_26 (by first | assumption | rfl) (by rfl) ?_
      refine h_geti dX11_takenBy_9 fl_X11_173 (by first | assumption | rfl) (by rfl) ?_
      refine z_icmp_ge (tgt := 41) dX11_takenBy_12 (by decide) (by omega) (by omega) (fun b12 => ?_) (fun b12 => ?_)
      · omega
      · refine z_iload_n dX11_takenBy_15 rfl ?_
        refine z_iload_n dX11_takenBy_16 rfl ?_
        refine z_ishr (Int32.ofInt (s : Int) >>> (Int32.ofInt (p : Int) &&& 31)).toInt dX11_takenBy_17 (Int32.ofInt_toInt _).symm ?_
        refine z_iconst dX11_takenBy_18 ?_
        refine z_iand (if s.testBit p then 1 else 0) dX11_takenBy_19 (by rw [Int32.ofInt_toInt]; exact bit_java s p hs (by omega)) ?_
        by_cases hb : s.testBit p = true
        · rw [if_pos hb] at hih ⊢
          refine z_iconst dX11_takenBy_20 ?_
          refine z_icmp_ne (tgt := 35) dX11_takenBy_21 (by decide) (by omega) (by omega) (fun b21 => ?_) (fun b21 => ?_)
          · omega
          · refine z_iload_n dX11_takenBy_24 rfl ?_
            first | refine z_aload_n dX11_takenBy_25 rfl ?_ | refine z_aload_nT dX11_takenBy_25 rfl ?_
            refine h_getr dX11_takenBy_26 fl_X11_26 (by first | assumption | rfl) (by rfl) ?_
            refine z_iload_n dX11_takenBy_29 rfl ?_
            refine h_Vi1 (Y' := M_X2_takeOf) dX11_takenBy_30 zw_501 zw_442 zw_443 rfl ok_X2_takeOf (by decide) rfl (Nat.le_of_ble_eq_true rfl) ⟨rfl, rfl⟩ (by decide) (by first | assumption | rfl) (k_takeOf (Or.inl rfl) hR hk (by omega)) (fun vv σ2 hq => ?_)
            obtain ⟨rfl, rfl⟩ := hq
            refine z_iadd dX11_takenBy_33 ?_
            refine z_istore_n dX11_takenBy_34 (by decide) rfl ?_
            refine z_iinc dX11_takenBy_35 rfl (by decide) rfl ?_
            refine z_goto (tgt := 4) dX11_takenBy_38 (by decide) ?_
            exact hih
        · rw [if_neg hb] at hih ⊢
          rw [Int.add_zero] at hih
          refine z_iconst dX11_takenBy_20 ?_
          refine z_icmp_ne (tgt := 35) dX11_takenBy_21 (by decide) (by omega) (by omega) (fun b21 => ?_) (fun b21 => ?_)
          · refine z_iinc dX11_takenBy_35 rfl (by decide) rfl ?_
            refine z_goto (tgt := 4) dX11_takenBy_38 (by decide) ?_
            exact hih
          · omega
  refine K_of 2 (by decide) (Nat.le_of_ble_eq_true rfl) (show Z _ _ 0 0 0 [some (zR 0), some (zI (s : Int)), none, none] [] _ _ from ?_)
  refine z_iconst dX11_takenBy_0 ?_
  refine z_istore_n dX11_takenBy_1 (by decide) rfl ?_
  refine z_iconst dX11_takenBy_2 ?_
  refine z_istore_n dX11_takenBy_3 (by decide) rfl ?_
  exact loop _ 0 (Nat.zero_add _)
theorem k_chanceOf {t : Nat → Int} {s : Nat} {c : Int} (hR : cR σ 8 t) (hk : cok 999 t) (hs : s < 32) : KI rc M_X11_chanceOf [zR 0, zI (s : Int), zI c] σ (fun v σ' => v = fiC c (fun p => s.testBit p) (t 3).toNat ∧ σ' = σ) := by
  have h3 := hk.2.1
  have e5 := hR.2.1
  have loop : ∀ m p : Nat, p + m = (t 3).toNat → Z rc M_X11_chanceOf 0 0 5 [some (zR 0), some (zI (s : Int)), some (zI c), some (zI (fiC c (fun p => s.testBit p) p)), some (zI (p : Int))] [] (hp σ) (qI (fun v σ' => v = fiC c (fun p => s.testBit p) (t 3).toNat ∧ σ' = σ)) := by
    intro m
    induction m with
    | zero =>
      intro p hpm
      refine z_iload dX11_chanceOf_5 rfl ?_
      first | refine z_aload_n dX11_chanceOf_7 rfl ?_ | refine z_aload_nT dX11_chanceOf_7 rfl ?_
      refine h_getr dX11_chanceOf_8 fl_X11_26 (by first | assumption | rfl) (by rfl) ?_
      refine h_geti dX11_chanceOf_11 fl_X11_173 (by first | assumption | rfl) (by rfl) ?_
      refine z_icmp_ge (tgt := 44) dX11_chanceOf_14 (by decide) (by omega) (by omega) (fun b14 => ?_) (fun b14 => ?_)
      · refine z_iload_n dX11_chanceOf_44 rfl ?_
        refine h_iret dX11_chanceOf_45 rfl rfl rfl ?_
        have : p = (t 3).toNat := by omega
        rw [this]
        exact ⟨rfl, rfl⟩
      · omega
    | succ m ih =>
      intro p hpm
      have hih := ih (p + 1) (by omega)
      rw [fiC_s, nsucc] at hih
      refine z_iload dX11_chanceOf_5 rfl ?_
      first | refine z_aload_n dX11_chanceOf_7 rfl ?_ | refine z_aload_nT dX11_chanceOf_7 rfl ?_
      refine h_getr dX11_chanceOf_8 fl_X11_26 (by first | assumption | rfl) (by rfl) ?_
      refine h_geti dX11_chanceOf_11 fl_X11_173 (by first | assumption | rfl) (by rfl) ?_
      refine z_icmp_ge (tgt := 44) dX11_chanceOf_14 (by decide) (by omega) (by omega) (fun b14 => ?_) (fun b14 => ?_)
      · omega
      · refine z_iload_n dX11_chanceOf_17 rfl ?_
        refine z_iload_n dX11_chanceOf_18 rfl ?_
        refine z_iload dX11_chanceOf_19 rfl ?_
        refine z_ishr (Int32.ofInt (s : Int) >>> (Int32.ofInt (p : Int) &&& 31)).toInt dX11_chanceOf_21 (Int32.ofInt_toInt _).symm ?_
        refine z_iconst dX11_chanceOf_22 ?_
        refine z_iand (if s.testBit p then 1 else 0) dX11_chanceOf_23 (by rw [Int32.ofInt_toInt]; exact bit_java s p hs (by omega)) ?_
        by_cases hb : s.testBit p = true
        · rw [if_pos hb] at hih ⊢
          refine z_iconst dX11_chanceOf_24 ?_
          refine z_icmp_ne (tgt := 35) dX11_chanceOf_25 (by decide) (by omega) (by omega) (fun b25 => ?_) (fun b25 => ?_)
          · omega
          · refine z_bipush dX11_chanceOf_28 rfl ?_
            refine z_iload_n dX11_chanceOf_30 rfl ?_
            refine z_isub dX11_chanceOf_31 ?_
            refine z_goto (tgt := 36) dX11_chanceOf_32 (by decide) ?_
            refine z_imul dX11_chanceOf_36 ?_
            refine z_istore_n dX11_chanceOf_37 (by decide) rfl ?_
            refine z_iinc dX11_chanceOf_38 rfl (by decide) rfl ?_
            refine z_goto (tgt := 5) dX11_chanceOf_41 (by decide) ?_
            exact hih
        · rw [if_neg hb] at hih ⊢
          refine z_iconst dX11_chanceOf_24 ?_
          refine z_icmp_ne (tgt := 35) dX11_chanceOf_25 (by decide) (by omega) (by omega) (fun b25 => ?_) (fun b25 => ?_)
          · refine z_iload_n dX11_chanceOf_35 rfl ?_
            refine z_imul dX11_chanceOf_36 ?_
            refine z_istore_n dX11_chanceOf_37 (by decide) rfl ?_
            refine z_iinc dX11_chanceOf_38 rfl (by decide) rfl ?_
            refine z_goto (tgt := 5) dX11_chanceOf_41 (by decide) ?_
            exact hih
          · omega
  refine K_of 2 (by decide) (Nat.le_of_ble_eq_true rfl) (show Z _ _ 0 0 0 [some (zR 0), some (zI (s : Int)), some (zI c), none, none] [] _ _ from ?_)
  refine z_iconst dX11_chanceOf_0 ?_
  refine z_istore_n dX11_chanceOf_1 (by decide) rfl ?_
  refine z_iconst dX11_chanceOf_2 ?_
  refine z_istore dX11_chanceOf_3 (by decide) rfl ?_
  exact loop _ 0 (Nat.zero_add _)
def aFire (α : Mem) (q c w : Int) : Int := if α 5 8 = 0 then STATE else if ¬ (0 ≤ q ∧ q ≤ 200) ∨ ¬ (0 ≤ c ∧ c ≤ 10) ∨ ¬ (0 ≤ w ∧ w ≤ 1) then BAD else
  (if w = 0 then abF (α 5) q c (α 5 3).toNat else tnF (α 5 3).toNat) / (((abF (α 5) q c (α 5 3).toNat).toNat.gcd (tnF (α 5 3).toNat).toNat : Nat) : Int)
theorem c_fire {q c w : Int} (hC : CI σ α) (hO : OK α) (hq : zin q) (hc : zin c) (hw : zin w) : KI rc M_X11_fire [zR 0, zI q, zI c, zI w] σ (cP σ α (aFire α q c w) α) := by
  have h3 := OKc_3 hO
  have h8 := OKc_8 hO
  have hR := hC.2.2.2.1
  have e8 := hR.1
  have e5 := hR.2.1
  have hzq := hq
  clear hq
  have bad : ∀ σ2 : Mem, σ2 = σ → ¬ α 5 8 = 0 → (¬ (0 ≤ q ∧ q ≤ 200) ∨ ¬ (0 ≤ c ∧ c ≤ 10) ∨ ¬ (0 ≤ w ∧ w ≤ 1)) → Z rc M_X11_fire 0 0 43 [some (zR 0), some (zI q), some (zI c), some (zI w), none, none, none, none] [] (hp σ2) (qI (cP σ α (aFire α q c w) α)) := by
    intro σ2 e hn hb
    subst e
    refine z_ldc (n := -1000001) dX11_fire_43 zw_268 rfl ?_
    refine h_iret dX11_fire_45 rfl rfl rfl ?_
    exact ⟨by unfold aFire; rw [if_neg hn, if_pos hb], hC, fr.rf⟩
  refine K_of 4 (by decide) (Nat.le_of_ble_eq_true rfl) (show Z _ _ 0 0 0 [some (zR 0), some (zI q), some (zI c), some (zI w), none, none, none, none] [] _ _ from ?_)
  first | refine z_aload_n dX11_fire_0 rfl ?_ | refine z_aload_nT dX11_fire_0 rfl ?_
  refine h_getr dX11_fire_1 fl_X11_26 (by first | assumption | rfl) (by rfl) ?_
  refine h_geti dX11_fire_4 fl_X11_176 (by first | assumption | rfl) (by rfl) ?_
  refine z_if_ne (tgt := 13) dX11_fire_7 (by decide) (by omega) (fun b7 => ?_) (fun b7 => ?_)
  · have hk := OKc_s hO (by omega)
    refine z_iload_n dX11_fire_13 rfl ?_
    refine z_iconst dX11_fire_14 ?_
    refine z_sipush dX11_fire_15 rfl ?_
    refine h_Si3 (Y' := M_X11_isWithin) dX11_fire_18 zw_265 zw_266 ok_X11_isWithin (by decide) rfl (Nat.le_of_ble_eq_true rfl) ⟨rfl, rfl⟩ (by decide) (c_within hzq (by omega) (by omega)) (fun vv σ2 hq => ?_)
    obtain ⟨hv1, rfl⟩ := hq
    refine z_if_eq (tgt := 43) dX11_fire_21 (by decide) (by omega) (fun b21 => ?_) (fun b21 => ?_)
    · exact bad _ rfl (by omega) (by omega)
    · refine z_iload_n dX11_fire_24 rfl ?_
      refine z_iconst dX11_fire_25 ?_
      refine z_bipush dX11_fire_26 rfl ?_
      refine h_Si3 (Y' := M_X11_isWithin) dX11_fire_28 zw_265 zw_266 ok_X11_isWithin (by decide) rfl (Nat.le_of_ble_eq_true rfl) ⟨rfl, rfl⟩ (by decide) (c_within hc (by omega) (by omega)) (fun vv σ2 hq => ?_)
      obtain ⟨hv2, rfl⟩ := hq
      refine z_if_eq (tgt := 43) dX11_fire_31 (by decide) (by omega) (fun b31 => ?_) (fun b31 => ?_)
      · exact bad _ rfl (by omega) (by omega)
      · refine z_iload_n dX11_fire_34 rfl ?_
        refine z_iconst dX11_fire_35 ?_
        refine z_iconst dX11_fire_36 ?_
        refine h_Si3 (Y' := M_X11_isWithin) dX11_fire_37 zw_265 zw_266 ok_X11_isWithin (by decide) rfl (Nat.le_of_ble_eq_true rfl) ⟨rfl, rfl⟩ (by decide) (c_within hw (by omega) (by omega)) (fun vv σ2 hq => ?_)
        obtain ⟨hv3, rfl⟩ := hq
        refine z_if_ne (tgt := 46) dX11_fire_40 (by decide) (by omega) (fun b40 => ?_) (fun b40 => ?_)
        · obtain ⟨m, hm⟩ : ∃ x : Nat, α 5 3 = (x : Int) := ⟨(α 5 3).toNat, by omega⟩
          have hm2 : (α 5 3).toNat = m := by omega
          have hm5 : m ≤ 5 := by omega
          have hpw := pow5 m hm5
          have htn := tnF_in m hm5
          have hab := abF_in (t := α 5) (q := q) (c := c) (k := m) (by omega) (by omega) hm5
          have loop2 : ∀ k s : Nat, s + k = 2 ^ m → ∀ x7 : Option ZV, Z rc M_X11_fire 0 0 83 [some (zR 0), some (zI q), some (zI c), some (zI w), some (zI (suF (fun s => gaF (α 5) q c m (fun p => s.testBit p)) s)), some (zI (tnF m)), some (zI (s : Int)), x7] [] (hp σ2) (qI (cP σ2 α (aFire α q c w) α)) := by
            intro k
            induction k with
            | zero =>
              intro s hs x7
              have es : s = 2 ^ m := by omega
              subst es
              have ea : suF (fun s => gaF (α 5) q c m (fun p => s.testBit p)) (2 ^ m) = abF (α 5) q c m := rfl
              rw [ea]
              obtain ⟨A, hA⟩ : ∃ x : Nat, abF (α 5) q c m = (x : Int) := ⟨(abF (α 5) q c m).toNat, by omega⟩
              obtain ⟨T, hT⟩ : ∃ x : Nat, tnF m = (x : Int) := ⟨(tnF m).toNat, by omega⟩
              have hans : aFire α q c w = (if w = 0 then (A : Int) else (T : Int)) / ((A.gcd T : Nat) : Int) := by
                unfold aFire
                rw [if_neg (by omega), if_neg (by omega), hm2, hA, hT]
                rfl
              rw [hA] at hab ⊢
              rw [hT] at htn ⊢
              have hg1 : 0 < A.gcd T := Nat.gcd_pos_of_pos_right A (by omega)
              have hg2 : A.gcd T ≤ T := Nat.gcd_le_right A (by omega)
              refine z_iload dX11_fire_83 rfl ?_
              refine z_iconst dX11_fire_85 ?_
              first | refine z_aload_n dX11_fire_86 rfl ?_ | refine z_aload_nT dX11_fire_86 rfl ?_
              refine h_getr dX11_fire_87 fl_X11_26 (by first | assumption | rfl) (by rfl) ?_
              refine h_geti dX11_fire_90 fl_X11_173 (by first | assumption | rfl) (by rfl) ?_
              rw [e5, hm]
              refine z_ishl ((2 ^ m : Nat) : Int) dX11_fire_93 (shl_java m (by omega)) ?_
              refine z_icmp_ge (tgt := 125) dX11_fire_94 (by decide) (by omega) (by omega) (fun b94 => ?_) (fun b94 => ?_)
              · have fin : ∀ part : Int, part = (if w = 0 then (A : Int) else (T : Int)) → Z rc M_X11_fire 0 0 136 [some (zR 0), some (zI q), some (zI c), some (zI w), some (zI (A : Int)), some (zI (T : Int)), some (zI ((2 ^ m : Nat) : Int)), x7] [zI part] (hp σ2) (qI (cP σ2 α (aFire α q c w) α)) := by
                  intro part hpart
                  have hp0 : 0 ≤ part ∧ part ≤ 3200000 := by
                    rw [hpart]
                    split <;> omega
                  refine z_istore dX11_fire_136 (by decide) rfl ?_
                  refine z_iload dX11_fire_138 rfl ?_
                  refine z_iload dX11_fire_140 rfl ?_
                  refine h_Si2 (Y' := M_X11_commonDivisor) dX11_fire_142 zw_632 zw_633 ok_X11_commonDivisor (by decide) rfl (Nat.le_of_ble_eq_true rfl) ⟨rfl, rfl⟩ (by decide) (k_gcd (by omega) (by omega)) (fun vv σ2 hq => ?_)
                  obtain ⟨rfl, rfl⟩ := hq
                  refine z_istore dX11_fire_145 (by decide) rfl ?_
                  refine z_iload dX11_fire_147 rfl ?_
                  refine z_if_ne (tgt := 157) dX11_fire_149 (by decide) (by omega) (fun b149 => ?_) (fun b149 => ?_)
                  · refine z_iload dX11_fire_157 rfl ?_
                    refine z_iload dX11_fire_159 rfl ?_
                    refine z_idiv dX11_fire_161 (by omega) (by omega) (by omega) (by omega) ?_
                    refine h_iret dX11_fire_162 rfl rfl rfl ?_
                    exact ⟨by rw [hans, hpart], hC, fr.rf⟩
                  · omega
                refine z_iload_n dX11_fire_125 rfl ?_
                refine z_if_ne (tgt := 134) dX11_fire_126 (by decide) (by omega) (fun b126 => ?_) (fun b126 => ?_)
                · refine z_iload dX11_fire_134 rfl ?_
                  exact fin _ (by rw [if_neg (by omega)])
                · refine z_iload dX11_fire_129 rfl ?_
                  refine z_goto (tgt := 136) dX11_fire_131 (by decide) ?_
                  exact fin _ (by rw [if_pos (by omega)])
              · omega
            | succ k ih =>
              intro s hs x7
              have hft := fiT_in (b := fun p => s.testBit p) hk (α 5 3).toNat (by omega)
              have hih := ih (s + 1) (by omega) x7
              rw [suF_s, nsucc] at hih
              have eg : gaF (α 5) q c m (fun p => s.testBit p) = if fiT (α 5) (fun p => s.testBit p) (α 5 3).toNat < q then 0 else fiC c (fun p => s.testBit p) (α 5 3).toNat := by rw [hm2]; rfl
              refine z_iload dX11_fire_83 rfl ?_
              refine z_iconst dX11_fire_85 ?_
              first | refine z_aload_n dX11_fire_86 rfl ?_ | refine z_aload_nT dX11_fire_86 rfl ?_
              refine h_getr dX11_fire_87 fl_X11_26 (by first | assumption | rfl) (by rfl) ?_
              refine h_geti dX11_fire_90 fl_X11_173 (by first | assumption | rfl) (by rfl) ?_
              rw [e5, hm]
              refine z_ishl ((2 ^ m : Nat) : Int) dX11_fire_93 (shl_java m (by omega)) ?_
              refine z_icmp_ge (tgt := 125) dX11_fire_94 (by decide) (by omega) (by omega) (fun b94 => ?_) (fun b94 => ?_)
              · omega
              · first | refine z_aload_n dX11_fire_97 rfl ?_ | refine z_aload_nT dX11_fire_97 rfl ?_
                refine z_iload dX11_fire_98 rfl ?_
                refine h_Vi1 (Y' := M_X11_takenBy) dX11_fire_100 zw_624 zw_626 zs_21 rfl ok_X11_takenBy (by decide) rfl (Nat.le_of_ble_eq_true rfl) ⟨rfl, rfl⟩ (by decide) (by first | assumption | rfl) (k_takenBy hR hk (by omega)) (fun vv σ2 hq => ?_)
                obtain ⟨rfl, rfl⟩ := hq
                refine z_iload_n dX11_fire_103 rfl ?_
                refine z_icmp_lt (tgt := 119) dX11_fire_104 (by decide) (by omega) (by omega) (fun b104 => ?_) (fun b104 => ?_)
                · rw [if_pos (by omega)] at eg
                  refine z_iinc dX11_fire_119 rfl (by decide) rfl ?_
                  refine z_goto (tgt := 83) dX11_fire_122 (by decide) ?_
                  rw [eg, Int.add_zero] at hih
                  exact hih
                · rw [if_neg (by omega)] at eg
                  refine z_iload dX11_fire_107 rfl ?_
                  first | refine z_aload_n dX11_fire_109 rfl ?_ | refine z_aload_nT dX11_fire_109 rfl ?_
                  refine z_iload dX11_fire_110 rfl ?_
                  refine z_iload_n dX11_fire_112 rfl ?_
                  refine h_Vi2 (Y' := M_X11_chanceOf) dX11_fire_113 zw_628 zw_630 zs_22 rfl ok_X11_chanceOf (by decide) rfl (Nat.le_of_ble_eq_true rfl) ⟨rfl, rfl⟩ (by decide) (by first | assumption | rfl) (k_chanceOf hR hk (by omega)) (fun vv σ2 hq => ?_)
                  obtain ⟨rfl, rfl⟩ := hq
                  refine z_iadd dX11_fire_116 ?_
                  refine z_istore dX11_fire_117 (by decide) rfl ?_
                  refine z_iinc dX11_fire_119 rfl (by decide) rfl ?_
                  refine z_goto (tgt := 83) dX11_fire_122 (by decide) ?_
                  rw [eg] at hih
                  exact hih
          have loop1 : ∀ k p : Nat, p + k = m → Z rc M_X11_fire 0 0 55 [some (zR 0), some (zI q), some (zI c), some (zI w), some (zI 0), some (zI (tnF p)), some (zI (p : Int)), none] [] (hp σ2) (qI (cP σ2 α (aFire α q c w) α)) := by
            intro k
            induction k with
            | zero =>
              intro p hpk
              have : p = m := by omega
              subst this
              refine z_iload dX11_fire_55 rfl ?_
              first | refine z_aload_n dX11_fire_57 rfl ?_ | refine z_aload_nT dX11_fire_57 rfl ?_
              refine h_getr dX11_fire_58 fl_X11_26 (by first | assumption | rfl) (by rfl) ?_
              refine h_geti dX11_fire_61 fl_X11_173 (by first | assumption | rfl) (by rfl) ?_
              refine z_icmp_ge (tgt := 80) dX11_fire_64 (by decide) (by omega) (by omega) (fun b64 => ?_) (fun b64 => ?_)
              · refine z_iconst dX11_fire_80 ?_
                refine z_istore dX11_fire_81 (by decide) rfl ?_
                exact loop2 _ 0 (Nat.zero_add _) none
              · omega
            | succ k ih =>
              intro p hpk
              have hih := ih (p + 1) (by omega)
              rw [tnF_s, nsucc] at hih
              refine z_iload dX11_fire_55 rfl ?_
              first | refine z_aload_n dX11_fire_57 rfl ?_ | refine z_aload_nT dX11_fire_57 rfl ?_
              refine h_getr dX11_fire_58 fl_X11_26 (by first | assumption | rfl) (by rfl) ?_
              refine h_geti dX11_fire_61 fl_X11_173 (by first | assumption | rfl) (by rfl) ?_
              refine z_icmp_ge (tgt := 80) dX11_fire_64 (by decide) (by omega) (by omega) (fun b64 => ?_) (fun b64 => ?_)
              · omega
              · refine z_iload dX11_fire_67 rfl ?_
                refine z_bipush dX11_fire_69 rfl ?_
                refine z_imul dX11_fire_71 ?_
                refine z_istore dX11_fire_72 (by decide) rfl ?_
                refine z_iinc dX11_fire_74 rfl (by decide) rfl ?_
                refine z_goto (tgt := 55) dX11_fire_77 (by decide) ?_
                exact hih
          refine z_iconst dX11_fire_46 ?_
          refine z_istore dX11_fire_47 (by decide) rfl ?_
          refine z_iconst dX11_fire_49 ?_
          refine z_istore dX11_fire_50 (by decide) rfl ?_
          refine z_iconst dX11_fire_52 ?_
          refine z_istore dX11_fire_53 (by decide) rfl ?_
          exact loop1 _ 0 (Nat.zero_add _)
        · exact bad _ rfl (by omega) (by omega)
  · refine z_ldc (n := -1000002) dX11_fire_10 zw_417 rfl ?_
    refine h_iret dX11_fire_12 rfl rfl rfl ?_
    exact ⟨by unfold aFire; rw [if_pos (by omega)], hC, fr.rf⟩
end
