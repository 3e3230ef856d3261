/-! JDK's Math, and the coasts' readers -/
theorem k_min {rc : ZRC} {σ : Mem} {a b : Int} (ha : zin a) (hb : zin b) : KI rc M_J9_min_7cf53 [zI a, zI b] σ (fun v σ' => v = min a b ∧ σ' = σ) := by
  refine K_ofF 0 pf_J9_min_7cf53 (Nat.le_of_ble_eq_true rfl) (show Z _ _ 0 0 0 [some (zI a), some (zI b)] [] _ _ from ?_)
  refine z_iload_n dJ9_min_7cf53_0 rfl ?_
  refine z_iload_n dJ9_min_7cf53_1 rfl ?_
  refine z_icmp_gt (tgt := 9) dJ9_min_7cf53_2 (by decide) (by omega) (by omega) (fun b2 => ?_) (fun b2 => ?_)
  · refine z_iload_n dJ9_min_7cf53_9 rfl ?_
    refine h_iret dJ9_min_7cf53_10 rfl rfl rfl ?_
    exact ⟨by omega, rfl⟩
  · refine z_iload_n dJ9_min_7cf53_5 rfl ?_
    refine z_goto (tgt := 10) dJ9_min_7cf53_6 (by decide) ?_
    refine h_iret dJ9_min_7cf53_10 rfl rfl rfl ?_
    exact ⟨by omega, rfl⟩
theorem k_max {rc : ZRC} {σ : Mem} {a b : Int} (ha : zin a) (hb : zin b) : KI rc M_J9_max_7cf53 [zI a, zI b] σ (fun v σ' => v = max a b ∧ σ' = σ) := by
  refine K_ofF 0 pf_J9_max_7cf53 (Nat.le_of_ble_eq_true rfl) (show Z _ _ 0 0 0 [some (zI a), some (zI b)] [] _ _ from ?_)
  refine z_iload_n dJ9_max_7cf53_0 rfl ?_
  refine z_iload_n dJ9_max_7cf53_1 rfl ?_
  refine z_icmp_lt (tgt := 9) dJ9_max_7cf53_2 (by decide) (by omega) (by omega) (fun b2 => ?_) (fun b2 => ?_)
  · refine z_iload_n dJ9_max_7cf53_9 rfl ?_
    refine h_iret dJ9_max_7cf53_10 rfl rfl rfl ?_
    exact ⟨by omega, rfl⟩
  · refine z_iload_n dJ9_max_7cf53_5 rfl ?_
    refine z_goto (tgt := 10) dJ9_max_7cf53_6 (by decide) ?_
    refine h_iret dJ9_max_7cf53_10 rfl rfl rfl ?_
    exact ⟨by omega, rfl⟩
theorem ztm {a b : Int} (hb : 0 < b) : a.tmod b = if 0 ≤ a ∨ a % b = 0 then a % b else a % b - b := by
  rw [Int.tmod_eq_emod]
  have e0 : (b.natAbs : Int) = b := by omega
  by_cases h : 0 ≤ a ∨ a % b = 0
  · rw [if_pos h, if_pos]
    · simp
    · rcases h with h | h
      · exact Or.inl h
      · exact Or.inr (Int.dvd_of_emod_eq_zero h)
  · rw [if_neg h, if_neg, e0]
    intro h2
    rcases h2 with h2 | h2
    · exact h (Or.inl h2)
    · exact h (Or.inr (Int.emod_eq_zero_of_dvd h2))
theorem zxor {a b : Int} (ha : zin a) (hb : zin b) (h0 : 0 ≤ b) : (Int32.ofInt a ^^^ Int32.ofInt b).toInt < 0 ↔ a < 0 := by
  have h1 : ∀ x : Int32, decide (x.toInt < 0) = x.toBitVec.msb := fun x => (BitVec.msb_eq_toInt).symm
  have h2 := h1 (Int32.ofInt a ^^^ Int32.ofInt b)
  rw [Int32.toBitVec_xor, BitVec.msb_xor, ← h1, ← h1, zin_toInt ha, zin_toInt hb] at h2
  have h3 : decide (b < 0) = false := by simp; omega
  rw [h3, Bool.xor_false] at h2
  simpa using h2
def isC (k : Nat) : Prop := k = 8 ∨ k = 13 ∨ k = 18 ∨ k = 23
theorem cs0 {k : Nat} (h : isC k) : zsh[k]? = some (.inr (2, [some (k + 1), some (k + 2), some (k + 3), some (k + 4), none, none, none, none, none, none, none, none, none])) := by rcases h with rfl | rfl | rfl | rfl <;> rfl
theorem cs1 {k : Nat} (h : isC k) : zsh[k + 1]? = some (.inl (true, 5)) := by rcases h with rfl | rfl | rfl | rfl <;> rfl
theorem cs2 {k : Nat} (h : isC k) : zsh[k + 2]? = some (.inl (true, 5)) := by rcases h with rfl | rfl | rfl | rfl <;> rfl
theorem cs3 {k : Nat} (h : isC k) : zsh[k + 3]? = some (.inl (true, 5)) := by rcases h with rfl | rfl | rfl | rfl <;> rfl
theorem cs4 {k : Nat} (h : isC k) : zsh[k + 4]? = some (.inl (true, 5)) := by rcases h with rfl | rfl | rfl | rfl <;> rfl
/-- the place to which a pier comes, the take there -/
def placeF (a lean far : Int) : Int := (a + (lean - 1) * far) % 10
def takeF (along out rnd place far : Int) : Int := if far = 0 then 0 else (place * along + far * out) % rnd
theorem placeF_in (a lean far : Int) : 0 ≤ placeF a lean far ∧ placeF a lean far ≤ 9 := by unfold placeF; omega
theorem k_placeFrom {rc : ZRC} {σ : Mem} {a lean far : Int} (h1 : 0 ≤ a) (h2 : a ≤ 100) (h3 : 0 ≤ lean) (h4 : lean ≤ 2) (h5 : 0 ≤ far) (h6 : far ≤ 1000) : KI rc M_X2_placeFrom [zI a, zI lean, zI far] σ (fun v σ' => v = placeF a lean far ∧ σ' = σ) := by
  have hm : 0 ≤ (lean + 10 - 1) * far ∧ (lean + 10 - 1) * far ≤ 11000 ∧ (lean + 10 - 1) * far = (lean - 1) * far + 10 * far := by
    have : lean = 0 ∨ lean = 1 ∨ lean = 2 := by omega
    rcases this with rfl | rfl | rfl <;> omega
  refine K_of 0 (by decide) (Nat.le_of_ble_eq_true rfl) (show Z _ _ 0 0 0 [some (zI a), some (zI lean), some (zI far)] [] _ _ from ?_)
  refine z_iload_n dX2_placeFrom_0 rfl ?_
  refine z_iload_n dX2_placeFrom_1 rfl ?_
  refine z_bipush dX2_placeFrom_2 rfl ?_
  refine z_iadd dX2_placeFrom_4 ?_
  refine z_iconst dX2_placeFrom_5 ?_
  refine z_isub dX2_placeFrom_6 ?_
  refine z_iload_n dX2_placeFrom_7 rfl ?_
  refine z_imul dX2_placeFrom_8 ?_
  refine z_iadd dX2_placeFrom_9 ?_
  refine z_bipush dX2_placeFrom_10 rfl ?_
  refine z_irem dX2_placeFrom_12 (by omega) (by omega) (by omega) (by omega) ?_
  refine h_iret dX2_placeFrom_13 rfl rfl rfl ?_
  refine ⟨?_, rfl⟩
  unfold placeF
  omega
theorem k_endOf {rc : ZRC} {σ : Mem} {k : Nat} {p : Nat} (hk : isC k) (hp : p < 5) (h1 : 0 ≤ σ (k + 2) p) (h2 : σ (k + 2) p ≤ 9) (h3 : 0 ≤ σ (k + 3) p) (h4 : σ (k + 3) p ≤ 2) (h5 : 0 ≤ σ (k + 4) p) (h6 : σ (k + 4) p ≤ 999) : KI rc M_X2_endOf [zR k, zI (p : Int)] σ (fun v σ' => v = placeF (σ (k + 2) p) (σ (k + 3) p) (σ (k + 4) p) ∧ σ' = σ) := by
  have c0 := cs0 hk
  have c2 := cs2 hk
  have c3 := cs3 hk
  have c4 := cs4 hk
  refine K_of 0 (by decide) (Nat.le_of_ble_eq_true rfl) (show Z _ _ 0 0 0 [some (zR k), some (zI (p : Int))] [] _ _ from ?_)
  first | refine z_aload_n dX2_endOf_0 rfl ?_ | refine z_aload_nT dX2_endOf_0 rfl ?_
  refine h_getr dX2_endOf_1 fl_X2_13 (by first | assumption | rfl) (by rfl) ?_
  refine z_iload_n dX2_endOf_4 rfl ?_
  first | refine h_iald dX2_endOf_5 (by first | assumption | rfl) (by repeat' first | apply zc_add | apply zc_mul | with_reducible exact zc_var _ | exact zc_lit _) (by omega) (by decide) ?_ | refine z_ialdT _ dX2_endOf_5 (by assumption) (by repeat' first | apply zc_add | apply zc_mul | with_reducible exact zc_var _ | exact zc_lit _) (by omega) (by omega) ?_
  first | refine z_aload_n dX2_endOf_6 rfl ?_ | refine z_aload_nT dX2_endOf_6 rfl ?_
  refine h_getr dX2_endOf_7 fl_X2_16 (by first | assumption | rfl) (by rfl) ?_
  refine z_iload_n dX2_endOf_10 rfl ?_
  first | refine h_iald dX2_endOf_11 (by first | assumption | rfl) (by repeat' first | apply zc_add | apply zc_mul | with_reducible exact zc_var _ | exact zc_lit _) (by omega) (by decide) ?_ | refine z_ialdT _ dX2_endOf_11 (by assumption) (by repeat' first | apply zc_add | apply zc_mul | with_reducible exact zc_var _ | exact zc_lit _) (by omega) (by omega) ?_
  first | refine z_aload_n dX2_endOf_12 rfl ?_ | refine z_aload_nT dX2_endOf_12 rfl ?_
  refine h_getr dX2_endOf_13 fl_X2_19 (by first | assumption | rfl) (by rfl) ?_
  refine z_iload_n dX2_endOf_16 rfl ?_
  first | refine h_iald dX2_endOf_17 (by first | assumption | rfl) (by repeat' first | apply zc_add | apply zc_mul | with_reducible exact zc_var _ | exact zc_lit _) (by omega) (by decide) ?_ | refine z_ialdT _ dX2_endOf_17 (by assumption) (by repeat' first | apply zc_add | apply zc_mul | with_reducible exact zc_var _ | exact zc_lit _) (by omega) (by omega) ?_
  refine h_Si3 (Y' := M_X2_placeFrom) dX2_endOf_18 zw_449 zw_450 ok_X2_placeFrom (by decide) rfl (Nat.le_of_ble_eq_true rfl) ⟨rfl, rfl⟩ (by decide) (k_placeFrom (by omega) (by omega) (by omega) (by omega) (by omega) (by omega)) (fun vv σ2 hq => ?_)
  obtain ⟨rfl, rfl⟩ := hq
  refine h_iret dX2_endOf_21 rfl rfl rfl ?_
  exact ⟨rfl, rfl⟩
theorem k_takeAt {rc : ZRC} {σ : Mem} {k : Nat} {place far : Int} (hk : isC k) (h1 : 0 ≤ place) (h2 : place ≤ 9) (h3 : 0 ≤ far) (h4 : far ≤ 999) (a1 : 0 ≤ σ k 9) (a2 : σ k 9 ≤ 9) (a3 : 0 ≤ σ k 10) (a4 : σ k 10 ≤ 9) (a5 : 1 ≤ σ k 11) (a6 : σ k 11 ≤ 30) : KI rc M_X2_takeAt [zR k, zI place, zI far] σ (fun v σ' => v = takeF (σ k 9) (σ k 10) (σ k 11) place far ∧ σ' = σ) := by
  have c0 := cs0 hk
  have m1 : 0 ≤ place * σ k 9 ∧ place * σ k 9 ≤ 81 := ⟨Int.mul_nonneg h1 a1, Int.mul_le_mul h2 a2 a1 (by omega)⟩
  have m2 : 0 ≤ far * σ k 10 ∧ far * σ k 10 ≤ 8991 := ⟨Int.mul_nonneg h3 a3, Int.mul_le_mul h4 a4 a3 (by omega)⟩
  refine K_of 0 (by decide) (Nat.le_of_ble_eq_true rfl) (show Z _ _ 0 0 0 [some (zR k), some (zI place), some (zI far)] [] _ _ from ?_)
  refine z_iload_n dX2_takeAt_0 rfl ?_
  refine z_if_eq (tgt := 11) dX2_takeAt_1 (by decide) (by omega) (fun b1 => ?_) (fun b1 => ?_)
  · refine z_iconst dX2_takeAt_11 ?_
    refine h_iret dX2_takeAt_12 rfl rfl rfl ?_
    exact ⟨by unfold takeF; rw [if_pos b1], rfl⟩
  · first | refine z_aload_n dX2_takeAt_4 rfl ?_ | refine z_aload_nT dX2_takeAt_4 rfl ?_
    refine h_geti dX2_takeAt_5 fl_X2_45 (by first | assumption | rfl) (by rfl) ?_
    refine z_if_gt (tgt := 13) dX2_takeAt_8 (by decide) (by omega) (fun b8 => ?_) (fun b8 => ?_)
    · refine z_iload_n dX2_takeAt_13 rfl ?_
      first | refine z_aload_n dX2_takeAt_14 rfl ?_ | refine z_aload_nT dX2_takeAt_14 rfl ?_
      refine h_geti dX2_takeAt_15 fl_X2_39 (by first | assumption | rfl) (by rfl) ?_
      refine z_imul dX2_takeAt_18 ?_
      refine z_iload_n dX2_takeAt_19 rfl ?_
      first | refine z_aload_n dX2_takeAt_20 rfl ?_ | refine z_aload_nT dX2_takeAt_20 rfl ?_
      refine h_geti dX2_takeAt_21 fl_X2_42 (by first | assumption | rfl) (by rfl) ?_
      refine z_imul dX2_takeAt_24 ?_
      refine z_iadd dX2_takeAt_25 ?_
      first | refine z_aload_n dX2_takeAt_26 rfl ?_ | refine z_aload_nT dX2_takeAt_26 rfl ?_
      refine h_geti dX2_takeAt_27 fl_X2_45 (by first | assumption | rfl) (by rfl) ?_
      refine z_irem dX2_takeAt_30 (by omega) (by omega) (by omega) (by omega) ?_
      refine h_iret dX2_takeAt_31 rfl rfl rfl ?_
      exact ⟨by unfold takeF; rw [if_neg b1], rfl⟩
    · omega
