/-! fits -/
def soF (t f : Nat → Int) : Nat → Nat → Int
  | 0, _ => 1
  | n + 1, k => if tsF (gnF t k) (t 3).toNat = f k then soF t f n (k + 1) else 0
theorem soF_s {t f : Nat → Int} {n k : Nat} : soF t f (n + 1) k = if tsF (gnF t k) (t 3).toNat = f k then soF t f n (k + 1) else 0 := rfl
theorem soF_b {t f : Nat → Int} : ∀ n k, soF t f n k = 0 ∨ soF t f n k = 1
  | 0, _ => Or.inr rfl
  | n + 1, k => by
    rw [soF_s]
    split
    · exact soF_b n (k + 1)
    · exact Or.inl rfl
def bitU (x v : Int) : Int := (Int32.ofInt x ||| (Int32.ofInt 1 <<< (Int32.ofInt v &&& 31))).toInt
def fiL (g : Nat → Int) : Nat → Nat → Int → Int
  | 0, _, acc => acc
  | n + 1, v, acc => fiL g n (v + 1) (if g v = 0 then acc else bitU acc v)
theorem fiL_s {g : Nat → Int} {n v : Nat} {acc : Int} : fiL g (n + 1) v acc = fiL g n (v + 1) (if g v = 0 then acc else bitU acc v) := rfl
section
variable {rc : ZRC} {σ α : Mem}
theorem k_item {r i : Nat} (h : 40 * r + i < 320) : KI rc M_X7_item [zR 1, zI (r : Int), zI (i : Int)] σ (fun v σ' => v = σ 4 (40 * r + i) ∧ σ' = σ) := by
  have e : 40 * r + i = r * 40 + i := by omega
  rw [e]
  refine K_of 0 (by decide) (Nat.le_of_ble_eq_true rfl) (show Z _ _ 0 0 0 [some (zR 1), some (zI (r : Int)), some (zI (i : Int))] [] _ _ from ?_)
  first | refine z_aload_n dX7_item_0 rfl ?_ | refine z_aload_nT dX7_item_0 rfl ?_
  refine h_getr dX7_item_1 fl_X7_16 (by first | assumption | rfl) (by rfl) ?_
  refine z_iload_n dX7_item_4 rfl ?_
  refine z_bipush dX7_item_5 rfl ?_
  refine z_imul dX7_item_7 ?_
  refine z_iload_n dX7_item_8 rfl ?_
  refine z_iadd dX7_item_9 ?_
  first | refine h_iald dX7_item_10 (by first | assumption | rfl) (by repeat' first | apply zc_add | apply zc_mul | with_reducible exact zc_var _ | exact zc_lit _) (by omega) (by decide) ?_ | refine z_ialdT _ dX7_item_10 (by assumption) (by repeat' first | apply zc_add | apply zc_mul | with_reducible exact zc_var _ | exact zc_lit _) (by omega) (by omega) ?_
  refine h_iret dX7_item_11 rfl rfl rfl ?_
  exact ⟨rfl, rfl⟩
theorem k_isTaken {t : Nat → Int} {r i n : Nat} (hR : cR σ 13 t) (hk : cok 999 t) (h1 : 40 * r + i + n ≤ 320) (hz : ∀ j, j < 320 → zin (σ 4 j)) : KI rc M_X11_isTaken [zR 0, zI (r : Int), zI (i : Int), zI (n : Int)] σ (fun v σ' => v = soF t (fun k => σ 4 (40 * r + i + k)) n 0 ∧ fr 13 5 σ σ') := by
  have loop : ∀ m k : Nat, k + m = n → ∀ σ' : Mem, cR σ' 13 (gnF t k) → fr 13 5 σ σ' → Z rc M_X11_isTaken 0 0 3 [some (zR 0), some (zI (r : Int)), some (zI (i : Int)), some (zI (n : Int)), some (zI (k : Int))] [] (hp σ') (qI (fun v σ' => v = soF t (fun k => σ 4 (40 * r + i + k)) m k ∧ fr 13 5 σ σ')) := by
    intro m
    induction m with
    | zero =>
      intro k hk2 σ' i1 i2
      refine z_iload dX11_isTaken_3 rfl ?_
      refine z_iload_n dX11_isTaken_5 rfl ?_
      refine z_icmp_ge (tgt := 53) dX11_isTaken_6 (by decide) (by omega) (by omega) (fun b6 => ?_) (fun b6 => ?_)
      · refine z_iconst dX11_isTaken_53 ?_
        refine h_zret dX11_isTaken_54 rfl (by omega) rfl rfl ?_
        exact ⟨rfl, i2⟩
      · omega
    | succ m ih =>
      intro k hk2 σ' i1 i2
      have hg := gnF_ok hk k
      have e3 := gnF_3 (t := t) k
      have hst := stF_in (gnF t k)
      have hts := tsF_in hg (gnF t k 3).toNat (by have := hg.2.1; omega)
      rw [soF_s, ← e3]
      have hz2 := hz (40 * r + (i + k)) (by omega)
      have ez : σ' 4 (40 * r + (i + k)) = σ 4 (40 * r + (i + k)) := i2 4 _ (by omega)
      have e3b : (((gnF t k 3).toNat : Nat) : Int) = gnF t k 3 := by have := hg.2.1; omega
      have e3c := hg.2.1
      refine z_iload dX11_isTaken_3 rfl ?_
      refine z_iload_n dX11_isTaken_5 rfl ?_
      refine z_icmp_ge (tgt := 53) dX11_isTaken_6 (by decide) (by omega) (by omega) (fun b6 => ?_) (fun b6 => ?_)
      · omega
      · first | refine z_aload_n dX11_isTaken_9 rfl ?_ | refine z_aload_nT dX11_isTaken_9 rfl ?_
        refine h_getr dX11_isTaken_10 fl_X11_30 (by first | assumption | rfl) (by rfl) ?_
        refine h_Vi0 (Y' := M_X2_takeTogether) dX11_isTaken_13 zw_615 zw_438 zw_439 rfl ok_X2_takeTogether (by decide) rfl (Nat.le_of_ble_eq_true rfl) ⟨rfl, rfl⟩ (by decide) (by first | assumption | rfl) (k_takeTogether (Or.inr (Or.inl rfl)) i1 hg) (fun vv σ2 hq => ?_)
        obtain ⟨rfl, rfl⟩ := hq
        first | refine z_aload_n dX11_isTaken_16 rfl ?_ | refine z_aload_nT dX11_isTaken_16 rfl ?_
        refine h_getr dX11_isTaken_17 fl_X11_12 (by first | assumption | rfl) (by rfl) ?_
        refine z_iload_n dX11_isTaken_20 rfl ?_
        refine z_iload_n dX11_isTaken_21 rfl ?_
        refine z_iload dX11_isTaken_22 rfl ?_
        refine z_iadd dX11_isTaken_24 ?_
        have hca : ((i : Int) + (k : Int)) = ((i + k : Nat) : Int) := by omega
        rw [hca]
        refine h_Vi2 (Y' := M_X7_item) dX11_isTaken_25 zw_616 zw_617 zw_618 rfl ok_X7_item (by decide) rfl (Nat.le_of_ble_eq_true rfl) ⟨rfl, rfl⟩ (by decide) (by first | assumption | rfl) (k_item (by omega)) (fun vv σ2 hq => ?_)
        obtain ⟨rfl, rfl⟩ := hq
        rw [ez]
        have hass : 40 * r + i + k = 40 * r + (i + k) := by omega
        refine z_icmp_eq (tgt := 33) dX11_isTaken_28 (by decide) (by omega) (by omega) (fun b28 => ?_) (fun b28 => ?_)
        · rw [hass, if_pos b28]
          first | refine z_aload_n dX11_isTaken_33 rfl ?_ | refine z_aload_nT dX11_isTaken_33 rfl ?_
          refine h_getr dX11_isTaken_34 fl_X11_30 (by first | assumption | rfl) (by rfl) ?_
          first | refine z_aload_n dX11_isTaken_37 rfl ?_ | refine z_aload_nT dX11_isTaken_37 rfl ?_
          refine h_getr dX11_isTaken_38 fl_X11_30 (by first | assumption | rfl) (by rfl) ?_
          refine h_Vi0 (Y' := M_X2_storm) dX11_isTaken_41 zw_425 zw_426 zw_427 rfl ok_X2_storm (by decide) rfl (Nat.le_of_ble_eq_true rfl) ⟨rfl, rfl⟩ (by decide) (by first | assumption | rfl) (k_storm (t := gnF t k) (Or.inr (Or.inl rfl)) i1.2.2.2.2.2.2.2.2.1 i1.2.2.1 hg.2.2.2.2.2.2.2.2.1 hg.2.2.1.1 (by have := hg.2.2.1.2; omega)) (fun vv σ2 hq => ?_)
          obtain ⟨rfl, rfl⟩ := hq
          refine h_Vv1 (Y' := M_X2_pass) dX11_isTaken_44 zw_433 zw_434 zw_435 rfl ok_X2_pass (by decide) rfl (Nat.le_of_ble_eq_true rfl) ⟨rfl, rfl⟩ (by decide) (by first | assumption | rfl) (k_pass (Or.inr (Or.inl rfl)) i1 hg (by omega) hst.1 hst.2) (fun σ2 hq => ?_)
          obtain ⟨j1, j2⟩ := hq
          refine z_iinc dX11_isTaken_47 rfl (by decide) rfl ?_
          refine z_goto (tgt := 3) dX11_isTaken_50 (by decide) ?_
          have := ih (k + 1) (by omega) _ j1 (i2.tr j2)
          rw [nsucc] at this
          exact this
        · rw [hass, if_neg b28]
          refine z_iconst dX11_isTaken_31 ?_
          refine h_zret dX11_isTaken_32 rfl (by omega) rfl rfl ?_
          exact ⟨rfl, i2⟩
  refine K_of 1 (by decide) (Nat.le_of_ble_eq_true rfl) (show Z _ _ 0 0 0 [some (zR 0), some (zI (r : Int)), some (zI (i : Int)), some (zI (n : Int)), none] [] _ _ from ?_)
  refine z_iconst dX11_isTaken_0 ?_
  refine z_istore dX11_isTaken_1 (by decide) rfl ?_
  exact loop n 0 (by omega) σ hR fr.rf
theorem m_isSo {t : Nat → Int} {n : Nat} (hR : mR σ 47 t) (hk : cok 999 t) (h1 : n ≤ 16) (hz : ∀ j, j < n → zin (σ 52 j)) : KI rc M_X12_isSo [zR 40, zI (n : Int)] σ (fun v σ' => v = soF t (σ 52) n 0 ∧ fm 47 σ σ') := by
  have loop : ∀ m k : Nat, k + m = n → ∀ σ' : Mem, mR σ' 47 (gnF t k) → fm 47 σ σ' → Z rc M_X12_isSo 0 0 2 [some (zR 40), some (zI (n : Int)), some (zI (k : Int))] [] (hp σ') (qI (fun v σ' => v = soF t (σ 52) m k ∧ fm 47 σ σ')) := by
    intro m
    induction m with
    | zero =>
      intro k hk2 σ' i1 i2
      refine z_iload_n dX12_isSo_2 rfl ?_
      refine z_iload_n dX12_isSo_3 rfl ?_
      refine z_icmp_ge (tgt := 36) dX12_isSo_4 (by decide) (by omega) (by omega) (fun b4 => ?_) (fun b4 => ?_)
      · refine z_iconst dX12_isSo_36 ?_
        refine h_zret dX12_isSo_37 rfl (by omega) rfl rfl ?_
        exact ⟨rfl, i2⟩
      · omega
    | succ m ih =>
      intro k hk2 σ' i1 i2
      have hg := gnF_ok hk k
      have e3 := gnF_3 (t := t) k
      have hst := stF_in (gnF t k)
      have hts := tsF_in hg (gnF t k 3).toNat (by have := hg.2.1; omega)
      rw [soF_s, ← e3]
      have hz2 := hz k (by omega)
      have ez : σ' 52 k = σ 52 k := i2 52 _ (by omega)
      have e3b : (((gnF t k 3).toNat : Nat) : Int) = gnF t k 3 := by have := hg.2.1; omega
      have e3c := hg.2.1
      refine z_iload_n dX12_isSo_2 rfl ?_
      refine z_iload_n dX12_isSo_3 rfl ?_
      refine z_icmp_ge (tgt := 36) dX12_isSo_4 (by decide) (by omega) (by omega) (fun b4 => ?_) (fun b4 => ?_)
      · omega
      · first | refine z_aload_n dX12_isSo_7 rfl ?_ | refine z_aload_nT dX12_isSo_7 rfl ?_
        refine h_getr dX12_isSo_8 fl_X12_28 (by first | assumption | rfl) (by rfl) ?_
        refine h_Si1 (Y' := M_X12_takenIn) dX12_isSo_11 zw_956 zw_957 ok_X12_takenIn (by decide) rfl (Nat.le_of_ble_eq_true rfl) ⟨rfl, rfl⟩ (by decide) (m_takenIn rfl i1 hg) (fun vv σ2 hq => ?_)
        obtain ⟨rfl, rfl⟩ := hq
        first | refine z_aload_n dX12_isSo_14 rfl ?_ | refine z_aload_nT dX12_isSo_14 rfl ?_
        refine h_getr dX12_isSo_15 fl_X12_44 (by first | assumption | rfl) (by rfl) ?_
        refine z_iload_n dX12_isSo_18 rfl ?_
        first | refine h_iald dX12_isSo_19 (by first | assumption | rfl) (by repeat' first | apply zc_add | apply zc_mul | with_reducible exact zc_var _ | exact zc_lit _) (by omega) (by decide) ?_ | refine z_ialdT _ dX12_isSo_19 (by assumption) (by repeat' first | apply zc_add | apply zc_mul | with_reducible exact zc_var _ | exact zc_lit _) (by omega) (by omega) ?_
        rw [ez]
        refine z_icmp_eq (tgt := 25) dX12_isSo_20 (by decide) (by omega) (by omega) (fun b20 => ?_) (fun b20 => ?_)
        · rw [if_pos b20]
          first | refine z_aload_n dX12_isSo_25 rfl ?_ | refine z_aload_nT dX12_isSo_25 rfl ?_
          refine z_iconst dX12_isSo_26 ?_
          refine h_Vv1 (Y' := M_X12_goOn) dX12_isSo_27 zw_1003 zw_1005 zs_40 rfl ok_X12_goOn (by decide) rfl (Nat.le_of_ble_eq_true rfl) ⟨rfl, rfl⟩ (by decide) (by first | assumption | rfl) (m_goOn (d := 1) i1 hg (by omega) (by omega)) (fun σ2 hq => ?_)
          obtain ⟨j1, j2⟩ := hq
          refine z_iinc dX12_isSo_30 rfl (by decide) rfl ?_
          refine z_goto (tgt := 2) dX12_isSo_33 (by decide) ?_
          have := ih (k + 1) (by omega) _ j1 (i2.tr j2)
          rw [nsucc] at this
          exact this
        · rw [if_neg b20]
          refine z_iconst dX12_isSo_23 ?_
          refine h_zret dX12_isSo_24 rfl (by omega) rfl rfl ?_
          exact ⟨rfl, i2⟩
  refine K_of 1 (by decide) (Nat.le_of_ble_eq_true rfl) (show Z _ _ 0 0 0 [some (zR 40), some (zI (n : Int)), none] [] _ _ from ?_)
  refine z_iconst dX12_isSo_0 ?_
  refine z_istore_n dX12_isSo_1 (by decide) rfl ?_
  exact loop n 0 (by omega) σ hR fm.rf
/-- takeOut: the answer (0, or what is found) and the status -/
def toA (α : Mem) (r i n : Int) : Int := if α 1 r.toNat < 0 then -1000011 else if ¬ (0 ≤ i ∧ 0 ≤ n ∧ i + n ≤ α 2 r.toNat) then -1000012 else 0
theorem m_takeOut {r : Nat} {i n : Int} (hM : MI σ α) (hO : OK α) (hr : r < 8) (hi : zin i) (hn : 0 ≤ n) (hn2 : n ≤ 16) : KI rc M_X12_takeOut [zR 40, zI (r : Int), zI i, zI n] σ (fun v σ' => (α 1 r < 0 ∧ v = -1000011 ∧ σ' = zu σ 40 3 1) ∨ (¬ α 1 r < 0 ∧ ¬ (0 ≤ i ∧ 0 ≤ n ∧ i + n ≤ α 2 r) ∧ v = -1000012 ∧ σ' = zu σ 40 3 2) ∨ (¬ α 1 r < 0 ∧ (0 ≤ i ∧ 0 ≤ n ∧ i + n ≤ α 2 r) ∧ v = 0 ∧ (∀ k : Nat, (k : Int) < n → σ' 52 k = α 3 (40 * r + i.toNat + k)) ∧ fm 52 σ σ')) := by
  have e1 := hM.2.1.1 r hr
  have o1 := hO.2.1.1 r hr
  refine K_of 1 (by decide) (Nat.le_of_ble_eq_true rfl) (show Z _ _ 0 0 0 [some (zR 40), some (zI (r : Int)), some (zI i), some (zI n), none] [] _ _ from ?_)
  first | refine z_aload_n dX12_takeOut_0 rfl ?_ | refine z_aload_nT dX12_takeOut_0 rfl ?_
  refine h_getr dX12_takeOut_1 fl_X12_7 (by first | assumption | rfl) (by rfl) ?_
  refine z_iload_n dX12_takeOut_4 rfl ?_
  first | refine h_iald dX12_takeOut_5 (by first | assumption | rfl) (by repeat' first | apply zc_add | apply zc_mul | with_reducible exact zc_var _ | exact zc_lit _) (by omega) (by decide) ?_ | refine z_ialdT _ dX12_takeOut_5 (by assumption) (by repeat' first | apply zc_add | apply zc_mul | with_reducible exact zc_var _ | exact zc_lit _) (by omega) (by omega) ?_
  refine z_if_ge (tgt := 15) dX12_takeOut_6 (by decide) (by omega) (fun b6 => ?_) (fun b6 => ?_)
  · refine z_iload_n dX12_takeOut_15 rfl ?_
    refine z_iload_n dX12_takeOut_16 rfl ?_
    first | refine z_aload_n dX12_takeOut_17 rfl ?_ | refine z_aload_nT dX12_takeOut_17 rfl ?_
    refine h_getr dX12_takeOut_18 fl_X12_13 (by first | assumption | rfl) (by rfl) ?_
    refine z_iload_n dX12_takeOut_21 rfl ?_
    first | refine h_iald dX12_takeOut_22 (by first | assumption | rfl) (by repeat' first | apply zc_add | apply zc_mul | with_reducible exact zc_var _ | exact zc_lit _) (by omega) (by decide) ?_ | refine z_ialdT _ dX12_takeOut_22 (by assumption) (by repeat' first | apply zc_add | apply zc_mul | with_reducible exact zc_var _ | exact zc_lit _) (by omega) (by omega) ?_
    refine h_Si3 (Y' := M_X12_isPart) dX12_takeOut_23 zw_878 zw_879 ok_X12_isPart (by decide) rfl (Nat.le_of_ble_eq_true rfl) ⟨rfl, rfl⟩ (by decide) (m_isPart hi (by omega) (by omega) (by omega)) (fun vv σ2 hq => ?_)
    obtain ⟨hv, rfl⟩ := hq
    refine z_if_ne (tgt := 35) dX12_takeOut_26 (by decide) (by omega) (fun b26 => ?_) (fun b26 => ?_)
    · obtain ⟨i, rfl⟩ : ∃ x : Nat, i = (x : Int) := ⟨i.toNat, by omega⟩
      obtain ⟨n, rfl⟩ : ∃ x : Nat, n = (x : Int) := ⟨n.toNat, by omega⟩
      have loop : ∀ m k : Nat, k + m = n → ∀ σ' : Mem, (∀ j, j < k → σ' 52 j = α 3 (40 * r + i + j)) → fm 52 σ2 σ' → Z rc M_X12_takeOut 0 0 38 [some (zR 40), some (zI (r : Int)), some (zI (i : Int)), some (zI (n : Int)), some (zI (k : Int))] [] (hp σ') (qI (fun v σ' => v = 0 ∧ (∀ k : Nat, (k : Int) < n → σ' 52 k = α 3 (40 * r + i + k)) ∧ fm 52 σ2 σ')) := by
        intro m
        induction m with
        | zero =>
          intro k hk2 σ' i1 i2
          refine z_iload dX12_takeOut_38 rfl ?_
          refine z_iload_n dX12_takeOut_40 rfl ?_
          refine z_icmp_ge (tgt := 71) dX12_takeOut_41 (by decide) (by omega) (by omega) (fun b41 => ?_) (fun b41 => ?_)
          · refine z_iconst dX12_takeOut_71 ?_
            refine h_iret dX12_takeOut_72 rfl rfl rfl ?_
            exact ⟨rfl, fun j hj => i1 j (by omega), i2⟩
          · omega
        | succ m ih =>
          intro k hk2 σ' i1 i2
          refine z_iload dX12_takeOut_38 rfl ?_
          refine z_iload_n dX12_takeOut_40 rfl ?_
          refine z_icmp_ge (tgt := 71) dX12_takeOut_41 (by decide) (by omega) (by omega) (fun b41 => ?_) (fun b41 => ?_)
          · omega
          · first | refine z_aload_n dX12_takeOut_44 rfl ?_ | refine z_aload_nT dX12_takeOut_44 rfl ?_
            refine h_getr dX12_takeOut_45 fl_X12_44 (by first | assumption | rfl) (by rfl) ?_
            refine z_iload dX12_takeOut_48 rfl ?_
            first | refine z_aload_n dX12_takeOut_50 rfl ?_ | refine z_aload_nT dX12_takeOut_50 rfl ?_
            refine h_getr dX12_takeOut_51 fl_X12_16 (by first | assumption | rfl) (by rfl) ?_
            refine z_bipush dX12_takeOut_54 rfl ?_
            refine z_iload_n dX12_takeOut_56 rfl ?_
            refine z_imul dX12_takeOut_57 ?_
            refine z_iload_n dX12_takeOut_58 rfl ?_
            refine z_iadd dX12_takeOut_59 ?_
            refine z_iload dX12_takeOut_60 rfl ?_
            refine z_iadd dX12_takeOut_62 ?_
            first | refine h_iald dX12_takeOut_63 (by first | assumption | rfl) (by repeat' first | apply zc_add | apply zc_mul | with_reducible exact zc_var _ | exact zc_lit _) (by omega) (by decide) ?_ | refine z_ialdT _ dX12_takeOut_63 (by assumption) (by repeat' first | apply zc_add | apply zc_mul | with_reducible exact zc_var _ | exact zc_lit _) (by omega) (by omega) ?_
            refine h_iast dX12_takeOut_64 (by first | assumption | rfl) (by repeat' first | apply zc_add | apply zc_mul | with_reducible exact zc_var _ | exact zc_lit _) (by omega) (by decide) ?_
            refine z_iinc dX12_takeOut_65 rfl (by decide) rfl ?_
            refine z_goto (tgt := 38) dX12_takeOut_68 (by decide) ?_
            have := ih (k + 1) (by omega) (zu σ' 52 k (σ' 43 (40 * r + i + k))) (fun j hj => by
              by_cases hjk : j = k
              · subst hjk
                rw [zu_eq, i2 43 _ (by omega)]
                exact hM.2.1.2 _ (by omega)
              · rw [zu_j hjk]
                exact i1 j (by omega)) (fun o j h => (zu_o h).trans (i2 o j h))
            rw [nsucc] at this
            exact this
      refine z_iconst dX12_takeOut_35 ?_
      refine z_istore dX12_takeOut_36 (by decide) rfl ?_
      refine Z_mono (loop n 0 (by omega) σ2 (fun j hj => absurd hj (by omega)) fm.rf) (fun v σ' hq => ?_)
      exact Or.inr (Or.inr ⟨by omega, by omega, hq.1, hq.2.1, hq.2.2⟩)
    · first | refine z_aload_n dX12_takeOut_29 rfl ?_ | refine z_aload_nT dX12_takeOut_29 rfl ?_
      refine z_iconst dX12_takeOut_30 ?_
      refine h_Vi1 (Y' := M_X12_finds) dX12_takeOut_31 zw_861 zw_863 zs_26 rfl ok_X12_finds (by decide) rfl (Nat.le_of_ble_eq_true rfl) ⟨rfl, rfl⟩ (by decide) (by first | assumption | rfl) (m_finds) (fun vv σ2 hq => ?_)
      obtain ⟨rfl, rfl⟩ := hq
      refine h_iret dX12_takeOut_34 rfl rfl rfl ?_
      exact Or.inr (Or.inl ⟨by omega, by omega, rfl, rfl⟩)
  · first | refine z_aload_n dX12_takeOut_9 rfl ?_ | refine z_aload_nT dX12_takeOut_9 rfl ?_
    refine z_iconst dX12_takeOut_10 ?_
    refine h_Vi1 (Y' := M_X12_finds) dX12_takeOut_11 zw_861 zw_863 zs_26 rfl ok_X12_finds (by decide) rfl (Nat.le_of_ble_eq_true rfl) ⟨rfl, rfl⟩ (by decide) (by first | assumption | rfl) (m_finds) (fun vv σ2 hq => ?_)
    obtain ⟨rfl, rfl⟩ := hq
    refine h_iret dX12_takeOut_14 rfl rfl rfl ?_
    exact Or.inl ⟨by omega, rfl, rfl⟩
end
