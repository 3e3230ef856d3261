/-! undo, image, restore -/
def popU (α : Mem) : Mem := fun i => if i = 5 then α (10 + ((α 0 3).toNat - 1)) else if i = 0 then zup (α 0) 3 (α 0 3 - 1) else α i
theorem popU_10 {α : Mem} (j : Nat) : popU α (10 + j) = α (10 + j) := by
  unfold popU
  rw [if_neg (by omega), if_neg (by omega)]
def imgU (α : Mem) (k : Nat) : Mem := fun i => if i = 6 + k then α 5 else if i = 0 then zup (α 0) (5 + k) 1 else α i
theorem imgU_10 {α : Mem} {k : Nat} (hk : k < 2) (j : Nat) : imgU α k (10 + j) = α (10 + j) := by
  unfold imgU
  rw [if_neg (by omega), if_neg (by omega)]
def resU (α : Mem) (k : Nat) : Mem := fun i => if i = 5 then α (6 + k) else if i = 0 then zup (α 0) 3 0 else α i
theorem resU_10 {α : Mem} {k : Nat} (j : Nat) : resU α k (10 + j) = α (10 + j) := by
  unfold resU
  rw [if_neg (by omega), if_neg (by omega)]
section
variable {rc : ZRC} {σ α : Mem}
theorem k_bringBack (hC : CI σ α) (hO : OK α) (hpos : 0 < α 0 3) : KV rc M_X4_bringBack [zR 28, zR 8] σ (fun σ' => CI σ' (popU α) ∧ fr 0 40 σ σ') := by
  have hb := hO.1.2.2.2.1
  have hR := hC.2.2.2.1
  have h3 := OKc_3 hO
  obtain ⟨N, hN⟩ : ∃ N : Nat, α 0 3 = (N : Int) + 1 := ⟨(α 0 3).toNat - 1, by omega⟩
  have eN : (α 0 3).toNat - 1 = N := by omega
  obtain ⟨hkj, hsj⟩ := hO.2.2.1.2 N (by omega)
  obtain ⟨⟨b1, b2⟩, d1, ⟨c1, c2⟩, d, ⟨⟨f1, f2⟩, f3, f4⟩, ⟨k1, nx, k2, k3, k4⟩, ⟨g1, g2⟩⟩ := hC
  rw [hN] at k1 k4
  have em : ((N : Int) + 1).toNat = N + 1 := by omega
  rw [em] at k4
  obtain ⟨x, hx⟩ : ∃ x : Nat, x = (nx + 23) % 24 := ⟨_, rfl⟩
  have hx24 : x < 24 := by omega
  have ex : (nx + 24 - (N + 1) + N) % 24 = x := by omega
  obtain ⟨u0, u1, u2, up⟩ := k4 N (by omega)
  rw [ex] at u0 u1 u2 up
  obtain ⟨r4, r5, r6, r7, r8, r9, r10, r11, r12, rp⟩ := hR
  have loop : ∀ n p : Nat, p + n = (α 5 3).toNat → ∀ σ' : Mem, σ' 8 6 = α (10 + N) 0 → σ' 8 7 = α (10 + N) 1 → σ' 8 8 = α (10 + N) 2 → (∀ j, j ≠ 6 → j ≠ 7 → j ≠ 8 → σ' 8 j = σ 8 j) → (∀ q : Nat, q < p → σ' 12 q = α (10 + N) (24 + q) ∧ σ' 11 q = α (10 + N) (19 + q)) → σ' 28 1 = (x : Int) → σ' 28 2 = (N : Int) → (∀ o j, o ≠ 8 → o ≠ 11 → o ≠ 12 → o ≠ 28 → σ' o j = σ o j) →
      Z rc M_X4_bringBack 0 0 78 [some (zR 28), some (zR 8), some (zI ((13 * x : Nat) : Int)), some (zI (p : Int))] [] (hp σ') (qV (fun σ' => CI σ' (popU α) ∧ fr 0 40 σ σ')) := by
    intro n
    induction n with
    | zero =>
      intro p hpn σ' i1 i2 i3 i4 i5 i6 i7 i8
      have j5 := i4 5 (by omega) (by omega) (by omega)
      refine z_iload_n dX4_bringBack_78 rfl ?_
      first | refine z_aload_n dX4_bringBack_79 rfl ?_ | refine z_aload_nT dX4_bringBack_79 rfl ?_
      refine h_geti dX4_bringBack_80 fl_X4_31 (by first | assumption | rfl) (by rfl) ?_
      refine z_icmp_ge (tgt := 125) dX4_bringBack_83 (by decide) (by omega) (by omega) (fun b83 => ?_) (fun b83 => ?_)
      · refine h_vret dX4_bringBack_125 rfl rfl rfl ?_
        refine ⟨⟨⟨(i8 _ _ (by omega) (by omega) (by omega) (by omega)).trans b1, (i8 _ _ (by omega) (by omega) (by omega) (by omega)).trans b2⟩, d1.eq (fun o j h1 h2 => i8 o j (by omega) (by omega) (by omega) (by omega)), ⟨(i8 _ _ (by omega) (by omega) (by omega) (by omega)).trans c1, fun i hi => (i8 _ _ (by omega) (by omega) (by omega) (by omega)).trans (c2 i hi)⟩, ?_, ⟨⟨(i8 _ _ (by omega) (by omega) (by omega) (by omega)).trans f1, (i8 _ _ (by omega) (by omega) (by omega) (by omega)).trans f2⟩, fun h => cR_eq (f3 h) (fun o j h1 h2 => i8 o j (by omega) (by omega) (by omega) (by omega)), fun h => cR_eq (f4 h) (fun o j h1 h2 => i8 o j (by omega) (by omega) (by omega) (by omega))⟩, ?_, ⟨(i8 _ _ (by omega) (by omega) (by omega) (by omega)).trans g1, fun i hi => (i8 _ _ (by omega) (by omega) (by omega) (by omega)).trans (g2 i hi)⟩⟩, fun o j h => i8 o j (by omega) (by omega) (by omega) (by omega)⟩
        · show cR σ' 8 (α (10 + ((α 0 3).toNat - 1)))
          rw [eN]
          have s3 := hsj.1 3 (by omega) (by omega)
          refine ⟨?_, ?_, i1, i2, i3, ?_, ?_, fun h => ?_, ?_, fun q hq => ?_⟩
          · rw [i4 4 (by omega) (by omega) (by omega), r4]; exact (hsj.1 8 (by omega) (by omega)).symm
          · rw [i4 5 (by omega) (by omega) (by omega), r5]; exact s3.symm
          · rw [i4 9 (by omega) (by omega) (by omega), r9]; exact (hsj.1 4 (by omega) (by omega)).symm
          · rw [i4 10 (by omega) (by omega) (by omega), r10]; exact (hsj.1 5 (by omega) (by omega)).symm
          · rw [i4 11 (by omega) (by omega) (by omega), r11 ((hsj.1 8 (by omega) (by omega)).symm.trans h)]; exact (hsj.1 6 (by omega) (by omega)).symm
          · rw [i4 12 (by omega) (by omega) (by omega), r12]; exact (hsj.1 7 (by omega) (by omega)).symm
          · rw [s3] at hq
            obtain ⟨p1, p2, p3, p4⟩ := rp q hq
            obtain ⟨v1, v2⟩ := hsj.2 q hq
            obtain ⟨w1, w2⟩ := i5 q (by omega)
            exact ⟨(i8 _ _ (by omega) (by omega) (by omega) (by omega)).trans (p1.trans v1.symm), (i8 _ _ (by omega) (by omega) (by omega) (by omega)).trans (p2.trans v2.symm), w2, w1⟩
        · show Cact σ' (α 0 3 - 1) (α (10 + ((α 0 3).toNat - 1)) 3) (popU α)
          rw [eN, hN, show (N : Int) + 1 - 1 = (N : Int) by omega, hsj.1 3 (by omega) (by omega)]
          refine ⟨i7, x, hx24, i6, fun j hj => ?_⟩
          rw [popU_10, show ((N : Int)).toNat = N by omega]
          have ey : (x + 24 - N + j) % 24 = (nx + 24 - (N + 1) + j) % 24 := by omega
          rw [ey]
          obtain ⟨y0, y1, y2, yp⟩ := k4 j (by omega)
          refine ⟨(i8 _ _ (by omega) (by omega) (by omega) (by omega)).trans y0, (i8 _ _ (by omega) (by omega) (by omega) (by omega)).trans y1, (i8 _ _ (by omega) (by omega) (by omega) (by omega)).trans y2, fun q hq => ?_⟩
          obtain ⟨z1, z2⟩ := yp q hq
          exact ⟨(i8 _ _ (by omega) (by omega) (by omega) (by omega)).trans z1, (i8 _ _ (by omega) (by omega) (by omega) (by omega)).trans z2⟩
      · omega
    | succ n ih =>
      intro p hpn σ' i1 i2 i3 i4 i5 i6 i7 i8
      have j5 := i4 5 (by omega) (by omega) (by omega)
      obtain ⟨z1, z2⟩ := up p (by omega)
      refine z_iload_n dX4_bringBack_78 rfl ?_
      first | refine z_aload_n dX4_bringBack_79 rfl ?_ | refine z_aload_nT dX4_bringBack_79 rfl ?_
      refine h_geti dX4_bringBack_80 fl_X4_31 (by first | assumption | rfl) (by rfl) ?_
      refine z_icmp_ge (tgt := 125) dX4_bringBack_83 (by decide) (by omega) (by omega) (fun b83 => ?_) (fun b83 => ?_)
      · omega
      · first | refine z_aload_n dX4_bringBack_86 rfl ?_ | refine z_aload_nT dX4_bringBack_86 rfl ?_
        refine h_getr dX4_bringBack_87 fl_X4_34 (by first | assumption | rfl) (by rfl) ?_
        refine z_iload_n dX4_bringBack_90 rfl ?_
        first | refine z_aload_n dX4_bringBack_91 rfl ?_ | refine z_aload_nT dX4_bringBack_91 rfl ?_
        refine h_getr dX4_bringBack_92 fl_X4_11 (by first | assumption | rfl) (by rfl) ?_
        refine z_iload_n dX4_bringBack_95 rfl ?_
        refine z_iconst dX4_bringBack_96 ?_
        refine z_iadd dX4_bringBack_97 ?_
        refine z_iload_n dX4_bringBack_98 rfl ?_
        refine z_iadd dX4_bringBack_99 ?_
        first | refine h_iald dX4_bringBack_100 (by first | assumption | rfl) (by repeat' first | apply zc_add | apply zc_mul | with_reducible exact zc_var _ | exact zc_lit _) (by omega) (by decide) ?_ | refine z_ialdT _ dX4_bringBack_100 (by assumption) (by repeat' first | apply zc_add | apply zc_mul | with_reducible exact zc_var _ | exact zc_lit _) (by omega) (by omega) ?_
        refine h_iast dX4_bringBack_101 (by first | assumption | rfl) (by repeat' first | apply zc_add | apply zc_mul | with_reducible exact zc_var _ | exact zc_lit _) (by omega) (by decide) ?_
        first | refine z_aload_n dX4_bringBack_102 rfl ?_ | refine z_aload_nT dX4_bringBack_102 rfl ?_
        refine h_getr dX4_bringBack_103 fl_X4_37 (by first | assumption | rfl) (by rfl) ?_
        refine z_iload_n dX4_bringBack_106 rfl ?_
        first | refine z_aload_n dX4_bringBack_107 rfl ?_ | refine z_aload_nT dX4_bringBack_107 rfl ?_
        refine h_getr dX4_bringBack_108 fl_X4_11 (by first | assumption | rfl) (by rfl) ?_
        refine z_iload_n dX4_bringBack_111 rfl ?_
        refine z_bipush dX4_bringBack_112 rfl ?_
        refine z_iadd dX4_bringBack_114 ?_
        refine z_iload_n dX4_bringBack_115 rfl ?_
        refine z_iadd dX4_bringBack_116 ?_
        first | refine h_iald dX4_bringBack_117 (by first | assumption | rfl) (by repeat' first | apply zc_add | apply zc_mul | with_reducible exact zc_var _ | exact zc_lit _) (by omega) (by decide) ?_ | refine z_ialdT _ dX4_bringBack_117 (by assumption) (by repeat' first | apply zc_add | apply zc_mul | with_reducible exact zc_var _ | exact zc_lit _) (by omega) (by omega) ?_
        refine h_iast dX4_bringBack_118 (by first | assumption | rfl) (by repeat' first | apply zc_add | apply zc_mul | with_reducible exact zc_var _ | exact zc_lit _) (by omega) (by decide) ?_
        refine z_iinc dX4_bringBack_119 rfl (by decide) rfl ?_
        refine z_goto (tgt := 78) dX4_bringBack_122 (by decide) ?_
        have g1 : σ' 29 (13 * x + 3 + p) = α (10 + N) (24 + p) := (i8 _ _ (by omega) (by omega) (by omega) (by omega)).trans z1
        rw [g1]
        have g2 : zu σ' 12 p (α (10 + N) (24 + p)) 29 (13 * x + 8 + p) = α (10 + N) (19 + p) := by rw [zu_o (by omega)]; exact (i8 _ _ (by omega) (by omega) (by omega) (by omega)).trans z2
        rw [g2]
        have h9 := ih (p + 1) (by omega) (zu (zu σ' 12 p (α (10 + N) (24 + p))) 11 p (α (10 + N) (19 + p))) (by rw [zu_o (by omega), zu_o (by omega)]; exact i1) (by rw [zu_o (by omega), zu_o (by omega)]; exact i2) (by rw [zu_o (by omega), zu_o (by omega)]; exact i3) (fun j h1 h2 h3 => by rw [zu_o (by omega), zu_o (by omega)]; exact i4 j h1 h2 h3) (fun q hq => by
          by_cases hqp : q = p
          · subst hqp
            rw [zu_o (by omega), zu_eq, zu_eq]
            exact ⟨rfl, rfl⟩
          · rw [zu_j hqp, zu_j hqp, zu_j hqp, zu_j hqp]
            exact i5 q (by omega)) (by rw [zu_o (by omega), zu_o (by omega)]; exact i6) (by rw [zu_o (by omega), zu_o (by omega)]; exact i7) (fun o j h1 h2 h3 h4 => by rw [zu_o h2, zu_o h3]; exact i8 o j h1 h2 h3 h4)
        rw [nsucc] at h9
        exact h9
  refine K_of 2 (by decide) (Nat.le_of_ble_eq_true rfl) (show Z _ _ 0 0 0 [some (zR 28), some (zR 8), none, none] [] _ _ from ?_)
  first | refine z_aload_n dX4_bringBack_0 rfl ?_ | refine z_aload_nT dX4_bringBack_0 rfl ?_
  refine h_geti dX4_bringBack_1 fl_X4_19 (by first | assumption | rfl) (by rfl) ?_
  refine z_if_ne (tgt := 8) dX4_bringBack_4 (by decide) (by omega) (fun b4 => ?_) (fun b4 => ?_)
  · first | refine z_aload_n dX4_bringBack_8 rfl ?_ | refine z_aload_nT dX4_bringBack_8 rfl ?_
    first | refine z_aload_n dX4_bringBack_9 rfl ?_ | refine z_aload_nT dX4_bringBack_9 rfl ?_
    refine h_geti dX4_bringBack_10 fl_X4_15 (by first | assumption | rfl) (by rfl) ?_
    refine z_bipush dX4_bringBack_13 rfl ?_
    refine z_iadd dX4_bringBack_15 ?_
    refine z_iconst dX4_bringBack_16 ?_
    refine z_isub dX4_bringBack_17 ?_
    refine z_bipush dX4_bringBack_18 rfl ?_
    refine z_irem dX4_bringBack_20 (by omega) (by omega) (by omega) (by omega) ?_
    refine h_puti dX4_bringBack_21 fp_X4_15 (by first | assumption | rfl) (by rfl) ?_
    rw [k3]
    have ex2 : ((nx : Int) + 24 - 1) % 24 = (x : Int) := by omega
    rw [ex2]
    first | refine z_aload_n dX4_bringBack_24 rfl ?_ | refine z_aload_nT dX4_bringBack_24 rfl ?_
    refine z_dup dX4_bringBack_25 rfl ?_
    refine h_geti dX4_bringBack_26 fl_X4_19 (by first | assumption | rfl) (by rfl) ?_
    refine z_iconst dX4_bringBack_29 ?_
    refine z_isub dX4_bringBack_30 ?_
    refine h_puti dX4_bringBack_31 fp_X4_19 (by first | assumption | rfl) (by rfl) ?_
    have g1 : zu σ 28 1 (x : Int) 28 2 = (N : Int) + 1 := by rw [zu_j (by omega), k1]
    rw [g1, show (N : Int) + 1 - 1 = (N : Int) by omega]
    first | refine z_aload_n dX4_bringBack_34 rfl ?_ | refine z_aload_nT dX4_bringBack_34 rfl ?_
    refine h_geti dX4_bringBack_35 fl_X4_15 (by first | assumption | rfl) (by rfl) ?_
    have g2 : zu (zu σ 28 1 (x : Int)) 28 2 (N : Int) 28 1 = (x : Int) := by rw [zu_j (by omega), zu_eq]
    rw [g2]
    refine z_bipush dX4_bringBack_38 rfl ?_
    refine z_imul dX4_bringBack_40 ?_
    rw [show (x : Int) * 13 = ((13 * x : Nat) : Int) by omega]
    refine z_istore_n dX4_bringBack_41 (by decide) rfl ?_
    first | refine z_aload_n dX4_bringBack_42 rfl ?_ | refine z_aload_nT dX4_bringBack_42 rfl ?_
    first | refine z_aload_n dX4_bringBack_43 rfl ?_ | refine z_aload_nT dX4_bringBack_43 rfl ?_
    refine h_getr dX4_bringBack_44 fl_X4_11 (by first | assumption | rfl) (by rfl) ?_
    refine z_iload_n dX4_bringBack_47 rfl ?_
    first | refine h_iald dX4_bringBack_48 (by first | assumption | rfl) (by repeat' first | apply zc_add | apply zc_mul | with_reducible exact zc_var _ | exact zc_lit _) (by omega) (by decide) ?_ | refine z_ialdT _ dX4_bringBack_48 (by assumption) (by repeat' first | apply zc_add | apply zc_mul | with_reducible exact zc_var _ | exact zc_lit _) (by omega) (by omega) ?_
    refine h_puti dX4_bringBack_49 fp_X4_22 (by first | assumption | rfl) (by rfl) ?_
    first | refine z_aload_n dX4_bringBack_52 rfl ?_ | refine z_aload_nT dX4_bringBack_52 rfl ?_
    first | refine z_aload_n dX4_bringBack_53 rfl ?_ | refine z_aload_nT dX4_bringBack_53 rfl ?_
    refine h_getr dX4_bringBack_54 fl_X4_11 (by first | assumption | rfl) (by rfl) ?_
    refine z_iload_n dX4_bringBack_57 rfl ?_
    refine z_iconst dX4_bringBack_58 ?_
    refine z_iadd dX4_bringBack_59 ?_
    first | refine h_iald dX4_bringBack_60 (by first | assumption | rfl) (by repeat' first | apply zc_add | apply zc_mul | with_reducible exact zc_var _ | exact zc_lit _) (by omega) (by decide) ?_ | refine z_ialdT _ dX4_bringBack_60 (by assumption) (by repeat' first | apply zc_add | apply zc_mul | with_reducible exact zc_var _ | exact zc_lit _) (by omega) (by omega) ?_
    refine h_puti dX4_bringBack_61 fp_X4_25 (by first | assumption | rfl) (by rfl) ?_
    first | refine z_aload_n dX4_bringBack_64 rfl ?_ | refine z_aload_nT dX4_bringBack_64 rfl ?_
    first | refine z_aload_n dX4_bringBack_65 rfl ?_ | refine z_aload_nT dX4_bringBack_65 rfl ?_
    refine h_getr dX4_bringBack_66 fl_X4_11 (by first | assumption | rfl) (by rfl) ?_
    refine z_iload_n dX4_bringBack_69 rfl ?_
    refine z_iconst dX4_bringBack_70 ?_
    refine z_iadd dX4_bringBack_71 ?_
    first | refine h_iald dX4_bringBack_72 (by first | assumption | rfl) (by repeat' first | apply zc_add | apply zc_mul | with_reducible exact zc_var _ | exact zc_lit _) (by omega) (by decide) ?_ | refine z_ialdT _ dX4_bringBack_72 (by assumption) (by repeat' first | apply zc_add | apply zc_mul | with_reducible exact zc_var _ | exact zc_lit _) (by omega) (by omega) ?_
    refine h_puti dX4_bringBack_73 fp_X4_28 (by first | assumption | rfl) (by rfl) ?_
    refine z_iconst dX4_bringBack_76 ?_
    refine z_istore_n dX4_bringBack_77 (by decide) rfl ?_
    have z29 : ∀ (τ : Mem) (o j : Nat) (y : Int) (i : Nat), o ≠ 29 → zu τ o j y 29 i = τ 29 i := fun τ o j y i h => zu_o (by omega)
    refine loop _ 0 (Nat.zero_add _) _ ?_ ?_ ?_ (fun j h1 h2 h3 => ?_) (fun q hq => by omega) ?_ ?_ (fun o j h1 h2 h3 h4 => by rw [zu_o h1, zu_o h1, zu_o h1, zu_o h4, zu_o h4])
    · rw [zu_j (by omega), zu_j (by omega), zu_eq, z29 _ _ _ _ _ (by omega), z29 _ _ _ _ _ (by omega), u0]
    · rw [zu_j (by omega), zu_eq, z29 _ _ _ _ _ (by omega), z29 _ _ _ _ _ (by omega), z29 _ _ _ _ _ (by omega), u1]
    · rw [zu_eq, z29 _ _ _ _ _ (by omega), z29 _ _ _ _ _ (by omega), z29 _ _ _ _ _ (by omega), z29 _ _ _ _ _ (by omega), u2]
    · rw [zu_j h3, zu_j h2, zu_j h1, zu_o (by omega), zu_o (by omega)]
    · rw [zu_o (by omega), zu_o (by omega), zu_o (by omega), zu_j (by omega), zu_eq]
    · rw [zu_o (by omega), zu_o (by omega), zu_o (by omega), zu_eq]
  · omega
def aUndo (α : Mem) : Int := if α 0 3 = 0 then STATE else α 0 3 - 1
def nUndo (α : Mem) : Mem := if α 0 3 = 0 then α else popU α
theorem c_undo (hC : CI σ α) (hO : OK α) : KI rc M_X11_undo [zR 0] σ (cP σ α (aUndo α) (nUndo α)) := by
  have hb := hO.1.2.2.2.1
  have e := hC.2.2.2.2.2.1.1
  refine K_of 0 (by decide) (Nat.le_of_ble_eq_true rfl) (show Z _ _ 0 0 0 [some (zR 0)] [] _ _ from ?_)
  first | refine z_aload_n dX11_undo_0 rfl ?_ | refine z_aload_nT dX11_undo_0 rfl ?_
  refine h_getr dX11_undo_1 fl_X11_42 (by first | assumption | rfl) (by rfl) ?_
  refine h_Vi0 (Y' := M_X4_size) dX11_undo_4 zw_488 zw_489 zw_490 rfl ok_X4_size (by decide) rfl (Nat.le_of_ble_eq_true rfl) ⟨rfl, rfl⟩ (by decide) (by first | assumption | rfl) (k_psize) (fun vv σ2 hq => ?_)
  obtain ⟨rfl, rfl⟩ := hq
  refine z_if_ne (tgt := 13) dX11_undo_7 (by decide) (by omega) (fun b7 => ?_) (fun b7 => ?_)
  · first | refine z_aload_n dX11_undo_13 rfl ?_ | refine z_aload_nT dX11_undo_13 rfl ?_
    refine h_getr dX11_undo_14 fl_X11_42 (by first | assumption | rfl) (by rfl) ?_
    first | refine z_aload_n dX11_undo_17 rfl ?_ | refine z_aload_nT dX11_undo_17 rfl ?_
    refine h_getr dX11_undo_18 fl_X11_26 (by first | assumption | rfl) (by rfl) ?_
    refine h_Vv1 (Y' := M_X4_bringBack) dX11_undo_21 zw_492 zw_493 zw_494 rfl ok_X4_bringBack (by decide) rfl (Nat.le_of_ble_eq_true rfl) ⟨rfl, rfl⟩ (by decide) (by first | assumption | rfl) (k_bringBack hC hO (by omega)) (fun σ2 hq => ?_)
    obtain ⟨j1, j2⟩ := hq
    first | refine z_aload_n dX11_undo_24 rfl ?_ | refine z_aload_nT dX11_undo_24 rfl ?_
    refine h_getr dX11_undo_25 fl_X11_42 (by first | assumption | rfl) (by rfl) ?_
    refine h_Vi0 (Y' := M_X4_size) dX11_undo_28 zw_488 zw_489 zw_490 rfl ok_X4_size (by decide) rfl (Nat.le_of_ble_eq_true rfl) ⟨rfl, rfl⟩ (by decide) (by first | assumption | rfl) (k_psize) (fun vv σ2 hq => ?_)
    obtain ⟨rfl, rfl⟩ := hq
    refine h_iret dX11_undo_31 rfl rfl rfl ?_
    exact ⟨by unfold aUndo; rw [if_neg (by omega)]; exact j1.2.2.2.2.2.1.1, by unfold nUndo; rw [if_neg (by omega)]; exact j1, j2⟩
  · refine z_ldc (n := -1000002) dX11_undo_10 zw_417 rfl ?_
    refine h_iret dX11_undo_12 rfl rfl rfl ?_
    exact ⟨by unfold aUndo; rw [if_pos (by omega)], by unfold nUndo; rw [if_pos (by omega)]; exact hC, fr.rf⟩
theorem r_undo (hM : MI σ α) (hO : OK α) : KI rc M_X12_undo [zR 40] σ (mP σ α (aUndo α) (nUndo α)) := by
  have hb := hO.1.2.2.2.1
  have e := hM.2.2.2.2.2.1.1
  refine K_of 0 (by decide) (Nat.le_of_ble_eq_true rfl) (show Z _ _ 0 0 0 [some (zR 40)] [] _ _ from ?_)
  first | refine z_aload_n dX12_undo_0 rfl ?_ | refine z_aload_nT dX12_undo_0 rfl ?_
  refine h_geti dX12_undo_1 fl_X12_133 (by first | assumption | rfl) (by rfl) ?_
  refine z_if_ne (tgt := 10) dX12_undo_4 (by decide) (by omega) (fun b4 => ?_) (fun b4 => ?_)
  · obtain ⟨N, hN⟩ : ∃ N : Nat, α 0 3 = (N : Int) + 1 := ⟨(α 0 3).toNat - 1, by omega⟩
    have eN : (α 0 3).toNat - 1 = N := by omega
    first | refine z_aload_n dX12_undo_10 rfl ?_ | refine z_aload_nT dX12_undo_10 rfl ?_
    refine z_dup dX12_undo_11 rfl ?_
    refine h_geti dX12_undo_12 fl_X12_133 (by first | assumption | rfl) (by rfl) ?_
    refine z_iconst dX12_undo_15 ?_
    refine z_isub dX12_undo_16 ?_
    refine h_puti dX12_undo_17 fp_X12_133 (by first | assumption | rfl) (by rfl) ?_
    rw [e, hN, show (N : Int) + 1 - 1 = (N : Int) by omega]
    first | refine z_aload_n dX12_undo_20 rfl ?_ | refine z_aload_nT dX12_undo_20 rfl ?_
    refine h_getr dX12_undo_21 fl_X12_38 (by first | assumption | rfl) (by rfl) ?_
    refine z_bipush dX12_undo_24 rfl ?_
    first | refine z_aload_n dX12_undo_26 rfl ?_ | refine z_aload_nT dX12_undo_26 rfl ?_
    refine h_geti dX12_undo_27 fl_X12_133 (by first | assumption | rfl) (by rfl) ?_
    rw [zu_eq]
    refine z_imul dX12_undo_30 ?_
    first | refine z_aload_n dX12_undo_31 rfl ?_ | refine z_aload_nT dX12_undo_31 rfl ?_
    refine h_getr dX12_undo_32 fl_X12_22 (by first | assumption | rfl) (by rfl) ?_
    refine z_iconst dX12_undo_35 ?_
    rw [show (29 : Int) * (N : Int) = ((29 * N : Nat) : Int) by omega]
    refine h_Sv4 (Y' := M_X12_lay) dX12_undo_36 zw_930 zw_931 ok_X12_lay (by decide) rfl (Nat.le_of_ble_eq_true rfl) ⟨rfl, rfl⟩ (by decide) (m_lay (f := 29 * N) (g := 0) (a := 50) (b := 45) rfl rfl (by decide) (by omega) (by decide) (by decide) (by decide)) (fun σ2 hq => ?_)
    obtain ⟨h1, h2, h3⟩ := hq
    first | refine z_aload_n dX12_undo_39 rfl ?_ | refine z_aload_nT dX12_undo_39 rfl ?_
    refine h_geti dX12_undo_40 fl_X12_133 (by first | assumption | rfl) (by rfl) ?_
    refine h_iret dX12_undo_43 rfl rfl rfl ?_
    have z : ∀ o j, o ≠ 45 → ¬ (o = 40 ∧ j = 18) → σ2 o j = σ o j := fun o j k1 k2 => by
      rw [h3 _ _ k1]
      by_cases ho : o = 40
      · subst ho
        exact zu_j (by omega)
      · exact zu_o ho
    have e18 : σ2 40 18 = (N : Int) := by rw [h3 _ _ (by omega), zu_eq]
    refine ⟨by unfold aUndo; rw [if_neg (by omega), e18]; omega, ?_, fun o j h => z o j (by omega) (by omega)⟩
    unfold nUndo
    rw [if_neg (by omega)]
    obtain ⟨⟨b1, b2⟩, ⟨d1, d2⟩, ⟨c1, c2⟩, d, ⟨⟨f1, f2⟩, f3, f4⟩, ⟨k1, k2⟩, ⟨g1, g2⟩⟩ := hM
    refine ⟨⟨(z _ _ (by omega) (by omega)).trans b1, (z _ _ (by omega) (by omega)).trans b2⟩, ⟨fun r hr => ⟨(z _ _ (by omega) (by omega)).trans (d1 r hr).1, (z _ _ (by omega) (by omega)).trans (d1 r hr).2⟩, fun i hi => (z _ _ (by omega) (by omega)).trans (d2 i hi)⟩, ⟨(z _ _ (by omega) (by omega)).trans c1, fun i hi => (z _ _ (by omega) (by omega)).trans (c2 i hi)⟩, fun i hi => ?_, ⟨⟨(z _ _ (by omega) (by omega)).trans f1, (z _ _ (by omega) (by omega)).trans f2⟩, fun h i hi => (z _ _ (by omega) (by omega)).trans (f3 h i hi), fun h i hi => (z _ _ (by omega) (by omega)).trans (f4 h i hi)⟩, ⟨?_, fun j hj i hi => ?_⟩, ⟨(z _ _ (by omega) (by omega)).trans g1, fun i hi => (z _ _ (by omega) (by omega)).trans (g2 i hi)⟩⟩
    · have q := h1 i hi
      rw [Nat.zero_add, zu_o (by omega), k2 N (by omega) i hi] at q
      show σ2 45 i = α (10 + ((α 0 3).toNat - 1)) i
      rw [eN]
      exact q
    · rw [e18]
      show (N : Int) = α 0 3 - 1
      omega
    · have hj : (j : Int) < α 0 3 - 1 := hj
      rw [popU_10]
      exact (z _ _ (by omega) (by omega)).trans (k2 j (by omega) i hi)
  · refine z_ldc (n := -1000002) dX12_undo_7 zw_945 rfl ?_
    refine h_iret dX12_undo_9 rfl rfl rfl ?_
    exact ⟨by unfold aUndo; rw [if_pos (by omega)], by unfold nUndo; rw [if_pos (by omega)]; exact hM, fr.rf⟩
theorem c_imageOf {k : Nat} (hk : k < 2) : KR rc M_X11_imageOf [zR 0, zI (k : Int)] σ (fun o σ' => o = 18 + 5 * k ∧ σ' = σ) := by
  refine K_of 0 (by decide) (Nat.le_of_ble_eq_true rfl) (show Z _ _ 0 0 0 [some (zR 0), some (zI (k : Int))] [] _ _ from ?_)
  refine z_iload_n dX11_imageOf_0 rfl ?_
  refine z_if_ne (tgt := 11) dX11_imageOf_1 (by decide) (by omega) (fun b1 => ?_) (fun b1 => ?_)
  · first | refine z_aload_n dX11_imageOf_11 rfl ?_ | refine z_aload_nT dX11_imageOf_11 rfl ?_
    refine h_getr dX11_imageOf_12 fl_X11_36 (by first | assumption | rfl) (by rfl) ?_
    refine h_aret dX11_imageOf_15 rfl rfl rfl ?_
    exact ⟨by omega, rfl⟩
  · first | refine z_aload_n dX11_imageOf_4 rfl ?_ | refine z_aload_nT dX11_imageOf_4 rfl ?_
    refine h_getr dX11_imageOf_5 fl_X11_33 (by first | assumption | rfl) (by rfl) ?_
    refine z_goto (tgt := 15) dX11_imageOf_8 (by decide) ?_
    refine h_aret dX11_imageOf_15 rfl rfl rfl ?_
    exact ⟨by omega, rfl⟩
def aImage (α : Mem) (k : Int) : Int := if ¬ (0 ≤ k ∧ k ≤ 1) then BAD else if α 5 8 = 0 then STATE else 1
def nImage (α : Mem) (k : Int) : Mem := if ¬ (0 ≤ k ∧ k ≤ 1) then α else if α 5 8 = 0 then α else imgU α k.toNat
theorem c_image {k : Int} (hC : CI σ α) (hO : OK α) (hk : zin k) : KI rc M_X11_image [zR 0, zI k] σ (cP σ α (aImage α k) (nImage α k)) := by
  have h8 := OKc_8 hO
  have h3 := OKc_3 hO
  obtain ⟨e4, e5, e6, e7, e8, e12⟩ := CI_8 hC
  refine K_of 0 (by decide) (Nat.le_of_ble_eq_true rfl) (show Z _ _ 0 0 0 [some (zR 0), some (zI k)] [] _ _ from ?_)
  refine z_iload_n dX11_image_0 rfl ?_
  refine z_iconst dX11_image_1 ?_
  refine z_iconst dX11_image_2 ?_
  refine h_Si3 (Y' := M_X11_isWithin) dX11_image_3 zw_265 zw_266 ok_X11_isWithin (by decide) rfl (Nat.le_of_ble_eq_true rfl) ⟨rfl, rfl⟩ (by decide) (c_within hk (by omega) (by omega)) (fun vv σ2 hq => ?_)
  obtain ⟨hv, rfl⟩ := hq
  refine z_if_ne (tgt := 12) dX11_image_6 (by decide) (by omega) (fun b6 => ?_) (fun b6 => ?_)
  · obtain ⟨q, rfl⟩ : ∃ p : Nat, k = (p : Int) := ⟨k.toNat, by omega⟩
    first | refine z_aload_n dX11_image_12 rfl ?_ | refine z_aload_nT dX11_image_12 rfl ?_
    refine h_getr dX11_image_13 fl_X11_26 (by first | assumption | rfl) (by rfl) ?_
    refine h_geti dX11_image_16 fl_X11_176 (by first | assumption | rfl) (by rfl) ?_
    refine z_if_ne (tgt := 25) dX11_image_19 (by decide) (by omega) (fun b19 => ?_) (fun b19 => ?_)
    · first | refine z_aload_n dX11_image_25 rfl ?_ | refine z_aload_nT dX11_image_25 rfl ?_
      refine z_iload_n dX11_image_26 rfl ?_
      refine h_Vr1 (Y' := M_X11_imageOf) dX11_image_27 zw_656 zw_658 zs_24 rfl ok_X11_imageOf (by decide) rfl (Nat.le_of_ble_eq_true rfl) ⟨rfl, rfl⟩ (by decide) (by first | assumption | rfl) (c_imageOf (k := q) (by omega)) (fun vv σ2 hq => ?_)
      obtain ⟨rfl, rfl⟩ := hq
      obtain ⟨σ1, rfl⟩ : ∃ z, z = σ2 := ⟨_, rfl⟩
      have hs : zsh[18 + 5 * q]? = some (.inr (2, [some (18 + 5 * q + 1), some (18 + 5 * q + 2), some (18 + 5 * q + 3), some (18 + 5 * q + 4), none, none, none, none, none, none, none, none, none])) := cs0 (by unfold isC; omega)
      first | refine z_aload_n dX11_image_30 rfl ?_ | refine z_aload_nT dX11_image_30 rfl ?_
      refine h_getr dX11_image_31 fl_X11_26 (by first | assumption | rfl) (by rfl) ?_
      refine h_Vv1 (Y' := M_X2_become) dX11_image_34 zw_401 zw_402 zw_403 rfl ok_X2_become (by decide) rfl (Nat.le_of_ble_eq_true rfl) ⟨rfl, rfl⟩ (by decide) (by first | assumption | rfl) (k_become (t := α 5) (by unfold isC; omega) (Or.inl rfl) (by omega) hC.2.2.2.1 h3 h8) (fun σ2 hq => ?_)
      obtain ⟨j1, j2⟩ := hq
      refine z_iconst dX11_image_37 ?_
      refine h_iret dX11_image_38 rfl rfl rfl ?_
      refine ⟨by unfold aImage; rw [if_neg (by omega), if_neg (by omega)], ?_, fun o j h => j2 o j (by omega)⟩
      unfold nImage
      rw [if_neg (by omega), if_neg (by omega)]
      obtain ⟨⟨b1, b2⟩, d1, ⟨c1, c2⟩, d, ⟨⟨f1, f2⟩, f3, f4⟩, f, ⟨g1, g2⟩⟩ := hC
      have z : ∀ o j, (o < 18 ∨ 28 ≤ o) → σ2 o j = σ1 o j := fun o j h => j2 o j (by omega)
      have hq2 : q = 0 ∨ q = 1 := by omega
      rcases hq2 with rfl | rfl
      · exact ⟨⟨(z _ _ (by omega)).trans b1, (z _ _ (by omega)).trans b2⟩, d1.eq (fun o j h1 h2 => z o j (by omega)), ⟨(z _ _ (by omega)).trans c1, fun i hi => (z _ _ (by omega)).trans (c2 i hi)⟩, cR_eq d (fun o j h1 h2 => z o j (by omega)), ⟨⟨j1.1.trans (show α 5 8 = (1 : Int) by omega), (j2 _ _ (by omega)).trans f2⟩, fun _ => j1, fun h => cR_eq (f4 h) (fun o j h1 h2 => j2 o j (by omega))⟩, (f.eq (fun o j h1 h2 => z o j (by omega))).congr (imgU_10 (by omega)), ⟨(z _ _ (by omega)).trans g1, fun i hi => (z _ _ (by omega)).trans (g2 i hi)⟩⟩
      · exact ⟨⟨(z _ _ (by omega)).trans b1, (z _ _ (by omega)).trans b2⟩, d1.eq (fun o j h1 h2 => z o j (by omega)), ⟨(z _ _ (by omega)).trans c1, fun i hi => (z _ _ (by omega)).trans (c2 i hi)⟩, cR_eq d (fun o j h1 h2 => z o j (by omega)), ⟨⟨(j2 _ _ (by omega)).trans f1, j1.1.trans (show α 5 8 = (1 : Int) by omega)⟩, fun h => cR_eq (f3 h) (fun o j h1 h2 => j2 o j (by omega)), fun _ => j1⟩, (f.eq (fun o j h1 h2 => z o j (by omega))).congr (imgU_10 (by omega)), ⟨(z _ _ (by omega)).trans g1, fun i hi => (z _ _ (by omega)).trans (g2 i hi)⟩⟩
    · refine z_ldc (n := -1000002) dX11_image_22 zw_417 rfl ?_
      refine h_iret dX11_image_24 rfl rfl rfl ?_
      exact ⟨by unfold aImage; rw [if_neg (by omega), if_pos (by omega)], by unfold nImage; rw [if_neg (by omega), if_pos (by omega)]; exact hC, fr.rf⟩
  · refine z_ldc (n := -1000001) dX11_image_9 zw_268 rfl ?_
    refine h_iret dX11_image_11 rfl rfl rfl ?_
    exact ⟨by unfold aImage; rw [if_pos (by omega)], by unfold nImage; rw [if_pos (by omega)]; exact hC, fr.rf⟩
theorem r_image {k : Int} (hM : MI σ α) (hO : OK α) (hk : zin k) : KI rc M_X12_image [zR 40, zI k] σ (mP σ α (aImage α k) (nImage α k)) := by
  have h8 := OKc_8 hO
  have hR := hM.2.2.2.1
  refine K_of 0 (by decide) (Nat.le_of_ble_eq_true rfl) (show Z _ _ 0 0 0 [some (zR 40), some (zI k)] [] _ _ from ?_)
  refine z_iload_n dX12_image_0 rfl ?_
  refine z_iconst dX12_image_1 ?_
  refine z_iconst dX12_image_2 ?_
  refine h_Si3 (Y' := M_X12_in) dX12_image_3 zw_857 zw_858 ok_X12_in (by decide) rfl (Nat.le_of_ble_eq_true rfl) ⟨rfl, rfl⟩ (by decide) (m_within hk (by omega) (by omega)) (fun vv σ2 hq => ?_)
  obtain ⟨hv, rfl⟩ := hq
  refine z_if_ne (tgt := 12) dX12_image_6 (by decide) (by omega) (fun b6 => ?_) (fun b6 => ?_)
  · obtain ⟨q, rfl⟩ : ∃ p : Nat, k = (p : Int) := ⟨k.toNat, by omega⟩
    first | refine z_aload_n dX12_image_12 rfl ?_ | refine z_aload_nT dX12_image_12 rfl ?_
    refine h_Vi0 (Y' := M_X12_isCoast) dX12_image_13 zw_941 zw_943 zs_36 rfl ok_X12_isCoast (by decide) rfl (Nat.le_of_ble_eq_true rfl) ⟨rfl, rfl⟩ (by decide) (by first | assumption | rfl) (m_isCoast (hR 8 (by omega)) h8) (fun vv σ2 hq => ?_)
    obtain ⟨rfl, rfl⟩ := hq
    obtain ⟨σ1, rfl⟩ : ∃ z, z = σ2 := ⟨_, rfl⟩
    refine z_if_ne (tgt := 22) dX12_image_16 (by decide) (by omega) (fun b16 => ?_) (fun b16 => ?_)
    · first | refine z_aload_n dX12_image_22 rfl ?_ | refine z_aload_nT dX12_image_22 rfl ?_
      refine h_getr dX12_image_23 fl_X12_22 (by first | assumption | rfl) (by rfl) ?_
      refine z_iconst dX12_image_26 ?_
      first | refine z_aload_n dX12_image_27 rfl ?_ | refine z_aload_nT dX12_image_27 rfl ?_
      refine h_getr dX12_image_28 fl_X12_31 (by first | assumption | rfl) (by rfl) ?_
      refine z_bipush dX12_image_31 rfl ?_
      refine z_iload_n dX12_image_33 rfl ?_
      refine z_imul dX12_image_34 ?_
      rw [show (29 : Int) * (q : Int) = ((29 * q : Nat) : Int) by omega]
      refine h_Sv4 (Y' := M_X12_lay) dX12_image_35 zw_930 zw_931 ok_X12_lay (by decide) rfl (Nat.le_of_ble_eq_true rfl) ⟨rfl, rfl⟩ (by decide) (m_lay (f := 0) (g := 29 * q) (a := 45) (b := 48) rfl rfl (by decide) (by decide) (by omega) (by decide) (by decide)) (fun σ2 hq => ?_)
      obtain ⟨h1, h2, h3⟩ := hq
      first | refine z_aload_n dX12_image_38 rfl ?_ | refine z_aload_nT dX12_image_38 rfl ?_
      refine h_getr dX12_image_39 fl_X12_34 (by first | assumption | rfl) (by rfl) ?_
      refine z_iload_n dX12_image_42 rfl ?_
      refine z_iconst dX12_image_43 ?_
      refine h_zast dX12_image_44 (by first | assumption | rfl) (by repeat' first | apply zc_add | apply zc_mul | with_reducible exact zc_var _ | exact zc_lit _) (by omega) (by decide) (by omega) ?_
      refine z_iconst dX12_image_45 ?_
      refine h_iret dX12_image_46 rfl rfl rfl ?_
      refine ⟨by unfold aImage; rw [if_neg (by omega), if_neg (by omega)], ?_, fun o j h => by rw [zu_o (by omega), h3 o j (by omega)]⟩
      unfold nImage
      rw [if_neg (by omega), if_neg (by omega)]
      have z : ∀ o j, o ≠ 48 → o ≠ 49 → zu σ2 49 q 1 o j = σ1 o j := fun o j k1 k2 => by rw [zu_o k2, h3 _ _ k1]
      have z49 : ∀ j, j ≠ q → zu σ2 49 q 1 49 j = σ1 49 j := fun j k1 => by rw [zu_j k1, h3 _ _ (by omega)]
      obtain ⟨⟨b1, b2⟩, ⟨d1, d2⟩, ⟨c1, c2⟩, d, ⟨⟨f1, f2⟩, f3, f4⟩, ⟨k1, k2⟩, ⟨g1, g2⟩⟩ := hM
      have hq2 : q = 0 ∨ q = 1 := by omega
      rcases hq2 with rfl | rfl
      · refine ⟨⟨(z _ _ (by omega) (by omega)).trans b1, (z _ _ (by omega) (by omega)).trans b2⟩, ⟨fun r hr => ⟨(z _ _ (by omega) (by omega)).trans (d1 r hr).1, (z _ _ (by omega) (by omega)).trans (d1 r hr).2⟩, fun i hi => (z _ _ (by omega) (by omega)).trans (d2 i hi)⟩, ⟨(z _ _ (by omega) (by omega)).trans c1, fun i hi => (z _ _ (by omega) (by omega)).trans (c2 i hi)⟩, fun i hi => (z _ _ (by omega) (by omega)).trans (d i hi), ?_, ⟨(z _ _ (by omega) (by omega)).trans k1, fun j hj i hi => by rw [imgU_10 (by omega)]; exact (z _ _ (by omega) (by omega)).trans (k2 j hj i hi)⟩, ⟨(z _ _ (by omega) (by omega)).trans g1, fun i hi => (z _ _ (by omega) (by omega)).trans (g2 i hi)⟩⟩
        refine ⟨⟨zu_eq, (z49 1 (by omega)).trans f2⟩, fun _ i hi => ?_, fun h i hi => ?_⟩
        · have q := h1 i hi
          rw [Nat.mul_zero, Nat.zero_add] at q
          rw [zu_o (by omega), q]
          exact hR i hi
        · rw [zu_o (by omega), h2 _ (by omega)]
          exact f4 h i hi
      · refine ⟨⟨(z _ _ (by omega) (by omega)).trans b1, (z _ _ (by omega) (by omega)).trans b2⟩, ⟨fun r hr => ⟨(z _ _ (by omega) (by omega)).trans (d1 r hr).1, (z _ _ (by omega) (by omega)).trans (d1 r hr).2⟩, fun i hi => (z _ _ (by omega) (by omega)).trans (d2 i hi)⟩, ⟨(z _ _ (by omega) (by omega)).trans c1, fun i hi => (z _ _ (by omega) (by omega)).trans (c2 i hi)⟩, fun i hi => (z _ _ (by omega) (by omega)).trans (d i hi), ?_, ⟨(z _ _ (by omega) (by omega)).trans k1, fun j hj i hi => by rw [imgU_10 (by omega)]; exact (z _ _ (by omega) (by omega)).trans (k2 j hj i hi)⟩, ⟨(z _ _ (by omega) (by omega)).trans g1, fun i hi => (z _ _ (by omega) (by omega)).trans (g2 i hi)⟩⟩
        refine ⟨⟨(z49 0 (by omega)).trans f1, zu_eq⟩, fun h i hi => ?_, fun _ i hi => ?_⟩
        · rw [zu_o (by omega), h2 _ (by omega)]
          exact f3 h i hi
        · have q := h1 i hi
          rw [Nat.mul_one, Nat.zero_add] at q
          rw [zu_o (by omega), q]
          exact hR i hi
    · refine z_ldc (n := -1000002) dX12_image_19 zw_945 rfl ?_
      refine h_iret dX12_image_21 rfl rfl rfl ?_
      exact ⟨by unfold aImage; rw [if_neg (by omega), if_pos (by omega)], by unfold nImage; rw [if_neg (by omega), if_pos (by omega)]; exact hM, fr.rf⟩
  · refine z_ldc (n := -1000001) dX12_image_9 zw_860 rfl ?_
    refine h_iret dX12_image_11 rfl rfl rfl ?_
    exact ⟨by unfold aImage; rw [if_pos (by omega)], by unfold nImage; rw [if_pos (by omega)]; exact hM, fr.rf⟩
def aRest (α : Mem) (k : Int) : Int := if ¬ (0 ≤ k ∧ k ≤ 1) then BAD else if α 0 (5 + k.toNat) = 0 then STATE else 1
def nRest (α : Mem) (k : Int) : Mem := if ¬ (0 ≤ k ∧ k ≤ 1) then α else if α 0 (5 + k.toNat) = 0 then α else resU α k.toNat
theorem k_forget : KV rc M_X4_forgetAll [zR 28] σ (fun σ' => σ' = zu σ 28 2 0) := by
  refine K_of 0 (by decide) (Nat.le_of_ble_eq_true rfl) (show Z _ _ 0 0 0 [some (zR 28)] [] _ _ from ?_)
  first | refine z_aload_n dX4_forgetAll_0 rfl ?_ | refine z_aload_nT dX4_forgetAll_0 rfl ?_
  refine z_iconst dX4_forgetAll_1 ?_
  refine h_puti dX4_forgetAll_2 fp_X4_19 (by first | assumption | rfl) (by rfl) ?_
  refine h_vret dX4_forgetAll_5 rfl rfl rfl ?_
  rfl
theorem c_restore {k : Int} (hC : CI σ α) (hO : OK α) (hk : zin k) : KI rc M_X11_restore [zR 0, zI k] σ (cP σ α (aRest α k) (nRest α k)) := by
  refine K_of 1 (by decide) (Nat.le_of_ble_eq_true rfl) (show Z _ _ 0 0 0 [some (zR 0), some (zI k), none] [] _ _ from ?_)
  refine z_iload_n dX11_restore_0 rfl ?_
  refine z_iconst dX11_restore_1 ?_
  refine z_iconst dX11_restore_2 ?_
  refine h_Si3 (Y' := M_X11_isWithin) dX11_restore_3 zw_265 zw_266 ok_X11_isWithin (by decide) rfl (Nat.le_of_ble_eq_true rfl) ⟨rfl, rfl⟩ (by decide) (c_within hk (by omega) (by omega)) (fun vv σ2 hq => ?_)
  obtain ⟨hv, rfl⟩ := hq
  refine z_if_ne (tgt := 12) dX11_restore_6 (by decide) (by omega) (fun b6 => ?_) (fun b6 => ?_)
  · obtain ⟨q, rfl⟩ : ∃ p : Nat, k = (p : Int) := ⟨k.toNat, by omega⟩
    have hq2 : q = 0 ∨ q = 1 := by omega
    have hst : σ2 (18 + 5 * q) 4 = α 0 (5 + q) := by
      rcases hq2 with rfl | rfl
      · exact hC.2.2.2.2.1.1.1
      · exact hC.2.2.2.2.1.1.2
    have h01 : α 0 (5 + q) = 0 ∨ α 0 (5 + q) = 1 := by
      rcases hq2 with rfl | rfl
      · exact hO.1.2.2.2.2.2.1
      · exact hO.1.2.2.2.2.2.2
    have him : α 0 (5 + q) = 1 → cR σ2 (18 + 5 * q) (α (6 + q)) ∧ cok 999 (α (6 + q)) := by
      rcases hq2 with rfl | rfl
      · exact fun h => ⟨hC.2.2.2.2.1.2.1 h, hO.2.2.2.1.1 h⟩
      · exact fun h => ⟨hC.2.2.2.2.1.2.2 h, hO.2.2.2.1.2 h⟩
    have hs : zsh[18 + 5 * q]? = some (.inr (2, [some (18 + 5 * q + 1), some (18 + 5 * q + 2), some (18 + 5 * q + 3), some (18 + 5 * q + 4), none, none, none, none, none, none, none, none, none])) := cs0 (by unfold isC; omega)
    first | refine z_aload_n dX11_restore_12 rfl ?_ | refine z_aload_nT dX11_restore_12 rfl ?_
    refine z_iload_n dX11_restore_13 rfl ?_
    refine h_Vr1 (Y' := M_X11_imageOf) dX11_restore_14 zw_656 zw_658 zs_24 rfl ok_X11_imageOf (by decide) rfl (Nat.le_of_ble_eq_true rfl) ⟨rfl, rfl⟩ (by decide) (by first | assumption | rfl) (c_imageOf (k := q) (by omega)) (fun vv σ2 hq => ?_)
    obtain ⟨rfl, rfl⟩ := hq
    obtain ⟨σ1, rfl⟩ : ∃ z, z = σ2 := ⟨_, rfl⟩
    refine z_astore_n dX11_restore_17 (by decide) rfl ?_
    first | refine z_aload_n dX11_restore_18 rfl ?_ | refine z_aload_nT dX11_restore_18 rfl ?_
    refine h_geti dX11_restore_19 fl_X11_176 (by first | assumption | rfl) (by rfl) ?_
    refine z_if_ne (tgt := 28) dX11_restore_22 (by decide) (by omega) (fun b22 => ?_) (fun b22 => ?_)
    · obtain ⟨i1, i2⟩ := him (by omega)
      first | refine z_aload_n dX11_restore_28 rfl ?_ | refine z_aload_nT dX11_restore_28 rfl ?_
      refine h_getr dX11_restore_29 fl_X11_26 (by first | assumption | rfl) (by rfl) ?_
      first | refine z_aload_n dX11_restore_32 rfl ?_ | refine z_aload_nT dX11_restore_32 rfl ?_
      refine h_Vv1 (Y' := M_X2_become) dX11_restore_33 zw_401 zw_402 zw_403 rfl ok_X2_become (by decide) rfl (Nat.le_of_ble_eq_true rfl) ⟨rfl, rfl⟩ (by decide) (by first | assumption | rfl) (k_become (t := α (6 + q)) (Or.inl rfl) (by unfold isC; omega) (by omega) i1 i2.2.1 (Or.inr i2.1)) (fun σ2 hq => ?_)
      obtain ⟨j1, j2⟩ := hq
      first | refine z_aload_n dX11_restore_36 rfl ?_ | refine z_aload_nT dX11_restore_36 rfl ?_
      refine h_getr dX11_restore_37 fl_X11_42 (by first | assumption | rfl) (by rfl) ?_
      refine h_Vv0 (Y' := M_X4_forgetAll) dX11_restore_40 zw_405 zw_406 zw_407 rfl ok_X4_forgetAll (by decide) rfl (Nat.le_of_ble_eq_true rfl) ⟨rfl, rfl⟩ (by decide) (by first | assumption | rfl) (k_forget) (fun σ2 hq => ?_)
      subst hq
      refine z_iconst dX11_restore_43 ?_
      refine h_iret dX11_restore_44 rfl rfl rfl ?_
      refine ⟨by unfold aRest; rw [if_neg (by omega), if_neg (by show ¬ α 0 (5 + q) = 0; omega)], ?_, fun o j h => by rw [zu_o (by omega), j2 o j (by omega)]⟩
      unfold nRest
      rw [if_neg (by omega), if_neg (by show ¬ α 0 (5 + q) = 0; omega)]
      obtain ⟨⟨b1, b2⟩, d1, ⟨c1, c2⟩, d, ⟨⟨f1, f2⟩, f3, f4⟩, ⟨a1, nx, a2, a3, a4⟩, ⟨g1, g2⟩⟩ := hC
      have z : ∀ o j, (o < 8 ∨ 13 ≤ o) → ¬ (o = 28 ∧ j = 2) → zu σ2 28 2 0 o j = σ1 o j := fun o j h1 h2 => by
        by_cases ho : o = 28
        · subst ho
          rw [zu_j (by omega)]
          exact j2 _ _ (by omega)
        · rw [zu_o ho]
          exact j2 _ _ (by omega)
      exact ⟨⟨(z _ _ (by omega) (by omega)).trans b1, (z _ _ (by omega) (by omega)).trans b2⟩, d1.eq (fun o j h1 h2 => z o j (by omega) (by omega)), ⟨(z _ _ (by omega) (by omega)).trans c1, fun i hi => (z _ _ (by omega) (by omega)).trans (c2 i hi)⟩, cR_eq j1 (fun o j h1 h2 => zu_o (by omega)), ⟨⟨(z _ _ (by omega) (by omega)).trans f1, (z _ _ (by omega) (by omega)).trans f2⟩, fun h => cR_eq (f3 h) (fun o j h1 h2 => z o j (by omega) (by omega)), fun h => cR_eq (f4 h) (fun o j h1 h2 => z o j (by omega) (by omega))⟩, ⟨zu_eq, nx, a2, (z _ _ (by omega) (by omega)).trans a3, fun j hj => by have hj : (j : Int) < 0 := hj; omega⟩, ⟨(z _ _ (by omega) (by omega)).trans g1, fun i hi => (z _ _ (by omega) (by omega)).trans (g2 i hi)⟩⟩
    · refine z_ldc (n := -1000002) dX11_restore_25 zw_417 rfl ?_
      refine h_iret dX11_restore_27 rfl rfl rfl ?_
      exact ⟨by unfold aRest; rw [if_neg (by omega), if_pos (by show α 0 (5 + q) = 0; omega)], by unfold nRest; rw [if_neg (by omega), if_pos (by show α 0 (5 + q) = 0; omega)]; exact hC, fr.rf⟩
  · refine z_ldc (n := -1000001) dX11_restore_9 zw_268 rfl ?_
    refine h_iret dX11_restore_11 rfl rfl rfl ?_
    exact ⟨by unfold aRest; rw [if_pos (by omega)], by unfold nRest; rw [if_pos (by omega)]; exact hC, fr.rf⟩
theorem r_restore {k : Int} (hM : MI σ α) (hO : OK α) (hk : zin k) : KI rc M_X12_restore [zR 40, zI k] σ (mP σ α (aRest α k) (nRest α k)) := by
  refine K_of 0 (by decide) (Nat.le_of_ble_eq_true rfl) (show Z _ _ 0 0 0 [some (zR 40), some (zI k)] [] _ _ from ?_)
  refine z_iload_n dX12_restore_0 rfl ?_
  refine z_iconst dX12_restore_1 ?_
  refine z_iconst dX12_restore_2 ?_
  refine h_Si3 (Y' := M_X12_in) dX12_restore_3 zw_857 zw_858 ok_X12_in (by decide) rfl (Nat.le_of_ble_eq_true rfl) ⟨rfl, rfl⟩ (by decide) (m_within hk (by omega) (by omega)) (fun vv σ2 hq => ?_)
  obtain ⟨hv, rfl⟩ := hq
  refine z_if_ne (tgt := 12) dX12_restore_6 (by decide) (by omega) (fun b6 => ?_) (fun b6 => ?_)
  · obtain ⟨q, rfl⟩ : ∃ p : Nat, k = (p : Int) := ⟨k.toNat, by omega⟩
    have hq2 : q = 0 ∨ q = 1 := by omega
    have hst : σ2 49 q = α 0 (5 + q) := by
      rcases hq2 with rfl | rfl
      · exact hM.2.2.2.2.1.1.1
      · exact hM.2.2.2.2.1.1.2
    have h01 : α 0 (5 + q) = 0 ∨ α 0 (5 + q) = 1 := by
      rcases hq2 with rfl | rfl
      · exact hO.1.2.2.2.2.2.1
      · exact hO.1.2.2.2.2.2.2
    have him : α 0 (5 + q) = 1 → ∀ i, i < 29 → σ2 48 (29 * q + i) = α (6 + q) i := by
      rcases hq2 with rfl | rfl
      · intro h i hi
        rw [Nat.mul_zero, Nat.zero_add]
        exact hM.2.2.2.2.1.2.1 h i hi
      · intro h i hi
        rw [Nat.mul_one]
        exact hM.2.2.2.2.1.2.2 h i hi
    obtain ⟨σ1, rfl⟩ : ∃ z, z = σ2 := ⟨_, rfl⟩
    first | refine z_aload_n dX12_restore_12 rfl ?_ | refine z_aload_nT dX12_restore_12 rfl ?_
    refine h_getr dX12_restore_13 fl_X12_34 (by first | assumption | rfl) (by rfl) ?_
    refine z_iload_n dX12_restore_16 rfl ?_
    refine h_zald dX12_restore_17 (by first | assumption | rfl) (by repeat' first | apply zc_add | apply zc_mul | with_reducible exact zc_var _ | exact zc_lit _) (by omega) (by decide) ?_
    refine z_if_ne (tgt := 24) dX12_restore_18 (by decide) (by omega) (fun b18 => ?_) (fun b18 => ?_)
    · first | refine z_aload_n dX12_restore_24 rfl ?_ | refine z_aload_nT dX12_restore_24 rfl ?_
      refine h_getr dX12_restore_25 fl_X12_31 (by first | assumption | rfl) (by rfl) ?_
      refine z_bipush dX12_restore_28 rfl ?_
      refine z_iload_n dX12_restore_30 rfl ?_
      refine z_imul dX12_restore_31 ?_
      first | refine z_aload_n dX12_restore_32 rfl ?_ | refine z_aload_nT dX12_restore_32 rfl ?_
      refine h_getr dX12_restore_33 fl_X12_22 (by first | assumption | rfl) (by rfl) ?_
      refine z_iconst dX12_restore_36 ?_
      rw [show (29 : Int) * (q : Int) = ((29 * q : Nat) : Int) by omega]
      refine h_Sv4 (Y' := M_X12_lay) dX12_restore_37 zw_930 zw_931 ok_X12_lay (by decide) rfl (Nat.le_of_ble_eq_true rfl) ⟨rfl, rfl⟩ (by decide) (m_lay (f := 29 * q) (g := 0) (a := 48) (b := 45) rfl rfl (by decide) (by omega) (by decide) (by decide) (by decide)) (fun σ2 hq => ?_)
      obtain ⟨h1, h2, h3⟩ := hq
      first | refine z_aload_n dX12_restore_40 rfl ?_ | refine z_aload_nT dX12_restore_40 rfl ?_
      refine z_iconst dX12_restore_41 ?_
      refine h_puti dX12_restore_42 fp_X12_133 (by first | assumption | rfl) (by rfl) ?_
      refine z_iconst dX12_restore_45 ?_
      refine h_iret dX12_restore_46 rfl rfl rfl ?_
      refine ⟨by unfold aRest; rw [if_neg (by omega), if_neg (by show ¬ α 0 (5 + q) = 0; omega)], ?_, fun o j h => by rw [zu_o (by omega), h3 o j (by omega)]⟩
      unfold nRest
      rw [if_neg (by omega), if_neg (by show ¬ α 0 (5 + q) = 0; omega)]
      have z : ∀ o j, o ≠ 45 → ¬ (o = 40 ∧ j = 18) → zu σ2 40 18 0 o j = σ1 o j := fun o j k1 k2 => by
        by_cases ho : o = 40
        · subst ho
          rw [zu_j (by omega)]
          exact h3 _ _ (by omega)
        · rw [zu_o ho]
          exact h3 _ _ k1
      obtain ⟨⟨b1, b2⟩, ⟨d1, d2⟩, ⟨c1, c2⟩, d, ⟨⟨f1, f2⟩, f3, f4⟩, ⟨k1, k2⟩, ⟨g1, g2⟩⟩ := hM
      exact ⟨⟨(z _ _ (by omega) (by omega)).trans b1, (z _ _ (by omega) (by omega)).trans b2⟩, ⟨fun r hr => ⟨(z _ _ (by omega) (by omega)).trans (d1 r hr).1, (z _ _ (by omega) (by omega)).trans (d1 r hr).2⟩, fun i hi => (z _ _ (by omega) (by omega)).trans (d2 i hi)⟩, ⟨(z _ _ (by omega) (by omega)).trans c1, fun i hi => (z _ _ (by omega) (by omega)).trans (c2 i hi)⟩, fun i hi => by
        have q := h1 i hi
        rw [Nat.zero_add] at q
        rw [zu_o (by omega), q]
        exact him (by omega) i hi, ⟨⟨(z _ _ (by omega) (by omega)).trans f1, (z _ _ (by omega) (by omega)).trans f2⟩, fun h i hi => (z _ _ (by omega) (by omega)).trans (f3 h i hi), fun h i hi => (z _ _ (by omega) (by omega)).trans (f4 h i hi)⟩, ⟨zu_eq, fun j hj i hi => by have hj : (j : Int) < 0 := hj; omega⟩, ⟨(z _ _ (by omega) (by omega)).trans g1, fun i hi => (z _ _ (by omega) (by omega)).trans (g2 i hi)⟩⟩
    · refine z_ldc (n := -1000002) dX12_restore_21 zw_945 rfl ?_
      refine h_iret dX12_restore_23 rfl rfl rfl ?_
      exact ⟨by unfold aRest; rw [if_neg (by omega), if_pos (by show α 0 (5 + q) = 0; omega)], by unfold nRest; rw [if_neg (by omega), if_pos (by show α 0 (5 + q) = 0; omega)]; exact hM, fr.rf⟩
  · refine z_ldc (n := -1000001) dX12_restore_9 zw_860 rfl ?_
    refine h_iret dX12_restore_11 rfl rfl rfl ?_
    exact ⟨by unfold aRest; rw [if_pos (by omega)], by unfold nRest; rw [if_pos (by omega)]; exact hM, fr.rf⟩
end
