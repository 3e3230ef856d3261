/-! copy (reference), feed; acts kept -/
def tapU (α : Mem) (f : Nat → Int) (n : Int) : Mem := fun i => if i = 4 then f else if i = 0 then zup (α 0) 1 n else α i
theorem tapU_10 {α : Mem} {f : Nat → Int} {n : Int} (j : Nat) : tapU α f n (10 + j) = α (10 + j) := by
  unfold tapU
  rw [if_neg (by omega), if_neg (by omega)]
def nowU (α : Mem) (t : Nat → Int) : Mem := fun i => if i = 5 then t else α i
theorem nowU_10 {α : Mem} {t : Nat → Int} (j : Nat) : nowU α t (10 + j) = α (10 + j) := by
  unfold nowU
  rw [if_neg (by omega)]
def actU (α : Mem) (t : Nat → Int) (n : Int) (A : Nat → (Nat → Int)) : Mem := fun i => if i = 5 then t else if i = 0 then zup (α 0) 3 n else if 10 ≤ i then A (i - 10) else α i
theorem actU_10 {α : Mem} {t : Nat → Int} {n : Int} {A : Nat → (Nat → Int)} (j : Nat) : actU α t n A (10 + j) = A j := by
  unfold actU
  rw [if_neg (by omega), if_neg (by omega), if_pos (by omega), show 10 + j - 10 = j by omega]
def psh (α : Mem) : Nat → (Nat → Int) := fun j => if α 0 3 < 24 then (if j = (α 0 3).toNat then α 5 else α (10 + j)) else (if j = 23 then α 5 else α (10 + (j + 1)))
def pshU (α : Mem) : Mem := actU α (α 5) (min 24 (α 0 3 + 1)) (psh α)
section
variable {rc : ZRC} {σ α : Mem}
theorem r_copy {a i b j n : Int} (hM : MI σ α) (hO : OK α) (ha : zin a) (hi : zin i) (hb : zin b) (hj : zin j) (hn : zin n) : KI rc M_X12_copy [zR 40, zI a, zI i, zI b, zI j, zI n] σ (mP σ α (aCopy α a i b j n) (nCopy α a i b j n)) := by
  have bad : ∀ σ2 : Mem, σ2 = σ → (¬ (0 ≤ a ∧ a ≤ 7) ∨ ¬ (0 ≤ b ∧ b ≤ 7)) → Z rc M_X12_copy 0 0 14 [some (zR 40), some (zI a), some (zI i), some (zI b), some (zI j), some (zI n), none, none, none] [] (hp σ2) (qI (mP σ α (aCopy α a i b j n) (nCopy α a i b j n))) := by
    intro σ2 e hb
    subst e
    refine z_ldc (n := -1000001) dX12_copy_14 zw_860 rfl ?_
    refine h_iret dX12_copy_16 rfl rfl rfl ?_
    exact ⟨by unfold aCopy; rw [if_pos hb], by unfold nCopy; rw [if_pos hb]; exact hM, fr.rf⟩
  refine K_of 3 (by decide) (Nat.le_of_ble_eq_true rfl) (show Z _ _ 0 0 0 [some (zR 40), some (zI a), some (zI i), some (zI b), some (zI j), some (zI n), none, none, none] [] _ _ from ?_)
  refine z_iload_n dX12_copy_0 rfl ?_
  refine h_Si1 (Y' := M_X12_isRow) dX12_copy_1 zw_854 zw_855 ok_X12_isRow (by decide) rfl (Nat.le_of_ble_eq_true rfl) ⟨rfl, rfl⟩ (by decide) (m_isRow ha) (fun vv σ2 hq => ?_)
  obtain ⟨hv1, rfl⟩ := hq
  refine z_if_eq (tgt := 14) dX12_copy_4 (by decide) (by omega) (fun b4 => ?_) (fun b4 => ?_)
  · exact bad _ rfl (by omega)
  · refine z_iload_n dX12_copy_7 rfl ?_
    refine h_Si1 (Y' := M_X12_isRow) dX12_copy_8 zw_854 zw_855 ok_X12_isRow (by decide) rfl (Nat.le_of_ble_eq_true rfl) ⟨rfl, rfl⟩ (by decide) (m_isRow hb) (fun vv σ2 hq => ?_)
    obtain ⟨hv2, rfl⟩ := hq
    refine z_if_ne (tgt := 17) dX12_copy_11 (by decide) (by omega) (fun b11 => ?_) (fun b11 => ?_)
    · obtain ⟨p, rfl⟩ : ∃ p : Nat, a = (p : Int) := ⟨a.toNat, by omega⟩
      obtain ⟨q, rfl⟩ : ∃ p : Nat, b = (p : Int) := ⟨b.toNat, by omega⟩
      have p1 := (hM.2.1.1 p (by omega)).1
      have p2 := (hM.2.1.1 p (by omega)).2
      have q1 := (hM.2.1.1 q (by omega)).1
      have q2 := (hM.2.1.1 q (by omega)).2
      have o1 := hO.2.1.1 p (by omega)
      have o2 := hO.2.1.1 q (by omega)
      have nul : ∀ σ3 : Mem, σ3 = σ2 → (α 1 p < 0 ∨ α 1 q < 0) → Z rc M_X12_copy 0 0 35 [some (zR 40), some (zI (p : Int)), some (zI i), some (zI (q : Int)), some (zI j), some (zI n), none, none, none] [] (hp σ3) (qI (mP σ2 α (aCopy α p i q j n) (nCopy α p i q j n))) := by
        intro σ3 e h
        subst e
        first | refine z_aload_n dX12_copy_35 rfl ?_ | refine z_aload_nT dX12_copy_35 rfl ?_
        refine z_iconst dX12_copy_36 ?_
        refine h_Vi1 (Y' := M_X12_finds) dX12_copy_37 zw_861 zw_863 zs_26 rfl ok_X12_finds (by decide) rfl (Nat.le_of_ble_eq_true rfl) ⟨rfl, rfl⟩ (by decide) (by first | assumption | rfl) (m_finds) (fun vv σ2 hq => ?_)
        obtain ⟨rfl, rfl⟩ := hq
        refine h_iret dX12_copy_40 rfl rfl rfl ?_
        refine ⟨by unfold aCopy; rw [if_neg (by omega), if_pos (by exact h)]; rfl, ?_⟩
        unfold nCopy
        rw [if_neg (by omega), if_pos (by exact h)]
        exact MI_st hM 1
      have plc : ∀ σ3 : Mem, σ3 = σ2 → ¬ (α 1 p < 0 ∨ α 1 q < 0) → α 1 p = α 1 q → ¬ ((0 ≤ i ∧ 0 ≤ n ∧ i + n ≤ α 2 p) ∧ (0 ≤ j ∧ 0 ≤ n ∧ j + n ≤ α 2 q)) → Z rc M_X12_copy 0 0 93 [some (zR 40), some (zI (p : Int)), some (zI i), some (zI (q : Int)), some (zI j), some (zI n), none, none, none] [] (hp σ3) (qI (mP σ2 α (aCopy α p i q j n) (nCopy α p i q j n))) := by
        intro σ3 e h1 h2 h3
        subst e
        first | refine z_aload_n dX12_copy_93 rfl ?_ | refine z_aload_nT dX12_copy_93 rfl ?_
        refine z_iconst dX12_copy_94 ?_
        refine h_Vi1 (Y' := M_X12_finds) dX12_copy_95 zw_861 zw_863 zs_26 rfl ok_X12_finds (by decide) rfl (Nat.le_of_ble_eq_true rfl) ⟨rfl, rfl⟩ (by decide) (by first | assumption | rfl) (m_finds) (fun vv σ2 hq => ?_)
        obtain ⟨rfl, rfl⟩ := hq
        refine h_iret dX12_copy_98 rfl rfl rfl ?_
        refine ⟨by unfold aCopy; rw [if_neg (by omega), if_neg (by exact h1), if_neg (fun h => h h2), if_pos (by exact h3)]; rfl, ?_⟩
        unfold nCopy
        rw [if_neg (by omega), if_neg (by exact h1), if_neg (fun h => h h2), if_pos (by exact h3)]
        exact MI_st hM 2
      first | refine z_aload_n dX12_copy_17 rfl ?_ | refine z_aload_nT dX12_copy_17 rfl ?_
      refine h_getr dX12_copy_18 fl_X12_7 (by first | assumption | rfl) (by rfl) ?_
      refine z_iload_n dX12_copy_21 rfl ?_
      first | refine h_iald dX12_copy_22 (by first | assumption | rfl) (by repeat' first | apply zc_add | apply zc_mul | with_reducible exact zc_var _ | exact zc_lit _) (by omega) (by decide) ?_ | refine z_ialdT _ dX12_copy_22 (by assumption) (by repeat' first | apply zc_add | apply zc_mul | with_reducible exact zc_var _ | exact zc_lit _) (by omega) (by omega) ?_
      refine z_if_lt (tgt := 35) dX12_copy_23 (by decide) (by omega) (fun b23 => ?_) (fun b23 => ?_)
      · exact nul _ rfl (by omega)
      · first | refine z_aload_n dX12_copy_26 rfl ?_ | refine z_aload_nT dX12_copy_26 rfl ?_
        refine h_getr dX12_copy_27 fl_X12_7 (by first | assumption | rfl) (by rfl) ?_
        refine z_iload_n dX12_copy_30 rfl ?_
        first | refine h_iald dX12_copy_31 (by first | assumption | rfl) (by repeat' first | apply zc_add | apply zc_mul | with_reducible exact zc_var _ | exact zc_lit _) (by omega) (by decide) ?_ | refine z_ialdT _ dX12_copy_31 (by assumption) (by repeat' first | apply zc_add | apply zc_mul | with_reducible exact zc_var _ | exact zc_lit _) (by omega) (by omega) ?_
        refine z_if_ge (tgt := 41) dX12_copy_32 (by decide) (by omega) (fun b32 => ?_) (fun b32 => ?_)
        · first | refine z_aload_n dX12_copy_41 rfl ?_ | refine z_aload_nT dX12_copy_41 rfl ?_
          refine h_getr dX12_copy_42 fl_X12_7 (by first | assumption | rfl) (by rfl) ?_
          refine z_iload_n dX12_copy_45 rfl ?_
          first | refine h_iald dX12_copy_46 (by first | assumption | rfl) (by repeat' first | apply zc_add | apply zc_mul | with_reducible exact zc_var _ | exact zc_lit _) (by omega) (by decide) ?_ | refine z_ialdT _ dX12_copy_46 (by assumption) (by repeat' first | apply zc_add | apply zc_mul | with_reducible exact zc_var _ | exact zc_lit _) (by omega) (by omega) ?_
          first | refine z_aload_n dX12_copy_47 rfl ?_ | refine z_aload_nT dX12_copy_47 rfl ?_
          refine h_getr dX12_copy_48 fl_X12_7 (by first | assumption | rfl) (by rfl) ?_
          refine z_iload_n dX12_copy_51 rfl ?_
          first | refine h_iald dX12_copy_52 (by first | assumption | rfl) (by repeat' first | apply zc_add | apply zc_mul | with_reducible exact zc_var _ | exact zc_lit _) (by omega) (by decide) ?_ | refine z_ialdT _ dX12_copy_52 (by assumption) (by repeat' first | apply zc_add | apply zc_mul | with_reducible exact zc_var _ | exact zc_lit _) (by omega) (by omega) ?_
          refine z_icmp_eq (tgt := 62) dX12_copy_53 (by decide) (by omega) (by omega) (fun b53 => ?_) (fun b53 => ?_)
          · refine z_iload_n dX12_copy_62 rfl ?_
            refine z_iload dX12_copy_63 rfl ?_
            first | refine z_aload_n dX12_copy_65 rfl ?_ | refine z_aload_nT dX12_copy_65 rfl ?_
            refine h_getr dX12_copy_66 fl_X12_13 (by first | assumption | rfl) (by rfl) ?_
            refine z_iload_n dX12_copy_69 rfl ?_
            first | refine h_iald dX12_copy_70 (by first | assumption | rfl) (by repeat' first | apply zc_add | apply zc_mul | with_reducible exact zc_var _ | exact zc_lit _) (by omega) (by decide) ?_ | refine z_ialdT _ dX12_copy_70 (by assumption) (by repeat' first | apply zc_add | apply zc_mul | with_reducible exact zc_var _ | exact zc_lit _) (by omega) (by omega) ?_
            refine h_Si3 (Y' := M_X12_isPart) dX12_copy_71 zw_878 zw_879 ok_X12_isPart (by decide) rfl (Nat.le_of_ble_eq_true rfl) ⟨rfl, rfl⟩ (by decide) (m_isPart hi hn (by omega) (by omega)) (fun vv σ2 hq => ?_)
            obtain ⟨hv6, rfl⟩ := hq
            refine z_if_eq (tgt := 93) dX12_copy_74 (by decide) (by omega) (fun b74 => ?_) (fun b74 => ?_)
            · exact plc _ rfl (by omega) (by omega) (by omega)
            · refine z_iload dX12_copy_77 rfl ?_
              refine z_iload dX12_copy_79 rfl ?_
              first | refine z_aload_n dX12_copy_81 rfl ?_ | refine z_aload_nT dX12_copy_81 rfl ?_
              refine h_getr dX12_copy_82 fl_X12_13 (by first | assumption | rfl) (by rfl) ?_
              refine z_iload_n dX12_copy_85 rfl ?_
              first | refine h_iald dX12_copy_86 (by first | assumption | rfl) (by repeat' first | apply zc_add | apply zc_mul | with_reducible exact zc_var _ | exact zc_lit _) (by omega) (by decide) ?_ | refine z_ialdT _ dX12_copy_86 (by assumption) (by repeat' first | apply zc_add | apply zc_mul | with_reducible exact zc_var _ | exact zc_lit _) (by omega) (by omega) ?_
              refine h_Si3 (Y' := M_X12_isPart) dX12_copy_87 zw_878 zw_879 ok_X12_isPart (by decide) rfl (Nat.le_of_ble_eq_true rfl) ⟨rfl, rfl⟩ (by decide) (m_isPart hj hn (by omega) (by omega)) (fun vv σ2 hq => ?_)
              obtain ⟨hv7, rfl⟩ := hq
              refine z_if_ne (tgt := 99) dX12_copy_90 (by decide) (by omega) (fun b90 => ?_) (fun b90 => ?_)
              · obtain ⟨x, rfl⟩ : ∃ p : Nat, i = (p : Int) := ⟨i.toNat, by omega⟩
                obtain ⟨y, rfl⟩ : ∃ p : Nat, j = (p : Int) := ⟨j.toNat, by omega⟩
                obtain ⟨m, rfl⟩ : ∃ p : Nat, n = (p : Int) := ⟨n.toNat, by omega⟩
                have g1 : ¬ (α 1 p < 0 ∨ α 1 q < 0) := by omega
                have g2 : α 1 p = α 1 q := by omega
                have g3 : (0 ≤ (x : Int) ∧ 0 ≤ (m : Int) ∧ (x : Int) + m ≤ α 2 p) ∧ (0 ≤ (y : Int) ∧ 0 ≤ (m : Int) ∧ (y : Int) + m ≤ α 2 q) := by omega
                have fin : ∀ σ' : Mem, (∀ z, z < 320 → σ' 43 z = zcpy (α 3) (α 3) (40 * p + x) (40 * q + y) m z) → fm 43 σ2 σ' → ∀ x6 x7 x8 : Option ZV, Z rc M_X12_copy 0 0 181 [some (zR 40), some (zI (p : Int)), some (zI (x : Int)), some (zI (q : Int)), some (zI (y : Int)), some (zI (m : Int)), x6, x7, x8] [] (hp σ') (qI (mP σ2 α (aCopy α p x q y m) (nCopy α p x q y m))) := by
                  intro σ' i1 i2 x6 x7 x8
                  first | refine z_aload_n dX12_copy_181 rfl ?_ | refine z_aload_nT dX12_copy_181 rfl ?_
                  refine z_iload dX12_copy_182 rfl ?_
                  refine h_Vi1 (Y' := M_X12_done) dX12_copy_184 zw_866 zw_868 zs_27 rfl ok_X12_done (by decide) rfl (Nat.le_of_ble_eq_true rfl) ⟨rfl, rfl⟩ (by decide) (by first | assumption | rfl) (m_done) (fun vv σ2 hq => ?_)
                  obtain ⟨rfl, rfl⟩ := hq
                  refine h_iret dX12_copy_187 rfl rfl rfl ?_
                  refine ⟨by unfold aCopy; rw [if_neg (by omega), if_neg (by exact g1), if_neg (fun h => h g2), if_neg (fun h => h g3)], ?_, fun o z h => by rw [zu_o (by omega)]; exact i2 o z (by omega)⟩
                  unfold nCopy
                  rw [if_neg (by omega), if_neg (by exact g1), if_neg (fun h => h g2), if_neg (fun h => h g3)]
                  refine MI_rows hM ⟨fun z hz => ?_, fun z hz => ?_⟩ zu_eq (fun o z a1 a2 a3 a4 a5 a6 => ?_)
                  · rw [zu_o (by omega), zu_o (by omega), i2 _ _ (by omega), i2 _ _ (by omega)]
                    exact hM.2.1.1 z hz
                  · rw [zu_o (by omega)]
                    exact i1 z hz
                  · by_cases ho : o = 40
                    · subst ho
                      rw [zu_j (by omega)]
                      exact i2 _ _ (by omega)
                    · rw [zu_o ho]
                      exact i2 _ _ a4
                have fw : ¬ (p = q ∧ x < y) → ∀ c k : Nat, k + c = m → ∀ (σ' : Mem) (x8 : Option ZV), (∀ z, z < 320 → σ' 43 z = if 40 * q + y ≤ z ∧ z < 40 * q + y + k then α 3 (40 * p + x + (z - (40 * q + y))) else α 3 z) → fm 43 σ2 σ' → Z rc M_X12_copy 0 0 120 [some (zR 40), some (zI (p : Int)), some (zI (x : Int)), some (zI (q : Int)), some (zI (y : Int)), some (zI (m : Int)), some (zI 0), some (zI (k : Int)), x8] [] (hp σ') (qI (mP σ2 α (aCopy α p x q y m) (nCopy α p x q y m))) := by
                  intro hd c
                  induction c with
                  | zero =>
                    intro k hk σ' x8 i1 i2
                    refine z_iload dX12_copy_120 rfl ?_
                    refine z_iload dX12_copy_122 rfl ?_
                    refine z_icmp_ge (tgt := 181) dX12_copy_124 (by decide) (by omega) (by omega) (fun b124 => ?_) (fun b124 => ?_)
                    · refine fin σ' (fun z hz => ?_) i2 _ _ _
                      rw [i1 z hz, show k = m by omega]
                      rfl
                    · omega
                  | succ c ih =>
                    intro k hk σ' x8 i1 i2
                    refine z_iload dX12_copy_120 rfl ?_
                    refine z_iload dX12_copy_122 rfl ?_
                    refine z_icmp_ge (tgt := 181) dX12_copy_124 (by decide) (by omega) (by omega) (fun b124 => ?_) (fun b124 => ?_)
                    · omega
                    · refine z_iload dX12_copy_127 rfl ?_
                      refine z_if_eq (tgt := 142) dX12_copy_129 (by decide) (by omega) (fun b129 => ?_) (fun b129 => ?_)
                      · refine z_iload dX12_copy_142 rfl ?_
                        refine z_istore dX12_copy_144 (by decide) rfl ?_
                        first | refine z_aload_n dX12_copy_146 rfl ?_ | refine z_aload_nT dX12_copy_146 rfl ?_
                        refine h_getr dX12_copy_147 fl_X12_16 (by first | assumption | rfl) (by rfl) ?_
                        refine z_bipush dX12_copy_150 rfl ?_
                        refine z_iload_n dX12_copy_152 rfl ?_
                        refine z_imul dX12_copy_153 ?_
                        refine z_iload dX12_copy_154 rfl ?_
                        refine z_iadd dX12_copy_156 ?_
                        refine z_iload dX12_copy_157 rfl ?_
                        refine z_iadd dX12_copy_159 ?_
                        first | refine z_aload_n dX12_copy_160 rfl ?_ | refine z_aload_nT dX12_copy_160 rfl ?_
                        refine h_getr dX12_copy_161 fl_X12_16 (by first | assumption | rfl) (by rfl) ?_
                        refine z_bipush dX12_copy_164 rfl ?_
                        refine z_iload_n dX12_copy_166 rfl ?_
                        refine z_imul dX12_copy_167 ?_
                        refine z_iload_n dX12_copy_168 rfl ?_
                        refine z_iadd dX12_copy_169 ?_
                        refine z_iload dX12_copy_170 rfl ?_
                        refine z_iadd dX12_copy_172 ?_
                        first | refine h_iald dX12_copy_173 (by first | assumption | rfl) (by repeat' first | apply zc_add | apply zc_mul | with_reducible exact zc_var _ | exact zc_lit _) (by omega) (by decide) ?_ | refine z_ialdT _ dX12_copy_173 (by assumption) (by repeat' first | apply zc_add | apply zc_mul | with_reducible exact zc_var _ | exact zc_lit _) (by omega) (by omega) ?_
                        refine h_iast dX12_copy_174 (by first | assumption | rfl) (by repeat' first | apply zc_add | apply zc_mul | with_reducible exact zc_var _ | exact zc_lit _) (by omega) (by decide) ?_
                        refine z_iinc dX12_copy_175 rfl (by decide) rfl ?_
                        refine z_goto (tgt := 120) dX12_copy_178 (by decide) ?_
                        have h9 := ih (k + 1) (by omega) (zu σ' 43 (40 * q + y + k) (σ' 43 (40 * p + x + k))) (some (zI (k : Int))) (fun z hz => by
                          by_cases h : z = 40 * q + y + k
                          · subst h
                            rw [zu_eq, i1 _ (by omega), if_neg (by omega), if_pos (by omega)]
                            congr 1
                            omega
                          · rw [zu_j h, i1 z hz]
                            by_cases h2 : 40 * q + y ≤ z ∧ z < 40 * q + y + k
                            · rw [if_pos h2, if_pos (by omega)]
                            · rw [if_neg h2, if_neg (by omega)]) (fun o z h => by rw [zu_o h]; exact i2 o z h)
                        rw [nsucc] at h9
                        exact h9
                      · omega
                have bw : p = q → x < y → ∀ c k : Nat, k + c = m → ∀ (σ' : Mem) (x8 : Option ZV), (∀ z, z < 320 → σ' 43 z = if 40 * q + y + m ≤ z + k ∧ z < 40 * q + y + m then α 3 (40 * p + x + (z - (40 * q + y))) else α 3 z) → fm 43 σ2 σ' → Z rc M_X12_copy 0 0 120 [some (zR 40), some (zI (p : Int)), some (zI (x : Int)), some (zI (q : Int)), some (zI (y : Int)), some (zI (m : Int)), some (zI 1), some (zI (k : Int)), x8] [] (hp σ') (qI (mP σ2 α (aCopy α p x q y m) (nCopy α p x q y m))) := by
                  intro hd1 hd2 c
                  induction c with
                  | zero =>
                    intro k hk σ' x8 i1 i2
                    refine z_iload dX12_copy_120 rfl ?_
                    refine z_iload dX12_copy_122 rfl ?_
                    refine z_icmp_ge (tgt := 181) dX12_copy_124 (by decide) (by omega) (by omega) (fun b124 => ?_) (fun b124 => ?_)
                    · refine fin σ' (fun z hz => ?_) i2 _ _ _
                      rw [i1 z hz]
                      unfold zcpy
                      by_cases h : 40 * q + y ≤ z ∧ z < 40 * q + y + m
                      · rw [if_pos h, if_pos (by omega)]
                      · rw [if_neg h, if_neg (by omega)]
                    · omega
                  | succ c ih =>
                    intro k hk σ' x8 i1 i2
                    refine z_iload dX12_copy_120 rfl ?_
                    refine z_iload dX12_copy_122 rfl ?_
                    refine z_icmp_ge (tgt := 181) dX12_copy_124 (by decide) (by omega) (by omega) (fun b124 => ?_) (fun b124 => ?_)
                    · omega
                    · refine z_iload dX12_copy_127 rfl ?_
                      refine z_if_eq (tgt := 142) dX12_copy_129 (by decide) (by omega) (fun b129 => ?_) (fun b129 => ?_)
                      · omega
                      · obtain ⟨w, hw⟩ : ∃ w : Nat, (m : Int) - 1 - (k : Int) = (w : Int) := ⟨m - 1 - k, by omega⟩
                        refine z_iload dX12_copy_132 rfl ?_
                        refine z_iconst dX12_copy_134 ?_
                        refine z_isub dX12_copy_135 ?_
                        refine z_iload dX12_copy_136 rfl ?_
                        refine z_isub dX12_copy_138 ?_
                        refine z_goto (tgt := 144) dX12_copy_139 (by decide) ?_
                        rw [hw]
                        refine z_istore dX12_copy_144 (by decide) rfl ?_
                        first | refine z_aload_n dX12_copy_146 rfl ?_ | refine z_aload_nT dX12_copy_146 rfl ?_
                        refine h_getr dX12_copy_147 fl_X12_16 (by first | assumption | rfl) (by rfl) ?_
                        refine z_bipush dX12_copy_150 rfl ?_
                        refine z_iload_n dX12_copy_152 rfl ?_
                        refine z_imul dX12_copy_153 ?_
                        refine z_iload dX12_copy_154 rfl ?_
                        refine z_iadd dX12_copy_156 ?_
                        refine z_iload dX12_copy_157 rfl ?_
                        refine z_iadd dX12_copy_159 ?_
                        first | refine z_aload_n dX12_copy_160 rfl ?_ | refine z_aload_nT dX12_copy_160 rfl ?_
                        refine h_getr dX12_copy_161 fl_X12_16 (by first | assumption | rfl) (by rfl) ?_
                        refine z_bipush dX12_copy_164 rfl ?_
                        refine z_iload_n dX12_copy_166 rfl ?_
                        refine z_imul dX12_copy_167 ?_
                        refine z_iload_n dX12_copy_168 rfl ?_
                        refine z_iadd dX12_copy_169 ?_
                        refine z_iload dX12_copy_170 rfl ?_
                        refine z_iadd dX12_copy_172 ?_
                        first | refine h_iald dX12_copy_173 (by first | assumption | rfl) (by repeat' first | apply zc_add | apply zc_mul | with_reducible exact zc_var _ | exact zc_lit _) (by omega) (by decide) ?_ | refine z_ialdT _ dX12_copy_173 (by assumption) (by repeat' first | apply zc_add | apply zc_mul | with_reducible exact zc_var _ | exact zc_lit _) (by omega) (by omega) ?_
                        refine h_iast dX12_copy_174 (by first | assumption | rfl) (by repeat' first | apply zc_add | apply zc_mul | with_reducible exact zc_var _ | exact zc_lit _) (by omega) (by decide) ?_
                        refine z_iinc dX12_copy_175 rfl (by decide) rfl ?_
                        refine z_goto (tgt := 120) dX12_copy_178 (by decide) ?_
                        have h9 := ih (k + 1) (by omega) (zu σ' 43 (40 * q + y + w) (σ' 43 (40 * p + x + w))) (some (zI (w : Int))) (fun z hz => by
                          by_cases h : z = 40 * q + y + w
                          · subst h
                            rw [zu_eq, i1 _ (by omega), if_neg (by omega), if_pos (by omega)]
                            congr 1
                            omega
                          · rw [zu_j h, i1 z hz]
                            by_cases h2 : 40 * q + y + m ≤ z + k ∧ z < 40 * q + y + m
                            · rw [if_pos h2, if_pos (by omega)]
                            · rw [if_neg h2, if_neg (by omega)]) (fun o z h => by rw [zu_o h]; exact i2 o z h)
                        rw [nsucc] at h9
                        exact h9
                refine z_iload_n dX12_copy_99 rfl ?_
                refine z_iload_n dX12_copy_100 rfl ?_
                refine z_icmp_ne (tgt := 114) dX12_copy_101 (by decide) (by omega) (by omega) (fun b101 => ?_) (fun b101 => ?_)
                · refine z_iconst dX12_copy_114 ?_
                  refine z_istore dX12_copy_115 (by decide) rfl ?_
                  refine z_iconst dX12_copy_117 ?_
                  refine z_istore dX12_copy_118 (by decide) rfl ?_
                  exact fw (by omega) m 0 (Nat.zero_add _) σ2 none (fun z hz => by rw [if_neg (by omega)]; exact hM.2.1.2 z hz) fm.rf
                · refine z_iload dX12_copy_104 rfl ?_
                  refine z_iload_n dX12_copy_106 rfl ?_
                  refine z_icmp_le (tgt := 114) dX12_copy_107 (by decide) (by omega) (by omega) (fun b107 => ?_) (fun b107 => ?_)
                  · refine z_iconst dX12_copy_114 ?_
                    refine z_istore dX12_copy_115 (by decide) rfl ?_
                    refine z_iconst dX12_copy_117 ?_
                    refine z_istore dX12_copy_118 (by decide) rfl ?_
                    exact fw (by omega) m 0 (Nat.zero_add _) σ2 none (fun z hz => by rw [if_neg (by omega)]; exact hM.2.1.2 z hz) fm.rf
                  · refine z_iconst dX12_copy_110 ?_
                    refine z_goto (tgt := 115) dX12_copy_111 (by decide) ?_
                    refine z_istore dX12_copy_115 (by decide) rfl ?_
                    refine z_iconst dX12_copy_117 ?_
                    refine z_istore dX12_copy_118 (by decide) rfl ?_
                    exact bw (by omega) (by omega) m 0 (Nat.zero_add _) σ2 none (fun z hz => by rw [if_neg (by omega)]; exact hM.2.1.2 z hz) fm.rf
              · exact plc _ rfl (by omega) (by omega) (by omega)
          · first | refine z_aload_n dX12_copy_56 rfl ?_ | refine z_aload_nT dX12_copy_56 rfl ?_
            refine z_iconst dX12_copy_57 ?_
            refine h_Vi1 (Y' := M_X12_finds) dX12_copy_58 zw_861 zw_863 zs_26 rfl ok_X12_finds (by decide) rfl (Nat.le_of_ble_eq_true rfl) ⟨rfl, rfl⟩ (by decide) (by first | assumption | rfl) (m_finds) (fun vv σ2 hq => ?_)
            obtain ⟨rfl, rfl⟩ := hq
            refine h_iret dX12_copy_61 rfl rfl rfl ?_
            have g1 : ¬ (α 1 p < 0 ∨ α 1 q < 0) := by omega
            have g2 : ¬ α 1 p = α 1 q := by omega
            refine ⟨by unfold aCopy; rw [if_neg (by omega), if_neg (by exact g1), if_pos (by exact g2)]; rfl, ?_⟩
            unfold nCopy
            rw [if_neg (by omega), if_neg (by exact g1), if_pos (by exact g2)]
            exact MI_st hM 5
        · exact nul _ rfl (by omega)
    · exact bad _ rfl (by omega)
def aFeed (α : Mem) (c : Int) : Int := if ¬ (0 ≤ c ∧ c ≤ 255) then BAD else if α 0 1 = 100 then FULL else α 0 1 + 1
def nFeed (α : Mem) (c : Int) : Mem := if ¬ (0 ≤ c ∧ c ≤ 255) then α else if α 0 1 = 100 then α else tapU α (zup (α 4) (α 0 1).toNat c) (α 0 1 + 1)
theorem c_feed {c : Int} (hC : CI σ α) (hO : OK α) (hc : zin c) : KI rc M_X11_feed [zR 0, zI c] σ (cP σ α (aFeed α c) (nFeed α c)) := by
  obtain ⟨N, hN⟩ : ∃ N : Nat, α 0 1 = (N : Int) := ⟨(α 0 1).toNat, by have := hO.1.2.1; omega⟩
  have hb := hO.1.2.1
  have e1 : σ 5 2 = (N : Int) := hC.2.2.1.1.trans hN
  have full : KI rc M_X9_isFull [zR 5] σ (fun v σ' => ((v = 1 ∧ 100 ≤ N) ∨ (v = 0 ∧ ¬ 100 ≤ N)) ∧ σ' = σ) := by
    refine K_of 0 (by decide) (Nat.le_of_ble_eq_true rfl) (show Z _ _ 0 0 0 [some (zR 5)] [] _ _ from ?_)
    first | refine z_aload_n dX9_isFull_0 rfl ?_ | refine z_aload_nT dX9_isFull_0 rfl ?_
    refine h_geti dX9_isFull_1 fl_X9_16 (by first | assumption | rfl) (by rfl) ?_
    refine z_bipush dX9_isFull_4 rfl ?_
    refine z_icmp_lt (tgt := 13) dX9_isFull_6 (by decide) (by omega) (by omega) (fun b6 => ?_) (fun b6 => ?_)
    · refine z_iconst dX9_isFull_13 ?_
      refine h_zret dX9_isFull_14 rfl (by omega) rfl rfl ?_
      exact ⟨by omega, rfl⟩
    · refine z_iconst dX9_isFull_9 ?_
      refine z_goto (tgt := 14) dX9_isFull_10 (by decide) ?_
      refine h_zret dX9_isFull_14 rfl (by omega) rfl rfl ?_
      exact ⟨by omega, rfl⟩
  have add : N < 100 → KI rc M_X9_add [zR 5, zI c] σ (fun v σ' => v = (N : Int) + 1 ∧ σ' = zu (zu σ 6 N c) 5 2 ((N : Int) + 1)) := by
    intro hN2
    refine K_of 0 (by decide) (Nat.le_of_ble_eq_true rfl) (show Z _ _ 0 0 0 [some (zR 5), some (zI c)] [] _ _ from ?_)
    first | refine z_aload_n dX9_add_0 rfl ?_ | refine z_aload_nT dX9_add_0 rfl ?_
    refine h_geti dX9_add_1 fl_X9_16 (by first | assumption | rfl) (by rfl) ?_
    refine z_bipush dX9_add_4 rfl ?_
    refine z_icmp_ge (tgt := 29) dX9_add_6 (by decide) (by omega) (by omega) (fun b6 => ?_) (fun b6 => ?_)
    · omega
    · first | refine z_aload_n dX9_add_9 rfl ?_ | refine z_aload_nT dX9_add_9 rfl ?_
      refine h_getr dX9_add_10 fl_X9_9 (by first | assumption | rfl) (by rfl) ?_
      first | refine z_aload_n dX9_add_13 rfl ?_ | refine z_aload_nT dX9_add_13 rfl ?_
      refine h_geti dX9_add_14 fl_X9_16 (by first | assumption | rfl) (by rfl) ?_
      rw [e1]
      refine z_iload_n dX9_add_17 rfl ?_
      refine h_iast dX9_add_18 (by first | assumption | rfl) (by repeat' first | apply zc_add | apply zc_mul | with_reducible exact zc_var _ | exact zc_lit _) (by omega) (by decide) ?_
      first | refine z_aload_n dX9_add_19 rfl ?_ | refine z_aload_nT dX9_add_19 rfl ?_
      refine z_dup dX9_add_20 rfl ?_
      refine h_geti dX9_add_21 fl_X9_16 (by first | assumption | rfl) (by rfl) ?_
      refine z_iconst dX9_add_24 ?_
      refine z_iadd dX9_add_25 ?_
      refine h_puti dX9_add_26 fp_X9_16 (by first | assumption | rfl) (by rfl) ?_
      first | refine z_aload_n dX9_add_29 rfl ?_ | refine z_aload_nT dX9_add_29 rfl ?_
      refine h_geti dX9_add_30 fl_X9_16 (by first | assumption | rfl) (by rfl) ?_
      refine h_iret dX9_add_33 rfl rfl rfl ?_
      have e2 : zu σ 6 N c 5 2 = (N : Int) := by rw [zu_o (by omega), e1]
      rw [e2]
      exact ⟨zu_eq, rfl⟩
  refine K_of 0 (by decide) (Nat.le_of_ble_eq_true rfl) (show Z _ _ 0 0 0 [some (zR 0), some (zI c)] [] _ _ from ?_)
  refine z_iload_n dX11_feed_0 rfl ?_
  refine z_iconst dX11_feed_1 ?_
  refine z_sipush dX11_feed_2 rfl ?_
  refine h_Si3 (Y' := M_X11_isWithin) dX11_feed_5 zw_265 zw_266 ok_X11_isWithin (by decide) rfl (Nat.le_of_ble_eq_true rfl) ⟨rfl, rfl⟩ (by decide) (c_within hc (by omega) (by omega)) (fun vv σ2 hq => ?_)
  obtain ⟨hv, rfl⟩ := hq
  refine z_if_ne (tgt := 14) dX11_feed_8 (by decide) (by omega) (fun b8 => ?_) (fun b8 => ?_)
  · first | refine z_aload_n dX11_feed_14 rfl ?_ | refine z_aload_nT dX11_feed_14 rfl ?_
    refine h_getr dX11_feed_15 fl_X11_19 (by first | assumption | rfl) (by rfl) ?_
    refine h_Vi0 (Y' := M_X9_isFull) dX11_feed_18 zw_325 zw_326 zw_327 rfl ok_X9_isFull (by decide) rfl (Nat.le_of_ble_eq_true rfl) ⟨rfl, rfl⟩ (by decide) (by first | assumption | rfl) (full) (fun vv σ2 hq => ?_)
    obtain ⟨hv2, rfl⟩ := hq
    refine z_if_eq (tgt := 27) dX11_feed_21 (by decide) (by omega) (fun b21 => ?_) (fun b21 => ?_)
    · first | refine z_aload_n dX11_feed_27 rfl ?_ | refine z_aload_nT dX11_feed_27 rfl ?_
      refine h_getr dX11_feed_28 fl_X11_19 (by first | assumption | rfl) (by rfl) ?_
      refine z_iload_n dX11_feed_31 rfl ?_
      refine h_Vi1 (Y' := M_X9_add) dX11_feed_32 zw_330 zw_331 zw_332 rfl ok_X9_add (by decide) rfl (Nat.le_of_ble_eq_true rfl) ⟨rfl, rfl⟩ (by decide) (by first | assumption | rfl) (add (by omega)) (fun vv σ2 hq => ?_)
      obtain ⟨rfl, rfl⟩ := hq
      refine h_iret dX11_feed_35 rfl rfl rfl ?_
      refine ⟨by unfold aFeed; rw [if_neg (by omega), if_neg (by omega), hN], ?_, fun o j h => by rw [zu_o (by omega), zu_o (by omega)]⟩
      unfold nFeed
      rw [if_neg (by omega), if_neg (by omega), hN]
      obtain ⟨⟨b1, b2⟩, d1, ⟨c1, c2⟩, d, ⟨⟨f1, f2⟩, f3, f4⟩, f, ⟨g1, g2⟩⟩ := hC
      have z : ∀ o j, o ≠ 5 → o ≠ 6 → zu (zu σ2 6 N c) 5 2 ((N : Int) + 1) o j = σ2 o j := fun o j h1 h2 => by rw [zu_o h1, zu_o h2]
      refine ⟨⟨(z _ _ (by omega) (by omega)).trans b1, (z _ _ (by omega) (by omega)).trans b2⟩, d1.eq (fun o j h1 h2 => z o j (by omega) (by omega)), ⟨zu_eq, fun i hi => ?_⟩, cR_eq d (fun o j h1 h2 => z o j (by omega) (by omega)), ⟨⟨(z _ _ (by omega) (by omega)).trans f1, (z _ _ (by omega) (by omega)).trans f2⟩, fun h => cR_eq (f3 h) (fun o j h1 h2 => z o j (by omega) (by omega)), fun h => cR_eq (f4 h) (fun o j h1 h2 => z o j (by omega) (by omega))⟩, (f.eq (fun o j h1 h2 => z o j (by omega) (by omega))).congr tapU_10, ⟨(z _ _ (by omega) (by omega)).trans g1, fun i hi => (z _ _ (by omega) (by omega)).trans (g2 i hi)⟩⟩
      have hi : (i : Int) < (N : Int) + 1 := hi
      show _ = zup (α 4) N c i
      unfold zup
      rw [zu_o (by omega)]
      by_cases h : i = N
      · subst h
        rw [zu_eq, if_pos rfl]
      · rw [zu_j h, if_neg h]
        exact c2 i (by omega)
    · refine z_ldc (n := -1000003) dX11_feed_24 zw_329 rfl ?_
      refine h_iret dX11_feed_26 rfl rfl rfl ?_
      exact ⟨by unfold aFeed; rw [if_neg (by omega), if_pos (by omega)], by unfold nFeed; rw [if_neg (by omega), if_pos (by omega)]; exact hC, fr.rf⟩
  · refine z_ldc (n := -1000001) dX11_feed_11 zw_268 rfl ?_
    refine h_iret dX11_feed_13 rfl rfl rfl ?_
    exact ⟨by unfold aFeed; rw [if_pos (by omega)], by unfold nFeed; rw [if_pos (by omega)]; exact hC, fr.rf⟩
theorem r_feed {c : Int} (hM : MI σ α) (hO : OK α) (hc : zin c) : KI rc M_X12_feed [zR 40, zI c] σ (mP σ α (aFeed α c) (nFeed α c)) := by
  obtain ⟨N, hN⟩ : ∃ N : Nat, α 0 1 = (N : Int) := ⟨(α 0 1).toNat, by have := hO.1.2.1; omega⟩
  have hb := hO.1.2.1
  have e1 : σ 40 4 = (N : Int) := hM.2.2.1.1.trans hN
  refine K_of 0 (by decide) (Nat.le_of_ble_eq_true rfl) (show Z _ _ 0 0 0 [some (zR 40), some (zI c)] [] _ _ from ?_)
  refine z_iload_n dX12_feed_0 rfl ?_
  refine z_iconst dX12_feed_1 ?_
  refine z_sipush dX12_feed_2 rfl ?_
  refine h_Si3 (Y' := M_X12_in) dX12_feed_5 zw_857 zw_858 ok_X12_in (by decide) rfl (Nat.le_of_ble_eq_true rfl) ⟨rfl, rfl⟩ (by decide) (m_within hc (by omega) (by omega)) (fun vv σ2 hq => ?_)
  obtain ⟨hv, rfl⟩ := hq
  refine z_if_ne (tgt := 14) dX12_feed_8 (by decide) (by omega) (fun b8 => ?_) (fun b8 => ?_)
  · first | refine z_aload_n dX12_feed_14 rfl ?_ | refine z_aload_nT dX12_feed_14 rfl ?_
    refine h_geti dX12_feed_15 fl_X12_77 (by first | assumption | rfl) (by rfl) ?_
    refine z_bipush dX12_feed_18 rfl ?_
    refine z_icmp_ne (tgt := 26) dX12_feed_20 (by decide) (by omega) (by omega) (fun b20 => ?_) (fun b20 => ?_)
    · first | refine z_aload_n dX12_feed_26 rfl ?_ | refine z_aload_nT dX12_feed_26 rfl ?_
      refine h_getr dX12_feed_27 fl_X12_19 (by first | assumption | rfl) (by rfl) ?_
      first | refine z_aload_n dX12_feed_30 rfl ?_ | refine z_aload_nT dX12_feed_30 rfl ?_
      refine h_geti dX12_feed_31 fl_X12_77 (by first | assumption | rfl) (by rfl) ?_
      rw [e1]
      refine z_iload_n dX12_feed_34 rfl ?_
      refine h_iast dX12_feed_35 (by first | assumption | rfl) (by repeat' first | apply zc_add | apply zc_mul | with_reducible exact zc_var _ | exact zc_lit _) (by omega) (by decide) ?_
      first | refine z_aload_n dX12_feed_36 rfl ?_ | refine z_aload_nT dX12_feed_36 rfl ?_
      refine z_dup dX12_feed_37 rfl ?_
      refine h_geti dX12_feed_38 fl_X12_77 (by first | assumption | rfl) (by rfl) ?_
      refine z_iconst dX12_feed_41 ?_
      refine z_iadd dX12_feed_42 ?_
      refine h_puti dX12_feed_43 fp_X12_77 (by first | assumption | rfl) (by rfl) ?_
      first | refine z_aload_n dX12_feed_46 rfl ?_ | refine z_aload_nT dX12_feed_46 rfl ?_
      refine h_geti dX12_feed_47 fl_X12_77 (by first | assumption | rfl) (by rfl) ?_
      refine h_iret dX12_feed_50 rfl rfl rfl ?_
      have e2 : zu σ2 44 N c 40 4 = (N : Int) := by rw [zu_o (by omega), e1]
      rw [e2]
      refine ⟨by unfold aFeed; rw [if_neg (by omega), if_neg (by omega), hN, zu_eq], ?_, fun o j h => by rw [zu_o (by omega), zu_o (by omega)]⟩
      unfold nFeed
      rw [if_neg (by omega), if_neg (by omega), hN]
      obtain ⟨⟨b1, b2⟩, ⟨d1, d2⟩, ⟨c1, c2⟩, d, ⟨⟨f1, f2⟩, f3, f4⟩, ⟨k1, k2⟩, ⟨g1, g2⟩⟩ := hM
      have z : ∀ o j, (o = 40 → j ≠ 4) → o ≠ 44 → zu (zu σ2 44 N c) 40 4 ((N : Int) + 1) o j = σ2 o j := fun o j h1 h2 => by
        by_cases ho : o = 40
        · subst ho
          rw [zu_j (by omega), zu_o (by omega)]
        · rw [zu_o ho, zu_o h2]
      refine ⟨⟨(z _ _ (by omega) (by omega)).trans b1, (z _ _ (by omega) (by omega)).trans b2⟩, ⟨fun r hr => ⟨(z _ _ (by omega) (by omega)).trans (d1 r hr).1, (z _ _ (by omega) (by omega)).trans (d1 r hr).2⟩, fun i hi => (z _ _ (by omega) (by omega)).trans (d2 i hi)⟩, ⟨zu_eq, fun i hi => ?_⟩, fun i hi => (z _ _ (by omega) (by omega)).trans (d i hi), ⟨⟨(z _ _ (by omega) (by omega)).trans f1, (z _ _ (by omega) (by omega)).trans f2⟩, fun h i hi => (z _ _ (by omega) (by omega)).trans (f3 h i hi), fun h i hi => (z _ _ (by omega) (by omega)).trans (f4 h i hi)⟩, ⟨(z _ _ (by omega) (by omega)).trans k1, fun j hj i hi => by rw [tapU_10]; exact (z _ _ (by omega) (by omega)).trans (k2 j hj i hi)⟩, ⟨(z _ _ (by omega) (by omega)).trans g1, fun i hi => (z _ _ (by omega) (by omega)).trans (g2 i hi)⟩⟩
      have hi : (i : Int) < (N : Int) + 1 := hi
      show _ = zup (α 4) N c i
      unfold zup
      rw [zu_o (by omega)]
      by_cases h : i = N
      · subst h
        rw [zu_eq, if_pos rfl]
      · rw [zu_j h, if_neg h]
        exact c2 i (by omega)
    · refine z_ldc (n := -1000003) dX12_feed_23 zw_889 rfl ?_
      refine h_iret dX12_feed_25 rfl rfl rfl ?_
      exact ⟨by unfold aFeed; rw [if_neg (by omega), if_pos (by omega)], by unfold nFeed; rw [if_neg (by omega), if_pos (by omega)]; exact hM, fr.rf⟩
  · refine z_ldc (n := -1000001) dX12_feed_11 zw_860 rfl ?_
    refine h_iret dX12_feed_13 rfl rfl rfl ?_
    exact ⟨by unfold aFeed; rw [if_pos (by omega)], by unfold nFeed; rw [if_pos (by omega)]; exact hM, fr.rf⟩
end
