/-! fire: the reference -/
section
variable {rc : ZRC} {σ α : Mem}
theorem m_isIn {s p : Nat} (hs : s < 32) (hp5 : p < 5) : KI rc M_X12_isIn [zI (s : Int), zI (p : Int)] σ (fun v σ' => v = (if s.testBit p then 1 else 0) ∧ σ' = σ) := by
  refine K_of 0 (by decide) (Nat.le_of_ble_eq_true rfl) (show Z _ _ 0 0 0 [some (zI (s : Int)), some (zI (p : Int))] [] _ _ from ?_)
  refine z_iload_n dX12_isIn_0 rfl ?_
  refine z_iload_n dX12_isIn_1 rfl ?_
  refine z_ishr (Int32.ofInt (s : Int) >>> (Int32.ofInt (p : Int) &&& 31)).toInt dX12_isIn_2 (Int32.ofInt_toInt _).symm ?_
  refine z_iconst dX12_isIn_3 ?_
  refine z_iand (if s.testBit p then 1 else 0) dX12_isIn_4 (by rw [Int32.ofInt_toInt]; exact bit_java s p hs hp5) ?_
  by_cases hb : s.testBit p = true
  · rw [if_pos hb]
    refine z_iconst dX12_isIn_5 ?_
    refine z_icmp_ne (tgt := 13) dX12_isIn_6 (by decide) (by omega) (by omega) (fun b6 => ?_) (fun b6 => ?_)
    · omega
    · refine z_iconst dX12_isIn_9 ?_
      refine z_goto (tgt := 14) dX12_isIn_10 (by decide) ?_
      refine h_zret dX12_isIn_14 rfl (by omega) rfl rfl ?_
      exact ⟨rfl, rfl⟩
  · rw [if_neg hb]
    refine z_iconst dX12_isIn_5 ?_
    refine z_icmp_ne (tgt := 13) dX12_isIn_6 (by decide) (by omega) (by omega) (fun b6 => ?_) (fun b6 => ?_)
    · refine z_iconst dX12_isIn_13 ?_
      refine h_zret dX12_isIn_14 rfl (by omega) rfl rfl ?_
      exact ⟨rfl, rfl⟩
    · omega
theorem r_fire {q c w : Int} (hM : MI σ α) (hO : OK α) (hq : zin q) (hc : zin c) (hw : zin w) : KI rc M_X12_fire [zR 40, zI q, zI c, zI w] σ (mP σ α (aFire α q c w) α) := by
  have h3 := OKc_3 hO
  have h8 := OKc_8 hO
  have hR := hM.2.2.2.1
  have e5 := hR 3 (by omega)
  have hzq := hq
  clear hq
  have bad : ∀ σ2 : Mem, σ2 = σ → ¬ α 5 8 = 0 → (¬ (0 ≤ q ∧ q ≤ 200) ∨ ¬ (0 ≤ c ∧ c ≤ 10) ∨ ¬ (0 ≤ w ∧ w ≤ 1)) → Z rc M_X12_fire 0 0 40 [some (zR 40), some (zI q), some (zI c), some (zI w), none, none, none, none, none, none] [] (hp σ2) (qI (mP σ α (aFire α q c w) α)) := by
    intro σ2 e hn hb
    subst e
    refine z_ldc (n := -1000001) dX12_fire_40 zw_860 rfl ?_
    refine h_iret dX12_fire_42 rfl rfl rfl ?_
    exact ⟨by unfold aFire; rw [if_neg hn, if_pos hb], hM, fr.rf⟩
  refine K_of 6 (by decide) (Nat.le_of_ble_eq_true rfl) (show Z _ _ 0 0 0 [some (zR 40), some (zI q), some (zI c), some (zI w), none, none, none, none, none, none] [] _ _ from ?_)
  first | refine z_aload_n dX12_fire_0 rfl ?_ | refine z_aload_nT dX12_fire_0 rfl ?_
  refine h_Vi0 (Y' := M_X12_isCoast) dX12_fire_1 zw_941 zw_943 zs_36 rfl ok_X12_isCoast (by decide) rfl (Nat.le_of_ble_eq_true rfl) ⟨rfl, rfl⟩ (by decide) (by first | assumption | rfl) (m_isCoast (hR 8 (by omega)) h8) (fun vv σ2 hq => ?_)
  obtain ⟨rfl, rfl⟩ := hq
  refine z_if_ne (tgt := 10) dX12_fire_4 (by decide) (by omega) (fun b4 => ?_) (fun b4 => ?_)
  · have hk := OKc_s hO (by omega)
    refine z_iload_n dX12_fire_10 rfl ?_
    refine z_iconst dX12_fire_11 ?_
    refine z_sipush dX12_fire_12 rfl ?_
    refine h_Si3 (Y' := M_X12_in) dX12_fire_15 zw_857 zw_858 ok_X12_in (by decide) rfl (Nat.le_of_ble_eq_true rfl) ⟨rfl, rfl⟩ (by decide) (m_within hzq (by omega) (by omega)) (fun vv σ2 hq => ?_)
    obtain ⟨hv1, rfl⟩ := hq
    refine z_if_eq (tgt := 40) dX12_fire_18 (by decide) (by omega) (fun b18 => ?_) (fun b18 => ?_)
    · exact bad _ rfl (by omega) (by omega)
    · refine z_iload_n dX12_fire_21 rfl ?_
      refine z_iconst dX12_fire_22 ?_
      refine z_bipush dX12_fire_23 rfl ?_
      refine h_Si3 (Y' := M_X12_in) dX12_fire_25 zw_857 zw_858 ok_X12_in (by decide) rfl (Nat.le_of_ble_eq_true rfl) ⟨rfl, rfl⟩ (by decide) (m_within hc (by omega) (by omega)) (fun vv σ2 hq => ?_)
      obtain ⟨hv2, rfl⟩ := hq
      refine z_if_eq (tgt := 40) dX12_fire_28 (by decide) (by omega) (fun b28 => ?_) (fun b28 => ?_)
      · exact bad _ rfl (by omega) (by omega)
      · refine z_iload_n dX12_fire_31 rfl ?_
        refine z_iconst dX12_fire_32 ?_
        refine z_iconst dX12_fire_33 ?_
        refine h_Si3 (Y' := M_X12_in) dX12_fire_34 zw_857 zw_858 ok_X12_in (by decide) rfl (Nat.le_of_ble_eq_true rfl) ⟨rfl, rfl⟩ (by decide) (m_within hw (by omega) (by omega)) (fun vv σ2 hq => ?_)
        obtain ⟨hv3, rfl⟩ := hq
        refine z_if_ne (tgt := 43) dX12_fire_37 (by decide) (by omega) (fun b37 => ?_) (fun b37 => ?_)
        · obtain ⟨m, hm⟩ : ∃ x : Nat, α 5 3 = (x : Int) := ⟨(α 5 3).toNat, by omega⟩
          have hm2 : (α 5 3).toNat = m := by omega
          have hm5 : m ≤ 5 := by omega
          have hpw := pow5 m hm5
          have htn := tnF_in m hm5
          have hab := abF_in (t := α 5) (q := q) (c := c) (k := m) (by omega) (by omega) hm5
          have gcd : ∀ (A T : Nat), abF (α 5) q c m = (A : Int) → tnF m = (T : Int) → ∀ (y x : Nat) (x8 x9 : Option ZV), x ≤ 3200000 → y ≤ 100000 → 0 < x.gcd y → x.gcd y = A.gcd T → Z rc M_X12_fire 0 0 200 [some (zR 40), some (zI q), some (zI c), some (zI w), some (zI (A : Int)), some (zI (T : Int)), some (zI (x : Int)), some (zI (y : Int)), x8, x9] [] (hp σ2) (qI (mP σ2 α (aFire α q c w) α)) := by
            intro A T hA hT y
            induction y using Nat.strongRecOn with
            | _ y ih =>
              intro x x8 x9 hx hy hg0 hg
              refine z_iload dX12_fire_200 rfl ?_
              refine z_if_le (tgt := 223) dX12_fire_202 (by decide) (by omega) (fun b202 => ?_) (fun b202 => ?_)
              · have hy0 : y = 0 := by omega
                subst hy0
                rw [Nat.gcd_zero_right] at hg hg0
                have hans : aFire α q c w = (if w = 0 then (A : Int) else (T : Int)) / (x : Int) := by
                  unfold aFire
                  rw [if_neg (by omega), if_neg (by omega), hm2, hA, hT, hg]
                  rfl
                refine z_iload_n dX12_fire_223 rfl ?_
                refine z_if_ne (tgt := 232) dX12_fire_224 (by decide) (by omega) (fun b224 => ?_) (fun b224 => ?_)
                · refine z_iload dX12_fire_232 rfl ?_
                  refine z_iload dX12_fire_234 rfl ?_
                  refine z_idiv dX12_fire_236 (by omega) (by omega) (by omega) (by omega) ?_
                  refine h_iret dX12_fire_237 rfl rfl rfl ?_
                  exact ⟨by rw [hans, if_neg (by omega)], hM, fr.rf⟩
                · refine z_iload dX12_fire_227 rfl ?_
                  refine z_goto (tgt := 234) dX12_fire_229 (by decide) ?_
                  refine z_iload dX12_fire_234 rfl ?_
                  refine z_idiv dX12_fire_236 (by omega) (by omega) (by omega) (by omega) ?_
                  refine h_iret dX12_fire_237 rfl rfl rfl ?_
                  exact ⟨by rw [hans, if_pos (by omega)], hM, fr.rf⟩
              · have hm1 : x % y < y := Nat.mod_lt x (by omega)
                have hgg : x.gcd y = y.gcd (x % y) := by
                  rw [Nat.gcd_comm x y, Nat.gcd_rec y x, Nat.gcd_comm]
                refine z_iload dX12_fire_205 rfl ?_
                refine z_iload dX12_fire_207 rfl ?_
                refine z_irem dX12_fire_209 (by omega) (by omega) (by omega) (by omega) ?_
                rw [← Int.natCast_emod]
                refine z_istore dX12_fire_210 (by decide) rfl ?_
                refine z_iload dX12_fire_212 rfl ?_
                refine z_istore dX12_fire_214 (by decide) rfl ?_
                refine z_iload dX12_fire_216 rfl ?_
                refine z_istore dX12_fire_218 (by decide) rfl ?_
                refine z_goto (tgt := 200) dX12_fire_220 (by decide) ?_
                exact ih (x % y) hm1 y _ _ (by omega) (by omega) (by omega) (by omega)
          have loop2 : ∀ k s : Nat, s + k = 2 ^ m → ∀ x7 x8 x9 : Option ZV, Z rc M_X12_fire 0 0 79 [some (zR 40), some (zI q), some (zI c), some (zI w), some (zI (suF (fun s => gaF (α 5) q c m (fun p => !s.testBit p)) s)), some (zI (tnF m)), some (zI (s : Int)), x7, x8, x9] [] (hp σ2) (qI (mP σ2 α (aFire α q c w) α)) := by
            intro k
            induction k with
            | zero =>
              intro s hs x7 x8 x9
              have es : s = 2 ^ m := by omega
              subst es
              rw [abF_rev]
              obtain ⟨A, hA⟩ : ∃ x : Nat, abF (α 5) q c m = (x : Int) := ⟨(abF (α 5) q c m).toNat, by omega⟩
              obtain ⟨T, hT⟩ : ∃ x : Nat, tnF m = (x : Int) := ⟨(tnF m).toNat, by omega⟩
              have hgo := gcd A T hA hT T A
              rw [hA] at hab ⊢
              rw [hT] at htn ⊢
              have hg1 : 0 < A.gcd T := Nat.gcd_pos_of_pos_right A (by omega)
              refine z_iload dX12_fire_79 rfl ?_
              refine z_iconst dX12_fire_81 ?_
              first | refine z_aload_n dX12_fire_82 rfl ?_ | refine z_aload_nT dX12_fire_82 rfl ?_
              refine h_getr dX12_fire_83 fl_X12_22 (by first | assumption | rfl) (by rfl) ?_
              refine z_iconst dX12_fire_86 ?_
              first | refine h_iald dX12_fire_87 (by first | assumption | rfl) (by repeat' first | apply zc_add | apply zc_mul | with_reducible exact zc_var _ | exact zc_lit _) (by omega) (by decide) ?_ | refine z_ialdT _ dX12_fire_87 (by assumption) (by repeat' first | apply zc_add | apply zc_mul | with_reducible exact zc_var _ | exact zc_lit _) (by omega) (by omega) ?_
              rw [e5, hm]
              refine z_ishl ((2 ^ m : Nat) : Int) dX12_fire_88 (shl_java m (by omega)) ?_
              refine z_icmp_ge (tgt := 192) dX12_fire_89 (by decide) (by omega) (by omega) (fun b89 => ?_) (fun b89 => ?_)
              · refine z_iload dX12_fire_192 rfl ?_
                refine z_istore dX12_fire_194 (by decide) rfl ?_
                refine z_iload dX12_fire_196 rfl ?_
                refine z_istore dX12_fire_198 (by decide) rfl ?_
                exact hgo _ _ (by omega) (by omega) hg1 rfl
              · omega
            | succ k ih =>
              intro s hs x7 x8 x9
              have eg : gaF (α 5) q c m (fun p => !s.testBit p) = if fiT (α 5) (fun p => !s.testBit p) m < q then 0 else fiC c (fun p => !s.testBit p) m := rfl
              have inner : ∀ k p : Nat, p + k = m → Z rc M_X12_fire 0 0 101 [some (zR 40), some (zI q), some (zI c), some (zI w), some (zI (suF (fun s => gaF (α 5) q c m (fun p => !s.testBit p)) s)), some (zI (tnF m)), some (zI (s : Int)), some (zI (fiC c (fun p => !s.testBit p) p)), some (zI (fiT (α 5) (fun p => !s.testBit p) p)), some (zI (p : Int))] [] (hp σ2) (qI (mP σ2 α (aFire α q c w) α)) := by
                intro k'
                induction k' with
                | zero =>
                  intro p hpk
                  have : p = m := by omega
                  subst this
                  have hft := fiT_in (b := fun p => !s.testBit p) hk p (by omega)
                  have hih := ih (s + 1) (by omega) (some (zI (fiC c (fun p => !s.testBit p) p))) (some (zI (fiT (α 5) (fun p => !s.testBit p) p))) (some (zI (p : Int)))
                  rw [suF_s, nsucc] at hih
                  refine z_iload dX12_fire_101 rfl ?_
                  first | refine z_aload_n dX12_fire_103 rfl ?_ | refine z_aload_nT dX12_fire_103 rfl ?_
                  refine h_getr dX12_fire_104 fl_X12_22 (by first | assumption | rfl) (by rfl) ?_
                  refine z_iconst dX12_fire_107 ?_
                  first | refine h_iald dX12_fire_108 (by first | assumption | rfl) (by repeat' first | apply zc_add | apply zc_mul | with_reducible exact zc_var _ | exact zc_lit _) (by omega) (by decide) ?_ | refine z_ialdT _ dX12_fire_108 (by assumption) (by repeat' first | apply zc_add | apply zc_mul | with_reducible exact zc_var _ | exact zc_lit _) (by omega) (by omega) ?_
                  refine z_icmp_ge (tgt := 169) dX12_fire_109 (by decide) (by omega) (by omega) (fun b109 => ?_) (fun b109 => ?_)
                  · refine z_iload dX12_fire_169 rfl ?_
                    refine z_iload dX12_fire_171 rfl ?_
                    refine z_iload_n dX12_fire_173 rfl ?_
                    refine z_icmp_lt (tgt := 182) dX12_fire_174 (by decide) (by omega) (by omega) (fun b174 => ?_) (fun b174 => ?_)
                    · rw [if_pos (by omega)] at eg
                      refine z_iconst dX12_fire_182 ?_
                      refine z_iadd dX12_fire_183 ?_
                      refine z_istore dX12_fire_184 (by decide) rfl ?_
                      refine z_iinc dX12_fire_186 rfl (by decide) rfl ?_
                      refine z_goto (tgt := 79) dX12_fire_189 (by decide) ?_
                      rw [eg] at hih
                      exact hih
                    · rw [if_neg (by omega)] at eg
                      refine z_iload dX12_fire_177 rfl ?_
                      refine z_goto (tgt := 183) dX12_fire_179 (by decide) ?_
                      refine z_iadd dX12_fire_183 ?_
                      refine z_istore dX12_fire_184 (by decide) rfl ?_
                      refine z_iinc dX12_fire_186 rfl (by decide) rfl ?_
                      refine z_goto (tgt := 79) dX12_fire_189 (by decide) ?_
                      rw [eg] at hih
                      exact hih
                  · omega
                | succ k' ih' =>
                  intro p hpk
                  have hih := ih' (p + 1) (by omega)
                  rw [fiC_s, fiT_s, nsucc] at hih
                  refine z_iload dX12_fire_101 rfl ?_
                  first | refine z_aload_n dX12_fire_103 rfl ?_ | refine z_aload_nT dX12_fire_103 rfl ?_
                  refine h_getr dX12_fire_104 fl_X12_22 (by first | assumption | rfl) (by rfl) ?_
                  refine z_iconst dX12_fire_107 ?_
                  first | refine h_iald dX12_fire_108 (by first | assumption | rfl) (by repeat' first | apply zc_add | apply zc_mul | with_reducible exact zc_var _ | exact zc_lit _) (by omega) (by decide) ?_ | refine z_ialdT _ dX12_fire_108 (by assumption) (by repeat' first | apply zc_add | apply zc_mul | with_reducible exact zc_var _ | exact zc_lit _) (by omega) (by omega) ?_
                  refine z_icmp_ge (tgt := 169) dX12_fire_109 (by decide) (by omega) (by omega) (fun b109 => ?_) (fun b109 => ?_)
                  · omega
                  · refine z_iload dX12_fire_112 rfl ?_
                    refine z_iload dX12_fire_114 rfl ?_
                    refine z_iload dX12_fire_116 rfl ?_
                    refine h_Si2 (Y' := M_X12_isIn) dX12_fire_118 zw_1064 zw_1065 ok_X12_isIn (by decide) rfl (Nat.le_of_ble_eq_true rfl) ⟨rfl, rfl⟩ (by decide) (m_isIn (by omega) (by omega)) (fun vv σ2 hq => ?_)
                    obtain ⟨rfl, rfl⟩ := hq
                    by_cases hb : s.testBit p = true
                    · rw [if_pos hb]
                      have hb2 : ¬ (!s.testBit p) = true := by rw [hb]; decide
                      rw [if_neg hb2, if_neg hb2] at hih
                      refine z_if_eq (tgt := 128) dX12_fire_121 (by decide) (by omega) (fun b121 => ?_) (fun b121 => ?_)
                      · omega
                      · refine z_iload_n dX12_fire_124 rfl ?_
                        refine z_goto (tgt := 132) dX12_fire_125 (by decide) ?_
                        refine z_imul dX12_fire_132 ?_
                        refine z_istore dX12_fire_133 (by decide) rfl ?_
                        refine z_iload dX12_fire_135 rfl ?_
                        refine z_iload dX12_fire_137 rfl ?_
                        refine z_iload dX12_fire_139 rfl ?_
                        refine h_Si2 (Y' := M_X12_isIn) dX12_fire_141 zw_1064 zw_1065 ok_X12_isIn (by decide) rfl (Nat.le_of_ble_eq_true rfl) ⟨rfl, rfl⟩ (by decide) (m_isIn (by omega) (by omega)) (fun vv σ2 hq => ?_)
                        obtain ⟨rfl, rfl⟩ := hq
                        rw [if_pos hb]
                        refine z_if_eq (tgt := 151) dX12_fire_144 (by decide) (by omega) (fun b144 => ?_) (fun b144 => ?_)
                        · omega
                        · refine z_iconst dX12_fire_147 ?_
                          refine z_goto (tgt := 160) dX12_fire_148 (by decide) ?_
                          refine z_iadd dX12_fire_160 ?_
                          refine z_istore dX12_fire_161 (by decide) rfl ?_
                          refine z_iinc dX12_fire_163 rfl (by decide) rfl ?_
                          refine z_goto (tgt := 101) dX12_fire_166 (by decide) ?_
                          exact hih
                    · rw [if_neg hb]
                      have hb2 : (!s.testBit p) = true := by simpa using hb
                      rw [if_pos hb2, if_pos hb2] at hih
                      refine z_if_eq (tgt := 128) dX12_fire_121 (by decide) (by omega) (fun b121 => ?_) (fun b121 => ?_)
                      · refine z_bipush dX12_fire_128 rfl ?_
                        refine z_iload_n dX12_fire_130 rfl ?_
                        refine z_isub dX12_fire_131 ?_
                        refine z_imul dX12_fire_132 ?_
                        refine z_istore dX12_fire_133 (by decide) rfl ?_
                        refine z_iload dX12_fire_135 rfl ?_
                        refine z_iload dX12_fire_137 rfl ?_
                        refine z_iload dX12_fire_139 rfl ?_
                        refine h_Si2 (Y' := M_X12_isIn) dX12_fire_141 zw_1064 zw_1065 ok_X12_isIn (by decide) rfl (Nat.le_of_ble_eq_true rfl) ⟨rfl, rfl⟩ (by decide) (m_isIn (by omega) (by omega)) (fun vv σ2 hq => ?_)
                        obtain ⟨rfl, rfl⟩ := hq
                        rw [if_neg hb]
                        refine z_if_eq (tgt := 151) dX12_fire_144 (by decide) (by omega) (fun b144 => ?_) (fun b144 => ?_)
                        · first | refine z_aload_n dX12_fire_151 rfl ?_ | refine z_aload_nT dX12_fire_151 rfl ?_
                          refine h_getr dX12_fire_152 fl_X12_22 (by first | assumption | rfl) (by rfl) ?_
                          refine z_iload dX12_fire_155 rfl ?_
                          refine h_Si2 (Y' := M_X12_takeOf) dX12_fire_157 zw_959 zw_960 ok_X12_takeOf (by decide) rfl (Nat.le_of_ble_eq_true rfl) ⟨rfl, rfl⟩ (by decide) (m_takeOf rfl hR hk (by omega)) (fun vv σ2 hq => ?_)
                          obtain ⟨rfl, rfl⟩ := hq
                          refine z_iadd dX12_fire_160 ?_
                          refine z_istore dX12_fire_161 (by decide) rfl ?_
                          refine z_iinc dX12_fire_163 rfl (by decide) rfl ?_
                          refine z_goto (tgt := 101) dX12_fire_166 (by decide) ?_
                          exact hih
                        · omega
                      · omega
              refine z_iload dX12_fire_79 rfl ?_
              refine z_iconst dX12_fire_81 ?_
              first | refine z_aload_n dX12_fire_82 rfl ?_ | refine z_aload_nT dX12_fire_82 rfl ?_
              refine h_getr dX12_fire_83 fl_X12_22 (by first | assumption | rfl) (by rfl) ?_
              refine z_iconst dX12_fire_86 ?_
              first | refine h_iald dX12_fire_87 (by first | assumption | rfl) (by repeat' first | apply zc_add | apply zc_mul | with_reducible exact zc_var _ | exact zc_lit _) (by omega) (by decide) ?_ | refine z_ialdT _ dX12_fire_87 (by assumption) (by repeat' first | apply zc_add | apply zc_mul | with_reducible exact zc_var _ | exact zc_lit _) (by omega) (by omega) ?_
              rw [e5, hm]
              refine z_ishl ((2 ^ m : Nat) : Int) dX12_fire_88 (shl_java m (by omega)) ?_
              refine z_icmp_ge (tgt := 192) dX12_fire_89 (by decide) (by omega) (by omega) (fun b89 => ?_) (fun b89 => ?_)
              · omega
              · refine z_iconst dX12_fire_92 ?_
                refine z_istore dX12_fire_93 (by decide) rfl ?_
                refine z_iconst dX12_fire_95 ?_
                refine z_istore dX12_fire_96 (by decide) rfl ?_
                refine z_iconst dX12_fire_98 ?_
                refine z_istore dX12_fire_99 (by decide) rfl ?_
                exact inner _ 0 (Nat.zero_add _)
          have loop1 : ∀ k p : Nat, p + k = m → Z rc M_X12_fire 0 0 52 [some (zR 40), some (zI q), some (zI c), some (zI w), some (zI 0), some (zI (tnF p)), some (zI (p : Int)), none, none, none] [] (hp σ2) (qI (mP σ2 α (aFire α q c w) α)) := by
            intro k
            induction k with
            | zero =>
              intro p hpk
              have : p = m := by omega
              subst this
              refine z_iload dX12_fire_52 rfl ?_
              first | refine z_aload_n dX12_fire_54 rfl ?_ | refine z_aload_nT dX12_fire_54 rfl ?_
              refine h_getr dX12_fire_55 fl_X12_22 (by first | assumption | rfl) (by rfl) ?_
              refine z_iconst dX12_fire_58 ?_
              first | refine h_iald dX12_fire_59 (by first | assumption | rfl) (by repeat' first | apply zc_add | apply zc_mul | with_reducible exact zc_var _ | exact zc_lit _) (by omega) (by decide) ?_ | refine z_ialdT _ dX12_fire_59 (by assumption) (by repeat' first | apply zc_add | apply zc_mul | with_reducible exact zc_var _ | exact zc_lit _) (by omega) (by omega) ?_
              refine z_icmp_ge (tgt := 76) dX12_fire_60 (by decide) (by omega) (by omega) (fun b60 => ?_) (fun b60 => ?_)
              · refine z_iconst dX12_fire_76 ?_
                refine z_istore dX12_fire_77 (by decide) rfl ?_
                exact loop2 _ 0 (Nat.zero_add _) none none none
              · omega
            | succ k ih =>
              intro p hpk
              have hih := ih (p + 1) (by omega)
              rw [tnF_s, nsucc] at hih
              refine z_iload dX12_fire_52 rfl ?_
              first | refine z_aload_n dX12_fire_54 rfl ?_ | refine z_aload_nT dX12_fire_54 rfl ?_
              refine h_getr dX12_fire_55 fl_X12_22 (by first | assumption | rfl) (by rfl) ?_
              refine z_iconst dX12_fire_58 ?_
              first | refine h_iald dX12_fire_59 (by first | assumption | rfl) (by repeat' first | apply zc_add | apply zc_mul | with_reducible exact zc_var _ | exact zc_lit _) (by omega) (by decide) ?_ | refine z_ialdT _ dX12_fire_59 (by assumption) (by repeat' first | apply zc_add | apply zc_mul | with_reducible exact zc_var _ | exact zc_lit _) (by omega) (by omega) ?_
              refine z_icmp_ge (tgt := 76) dX12_fire_60 (by decide) (by omega) (by omega) (fun b60 => ?_) (fun b60 => ?_)
              · omega
              · refine z_iload dX12_fire_63 rfl ?_
                refine z_bipush dX12_fire_65 rfl ?_
                refine z_imul dX12_fire_67 ?_
                refine z_istore dX12_fire_68 (by decide) rfl ?_
                refine z_iinc dX12_fire_70 rfl (by decide) rfl ?_
                refine z_goto (tgt := 52) dX12_fire_73 (by decide) ?_
                exact hih
          refine z_iconst dX12_fire_43 ?_
          refine z_istore dX12_fire_44 (by decide) rfl ?_
          refine z_iconst dX12_fire_46 ?_
          refine z_istore dX12_fire_47 (by decide) rfl ?_
          refine z_iconst dX12_fire_49 ?_
          refine z_istore dX12_fire_50 (by decide) rfl ?_
          exact loop1 _ 0 (Nat.zero_add _)
        · exact bad _ rfl (by omega) (by omega)
  · refine z_ldc (n := -1000002) dX12_fire_7 zw_945 rfl ?_
    refine h_iret dX12_fire_9 rfl rfl rfl ?_
    exact ⟨by unfold aFire; rw [if_pos (by omega)], hM, fr.rf⟩
end
