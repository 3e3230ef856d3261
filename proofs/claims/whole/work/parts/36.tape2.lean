/-! the tape: rows of numbers, the law, the piers; class -/
abbrev PR : Type := Bool × Nat × Int × (Nat → Int)
abbrev PR.ok (R : PR) : Bool := R.1
abbrev PR.pl (R : PR) : Nat := R.2.1
abbrev PR.fa (R : PR) : Int := R.2.2.1
abbrev PR.va (R : PR) : Nat → Int := R.2.2.2
def sgF (n k : Nat) : Int := if k + 1 < n then 44 else 59
def psL (f : Nat → Int) (N : Nat) (lo hi : Nat → Int) (n : Nat) : Nat → Nat → Nat → (Nat → Int) → PR
  | 0, _, a, v => ⟨true, a, 0, v⟩
  | m + 1, k, a, v => if ¬ (1 ≤ jF f N a ∧ jF f N a ≤ 2) then ⟨false, a, 1, v⟩ else if ¬ (lo k ≤ vF f N a ∧ vF f N a ≤ hi k) then ⟨false, a, 2, v⟩ else if ¬ (a + jF f N a < N ∧ f (a + jF f N a) = sgF n k) then ⟨false, a + jF f N a, 1, v⟩ else psL f N lo hi n m (k + 1) (a + jF f N a + 1) (zup v k (vF f N a))
theorem psL_s {f : Nat → Int} {N : Nat} {lo hi : Nat → Int} {n m k a : Nat} {v : Nat → Int} : psL f N lo hi n (m + 1) k a v = if ¬ (1 ≤ jF f N a ∧ jF f N a ≤ 2) then ⟨false, a, 1, v⟩ else if ¬ (lo k ≤ vF f N a ∧ vF f N a ≤ hi k) then ⟨false, a, 2, v⟩ else if ¬ (a + jF f N a < N ∧ f (a + jF f N a) = sgF n k) then ⟨false, a + jF f N a, 1, v⟩ else psL f N lo hi n m (k + 1) (a + jF f N a + 1) (zup v k (vF f N a)) := rfl
theorem psL_at {f : Nat → Int} {N : Nat} {lo hi : Nat → Int} {n : Nat} : ∀ m k a v, a ≤ N → a ≤ (psL f N lo hi n m k a v).pl ∧ (psL f N lo hi n m k a v).pl ≤ N
  | 0, _, a, _, h => ⟨Nat.le_refl a, h⟩
  | m + 1, k, a, v, h => by
    have hj : jF f N a ≤ N - a := rlF_le (f := f) (N - a) a
    rw [psL_s]
    split
    · exact ⟨Nat.le_refl a, h⟩
    · split
      · exact ⟨Nat.le_refl a, h⟩
      · split
        · exact ⟨Nat.le_add_right _ _, by show a + jF f N a ≤ N; omega⟩
        · rename_i h3
          have := psL_at (f := f) (N := N) (lo := lo) (hi := hi) (n := n) m (k + 1) (a + jF f N a + 1) (zup v k (vF f N a)) (by omega)
          exact ⟨by omega, this.2⟩
theorem psL_va {f : Nat → Int} {N : Nat} {lo hi : Nat → Int} {n : Nat} : ∀ m k a v, (psL f N lo hi n m k a v).ok = true → (∀ j, k ≤ j → j < k + m → lo j ≤ (psL f N lo hi n m k a v).va j ∧ (psL f N lo hi n m k a v).va j ≤ hi j) ∧ ∀ j, j < k → (psL f N lo hi n m k a v).va j = v j
  | 0, k, a, v, _ => ⟨fun j h1 h2 => by omega, fun _ _ => rfl⟩
  | m + 1, k, a, v, h => by
    rw [psL_s] at h ⊢
    split at h
    · cases h
    · rename_i h1
      rw [if_neg h1]
      split at h
      · cases h
      · rename_i h2
        rw [if_neg h2]
        split at h
        · cases h
        · rename_i h3
          rw [if_neg h3]
          have ih := psL_va (f := f) (N := N) (lo := lo) (hi := hi) (n := n) m (k + 1) (a + jF f N a + 1) (zup v k (vF f N a)) h
          refine ⟨fun j j1 j2 => ?_, fun j j1 => ?_⟩
          · by_cases hjk : j = k
            · subst hjk
              rw [ih.2 j (by omega)]
              unfold zup
              rw [if_pos rfl]
              omega
            · exact ih.1 j (by omega) (by omega)
          · rw [ih.2 j (by omega), zup_ne (by omega)]
def RN (n : Nat) (σ : Mem) (R : PR) (v : Int) (σ' : Mem) : Prop := ((v = 1 ∧ R.ok = true ∧ ∀ j, j < n → σ' 7 j = R.va j) ∨ (v = 0 ∧ R.ok = false ∧ σ' 5 4 = R.fa)) ∧ σ' 5 3 = (R.pl : Int) ∧ ∀ o j, o ≠ 7 → ¬ (o = 5 ∧ (j = 3 ∨ j = 4)) → σ' o j = σ o j
section
variable {rc : ZRC} {σ α : Mem} {f : Nat → Int} {N a : Nat}
theorem k_readNumbers {j1 j2 n : Nat} {lo hi : Nat → Int} (h1 : rc j1 = some (n, lo)) (h2 : rc j2 = some (n, hi)) (hn : 1 ≤ n ∧ n ≤ 5) (hz : ∀ k, k < n → zin (lo k) ∧ zin (hi k)) (hT : TC σ f N a) (hF : TF f N) (ha : a ≤ N) (v0 : Nat → Int) : KI rc M_X9_readNumbers [zR 5, zT j1, zT j2] σ (RN n σ (psL f N lo hi n n 0 a v0)) := by
  have loop : ∀ m k : Nat, k + m = n → ∀ (a : Nat) (v : Nat → Int) (σ' : Mem), a ≤ N → TC σ' f N a → (∀ j, j < k → σ' 7 j = v j) → (∀ o j, o ≠ 7 → ¬ (o = 5 ∧ (j = 3 ∨ j = 4)) → σ' o j = σ o j) → Z rc M_X9_readNumbers 0 0 8 [some (zR 5), some (zT j1), some (zT j2), some (zI ((n : Int) - 1)), some (zI (k : Int))] [] (hp σ') (qI (RN n σ (psL f N lo hi n m k a v))) := by
    intro m
    induction m with
    | zero =>
      intro k hk a v σ' ha hT' hv hf
      refine z_iload dX9_readNumbers_8 rfl ?_
      refine z_iload_n dX9_readNumbers_10 rfl ?_
      refine z_icmp_gt (tgt := 59) dX9_readNumbers_11 (by decide) (by omega) (by omega) (fun b11 => ?_) (fun b11 => ?_)
      · refine z_iconst dX9_readNumbers_59 ?_
        refine h_zret dX9_readNumbers_60 rfl (by omega) rfl rfl ?_
        exact ⟨Or.inl ⟨rfl, rfl, fun j hj => hv j (by omega)⟩, hT'.2.1, hf⟩
      · omega
    | succ m ih =>
      intro k hk a v σ' ha hT' hv hf
      have hzk := hz k (by omega)
      have hj : jF f N a ≤ N - a := rlF_le (f := f) (N - a) a
      have hpl := hT'.2.1
      rw [psL_s]
      refine z_iload dX9_readNumbers_8 rfl ?_
      refine z_iload_n dX9_readNumbers_10 rfl ?_
      refine z_icmp_gt (tgt := 59) dX9_readNumbers_11 (by decide) (by omega) (by omega) (fun b11 => ?_) (fun b11 => ?_)
      · omega
      · first | refine z_aload_n dX9_readNumbers_14 rfl ?_ | refine z_aload_nT dX9_readNumbers_14 rfl ?_
        refine z_iload dX9_readNumbers_15 rfl ?_
        first | refine z_aload_n dX9_readNumbers_17 rfl ?_ | refine z_aload_nT dX9_readNumbers_17 rfl ?_
        refine z_iload dX9_readNumbers_18 rfl ?_
        refine z_ialdT k dX9_readNumbers_20 h1 rfl (by omega) (by omega) ?_
        first | refine z_aload_n dX9_readNumbers_21 rfl ?_ | refine z_aload_nT dX9_readNumbers_21 rfl ?_
        refine z_iload dX9_readNumbers_22 rfl ?_
        refine z_ialdT k dX9_readNumbers_24 h2 rfl (by omega) (by omega) ?_
        refine h_Vi3 (Y' := M_X9_readNumber) dX9_readNumbers_25 zw_366 zw_368 zs_7 rfl ok_X9_readNumber (by decide) rfl (Nat.le_of_ble_eq_true rfl) ⟨rfl, rfl⟩ (by decide) (by first | assumption | rfl) (k_readNumber hT' hF ha (by omega) hzk.1 hzk.2) (fun vv σ2 hq => ?_)
        rcases hq with ⟨rfl, g1, rfl⟩ | ⟨rfl, g1, g2, rfl⟩ | ⟨rfl, g1, g2, rfl⟩
        · rw [if_pos g1]
          refine z_if_eq (tgt := 51) dX9_readNumbers_28 (by decide) (by omega) (fun b28 => ?_) (fun b28 => ?_)
          · refine z_iconst dX9_readNumbers_51 ?_
            refine h_zret dX9_readNumbers_52 rfl (by omega) rfl rfl ?_
            exact ⟨Or.inr ⟨rfl, rfl, zu_eq⟩, by rw [zu_j (by omega)]; exact hpl, fun o j e1 e2 => by
              by_cases ho : o = 5
              · subst ho
                rw [zu_j (by omega)]
                exact hf _ _ e1 e2
              · rw [zu_o ho]
                exact hf _ _ e1 e2⟩
          · omega
        · rw [if_neg (by omega), if_pos g2]
          refine z_if_eq (tgt := 51) dX9_readNumbers_28 (by decide) (by omega) (fun b28 => ?_) (fun b28 => ?_)
          · refine z_iconst dX9_readNumbers_51 ?_
            refine h_zret dX9_readNumbers_52 rfl (by omega) rfl rfl ?_
            exact ⟨Or.inr ⟨rfl, rfl, zu_eq⟩, by rw [zu_j (by omega)]; exact hpl, fun o j e1 e2 => by
              by_cases ho : o = 5
              · subst ho
                rw [zu_j (by omega)]
                exact hf _ _ e1 e2
              · rw [zu_o ho]
                exact hf _ _ e1 e2⟩
          · omega
        · rw [if_neg (by omega), if_neg (by omega)]
          obtain ⟨J, hJ⟩ : ∃ J, J = jF f N a := ⟨_, rfl⟩
          obtain ⟨V, hV⟩ : ∃ V, V = vF f N a := ⟨_, rfl⟩
          rw [← hJ] at g1 hj ⊢
          rw [← hV] at g2 ⊢
          obtain ⟨σ3, h3⟩ : ∃ z, z = zu (zu σ' 7 k V) 5 3 ((a : Int) + (J : Nat)) := ⟨_, rfl⟩
          rw [← h3]
          have hT3 : TC σ3 f N (a + J) := by
            rw [h3]
            refine ⟨?_, ?_, fun i hi => ?_⟩
            · rw [zu_j (by omega), zu_o (by omega)]
              exact hT'.1
            · rw [zu_eq]
              omega
            · rw [zu_o (by omega), zu_o (by omega)]
              exact hT'.2.2 i hi
          have hf3 : ∀ o j, o ≠ 7 → ¬ (o = 5 ∧ (j = 3 ∨ j = 4)) → σ3 o j = σ o j := by
            intro o j e1 e2
            rw [h3]
            by_cases ho : o = 5
            · subst ho
              rw [zu_j (by omega), zu_o (by omega)]
              exact hf _ _ e1 e2
            · rw [zu_o ho, zu_o e1]
              exact hf _ _ e1 e2
          have hv3 : ∀ j, j < k + 1 → σ3 7 j = zup v k V j := by
            intro j hj2
            rw [h3, zu_o (by omega)]
            unfold zup
            by_cases hjk : j = k
            · subst hjk
              rw [zu_eq, if_pos rfl]
            · rw [zu_j hjk, if_neg hjk]
              exact hv j (by omega)
          have sign : ∀ s : Int, s = sgF n k → 0 ≤ s → s ≤ 200 → Z rc M_X9_readNumbers 0 0 45 [some (zR 5), some (zT j1), some (zT j2), some (zI ((n : Int) - 1)), some (zI (k : Int))] [zI s, zR 5] (hp σ3) (qI (RN n σ (if ¬ (a + J < N ∧ f (a + J) = sgF n k) then ⟨false, a + J, 1, v⟩ else psL f N lo hi n m (k + 1) (a + J + 1) (zup v k V)))) := by
            intro s hs s0 s1
            refine h_Vi1 (Y' := M_X9_readSign) dX9_readNumbers_45 zw_346 zw_348 zs_3 rfl ok_X9_readSign (by decide) rfl (Nat.le_of_ble_eq_true rfl) ⟨rfl, rfl⟩ (by decide) (by first | assumption | rfl) (k_readSign hT3 hF (by omega) s0 s1) (fun vv σ2 hq => ?_)
            rw [← hs]
            rcases hq with ⟨rfl, g3, rfl⟩ | ⟨rfl, g3, rfl⟩
            · rw [if_pos g3]
              refine z_if_ne (tgt := 53) dX9_readNumbers_48 (by decide) (by omega) (fun b48 => ?_) (fun b48 => ?_)
              · omega
              · refine z_iconst dX9_readNumbers_51 ?_
                refine h_zret dX9_readNumbers_52 rfl (by omega) rfl rfl ?_
                exact ⟨Or.inr ⟨rfl, rfl, zu_eq⟩, by rw [zu_j (by omega)]; exact hT3.2.1, fun o j e1 e2 => by
                  by_cases ho : o = 5
                  · subst ho
                    rw [zu_j (by omega)]
                    exact hf3 _ _ e1 e2
                  · rw [zu_o ho]
                    exact hf3 _ _ e1 e2⟩
            · rw [if_neg (by omega)]
              refine z_if_ne (tgt := 53) dX9_readNumbers_48 (by decide) (by omega) (fun b48 => ?_) (fun b48 => ?_)
              · refine z_iinc dX9_readNumbers_53 rfl (by decide) rfl ?_
                refine z_goto (tgt := 8) dX9_readNumbers_56 (by decide) ?_
                have := ih (k + 1) (by omega) (a + J + 1) (zup v k V) (zu σ3 5 3 (((a + J : Nat) : Int) + 1)) (by omega) ⟨by rw [zu_j (by omega)]; exact hT3.1, by rw [zu_eq]; omega, fun i hi => by rw [zu_o (by omega)]; exact hT3.2.2 i hi⟩ (fun j hj2 => by rw [zu_o (by omega)]; exact hv3 j hj2) (fun o j e1 e2 => by
                  by_cases ho : o = 5
                  · subst ho
                    rw [zu_j (by omega)]
                    exact hf3 _ _ e1 e2
                  · rw [zu_o ho]
                    exact hf3 _ _ e1 e2)
                rw [nsucc] at this
                exact this
              · omega
          refine z_if_eq (tgt := 51) dX9_readNumbers_28 (by decide) (by omega) (fun b28 => ?_) (fun b28 => ?_)
          · omega
          · first | refine z_aload_n dX9_readNumbers_31 rfl ?_ | refine z_aload_nT dX9_readNumbers_31 rfl ?_
            refine z_iload dX9_readNumbers_32 rfl ?_
            refine z_iload_n dX9_readNumbers_34 rfl ?_
            refine z_icmp_ge (tgt := 43) dX9_readNumbers_35 (by decide) (by omega) (by omega) (fun b35 => ?_) (fun b35 => ?_)
            · refine z_bipush dX9_readNumbers_43 rfl ?_
              exact sign 59 (by unfold sgF; rw [if_neg (by omega)]) (by omega) (by omega)
            · refine z_bipush dX9_readNumbers_38 rfl ?_
              refine z_goto (tgt := 45) dX9_readNumbers_40 (by decide) ?_
              exact sign 44 (by unfold sgF; rw [if_pos (by omega)]) (by omega) (by omega)
  refine K_of 2 (by decide) (Nat.le_of_ble_eq_true rfl) (show Z _ _ 0 0 0 [some (zR 5), some (zT j1), some (zT j2), none, none] [] _ _ from ?_)
  first | refine z_aload_n dX9_readNumbers_0 rfl ?_ | refine z_aload_nT dX9_readNumbers_0 rfl ?_
  refine z_alenT dX9_readNumbers_1 h2 ?_
  refine z_iconst dX9_readNumbers_2 ?_
  refine z_isub dX9_readNumbers_3 ?_
  refine z_istore_n dX9_readNumbers_4 (by decide) rfl ?_
  refine z_iconst dX9_readNumbers_5 ?_
  refine z_istore dX9_readNumbers_6 (by decide) rfl ?_
  exact loop n 0 (by omega) a v0 σ ha hT (fun j hj => absurd hj (by omega)) (fun _ _ _ _ => rfl)
end
