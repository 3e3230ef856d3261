/-! the law's loop, and its start -/
theorem and31 (x : Int32) : 0 ≤ (x &&& Int32.ofInt 31).toInt ∧ (x &&& Int32.ofInt 31).toInt ≤ 31 := by
  have h1 : (x &&& Int32.ofInt 31).toBitVec.toNat ≤ 31 := by
    rw [Int32.toBitVec_and, BitVec.toNat_and]
    exact Nat.and_le_right
  have h2 : (x &&& Int32.ofInt 31).toInt = ((x &&& Int32.ofInt 31).toBitVec.toNat : Int) := by
    show (x &&& Int32.ofInt 31).toBitVec.toInt = _
    exact BitVec.toInt_eq_toNat_of_lt (by omega)
  omega
section
variable {rc : ZRC} {N : Nat} {xs : Nat → Int}
theorem law_loop (r0 : rc 0 = some (4, fLo)) (r1 : rc 1 = some (4, fHi)) (r2 : rc 2 = some (5, loL)) (r3 : rc 3 = some (5, hiL)) (r4 : rc 4 = some (3, loP)) (r5 : rc 5 = some (3, hiP)) (h6 : rc 6 = some (N, xs)) (hx : ∀ j, zin (xs j)) (hN : N ≤ 384) : ∀ n i : Nat, N < i + n → i ≤ N → ∀ σ α : Mem, CI σ α → MI σ α → OK α → Z rc M_L_law 55 2397 18 (lawL i) [] (hp σ) lawQ := by
  intro n
  induction n with
  | zero =>
    intro i hn hiN
    omega
  | succ n ih =>
    intro i hn hiN σ α hC hM hO
    have nxt : i + 6 ≤ N → ∀ σ α, CI σ α → MI σ α → OK α → Z rc M_L_law 55 2397 1152 (lawL i) [] (hp σ) lawQ := by
      intro hi σ α hC hM hO
      refine z_iinc dL_law_1152 rfl (by decide) rfl ?_
      refine z_goto (tgt := 18) dL_law_1155 (by decide) ?_
      have := ih (i + 6) (by omega) hi σ α hC hM hO
      have e : ((i + 6 : Nat) : Int) = (i : Int) + 6 := by omega
      unfold lawL at this
      rw [e] at this
      exact this
    refine z_iload_n dL_law_18 rfl ?_
    refine z_aload_nT dL_law_19 rfl ?_
    refine z_alenT dL_law_20 (by assumption) ?_
    refine z_bipush dL_law_21 rfl ?_
    refine z_isub dL_law_23 ?_
    refine z_icmp_gt (tgt := 1158) dL_law_24 (by decide) (by omega) (by omega) (fun b24 => ?_) (fun b24 => ?_)
    · refine z_iconst dL_law_1158 ?_
      refine h_zret dL_law_1159 rfl (by omega) rfl rfl ?_
      exact rfl
    · have hi : i + 6 ≤ N := by omega
      refine z_aload_nT dL_law_27 rfl ?_
      refine z_iload_n dL_law_28 rfl ?_
      refine z_ialdT _ dL_law_29 (by assumption) (by repeat' first | apply zc_add | apply zc_mul | with_reducible exact zc_var _ | exact zc_lit _) (by omega) (by omega) ?_
      refine z_bipush dL_law_30 rfl ?_
      have ha := and31 (Int32.ofInt (xs i))
      refine z_iand _ dL_law_32 (zof _).symm ?_
      generalize (Int32.ofInt (xs i) &&& Int32.ofInt 31).toInt = v at ha ⊢
      have hv : v = 0 ∨ v = 1 ∨ v = 2 ∨ v = 3 ∨ v = 4 ∨ v = 5 ∨ v = 6 ∨ v = 7 ∨ v = 8 ∨ v = 9 ∨ v = 10 ∨ v = 11 ∨ v = 12 ∨ v = 13 ∨ v = 14 ∨ v = 15 ∨ v = 16 ∨ v = 17 ∨ v = 18 ∨ v = 19 ∨ v = 20 ∨ v = 21 ∨ v = 22 ∨ v = 23 ∨ v = 24 ∨ v = 25 ∨ v = 26 ∨ v = 27 ∨ v = 28 ∨ v = 29 ∨ v = 30 ∨ v = 31 := by omega
      rcases hv with rfl | rfl | rfl | rfl | rfl | rfl | rfl | rfl | rfl | rfl | rfl | rfl | rfl | rfl | rfl | rfl | rfl | rfl | rfl | rfl | rfl | rfl | rfl | rfl | rfl | rfl | rfl | rfl | rfl | rfl | rfl | rfl
      · refine z_tswIn (tgt := 176) dL_law_33 (by omega) (by omega) (by omega) rfl (by decide) ?_
        exact law_row h6 hx hN hi hC hM hO (nxt hi)
      · refine z_tswIn (tgt := 219) dL_law_33 (by omega) (by omega) (by omega) rfl (by decide) ?_
        exact law_set h6 hx hN hi hC hM hO (nxt hi)
      · refine z_tswIn (tgt := 262) dL_law_33 (by omega) (by omega) (by omega) rfl (by decide) ?_
        exact law_copy h6 hx hN hi hC hM hO (nxt hi)
      · refine z_tswIn (tgt := 325) dL_law_33 (by omega) (by omega) (by omega) rfl (by decide) ?_
        exact law_drop h6 hx hN hi hC hM hO (nxt hi)
      · refine z_tswIn (tgt := 348) dL_law_33 (by omega) (by omega) (by omega) rfl (by decide) ?_
        exact law_feed h6 hx hN hi hC hM hO (nxt hi)
      · refine z_tswIn (tgt := 371) dL_law_33 (by omega) (by omega) (by omega) rfl (by decide) ?_
        exact law_coast r2 r3 r4 r5 h6 hx hN hi hC hM hO (nxt hi)
      · refine z_tswIn (tgt := 384) dL_law_33 (by omega) (by omega) (by omega) rfl (by decide) ?_
        exact law_fault h6 hx hN hi hC hM hO (nxt hi)
      · refine z_tswIn (tgt := 397) dL_law_33 (by omega) (by omega) (by omega) rfl (by decide) ?_
        exact law_seasons h6 hx hN hi hC hM hO (nxt hi)
      · refine z_tswIn (tgt := 420) dL_law_33 (by omega) (by omega) (by omega) rfl (by decide) ?_
        exact law_build h6 hx hN hi hC hM hO (nxt hi)
      · refine z_tswIn (tgt := 443) dL_law_33 (by omega) (by omega) (by omega) rfl (by decide) ?_
        exact law_turn h6 hx hN hi hC hM hO (nxt hi)
      · refine z_tswIn (tgt := 476) dL_law_33 (by omega) (by omega) (by omega) rfl (by decide) ?_
        exact law_buy h6 hx hN hi hC hM hO (nxt hi)
      · refine z_tswIn (tgt := 499) dL_law_33 (by omega) (by omega) (by omega) rfl (by decide) ?_
        exact law_undo h6 hx hN hi hC hM hO (nxt hi)
      · refine z_tswIn (tgt := 512) dL_law_33 (by omega) (by omega) (by omega) rfl (by decide) ?_
        exact law_pier h6 hx hN hi hC hM hO (nxt hi)
      · refine z_tswIn (tgt := 545) dL_law_33 (by omega) (by omega) (by omega) rfl (by decide) ?_
        exact law_ahead h6 hx hN hi hC hM hO (nxt hi)
      · refine z_tswIn (tgt := 588) dL_law_33 (by omega) (by omega) (by omega) rfl (by decide) ?_
        exact law_purse h6 hx hN hi hC hM hO (nxt hi)
      · refine z_tswIn (tgt := 611) dL_law_33 (by omega) (by omega) (by omega) rfl (by decide) ?_
        exact law_gone h6 hx hN hi hC hM hO (nxt hi)
      · refine z_tswIn (tgt := 634) dL_law_33 (by omega) (by omega) (by omega) rfl (by decide) ?_
        exact law_aim h6 hx hN hi hC hM hO (nxt hi)
      · refine z_tswIn (tgt := 687) dL_law_33 (by omega) (by omega) (by omega) rfl (by decide) ?_
        exact law_take h6 hx hN hi hC hM hO (nxt hi)
      · refine z_tswIn (tgt := 720) dL_law_33 (by omega) (by omega) (by omega) rfl (by decide) ?_
        exact law_give h6 hx hN hi hC hM hO (nxt hi)
      · refine z_tswIn (tgt := 753) dL_law_33 (by omega) (by omega) (by omega) rfl (by decide) ?_
        exact law_turning h6 hx hN hi hC hM hO (nxt hi)
      · refine z_tswIn (tgt := 786) dL_law_33 (by omega) (by omega) (by omega) rfl (by decide) ?_
        exact law_cross h6 hx hN hi hC hM hO (nxt hi)
      · refine z_tswIn (tgt := 809) dL_law_33 (by omega) (by omega) (by omega) rfl (by decide) ?_
        exact law_fits r0 r1 h6 hx hN hi hC hM hO (nxt hi)
      · refine z_tswIn (tgt := 872) dL_law_33 (by omega) (by omega) (by omega) rfl (by decide) ?_
        exact law_fire h6 hx hN hi hC hM hO (nxt hi)
      · refine z_tswIn (tgt := 915) dL_law_33 (by omega) (by omega) (by omega) rfl (by decide) ?_
        exact law_drawn h6 hx hN hi hC hM hO (nxt hi)
      · refine z_tswIn (tgt := 958) dL_law_33 (by omega) (by omega) (by omega) rfl (by decide) ?_
        exact law_image h6 hx hN hi hC hM hO (nxt hi)
      · refine z_tswIn (tgt := 981) dL_law_33 (by omega) (by omega) (by omega) rfl (by decide) ?_
        exact law_restore h6 hx hN hi hC hM hO (nxt hi)
      · refine z_tswIn (tgt := 1004) dL_law_33 (by omega) (by omega) (by omega) rfl (by decide) ?_
        exact law_kind h6 hx hN hi hC hM hO (nxt hi)
      · refine z_tswIn (tgt := 1027) dL_law_33 (by omega) (by omega) (by omega) rfl (by decide) ?_
        exact law_as h6 hx hN hi hC hM hO (nxt hi)
      · refine z_tswIn (tgt := 1060) dL_law_33 (by omega) (by omega) (by omega) rfl (by decide) ?_
        exact law_ask h6 hx hN hi hC hM hO (nxt hi)
      · refine z_tswIn (tgt := 1093) dL_law_33 (by omega) (by omega) (by omega) rfl (by decide) ?_
        exact law_trace h6 hx hN hi hC hM hO (nxt hi)
      · refine z_tswIn (tgt := 1116) dL_law_33 (by omega) (by omega) (by omega) rfl (by decide) ?_
        exact law_count h6 hx hN hi hC hM hO (nxt hi)
      · refine z_tswIn (tgt := 1139) dL_law_33 (by omega) (by omega) (by omega) rfl (by decide) ?_
        exact law_status h6 hx hN hi hC hM hO (nxt hi)
theorem law_start (r0 : rc 0 = some (4, fLo)) (r1 : rc 1 = some (4, fHi)) (r2 : rc 2 = some (5, loL)) (r3 : rc 3 = some (5, hiL)) (r4 : rc 4 = some (3, loP)) (r5 : rc 5 = some (3, hiP)) (h6 : rc 6 = some (N, xs)) (hx : ∀ j, zin (xs j)) (hN : N ≤ 384) : Z rc M_L_law 0 0 0 [some (zT 6), none, none, none] [] [] lawQ := by
  refine z_new (ci := 10) RX11 TX11 18 tyX11 [zN, zN, zN, zN, zN, zN, zN, zN, zN, zN, zN, zN, zN, zN, zN, zN, zI 0, zI 0] dL_law_0 rfl uw_X11 tyX11_ok zw_16 zw_17 zw_1 rfl (by decide) (by decide) ?_
  refine z_dup dL_law_3 rfl ?_
  show Z rc M_L_law 1 18 4 [some (zT 6), none, none, none] [zR 0, zR 0] [zO 10 [zN, zN, zN, zN, zN, zN, zN, zN, zN, zN, zN, zN, zN, zN, zN, zN, zI 0, zI 0]] _
  refine z_invI (Y' := M_X11_init) dL_law_4 zw_18 zw_19 rfl rfl ok_X11_init (by decide) rfl (by decide) (by decide) (n_X11_init) ?_
  rintro r h2 ⟨rfl, rfl⟩
  show Z rc M_L_law 40 1050 7 [some (zT 6), none, none, none] [zR 0] [zO 10 [zR 1, zR 5, zR 8, zR 13, zR 18, zR 23, zR 28, zR 30, zR 32, zR 33, zR 34, zR 35, zR 36, zR 37, zR 38, zR 39, zI 0, zI 0], zO 6 [zR 2, zR 3, zR 4], zA 8 (fun _ => 0), zA 8 (fun _ => 0), zA 320 (fun _ => 0), zO 8 [zR 6, zR 7, zI 0, zI 0, zI 0], zA 100 (fun _ => 0), zA 5 (fun _ => 0), zO 2 [zR 9, zR 10, zR 11, zR 12, zI 0, zI 0, zI 0, zI 0, zI 0, zI 0, zI 0, zI 1, zI 0], zA 5 (fun _ => 0), zA 5 (fun _ => 0), zA 5 (fun _ => 0), zA 5 (fun _ => 0), zO 2 [zR 14, zR 15, zR 16, zR 17, zI 0, zI 0, zI 0, zI 0, zI 0, zI 0, zI 0, zI 1, zI 0], zA 5 (fun _ => 0), zA 5 (fun _ => 0), zA 5 (fun _ => 0), zA 5 (fun _ => 0), zO 2 [zR 19, zR 20, zR 21, zR 22, zI 0, zI 0, zI 0, zI 0, zI 0, zI 0, zI 0, zI 1, zI 0], zA 5 (fun _ => 0), zA 5 (fun _ => 0), zA 5 (fun _ => 0), zA 5 (fun _ => 0), zO 2 [zR 24, zR 25, zR 26, zR 27, zI 0, zI 0, zI 0, zI 0, zI 0, zI 0, zI 0, zI 1, zI 0], zA 5 (fun _ => 0), zA 5 (fun _ => 0), zA 5 (fun _ => 0), zA 5 (fun _ => 0), zO 4 [zR 29, zI 0, zI 0], zA 312 (fun _ => 0), zO 0 [zR 31, zI 0, zI 0, zI 0, zI 0], zA 16 (fun _ => 0), zO 3 [], zO 1 [], zO 7 [], zO 9 [], zO 5 [], zA 50 (fun _ => 0), zA 60 (fun _ => 0), zA 5 (fun _ => 0)] _
  refine z_astore_n dL_law_7 (by decide) rfl ?_
  show Z rc M_L_law 40 1050 8 [some (zT 6), some (zR 0), none, none] [] [zO 10 [zR 1, zR 5, zR 8, zR 13, zR 18, zR 23, zR 28, zR 30, zR 32, zR 33, zR 34, zR 35, zR 36, zR 37, zR 38, zR 39, zI 0, zI 0], zO 6 [zR 2, zR 3, zR 4], zA 8 (fun _ => 0), zA 8 (fun _ => 0), zA 320 (fun _ => 0), zO 8 [zR 6, zR 7, zI 0, zI 0, zI 0], zA 100 (fun _ => 0), zA 5 (fun _ => 0), zO 2 [zR 9, zR 10, zR 11, zR 12, zI 0, zI 0, zI 0, zI 0, zI 0, zI 0, zI 0, zI 1, zI 0], zA 5 (fun _ => 0), zA 5 (fun _ => 0), zA 5 (fun _ => 0), zA 5 (fun _ => 0), zO 2 [zR 14, zR 15, zR 16, zR 17, zI 0, zI 0, zI 0, zI 0, zI 0, zI 0, zI 0, zI 1, zI 0], zA 5 (fun _ => 0), zA 5 (fun _ => 0), zA 5 (fun _ => 0), zA 5 (fun _ => 0), zO 2 [zR 19, zR 20, zR 21, zR 22, zI 0, zI 0, zI 0, zI 0, zI 0, zI 0, zI 0, zI 1, zI 0], zA 5 (fun _ => 0), zA 5 (fun _ => 0), zA 5 (fun _ => 0), zA 5 (fun _ => 0), zO 2 [zR 24, zR 25, zR 26, zR 27, zI 0, zI 0, zI 0, zI 0, zI 0, zI 0, zI 0, zI 1, zI 0], zA 5 (fun _ => 0), zA 5 (fun _ => 0), zA 5 (fun _ => 0), zA 5 (fun _ => 0), zO 4 [zR 29, zI 0, zI 0], zA 312 (fun _ => 0), zO 0 [zR 31, zI 0, zI 0, zI 0, zI 0], zA 16 (fun _ => 0), zO 3 [], zO 1 [], zO 7 [], zO 9 [], zO 5 [], zA 50 (fun _ => 0), zA 60 (fun _ => 0), zA 5 (fun _ => 0)] _
  refine z_new (ci := 11) RX12 TX12 26 tyX12 [zN, zN, zN, zI 0, zI 0, zN, zI 0, zI 0, zI 0, zI 0, zI 0, zI 0, zN, zN, zN, zN, zN, zN, zI 0, zN, zI 0, zN, zN, zN, zI 0, zI 0] dL_law_8 rfl uw_X12 tyX12_ok zw_764 zw_765 zw_13 rfl (by decide) (by decide) ?_
  refine z_dup dL_law_11 rfl ?_
  show Z rc M_L_law 41 1076 12 [some (zT 6), some (zR 0), none, none] [zR 40, zR 40] ([zO 10 [zR 1, zR 5, zR 8, zR 13, zR 18, zR 23, zR 28, zR 30, zR 32, zR 33, zR 34, zR 35, zR 36, zR 37, zR 38, zR 39, zI 0, zI 0], zO 6 [zR 2, zR 3, zR 4], zA 8 (fun _ => 0), zA 8 (fun _ => 0), zA 320 (fun _ => 0), zO 8 [zR 6, zR 7, zI 0, zI 0, zI 0], zA 100 (fun _ => 0), zA 5 (fun _ => 0), zO 2 [zR 9, zR 10, zR 11, zR 12, zI 0, zI 0, zI 0, zI 0, zI 0, zI 0, zI 0, zI 1, zI 0], zA 5 (fun _ => 0), zA 5 (fun _ => 0), zA 5 (fun _ => 0), zA 5 (fun _ => 0), zO 2 [zR 14, zR 15, zR 16, zR 17, zI 0, zI 0, zI 0, zI 0, zI 0, zI 0, zI 0, zI 1, zI 0], zA 5 (fun _ => 0), zA 5 (fun _ => 0), zA 5 (fun _ => 0), zA 5 (fun _ => 0), zO 2 [zR 19, zR 20, zR 21, zR 22, zI 0, zI 0, zI 0, zI 0, zI 0, zI 0, zI 0, zI 1, zI 0], zA 5 (fun _ => 0), zA 5 (fun _ => 0), zA 5 (fun _ => 0), zA 5 (fun _ => 0), zO 2 [zR 24, zR 25, zR 26, zR 27, zI 0, zI 0, zI 0, zI 0, zI 0, zI 0, zI 0, zI 1, zI 0], zA 5 (fun _ => 0), zA 5 (fun _ => 0), zA 5 (fun _ => 0), zA 5 (fun _ => 0), zO 4 [zR 29, zI 0, zI 0], zA 312 (fun _ => 0), zO 0 [zR 31, zI 0, zI 0, zI 0, zI 0], zA 16 (fun _ => 0), zO 3 [], zO 1 [], zO 7 [], zO 9 [], zO 5 [], zA 50 (fun _ => 0), zA 60 (fun _ => 0), zA 5 (fun _ => 0)] ++ [zO 11 [zN, zN, zN, zI 0, zI 0, zN, zI 0, zI 0, zI 0, zI 0, zI 0, zI 0, zN, zN, zN, zN, zN, zN, zI 0, zN, zI 0, zN, zN, zN, zI 0, zI 0]]) _
  refine z_invI (Y' := M_X12_init) dL_law_12 zw_766 zw_767 rfl rfl ok_X12_init (by decide) rfl (by decide) (by decide) (n_X12_init (g := [zO 10 [zR 1, zR 5, zR 8, zR 13, zR 18, zR 23, zR 28, zR 30, zR 32, zR 33, zR 34, zR 35, zR 36, zR 37, zR 38, zR 39, zI 0, zI 0], zO 6 [zR 2, zR 3, zR 4], zA 8 (fun _ => 0), zA 8 (fun _ => 0), zA 320 (fun _ => 0), zO 8 [zR 6, zR 7, zI 0, zI 0, zI 0], zA 100 (fun _ => 0), zA 5 (fun _ => 0), zO 2 [zR 9, zR 10, zR 11, zR 12, zI 0, zI 0, zI 0, zI 0, zI 0, zI 0, zI 0, zI 1, zI 0], zA 5 (fun _ => 0), zA 5 (fun _ => 0), zA 5 (fun _ => 0), zA 5 (fun _ => 0), zO 2 [zR 14, zR 15, zR 16, zR 17, zI 0, zI 0, zI 0, zI 0, zI 0, zI 0, zI 0, zI 1, zI 0], zA 5 (fun _ => 0), zA 5 (fun _ => 0), zA 5 (fun _ => 0), zA 5 (fun _ => 0), zO 2 [zR 19, zR 20, zR 21, zR 22, zI 0, zI 0, zI 0, zI 0, zI 0, zI 0, zI 0, zI 1, zI 0], zA 5 (fun _ => 0), zA 5 (fun _ => 0), zA 5 (fun _ => 0), zA 5 (fun _ => 0), zO 2 [zR 24, zR 25, zR 26, zR 27, zI 0, zI 0, zI 0, zI 0, zI 0, zI 0, zI 0, zI 1, zI 0], zA 5 (fun _ => 0), zA 5 (fun _ => 0), zA 5 (fun _ => 0), zA 5 (fun _ => 0), zO 4 [zR 29, zI 0, zI 0], zA 312 (fun _ => 0), zO 0 [zR 31, zI 0, zI 0, zI 0, zI 0], zA 16 (fun _ => 0), zO 3 [], zO 1 [], zO 7 [], zO 9 [], zO 5 [], zA 50 (fun _ => 0), zA 60 (fun _ => 0), zA 5 (fun _ => 0)]) (k := 40) rfl) ?_
  rintro r h2 ⟨rfl, f, hf, rfl⟩
  rw [ini_hp]
  show Z rc M_L_law 55 2397 15 [some (zT 6), some (zR 0), none, none] [zR 40] (hp (ini f)) _
  refine z_astore_n dL_law_15 (by decide) rfl ?_
  refine z_iconst dL_law_16 ?_
  refine z_istore_n dL_law_17 (by decide) rfl ?_
  exact law_loop r0 r1 r2 r3 r4 r5 h6 hx hN (N + 1) 0 (by omega) (Nat.zero_le _) (ini f) al0 ini_C (ini_M hf) ini_O
end
