/-! the constructors of both -/
section
variable {rc : ZRC} {Y : ZY} {kc ks pc : Nat} {L : ZL} {S : List ZV} {g l : ZH} {k i : Nat} {Q : Option ZV → ZH → Prop}
theorem n_at {x : ZC} (hk : g.length = k) (h : l[i]? = some x) : (g ++ l)[k + i]? = some x := by
  rw [List.getElem?_append_right (by omega), show k + i - g.length = i by omega]
  exact h
theorem n_set {x : ZC} (hk : g.length = k) : (g ++ l).set (k + i) x = g ++ l.set i x := by
  rw [List.set_append_right _ _ (by omega), show k + i - g.length = i by omega]
theorem n_newa {n : Int} {N : Nat} (hk : g.length = k) (b : Bool) (hd : decode (zyC Y) pc = .ok (.newarray (if b then .int else .boolean), 2)) (hwd : Cond.arrayClass (if b then FieldType.int else FieldType.boolean) ∈ zTB) (hn : n = (N : Int)) (hN : N ≤ 100000) (hm : kc + 1 ≤ zyMc Y) (hms : ks + N ≤ zyMs Y) (kk : Z rc Y (kc + 1) (ks + N) (pc + 2) L (zR (k + l.length) :: S) (g ++ (l ++ [.inl (b, N, fun _ => 0)])) Q) : Z rc Y kc ks pc L (zI n :: S) (g ++ l) Q := by
  refine z_newa b hd hwd hn hN hm hms ?_
  rw [List.length_append, hk, List.append_assoc]
  exact kk
theorem n_putF {idx ci kf o2 : Nat} {fs : List ZV} {ty : FieldType} (hk : g.length = k) (hd : decode (zyC Y) pc = .ok (.putfield idx, 3)) (hf : zFP (zyN Y).cls idx ci kf ty true) (hY : (zyN Y).name = "<init>") (hty : (∃ n, ty = .object n) ∨ ∃ t, ty = .array t) (hh : l[i]? = some (zO ci fs)) (hkf : kf < fs.length) (kk : Z rc Y kc ks (pc + 3) L S (g ++ l.set i (zO ci (fs.set kf (zR o2)))) Q) : Z rc Y kc ks pc L (zR o2 :: zR (k + i) :: S) (g ++ l) Q := by
  refine z_putF hd hf hY hty (n_at hk hh) hkf ?_
  rw [n_set hk]
  exact kk
theorem n_puti {idx ci kf : Nat} {z : Int} {fs : List ZV} {ty : FieldType} (hk : g.length = k) (hd : decode (zyC Y) pc = .ok (.putfield idx, 3)) (hf : zFP (zyN Y).cls idx ci kf ty false) (hty : ty = .int ∨ (ty = .boolean ∧ (z = 0 ∨ z = 1))) (hh : l[i]? = some (zO ci fs)) (hkf : kf < fs.length) (kk : Z rc Y kc ks (pc + 3) L S (g ++ l.set i (zO ci (fs.set kf (zI z)))) Q) : Z rc Y kc ks pc L (zI z :: zR (k + i) :: S) (g ++ l) Q := by
  refine z_putf hd hf hty (n_at hk hh) hkf ?_
  rw [n_set hk]
  exact kk
theorem n_iast {N : Nat} {j x : Int} {f : Nat → Int} (hk : g.length = k) (q : Nat) (hd : decode (zyC Y) pc = .ok (.iastore, 1)) (hh : l[i]? = some (zA N f)) (hj : j = (q : Int)) (hq : q < N) (hN : N ≤ 2147483647) (kk : Z rc Y kc ks (pc + 1) L S (g ++ l.set i (zA N (zup f q x))) Q) : Z rc Y kc ks pc L (zI x :: zI j :: zR (k + i) :: S) (g ++ l) Q := by
  refine z_iast q hd (n_at hk hh) hj hq hN ?_
  rw [n_set hk]
  exact kk
end
section
variable {rc : ZRC} {g h : ZH} {k : Nat}
theorem n_X7_init (hk : g.length = k) : K rc M_X7_init [zR k] (g ++ [zO 6 [zN, zN, zN]]) (fun r h => r = none ∧ h = g ++ [zO 6 [zR (k + 1), zR (k + 2), zR (k + 3)], zA 8 (fun _ => 0), zA 8 (fun _ => 0), zA 320 (fun _ => 0)]) := by
  refine K_of 0 (by decide) (Nat.le_of_ble_eq_true rfl) (show Z _ _ 0 0 0 [some (zR k)] [] _ _ from ?_)
  refine z_aload_n dX7_init_0 rfl ?_
  refine z_obj dX7_init_1 zw_29 zw_22 zw_23 (by decide) (by decide) ?_
  refine z_aload_n dX7_init_4 rfl ?_
  refine z_bipush dX7_init_5 rfl ?_
  refine n_newa (N := 8) hk true dX7_init_7 zw_40 rfl (by decide) (by decide) (by decide) ?_
  show Z rc M_X7_init 1 8 9 [some (zR k)] [zR (k + 1), zR k] (g ++ [zO 6 [zN, zN, zN], zA 8 (fun _ => 0)]) _
  refine n_putF (i := 0) hk dX7_init_9 fp_X7_9 rfl (Or.inr ⟨_, rfl⟩) rfl (Nat.le_of_ble_eq_true rfl) ?_
  show Z rc M_X7_init 1 8 12 [some (zR k)] [] (g ++ [zO 6 [zR (k + 1), zN, zN], zA 8 (fun _ => 0)]) _
  refine z_aload_n dX7_init_12 rfl ?_
  refine z_bipush dX7_init_13 rfl ?_
  refine n_newa (N := 8) hk true dX7_init_15 zw_40 rfl (by decide) (by decide) (by decide) ?_
  show Z rc M_X7_init 2 16 17 [some (zR k)] [zR (k + 2), zR k] (g ++ [zO 6 [zR (k + 1), zN, zN], zA 8 (fun _ => 0), zA 8 (fun _ => 0)]) _
  refine n_putF (i := 0) hk dX7_init_17 fp_X7_13 rfl (Or.inr ⟨_, rfl⟩) rfl (Nat.le_of_ble_eq_true rfl) ?_
  show Z rc M_X7_init 2 16 20 [some (zR k)] [] (g ++ [zO 6 [zR (k + 1), zR (k + 2), zN], zA 8 (fun _ => 0), zA 8 (fun _ => 0)]) _
  refine z_aload_n dX7_init_20 rfl ?_
  refine z_sipush dX7_init_21 rfl ?_
  refine n_newa (N := 320) hk true dX7_init_24 zw_40 rfl (by decide) (by decide) (by decide) ?_
  show Z rc M_X7_init 3 336 26 [some (zR k)] [zR (k + 3), zR k] (g ++ [zO 6 [zR (k + 1), zR (k + 2), zN], zA 8 (fun _ => 0), zA 8 (fun _ => 0), zA 320 (fun _ => 0)]) _
  refine n_putF (i := 0) hk dX7_init_26 fp_X7_16 rfl (Or.inr ⟨_, rfl⟩) rfl (Nat.le_of_ble_eq_true rfl) ?_
  show Z rc M_X7_init 3 336 29 [some (zR k)] [] (g ++ [zO 6 [zR (k + 1), zR (k + 2), zR (k + 3)], zA 8 (fun _ => 0), zA 8 (fun _ => 0), zA 320 (fun _ => 0)]) _
  exact z_vret (S := []) dX7_init_29 rfl rfl rfl ⟨rfl, rfl⟩
theorem n_X9_init (hk : g.length = k) : K rc M_X9_init [zR k] (g ++ [zO 8 [zN, zN, zI 0, zI 0, zI 0]]) (fun r h => r = none ∧ h = g ++ [zO 8 [zR (k + 1), zR (k + 2), zI 0, zI 0, zI 0], zA 100 (fun _ => 0), zA 5 (fun _ => 0)]) := by
  refine K_of 0 (by decide) (Nat.le_of_ble_eq_true rfl) (show Z _ _ 0 0 0 [some (zR k)] [] _ _ from ?_)
  refine z_aload_n dX9_init_0 rfl ?_
  refine z_obj dX9_init_1 zw_46 zw_22 zw_23 (by decide) (by decide) ?_
  refine z_aload_n dX9_init_4 rfl ?_
  refine z_bipush dX9_init_5 rfl ?_
  refine n_newa (N := 100) hk true dX9_init_7 zw_40 rfl (by decide) (by decide) (by decide) ?_
  show Z rc M_X9_init 1 100 9 [some (zR k)] [zR (k + 1), zR k] (g ++ [zO 8 [zN, zN, zI 0, zI 0, zI 0], zA 100 (fun _ => 0)]) _
  refine n_putF (i := 0) hk dX9_init_9 fp_X9_9 rfl (Or.inr ⟨_, rfl⟩) rfl (Nat.le_of_ble_eq_true rfl) ?_
  show Z rc M_X9_init 1 100 12 [some (zR k)] [] (g ++ [zO 8 [zR (k + 1), zN, zI 0, zI 0, zI 0], zA 100 (fun _ => 0)]) _
  refine z_aload_n dX9_init_12 rfl ?_
  refine z_iconst dX9_init_13 ?_
  refine n_newa (N := 5) hk true dX9_init_14 zw_40 rfl (by decide) (by decide) (by decide) ?_
  show Z rc M_X9_init 2 105 16 [some (zR k)] [zR (k + 2), zR k] (g ++ [zO 8 [zR (k + 1), zN, zI 0, zI 0, zI 0], zA 100 (fun _ => 0), zA 5 (fun _ => 0)]) _
  refine n_putF (i := 0) hk dX9_init_16 fp_X9_13 rfl (Or.inr ⟨_, rfl⟩) rfl (Nat.le_of_ble_eq_true rfl) ?_
  show Z rc M_X9_init 2 105 19 [some (zR k)] [] (g ++ [zO 8 [zR (k + 1), zR (k + 2), zI 0, zI 0, zI 0], zA 100 (fun _ => 0), zA 5 (fun _ => 0)]) _
  refine z_aload_n dX9_init_19 rfl ?_
  refine z_iconst dX9_init_20 ?_
  refine n_puti (i := 0) hk dX9_init_21 fp_X9_16 (Or.inl rfl) rfl (Nat.le_of_ble_eq_true rfl) ?_
  show Z rc M_X9_init 2 105 24 [some (zR k)] [] (g ++ [zO 8 [zR (k + 1), zR (k + 2), zI 0, zI 0, zI 0], zA 100 (fun _ => 0), zA 5 (fun _ => 0)]) _
  refine z_aload_n dX9_init_24 rfl ?_
  refine z_iconst dX9_init_25 ?_
  refine n_puti (i := 0) hk dX9_init_26 fp_X9_20 (Or.inl rfl) rfl (Nat.le_of_ble_eq_true rfl) ?_
  show Z rc M_X9_init 2 105 29 [some (zR k)] [] (g ++ [zO 8 [zR (k + 1), zR (k + 2), zI 0, zI 0, zI 0], zA 100 (fun _ => 0), zA 5 (fun _ => 0)]) _
  refine z_aload_n dX9_init_29 rfl ?_
  refine z_iconst dX9_init_30 ?_
  refine n_puti (i := 0) hk dX9_init_31 fp_X9_23 (Or.inl rfl) rfl (Nat.le_of_ble_eq_true rfl) ?_
  show Z rc M_X9_init 2 105 34 [some (zR k)] [] (g ++ [zO 8 [zR (k + 1), zR (k + 2), zI 0, zI 0, zI 0], zA 100 (fun _ => 0), zA 5 (fun _ => 0)]) _
  exact z_vret (S := []) dX9_init_34 rfl rfl rfl ⟨rfl, rfl⟩
theorem n_X2_init (hk : g.length = k) : K rc M_X2_init [zR k] (g ++ [zO 2 [zN, zN, zN, zN, zI 0, zI 0, zI 0, zI 0, zI 0, zI 0, zI 0, zI 0, zI 0]]) (fun r h => r = none ∧ h = g ++ [zO 2 [zR (k + 1), zR (k + 2), zR (k + 3), zR (k + 4), zI 0, zI 0, zI 0, zI 0, zI 0, zI 0, zI 0, zI 1, zI 0], zA 5 (fun _ => 0), zA 5 (fun _ => 0), zA 5 (fun _ => 0), zA 5 (fun _ => 0)]) := by
  refine K_of 0 (by decide) (Nat.le_of_ble_eq_true rfl) (show Z _ _ 0 0 0 [some (zR k)] [] _ _ from ?_)
  refine z_aload_n dX2_init_0 rfl ?_
  refine z_obj dX2_init_1 zw_68 zw_22 zw_23 (by decide) (by decide) ?_
  refine z_aload_n dX2_init_4 rfl ?_
  refine z_iconst dX2_init_5 ?_
  refine n_newa (N := 5) hk true dX2_init_6 zw_40 rfl (by decide) (by decide) (by decide) ?_
  show Z rc M_X2_init 1 5 8 [some (zR k)] [zR (k + 1), zR k] (g ++ [zO 2 [zN, zN, zN, zN, zI 0, zI 0, zI 0, zI 0, zI 0, zI 0, zI 0, zI 0, zI 0], zA 5 (fun _ => 0)]) _
  refine n_putF (i := 0) hk dX2_init_8 fp_X2_9 rfl (Or.inr ⟨_, rfl⟩) rfl (Nat.le_of_ble_eq_true rfl) ?_
  show Z rc M_X2_init 1 5 11 [some (zR k)] [] (g ++ [zO 2 [zR (k + 1), zN, zN, zN, zI 0, zI 0, zI 0, zI 0, zI 0, zI 0, zI 0, zI 0, zI 0], zA 5 (fun _ => 0)]) _
  refine z_aload_n dX2_init_11 rfl ?_
  refine z_iconst dX2_init_12 ?_
  refine n_newa (N := 5) hk true dX2_init_13 zw_40 rfl (by decide) (by decide) (by decide) ?_
  show Z rc M_X2_init 2 10 15 [some (zR k)] [zR (k + 2), zR k] (g ++ [zO 2 [zR (k + 1), zN, zN, zN, zI 0, zI 0, zI 0, zI 0, zI 0, zI 0, zI 0, zI 0, zI 0], zA 5 (fun _ => 0), zA 5 (fun _ => 0)]) _
  refine n_putF (i := 0) hk dX2_init_15 fp_X2_13 rfl (Or.inr ⟨_, rfl⟩) rfl (Nat.le_of_ble_eq_true rfl) ?_
  show Z rc M_X2_init 2 10 18 [some (zR k)] [] (g ++ [zO 2 [zR (k + 1), zR (k + 2), zN, zN, zI 0, zI 0, zI 0, zI 0, zI 0, zI 0, zI 0, zI 0, zI 0], zA 5 (fun _ => 0), zA 5 (fun _ => 0)]) _
  refine z_aload_n dX2_init_18 rfl ?_
  refine z_iconst dX2_init_19 ?_
  refine n_newa (N := 5) hk true dX2_init_20 zw_40 rfl (by decide) (by decide) (by decide) ?_
  show Z rc M_X2_init 3 15 22 [some (zR k)] [zR (k + 3), zR k] (g ++ [zO 2 [zR (k + 1), zR (k + 2), zN, zN, zI 0, zI 0, zI 0, zI 0, zI 0, zI 0, zI 0, zI 0, zI 0], zA 5 (fun _ => 0), zA 5 (fun _ => 0), zA 5 (fun _ => 0)]) _
  refine n_putF (i := 0) hk dX2_init_22 fp_X2_16 rfl (Or.inr ⟨_, rfl⟩) rfl (Nat.le_of_ble_eq_true rfl) ?_
  show Z rc M_X2_init 3 15 25 [some (zR k)] [] (g ++ [zO 2 [zR (k + 1), zR (k + 2), zR (k + 3), zN, zI 0, zI 0, zI 0, zI 0, zI 0, zI 0, zI 0, zI 0, zI 0], zA 5 (fun _ => 0), zA 5 (fun _ => 0), zA 5 (fun _ => 0)]) _
  refine z_aload_n dX2_init_25 rfl ?_
  refine z_iconst dX2_init_26 ?_
  refine n_newa (N := 5) hk true dX2_init_27 zw_40 rfl (by decide) (by decide) (by decide) ?_
  show Z rc M_X2_init 4 20 29 [some (zR k)] [zR (k + 4), zR k] (g ++ [zO 2 [zR (k + 1), zR (k + 2), zR (k + 3), zN, zI 0, zI 0, zI 0, zI 0, zI 0, zI 0, zI 0, zI 0, zI 0], zA 5 (fun _ => 0), zA 5 (fun _ => 0), zA 5 (fun _ => 0), zA 5 (fun _ => 0)]) _
  refine n_putF (i := 0) hk dX2_init_29 fp_X2_19 rfl (Or.inr ⟨_, rfl⟩) rfl (Nat.le_of_ble_eq_true rfl) ?_
  show Z rc M_X2_init 4 20 32 [some (zR k)] [] (g ++ [zO 2 [zR (k + 1), zR (k + 2), zR (k + 3), zR (k + 4), zI 0, zI 0, zI 0, zI 0, zI 0, zI 0, zI 0, zI 0, zI 0], zA 5 (fun _ => 0), zA 5 (fun _ => 0), zA 5 (fun _ => 0), zA 5 (fun _ => 0)]) _
  refine z_aload_n dX2_init_32 rfl ?_
  refine z_iconst dX2_init_33 ?_
  refine n_puti (i := 0) hk dX2_init_34 fp_X2_22 (Or.inr ⟨rfl, Or.inl rfl⟩) rfl (Nat.le_of_ble_eq_true rfl) ?_
  show Z rc M_X2_init 4 20 37 [some (zR k)] [] (g ++ [zO 2 [zR (k + 1), zR (k + 2), zR (k + 3), zR (k + 4), zI 0, zI 0, zI 0, zI 0, zI 0, zI 0, zI 0, zI 0, zI 0], zA 5 (fun _ => 0), zA 5 (fun _ => 0), zA 5 (fun _ => 0), zA 5 (fun _ => 0)]) _
  refine z_aload_n dX2_init_37 rfl ?_
  refine z_iconst dX2_init_38 ?_
  refine n_puti (i := 0) hk dX2_init_39 fp_X2_26 (Or.inl rfl) rfl (Nat.le_of_ble_eq_true rfl) ?_
  show Z rc M_X2_init 4 20 42 [some (zR k)] [] (g ++ [zO 2 [zR (k + 1), zR (k + 2), zR (k + 3), zR (k + 4), zI 0, zI 0, zI 0, zI 0, zI 0, zI 0, zI 0, zI 0, zI 0], zA 5 (fun _ => 0), zA 5 (fun _ => 0), zA 5 (fun _ => 0), zA 5 (fun _ => 0)]) _
  refine z_aload_n dX2_init_42 rfl ?_
  refine z_iconst dX2_init_43 ?_
  refine n_puti (i := 0) hk dX2_init_44 fp_X2_30 (Or.inl rfl) rfl (Nat.le_of_ble_eq_true rfl) ?_
  show Z rc M_X2_init 4 20 47 [some (zR k)] [] (g ++ [zO 2 [zR (k + 1), zR (k + 2), zR (k + 3), zR (k + 4), zI 0, zI 0, zI 0, zI 0, zI 0, zI 0, zI 0, zI 0, zI 0], zA 5 (fun _ => 0), zA 5 (fun _ => 0), zA 5 (fun _ => 0), zA 5 (fun _ => 0)]) _
  refine z_aload_n dX2_init_47 rfl ?_
  refine z_iconst dX2_init_48 ?_
  refine n_puti (i := 0) hk dX2_init_49 fp_X2_33 (Or.inl rfl) rfl (Nat.le_of_ble_eq_true rfl) ?_
  show Z rc M_X2_init 4 20 52 [some (zR k)] [] (g ++ [zO 2 [zR (k + 1), zR (k + 2), zR (k + 3), zR (k + 4), zI 0, zI 0, zI 0, zI 0, zI 0, zI 0, zI 0, zI 0, zI 0], zA 5 (fun _ => 0), zA 5 (fun _ => 0), zA 5 (fun _ => 0), zA 5 (fun _ => 0)]) _
  refine z_aload_n dX2_init_52 rfl ?_
  refine z_iconst dX2_init_53 ?_
  refine n_puti (i := 0) hk dX2_init_54 fp_X2_36 (Or.inl rfl) rfl (Nat.le_of_ble_eq_true rfl) ?_
  show Z rc M_X2_init 4 20 57 [some (zR k)] [] (g ++ [zO 2 [zR (k + 1), zR (k + 2), zR (k + 3), zR (k + 4), zI 0, zI 0, zI 0, zI 0, zI 0, zI 0, zI 0, zI 0, zI 0], zA 5 (fun _ => 0), zA 5 (fun _ => 0), zA 5 (fun _ => 0), zA 5 (fun _ => 0)]) _
  refine z_aload_n dX2_init_57 rfl ?_
  refine z_iconst dX2_init_58 ?_
  refine n_puti (i := 0) hk dX2_init_59 fp_X2_39 (Or.inl rfl) rfl (Nat.le_of_ble_eq_true rfl) ?_
  show Z rc M_X2_init 4 20 62 [some (zR k)] [] (g ++ [zO 2 [zR (k + 1), zR (k + 2), zR (k + 3), zR (k + 4), zI 0, zI 0, zI 0, zI 0, zI 0, zI 0, zI 0, zI 0, zI 0], zA 5 (fun _ => 0), zA 5 (fun _ => 0), zA 5 (fun _ => 0), zA 5 (fun _ => 0)]) _
  refine z_aload_n dX2_init_62 rfl ?_
  refine z_iconst dX2_init_63 ?_
  refine n_puti (i := 0) hk dX2_init_64 fp_X2_42 (Or.inl rfl) rfl (Nat.le_of_ble_eq_true rfl) ?_
  show Z rc M_X2_init 4 20 67 [some (zR k)] [] (g ++ [zO 2 [zR (k + 1), zR (k + 2), zR (k + 3), zR (k + 4), zI 0, zI 0, zI 0, zI 0, zI 0, zI 0, zI 0, zI 0, zI 0], zA 5 (fun _ => 0), zA 5 (fun _ => 0), zA 5 (fun _ => 0), zA 5 (fun _ => 0)]) _
  refine z_aload_n dX2_init_67 rfl ?_
  refine z_iconst dX2_init_68 ?_
  refine n_puti (i := 0) hk dX2_init_69 fp_X2_45 (Or.inl rfl) rfl (Nat.le_of_ble_eq_true rfl) ?_
  show Z rc M_X2_init 4 20 72 [some (zR k)] [] (g ++ [zO 2 [zR (k + 1), zR (k + 2), zR (k + 3), zR (k + 4), zI 0, zI 0, zI 0, zI 0, zI 0, zI 0, zI 0, zI 1, zI 0], zA 5 (fun _ => 0), zA 5 (fun _ => 0), zA 5 (fun _ => 0), zA 5 (fun _ => 0)]) _
  refine z_aload_n dX2_init_72 rfl ?_
  refine z_iconst dX2_init_73 ?_
  refine n_puti (i := 0) hk dX2_init_74 fp_X2_48 (Or.inl rfl) rfl (Nat.le_of_ble_eq_true rfl) ?_
  show Z rc M_X2_init 4 20 77 [some (zR k)] [] (g ++ [zO 2 [zR (k + 1), zR (k + 2), zR (k + 3), zR (k + 4), zI 0, zI 0, zI 0, zI 0, zI 0, zI 0, zI 0, zI 1, zI 0], zA 5 (fun _ => 0), zA 5 (fun _ => 0), zA 5 (fun _ => 0), zA 5 (fun _ => 0)]) _
  exact z_vret (S := []) dX2_init_77 rfl rfl rfl ⟨rfl, rfl⟩
theorem n_X4_init (hk : g.length = k) : K rc M_X4_init [zR k] (g ++ [zO 4 [zN, zI 0, zI 0]]) (fun r h => r = none ∧ h = g ++ [zO 4 [zR (k + 1), zI 0, zI 0], zA 312 (fun _ => 0)]) := by
  refine K_of 0 (by decide) (Nat.le_of_ble_eq_true rfl) (show Z _ _ 0 0 0 [some (zR k)] [] _ _ from ?_)
  refine z_aload_n dX4_init_0 rfl ?_
  refine z_obj dX4_init_1 zw_129 zw_22 zw_23 (by decide) (by decide) ?_
  refine z_aload_n dX4_init_4 rfl ?_
  refine z_sipush dX4_init_5 rfl ?_
  refine n_newa (N := 312) hk true dX4_init_8 zw_40 rfl (by decide) (by decide) (by decide) ?_
  show Z rc M_X4_init 1 312 10 [some (zR k)] [zR (k + 1), zR k] (g ++ [zO 4 [zN, zI 0, zI 0], zA 312 (fun _ => 0)]) _
  refine n_putF (i := 0) hk dX4_init_10 fp_X4_11 rfl (Or.inr ⟨_, rfl⟩) rfl (Nat.le_of_ble_eq_true rfl) ?_
  show Z rc M_X4_init 1 312 13 [some (zR k)] [] (g ++ [zO 4 [zR (k + 1), zI 0, zI 0], zA 312 (fun _ => 0)]) _
  refine z_aload_n dX4_init_13 rfl ?_
  refine z_iconst dX4_init_14 ?_
  refine n_puti (i := 0) hk dX4_init_15 fp_X4_15 (Or.inl rfl) rfl (Nat.le_of_ble_eq_true rfl) ?_
  show Z rc M_X4_init 1 312 18 [some (zR k)] [] (g ++ [zO 4 [zR (k + 1), zI 0, zI 0], zA 312 (fun _ => 0)]) _
  refine z_aload_n dX4_init_18 rfl ?_
  refine z_iconst dX4_init_19 ?_
  refine n_puti (i := 0) hk dX4_init_20 fp_X4_19 (Or.inl rfl) rfl (Nat.le_of_ble_eq_true rfl) ?_
  show Z rc M_X4_init 1 312 23 [some (zR k)] [] (g ++ [zO 4 [zR (k + 1), zI 0, zI 0], zA 312 (fun _ => 0)]) _
  exact z_vret (S := []) dX4_init_23 rfl rfl rfl ⟨rfl, rfl⟩
theorem n_X0_init (hk : g.length = k) : K rc M_X0_init [zR k] (g ++ [zO 0 [zN, zI 0, zI 0, zI 0, zI 0]]) (fun r h => r = none ∧ h = g ++ [zO 0 [zR (k + 1), zI 0, zI 0, zI 0, zI 0], zA 16 (fun _ => 0)]) := by
  refine K_of 0 (by decide) (Nat.le_of_ble_eq_true rfl) (show Z _ _ 0 0 0 [some (zR k)] [] _ _ from ?_)
  refine z_aload_n dX0_init_0 rfl ?_
  refine z_obj dX0_init_1 zw_145 zw_22 zw_23 (by decide) (by decide) ?_
  refine z_aload_n dX0_init_4 rfl ?_
  refine z_bipush dX0_init_5 rfl ?_
  refine n_newa (N := 16) hk true dX0_init_7 zw_40 rfl (by decide) (by decide) (by decide) ?_
  show Z rc M_X0_init 1 16 9 [some (zR k)] [zR (k + 1), zR k] (g ++ [zO 0 [zN, zI 0, zI 0, zI 0, zI 0], zA 16 (fun _ => 0)]) _
  refine n_putF (i := 0) hk dX0_init_9 fp_X0_11 rfl (Or.inr ⟨_, rfl⟩) rfl (Nat.le_of_ble_eq_true rfl) ?_
  show Z rc M_X0_init 1 16 12 [some (zR k)] [] (g ++ [zO 0 [zR (k + 1), zI 0, zI 0, zI 0, zI 0], zA 16 (fun _ => 0)]) _
  refine z_aload_n dX0_init_12 rfl ?_
  refine z_iconst dX0_init_13 ?_
  refine n_puti (i := 0) hk dX0_init_14 fp_X0_15 (Or.inl rfl) rfl (Nat.le_of_ble_eq_true rfl) ?_
  show Z rc M_X0_init 1 16 17 [some (zR k)] [] (g ++ [zO 0 [zR (k + 1), zI 0, zI 0, zI 0, zI 0], zA 16 (fun _ => 0)]) _
  refine z_aload_n dX0_init_17 rfl ?_
  refine z_iconst dX0_init_18 ?_
  refine n_puti (i := 0) hk dX0_init_19 fp_X0_19 (Or.inl rfl) rfl (Nat.le_of_ble_eq_true rfl) ?_
  show Z rc M_X0_init 1 16 22 [some (zR k)] [] (g ++ [zO 0 [zR (k + 1), zI 0, zI 0, zI 0, zI 0], zA 16 (fun _ => 0)]) _
  refine z_aload_n dX0_init_22 rfl ?_
  refine z_iconst dX0_init_23 ?_
  refine n_puti (i := 0) hk dX0_init_24 fp_X0_22 (Or.inl rfl) rfl (Nat.le_of_ble_eq_true rfl) ?_
  show Z rc M_X0_init 1 16 27 [some (zR k)] [] (g ++ [zO 0 [zR (k + 1), zI 0, zI 0, zI 0, zI 0], zA 16 (fun _ => 0)]) _
  refine z_aload_n dX0_init_27 rfl ?_
  refine z_iconst dX0_init_28 ?_
  refine n_puti (i := 0) hk dX0_init_29 fp_X0_25 (Or.inl rfl) rfl (Nat.le_of_ble_eq_true rfl) ?_
  show Z rc M_X0_init 1 16 32 [some (zR k)] [] (g ++ [zO 0 [zR (k + 1), zI 0, zI 0, zI 0, zI 0], zA 16 (fun _ => 0)]) _
  exact z_vret (S := []) dX0_init_32 rfl rfl rfl ⟨rfl, rfl⟩
theorem n_X5_init : K rc M_X5_init [zR k] h (fun r h2 => r = none ∧ h2 = h) := by
  refine K_of 0 (by decide) (Nat.le_of_ble_eq_true rfl) (show Z _ _ 0 0 0 [some (zR k)] [] _ _ from ?_)
  refine z_aload_n dX5_init_0 rfl ?_
  refine z_obj dX5_init_1 zw_173 zw_22 zw_23 (by decide) (by decide) ?_
  exact z_vret (S := []) dX5_init_4 rfl rfl rfl ⟨rfl, rfl⟩
theorem n_X3_init : K rc M_X3_init [zR k] h (fun r h2 => r = none ∧ h2 = h) := by
  refine K_of 0 (by decide) (Nat.le_of_ble_eq_true rfl) (show Z _ _ 0 0 0 [some (zR k)] [] _ _ from ?_)
  refine z_aload_n dX3_init_0 rfl ?_
  refine z_invIN (Y' := M_X5_init) dX3_init_1 (List.mem_of_getElem? (i := 6) rfl) zw_171 rfl rfl ok_X5_init (by decide) rfl (by decide) (by decide) n_X5_init ?_
  rintro r h2 ⟨rfl, rfl⟩
  exact z_vret (S := []) dX3_init_4 rfl rfl rfl ⟨rfl, rfl⟩
theorem n_X10_init : K rc M_X10_init [zR k] h (fun r h2 => r = none ∧ h2 = h) := by
  refine K_of 0 (by decide) (Nat.le_of_ble_eq_true rfl) (show Z _ _ 0 0 0 [some (zR k)] [] _ _ from ?_)
  refine z_aload_n dX10_init_0 rfl ?_
  refine z_invIN (Y' := M_X5_init) dX10_init_1 (List.mem_of_getElem? (i := 12) rfl) zw_171 rfl rfl ok_X5_init (by decide) rfl (by decide) (by decide) n_X5_init ?_
  rintro r h2 ⟨rfl, rfl⟩
  exact z_vret (S := []) dX10_init_4 rfl rfl rfl ⟨rfl, rfl⟩
theorem n_X1_init : K rc M_X1_init [zR k] h (fun r h2 => r = none ∧ h2 = h) := by
  refine K_of 0 (by decide) (Nat.le_of_ble_eq_true rfl) (show Z _ _ 0 0 0 [some (zR k)] [] _ _ from ?_)
  refine z_aload_n dX1_init_0 rfl ?_
  refine z_invIN (Y' := M_X3_init) dX1_init_1 (List.mem_of_getElem? (i := 8) rfl) zw_168 rfl rfl ok_X3_init (by decide) rfl (by decide) (by decide) n_X3_init ?_
  rintro r h2 ⟨rfl, rfl⟩
  exact z_vret (S := []) dX1_init_4 rfl rfl rfl ⟨rfl, rfl⟩
theorem n_X8_init : K rc M_X8_init [zR k] h (fun r h2 => r = none ∧ h2 = h) := by
  refine K_of 0 (by decide) (Nat.le_of_ble_eq_true rfl) (show Z _ _ 0 0 0 [some (zR k)] [] _ _ from ?_)
  refine z_aload_n dX8_init_0 rfl ?_
  refine z_invIN (Y' := M_X3_init) dX8_init_1 (List.mem_of_getElem? (i := 10) rfl) zw_168 rfl rfl ok_X3_init (by decide) rfl (by decide) (by decide) n_X3_init ?_
  rintro r h2 ⟨rfl, rfl⟩
  exact z_vret (S := []) dX8_init_4 rfl rfl rfl ⟨rfl, rfl⟩
theorem n_X6_init : K rc M_X6_init [zR k] h (fun r h2 => r = none ∧ h2 = h) := by
  refine K_of 0 (by decide) (Nat.le_of_ble_eq_true rfl) (show Z _ _ 0 0 0 [some (zR k)] [] _ _ from ?_)
  refine z_aload_n dX6_init_0 rfl ?_
  refine z_invIN (Y' := M_X10_init) dX6_init_1 (List.mem_of_getElem? (i := 14) rfl) zw_192 rfl rfl ok_X10_init (by decide) rfl (by decide) (by decide) n_X10_init ?_
  rintro r h2 ⟨rfl, rfl⟩
  exact z_vret (S := []) dX6_init_4 rfl rfl rfl ⟨rfl, rfl⟩
theorem n_X11_init : K rc M_X11_init [zR 0] [zO 10 [zN, zN, zN, zN, zN, zN, zN, zN, zN, zN, zN, zN, zN, zN, zN, zN, zI 0, zI 0]] (fun r h => r = none ∧ h = [zO 10 [zR 1, zR 5, zR 8, zR 13, zR 18, zR 23, zR 28, zR 30, zR 32, zR 33, zR 34, zR 35, zR 36, zR 37, zR 38, zR 39, zI 0, zI 0], zO 6 [zR 2, zR 3, zR 4], zA 8 (fun _ => 0), zA 8 (fun _ => 0), zA 320 (fun _ => 0), zO 8 [zR 6, zR 7, zI 0, zI 0, zI 0], zA 100 (fun _ => 0), zA 5 (fun _ => 0), zO 2 [zR 9, zR 10, zR 11, zR 12, zI 0, zI 0, zI 0, zI 0, zI 0, zI 0, zI 0, zI 1, zI 0], zA 5 (fun _ => 0), zA 5 (fun _ => 0), zA 5 (fun _ => 0), zA 5 (fun _ => 0), zO 2 [zR 14, zR 15, zR 16, zR 17, zI 0, zI 0, zI 0, zI 0, zI 0, zI 0, zI 0, zI 1, zI 0], zA 5 (fun _ => 0), zA 5 (fun _ => 0), zA 5 (fun _ => 0), zA 5 (fun _ => 0), zO 2 [zR 19, zR 20, zR 21, zR 22, zI 0, zI 0, zI 0, zI 0, zI 0, zI 0, zI 0, zI 1, zI 0], zA 5 (fun _ => 0), zA 5 (fun _ => 0), zA 5 (fun _ => 0), zA 5 (fun _ => 0), zO 2 [zR 24, zR 25, zR 26, zR 27, zI 0, zI 0, zI 0, zI 0, zI 0, zI 0, zI 0, zI 1, zI 0], zA 5 (fun _ => 0), zA 5 (fun _ => 0), zA 5 (fun _ => 0), zA 5 (fun _ => 0), zO 4 [zR 29, zI 0, zI 0], zA 312 (fun _ => 0), zO 0 [zR 31, zI 0, zI 0, zI 0, zI 0], zA 16 (fun _ => 0), zO 3 [], zO 1 [], zO 7 [], zO 9 [], zO 5 [], zA 50 (fun _ => 0), zA 60 (fun _ => 0), zA 5 (fun _ => 0)]) := by
  refine K_of 0 (by decide) (Nat.le_of_ble_eq_true rfl) (show Z _ _ 0 0 0 [some (zR 0)] [] _ _ from ?_)
  refine z_aload_n dX11_init_0 rfl ?_
  refine z_obj dX11_init_1 zw_21 zw_22 zw_23 (by decide) (by decide) ?_
  refine z_aload_n dX11_init_4 rfl ?_
  refine z_new (ci := 6) RX7 TX7 3 tyX7 [zN, zN, zN] dX11_init_5 rfl uw_X7 tyX7_ok zw_24 zw_25 zw_2 rfl (by decide) (by decide) ?_
  refine z_dup dX11_init_8 rfl ?_
  refine z_invIN (Y' := M_X7_init) dX11_init_9 (List.mem_of_getElem? (i := 0) rfl) zw_27 rfl rfl ok_X7_init (by decide) rfl (by decide) (by decide) (n_X7_init (g := [zO 10 [zN, zN, zN, zN, zN, zN, zN, zN, zN, zN, zN, zN, zN, zN, zN, zN, zI 0, zI 0]]) (k := 1) rfl) ?_
  rintro r h2 ⟨rfl, rfl⟩
  show Z rc M_X11_init 4 339 12 [some (zR 0)] [zR 1, zR 0] [zO 10 [zN, zN, zN, zN, zN, zN, zN, zN, zN, zN, zN, zN, zN, zN, zN, zN, zI 0, zI 0], zO 6 [zR 2, zR 3, zR 4], zA 8 (fun _ => 0), zA 8 (fun _ => 0), zA 320 (fun _ => 0)] _
  refine z_putF dX11_init_12 fp_X11_12 rfl (Or.inl ⟨_, rfl⟩) rfl (Nat.le_of_ble_eq_true rfl) ?_
  show Z rc M_X11_init 4 339 15 [some (zR 0)] [] [zO 10 [zR 1, zN, zN, zN, zN, zN, zN, zN, zN, zN, zN, zN, zN, zN, zN, zN, zI 0, zI 0], zO 6 [zR 2, zR 3, zR 4], zA 8 (fun _ => 0), zA 8 (fun _ => 0), zA 320 (fun _ => 0)] _
  refine z_aload_n dX11_init_15 rfl ?_
  refine z_new (ci := 8) RX9 TX9 5 tyX9 [zN, zN, zI 0, zI 0, zI 0] dX11_init_16 rfl uw_X9 tyX9_ok zw_41 zw_42 zw_3 rfl (by decide) (by decide) ?_
  refine z_dup dX11_init_19 rfl ?_
  refine z_invIN (Y' := M_X9_init) dX11_init_20 (List.mem_of_getElem? (i := 1) rfl) zw_44 rfl rfl ok_X9_init (by decide) rfl (by decide) (by decide) (n_X9_init (g := [zO 10 [zR 1, zN, zN, zN, zN, zN, zN, zN, zN, zN, zN, zN, zN, zN, zN, zN, zI 0, zI 0], zO 6 [zR 2, zR 3, zR 4], zA 8 (fun _ => 0), zA 8 (fun _ => 0), zA 320 (fun _ => 0)]) (k := 5) rfl) ?_
  rintro r h2 ⟨rfl, rfl⟩
  show Z rc M_X11_init 7 449 23 [some (zR 0)] [zR 5, zR 0] [zO 10 [zR 1, zN, zN, zN, zN, zN, zN, zN, zN, zN, zN, zN, zN, zN, zN, zN, zI 0, zI 0], zO 6 [zR 2, zR 3, zR 4], zA 8 (fun _ => 0), zA 8 (fun _ => 0), zA 320 (fun _ => 0), zO 8 [zR 6, zR 7, zI 0, zI 0, zI 0], zA 100 (fun _ => 0), zA 5 (fun _ => 0)] _
  refine z_putF dX11_init_23 fp_X11_19 rfl (Or.inl ⟨_, rfl⟩) rfl (Nat.le_of_ble_eq_true rfl) ?_
  show Z rc M_X11_init 7 449 26 [some (zR 0)] [] [zO 10 [zR 1, zR 5, zN, zN, zN, zN, zN, zN, zN, zN, zN, zN, zN, zN, zN, zN, zI 0, zI 0], zO 6 [zR 2, zR 3, zR 4], zA 8 (fun _ => 0), zA 8 (fun _ => 0), zA 320 (fun _ => 0), zO 8 [zR 6, zR 7, zI 0, zI 0, zI 0], zA 100 (fun _ => 0), zA 5 (fun _ => 0)] _
  refine z_aload_n dX11_init_26 rfl ?_
  refine z_new (ci := 2) RX2 TX2 13 tyX2 [zN, zN, zN, zN, zI 0, zI 0, zI 0, zI 0, zI 0, zI 0, zI 0, zI 0, zI 0] dX11_init_27 rfl uw_X2 tyX2_ok zw_63 zw_64 zw_4 rfl (by decide) (by decide) ?_
  refine z_dup dX11_init_30 rfl ?_
  refine z_invIN (Y' := M_X2_init) dX11_init_31 (List.mem_of_getElem? (i := 2) rfl) zw_66 rfl rfl ok_X2_init (by decide) rfl (by decide) (by decide) (n_X2_init (g := [zO 10 [zR 1, zR 5, zN, zN, zN, zN, zN, zN, zN, zN, zN, zN, zN, zN, zN, zN, zI 0, zI 0], zO 6 [zR 2, zR 3, zR 4], zA 8 (fun _ => 0), zA 8 (fun _ => 0), zA 320 (fun _ => 0), zO 8 [zR 6, zR 7, zI 0, zI 0, zI 0], zA 100 (fun _ => 0), zA 5 (fun _ => 0)]) (k := 8) rfl) ?_
  rintro r h2 ⟨rfl, rfl⟩
  show Z rc M_X11_init 12 482 34 [some (zR 0)] [zR 8, zR 0] [zO 10 [zR 1, zR 5, zN, zN, zN, zN, zN, zN, zN, zN, zN, zN, zN, zN, zN, zN, zI 0, zI 0], zO 6 [zR 2, zR 3, zR 4], zA 8 (fun _ => 0), zA 8 (fun _ => 0), zA 320 (fun _ => 0), zO 8 [zR 6, zR 7, zI 0, zI 0, zI 0], zA 100 (fun _ => 0), zA 5 (fun _ => 0), zO 2 [zR 9, zR 10, zR 11, zR 12, zI 0, zI 0, zI 0, zI 0, zI 0, zI 0, zI 0, zI 1, zI 0], zA 5 (fun _ => 0), zA 5 (fun _ => 0), zA 5 (fun _ => 0), zA 5 (fun _ => 0)] _
  refine z_putF dX11_init_34 fp_X11_26 rfl (Or.inl ⟨_, rfl⟩) rfl (Nat.le_of_ble_eq_true rfl) ?_
  show Z rc M_X11_init 12 482 37 [some (zR 0)] [] [zO 10 [zR 1, zR 5, zR 8, zN, zN, zN, zN, zN, zN, zN, zN, zN, zN, zN, zN, zN, zI 0, zI 0], zO 6 [zR 2, zR 3, zR 4], zA 8 (fun _ => 0), zA 8 (fun _ => 0), zA 320 (fun _ => 0), zO 8 [zR 6, zR 7, zI 0, zI 0, zI 0], zA 100 (fun _ => 0), zA 5 (fun _ => 0), zO 2 [zR 9, zR 10, zR 11, zR 12, zI 0, zI 0, zI 0, zI 0, zI 0, zI 0, zI 0, zI 1, zI 0], zA 5 (fun _ => 0), zA 5 (fun _ => 0), zA 5 (fun _ => 0), zA 5 (fun _ => 0)] _
  refine z_aload_n dX11_init_37 rfl ?_
  refine z_new (ci := 2) RX2 TX2 13 tyX2 [zN, zN, zN, zN, zI 0, zI 0, zI 0, zI 0, zI 0, zI 0, zI 0, zI 0, zI 0] dX11_init_38 rfl uw_X2 tyX2_ok zw_63 zw_64 zw_4 rfl (by decide) (by decide) ?_
  refine z_dup dX11_init_41 rfl ?_
  refine z_invIN (Y' := M_X2_init) dX11_init_42 (List.mem_of_getElem? (i := 2) rfl) zw_66 rfl rfl ok_X2_init (by decide) rfl (by decide) (by decide) (n_X2_init (g := [zO 10 [zR 1, zR 5, zR 8, zN, zN, zN, zN, zN, zN, zN, zN, zN, zN, zN, zN, zN, zI 0, zI 0], zO 6 [zR 2, zR 3, zR 4], zA 8 (fun _ => 0), zA 8 (fun _ => 0), zA 320 (fun _ => 0), zO 8 [zR 6, zR 7, zI 0, zI 0, zI 0], zA 100 (fun _ => 0), zA 5 (fun _ => 0), zO 2 [zR 9, zR 10, zR 11, zR 12, zI 0, zI 0, zI 0, zI 0, zI 0, zI 0, zI 0, zI 1, zI 0], zA 5 (fun _ => 0), zA 5 (fun _ => 0), zA 5 (fun _ => 0), zA 5 (fun _ => 0)]) (k := 13) rfl) ?_
  rintro r h2 ⟨rfl, rfl⟩
  show Z rc M_X11_init 17 515 45 [some (zR 0)] [zR 13, zR 0] [zO 10 [zR 1, zR 5, zR 8, zN, zN, zN, zN, zN, zN, zN, zN, zN, zN, zN, zN, zN, zI 0, zI 0], zO 6 [zR 2, zR 3, zR 4], zA 8 (fun _ => 0), zA 8 (fun _ => 0), zA 320 (fun _ => 0), zO 8 [zR 6, zR 7, zI 0, zI 0, zI 0], zA 100 (fun _ => 0), zA 5 (fun _ => 0), zO 2 [zR 9, zR 10, zR 11, zR 12, zI 0, zI 0, zI 0, zI 0, zI 0, zI 0, zI 0, zI 1, zI 0], zA 5 (fun _ => 0), zA 5 (fun _ => 0), zA 5 (fun _ => 0), zA 5 (fun _ => 0), zO 2 [zR 14, zR 15, zR 16, zR 17, zI 0, zI 0, zI 0, zI 0, zI 0, zI 0, zI 0, zI 1, zI 0], zA 5 (fun _ => 0), zA 5 (fun _ => 0), zA 5 (fun _ => 0), zA 5 (fun _ => 0)] _
  refine z_putF dX11_init_45 fp_X11_30 rfl (Or.inl ⟨_, rfl⟩) rfl (Nat.le_of_ble_eq_true rfl) ?_
  show Z rc M_X11_init 17 515 48 [some (zR 0)] [] [zO 10 [zR 1, zR 5, zR 8, zR 13, zN, zN, zN, zN, zN, zN, zN, zN, zN, zN, zN, zN, zI 0, zI 0], zO 6 [zR 2, zR 3, zR 4], zA 8 (fun _ => 0), zA 8 (fun _ => 0), zA 320 (fun _ => 0), zO 8 [zR 6, zR 7, zI 0, zI 0, zI 0], zA 100 (fun _ => 0), zA 5 (fun _ => 0), zO 2 [zR 9, zR 10, zR 11, zR 12, zI 0, zI 0, zI 0, zI 0, zI 0, zI 0, zI 0, zI 1, zI 0], zA 5 (fun _ => 0), zA 5 (fun _ => 0), zA 5 (fun _ => 0), zA 5 (fun _ => 0), zO 2 [zR 14, zR 15, zR 16, zR 17, zI 0, zI 0, zI 0, zI 0, zI 0, zI 0, zI 0, zI 1, zI 0], zA 5 (fun _ => 0), zA 5 (fun _ => 0), zA 5 (fun _ => 0), zA 5 (fun _ => 0)] _
  refine z_aload_n dX11_init_48 rfl ?_
  refine z_new (ci := 2) RX2 TX2 13 tyX2 [zN, zN, zN, zN, zI 0, zI 0, zI 0, zI 0, zI 0, zI 0, zI 0, zI 0, zI 0] dX11_init_49 rfl uw_X2 tyX2_ok zw_63 zw_64 zw_4 rfl (by decide) (by decide) ?_
  refine z_dup dX11_init_52 rfl ?_
  refine z_invIN (Y' := M_X2_init) dX11_init_53 (List.mem_of_getElem? (i := 2) rfl) zw_66 rfl rfl ok_X2_init (by decide) rfl (by decide) (by decide) (n_X2_init (g := [zO 10 [zR 1, zR 5, zR 8, zR 13, zN, zN, zN, zN, zN, zN, zN, zN, zN, zN, zN, zN, zI 0, zI 0], zO 6 [zR 2, zR 3, zR 4], zA 8 (fun _ => 0), zA 8 (fun _ => 0), zA 320 (fun _ => 0), zO 8 [zR 6, zR 7, zI 0, zI 0, zI 0], zA 100 (fun _ => 0), zA 5 (fun _ => 0), zO 2 [zR 9, zR 10, zR 11, zR 12, zI 0, zI 0, zI 0, zI 0, zI 0, zI 0, zI 0, zI 1, zI 0], zA 5 (fun _ => 0), zA 5 (fun _ => 0), zA 5 (fun _ => 0), zA 5 (fun _ => 0), zO 2 [zR 14, zR 15, zR 16, zR 17, zI 0, zI 0, zI 0, zI 0, zI 0, zI 0, zI 0, zI 1, zI 0], zA 5 (fun _ => 0), zA 5 (fun _ => 0), zA 5 (fun _ => 0), zA 5 (fun _ => 0)]) (k := 18) rfl) ?_
  rintro r h2 ⟨rfl, rfl⟩
  show Z rc M_X11_init 22 548 56 [some (zR 0)] [zR 18, zR 0] [zO 10 [zR 1, zR 5, zR 8, zR 13, zN, zN, zN, zN, zN, zN, zN, zN, zN, zN, zN, zN, zI 0, zI 0], zO 6 [zR 2, zR 3, zR 4], zA 8 (fun _ => 0), zA 8 (fun _ => 0), zA 320 (fun _ => 0), zO 8 [zR 6, zR 7, zI 0, zI 0, zI 0], zA 100 (fun _ => 0), zA 5 (fun _ => 0), zO 2 [zR 9, zR 10, zR 11, zR 12, zI 0, zI 0, zI 0, zI 0, zI 0, zI 0, zI 0, zI 1, zI 0], zA 5 (fun _ => 0), zA 5 (fun _ => 0), zA 5 (fun _ => 0), zA 5 (fun _ => 0), zO 2 [zR 14, zR 15, zR 16, zR 17, zI 0, zI 0, zI 0, zI 0, zI 0, zI 0, zI 0, zI 1, zI 0], zA 5 (fun _ => 0), zA 5 (fun _ => 0), zA 5 (fun _ => 0), zA 5 (fun _ => 0), zO 2 [zR 19, zR 20, zR 21, zR 22, zI 0, zI 0, zI 0, zI 0, zI 0, zI 0, zI 0, zI 1, zI 0], zA 5 (fun _ => 0), zA 5 (fun _ => 0), zA 5 (fun _ => 0), zA 5 (fun _ => 0)] _
  refine z_putF dX11_init_56 fp_X11_33 rfl (Or.inl ⟨_, rfl⟩) rfl (Nat.le_of_ble_eq_true rfl) ?_
  show Z rc M_X11_init 22 548 59 [some (zR 0)] [] [zO 10 [zR 1, zR 5, zR 8, zR 13, zR 18, zN, zN, zN, zN, zN, zN, zN, zN, zN, zN, zN, zI 0, zI 0], zO 6 [zR 2, zR 3, zR 4], zA 8 (fun _ => 0), zA 8 (fun _ => 0), zA 320 (fun _ => 0), zO 8 [zR 6, zR 7, zI 0, zI 0, zI 0], zA 100 (fun _ => 0), zA 5 (fun _ => 0), zO 2 [zR 9, zR 10, zR 11, zR 12, zI 0, zI 0, zI 0, zI 0, zI 0, zI 0, zI 0, zI 1, zI 0], zA 5 (fun _ => 0), zA 5 (fun _ => 0), zA 5 (fun _ => 0), zA 5 (fun _ => 0), zO 2 [zR 14, zR 15, zR 16, zR 17, zI 0, zI 0, zI 0, zI 0, zI 0, zI 0, zI 0, zI 1, zI 0], zA 5 (fun _ => 0), zA 5 (fun _ => 0), zA 5 (fun _ => 0), zA 5 (fun _ => 0), zO 2 [zR 19, zR 20, zR 21, zR 22, zI 0, zI 0, zI 0, zI 0, zI 0, zI 0, zI 0, zI 1, zI 0], zA 5 (fun _ => 0), zA 5 (fun _ => 0), zA 5 (fun _ => 0), zA 5 (fun _ => 0)] _
  refine z_aload_n dX11_init_59 rfl ?_
  refine z_new (ci := 2) RX2 TX2 13 tyX2 [zN, zN, zN, zN, zI 0, zI 0, zI 0, zI 0, zI 0, zI 0, zI 0, zI 0, zI 0] dX11_init_60 rfl uw_X2 tyX2_ok zw_63 zw_64 zw_4 rfl (by decide) (by decide) ?_
  refine z_dup dX11_init_63 rfl ?_
  refine z_invIN (Y' := M_X2_init) dX11_init_64 (List.mem_of_getElem? (i := 2) rfl) zw_66 rfl rfl ok_X2_init (by decide) rfl (by decide) (by decide) (n_X2_init (g := [zO 10 [zR 1, zR 5, zR 8, zR 13, zR 18, zN, zN, zN, zN, zN, zN, zN, zN, zN, zN, zN, zI 0, zI 0], zO 6 [zR 2, zR 3, zR 4], zA 8 (fun _ => 0), zA 8 (fun _ => 0), zA 320 (fun _ => 0), zO 8 [zR 6, zR 7, zI 0, zI 0, zI 0], zA 100 (fun _ => 0), zA 5 (fun _ => 0), zO 2 [zR 9, zR 10, zR 11, zR 12, zI 0, zI 0, zI 0, zI 0, zI 0, zI 0, zI 0, zI 1, zI 0], zA 5 (fun _ => 0), zA 5 (fun _ => 0), zA 5 (fun _ => 0), zA 5 (fun _ => 0), zO 2 [zR 14, zR 15, zR 16, zR 17, zI 0, zI 0, zI 0, zI 0, zI 0, zI 0, zI 0, zI 1, zI 0], zA 5 (fun _ => 0), zA 5 (fun _ => 0), zA 5 (fun _ => 0), zA 5 (fun _ => 0), zO 2 [zR 19, zR 20, zR 21, zR 22, zI 0, zI 0, zI 0, zI 0, zI 0, zI 0, zI 0, zI 1, zI 0], zA 5 (fun _ => 0), zA 5 (fun _ => 0), zA 5 (fun _ => 0), zA 5 (fun _ => 0)]) (k := 23) rfl) ?_
  rintro r h2 ⟨rfl, rfl⟩
  show Z rc M_X11_init 27 581 67 [some (zR 0)] [zR 23, zR 0] [zO 10 [zR 1, zR 5, zR 8, zR 13, zR 18, zN, zN, zN, zN, zN, zN, zN, zN, zN, zN, zN, zI 0, zI 0], zO 6 [zR 2, zR 3, zR 4], zA 8 (fun _ => 0), zA 8 (fun _ => 0), zA 320 (fun _ => 0), zO 8 [zR 6, zR 7, zI 0, zI 0, zI 0], zA 100 (fun _ => 0), zA 5 (fun _ => 0), zO 2 [zR 9, zR 10, zR 11, zR 12, zI 0, zI 0, zI 0, zI 0, zI 0, zI 0, zI 0, zI 1, zI 0], zA 5 (fun _ => 0), zA 5 (fun _ => 0), zA 5 (fun _ => 0), zA 5 (fun _ => 0), zO 2 [zR 14, zR 15, zR 16, zR 17, zI 0, zI 0, zI 0, zI 0, zI 0, zI 0, zI 0, zI 1, zI 0], zA 5 (fun _ => 0), zA 5 (fun _ => 0), zA 5 (fun _ => 0), zA 5 (fun _ => 0), zO 2 [zR 19, zR 20, zR 21, zR 22, zI 0, zI 0, zI 0, zI 0, zI 0, zI 0, zI 0, zI 1, zI 0], zA 5 (fun _ => 0), zA 5 (fun _ => 0), zA 5 (fun _ => 0), zA 5 (fun _ => 0), zO 2 [zR 24, zR 25, zR 26, zR 27, zI 0, zI 0, zI 0, zI 0, zI 0, zI 0, zI 0, zI 1, zI 0], zA 5 (fun _ => 0), zA 5 (fun _ => 0), zA 5 (fun _ => 0), zA 5 (fun _ => 0)] _
  refine z_putF dX11_init_67 fp_X11_36 rfl (Or.inl ⟨_, rfl⟩) rfl (Nat.le_of_ble_eq_true rfl) ?_
  show Z rc M_X11_init 27 581 70 [some (zR 0)] [] [zO 10 [zR 1, zR 5, zR 8, zR 13, zR 18, zR 23, zN, zN, zN, zN, zN, zN, zN, zN, zN, zN, zI 0, zI 0], zO 6 [zR 2, zR 3, zR 4], zA 8 (fun _ => 0), zA 8 (fun _ => 0), zA 320 (fun _ => 0), zO 8 [zR 6, zR 7, zI 0, zI 0, zI 0], zA 100 (fun _ => 0), zA 5 (fun _ => 0), zO 2 [zR 9, zR 10, zR 11, zR 12, zI 0, zI 0, zI 0, zI 0, zI 0, zI 0, zI 0, zI 1, zI 0], zA 5 (fun _ => 0), zA 5 (fun _ => 0), zA 5 (fun _ => 0), zA 5 (fun _ => 0), zO 2 [zR 14, zR 15, zR 16, zR 17, zI 0, zI 0, zI 0, zI 0, zI 0, zI 0, zI 0, zI 1, zI 0], zA 5 (fun _ => 0), zA 5 (fun _ => 0), zA 5 (fun _ => 0), zA 5 (fun _ => 0), zO 2 [zR 19, zR 20, zR 21, zR 22, zI 0, zI 0, zI 0, zI 0, zI 0, zI 0, zI 0, zI 1, zI 0], zA 5 (fun _ => 0), zA 5 (fun _ => 0), zA 5 (fun _ => 0), zA 5 (fun _ => 0), zO 2 [zR 24, zR 25, zR 26, zR 27, zI 0, zI 0, zI 0, zI 0, zI 0, zI 0, zI 0, zI 1, zI 0], zA 5 (fun _ => 0), zA 5 (fun _ => 0), zA 5 (fun _ => 0), zA 5 (fun _ => 0)] _
  refine z_aload_n dX11_init_70 rfl ?_
  refine z_new (ci := 4) RX4 TX4 3 tyX4 [zN, zI 0, zI 0] dX11_init_71 rfl uw_X4 tyX4_ok zw_124 zw_125 zw_5 rfl (by decide) (by decide) ?_
  refine z_dup dX11_init_74 rfl ?_
  refine z_invIN (Y' := M_X4_init) dX11_init_75 (List.mem_of_getElem? (i := 3) rfl) zw_127 rfl rfl ok_X4_init (by decide) rfl (by decide) (by decide) (n_X4_init (g := [zO 10 [zR 1, zR 5, zR 8, zR 13, zR 18, zR 23, zN, zN, zN, zN, zN, zN, zN, zN, zN, zN, zI 0, zI 0], zO 6 [zR 2, zR 3, zR 4], zA 8 (fun _ => 0), zA 8 (fun _ => 0), zA 320 (fun _ => 0), zO 8 [zR 6, zR 7, zI 0, zI 0, zI 0], zA 100 (fun _ => 0), zA 5 (fun _ => 0), zO 2 [zR 9, zR 10, zR 11, zR 12, zI 0, zI 0, zI 0, zI 0, zI 0, zI 0, zI 0, zI 1, zI 0], zA 5 (fun _ => 0), zA 5 (fun _ => 0), zA 5 (fun _ => 0), zA 5 (fun _ => 0), zO 2 [zR 14, zR 15, zR 16, zR 17, zI 0, zI 0, zI 0, zI 0, zI 0, zI 0, zI 0, zI 1, zI 0], zA 5 (fun _ => 0), zA 5 (fun _ => 0), zA 5 (fun _ => 0), zA 5 (fun _ => 0), zO 2 [zR 19, zR 20, zR 21, zR 22, zI 0, zI 0, zI 0, zI 0, zI 0, zI 0, zI 0, zI 1, zI 0], zA 5 (fun _ => 0), zA 5 (fun _ => 0), zA 5 (fun _ => 0), zA 5 (fun _ => 0), zO 2 [zR 24, zR 25, zR 26, zR 27, zI 0, zI 0, zI 0, zI 0, zI 0, zI 0, zI 0, zI 1, zI 0], zA 5 (fun _ => 0), zA 5 (fun _ => 0), zA 5 (fun _ => 0), zA 5 (fun _ => 0)]) (k := 28) rfl) ?_
  rintro r h2 ⟨rfl, rfl⟩
  show Z rc M_X11_init 29 896 78 [some (zR 0)] [zR 28, zR 0] [zO 10 [zR 1, zR 5, zR 8, zR 13, zR 18, zR 23, zN, zN, zN, zN, zN, zN, zN, zN, zN, zN, zI 0, zI 0], zO 6 [zR 2, zR 3, zR 4], zA 8 (fun _ => 0), zA 8 (fun _ => 0), zA 320 (fun _ => 0), zO 8 [zR 6, zR 7, zI 0, zI 0, zI 0], zA 100 (fun _ => 0), zA 5 (fun _ => 0), zO 2 [zR 9, zR 10, zR 11, zR 12, zI 0, zI 0, zI 0, zI 0, zI 0, zI 0, zI 0, zI 1, zI 0], zA 5 (fun _ => 0), zA 5 (fun _ => 0), zA 5 (fun _ => 0), zA 5 (fun _ => 0), zO 2 [zR 14, zR 15, zR 16, zR 17, zI 0, zI 0, zI 0, zI 0, zI 0, zI 0, zI 0, zI 1, zI 0], zA 5 (fun _ => 0), zA 5 (fun _ => 0), zA 5 (fun _ => 0), zA 5 (fun _ => 0), zO 2 [zR 19, zR 20, zR 21, zR 22, zI 0, zI 0, zI 0, zI 0, zI 0, zI 0, zI 0, zI 1, zI 0], zA 5 (fun _ => 0), zA 5 (fun _ => 0), zA 5 (fun _ => 0), zA 5 (fun _ => 0), zO 2 [zR 24, zR 25, zR 26, zR 27, zI 0, zI 0, zI 0, zI 0, zI 0, zI 0, zI 0, zI 1, zI 0], zA 5 (fun _ => 0), zA 5 (fun _ => 0), zA 5 (fun _ => 0), zA 5 (fun _ => 0), zO 4 [zR 29, zI 0, zI 0], zA 312 (fun _ => 0)] _
  refine z_putF dX11_init_78 fp_X11_42 rfl (Or.inl ⟨_, rfl⟩) rfl (Nat.le_of_ble_eq_true rfl) ?_
  show Z rc M_X11_init 29 896 81 [some (zR 0)] [] [zO 10 [zR 1, zR 5, zR 8, zR 13, zR 18, zR 23, zR 28, zN, zN, zN, zN, zN, zN, zN, zN, zN, zI 0, zI 0], zO 6 [zR 2, zR 3, zR 4], zA 8 (fun _ => 0), zA 8 (fun _ => 0), zA 320 (fun _ => 0), zO 8 [zR 6, zR 7, zI 0, zI 0, zI 0], zA 100 (fun _ => 0), zA 5 (fun _ => 0), zO 2 [zR 9, zR 10, zR 11, zR 12, zI 0, zI 0, zI 0, zI 0, zI 0, zI 0, zI 0, zI 1, zI 0], zA 5 (fun _ => 0), zA 5 (fun _ => 0), zA 5 (fun _ => 0), zA 5 (fun _ => 0), zO 2 [zR 14, zR 15, zR 16, zR 17, zI 0, zI 0, zI 0, zI 0, zI 0, zI 0, zI 0, zI 1, zI 0], zA 5 (fun _ => 0), zA 5 (fun _ => 0), zA 5 (fun _ => 0), zA 5 (fun _ => 0), zO 2 [zR 19, zR 20, zR 21, zR 22, zI 0, zI 0, zI 0, zI 0, zI 0, zI 0, zI 0, zI 1, zI 0], zA 5 (fun _ => 0), zA 5 (fun _ => 0), zA 5 (fun _ => 0), zA 5 (fun _ => 0), zO 2 [zR 24, zR 25, zR 26, zR 27, zI 0, zI 0, zI 0, zI 0, zI 0, zI 0, zI 0, zI 1, zI 0], zA 5 (fun _ => 0), zA 5 (fun _ => 0), zA 5 (fun _ => 0), zA 5 (fun _ => 0), zO 4 [zR 29, zI 0, zI 0], zA 312 (fun _ => 0)] _
  refine z_aload_n dX11_init_81 rfl ?_
  refine z_new (ci := 0) RX0 TX0 5 tyX0 [zN, zI 0, zI 0, zI 0, zI 0] dX11_init_82 rfl uw_X0 tyX0_ok zw_140 zw_141 zw_6 rfl (by decide) (by decide) ?_
  refine z_dup dX11_init_85 rfl ?_
  refine z_invIN (Y' := M_X0_init) dX11_init_86 (List.mem_of_getElem? (i := 4) rfl) zw_143 rfl rfl ok_X0_init (by decide) rfl (by decide) (by decide) (n_X0_init (g := [zO 10 [zR 1, zR 5, zR 8, zR 13, zR 18, zR 23, zR 28, zN, zN, zN, zN, zN, zN, zN, zN, zN, zI 0, zI 0], zO 6 [zR 2, zR 3, zR 4], zA 8 (fun _ => 0), zA 8 (fun _ => 0), zA 320 (fun _ => 0), zO 8 [zR 6, zR 7, zI 0, zI 0, zI 0], zA 100 (fun _ => 0), zA 5 (fun _ => 0), zO 2 [zR 9, zR 10, zR 11, zR 12, zI 0, zI 0, zI 0, zI 0, zI 0, zI 0, zI 0, zI 1, zI 0], zA 5 (fun _ => 0), zA 5 (fun _ => 0), zA 5 (fun _ => 0), zA 5 (fun _ => 0), zO 2 [zR 14, zR 15, zR 16, zR 17, zI 0, zI 0, zI 0, zI 0, zI 0, zI 0, zI 0, zI 1, zI 0], zA 5 (fun _ => 0), zA 5 (fun _ => 0), zA 5 (fun _ => 0), zA 5 (fun _ => 0), zO 2 [zR 19, zR 20, zR 21, zR 22, zI 0, zI 0, zI 0, zI 0, zI 0, zI 0, zI 0, zI 1, zI 0], zA 5 (fun _ => 0), zA 5 (fun _ => 0), zA 5 (fun _ => 0), zA 5 (fun _ => 0), zO 2 [zR 24, zR 25, zR 26, zR 27, zI 0, zI 0, zI 0, zI 0, zI 0, zI 0, zI 0, zI 1, zI 0], zA 5 (fun _ => 0), zA 5 (fun _ => 0), zA 5 (fun _ => 0), zA 5 (fun _ => 0), zO 4 [zR 29, zI 0, zI 0], zA 312 (fun _ => 0)]) (k := 30) rfl) ?_
  rintro r h2 ⟨rfl, rfl⟩
  show Z rc M_X11_init 31 917 89 [some (zR 0)] [zR 30, zR 0] [zO 10 [zR 1, zR 5, zR 8, zR 13, zR 18, zR 23, zR 28, zN, zN, zN, zN, zN, zN, zN, zN, zN, zI 0, zI 0], zO 6 [zR 2, zR 3, zR 4], zA 8 (fun _ => 0), zA 8 (fun _ => 0), zA 320 (fun _ => 0), zO 8 [zR 6, zR 7, zI 0, zI 0, zI 0], zA 100 (fun _ => 0), zA 5 (fun _ => 0), zO 2 [zR 9, zR 10, zR 11, zR 12, zI 0, zI 0, zI 0, zI 0, zI 0, zI 0, zI 0, zI 1, zI 0], zA 5 (fun _ => 0), zA 5 (fun _ => 0), zA 5 (fun _ => 0), zA 5 (fun _ => 0), zO 2 [zR 14, zR 15, zR 16, zR 17, zI 0, zI 0, zI 0, zI 0, zI 0, zI 0, zI 0, zI 1, zI 0], zA 5 (fun _ => 0), zA 5 (fun _ => 0), zA 5 (fun _ => 0), zA 5 (fun _ => 0), zO 2 [zR 19, zR 20, zR 21, zR 22, zI 0, zI 0, zI 0, zI 0, zI 0, zI 0, zI 0, zI 1, zI 0], zA 5 (fun _ => 0), zA 5 (fun _ => 0), zA 5 (fun _ => 0), zA 5 (fun _ => 0), zO 2 [zR 24, zR 25, zR 26, zR 27, zI 0, zI 0, zI 0, zI 0, zI 0, zI 0, zI 0, zI 1, zI 0], zA 5 (fun _ => 0), zA 5 (fun _ => 0), zA 5 (fun _ => 0), zA 5 (fun _ => 0), zO 4 [zR 29, zI 0, zI 0], zA 312 (fun _ => 0), zO 0 [zR 31, zI 0, zI 0, zI 0, zI 0], zA 16 (fun _ => 0)] _
  refine z_putF dX11_init_89 fp_X11_49 rfl (Or.inl ⟨_, rfl⟩) rfl (Nat.le_of_ble_eq_true rfl) ?_
  show Z rc M_X11_init 31 917 92 [some (zR 0)] [] [zO 10 [zR 1, zR 5, zR 8, zR 13, zR 18, zR 23, zR 28, zR 30, zN, zN, zN, zN, zN, zN, zN, zN, zI 0, zI 0], zO 6 [zR 2, zR 3, zR 4], zA 8 (fun _ => 0), zA 8 (fun _ => 0), zA 320 (fun _ => 0), zO 8 [zR 6, zR 7, zI 0, zI 0, zI 0], zA 100 (fun _ => 0), zA 5 (fun _ => 0), zO 2 [zR 9, zR 10, zR 11, zR 12, zI 0, zI 0, zI 0, zI 0, zI 0, zI 0, zI 0, zI 1, zI 0], zA 5 (fun _ => 0), zA 5 (fun _ => 0), zA 5 (fun _ => 0), zA 5 (fun _ => 0), zO 2 [zR 14, zR 15, zR 16, zR 17, zI 0, zI 0, zI 0, zI 0, zI 0, zI 0, zI 0, zI 1, zI 0], zA 5 (fun _ => 0), zA 5 (fun _ => 0), zA 5 (fun _ => 0), zA 5 (fun _ => 0), zO 2 [zR 19, zR 20, zR 21, zR 22, zI 0, zI 0, zI 0, zI 0, zI 0, zI 0, zI 0, zI 1, zI 0], zA 5 (fun _ => 0), zA 5 (fun _ => 0), zA 5 (fun _ => 0), zA 5 (fun _ => 0), zO 2 [zR 24, zR 25, zR 26, zR 27, zI 0, zI 0, zI 0, zI 0, zI 0, zI 0, zI 0, zI 1, zI 0], zA 5 (fun _ => 0), zA 5 (fun _ => 0), zA 5 (fun _ => 0), zA 5 (fun _ => 0), zO 4 [zR 29, zI 0, zI 0], zA 312 (fun _ => 0), zO 0 [zR 31, zI 0, zI 0, zI 0, zI 0], zA 16 (fun _ => 0)] _
  refine z_aload_n dX11_init_92 rfl ?_
  refine z_new (ci := 3) RX3 TX3 0 tyX3 [] dX11_init_93 rfl uw_X3 tyX3_ok zw_165 zw_166 zw_8 rfl (by decide) (by decide) ?_
  refine z_dup dX11_init_96 rfl ?_
  refine z_invIN (Y' := M_X3_init) dX11_init_97 (List.mem_of_getElem? (i := 5) rfl) zw_168 rfl rfl ok_X3_init (by decide) rfl (by decide) (by decide) (n_X3_init) ?_
  rintro r h2 ⟨rfl, rfl⟩
  show Z rc M_X11_init 32 917 100 [some (zR 0)] [zR 32, zR 0] [zO 10 [zR 1, zR 5, zR 8, zR 13, zR 18, zR 23, zR 28, zR 30, zN, zN, zN, zN, zN, zN, zN, zN, zI 0, zI 0], zO 6 [zR 2, zR 3, zR 4], zA 8 (fun _ => 0), zA 8 (fun _ => 0), zA 320 (fun _ => 0), zO 8 [zR 6, zR 7, zI 0, zI 0, zI 0], zA 100 (fun _ => 0), zA 5 (fun _ => 0), zO 2 [zR 9, zR 10, zR 11, zR 12, zI 0, zI 0, zI 0, zI 0, zI 0, zI 0, zI 0, zI 1, zI 0], zA 5 (fun _ => 0), zA 5 (fun _ => 0), zA 5 (fun _ => 0), zA 5 (fun _ => 0), zO 2 [zR 14, zR 15, zR 16, zR 17, zI 0, zI 0, zI 0, zI 0, zI 0, zI 0, zI 0, zI 1, zI 0], zA 5 (fun _ => 0), zA 5 (fun _ => 0), zA 5 (fun _ => 0), zA 5 (fun _ => 0), zO 2 [zR 19, zR 20, zR 21, zR 22, zI 0, zI 0, zI 0, zI 0, zI 0, zI 0, zI 0, zI 1, zI 0], zA 5 (fun _ => 0), zA 5 (fun _ => 0), zA 5 (fun _ => 0), zA 5 (fun _ => 0), zO 2 [zR 24, zR 25, zR 26, zR 27, zI 0, zI 0, zI 0, zI 0, zI 0, zI 0, zI 0, zI 1, zI 0], zA 5 (fun _ => 0), zA 5 (fun _ => 0), zA 5 (fun _ => 0), zA 5 (fun _ => 0), zO 4 [zR 29, zI 0, zI 0], zA 312 (fun _ => 0), zO 0 [zR 31, zI 0, zI 0, zI 0, zI 0], zA 16 (fun _ => 0), zO 3 []] _
  refine z_putF dX11_init_100 fp_X11_56 rfl (Or.inl ⟨_, rfl⟩) rfl (Nat.le_of_ble_eq_true rfl) ?_
  show Z rc M_X11_init 32 917 103 [some (zR 0)] [] [zO 10 [zR 1, zR 5, zR 8, zR 13, zR 18, zR 23, zR 28, zR 30, zR 32, zN, zN, zN, zN, zN, zN, zN, zI 0, zI 0], zO 6 [zR 2, zR 3, zR 4], zA 8 (fun _ => 0), zA 8 (fun _ => 0), zA 320 (fun _ => 0), zO 8 [zR 6, zR 7, zI 0, zI 0, zI 0], zA 100 (fun _ => 0), zA 5 (fun _ => 0), zO 2 [zR 9, zR 10, zR 11, zR 12, zI 0, zI 0, zI 0, zI 0, zI 0, zI 0, zI 0, zI 1, zI 0], zA 5 (fun _ => 0), zA 5 (fun _ => 0), zA 5 (fun _ => 0), zA 5 (fun _ => 0), zO 2 [zR 14, zR 15, zR 16, zR 17, zI 0, zI 0, zI 0, zI 0, zI 0, zI 0, zI 0, zI 1, zI 0], zA 5 (fun _ => 0), zA 5 (fun _ => 0), zA 5 (fun _ => 0), zA 5 (fun _ => 0), zO 2 [zR 19, zR 20, zR 21, zR 22, zI 0, zI 0, zI 0, zI 0, zI 0, zI 0, zI 0, zI 1, zI 0], zA 5 (fun _ => 0), zA 5 (fun _ => 0), zA 5 (fun _ => 0), zA 5 (fun _ => 0), zO 2 [zR 24, zR 25, zR 26, zR 27, zI 0, zI 0, zI 0, zI 0, zI 0, zI 0, zI 0, zI 1, zI 0], zA 5 (fun _ => 0), zA 5 (fun _ => 0), zA 5 (fun _ => 0), zA 5 (fun _ => 0), zO 4 [zR 29, zI 0, zI 0], zA 312 (fun _ => 0), zO 0 [zR 31, zI 0, zI 0, zI 0, zI 0], zA 16 (fun _ => 0), zO 3 []] _
  refine z_aload_n dX11_init_103 rfl ?_
  refine z_new (ci := 1) RX1 TX1 0 tyX1 [] dX11_init_104 rfl uw_X1 tyX1_ok zw_175 zw_176 zw_9 rfl (by decide) (by decide) ?_
  refine z_dup dX11_init_107 rfl ?_
  refine z_invIN (Y' := M_X1_init) dX11_init_108 (List.mem_of_getElem? (i := 7) rfl) zw_178 rfl rfl ok_X1_init (by decide) rfl (by decide) (by decide) (n_X1_init) ?_
  rintro r h2 ⟨rfl, rfl⟩
  show Z rc M_X11_init 33 917 111 [some (zR 0)] [zR 33, zR 0] [zO 10 [zR 1, zR 5, zR 8, zR 13, zR 18, zR 23, zR 28, zR 30, zR 32, zN, zN, zN, zN, zN, zN, zN, zI 0, zI 0], zO 6 [zR 2, zR 3, zR 4], zA 8 (fun _ => 0), zA 8 (fun _ => 0), zA 320 (fun _ => 0), zO 8 [zR 6, zR 7, zI 0, zI 0, zI 0], zA 100 (fun _ => 0), zA 5 (fun _ => 0), zO 2 [zR 9, zR 10, zR 11, zR 12, zI 0, zI 0, zI 0, zI 0, zI 0, zI 0, zI 0, zI 1, zI 0], zA 5 (fun _ => 0), zA 5 (fun _ => 0), zA 5 (fun _ => 0), zA 5 (fun _ => 0), zO 2 [zR 14, zR 15, zR 16, zR 17, zI 0, zI 0, zI 0, zI 0, zI 0, zI 0, zI 0, zI 1, zI 0], zA 5 (fun _ => 0), zA 5 (fun _ => 0), zA 5 (fun _ => 0), zA 5 (fun _ => 0), zO 2 [zR 19, zR 20, zR 21, zR 22, zI 0, zI 0, zI 0, zI 0, zI 0, zI 0, zI 0, zI 1, zI 0], zA 5 (fun _ => 0), zA 5 (fun _ => 0), zA 5 (fun _ => 0), zA 5 (fun _ => 0), zO 2 [zR 24, zR 25, zR 26, zR 27, zI 0, zI 0, zI 0, zI 0, zI 0, zI 0, zI 0, zI 1, zI 0], zA 5 (fun _ => 0), zA 5 (fun _ => 0), zA 5 (fun _ => 0), zA 5 (fun _ => 0), zO 4 [zR 29, zI 0, zI 0], zA 312 (fun _ => 0), zO 0 [zR 31, zI 0, zI 0, zI 0, zI 0], zA 16 (fun _ => 0), zO 3 [], zO 1 []] _
  refine z_putF dX11_init_111 fp_X11_63 rfl (Or.inl ⟨_, rfl⟩) rfl (Nat.le_of_ble_eq_true rfl) ?_
  show Z rc M_X11_init 33 917 114 [some (zR 0)] [] [zO 10 [zR 1, zR 5, zR 8, zR 13, zR 18, zR 23, zR 28, zR 30, zR 32, zR 33, zN, zN, zN, zN, zN, zN, zI 0, zI 0], zO 6 [zR 2, zR 3, zR 4], zA 8 (fun _ => 0), zA 8 (fun _ => 0), zA 320 (fun _ => 0), zO 8 [zR 6, zR 7, zI 0, zI 0, zI 0], zA 100 (fun _ => 0), zA 5 (fun _ => 0), zO 2 [zR 9, zR 10, zR 11, zR 12, zI 0, zI 0, zI 0, zI 0, zI 0, zI 0, zI 0, zI 1, zI 0], zA 5 (fun _ => 0), zA 5 (fun _ => 0), zA 5 (fun _ => 0), zA 5 (fun _ => 0), zO 2 [zR 14, zR 15, zR 16, zR 17, zI 0, zI 0, zI 0, zI 0, zI 0, zI 0, zI 0, zI 1, zI 0], zA 5 (fun _ => 0), zA 5 (fun _ => 0), zA 5 (fun _ => 0), zA 5 (fun _ => 0), zO 2 [zR 19, zR 20, zR 21, zR 22, zI 0, zI 0, zI 0, zI 0, zI 0, zI 0, zI 0, zI 1, zI 0], zA 5 (fun _ => 0), zA 5 (fun _ => 0), zA 5 (fun _ => 0), zA 5 (fun _ => 0), zO 2 [zR 24, zR 25, zR 26, zR 27, zI 0, zI 0, zI 0, zI 0, zI 0, zI 0, zI 0, zI 1, zI 0], zA 5 (fun _ => 0), zA 5 (fun _ => 0), zA 5 (fun _ => 0), zA 5 (fun _ => 0), zO 4 [zR 29, zI 0, zI 0], zA 312 (fun _ => 0), zO 0 [zR 31, zI 0, zI 0, zI 0, zI 0], zA 16 (fun _ => 0), zO 3 [], zO 1 []] _
  refine z_aload_n dX11_init_114 rfl ?_
  refine z_new (ci := 7) RX8 TX8 0 tyX8 [] dX11_init_115 rfl uw_X8 tyX8_ok zw_182 zw_183 zw_10 rfl (by decide) (by decide) ?_
  refine z_dup dX11_init_118 rfl ?_
  refine z_invIN (Y' := M_X8_init) dX11_init_119 (List.mem_of_getElem? (i := 9) rfl) zw_185 rfl rfl ok_X8_init (by decide) rfl (by decide) (by decide) (n_X8_init) ?_
  rintro r h2 ⟨rfl, rfl⟩
  show Z rc M_X11_init 34 917 122 [some (zR 0)] [zR 34, zR 0] [zO 10 [zR 1, zR 5, zR 8, zR 13, zR 18, zR 23, zR 28, zR 30, zR 32, zR 33, zN, zN, zN, zN, zN, zN, zI 0, zI 0], zO 6 [zR 2, zR 3, zR 4], zA 8 (fun _ => 0), zA 8 (fun _ => 0), zA 320 (fun _ => 0), zO 8 [zR 6, zR 7, zI 0, zI 0, zI 0], zA 100 (fun _ => 0), zA 5 (fun _ => 0), zO 2 [zR 9, zR 10, zR 11, zR 12, zI 0, zI 0, zI 0, zI 0, zI 0, zI 0, zI 0, zI 1, zI 0], zA 5 (fun _ => 0), zA 5 (fun _ => 0), zA 5 (fun _ => 0), zA 5 (fun _ => 0), zO 2 [zR 14, zR 15, zR 16, zR 17, zI 0, zI 0, zI 0, zI 0, zI 0, zI 0, zI 0, zI 1, zI 0], zA 5 (fun _ => 0), zA 5 (fun _ => 0), zA 5 (fun _ => 0), zA 5 (fun _ => 0), zO 2 [zR 19, zR 20, zR 21, zR 22, zI 0, zI 0, zI 0, zI 0, zI 0, zI 0, zI 0, zI 1, zI 0], zA 5 (fun _ => 0), zA 5 (fun _ => 0), zA 5 (fun _ => 0), zA 5 (fun _ => 0), zO 2 [zR 24, zR 25, zR 26, zR 27, zI 0, zI 0, zI 0, zI 0, zI 0, zI 0, zI 0, zI 1, zI 0], zA 5 (fun _ => 0), zA 5 (fun _ => 0), zA 5 (fun _ => 0), zA 5 (fun _ => 0), zO 4 [zR 29, zI 0, zI 0], zA 312 (fun _ => 0), zO 0 [zR 31, zI 0, zI 0, zI 0, zI 0], zA 16 (fun _ => 0), zO 3 [], zO 1 [], zO 7 []] _
  refine z_putF dX11_init_122 fp_X11_70 rfl (Or.inl ⟨_, rfl⟩) rfl (Nat.le_of_ble_eq_true rfl) ?_
  show Z rc M_X11_init 34 917 125 [some (zR 0)] [] [zO 10 [zR 1, zR 5, zR 8, zR 13, zR 18, zR 23, zR 28, zR 30, zR 32, zR 33, zR 34, zN, zN, zN, zN, zN, zI 0, zI 0], zO 6 [zR 2, zR 3, zR 4], zA 8 (fun _ => 0), zA 8 (fun _ => 0), zA 320 (fun _ => 0), zO 8 [zR 6, zR 7, zI 0, zI 0, zI 0], zA 100 (fun _ => 0), zA 5 (fun _ => 0), zO 2 [zR 9, zR 10, zR 11, zR 12, zI 0, zI 0, zI 0, zI 0, zI 0, zI 0, zI 0, zI 1, zI 0], zA 5 (fun _ => 0), zA 5 (fun _ => 0), zA 5 (fun _ => 0), zA 5 (fun _ => 0), zO 2 [zR 14, zR 15, zR 16, zR 17, zI 0, zI 0, zI 0, zI 0, zI 0, zI 0, zI 0, zI 1, zI 0], zA 5 (fun _ => 0), zA 5 (fun _ => 0), zA 5 (fun _ => 0), zA 5 (fun _ => 0), zO 2 [zR 19, zR 20, zR 21, zR 22, zI 0, zI 0, zI 0, zI 0, zI 0, zI 0, zI 0, zI 1, zI 0], zA 5 (fun _ => 0), zA 5 (fun _ => 0), zA 5 (fun _ => 0), zA 5 (fun _ => 0), zO 2 [zR 24, zR 25, zR 26, zR 27, zI 0, zI 0, zI 0, zI 0, zI 0, zI 0, zI 0, zI 1, zI 0], zA 5 (fun _ => 0), zA 5 (fun _ => 0), zA 5 (fun _ => 0), zA 5 (fun _ => 0), zO 4 [zR 29, zI 0, zI 0], zA 312 (fun _ => 0), zO 0 [zR 31, zI 0, zI 0, zI 0, zI 0], zA 16 (fun _ => 0), zO 3 [], zO 1 [], zO 7 []] _
  refine z_aload_n dX11_init_125 rfl ?_
  refine z_new (ci := 9) RX10 TX10 0 tyX10 [] dX11_init_126 rfl uw_X10 tyX10_ok zw_189 zw_190 zw_11 rfl (by decide) (by decide) ?_
  refine z_dup dX11_init_129 rfl ?_
  refine z_invIN (Y' := M_X10_init) dX11_init_130 (List.mem_of_getElem? (i := 11) rfl) zw_192 rfl rfl ok_X10_init (by decide) rfl (by decide) (by decide) (n_X10_init) ?_
  rintro r h2 ⟨rfl, rfl⟩
  show Z rc M_X11_init 35 917 133 [some (zR 0)] [zR 35, zR 0] [zO 10 [zR 1, zR 5, zR 8, zR 13, zR 18, zR 23, zR 28, zR 30, zR 32, zR 33, zR 34, zN, zN, zN, zN, zN, zI 0, zI 0], zO 6 [zR 2, zR 3, zR 4], zA 8 (fun _ => 0), zA 8 (fun _ => 0), zA 320 (fun _ => 0), zO 8 [zR 6, zR 7, zI 0, zI 0, zI 0], zA 100 (fun _ => 0), zA 5 (fun _ => 0), zO 2 [zR 9, zR 10, zR 11, zR 12, zI 0, zI 0, zI 0, zI 0, zI 0, zI 0, zI 0, zI 1, zI 0], zA 5 (fun _ => 0), zA 5 (fun _ => 0), zA 5 (fun _ => 0), zA 5 (fun _ => 0), zO 2 [zR 14, zR 15, zR 16, zR 17, zI 0, zI 0, zI 0, zI 0, zI 0, zI 0, zI 0, zI 1, zI 0], zA 5 (fun _ => 0), zA 5 (fun _ => 0), zA 5 (fun _ => 0), zA 5 (fun _ => 0), zO 2 [zR 19, zR 20, zR 21, zR 22, zI 0, zI 0, zI 0, zI 0, zI 0, zI 0, zI 0, zI 1, zI 0], zA 5 (fun _ => 0), zA 5 (fun _ => 0), zA 5 (fun _ => 0), zA 5 (fun _ => 0), zO 2 [zR 24, zR 25, zR 26, zR 27, zI 0, zI 0, zI 0, zI 0, zI 0, zI 0, zI 0, zI 1, zI 0], zA 5 (fun _ => 0), zA 5 (fun _ => 0), zA 5 (fun _ => 0), zA 5 (fun _ => 0), zO 4 [zR 29, zI 0, zI 0], zA 312 (fun _ => 0), zO 0 [zR 31, zI 0, zI 0, zI 0, zI 0], zA 16 (fun _ => 0), zO 3 [], zO 1 [], zO 7 [], zO 9 []] _
  refine z_putF dX11_init_133 fp_X11_77 rfl (Or.inl ⟨_, rfl⟩) rfl (Nat.le_of_ble_eq_true rfl) ?_
  show Z rc M_X11_init 35 917 136 [some (zR 0)] [] [zO 10 [zR 1, zR 5, zR 8, zR 13, zR 18, zR 23, zR 28, zR 30, zR 32, zR 33, zR 34, zR 35, zN, zN, zN, zN, zI 0, zI 0], zO 6 [zR 2, zR 3, zR 4], zA 8 (fun _ => 0), zA 8 (fun _ => 0), zA 320 (fun _ => 0), zO 8 [zR 6, zR 7, zI 0, zI 0, zI 0], zA 100 (fun _ => 0), zA 5 (fun _ => 0), zO 2 [zR 9, zR 10, zR 11, zR 12, zI 0, zI 0, zI 0, zI 0, zI 0, zI 0, zI 0, zI 1, zI 0], zA 5 (fun _ => 0), zA 5 (fun _ => 0), zA 5 (fun _ => 0), zA 5 (fun _ => 0), zO 2 [zR 14, zR 15, zR 16, zR 17, zI 0, zI 0, zI 0, zI 0, zI 0, zI 0, zI 0, zI 1, zI 0], zA 5 (fun _ => 0), zA 5 (fun _ => 0), zA 5 (fun _ => 0), zA 5 (fun _ => 0), zO 2 [zR 19, zR 20, zR 21, zR 22, zI 0, zI 0, zI 0, zI 0, zI 0, zI 0, zI 0, zI 1, zI 0], zA 5 (fun _ => 0), zA 5 (fun _ => 0), zA 5 (fun _ => 0), zA 5 (fun _ => 0), zO 2 [zR 24, zR 25, zR 26, zR 27, zI 0, zI 0, zI 0, zI 0, zI 0, zI 0, zI 0, zI 1, zI 0], zA 5 (fun _ => 0), zA 5 (fun _ => 0), zA 5 (fun _ => 0), zA 5 (fun _ => 0), zO 4 [zR 29, zI 0, zI 0], zA 312 (fun _ => 0), zO 0 [zR 31, zI 0, zI 0, zI 0, zI 0], zA 16 (fun _ => 0), zO 3 [], zO 1 [], zO 7 [], zO 9 []] _
  refine z_aload_n dX11_init_136 rfl ?_
  refine z_new (ci := 5) RX6 TX6 0 tyX6 [] dX11_init_137 rfl uw_X6 tyX6_ok zw_196 zw_197 zw_12 rfl (by decide) (by decide) ?_
  refine z_dup dX11_init_140 rfl ?_
  refine z_invIN (Y' := M_X6_init) dX11_init_141 (List.mem_of_getElem? (i := 13) rfl) zw_199 rfl rfl ok_X6_init (by decide) rfl (by decide) (by decide) (n_X6_init) ?_
  rintro r h2 ⟨rfl, rfl⟩
  show Z rc M_X11_init 36 917 144 [some (zR 0)] [zR 36, zR 0] [zO 10 [zR 1, zR 5, zR 8, zR 13, zR 18, zR 23, zR 28, zR 30, zR 32, zR 33, zR 34, zR 35, zN, zN, zN, zN, zI 0, zI 0], zO 6 [zR 2, zR 3, zR 4], zA 8 (fun _ => 0), zA 8 (fun _ => 0), zA 320 (fun _ => 0), zO 8 [zR 6, zR 7, zI 0, zI 0, zI 0], zA 100 (fun _ => 0), zA 5 (fun _ => 0), zO 2 [zR 9, zR 10, zR 11, zR 12, zI 0, zI 0, zI 0, zI 0, zI 0, zI 0, zI 0, zI 1, zI 0], zA 5 (fun _ => 0), zA 5 (fun _ => 0), zA 5 (fun _ => 0), zA 5 (fun _ => 0), zO 2 [zR 14, zR 15, zR 16, zR 17, zI 0, zI 0, zI 0, zI 0, zI 0, zI 0, zI 0, zI 1, zI 0], zA 5 (fun _ => 0), zA 5 (fun _ => 0), zA 5 (fun _ => 0), zA 5 (fun _ => 0), zO 2 [zR 19, zR 20, zR 21, zR 22, zI 0, zI 0, zI 0, zI 0, zI 0, zI 0, zI 0, zI 1, zI 0], zA 5 (fun _ => 0), zA 5 (fun _ => 0), zA 5 (fun _ => 0), zA 5 (fun _ => 0), zO 2 [zR 24, zR 25, zR 26, zR 27, zI 0, zI 0, zI 0, zI 0, zI 0, zI 0, zI 0, zI 1, zI 0], zA 5 (fun _ => 0), zA 5 (fun _ => 0), zA 5 (fun _ => 0), zA 5 (fun _ => 0), zO 4 [zR 29, zI 0, zI 0], zA 312 (fun _ => 0), zO 0 [zR 31, zI 0, zI 0, zI 0, zI 0], zA 16 (fun _ => 0), zO 3 [], zO 1 [], zO 7 [], zO 9 [], zO 5 []] _
  refine z_putF dX11_init_144 fp_X11_84 rfl (Or.inl ⟨_, rfl⟩) rfl (Nat.le_of_ble_eq_true rfl) ?_
  show Z rc M_X11_init 36 917 147 [some (zR 0)] [] [zO 10 [zR 1, zR 5, zR 8, zR 13, zR 18, zR 23, zR 28, zR 30, zR 32, zR 33, zR 34, zR 35, zR 36, zN, zN, zN, zI 0, zI 0], zO 6 [zR 2, zR 3, zR 4], zA 8 (fun _ => 0), zA 8 (fun _ => 0), zA 320 (fun _ => 0), zO 8 [zR 6, zR 7, zI 0, zI 0, zI 0], zA 100 (fun _ => 0), zA 5 (fun _ => 0), zO 2 [zR 9, zR 10, zR 11, zR 12, zI 0, zI 0, zI 0, zI 0, zI 0, zI 0, zI 0, zI 1, zI 0], zA 5 (fun _ => 0), zA 5 (fun _ => 0), zA 5 (fun _ => 0), zA 5 (fun _ => 0), zO 2 [zR 14, zR 15, zR 16, zR 17, zI 0, zI 0, zI 0, zI 0, zI 0, zI 0, zI 0, zI 1, zI 0], zA 5 (fun _ => 0), zA 5 (fun _ => 0), zA 5 (fun _ => 0), zA 5 (fun _ => 0), zO 2 [zR 19, zR 20, zR 21, zR 22, zI 0, zI 0, zI 0, zI 0, zI 0, zI 0, zI 0, zI 1, zI 0], zA 5 (fun _ => 0), zA 5 (fun _ => 0), zA 5 (fun _ => 0), zA 5 (fun _ => 0), zO 2 [zR 24, zR 25, zR 26, zR 27, zI 0, zI 0, zI 0, zI 0, zI 0, zI 0, zI 0, zI 1, zI 0], zA 5 (fun _ => 0), zA 5 (fun _ => 0), zA 5 (fun _ => 0), zA 5 (fun _ => 0), zO 4 [zR 29, zI 0, zI 0], zA 312 (fun _ => 0), zO 0 [zR 31, zI 0, zI 0, zI 0, zI 0], zA 16 (fun _ => 0), zO 3 [], zO 1 [], zO 7 [], zO 9 [], zO 5 []] _
  refine z_aload_n dX11_init_147 rfl ?_
  refine z_bipush dX11_init_148 rfl ?_
  refine z_newa (N := 50) true dX11_init_150 zw_40 rfl (by decide) (by decide) (by decide) ?_
  show Z rc M_X11_init 37 967 152 [some (zR 0)] [zR 37, zR 0] [zO 10 [zR 1, zR 5, zR 8, zR 13, zR 18, zR 23, zR 28, zR 30, zR 32, zR 33, zR 34, zR 35, zR 36, zN, zN, zN, zI 0, zI 0], zO 6 [zR 2, zR 3, zR 4], zA 8 (fun _ => 0), zA 8 (fun _ => 0), zA 320 (fun _ => 0), zO 8 [zR 6, zR 7, zI 0, zI 0, zI 0], zA 100 (fun _ => 0), zA 5 (fun _ => 0), zO 2 [zR 9, zR 10, zR 11, zR 12, zI 0, zI 0, zI 0, zI 0, zI 0, zI 0, zI 0, zI 1, zI 0], zA 5 (fun _ => 0), zA 5 (fun _ => 0), zA 5 (fun _ => 0), zA 5 (fun _ => 0), zO 2 [zR 14, zR 15, zR 16, zR 17, zI 0, zI 0, zI 0, zI 0, zI 0, zI 0, zI 0, zI 1, zI 0], zA 5 (fun _ => 0), zA 5 (fun _ => 0), zA 5 (fun _ => 0), zA 5 (fun _ => 0), zO 2 [zR 19, zR 20, zR 21, zR 22, zI 0, zI 0, zI 0, zI 0, zI 0, zI 0, zI 0, zI 1, zI 0], zA 5 (fun _ => 0), zA 5 (fun _ => 0), zA 5 (fun _ => 0), zA 5 (fun _ => 0), zO 2 [zR 24, zR 25, zR 26, zR 27, zI 0, zI 0, zI 0, zI 0, zI 0, zI 0, zI 0, zI 1, zI 0], zA 5 (fun _ => 0), zA 5 (fun _ => 0), zA 5 (fun _ => 0), zA 5 (fun _ => 0), zO 4 [zR 29, zI 0, zI 0], zA 312 (fun _ => 0), zO 0 [zR 31, zI 0, zI 0, zI 0, zI 0], zA 16 (fun _ => 0), zO 3 [], zO 1 [], zO 7 [], zO 9 [], zO 5 [], zA 50 (fun _ => 0)] _
  refine z_putF dX11_init_152 fp_X11_88 rfl (Or.inr ⟨_, rfl⟩) rfl (Nat.le_of_ble_eq_true rfl) ?_
  show Z rc M_X11_init 37 967 155 [some (zR 0)] [] [zO 10 [zR 1, zR 5, zR 8, zR 13, zR 18, zR 23, zR 28, zR 30, zR 32, zR 33, zR 34, zR 35, zR 36, zR 37, zN, zN, zI 0, zI 0], zO 6 [zR 2, zR 3, zR 4], zA 8 (fun _ => 0), zA 8 (fun _ => 0), zA 320 (fun _ => 0), zO 8 [zR 6, zR 7, zI 0, zI 0, zI 0], zA 100 (fun _ => 0), zA 5 (fun _ => 0), zO 2 [zR 9, zR 10, zR 11, zR 12, zI 0, zI 0, zI 0, zI 0, zI 0, zI 0, zI 0, zI 1, zI 0], zA 5 (fun _ => 0), zA 5 (fun _ => 0), zA 5 (fun _ => 0), zA 5 (fun _ => 0), zO 2 [zR 14, zR 15, zR 16, zR 17, zI 0, zI 0, zI 0, zI 0, zI 0, zI 0, zI 0, zI 1, zI 0], zA 5 (fun _ => 0), zA 5 (fun _ => 0), zA 5 (fun _ => 0), zA 5 (fun _ => 0), zO 2 [zR 19, zR 20, zR 21, zR 22, zI 0, zI 0, zI 0, zI 0, zI 0, zI 0, zI 0, zI 1, zI 0], zA 5 (fun _ => 0), zA 5 (fun _ => 0), zA 5 (fun _ => 0), zA 5 (fun _ => 0), zO 2 [zR 24, zR 25, zR 26, zR 27, zI 0, zI 0, zI 0, zI 0, zI 0, zI 0, zI 0, zI 1, zI 0], zA 5 (fun _ => 0), zA 5 (fun _ => 0), zA 5 (fun _ => 0), zA 5 (fun _ => 0), zO 4 [zR 29, zI 0, zI 0], zA 312 (fun _ => 0), zO 0 [zR 31, zI 0, zI 0, zI 0, zI 0], zA 16 (fun _ => 0), zO 3 [], zO 1 [], zO 7 [], zO 9 [], zO 5 [], zA 50 (fun _ => 0)] _
  refine z_aload_n dX11_init_155 rfl ?_
  refine z_bipush dX11_init_156 rfl ?_
  refine z_newa (N := 60) true dX11_init_158 zw_40 rfl (by decide) (by decide) (by decide) ?_
  show Z rc M_X11_init 38 1027 160 [some (zR 0)] [zR 38, zR 0] [zO 10 [zR 1, zR 5, zR 8, zR 13, zR 18, zR 23, zR 28, zR 30, zR 32, zR 33, zR 34, zR 35, zR 36, zR 37, zN, zN, zI 0, zI 0], zO 6 [zR 2, zR 3, zR 4], zA 8 (fun _ => 0), zA 8 (fun _ => 0), zA 320 (fun _ => 0), zO 8 [zR 6, zR 7, zI 0, zI 0, zI 0], zA 100 (fun _ => 0), zA 5 (fun _ => 0), zO 2 [zR 9, zR 10, zR 11, zR 12, zI 0, zI 0, zI 0, zI 0, zI 0, zI 0, zI 0, zI 1, zI 0], zA 5 (fun _ => 0), zA 5 (fun _ => 0), zA 5 (fun _ => 0), zA 5 (fun _ => 0), zO 2 [zR 14, zR 15, zR 16, zR 17, zI 0, zI 0, zI 0, zI 0, zI 0, zI 0, zI 0, zI 1, zI 0], zA 5 (fun _ => 0), zA 5 (fun _ => 0), zA 5 (fun _ => 0), zA 5 (fun _ => 0), zO 2 [zR 19, zR 20, zR 21, zR 22, zI 0, zI 0, zI 0, zI 0, zI 0, zI 0, zI 0, zI 1, zI 0], zA 5 (fun _ => 0), zA 5 (fun _ => 0), zA 5 (fun _ => 0), zA 5 (fun _ => 0), zO 2 [zR 24, zR 25, zR 26, zR 27, zI 0, zI 0, zI 0, zI 0, zI 0, zI 0, zI 0, zI 1, zI 0], zA 5 (fun _ => 0), zA 5 (fun _ => 0), zA 5 (fun _ => 0), zA 5 (fun _ => 0), zO 4 [zR 29, zI 0, zI 0], zA 312 (fun _ => 0), zO 0 [zR 31, zI 0, zI 0, zI 0, zI 0], zA 16 (fun _ => 0), zO 3 [], zO 1 [], zO 7 [], zO 9 [], zO 5 [], zA 50 (fun _ => 0), zA 60 (fun _ => 0)] _
  refine z_putF dX11_init_160 fp_X11_92 rfl (Or.inr ⟨_, rfl⟩) rfl (Nat.le_of_ble_eq_true rfl) ?_
  show Z rc M_X11_init 38 1027 163 [some (zR 0)] [] [zO 10 [zR 1, zR 5, zR 8, zR 13, zR 18, zR 23, zR 28, zR 30, zR 32, zR 33, zR 34, zR 35, zR 36, zR 37, zR 38, zN, zI 0, zI 0], zO 6 [zR 2, zR 3, zR 4], zA 8 (fun _ => 0), zA 8 (fun _ => 0), zA 320 (fun _ => 0), zO 8 [zR 6, zR 7, zI 0, zI 0, zI 0], zA 100 (fun _ => 0), zA 5 (fun _ => 0), zO 2 [zR 9, zR 10, zR 11, zR 12, zI 0, zI 0, zI 0, zI 0, zI 0, zI 0, zI 0, zI 1, zI 0], zA 5 (fun _ => 0), zA 5 (fun _ => 0), zA 5 (fun _ => 0), zA 5 (fun _ => 0), zO 2 [zR 14, zR 15, zR 16, zR 17, zI 0, zI 0, zI 0, zI 0, zI 0, zI 0, zI 0, zI 1, zI 0], zA 5 (fun _ => 0), zA 5 (fun _ => 0), zA 5 (fun _ => 0), zA 5 (fun _ => 0), zO 2 [zR 19, zR 20, zR 21, zR 22, zI 0, zI 0, zI 0, zI 0, zI 0, zI 0, zI 0, zI 1, zI 0], zA 5 (fun _ => 0), zA 5 (fun _ => 0), zA 5 (fun _ => 0), zA 5 (fun _ => 0), zO 2 [zR 24, zR 25, zR 26, zR 27, zI 0, zI 0, zI 0, zI 0, zI 0, zI 0, zI 0, zI 1, zI 0], zA 5 (fun _ => 0), zA 5 (fun _ => 0), zA 5 (fun _ => 0), zA 5 (fun _ => 0), zO 4 [zR 29, zI 0, zI 0], zA 312 (fun _ => 0), zO 0 [zR 31, zI 0, zI 0, zI 0, zI 0], zA 16 (fun _ => 0), zO 3 [], zO 1 [], zO 7 [], zO 9 [], zO 5 [], zA 50 (fun _ => 0), zA 60 (fun _ => 0)] _
  refine z_aload_n dX11_init_163 rfl ?_
  refine z_iconst dX11_init_164 ?_
  refine z_newa (N := 5) true dX11_init_165 zw_40 rfl (by decide) (by decide) (by decide) ?_
  show Z rc M_X11_init 39 1032 167 [some (zR 0)] [zR 39, zR 0] [zO 10 [zR 1, zR 5, zR 8, zR 13, zR 18, zR 23, zR 28, zR 30, zR 32, zR 33, zR 34, zR 35, zR 36, zR 37, zR 38, zN, zI 0, zI 0], zO 6 [zR 2, zR 3, zR 4], zA 8 (fun _ => 0), zA 8 (fun _ => 0), zA 320 (fun _ => 0), zO 8 [zR 6, zR 7, zI 0, zI 0, zI 0], zA 100 (fun _ => 0), zA 5 (fun _ => 0), zO 2 [zR 9, zR 10, zR 11, zR 12, zI 0, zI 0, zI 0, zI 0, zI 0, zI 0, zI 0, zI 1, zI 0], zA 5 (fun _ => 0), zA 5 (fun _ => 0), zA 5 (fun _ => 0), zA 5 (fun _ => 0), zO 2 [zR 14, zR 15, zR 16, zR 17, zI 0, zI 0, zI 0, zI 0, zI 0, zI 0, zI 0, zI 1, zI 0], zA 5 (fun _ => 0), zA 5 (fun _ => 0), zA 5 (fun _ => 0), zA 5 (fun _ => 0), zO 2 [zR 19, zR 20, zR 21, zR 22, zI 0, zI 0, zI 0, zI 0, zI 0, zI 0, zI 0, zI 1, zI 0], zA 5 (fun _ => 0), zA 5 (fun _ => 0), zA 5 (fun _ => 0), zA 5 (fun _ => 0), zO 2 [zR 24, zR 25, zR 26, zR 27, zI 0, zI 0, zI 0, zI 0, zI 0, zI 0, zI 0, zI 1, zI 0], zA 5 (fun _ => 0), zA 5 (fun _ => 0), zA 5 (fun _ => 0), zA 5 (fun _ => 0), zO 4 [zR 29, zI 0, zI 0], zA 312 (fun _ => 0), zO 0 [zR 31, zI 0, zI 0, zI 0, zI 0], zA 16 (fun _ => 0), zO 3 [], zO 1 [], zO 7 [], zO 9 [], zO 5 [], zA 50 (fun _ => 0), zA 60 (fun _ => 0), zA 5 (fun _ => 0)] _
  refine z_putF dX11_init_167 fp_X11_95 rfl (Or.inr ⟨_, rfl⟩) rfl (Nat.le_of_ble_eq_true rfl) ?_
  show Z rc M_X11_init 39 1032 170 [some (zR 0)] [] [zO 10 [zR 1, zR 5, zR 8, zR 13, zR 18, zR 23, zR 28, zR 30, zR 32, zR 33, zR 34, zR 35, zR 36, zR 37, zR 38, zR 39, zI 0, zI 0], zO 6 [zR 2, zR 3, zR 4], zA 8 (fun _ => 0), zA 8 (fun _ => 0), zA 320 (fun _ => 0), zO 8 [zR 6, zR 7, zI 0, zI 0, zI 0], zA 100 (fun _ => 0), zA 5 (fun _ => 0), zO 2 [zR 9, zR 10, zR 11, zR 12, zI 0, zI 0, zI 0, zI 0, zI 0, zI 0, zI 0, zI 1, zI 0], zA 5 (fun _ => 0), zA 5 (fun _ => 0), zA 5 (fun _ => 0), zA 5 (fun _ => 0), zO 2 [zR 14, zR 15, zR 16, zR 17, zI 0, zI 0, zI 0, zI 0, zI 0, zI 0, zI 0, zI 1, zI 0], zA 5 (fun _ => 0), zA 5 (fun _ => 0), zA 5 (fun _ => 0), zA 5 (fun _ => 0), zO 2 [zR 19, zR 20, zR 21, zR 22, zI 0, zI 0, zI 0, zI 0, zI 0, zI 0, zI 0, zI 1, zI 0], zA 5 (fun _ => 0), zA 5 (fun _ => 0), zA 5 (fun _ => 0), zA 5 (fun _ => 0), zO 2 [zR 24, zR 25, zR 26, zR 27, zI 0, zI 0, zI 0, zI 0, zI 0, zI 0, zI 0, zI 1, zI 0], zA 5 (fun _ => 0), zA 5 (fun _ => 0), zA 5 (fun _ => 0), zA 5 (fun _ => 0), zO 4 [zR 29, zI 0, zI 0], zA 312 (fun _ => 0), zO 0 [zR 31, zI 0, zI 0, zI 0, zI 0], zA 16 (fun _ => 0), zO 3 [], zO 1 [], zO 7 [], zO 9 [], zO 5 [], zA 50 (fun _ => 0), zA 60 (fun _ => 0), zA 5 (fun _ => 0)] _
  refine z_aload_n dX11_init_170 rfl ?_
  refine z_iconst dX11_init_171 ?_
  refine z_putf dX11_init_172 fp_X11_98 (Or.inl rfl) rfl (Nat.le_of_ble_eq_true rfl) ?_
  show Z rc M_X11_init 39 1032 175 [some (zR 0)] [] [zO 10 [zR 1, zR 5, zR 8, zR 13, zR 18, zR 23, zR 28, zR 30, zR 32, zR 33, zR 34, zR 35, zR 36, zR 37, zR 38, zR 39, zI 0, zI 0], zO 6 [zR 2, zR 3, zR 4], zA 8 (fun _ => 0), zA 8 (fun _ => 0), zA 320 (fun _ => 0), zO 8 [zR 6, zR 7, zI 0, zI 0, zI 0], zA 100 (fun _ => 0), zA 5 (fun _ => 0), zO 2 [zR 9, zR 10, zR 11, zR 12, zI 0, zI 0, zI 0, zI 0, zI 0, zI 0, zI 0, zI 1, zI 0], zA 5 (fun _ => 0), zA 5 (fun _ => 0), zA 5 (fun _ => 0), zA 5 (fun _ => 0), zO 2 [zR 14, zR 15, zR 16, zR 17, zI 0, zI 0, zI 0, zI 0, zI 0, zI 0, zI 0, zI 1, zI 0], zA 5 (fun _ => 0), zA 5 (fun _ => 0), zA 5 (fun _ => 0), zA 5 (fun _ => 0), zO 2 [zR 19, zR 20, zR 21, zR 22, zI 0, zI 0, zI 0, zI 0, zI 0, zI 0, zI 0, zI 1, zI 0], zA 5 (fun _ => 0), zA 5 (fun _ => 0), zA 5 (fun _ => 0), zA 5 (fun _ => 0), zO 2 [zR 24, zR 25, zR 26, zR 27, zI 0, zI 0, zI 0, zI 0, zI 0, zI 0, zI 0, zI 1, zI 0], zA 5 (fun _ => 0), zA 5 (fun _ => 0), zA 5 (fun _ => 0), zA 5 (fun _ => 0), zO 4 [zR 29, zI 0, zI 0], zA 312 (fun _ => 0), zO 0 [zR 31, zI 0, zI 0, zI 0, zI 0], zA 16 (fun _ => 0), zO 3 [], zO 1 [], zO 7 [], zO 9 [], zO 5 [], zA 50 (fun _ => 0), zA 60 (fun _ => 0), zA 5 (fun _ => 0)] _
  refine z_aload_n dX11_init_175 rfl ?_
  refine z_iconst dX11_init_176 ?_
  refine z_putf dX11_init_177 fp_X11_102 (Or.inl rfl) rfl (Nat.le_of_ble_eq_true rfl) ?_
  show Z rc M_X11_init 39 1032 180 [some (zR 0)] [] [zO 10 [zR 1, zR 5, zR 8, zR 13, zR 18, zR 23, zR 28, zR 30, zR 32, zR 33, zR 34, zR 35, zR 36, zR 37, zR 38, zR 39, zI 0, zI 0], zO 6 [zR 2, zR 3, zR 4], zA 8 (fun _ => 0), zA 8 (fun _ => 0), zA 320 (fun _ => 0), zO 8 [zR 6, zR 7, zI 0, zI 0, zI 0], zA 100 (fun _ => 0), zA 5 (fun _ => 0), zO 2 [zR 9, zR 10, zR 11, zR 12, zI 0, zI 0, zI 0, zI 0, zI 0, zI 0, zI 0, zI 1, zI 0], zA 5 (fun _ => 0), zA 5 (fun _ => 0), zA 5 (fun _ => 0), zA 5 (fun _ => 0), zO 2 [zR 14, zR 15, zR 16, zR 17, zI 0, zI 0, zI 0, zI 0, zI 0, zI 0, zI 0, zI 1, zI 0], zA 5 (fun _ => 0), zA 5 (fun _ => 0), zA 5 (fun _ => 0), zA 5 (fun _ => 0), zO 2 [zR 19, zR 20, zR 21, zR 22, zI 0, zI 0, zI 0, zI 0, zI 0, zI 0, zI 0, zI 1, zI 0], zA 5 (fun _ => 0), zA 5 (fun _ => 0), zA 5 (fun _ => 0), zA 5 (fun _ => 0), zO 2 [zR 24, zR 25, zR 26, zR 27, zI 0, zI 0, zI 0, zI 0, zI 0, zI 0, zI 0, zI 1, zI 0], zA 5 (fun _ => 0), zA 5 (fun _ => 0), zA 5 (fun _ => 0), zA 5 (fun _ => 0), zO 4 [zR 29, zI 0, zI 0], zA 312 (fun _ => 0), zO 0 [zR 31, zI 0, zI 0, zI 0, zI 0], zA 16 (fun _ => 0), zO 3 [], zO 1 [], zO 7 [], zO 9 [], zO 5 [], zA 50 (fun _ => 0), zA 60 (fun _ => 0), zA 5 (fun _ => 0)] _
  exact z_vret (S := []) dX11_init_180 rfl rfl rfl ⟨rfl, rfl⟩
theorem n_X12_init (hk : g.length = k) : K rc M_X12_init [zR k] (g ++ [zO 11 [zN, zN, zN, zI 0, zI 0, zN, zI 0, zI 0, zI 0, zI 0, zI 0, zI 0, zN, zN, zN, zN, zN, zN, zI 0, zN, zI 0, zN, zN, zN, zI 0, zI 0]]) (fun r h => r = none ∧ ∃ f : Nat → Int, (∀ j, j < 8 → f j = -1) ∧ h = g ++ [zO 11 [zR (k + 1), zR (k + 2), zR (k + 3), zI 0, zI 0, zR (k + 4), zI 0, zI 0, zI 0, zI 0, zI 0, zI 0, zR (k + 5), zR (k + 6), zR (k + 7), zR (k + 8), zR (k + 9), zR (k + 10), zI 0, zR (k + 11), zI 0, zR (k + 12), zR (k + 13), zR (k + 14), zI 0, zI 0], zA 8 (f), zA 8 (fun _ => 0), zA 320 (fun _ => 0), zA 100 (fun _ => 0), zA 29 (fun _ => 0), zA 29 (fun _ => 0), zA 29 (fun _ => 0), zA 58 (fun _ => 0), zB 2 (fun _ => 0), zA 696 (fun _ => 0), zA 16 (fun _ => 0), zA 16 (fun _ => 0), zA 5 (fun _ => 0), zA 5 (fun _ => 0)]) := by
  have loop : ∀ m p : Nat, p + m = 8 → ∀ f : Nat → Int, (∀ j, j < p → f j = -1) → Z rc M_X12_init 14 1321 117 [some (zR k), some (zI (p : Int))] [] (g ++ [zO 11 [zR (k + 1), zR (k + 2), zR (k + 3), zI 0, zI 0, zR (k + 4), zI 0, zI 0, zI 0, zI 0, zI 0, zI 0, zR (k + 5), zR (k + 6), zR (k + 7), zR (k + 8), zR (k + 9), zR (k + 10), zI 0, zR (k + 11), zI 0, zR (k + 12), zR (k + 13), zR (k + 14), zI 0, zI 0], zA 8 (f), zA 8 (fun _ => 0), zA 320 (fun _ => 0), zA 100 (fun _ => 0), zA 29 (fun _ => 0), zA 29 (fun _ => 0), zA 29 (fun _ => 0), zA 58 (fun _ => 0), zB 2 (fun _ => 0), zA 696 (fun _ => 0), zA 16 (fun _ => 0), zA 16 (fun _ => 0), zA 5 (fun _ => 0), zA 5 (fun _ => 0)]) (fun r h => r = none ∧ ∃ f : Nat → Int, (∀ j, j < 8 → f j = -1) ∧ h = g ++ [zO 11 [zR (k + 1), zR (k + 2), zR (k + 3), zI 0, zI 0, zR (k + 4), zI 0, zI 0, zI 0, zI 0, zI 0, zI 0, zR (k + 5), zR (k + 6), zR (k + 7), zR (k + 8), zR (k + 9), zR (k + 10), zI 0, zR (k + 11), zI 0, zR (k + 12), zR (k + 13), zR (k + 14), zI 0, zI 0], zA 8 (f), zA 8 (fun _ => 0), zA 320 (fun _ => 0), zA 100 (fun _ => 0), zA 29 (fun _ => 0), zA 29 (fun _ => 0), zA 29 (fun _ => 0), zA 58 (fun _ => 0), zB 2 (fun _ => 0), zA 696 (fun _ => 0), zA 16 (fun _ => 0), zA 16 (fun _ => 0), zA 5 (fun _ => 0), zA 5 (fun _ => 0)]) := by
    intro m
    induction m with
    | zero =>
      intro p hpm f hf
      refine z_iload_n dX12_init_117 rfl ?_
      refine z_bipush dX12_init_118 rfl ?_
      refine z_icmp_ge (tgt := 136) dX12_init_120 (by decide) (by omega) (by omega) (fun b120 => ?_) (fun b120 => ?_)
      · exact z_vret (S := []) dX12_init_136 rfl rfl rfl ⟨rfl, f, fun j hj => hf j (by omega), rfl⟩
      · omega
    | succ m ih =>
      intro p hpm f hf
      refine z_iload_n dX12_init_117 rfl ?_
      refine z_bipush dX12_init_118 rfl ?_
      refine z_icmp_ge (tgt := 136) dX12_init_120 (by decide) (by omega) (by omega) (fun b120 => ?_) (fun b120 => ?_)
      · omega
      · refine z_aload_n dX12_init_123 rfl ?_
        refine z_getf dX12_init_124 fl_X12_7 (n_at (i := 0) hk rfl) rfl ?_
        refine z_iload_n dX12_init_127 rfl ?_
        refine z_iconst dX12_init_128 ?_
        refine n_iast (i := 1) hk p dX12_init_129 rfl rfl (by omega) (by decide) ?_
        refine z_iinc dX12_init_130 rfl (by decide) rfl ?_
        refine z_goto (tgt := 117) dX12_init_133 (by decide) ?_
        have := ih (p + 1) (by omega) (zup f p (-1)) (fun j hj => by
          by_cases e : j = p
          · subst e
            rw [zup_at]
          · rw [zup_ne e]
            exact hf j (by omega))
        rw [nsucc] at this
        exact this
  refine K_of 1 (by decide) (Nat.le_of_ble_eq_true rfl) (show Z _ _ 0 0 0 [some (zR k), none] [] _ _ from ?_)
  refine z_aload_n dX12_init_0 rfl ?_
  refine z_obj dX12_init_1 zw_769 zw_22 zw_23 (by decide) (by decide) ?_
  refine z_aload_n dX12_init_4 rfl ?_
  refine z_bipush dX12_init_5 rfl ?_
  refine n_newa (N := 8) hk true dX12_init_7 zw_40 rfl (by decide) (by decide) (by decide) ?_
  show Z rc M_X12_init 1 8 9 [some (zR k), none] [zR (k + 1), zR k] (g ++ [zO 11 [zN, zN, zN, zI 0, zI 0, zN, zI 0, zI 0, zI 0, zI 0, zI 0, zI 0, zN, zN, zN, zN, zN, zN, zI 0, zN, zI 0, zN, zN, zN, zI 0, zI 0], zA 8 (fun _ => 0)]) _
  refine n_putF (i := 0) hk dX12_init_9 fp_X12_7 rfl (Or.inr ⟨_, rfl⟩) rfl (Nat.le_of_ble_eq_true rfl) ?_
  show Z rc M_X12_init 1 8 12 [some (zR k), none] [] (g ++ [zO 11 [zR (k + 1), zN, zN, zI 0, zI 0, zN, zI 0, zI 0, zI 0, zI 0, zI 0, zI 0, zN, zN, zN, zN, zN, zN, zI 0, zN, zI 0, zN, zN, zN, zI 0, zI 0], zA 8 (fun _ => 0)]) _
  refine z_aload_n dX12_init_12 rfl ?_
  refine z_bipush dX12_init_13 rfl ?_
  refine n_newa (N := 8) hk true dX12_init_15 zw_40 rfl (by decide) (by decide) (by decide) ?_
  show Z rc M_X12_init 2 16 17 [some (zR k), none] [zR (k + 2), zR k] (g ++ [zO 11 [zR (k + 1), zN, zN, zI 0, zI 0, zN, zI 0, zI 0, zI 0, zI 0, zI 0, zI 0, zN, zN, zN, zN, zN, zN, zI 0, zN, zI 0, zN, zN, zN, zI 0, zI 0], zA 8 (fun _ => 0), zA 8 (fun _ => 0)]) _
  refine n_putF (i := 0) hk dX12_init_17 fp_X12_13 rfl (Or.inr ⟨_, rfl⟩) rfl (Nat.le_of_ble_eq_true rfl) ?_
  show Z rc M_X12_init 2 16 20 [some (zR k), none] [] (g ++ [zO 11 [zR (k + 1), zR (k + 2), zN, zI 0, zI 0, zN, zI 0, zI 0, zI 0, zI 0, zI 0, zI 0, zN, zN, zN, zN, zN, zN, zI 0, zN, zI 0, zN, zN, zN, zI 0, zI 0], zA 8 (fun _ => 0), zA 8 (fun _ => 0)]) _
  refine z_aload_n dX12_init_20 rfl ?_
  refine z_sipush dX12_init_21 rfl ?_
  refine n_newa (N := 320) hk true dX12_init_24 zw_40 rfl (by decide) (by decide) (by decide) ?_
  show Z rc M_X12_init 3 336 26 [some (zR k), none] [zR (k + 3), zR k] (g ++ [zO 11 [zR (k + 1), zR (k + 2), zN, zI 0, zI 0, zN, zI 0, zI 0, zI 0, zI 0, zI 0, zI 0, zN, zN, zN, zN, zN, zN, zI 0, zN, zI 0, zN, zN, zN, zI 0, zI 0], zA 8 (fun _ => 0), zA 8 (fun _ => 0), zA 320 (fun _ => 0)]) _
  refine n_putF (i := 0) hk dX12_init_26 fp_X12_16 rfl (Or.inr ⟨_, rfl⟩) rfl (Nat.le_of_ble_eq_true rfl) ?_
  show Z rc M_X12_init 3 336 29 [some (zR k), none] [] (g ++ [zO 11 [zR (k + 1), zR (k + 2), zR (k + 3), zI 0, zI 0, zN, zI 0, zI 0, zI 0, zI 0, zI 0, zI 0, zN, zN, zN, zN, zN, zN, zI 0, zN, zI 0, zN, zN, zN, zI 0, zI 0], zA 8 (fun _ => 0), zA 8 (fun _ => 0), zA 320 (fun _ => 0)]) _
  refine z_aload_n dX12_init_29 rfl ?_
  refine z_bipush dX12_init_30 rfl ?_
  refine n_newa (N := 100) hk true dX12_init_32 zw_40 rfl (by decide) (by decide) (by decide) ?_
  show Z rc M_X12_init 4 436 34 [some (zR k), none] [zR (k + 4), zR k] (g ++ [zO 11 [zR (k + 1), zR (k + 2), zR (k + 3), zI 0, zI 0, zN, zI 0, zI 0, zI 0, zI 0, zI 0, zI 0, zN, zN, zN, zN, zN, zN, zI 0, zN, zI 0, zN, zN, zN, zI 0, zI 0], zA 8 (fun _ => 0), zA 8 (fun _ => 0), zA 320 (fun _ => 0), zA 100 (fun _ => 0)]) _
  refine n_putF (i := 0) hk dX12_init_34 fp_X12_19 rfl (Or.inr ⟨_, rfl⟩) rfl (Nat.le_of_ble_eq_true rfl) ?_
  show Z rc M_X12_init 4 436 37 [some (zR k), none] [] (g ++ [zO 11 [zR (k + 1), zR (k + 2), zR (k + 3), zI 0, zI 0, zR (k + 4), zI 0, zI 0, zI 0, zI 0, zI 0, zI 0, zN, zN, zN, zN, zN, zN, zI 0, zN, zI 0, zN, zN, zN, zI 0, zI 0], zA 8 (fun _ => 0), zA 8 (fun _ => 0), zA 320 (fun _ => 0), zA 100 (fun _ => 0)]) _
  refine z_aload_n dX12_init_37 rfl ?_
  refine z_bipush dX12_init_38 rfl ?_
  refine n_newa (N := 29) hk true dX12_init_40 zw_40 rfl (by decide) (by decide) (by decide) ?_
  show Z rc M_X12_init 5 465 42 [some (zR k), none] [zR (k + 5), zR k] (g ++ [zO 11 [zR (k + 1), zR (k + 2), zR (k + 3), zI 0, zI 0, zR (k + 4), zI 0, zI 0, zI 0, zI 0, zI 0, zI 0, zN, zN, zN, zN, zN, zN, zI 0, zN, zI 0, zN, zN, zN, zI 0, zI 0], zA 8 (fun _ => 0), zA 8 (fun _ => 0), zA 320 (fun _ => 0), zA 100 (fun _ => 0), zA 29 (fun _ => 0)]) _
  refine n_putF (i := 0) hk dX12_init_42 fp_X12_22 rfl (Or.inr ⟨_, rfl⟩) rfl (Nat.le_of_ble_eq_true rfl) ?_
  show Z rc M_X12_init 5 465 45 [some (zR k), none] [] (g ++ [zO 11 [zR (k + 1), zR (k + 2), zR (k + 3), zI 0, zI 0, zR (k + 4), zI 0, zI 0, zI 0, zI 0, zI 0, zI 0, zR (k + 5), zN, zN, zN, zN, zN, zI 0, zN, zI 0, zN, zN, zN, zI 0, zI 0], zA 8 (fun _ => 0), zA 8 (fun _ => 0), zA 320 (fun _ => 0), zA 100 (fun _ => 0), zA 29 (fun _ => 0)]) _
  refine z_aload_n dX12_init_45 rfl ?_
  refine z_bipush dX12_init_46 rfl ?_
  refine n_newa (N := 29) hk true dX12_init_48 zw_40 rfl (by decide) (by decide) (by decide) ?_
  show Z rc M_X12_init 6 494 50 [some (zR k), none] [zR (k + 6), zR k] (g ++ [zO 11 [zR (k + 1), zR (k + 2), zR (k + 3), zI 0, zI 0, zR (k + 4), zI 0, zI 0, zI 0, zI 0, zI 0, zI 0, zR (k + 5), zN, zN, zN, zN, zN, zI 0, zN, zI 0, zN, zN, zN, zI 0, zI 0], zA 8 (fun _ => 0), zA 8 (fun _ => 0), zA 320 (fun _ => 0), zA 100 (fun _ => 0), zA 29 (fun _ => 0), zA 29 (fun _ => 0)]) _
  refine n_putF (i := 0) hk dX12_init_50 fp_X12_25 rfl (Or.inr ⟨_, rfl⟩) rfl (Nat.le_of_ble_eq_true rfl) ?_
  show Z rc M_X12_init 6 494 53 [some (zR k), none] [] (g ++ [zO 11 [zR (k + 1), zR (k + 2), zR (k + 3), zI 0, zI 0, zR (k + 4), zI 0, zI 0, zI 0, zI 0, zI 0, zI 0, zR (k + 5), zR (k + 6), zN, zN, zN, zN, zI 0, zN, zI 0, zN, zN, zN, zI 0, zI 0], zA 8 (fun _ => 0), zA 8 (fun _ => 0), zA 320 (fun _ => 0), zA 100 (fun _ => 0), zA 29 (fun _ => 0), zA 29 (fun _ => 0)]) _
  refine z_aload_n dX12_init_53 rfl ?_
  refine z_bipush dX12_init_54 rfl ?_
  refine n_newa (N := 29) hk true dX12_init_56 zw_40 rfl (by decide) (by decide) (by decide) ?_
  show Z rc M_X12_init 7 523 58 [some (zR k), none] [zR (k + 7), zR k] (g ++ [zO 11 [zR (k + 1), zR (k + 2), zR (k + 3), zI 0, zI 0, zR (k + 4), zI 0, zI 0, zI 0, zI 0, zI 0, zI 0, zR (k + 5), zR (k + 6), zN, zN, zN, zN, zI 0, zN, zI 0, zN, zN, zN, zI 0, zI 0], zA 8 (fun _ => 0), zA 8 (fun _ => 0), zA 320 (fun _ => 0), zA 100 (fun _ => 0), zA 29 (fun _ => 0), zA 29 (fun _ => 0), zA 29 (fun _ => 0)]) _
  refine n_putF (i := 0) hk dX12_init_58 fp_X12_28 rfl (Or.inr ⟨_, rfl⟩) rfl (Nat.le_of_ble_eq_true rfl) ?_
  show Z rc M_X12_init 7 523 61 [some (zR k), none] [] (g ++ [zO 11 [zR (k + 1), zR (k + 2), zR (k + 3), zI 0, zI 0, zR (k + 4), zI 0, zI 0, zI 0, zI 0, zI 0, zI 0, zR (k + 5), zR (k + 6), zR (k + 7), zN, zN, zN, zI 0, zN, zI 0, zN, zN, zN, zI 0, zI 0], zA 8 (fun _ => 0), zA 8 (fun _ => 0), zA 320 (fun _ => 0), zA 100 (fun _ => 0), zA 29 (fun _ => 0), zA 29 (fun _ => 0), zA 29 (fun _ => 0)]) _
  refine z_aload_n dX12_init_61 rfl ?_
  refine z_bipush dX12_init_62 rfl ?_
  refine n_newa (N := 58) hk true dX12_init_64 zw_40 rfl (by decide) (by decide) (by decide) ?_
  show Z rc M_X12_init 8 581 66 [some (zR k), none] [zR (k + 8), zR k] (g ++ [zO 11 [zR (k + 1), zR (k + 2), zR (k + 3), zI 0, zI 0, zR (k + 4), zI 0, zI 0, zI 0, zI 0, zI 0, zI 0, zR (k + 5), zR (k + 6), zR (k + 7), zN, zN, zN, zI 0, zN, zI 0, zN, zN, zN, zI 0, zI 0], zA 8 (fun _ => 0), zA 8 (fun _ => 0), zA 320 (fun _ => 0), zA 100 (fun _ => 0), zA 29 (fun _ => 0), zA 29 (fun _ => 0), zA 29 (fun _ => 0), zA 58 (fun _ => 0)]) _
  refine n_putF (i := 0) hk dX12_init_66 fp_X12_31 rfl (Or.inr ⟨_, rfl⟩) rfl (Nat.le_of_ble_eq_true rfl) ?_
  show Z rc M_X12_init 8 581 69 [some (zR k), none] [] (g ++ [zO 11 [zR (k + 1), zR (k + 2), zR (k + 3), zI 0, zI 0, zR (k + 4), zI 0, zI 0, zI 0, zI 0, zI 0, zI 0, zR (k + 5), zR (k + 6), zR (k + 7), zR (k + 8), zN, zN, zI 0, zN, zI 0, zN, zN, zN, zI 0, zI 0], zA 8 (fun _ => 0), zA 8 (fun _ => 0), zA 320 (fun _ => 0), zA 100 (fun _ => 0), zA 29 (fun _ => 0), zA 29 (fun _ => 0), zA 29 (fun _ => 0), zA 58 (fun _ => 0)]) _
  refine z_aload_n dX12_init_69 rfl ?_
  refine z_iconst dX12_init_70 ?_
  refine n_newa (N := 2) hk false dX12_init_71 zw_849 rfl (by decide) (by decide) (by decide) ?_
  show Z rc M_X12_init 9 583 73 [some (zR k), none] [zR (k + 9), zR k] (g ++ [zO 11 [zR (k + 1), zR (k + 2), zR (k + 3), zI 0, zI 0, zR (k + 4), zI 0, zI 0, zI 0, zI 0, zI 0, zI 0, zR (k + 5), zR (k + 6), zR (k + 7), zR (k + 8), zN, zN, zI 0, zN, zI 0, zN, zN, zN, zI 0, zI 0], zA 8 (fun _ => 0), zA 8 (fun _ => 0), zA 320 (fun _ => 0), zA 100 (fun _ => 0), zA 29 (fun _ => 0), zA 29 (fun _ => 0), zA 29 (fun _ => 0), zA 58 (fun _ => 0), zB 2 (fun _ => 0)]) _
  refine n_putF (i := 0) hk dX12_init_73 fp_X12_34 rfl (Or.inr ⟨_, rfl⟩) rfl (Nat.le_of_ble_eq_true rfl) ?_
  show Z rc M_X12_init 9 583 76 [some (zR k), none] [] (g ++ [zO 11 [zR (k + 1), zR (k + 2), zR (k + 3), zI 0, zI 0, zR (k + 4), zI 0, zI 0, zI 0, zI 0, zI 0, zI 0, zR (k + 5), zR (k + 6), zR (k + 7), zR (k + 8), zR (k + 9), zN, zI 0, zN, zI 0, zN, zN, zN, zI 0, zI 0], zA 8 (fun _ => 0), zA 8 (fun _ => 0), zA 320 (fun _ => 0), zA 100 (fun _ => 0), zA 29 (fun _ => 0), zA 29 (fun _ => 0), zA 29 (fun _ => 0), zA 58 (fun _ => 0), zB 2 (fun _ => 0)]) _
  refine z_aload_n dX12_init_76 rfl ?_
  refine z_sipush dX12_init_77 rfl ?_
  refine n_newa (N := 696) hk true dX12_init_80 zw_40 rfl (by decide) (by decide) (by decide) ?_
  show Z rc M_X12_init 10 1279 82 [some (zR k), none] [zR (k + 10), zR k] (g ++ [zO 11 [zR (k + 1), zR (k + 2), zR (k + 3), zI 0, zI 0, zR (k + 4), zI 0, zI 0, zI 0, zI 0, zI 0, zI 0, zR (k + 5), zR (k + 6), zR (k + 7), zR (k + 8), zR (k + 9), zN, zI 0, zN, zI 0, zN, zN, zN, zI 0, zI 0], zA 8 (fun _ => 0), zA 8 (fun _ => 0), zA 320 (fun _ => 0), zA 100 (fun _ => 0), zA 29 (fun _ => 0), zA 29 (fun _ => 0), zA 29 (fun _ => 0), zA 58 (fun _ => 0), zB 2 (fun _ => 0), zA 696 (fun _ => 0)]) _
  refine n_putF (i := 0) hk dX12_init_82 fp_X12_38 rfl (Or.inr ⟨_, rfl⟩) rfl (Nat.le_of_ble_eq_true rfl) ?_
  show Z rc M_X12_init 10 1279 85 [some (zR k), none] [] (g ++ [zO 11 [zR (k + 1), zR (k + 2), zR (k + 3), zI 0, zI 0, zR (k + 4), zI 0, zI 0, zI 0, zI 0, zI 0, zI 0, zR (k + 5), zR (k + 6), zR (k + 7), zR (k + 8), zR (k + 9), zR (k + 10), zI 0, zN, zI 0, zN, zN, zN, zI 0, zI 0], zA 8 (fun _ => 0), zA 8 (fun _ => 0), zA 320 (fun _ => 0), zA 100 (fun _ => 0), zA 29 (fun _ => 0), zA 29 (fun _ => 0), zA 29 (fun _ => 0), zA 58 (fun _ => 0), zB 2 (fun _ => 0), zA 696 (fun _ => 0)]) _
  refine z_aload_n dX12_init_85 rfl ?_
  refine z_bipush dX12_init_86 rfl ?_
  refine n_newa (N := 16) hk true dX12_init_88 zw_40 rfl (by decide) (by decide) (by decide) ?_
  show Z rc M_X12_init 11 1295 90 [some (zR k), none] [zR (k + 11), zR k] (g ++ [zO 11 [zR (k + 1), zR (k + 2), zR (k + 3), zI 0, zI 0, zR (k + 4), zI 0, zI 0, zI 0, zI 0, zI 0, zI 0, zR (k + 5), zR (k + 6), zR (k + 7), zR (k + 8), zR (k + 9), zR (k + 10), zI 0, zN, zI 0, zN, zN, zN, zI 0, zI 0], zA 8 (fun _ => 0), zA 8 (fun _ => 0), zA 320 (fun _ => 0), zA 100 (fun _ => 0), zA 29 (fun _ => 0), zA 29 (fun _ => 0), zA 29 (fun _ => 0), zA 58 (fun _ => 0), zB 2 (fun _ => 0), zA 696 (fun _ => 0), zA 16 (fun _ => 0)]) _
  refine n_putF (i := 0) hk dX12_init_90 fp_X12_41 rfl (Or.inr ⟨_, rfl⟩) rfl (Nat.le_of_ble_eq_true rfl) ?_
  show Z rc M_X12_init 11 1295 93 [some (zR k), none] [] (g ++ [zO 11 [zR (k + 1), zR (k + 2), zR (k + 3), zI 0, zI 0, zR (k + 4), zI 0, zI 0, zI 0, zI 0, zI 0, zI 0, zR (k + 5), zR (k + 6), zR (k + 7), zR (k + 8), zR (k + 9), zR (k + 10), zI 0, zR (k + 11), zI 0, zN, zN, zN, zI 0, zI 0], zA 8 (fun _ => 0), zA 8 (fun _ => 0), zA 320 (fun _ => 0), zA 100 (fun _ => 0), zA 29 (fun _ => 0), zA 29 (fun _ => 0), zA 29 (fun _ => 0), zA 58 (fun _ => 0), zB 2 (fun _ => 0), zA 696 (fun _ => 0), zA 16 (fun _ => 0)]) _
  refine z_aload_n dX12_init_93 rfl ?_
  refine z_bipush dX12_init_94 rfl ?_
  refine n_newa (N := 16) hk true dX12_init_96 zw_40 rfl (by decide) (by decide) (by decide) ?_
  show Z rc M_X12_init 12 1311 98 [some (zR k), none] [zR (k + 12), zR k] (g ++ [zO 11 [zR (k + 1), zR (k + 2), zR (k + 3), zI 0, zI 0, zR (k + 4), zI 0, zI 0, zI 0, zI 0, zI 0, zI 0, zR (k + 5), zR (k + 6), zR (k + 7), zR (k + 8), zR (k + 9), zR (k + 10), zI 0, zR (k + 11), zI 0, zN, zN, zN, zI 0, zI 0], zA 8 (fun _ => 0), zA 8 (fun _ => 0), zA 320 (fun _ => 0), zA 100 (fun _ => 0), zA 29 (fun _ => 0), zA 29 (fun _ => 0), zA 29 (fun _ => 0), zA 58 (fun _ => 0), zB 2 (fun _ => 0), zA 696 (fun _ => 0), zA 16 (fun _ => 0), zA 16 (fun _ => 0)]) _
  refine n_putF (i := 0) hk dX12_init_98 fp_X12_44 rfl (Or.inr ⟨_, rfl⟩) rfl (Nat.le_of_ble_eq_true rfl) ?_
  show Z rc M_X12_init 12 1311 101 [some (zR k), none] [] (g ++ [zO 11 [zR (k + 1), zR (k + 2), zR (k + 3), zI 0, zI 0, zR (k + 4), zI 0, zI 0, zI 0, zI 0, zI 0, zI 0, zR (k + 5), zR (k + 6), zR (k + 7), zR (k + 8), zR (k + 9), zR (k + 10), zI 0, zR (k + 11), zI 0, zR (k + 12), zN, zN, zI 0, zI 0], zA 8 (fun _ => 0), zA 8 (fun _ => 0), zA 320 (fun _ => 0), zA 100 (fun _ => 0), zA 29 (fun _ => 0), zA 29 (fun _ => 0), zA 29 (fun _ => 0), zA 58 (fun _ => 0), zB 2 (fun _ => 0), zA 696 (fun _ => 0), zA 16 (fun _ => 0), zA 16 (fun _ => 0)]) _
  refine z_aload_n dX12_init_101 rfl ?_
  refine z_iconst dX12_init_102 ?_
  refine n_newa (N := 5) hk true dX12_init_103 zw_40 rfl (by decide) (by decide) (by decide) ?_
  show Z rc M_X12_init 13 1316 105 [some (zR k), none] [zR (k + 13), zR k] (g ++ [zO 11 [zR (k + 1), zR (k + 2), zR (k + 3), zI 0, zI 0, zR (k + 4), zI 0, zI 0, zI 0, zI 0, zI 0, zI 0, zR (k + 5), zR (k + 6), zR (k + 7), zR (k + 8), zR (k + 9), zR (k + 10), zI 0, zR (k + 11), zI 0, zR (k + 12), zN, zN, zI 0, zI 0], zA 8 (fun _ => 0), zA 8 (fun _ => 0), zA 320 (fun _ => 0), zA 100 (fun _ => 0), zA 29 (fun _ => 0), zA 29 (fun _ => 0), zA 29 (fun _ => 0), zA 58 (fun _ => 0), zB 2 (fun _ => 0), zA 696 (fun _ => 0), zA 16 (fun _ => 0), zA 16 (fun _ => 0), zA 5 (fun _ => 0)]) _
  refine n_putF (i := 0) hk dX12_init_105 fp_X12_47 rfl (Or.inr ⟨_, rfl⟩) rfl (Nat.le_of_ble_eq_true rfl) ?_
  show Z rc M_X12_init 13 1316 108 [some (zR k), none] [] (g ++ [zO 11 [zR (k + 1), zR (k + 2), zR (k + 3), zI 0, zI 0, zR (k + 4), zI 0, zI 0, zI 0, zI 0, zI 0, zI 0, zR (k + 5), zR (k + 6), zR (k + 7), zR (k + 8), zR (k + 9), zR (k + 10), zI 0, zR (k + 11), zI 0, zR (k + 12), zR (k + 13), zN, zI 0, zI 0], zA 8 (fun _ => 0), zA 8 (fun _ => 0), zA 320 (fun _ => 0), zA 100 (fun _ => 0), zA 29 (fun _ => 0), zA 29 (fun _ => 0), zA 29 (fun _ => 0), zA 58 (fun _ => 0), zB 2 (fun _ => 0), zA 696 (fun _ => 0), zA 16 (fun _ => 0), zA 16 (fun _ => 0), zA 5 (fun _ => 0)]) _
  refine z_aload_n dX12_init_108 rfl ?_
  refine z_iconst dX12_init_109 ?_
  refine n_newa (N := 5) hk true dX12_init_110 zw_40 rfl (by decide) (by decide) (by decide) ?_
  show Z rc M_X12_init 14 1321 112 [some (zR k), none] [zR (k + 14), zR k] (g ++ [zO 11 [zR (k + 1), zR (k + 2), zR (k + 3), zI 0, zI 0, zR (k + 4), zI 0, zI 0, zI 0, zI 0, zI 0, zI 0, zR (k + 5), zR (k + 6), zR (k + 7), zR (k + 8), zR (k + 9), zR (k + 10), zI 0, zR (k + 11), zI 0, zR (k + 12), zR (k + 13), zN, zI 0, zI 0], zA 8 (fun _ => 0), zA 8 (fun _ => 0), zA 320 (fun _ => 0), zA 100 (fun _ => 0), zA 29 (fun _ => 0), zA 29 (fun _ => 0), zA 29 (fun _ => 0), zA 58 (fun _ => 0), zB 2 (fun _ => 0), zA 696 (fun _ => 0), zA 16 (fun _ => 0), zA 16 (fun _ => 0), zA 5 (fun _ => 0), zA 5 (fun _ => 0)]) _
  refine n_putF (i := 0) hk dX12_init_112 fp_X12_50 rfl (Or.inr ⟨_, rfl⟩) rfl (Nat.le_of_ble_eq_true rfl) ?_
  show Z rc M_X12_init 14 1321 115 [some (zR k), none] [] (g ++ [zO 11 [zR (k + 1), zR (k + 2), zR (k + 3), zI 0, zI 0, zR (k + 4), zI 0, zI 0, zI 0, zI 0, zI 0, zI 0, zR (k + 5), zR (k + 6), zR (k + 7), zR (k + 8), zR (k + 9), zR (k + 10), zI 0, zR (k + 11), zI 0, zR (k + 12), zR (k + 13), zR (k + 14), zI 0, zI 0], zA 8 (fun _ => 0), zA 8 (fun _ => 0), zA 320 (fun _ => 0), zA 100 (fun _ => 0), zA 29 (fun _ => 0), zA 29 (fun _ => 0), zA 29 (fun _ => 0), zA 58 (fun _ => 0), zB 2 (fun _ => 0), zA 696 (fun _ => 0), zA 16 (fun _ => 0), zA 16 (fun _ => 0), zA 5 (fun _ => 0), zA 5 (fun _ => 0)]) _
  refine z_iconst dX12_init_115 ?_
  refine z_istore_n dX12_init_116 (by decide) rfl ?_
  exact loop 8 0 (by omega) (fun _ => 0) (fun j hj => by omega)
end
