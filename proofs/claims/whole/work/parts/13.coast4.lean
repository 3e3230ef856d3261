/-! coasts: one pier ahead, two piers crossing -/
def taF (t : Nat → Int) (p : Nat) : Nat → Int → Int → Int
  | 0, _, _ => 0
  | n + 1, left, w => if 0 < left then tkF t (pcF t p left) left + taF t p n (max 0 (left - lkF (t (9 + p)) ((w + 1) * t 7 % 5) w)) (w + 1) else 0
def crL (t : Nat → Int) (a b : Nat) : Nat → Nat → Int
  | 0, _ => 0
  | n + 1, o => if pcF t a (o : Int) = pcF t b (o : Int) then (o : Int) else crL t a b n (o + 1)
def crF (t : Nat → Int) (a b : Nat) : Int := crL t a b (min (t (24 + a)) (t (24 + b))).toNat 1
section
variable {rc : ZRC} {σ : Mem} {k : Nat} {t : Nat → Int} {B : Int}
theorem k_takenAhead {p d : Nat} {len : Int} (hk : isC k) (hR : cR σ k t) (ho : cok B t) (hB : B + d ≤ 100000) (hd : d ≤ 1000) (hpp : (p : Int) < t 3) (hl : 0 ≤ len) (hl2 : len ≤ 999) : KI rc M_X2_takenAhead [zR k, zI (p : Int), zI len, zI (d : Int)] σ (fun v σ' => v = taF t p d len (t 0) ∧ σ' = σ) := by
  obtain ⟨r4, r5, r6, r7, r8, r9, r10, r11, r12, rp⟩ := hR
  obtain ⟨h8, h3, a0, a1, a2, a4, a5, a6, a7, hq⟩ := ho
  obtain ⟨q1, q2, q3, q4⟩ := hq p hpp
  obtain ⟨p1, p2, p3, p4⟩ := rp p hpp
  have r11 := r11 h8
  have c0 := cs0 hk
  have c1 := cs1 hk
  have c2 := cs2 hk
  have c3 := cs3 hk
  have loop : ∀ (n : Nat) (w : Nat) (acc left : Int), w + n = d → 0 ≤ acc → acc ≤ 29 * (w : Int) → 0 ≤ left → left ≤ 999 → acc + taF t p n left (t 0 + w) = taF t p d len (t 0) → Z rc M_X2_takenAhead 0 0 12 [some (zR k), some (zI (p : Int)), some (zI len), some (zI (d : Int)), some (zI acc), some (zI left), some (zI (t 0 + (w : Int)))] [] (hp σ) (qI (fun v σ' => v = taF t p d len (t 0) ∧ σ' = σ)) := by
    intro n
    induction n with
    | zero =>
      intro w acc left hw ha ha2 hl hl2 he
      refine z_iload dX2_takenAhead_12 rfl ?_
      first | refine z_aload_n dX2_takenAhead_14 rfl ?_ | refine z_aload_nT dX2_takenAhead_14 rfl ?_
      refine h_geti dX2_takenAhead_15 fl_X2_30 (by first | assumption | rfl) (by rfl) ?_
      refine z_iload_n dX2_takenAhead_18 rfl ?_
      refine z_iadd dX2_takenAhead_19 ?_
      refine z_icmp_ge (tgt := 88) dX2_takenAhead_20 (by decide) (by omega) (by omega) (fun b20 => ?_) (fun b20 => ?_)
      · refine z_iload dX2_takenAhead_88 rfl ?_
        refine h_iret dX2_takenAhead_90 rfl rfl rfl ?_
        exact ⟨by rw [← he]; simp [taF], rfl⟩
      · omega
    | succ n ih =>
      intro w acc left hw ha ha2 hl hl2 he
      refine z_iload dX2_takenAhead_12 rfl ?_
      first | refine z_aload_n dX2_takenAhead_14 rfl ?_ | refine z_aload_nT dX2_takenAhead_14 rfl ?_
      refine h_geti dX2_takenAhead_15 fl_X2_30 (by first | assumption | rfl) (by rfl) ?_
      refine z_iload_n dX2_takenAhead_18 rfl ?_
      refine z_iadd dX2_takenAhead_19 ?_
      refine z_icmp_ge (tgt := 88) dX2_takenAhead_20 (by decide) (by omega) (by omega) (fun b20 => ?_) (fun b20 => ?_)
      · omega
      · refine z_iload dX2_takenAhead_23 rfl ?_
        refine z_if_le (tgt := 88) dX2_takenAhead_25 (by decide) (by omega) (fun b25 => ?_) (fun b25 => ?_)
        · refine z_iload dX2_takenAhead_88 rfl ?_
          refine h_iret dX2_takenAhead_90 rfl rfl rfl ?_
          refine ⟨?_, rfl⟩
          rw [← he]
          unfold taF
          rw [if_neg (by omega)]
          omega
        · have pin := placeF_in (σ (k + 2) p) (σ (k + 3) p) left
          have tin := takeF_in (a := t 4) (b := t 5) (r := t 6) (pl := placeF (σ (k + 2) p) (σ (k + 3) p) left) (far := left) a4.1 a5.1 a6.1 a6.2 pin.1 hl
          refine z_iload dX2_takenAhead_28 rfl ?_
          first | refine z_aload_n dX2_takenAhead_30 rfl ?_ | refine z_aload_nT dX2_takenAhead_30 rfl ?_
          first | refine z_aload_n dX2_takenAhead_31 rfl ?_ | refine z_aload_nT dX2_takenAhead_31 rfl ?_
          refine h_getr dX2_takenAhead_32 fl_X2_13 (by first | assumption | rfl) (by rfl) ?_
          refine z_iload_n dX2_takenAhead_35 rfl ?_
          first | refine h_iald dX2_takenAhead_36 (by first | assumption | rfl) (by repeat' first | apply zc_add | apply zc_mul | with_reducible exact zc_var _ | exact zc_lit _) (by omega) (by decide) ?_ | refine z_ialdT _ dX2_takenAhead_36 (by assumption) (by repeat' first | apply zc_add | apply zc_mul | with_reducible exact zc_var _ | exact zc_lit _) (by omega) (by omega) ?_
          first | refine z_aload_n dX2_takenAhead_37 rfl ?_ | refine z_aload_nT dX2_takenAhead_37 rfl ?_
          refine h_getr dX2_takenAhead_38 fl_X2_16 (by first | assumption | rfl) (by rfl) ?_
          refine z_iload_n dX2_takenAhead_41 rfl ?_
          first | refine h_iald dX2_takenAhead_42 (by first | assumption | rfl) (by repeat' first | apply zc_add | apply zc_mul | with_reducible exact zc_var _ | exact zc_lit _) (by omega) (by decide) ?_ | refine z_ialdT _ dX2_takenAhead_42 (by assumption) (by repeat' first | apply zc_add | apply zc_mul | with_reducible exact zc_var _ | exact zc_lit _) (by omega) (by omega) ?_
          refine z_iload dX2_takenAhead_43 rfl ?_
          refine h_Si3 (Y' := M_X2_placeFrom) dX2_takenAhead_45 zw_449 zw_450 ok_X2_placeFrom (by decide) rfl (Nat.le_of_ble_eq_true rfl) ⟨rfl, rfl⟩ (by decide) (k_placeFrom (by omega) (by omega) (by omega) (by omega) (by omega) (by omega)) (fun vv σ2 hq => ?_)
          obtain ⟨rfl, rfl⟩ := hq
          refine z_iload dX2_takenAhead_48 rfl ?_
          refine h_Vi2 (Y' := M_X2_takeAt) dX2_takenAhead_50 zw_452 zw_453 zw_454 rfl ok_X2_takeAt (by decide) rfl (Nat.le_of_ble_eq_true rfl) ⟨rfl, rfl⟩ (by decide) (by first | assumption | rfl) (k_takeAt hk (by omega) (by omega) (by omega) (by omega) (by omega) (by omega) (by omega) (by omega) (by omega) (by omega)) (fun vv σ2 hq => ?_)
          obtain ⟨rfl, rfl⟩ := hq
          refine z_iadd dX2_takenAhead_53 ?_
          refine z_istore dX2_takenAhead_54 (by decide) rfl ?_
          refine z_iconst dX2_takenAhead_56 ?_
          refine z_iload dX2_takenAhead_57 rfl ?_
          first | refine z_aload_n dX2_takenAhead_59 rfl ?_ | refine z_aload_nT dX2_takenAhead_59 rfl ?_
          refine h_getr dX2_takenAhead_60 fl_X2_9 (by first | assumption | rfl) (by rfl) ?_
          refine z_iload_n dX2_takenAhead_63 rfl ?_
          first | refine h_iald dX2_takenAhead_64 (by first | assumption | rfl) (by repeat' first | apply zc_add | apply zc_mul | with_reducible exact zc_var _ | exact zc_lit _) (by omega) (by decide) ?_ | refine z_ialdT _ dX2_takenAhead_64 (by assumption) (by repeat' first | apply zc_add | apply zc_mul | with_reducible exact zc_var _ | exact zc_lit _) (by omega) (by omega) ?_
          first | refine z_aload_n dX2_takenAhead_65 rfl ?_ | refine z_aload_nT dX2_takenAhead_65 rfl ?_
          refine z_iload dX2_takenAhead_66 rfl ?_
          refine h_Vi1 (Y' := M_X2_stormOf) dX2_takenAhead_68 zw_429 zw_431 zs_9 rfl ok_X2_stormOf (by decide) rfl (Nat.le_of_ble_eq_true rfl) ⟨rfl, rfl⟩ (by decide) (by first | assumption | rfl) (k_stormOf (t := t) hk r12 a7 (by omega) (by omega)) (fun vv σ2 hq => ?_)
          obtain ⟨rfl, rfl⟩ := hq
          have sin : 0 ≤ (t 0 + (w : Int) + 1) * t 7 % 5 ∧ (t 0 + (w : Int) + 1) * t 7 % 5 ≤ 4 := by omega
          have lin := lkF_in (k := σ2 (k + 1) p) (w := t 0 + (w : Int)) sin.1 sin.2
          refine z_iload dX2_takenAhead_71 rfl ?_
          refine h_Si3 (Y' := M_X2_lossOfKind) dX2_takenAhead_73 zw_461 zw_462 ok_X2_lossOfKind (by decide) rfl (Nat.le_of_ble_eq_true rfl) ⟨rfl, rfl⟩ (by decide) (k_lossOfKind (by omega) (by omega) sin.1 sin.2 (by omega) (by omega)) (fun vv σ2 hq => ?_)
          obtain ⟨rfl, rfl⟩ := hq
          refine z_isub dX2_takenAhead_76 ?_
          refine h_Si2 (Y' := M_J9_max_7cf53) dX2_takenAhead_77 zw_555 zw_556 ok_J9_max_7cf53 (by decide) rfl (Nat.le_of_ble_eq_true rfl) ⟨rfl, rfl⟩ (by decide) (k_max (by omega) (by omega)) (fun vv σ2 hq => ?_)
          obtain ⟨rfl, rfl⟩ := hq
          refine z_istore dX2_takenAhead_80 (by decide) rfl ?_
          refine z_iinc dX2_takenAhead_82 rfl (by decide) rfl ?_
          refine z_goto (tgt := 12) dX2_takenAhead_85 (by decide) ?_
          rw [r9, r10, r11, p2, p3, p1] at *
          have := ih (w + 1) (acc + takeF (t 4) (t 5) (t 6) (placeF (t (14 + p)) (t (19 + p)) left) left) (max 0 (left - lkF (t (9 + p)) ((t 0 + (w : Int) + 1) * t 7 % 5) (t 0 + (w : Int)))) (by omega) (by omega) (by omega) (by omega) (by omega) (by
            rw [← he]
            show _ = acc + taF t p (n + 1) left (t 0 + (w : Int))
            conv => rhs; unfold taF
            rw [if_pos (by omega), nsucc, ← Int.add_assoc (t 0)]
            unfold tkF pcF
            omega)
          rw [nsucc, ← Int.add_assoc] at this
          exact this
  refine K_of 3 (by decide) (Nat.le_of_ble_eq_true rfl) (show Z _ _ 0 0 0 [some (zR k), some (zI (p : Int)), some (zI len), some (zI (d : Int)), none, none, none] [] _ _ from ?_)
  refine z_iconst dX2_takenAhead_0 ?_
  refine z_istore dX2_takenAhead_1 (by decide) rfl ?_
  refine z_iload_n dX2_takenAhead_3 rfl ?_
  refine z_istore dX2_takenAhead_4 (by decide) rfl ?_
  first | refine z_aload_n dX2_takenAhead_6 rfl ?_ | refine z_aload_nT dX2_takenAhead_6 rfl ?_
  refine h_geti dX2_takenAhead_7 fl_X2_30 (by first | assumption | rfl) (by rfl) ?_
  refine z_istore dX2_takenAhead_10 (by decide) rfl ?_
  have := loop d 0 0 len (Nat.zero_add _) (by omega) (by omega) hl hl2 (by simp)
  rw [r6]
  simpa using this
theorem k_crossing {a b : Nat} (hk : isC k) (hR : cR σ k t) (ho : cok B t) (ha : (a : Int) < t 3) (hb : (b : Int) < t 3) : KI rc M_X2_crossing [zR k, zI (a : Int), zI (b : Int)] σ (fun v σ' => v = crF t a b ∧ σ' = σ) := by
  obtain ⟨r4, r5, r6, r7, r8, r9, r10, r11, r12, rp⟩ := hR
  obtain ⟨h8, h3, a0, a1, a2, a4, a5, a6, a7, hq⟩ := ho
  obtain ⟨q1, q2, q3, q4⟩ := hq a ha
  obtain ⟨p1, p2, p3, p4⟩ := rp a ha
  obtain ⟨v1, v2, v3, v4⟩ := hq b hb
  obtain ⟨u1, u2, u3, u4⟩ := rp b hb
  have c0 := cs0 hk
  have c2 := cs2 hk
  have c3 := cs3 hk
  have c4 := cs4 hk
  have loop : ∀ (n o : Nat), o + n = (min (t (24 + a)) (t (24 + b))).toNat + 1 → Z rc M_X2_crossing 0 0 19 [some (zR k), some (zI (a : Int)), some (zI (b : Int)), some (zI (min (t (24 + a)) (t (24 + b)))), some (zI (o : Int))] [] (hp σ) (qI (fun v σ' => v = crL t a b n o ∧ σ' = σ)) := by
    intro n
    induction n with
    | zero =>
      intro o ho
      refine z_iload dX2_crossing_19 rfl ?_
      refine z_iload_n dX2_crossing_21 rfl ?_
      refine z_icmp_gt (tgt := 71) dX2_crossing_22 (by decide) (by omega) (by omega) (fun b22 => ?_) (fun b22 => ?_)
      · refine z_iconst dX2_crossing_71 ?_
        refine h_iret dX2_crossing_72 rfl rfl rfl ?_
        exact ⟨rfl, rfl⟩
      · omega
    | succ n ih =>
      intro o ho
      have x1 := placeF_in (t (14 + a)) (t (19 + a)) (o : Int)
      have x2 := placeF_in (t (14 + b)) (t (19 + b)) (o : Int)
      refine z_iload dX2_crossing_19 rfl ?_
      refine z_iload_n dX2_crossing_21 rfl ?_
      refine z_icmp_gt (tgt := 71) dX2_crossing_22 (by decide) (by omega) (by omega) (fun b22 => ?_) (fun b22 => ?_)
      · omega
      · first | refine z_aload_n dX2_crossing_25 rfl ?_ | refine z_aload_nT dX2_crossing_25 rfl ?_
        refine h_getr dX2_crossing_26 fl_X2_13 (by first | assumption | rfl) (by rfl) ?_
        refine z_iload_n dX2_crossing_29 rfl ?_
        first | refine h_iald dX2_crossing_30 (by first | assumption | rfl) (by repeat' first | apply zc_add | apply zc_mul | with_reducible exact zc_var _ | exact zc_lit _) (by omega) (by decide) ?_ | refine z_ialdT _ dX2_crossing_30 (by assumption) (by repeat' first | apply zc_add | apply zc_mul | with_reducible exact zc_var _ | exact zc_lit _) (by omega) (by omega) ?_
        first | refine z_aload_n dX2_crossing_31 rfl ?_ | refine z_aload_nT dX2_crossing_31 rfl ?_
        refine h_getr dX2_crossing_32 fl_X2_16 (by first | assumption | rfl) (by rfl) ?_
        refine z_iload_n dX2_crossing_35 rfl ?_
        first | refine h_iald dX2_crossing_36 (by first | assumption | rfl) (by repeat' first | apply zc_add | apply zc_mul | with_reducible exact zc_var _ | exact zc_lit _) (by omega) (by decide) ?_ | refine z_ialdT _ dX2_crossing_36 (by assumption) (by repeat' first | apply zc_add | apply zc_mul | with_reducible exact zc_var _ | exact zc_lit _) (by omega) (by omega) ?_
        refine z_iload dX2_crossing_37 rfl ?_
        rw [p2, p3]
        refine h_Si3 (Y' := M_X2_placeFrom) dX2_crossing_39 zw_449 zw_450 ok_X2_placeFrom (by decide) rfl (Nat.le_of_ble_eq_true rfl) ⟨rfl, rfl⟩ (by decide) (k_placeFrom (by omega) (by omega) (by omega) (by omega) (by omega) (by omega)) (fun vv σ2 hq => ?_)
        obtain ⟨rfl, rfl⟩ := hq
        first | refine z_aload_n dX2_crossing_42 rfl ?_ | refine z_aload_nT dX2_crossing_42 rfl ?_
        refine h_getr dX2_crossing_43 fl_X2_13 (by first | assumption | rfl) (by rfl) ?_
        refine z_iload_n dX2_crossing_46 rfl ?_
        first | refine h_iald dX2_crossing_47 (by first | assumption | rfl) (by repeat' first | apply zc_add | apply zc_mul | with_reducible exact zc_var _ | exact zc_lit _) (by omega) (by decide) ?_ | refine z_ialdT _ dX2_crossing_47 (by assumption) (by repeat' first | apply zc_add | apply zc_mul | with_reducible exact zc_var _ | exact zc_lit _) (by omega) (by omega) ?_
        first | refine z_aload_n dX2_crossing_48 rfl ?_ | refine z_aload_nT dX2_crossing_48 rfl ?_
        refine h_getr dX2_crossing_49 fl_X2_16 (by first | assumption | rfl) (by rfl) ?_
        refine z_iload_n dX2_crossing_52 rfl ?_
        first | refine h_iald dX2_crossing_53 (by first | assumption | rfl) (by repeat' first | apply zc_add | apply zc_mul | with_reducible exact zc_var _ | exact zc_lit _) (by omega) (by decide) ?_ | refine z_ialdT _ dX2_crossing_53 (by assumption) (by repeat' first | apply zc_add | apply zc_mul | with_reducible exact zc_var _ | exact zc_lit _) (by omega) (by omega) ?_
        refine z_iload dX2_crossing_54 rfl ?_
        rw [u2, u3]
        refine h_Si3 (Y' := M_X2_placeFrom) dX2_crossing_56 zw_449 zw_450 ok_X2_placeFrom (by decide) rfl (Nat.le_of_ble_eq_true rfl) ⟨rfl, rfl⟩ (by decide) (k_placeFrom (by omega) (by omega) (by omega) (by omega) (by omega) (by omega)) (fun vv σ2 hq => ?_)
        obtain ⟨rfl, rfl⟩ := hq
        refine z_icmp_ne (tgt := 65) dX2_crossing_59 (by decide) (by omega) (by omega) (fun b59 => ?_) (fun b59 => ?_)
        · refine z_iinc dX2_crossing_65 rfl (by decide) rfl ?_
          refine z_goto (tgt := 19) dX2_crossing_68 (by decide) ?_
          have := ih (o + 1) (by omega)
          rw [nsucc] at this
          have e : crL t a b (n + 1) o = crL t a b n (o + 1) := by
            conv => lhs; unfold crL
            rw [if_neg (show ¬ pcF t a (o : Int) = pcF t b (o : Int) from b59)]
          rw [e]
          exact this
        · refine z_iload dX2_crossing_62 rfl ?_
          refine h_iret dX2_crossing_64 rfl rfl rfl ?_
          refine ⟨?_, rfl⟩
          unfold crL
          rw [if_pos (show pcF t a (o : Int) = pcF t b (o : Int) from b59)]
  refine K_of 2 (by decide) (Nat.le_of_ble_eq_true rfl) (show Z _ _ 0 0 0 [some (zR k), some (zI (a : Int)), some (zI (b : Int)), none, none] [] _ _ from ?_)
  first | refine z_aload_n dX2_crossing_0 rfl ?_ | refine z_aload_nT dX2_crossing_0 rfl ?_
  refine h_getr dX2_crossing_1 fl_X2_19 (by first | assumption | rfl) (by rfl) ?_
  refine z_iload_n dX2_crossing_4 rfl ?_
  first | refine h_iald dX2_crossing_5 (by first | assumption | rfl) (by repeat' first | apply zc_add | apply zc_mul | with_reducible exact zc_var _ | exact zc_lit _) (by omega) (by decide) ?_ | refine z_ialdT _ dX2_crossing_5 (by assumption) (by repeat' first | apply zc_add | apply zc_mul | with_reducible exact zc_var _ | exact zc_lit _) (by omega) (by omega) ?_
  first | refine z_aload_n dX2_crossing_6 rfl ?_ | refine z_aload_nT dX2_crossing_6 rfl ?_
  refine h_getr dX2_crossing_7 fl_X2_19 (by first | assumption | rfl) (by rfl) ?_
  refine z_iload_n dX2_crossing_10 rfl ?_
  first | refine h_iald dX2_crossing_11 (by first | assumption | rfl) (by repeat' first | apply zc_add | apply zc_mul | with_reducible exact zc_var _ | exact zc_lit _) (by omega) (by decide) ?_ | refine z_ialdT _ dX2_crossing_11 (by assumption) (by repeat' first | apply zc_add | apply zc_mul | with_reducible exact zc_var _ | exact zc_lit _) (by omega) (by omega) ?_
  rw [p4, u4]
  refine h_Si2 (Y' := M_J9_min_7cf53) dX2_crossing_12 zw_456 zw_423 ok_J9_min_7cf53 (by decide) rfl (Nat.le_of_ble_eq_true rfl) ⟨rfl, rfl⟩ (by decide) (k_min (by omega) (by omega)) (fun vv σ2 hq => ?_)
  obtain ⟨rfl, rfl⟩ := hq
  refine z_istore_n dX2_crossing_15 (by decide) rfl ?_
  refine z_iconst dX2_crossing_16 ?_
  refine z_istore dX2_crossing_17 (by decide) rfl ?_
  exact loop _ 1 (by omega)
end
