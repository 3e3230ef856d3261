/-! a coast as a vector t of 29 numbers: season, purse, iron, many, along, out, round, gale, there; sorts from 9, froms from 14, leans from 19, spans from 24 -/
theorem zu_eq {σ : Mem} {o j : Nat} {x : Int} : zu σ o j x o j = x := by simp [zu, zup]
theorem zu_o {σ : Mem} {o j o' j' : Nat} {x : Int} (h : o' ≠ o) : zu σ o j x o' j' = σ o' j' := by simp [zu, h]
theorem zu_j {σ : Mem} {o j o' j' : Nat} {x : Int} (h : j' ≠ j) : zu σ o j x o' j' = σ o' j' := by
  unfold zu
  split
  · rename_i e
    subst e
    simp [zup, h]
  · rfl
theorem nsucc (p : Nat) : ((p + 1 : Nat) : Int) = (p : Int) + 1 := by omega
def cR (σ : Mem) (k : Nat) (t : Nat → Int) : Prop := σ k 4 = t 8 ∧ σ k 5 = t 3 ∧ σ k 6 = t 0 ∧ σ k 7 = t 1 ∧ σ k 8 = t 2 ∧ σ k 9 = t 4 ∧ σ k 10 = t 5 ∧ (t 8 = 1 → σ k 11 = t 6) ∧ σ k 12 = t 7 ∧ ∀ p : Nat, (p : Int) < t 3 → σ (k + 1) p = t (9 + p) ∧ σ (k + 2) p = t (14 + p) ∧ σ (k + 3) p = t (19 + p) ∧ σ (k + 4) p = t (24 + p)
def cok (B : Int) (t : Nat → Int) : Prop := t 8 = 1 ∧ (0 ≤ t 3 ∧ t 3 ≤ 5) ∧ (0 ≤ t 0 ∧ t 0 ≤ B) ∧ (0 ≤ t 1 ∧ t 1 ≤ 9999) ∧ (0 ≤ t 2 ∧ t 2 ≤ 99) ∧ (0 ≤ t 4 ∧ t 4 ≤ 9) ∧ (0 ≤ t 5 ∧ t 5 ≤ 9) ∧ (1 ≤ t 6 ∧ t 6 ≤ 30) ∧ (0 ≤ t 7 ∧ t 7 ≤ 9) ∧ ∀ p : Nat, (p : Int) < t 3 → (1 ≤ t (9 + p) ∧ t (9 + p) ≤ 5) ∧ (0 ≤ t (14 + p) ∧ t (14 + p) ≤ 9) ∧ (0 ≤ t (19 + p) ∧ t (19 + p) ≤ 2) ∧ (0 ≤ t (24 + p) ∧ t (24 + p) ≤ 99)
def fr (a n : Nat) (σ σ' : Mem) : Prop := ∀ o j, (o < a ∨ a + n ≤ o) → σ' o j = σ o j
theorem fr.rf {a n : Nat} {σ : Mem} : fr a n σ σ := fun _ _ _ => rfl
theorem fr.tr {a n : Nat} {σ σ1 σ2 : Mem} (h1 : fr a n σ σ1) (h2 : fr a n σ1 σ2) : fr a n σ σ2 := fun o j h => (h2 o j h).trans (h1 o j h)
def pcF (t : Nat → Int) (p : Nat) (far : Int) : Int := placeF (t (14 + p)) (t (19 + p)) far
def tkF (t : Nat → Int) (place far : Int) : Int := takeF (t 4) (t 5) (t 6) place far
def toF (t : Nat → Int) (p : Nat) : Int := tkF t (pcF t p (t (24 + p))) (t (24 + p))
def tsF (t : Nat → Int) : Nat → Int
  | 0 => 0
  | p + 1 => tsF t p + toF t p
def stF (t : Nat → Int) : Int := (t 0 + 1) * t 7 % 5
def lkF (kind storm at_ : Int) : Int := if kind = 2 then storm / 2 else if kind = 3 then (if at_ % 2 = 0 then storm + 1 else storm) else if kind = 4 then (if 0 < storm then 1 else 0) else if kind = 5 then (if storm = 4 then 1 else 0) else storm
def loF (t : Nat → Int) (p : Nat) (storm : Int) : Int := min (t (24 + p)) (lkF (t (9 + p)) storm (t 0))
def goF (t : Nat → Int) (storm : Int) : Nat → Int := fun i => if i = 0 then t 0 + 1 else if i = 1 then min 9999 (t 1 + tsF t (t 3).toNat) else if 24 ≤ i ∧ (i : Int) < 24 + t 3 then t i - loF t (i - 24) storm else t i
def gnF (t : Nat → Int) : Nat → (Nat → Int)
  | 0 => t
  | d + 1 => goF (gnF t d) (stF (gnF t d))
theorem takeF_in {a b r pl far : Int} (ha : 0 ≤ a) (hb : 0 ≤ b) (hr : 1 ≤ r) (hr2 : r ≤ 30) (hp : 0 ≤ pl) (hf : 0 ≤ far) : 0 ≤ takeF a b r pl far ∧ takeF a b r pl far ≤ 29 := by
  unfold takeF
  have e1 := Int.emod_nonneg (pl * a + far * b) (show r ≠ 0 by omega)
  have e2 := Int.emod_lt_of_pos (pl * a + far * b) (show 0 < r by omega)
  split <;> omega
theorem toF_in {B : Int} {t : Nat → Int} (h : cok B t) {p : Nat} (hp : (p : Int) < t 3) : 0 ≤ toF t p ∧ toF t p ≤ 29 := by
  obtain ⟨h8, h3, h0, h1, h2, h4, h5, h6, h7, hq⟩ := h
  obtain ⟨q1, q2, q3, q4⟩ := hq p hp
  exact takeF_in h4.1 h5.1 h6.1 h6.2 (placeF_in _ _ _).1 q4.1
theorem tsF_in {B : Int} {t : Nat → Int} (h : cok B t) : ∀ p : Nat, (p : Int) ≤ t 3 → 0 ≤ tsF t p ∧ tsF t p ≤ 29 * p
  | 0, _ => ⟨Int.le_refl _, by simp [tsF]⟩
  | p + 1, hp => by
    have h1 := tsF_in h p (by omega)
    have h2 := toF_in h (p := p) (by omega)
    show 0 ≤ tsF t p + toF t p ∧ tsF t p + toF t p ≤ 29 * ((p + 1 : Nat) : Int)
    omega
theorem stF_in (t : Nat → Int) : 0 ≤ stF t ∧ stF t ≤ 4 := by unfold stF; omega
theorem lkF_in {k s w : Int} (h0 : 0 ≤ s) (h1 : s ≤ 4) : 0 ≤ lkF k s w ∧ lkF k s w ≤ 5 := by
  unfold lkF
  repeat' split
  all_goals omega
theorem loF_in {B : Int} {t : Nat → Int} (h : cok B t) {p : Nat} (hp : (p : Int) < t 3) {s : Int} (h0 : 0 ≤ s) (h1 : s ≤ 4) : 0 ≤ loF t p s ∧ loF t p s ≤ t (24 + p) := by
  obtain ⟨h8, h3, _, _, _, _, _, _, _, hq⟩ := h
  obtain ⟨q1, q2, q3, q4⟩ := hq p hp
  have := lkF_in (k := t (9 + p)) (w := t 0) h0 h1
  unfold loF
  omega
theorem goF_ok {B : Int} {t : Nat → Int} (h : cok B t) {s : Int} (h0 : 0 ≤ s) (h1 : s ≤ 4) : cok (B + 1) (goF t s) := by
  have hts := tsF_in h (t 3).toNat (by have := h.2.1; omega)
  have hh := h
  obtain ⟨h8, h3, a0, a1, a2, a4, a5, a6, a7, hq⟩ := h
  refine ⟨h8, h3, ⟨show 0 ≤ t 0 + 1 by omega, show t 0 + 1 ≤ B + 1 by omega⟩, ⟨show 0 ≤ min 9999 (t 1 + tsF t (t 3).toNat) by omega, show min 9999 (t 1 + tsF t (t 3).toNat) ≤ 9999 by omega⟩, a2, a4, a5, a6, a7, fun p hp => ?_⟩
  have hp2 : (p : Int) < t 3 := hp
  obtain ⟨q1, q2, q3, q4⟩ := hq p hp2
  have hl := loF_in hh hp2 h0 h1
  have e9 : goF t s (9 + p) = t (9 + p) := by
    unfold goF
    rw [if_neg (by omega), if_neg (by omega), if_neg (by omega)]
  have e14 : goF t s (14 + p) = t (14 + p) := by
    unfold goF
    rw [if_neg (by omega), if_neg (by omega), if_neg (by omega)]
  have e19 : goF t s (19 + p) = t (19 + p) := by
    unfold goF
    rw [if_neg (by omega), if_neg (by omega), if_neg (by omega)]
  have e24 : goF t s (24 + p) = t (24 + p) - loF t p s := by
    unfold goF
    rw [if_neg (by omega), if_neg (by omega), if_pos (by omega), show 24 + p - 24 = p by omega]
  rw [e9, e14, e19, e24]
  omega
theorem gnF_ok {B : Int} {t : Nat → Int} (h : cok B t) : ∀ d : Nat, cok (B + d) (gnF t d)
  | 0 => by simpa [gnF] using h
  | d + 1 => by
    have h1 := goF_ok (gnF_ok h d) (stF_in (gnF t d)).1 (stF_in (gnF t d)).2
    rw [nsucc, ← Int.add_assoc]
    exact h1
section
variable {rc : ZRC} {σ : Mem} {k : Nat} {t : Nat → Int} {B : Int}
theorem k_takeOf {p : Nat} (hk : isC k) (hR : cR σ k t) (ho : cok B t) (hp : (p : Int) < t 3) : KI rc M_X2_takeOf [zR k, zI (p : Int)] σ (fun v σ' => v = toF t p ∧ σ' = σ) := by
  obtain ⟨r4, r5, r6, r7, r8, r9, r10, r11, r12, rp⟩ := hR
  obtain ⟨h8, h3, a0, a1, a2, a4, a5, a6, a7, hq⟩ := ho
  obtain ⟨q1, q2, q3, q4⟩ := hq p hp
  obtain ⟨p1, p2, p3, p4⟩ := rp p hp
  have r11 := r11 h8
  have c0 := cs0 hk
  have c4 := cs4 hk
  have pin := placeF_in (σ (k + 2) p) (σ (k + 3) p) (σ (k + 4) p)
  refine K_of 0 (by decide) (Nat.le_of_ble_eq_true rfl) (show Z _ _ 0 0 0 [some (zR k), some (zI (p : Int))] [] _ _ from ?_)
  first | refine z_aload_n dX2_takeOf_0 rfl ?_ | refine z_aload_nT dX2_takeOf_0 rfl ?_
  first | refine z_aload_n dX2_takeOf_1 rfl ?_ | refine z_aload_nT dX2_takeOf_1 rfl ?_
  refine z_iload_n dX2_takeOf_2 rfl ?_
  refine h_Vi1 (Y' := M_X2_endOf) dX2_takeOf_3 zw_445 zw_446 zw_447 rfl ok_X2_endOf (by decide) rfl (Nat.le_of_ble_eq_true rfl) ⟨rfl, rfl⟩ (by decide) (by first | assumption | rfl) (k_endOf hk (by omega) (by omega) (by omega) (by omega) (by omega) (by omega) (by omega)) (fun vv σ2 hq => ?_)
  obtain ⟨rfl, rfl⟩ := hq
  first | refine z_aload_n dX2_takeOf_6 rfl ?_ | refine z_aload_nT dX2_takeOf_6 rfl ?_
  refine h_getr dX2_takeOf_7 fl_X2_19 (by first | assumption | rfl) (by rfl) ?_
  refine z_iload_n dX2_takeOf_10 rfl ?_
  first | refine h_iald dX2_takeOf_11 (by first | assumption | rfl) (by repeat' first | apply zc_add | apply zc_mul | with_reducible exact zc_var _ | exact zc_lit _) (by omega) (by decide) ?_ | refine z_ialdT _ dX2_takeOf_11 (by assumption) (by repeat' first | apply zc_add | apply zc_mul | with_reducible exact zc_var _ | exact zc_lit _) (by omega) (by omega) ?_
  refine h_Vi2 (Y' := M_X2_takeAt) dX2_takeOf_12 zw_452 zw_453 zw_454 rfl ok_X2_takeAt (by decide) rfl (Nat.le_of_ble_eq_true rfl) ⟨rfl, rfl⟩ (by decide) (by first | assumption | rfl) (k_takeAt hk (by omega) (by omega) (by omega) (by omega) (by omega) (by omega) (by omega) (by omega) (by omega) (by omega)) (fun vv σ2 hq => ?_)
  obtain ⟨rfl, rfl⟩ := hq
  refine h_iret dX2_takeOf_15 rfl rfl rfl ?_
  exact ⟨by unfold toF tkF pcF; rw [p2, p3, p4, r9, r10, r11], rfl⟩
theorem k_takeTogether (hk : isC k) (hR : cR σ k t) (ho : cok B t) : KI rc M_X2_takeTogether [zR k] σ (fun v σ' => v = tsF t (t 3).toNat ∧ σ' = σ) := by
  have r5 := hR.2.1
  have h3 := ho.2.1
  have c0 := cs0 hk
  have loop : ∀ n p : Nat, p + n = (t 3).toNat → Z rc M_X2_takeTogether 0 0 4 [some (zR k), some (zI (tsF t p)), some (zI (p : Int))] [] (hp σ) (qI (fun v σ' => v = tsF t (t 3).toNat ∧ σ' = σ)) := by
    intro n
    induction n with
    | zero =>
      intro p hpn
      refine z_iload_n dX2_takeTogether_4 rfl ?_
      first | refine z_aload_n dX2_takeTogether_5 rfl ?_ | refine z_aload_nT dX2_takeTogether_5 rfl ?_
      refine h_geti dX2_takeTogether_6 fl_X2_26 (by first | assumption | rfl) (by rfl) ?_
      refine z_icmp_ge (tgt := 26) dX2_takeTogether_9 (by decide) (by omega) (by omega) (fun b9 => ?_) (fun b9 => ?_)
      · refine z_iload_n dX2_takeTogether_26 rfl ?_
        refine h_iret dX2_takeTogether_27 rfl rfl rfl ?_
        exact ⟨by rw [← hpn]; rfl, rfl⟩
      · omega
    | succ n ih =>
      intro p hpn
      refine z_iload_n dX2_takeTogether_4 rfl ?_
      first | refine z_aload_n dX2_takeTogether_5 rfl ?_ | refine z_aload_nT dX2_takeTogether_5 rfl ?_
      refine h_geti dX2_takeTogether_6 fl_X2_26 (by first | assumption | rfl) (by rfl) ?_
      refine z_icmp_ge (tgt := 26) dX2_takeTogether_9 (by decide) (by omega) (by omega) (fun b9 => ?_) (fun b9 => ?_)
      · omega
      · refine z_iload_n dX2_takeTogether_12 rfl ?_
        first | refine z_aload_n dX2_takeTogether_13 rfl ?_ | refine z_aload_nT dX2_takeTogether_13 rfl ?_
        refine z_iload_n dX2_takeTogether_14 rfl ?_
        refine h_Vi1 (Y' := M_X2_takeOf) dX2_takeTogether_15 zw_441 zw_442 zw_443 rfl ok_X2_takeOf (by decide) rfl (Nat.le_of_ble_eq_true rfl) ⟨rfl, rfl⟩ (by decide) (by first | assumption | rfl) (k_takeOf hk hR ho (by omega)) (fun vv σ2 hq => ?_)
        obtain ⟨rfl, rfl⟩ := hq
        refine z_iadd dX2_takeTogether_18 ?_
        refine z_istore_n dX2_takeTogether_19 (by decide) rfl ?_
        refine z_iinc dX2_takeTogether_20 rfl (by decide) rfl ?_
        refine z_goto (tgt := 4) dX2_takeTogether_23 (by decide) ?_
        have := ih (p + 1) (by omega)
        rw [nsucc] at this
        exact this
  refine K_of 2 (by decide) (Nat.le_of_ble_eq_true rfl) (show Z _ _ 0 0 0 [some (zR k), none, none] [] _ _ from ?_)
  refine z_iconst dX2_takeTogether_0 ?_
  refine z_istore_n dX2_takeTogether_1 (by decide) rfl ?_
  refine z_iconst dX2_takeTogether_2 ?_
  refine z_istore_n dX2_takeTogether_3 (by decide) rfl ?_
  exact loop _ 0 (Nat.zero_add _)
theorem k_stormOf {w : Int} (hk : isC k) (h7 : σ k 12 = t 7) (a7 : 0 ≤ t 7 ∧ t 7 ≤ 9) (hw : 0 ≤ w) (hw2 : w ≤ 100000) : KI rc M_X2_stormOf [zR k, zI w] σ (fun v σ' => v = (w + 1) * t 7 % 5 ∧ σ' = σ) := by
  have c0 := cs0 hk
  have m1 : 0 ≤ (w + 1) * σ k 12 ∧ (w + 1) * σ k 12 ≤ 900009 := ⟨Int.mul_nonneg (by omega) (by omega), Int.mul_le_mul (show w + 1 ≤ 100001 by omega) (show σ k 12 ≤ 9 by omega) (by omega) (by omega)⟩
  refine K_of 0 (by decide) (Nat.le_of_ble_eq_true rfl) (show Z _ _ 0 0 0 [some (zR k), some (zI w)] [] _ _ from ?_)
  refine z_iload_n dX2_stormOf_0 rfl ?_
  refine z_iconst dX2_stormOf_1 ?_
  refine z_iadd dX2_stormOf_2 ?_
  first | refine z_aload_n dX2_stormOf_3 rfl ?_ | refine z_aload_nT dX2_stormOf_3 rfl ?_
  refine h_geti dX2_stormOf_4 fl_X2_48 (by first | assumption | rfl) (by rfl) ?_
  refine z_imul dX2_stormOf_7 ?_
  refine z_iconst dX2_stormOf_8 ?_
  refine z_irem dX2_stormOf_9 (by omega) (by omega) (by omega) (by omega) ?_
  refine h_iret dX2_stormOf_10 rfl rfl rfl ?_
  exact ⟨by rw [h7], rfl⟩
theorem k_storm (hk : isC k) (h7 : σ k 12 = t 7) (h6 : σ k 6 = t 0) (a7 : 0 ≤ t 7 ∧ t 7 ≤ 9) (hw : 0 ≤ t 0) (hw2 : t 0 ≤ 100000) : KI rc M_X2_storm [zR k] σ (fun v σ' => v = stF t ∧ σ' = σ) := by
  have c0 := cs0 hk
  refine K_of 0 (by decide) (Nat.le_of_ble_eq_true rfl) (show Z _ _ 0 0 0 [some (zR k)] [] _ _ from ?_)
  first | refine z_aload_n dX2_storm_0 rfl ?_ | refine z_aload_nT dX2_storm_0 rfl ?_
  first | refine z_aload_n dX2_storm_1 rfl ?_ | refine z_aload_nT dX2_storm_1 rfl ?_
  refine h_geti dX2_storm_2 fl_X2_30 (by first | assumption | rfl) (by rfl) ?_
  refine h_Vi1 (Y' := M_X2_stormOf) dX2_storm_5 zw_429 zw_431 zs_9 rfl ok_X2_stormOf (by decide) rfl (Nat.le_of_ble_eq_true rfl) ⟨rfl, rfl⟩ (by decide) (by first | assumption | rfl) (k_stormOf hk h7 a7 (by omega) (by omega)) (fun vv σ2 hq => ?_)
  obtain ⟨rfl, rfl⟩ := hq
  refine h_iret dX2_storm_8 rfl rfl rfl ?_
  exact ⟨by rw [h6]; rfl, rfl⟩
theorem k_lossOfKind {kd s w : Int} (hk : 1 ≤ kd) (hk2 : kd ≤ 5) (hs : 0 ≤ s) (hs2 : s ≤ 4) (hw : 0 ≤ w) (hw2 : w ≤ 100000) : KI rc M_X2_lossOfKind [zI kd, zI s, zI w] σ (fun v σ' => v = lkF kd s w ∧ σ' = σ) := by
  have hc : kd = 1 ∨ kd = 2 ∨ kd = 3 ∨ kd = 4 ∨ kd = 5 := by omega
  refine K_of 0 (by decide) (Nat.le_of_ble_eq_true rfl) (show Z _ _ 0 0 0 [some (zI kd), some (zI s), some (zI w)] [] _ _ from ?_)
  refine z_iload_n dX2_lossOfKind_0 rfl ?_
  rcases hc with rfl | rfl | rfl | rfl | rfl
  · refine z_tswOut (tgt := 71) dX2_lossOfKind_1 (by omega) (by omega) (by decide) ?_
    refine z_iload_n dX2_lossOfKind_71 rfl ?_
    refine h_iret dX2_lossOfKind_72 rfl rfl rfl ?_
    exact ⟨rfl, rfl⟩
  · refine z_tswIn (tgt := 32) dX2_lossOfKind_1 (by omega) (by omega) (by omega) rfl (by decide) ?_
    refine z_iload_n dX2_lossOfKind_32 rfl ?_
    refine z_iconst dX2_lossOfKind_33 ?_
    refine z_idiv dX2_lossOfKind_34 (by omega) (by omega) (by omega) (by omega) ?_
    refine h_iret dX2_lossOfKind_35 rfl rfl rfl ?_
    exact ⟨rfl, rfl⟩
  · refine z_tswIn (tgt := 36) dX2_lossOfKind_1 (by omega) (by omega) (by omega) rfl (by decide) ?_
    refine z_iload_n dX2_lossOfKind_36 rfl ?_
    refine z_iconst dX2_lossOfKind_37 ?_
    refine z_irem dX2_lossOfKind_38 (by omega) (by omega) (by omega) (by omega) ?_
    refine z_if_ne (tgt := 48) dX2_lossOfKind_39 (by decide) (by omega) (fun b39 => ?_) (fun b39 => ?_)
    · refine z_iload_n dX2_lossOfKind_48 rfl ?_
      refine h_iret dX2_lossOfKind_49 rfl rfl rfl ?_
      exact ⟨by simp [lkF, b39], rfl⟩
    · refine z_iload_n dX2_lossOfKind_42 rfl ?_
      refine z_iconst dX2_lossOfKind_43 ?_
      refine z_iadd dX2_lossOfKind_44 ?_
      refine z_goto (tgt := 49) dX2_lossOfKind_45 (by decide) ?_
      refine h_iret dX2_lossOfKind_49 rfl rfl rfl ?_
      exact ⟨by simp [lkF, b39], rfl⟩
  · refine z_tswIn (tgt := 50) dX2_lossOfKind_1 (by omega) (by omega) (by omega) rfl (by decide) ?_
    refine z_iload_n dX2_lossOfKind_50 rfl ?_
    refine z_if_le (tgt := 58) dX2_lossOfKind_51 (by decide) (by omega) (fun b51 => ?_) (fun b51 => ?_)
    · refine z_iconst dX2_lossOfKind_58 ?_
      refine h_iret dX2_lossOfKind_59 rfl rfl rfl ?_
      exact ⟨by simp [lkF]; omega, rfl⟩
    · refine z_iconst dX2_lossOfKind_54 ?_
      refine z_goto (tgt := 59) dX2_lossOfKind_55 (by decide) ?_
      refine h_iret dX2_lossOfKind_59 rfl rfl rfl ?_
      exact ⟨by simp [lkF]; omega, rfl⟩
  · refine z_tswIn (tgt := 60) dX2_lossOfKind_1 (by omega) (by omega) (by omega) rfl (by decide) ?_
    refine z_iload_n dX2_lossOfKind_60 rfl ?_
    refine z_iconst dX2_lossOfKind_61 ?_
    refine z_icmp_ne (tgt := 69) dX2_lossOfKind_62 (by decide) (by omega) (by omega) (fun b62 => ?_) (fun b62 => ?_)
    · refine z_iconst dX2_lossOfKind_69 ?_
      refine h_iret dX2_lossOfKind_70 rfl rfl rfl ?_
      exact ⟨by simp [lkF, b62], rfl⟩
    · refine z_iconst dX2_lossOfKind_65 ?_
      refine z_goto (tgt := 70) dX2_lossOfKind_66 (by decide) ?_
      refine h_iret dX2_lossOfKind_70 rfl rfl rfl ?_
      exact ⟨by simp [lkF, b62], rfl⟩
theorem k_lossOf {p : Nat} {s : Int} (hk : isC k) (e1 : σ (k + 1) p = t (9 + p)) (e4 : σ (k + 4) p = t (24 + p)) (e6 : σ k 6 = t 0) (hp : p < 5) (q1 : 1 ≤ t (9 + p) ∧ t (9 + p) ≤ 5) (q4 : 0 ≤ t (24 + p) ∧ t (24 + p) ≤ 99) (a0 : 0 ≤ t 0 ∧ t 0 ≤ 100000) (hs : 0 ≤ s) (hs2 : s ≤ 4) : KI rc M_X2_lossOf [zR k, zI (p : Int), zI s] σ (fun v σ' => v = loF t p s ∧ σ' = σ) := by
  have c0 := cs0 hk
  have c1 := cs1 hk
  have c4 := cs4 hk
  have hl := lkF_in (k := σ (k + 1) p) (w := σ k 6) hs hs2
  refine K_of 0 (by decide) (Nat.le_of_ble_eq_true rfl) (show Z _ _ 0 0 0 [some (zR k), some (zI (p : Int)), some (zI s)] [] _ _ from ?_)
  first | refine z_aload_n dX2_lossOf_0 rfl ?_ | refine z_aload_nT dX2_lossOf_0 rfl ?_
  refine h_getr dX2_lossOf_1 fl_X2_19 (by first | assumption | rfl) (by rfl) ?_
  refine z_iload_n dX2_lossOf_4 rfl ?_
  first | refine h_iald dX2_lossOf_5 (by first | assumption | rfl) (by repeat' first | apply zc_add | apply zc_mul | with_reducible exact zc_var _ | exact zc_lit _) (by omega) (by decide) ?_ | refine z_ialdT _ dX2_lossOf_5 (by assumption) (by repeat' first | apply zc_add | apply zc_mul | with_reducible exact zc_var _ | exact zc_lit _) (by omega) (by omega) ?_
  first | refine z_aload_n dX2_lossOf_6 rfl ?_ | refine z_aload_nT dX2_lossOf_6 rfl ?_
  refine h_getr dX2_lossOf_7 fl_X2_9 (by first | assumption | rfl) (by rfl) ?_
  refine z_iload_n dX2_lossOf_10 rfl ?_
  first | refine h_iald dX2_lossOf_11 (by first | assumption | rfl) (by repeat' first | apply zc_add | apply zc_mul | with_reducible exact zc_var _ | exact zc_lit _) (by omega) (by decide) ?_ | refine z_ialdT _ dX2_lossOf_11 (by assumption) (by repeat' first | apply zc_add | apply zc_mul | with_reducible exact zc_var _ | exact zc_lit _) (by omega) (by omega) ?_
  refine z_iload_n dX2_lossOf_12 rfl ?_
  first | refine z_aload_n dX2_lossOf_13 rfl ?_ | refine z_aload_nT dX2_lossOf_13 rfl ?_
  refine h_geti dX2_lossOf_14 fl_X2_30 (by first | assumption | rfl) (by rfl) ?_
  refine h_Si3 (Y' := M_X2_lossOfKind) dX2_lossOf_17 zw_461 zw_462 ok_X2_lossOfKind (by decide) rfl (Nat.le_of_ble_eq_true rfl) ⟨rfl, rfl⟩ (by decide) (k_lossOfKind (by omega) (by omega) hs hs2 (by omega) (by omega)) (fun vv σ2 hq => ?_)
  obtain ⟨rfl, rfl⟩ := hq
  refine h_Si2 (Y' := M_J9_min_7cf53) dX2_lossOf_20 zw_456 zw_423 ok_J9_min_7cf53 (by decide) rfl (Nat.le_of_ble_eq_true rfl) ⟨rfl, rfl⟩ (by decide) (k_min (by omega) (by omega)) (fun vv σ2 hq => ?_)
  obtain ⟨rfl, rfl⟩ := hq
  refine h_iret dX2_lossOf_23 rfl rfl rfl ?_
  exact ⟨by rw [e1, e4, e6]; rfl, rfl⟩
theorem k_allSpans (hk : isC k) (hR : cR σ k t) (h3 : 0 ≤ t 3 ∧ t 3 ≤ 5) : ∀ sp : Nat → Int, (sp 0 = 0) → (∀ p : Nat, (p : Int) < t 3 → sp (p + 1) = sp p + t (24 + p)) → KI rc M_X2_allSpans [zR k] σ (fun v σ' => v = sp (t 3).toNat ∧ σ' = σ) := by
  intro sp s0 ss
  have r5 := hR.2.1
  have c0 := cs0 hk
  have c4 := cs4 hk
  have loop : ∀ n p : Nat, p + n = (t 3).toNat → Z rc M_X2_allSpans 0 0 4 [some (zR k), some (zI (sp p)), some (zI (p : Int))] [] (hp σ) (qI (fun v σ' => v = sp (t 3).toNat ∧ σ' = σ)) := by
    intro n
    induction n with
    | zero =>
      intro p hpn
      refine z_iload_n dX2_allSpans_4 rfl ?_
      first | refine z_aload_n dX2_allSpans_5 rfl ?_ | refine z_aload_nT dX2_allSpans_5 rfl ?_
      refine h_geti dX2_allSpans_6 fl_X2_26 (by first | assumption | rfl) (by rfl) ?_
      refine z_icmp_ge (tgt := 27) dX2_allSpans_9 (by decide) (by omega) (by omega) (fun b9 => ?_) (fun b9 => ?_)
      · refine z_iload_n dX2_allSpans_27 rfl ?_
        refine h_iret dX2_allSpans_28 rfl rfl rfl ?_
        exact ⟨by rw [← hpn]; rfl, rfl⟩
      · omega
    | succ n ih =>
      intro p hpn
      refine z_iload_n dX2_allSpans_4 rfl ?_
      first | refine z_aload_n dX2_allSpans_5 rfl ?_ | refine z_aload_nT dX2_allSpans_5 rfl ?_
      refine h_geti dX2_allSpans_6 fl_X2_26 (by first | assumption | rfl) (by rfl) ?_
      refine z_icmp_ge (tgt := 27) dX2_allSpans_9 (by decide) (by omega) (by omega) (fun b9 => ?_) (fun b9 => ?_)
      · omega
      · refine z_iload_n dX2_allSpans_12 rfl ?_
        first | refine z_aload_n dX2_allSpans_13 rfl ?_ | refine z_aload_nT dX2_allSpans_13 rfl ?_
        refine h_getr dX2_allSpans_14 fl_X2_19 (by first | assumption | rfl) (by rfl) ?_
        refine z_iload_n dX2_allSpans_17 rfl ?_
        first | refine h_iald dX2_allSpans_18 (by first | assumption | rfl) (by repeat' first | apply zc_add | apply zc_mul | with_reducible exact zc_var _ | exact zc_lit _) (by omega) (by decide) ?_ | refine z_ialdT _ dX2_allSpans_18 (by assumption) (by repeat' first | apply zc_add | apply zc_mul | with_reducible exact zc_var _ | exact zc_lit _) (by omega) (by omega) ?_
        refine z_iadd dX2_allSpans_19 ?_
        refine z_istore_n dX2_allSpans_20 (by decide) rfl ?_
        refine z_iinc dX2_allSpans_21 rfl (by decide) rfl ?_
        refine z_goto (tgt := 4) dX2_allSpans_24 (by decide) ?_
        have := ih (p + 1) (by omega)
        have e := (hR.2.2.2.2.2.2.2.2.2 p (by omega)).2.2.2
        rw [nsucc, ss p (by omega), ← e] at this
        exact this
  refine K_of 2 (by decide) (Nat.le_of_ble_eq_true rfl) (show Z _ _ 0 0 0 [some (zR k), none, none] [] _ _ from ?_)
  refine z_iconst dX2_allSpans_0 ?_
  refine z_istore_n dX2_allSpans_1 (by decide) rfl ?_
  refine z_iconst dX2_allSpans_2 ?_
  refine z_istore_n dX2_allSpans_3 (by decide) rfl ?_
  have := loop _ 0 (Nat.zero_add _)
  rw [s0] at this
  exact this
end
