/-! give: pure numbers: what piers take ahead, digits, the best of all gives -/
def gsF (f : Nat → Int) : Nat → Int
  | 0 => 0
  | p + 1 => gsF f p + f p
theorem gsF_s {f : Nat → Int} {p : Nat} : gsF f (p + 1) = gsF f p + f p := rfl
theorem gsF_c {f g : Nat → Int} : ∀ m, (∀ p, p < m → f p = g p) → gsF f m = gsF g m
  | 0, _ => rfl
  | m + 1, h => by
    rw [gsF_s, gsF_s, gsF_c m (fun p hp => h p (by omega)), h m (by omega)]
theorem gsF_0 : ∀ m, gsF (fun _ => 0) m = 0
  | 0 => rfl
  | m + 1 => by rw [gsF_s, gsF_0 m]; rfl
theorem gsF_add {f g : Nat → Int} : ∀ m, gsF (fun p => f p + g p) m = gsF f m + gsF g m
  | 0 => rfl
  | m + 1 => by
    rw [gsF_s, gsF_s, gsF_s, gsF_add m]
    omega
theorem gsF_in {f : Nat → Int} : ∀ m, (∀ p, p < m → 0 ≤ f p ∧ f p ≤ 1740) → 0 ≤ gsF f m ∧ gsF f m ≤ 1740 * (m : Int)
  | 0, _ => ⟨Int.le_refl _, by simp [gsF]⟩
  | m + 1, h => by
    have h1 := gsF_in m (fun p hp => h p (by omega))
    have h2 := h m (by omega)
    rw [gsF_s]
    omega
theorem gsF_nn {f : Nat → Int} : ∀ m, (∀ p, p < m → 0 ≤ f p) → 0 ≤ gsF f m
  | 0, _ => Int.le_refl _
  | m + 1, h => by
    have h1 := gsF_nn m (fun p hp => h p (by omega))
    have h2 := h m (by omega)
    rw [gsF_s]
    omega
theorem gsF_mono {f : Nat → Int} {q : Nat} : ∀ m, q ≤ m → (∀ p, q ≤ p → p < m → 0 ≤ f p) → gsF f q ≤ gsF f m
  | 0, h, _ => by
    have e : q = 0 := by omega
    subst e
    exact Int.le_refl _
  | m + 1, h, hf => by
    by_cases e : q = m + 1
    · subst e
      exact Int.le_refl _
    · have h1 := gsF_mono m (by omega) (fun p h1 h2 => hf p h1 (by omega))
      have h2 := hf m (by omega) (by omega)
      rw [gsF_s]
      omega
theorem gsF_tail {f g : Nat → Int} {q : Nat} : ∀ m, q ≤ m → (∀ p, q ≤ p → p < m → f p = g p) → gsF f m - gsF f q = gsF g m - gsF g q
  | 0, h, _ => by
    have e : q = 0 := by omega
    subst e
    omega
  | m + 1, h, hf => by
    by_cases e : q = m + 1
    · subst e
      omega
    · have h1 := gsF_tail m (by omega) (fun p h1 h2 => hf p h1 (by omega))
      have h2 := hf m (by omega) (by omega)
      rw [gsF_s, gsF_s, h2]
      omega
theorem tsF_sg {t : Nat → Int} : ∀ m, tsF t m = gsF (toF t) m
  | 0 => rfl
  | m + 1 => by
    rw [gsF_s, ← tsF_sg m]
    rfl
theorem gnF_s {t : Nat → Int} : ∀ d, gnF t (d + 1) = gnF (goF t (stF t)) d
  | 0 => rfl
  | d + 1 => by
    show goF (gnF t (d + 1)) (stF (gnF t (d + 1))) = goF (gnF (goF t (stF t)) d) (stF (gnF (goF t (stF t)) d))
    rw [gnF_s d]
theorem taF_0 {t : Nat → Int} {p : Nat} {w : Int} : ∀ n, taF t p n 0 w = 0
  | 0 => rfl
  | n + 1 => by
    unfold taF
    rw [if_neg (by omega)]
theorem taF_s {t : Nat → Int} {p n : Nat} {l w : Int} (hl : 0 ≤ l) : taF t p (n + 1) l w = tkF t (pcF t p l) l + taF t p n (max 0 (l - lkF (t (9 + p)) ((w + 1) * t 7 % 5) w)) (w + 1) := by
  by_cases h : 0 < l
  · show (if 0 < l then tkF t (pcF t p l) l + taF t p n (max 0 (l - lkF (t (9 + p)) ((w + 1) * t 7 % 5) w)) (w + 1) else 0) = _
    rw [if_pos h]
  · have e : l = 0 := by omega
    subst e
    have h1 := (lkF_in (k := t (9 + p)) (s := (w + 1) * t 7 % 5) (w := w) (by omega) (by omega)).1
    have h2 : max 0 (0 - lkF (t (9 + p)) ((w + 1) * t 7 % 5) w) = 0 := by omega
    rw [h2, taF_0, taF_0]
    rfl
theorem taF_c {s t : Nat → Int} {p : Nat} (h4 : s 4 = t 4) (h5 : s 5 = t 5) (h6 : s 6 = t 6) (h7 : s 7 = t 7) (h9 : s (9 + p) = t (9 + p)) (h14 : s (14 + p) = t (14 + p)) (h19 : s (19 + p) = t (19 + p)) : ∀ (n : Nat) (l w : Int), taF s p n l w = taF t p n l w
  | 0, _, _ => rfl
  | n + 1, l, w => by
    unfold taF tkF pcF
    rw [taF_c h4 h5 h6 h7 h9 h14 h19 n, h4, h5, h6, h7, h9, h14, h19]
theorem taF_in {B : Int} {t : Nat → Int} {p : Nat} (h : cok B t) (hp : (p : Int) < t 3) : ∀ (n : Nat) (l w : Int), 0 ≤ taF t p n l w ∧ taF t p n l w ≤ 29 * (n : Int)
  | 0, l, w => ⟨Int.le_refl _, by simp [taF]⟩
  | n + 1, l, w => by
    have ih := taF_in h hp n (max 0 (l - lkF (t (9 + p)) ((w + 1) * t 7 % 5) w)) (w + 1)
    obtain ⟨h8, h3, _, _, _, a4, a5, a6, _, hq⟩ := h
    unfold taF
    split
    · rename_i hl
      have tk : 0 ≤ tkF t (pcF t p l) l ∧ tkF t (pcF t p l) l ≤ 29 := takeF_in a4.1 a5.1 a6.1 a6.2 (placeF_in _ _ _).1 (by omega)
      omega
    · omega
theorem gnF_1 : ∀ (d : Nat) {B : Int} {t : Nat → Int}, cok B t → gnF t d 1 = min 9999 (t 1 + gsF (fun p => taF t p d (t (24 + p)) (t 0)) (t 3).toNat)
  | 0, B, t, h => by
    have e : gsF (fun p => taF t p 0 (t (24 + p)) (t 0)) (t 3).toNat = 0 := (gsF_c _ (fun _ _ => rfl)).trans (gsF_0 _)
    have h1 := h.2.2.2.1
    rw [e]
    show t 1 = _
    omega
  | d + 1, B, t, h => by
    have hs := stF_in t
    have h3 := h.2.1
    have h1 := goF_ok h hs.1 hs.2
    have e3 : goF t (stF t) 3 = t 3 := goF_lo (by omega) (by omega)
    rw [gnF_s, gnF_1 d h1, goF_0, goF_1, e3]
    have e1 : gsF (fun p => taF (goF t (stF t)) p d (goF t (stF t) (24 + p)) (t 0 + 1)) (t 3).toNat = gsF (fun p => taF t p d (max 0 (t (24 + p) - lkF (t (9 + p)) (stF t) (t 0))) (t 0 + 1)) (t 3).toNat := gsF_c _ (fun p hp => by
      have hp2 : (p : Int) < t 3 := by omega
      have q4 := (h.2.2.2.2.2.2.2.2.2 p hp2).2.2.2
      have e : goF t (stF t) (24 + p) = max 0 (t (24 + p) - lkF (t (9 + p)) (stF t) (t 0)) := by
        rw [goF_sp hp2]
        have := lkF_in (k := t (9 + p)) (w := t 0) hs.1 hs.2
        unfold loF
        omega
      show taF (goF t (stF t)) p d (goF t (stF t) (24 + p)) (t 0 + 1) = taF t p d (max 0 (t (24 + p) - lkF (t (9 + p)) (stF t) (t 0))) (t 0 + 1)
      rw [e]
      exact taF_c (goF_lo (by omega) (by omega)) (goF_lo (by omega) (by omega)) (goF_lo (by omega) (by omega)) (goF_lo (by omega) (by omega)) (goF_lo (by omega) (by omega)) (goF_lo (by omega) (by omega)) (goF_lo (by omega) (by omega)) _ _ _)
    have e2 : gsF (fun p => taF t p (d + 1) (t (24 + p)) (t 0)) (t 3).toNat = gsF (toF t) (t 3).toNat + gsF (fun p => taF t p d (max 0 (t (24 + p) - lkF (t (9 + p)) (stF t) (t 0))) (t 0 + 1)) (t 3).toNat := by
      rw [← gsF_add]
      exact gsF_c _ (fun p hp => taF_s (h.2.2.2.2.2.2.2.2.2 p (by omega)).2.2.2.1)
    have e4 : 0 ≤ gsF (fun p => taF t p d (max 0 (t (24 + p) - lkF (t (9 + p)) (stF t) (t 0))) (t 0 + 1)) (t 3).toNat := gsF_nn _ (fun p hp => (taF_in h (by omega) _ _ _).1)
    rw [e1, e2, tsF_sg]
    omega
/-! gives as digits -/
def tpF : Nat → Nat
  | 0 => 1
  | p + 1 => 10 * tpF p
def dgF : Nat → Nat → Nat → Nat
  | 0, _, _ => 0
  | m + 1, c, p => if p = m then c % 10 else dgF m (c / 10) p
def cdF (g : Nat → Nat) : Nat → Nat
  | 0 => 0
  | m + 1 => 10 * cdF g m + g m
theorem tpF_s {p : Nat} : tpF (p + 1) = 10 * tpF p := rfl
theorem tpF_5 {m : Nat} (h : m ≤ 5) : 1 ≤ tpF m ∧ tpF m ≤ 100000 := by
  have e : m = 0 ∨ m = 1 ∨ m = 2 ∨ m = 3 ∨ m = 4 ∨ m = 5 := by omega
  rcases e with rfl | rfl | rfl | rfl | rfl | rfl <;> decide
theorem dgF_m {m c : Nat} : dgF (m + 1) c m = c % 10 := by
  show (if m = m then c % 10 else dgF m (c / 10) m) = _
  rw [if_pos rfl]
theorem dgF_l {m c p : Nat} (h : p ≠ m) : dgF (m + 1) c p = dgF m (c / 10) p := by
  show (if p = m then c % 10 else dgF m (c / 10) p) = _
  rw [if_neg h]
theorem dgF_9 : ∀ m c p, dgF m c p ≤ 9
  | 0, _, _ => Nat.zero_le _
  | m + 1, c, p => by
    by_cases h : p = m
    · subst h
      rw [dgF_m]
      omega
    · rw [dgF_l h]
      exact dgF_9 m _ _
theorem dgF_z : ∀ m p, dgF m 0 p = 0
  | 0, _ => rfl
  | m + 1, p => by
    by_cases h : p = m
    · subst h
      rw [dgF_m]
    · rw [dgF_l h]
      exact dgF_z m p
theorem dg_lex : ∀ m c c', c < c' → c' < tpF m → ∃ q, q < m ∧ (∀ r, r < q → dgF m c r = dgF m c' r) ∧ dgF m c q < dgF m c' q
  | 0, c, c', h1, h2 => by
    have : tpF 0 = 1 := rfl
    omega
  | m + 1, c, c', h1, h2 => by
    rw [tpF_s] at h2
    by_cases h : c / 10 < c' / 10
    · obtain ⟨q, q1, q2, q3⟩ := dg_lex m (c / 10) (c' / 10) h (by omega)
      refine ⟨q, by omega, fun r hr => ?_, ?_⟩
      · rw [dgF_l (by omega), dgF_l (by omega)]
        exact q2 r hr
      · rw [dgF_l (by omega), dgF_l (by omega)]
        exact q3
    · have e : c / 10 = c' / 10 := by omega
      refine ⟨m, by omega, fun r hr => ?_, ?_⟩
      · rw [dgF_l (by omega), dgF_l (by omega), e]
      · rw [dgF_m, dgF_m]
        omega
theorem cd_lt {g : Nat → Nat} : ∀ m, (∀ p, p < m → g p ≤ 9) → cdF g m < tpF m
  | 0, _ => Nat.zero_lt_one
  | m + 1, h => by
    have h1 := cd_lt m (fun p hp => h p (by omega))
    have h2 := h m (by omega)
    show 10 * cdF g m + g m < 10 * tpF m
    omega
theorem cd_dg {g : Nat → Nat} : ∀ m, (∀ p, p < m → g p ≤ 9) → ∀ p, p < m → dgF m (cdF g m) p = g p
  | 0, _, p, hp => by omega
  | m + 1, h, p, hp => by
    have h2 := h m (by omega)
    show dgF (m + 1) (10 * cdF g m + g m) p = g p
    by_cases e : p = m
    · subst e
      rw [dgF_m]
      omega
    · rw [dgF_l e, show (10 * cdF g m + g m) / 10 = cdF g m by omega]
      exact cd_dg m (fun p hp => h p (by omega)) p (by omega)
def NF (g : Nat → Nat) (m : Nat) : Int := gsF (fun p => (g p : Int)) m
def VF (t : Nat → Int) (d : Nat) (g : Nat → Nat) (m : Nat) : Int := gsF (fun p => taF t p d (t (24 + p) + (g p : Int)) (t 0)) m
def pwF (t : Nat → Int) (x : Int) : Int := min 9999 (t 1 + x)
def gvK (t : Nat → Int) (I m : Nat) (g : Nat → Nat) : Prop := (∀ p, p < m → t (24 + p) + (g p : Int) ≤ 99) ∧ NF g m ≤ (I : Int)
/-- c is the best of all codes below n -/
def gvN (t : Nat → Int) (d I m n c : Nat) : Prop := c < n ∧ gvK t I m (dgF m c) ∧ ∀ c', c' < n → gvK t I m (dgF m c') → pwF t (VF t d (dgF m c') m) < pwF t (VF t d (dgF m c) m) ∨ (pwF t (VF t d (dgF m c') m) = pwF t (VF t d (dgF m c) m) ∧ (NF (dgF m c) m < NF (dgF m c') m ∨ (NF (dgF m c) m = NF (dgF m c') m ∧ c ≤ c')))
abbrev gvB (t : Nat → Int) (d I m c : Nat) : Prop := gvN t d I m (tpF m) c
noncomputable def gvC (t : Nat → Int) (d I m : Nat) : Nat := Classical.epsilon (fun c => gvB t d I m c)
theorem gvB_u {t : Nat → Int} {d I m c c' : Nat} (h : gvB t d I m c) (h' : gvB t d I m c') : c = c' := by
  have h1 := h.2.2 c' h'.1 h'.2.1
  have h2 := h'.2.2 c h.1 h.2.1
  omega
theorem gvC_eq {t : Nat → Int} {d I m c : Nat} (h : gvB t d I m c) : gvC t d I m = c := gvB_u (Classical.epsilon_spec (p := fun c => gvB t d I m c) ⟨c, h⟩) h
theorem NF_nn {g : Nat → Nat} {m : Nat} : 0 ≤ NF g m := gsF_nn _ (fun p _ => Int.natCast_nonneg _)
theorem NF_le {g : Nat → Nat} {m p : Nat} (h : p < m) : (g p : Int) ≤ NF g m := by
  have h1 := gsF_mono (f := fun p => (g p : Int)) (q := p + 1) m (by omega) (fun p _ _ => Int.natCast_nonneg _)
  have h2 : 0 ≤ NF g p := NF_nn
  have h3 : gsF (fun p => (g p : Int)) (p + 1) = NF g p + (g p : Int) := rfl
  rw [h3] at h1
  have h4 : gsF (fun p => (g p : Int)) m = NF g m := rfl
  omega
theorem NF_z {m : Nat} : NF (dgF m 0) m = 0 := (gsF_c m (fun p _ => by rw [dgF_z]; rfl)).trans (gsF_0 m)
theorem gvK_z {B : Int} {t : Nat → Int} {I m : Nat} (h : cok B t) (hm : t 3 = (m : Int)) : gvK t I m (dgF m 0) := ⟨fun p hp => by
  rw [dgF_z]
  have := (h.2.2.2.2.2.2.2.2.2 p (by omega)).2.2.2
  omega, by rw [NF_z]; omega⟩
theorem gvN_1 {B : Int} {t : Nat → Int} {d I m : Nat} (h : cok B t) (hm : t 3 = (m : Int)) : gvN t d I m 1 0 := ⟨by omega, gvK_z h hm, fun c' hc _ => by
  have e : c' = 0 := by omega
  subst e
  exact Or.inr ⟨rfl, Or.inr ⟨rfl, Nat.le_refl _⟩⟩⟩
theorem gvN_no {t : Nat → Int} {d I m n c : Nat} (h : gvN t d I m n c) (hn : ¬ gvK t I m (dgF m n)) : gvN t d I m (n + 1) c := ⟨by have := h.1; omega, h.2.1, fun c' hc hk => by
  by_cases e : c' = n
  · subst e
    exact absurd hk hn
  · exact h.2.2 c' (by omega) hk⟩
theorem gvN_up {t : Nat → Int} {d I m n c : Nat} (h : gvN t d I m n c) (hn : gvK t I m (dgF m n)) (hb : pwF t (VF t d (dgF m c) m) < pwF t (VF t d (dgF m n) m) ∨ (pwF t (VF t d (dgF m n) m) = pwF t (VF t d (dgF m c) m) ∧ NF (dgF m n) m < NF (dgF m c) m)) : gvN t d I m (n + 1) n := ⟨by omega, hn, fun c' hc hk => by
  by_cases e : c' = n
  · subst e
    exact Or.inr ⟨rfl, Or.inr ⟨rfl, Nat.le_refl _⟩⟩
  · have := h.2.2 c' (by omega) hk
    omega⟩
theorem gvN_st {t : Nat → Int} {d I m n c : Nat} (h : gvN t d I m n c) (hb : ¬ (pwF t (VF t d (dgF m c) m) < pwF t (VF t d (dgF m n) m) ∨ (pwF t (VF t d (dgF m n) m) = pwF t (VF t d (dgF m c) m) ∧ NF (dgF m n) m < NF (dgF m c) m))) : gvN t d I m (n + 1) c := ⟨by have := h.1; omega, h.2.1, fun c' hc hk => by
  by_cases e : c' = n
  · subst e
    have := h.1
    omega
  · exact h.2.2 c' (by omega) hk⟩
theorem gvN_ex {B : Int} {t : Nat → Int} {d I m : Nat} (h : cok B t) (hm : t 3 = (m : Int)) : ∀ n, ∃ c, gvN t d I m (n + 1) c
  | 0 => ⟨0, gvN_1 h hm⟩
  | n + 1 => by
    obtain ⟨c, hc⟩ := gvN_ex (d := d) (I := I) h hm n
    by_cases hn : gvK t I m (dgF m (n + 1))
    · by_cases hb : pwF t (VF t d (dgF m c) m) < pwF t (VF t d (dgF m (n + 1)) m) ∨ (pwF t (VF t d (dgF m (n + 1)) m) = pwF t (VF t d (dgF m c) m) ∧ NF (dgF m (n + 1)) m < NF (dgF m c) m)
      · exact ⟨n + 1, gvN_up hc hn hb⟩
      · exact ⟨c, gvN_st hc hb⟩
    · exact ⟨c, gvN_no hc hn⟩
theorem gvC_is {B : Int} {t : Nat → Int} {d I m : Nat} (h : cok B t) (hm : t 3 = (m : Int)) : gvB t d I m (gvC t d I m) := by
  have h5 := tpF_5 (m := m) (by have := h.2.1; omega)
  obtain ⟨c, hc⟩ := gvN_ex (d := d) (I := I) h hm (tpF m - 1)
  rw [show tpF m - 1 + 1 = tpF m by omega] at hc
  rw [gvC_eq hc]
  exact hc
/-- a coast with spans given -/
def gvT (t : Nat → Int) (m : Nat) (g : Nat → Nat) : Nat → Int := fun i => if 24 ≤ i ∧ i < 24 + m then t i + (g (i - 24) : Int) else t i
theorem gvT_lo {t : Nat → Int} {m : Nat} {g : Nat → Nat} {i : Nat} (h : i < 24) : gvT t m g i = t i := by
  unfold gvT
  rw [if_neg (by omega)]
theorem gvT_sp {t : Nat → Int} {m : Nat} {g : Nat → Nat} {p : Nat} (h : p < m) : gvT t m g (24 + p) = t (24 + p) + (g p : Int) := by
  unfold gvT
  rw [if_pos (by omega), show 24 + p - 24 = p by omega]
theorem cok_gv {B : Int} {t : Nat → Int} {m : Nat} {g : Nat → Nat} (h : cok B t) (hm : t 3 = (m : Int)) (hg : ∀ p, p < m → t (24 + p) + (g p : Int) ≤ 99) : cok B (gvT t m g) := by
  obtain ⟨h8, h3, a0, a1, a2, a4, a5, a6, a7, hq⟩ := h
  have e : ∀ i, i < 24 → gvT t m g i = t i := fun i hi => gvT_lo hi
  refine ⟨?_, ?_, ?_, ?_, ?_, ?_, ?_, ?_, ?_, ?_⟩
  · rw [e 8 (by omega)]; exact h8
  · rw [e 3 (by omega)]; exact h3
  · rw [e 0 (by omega)]; exact a0
  · rw [e 1 (by omega)]; exact a1
  · rw [e 2 (by omega)]; exact a2
  · rw [e 4 (by omega)]; exact a4
  · rw [e 5 (by omega)]; exact a5
  · rw [e 6 (by omega)]; exact a6
  · rw [e 7 (by omega)]; exact a7
  · intro p hp
    rw [e 3 (by omega)] at hp
    obtain ⟨q1, q2, q3, q4⟩ := hq p hp
    rw [e (9 + p) (by omega), e (14 + p) (by omega), e (19 + p) (by omega), gvT_sp (by omega)]
    have := hg p (by omega)
    exact ⟨q1, q2, q3, by omega, by omega⟩
theorem gv_1 {B : Int} {t : Nat → Int} {m d : Nat} {g : Nat → Nat} (h : cok B t) (hm : t 3 = (m : Int)) (hg : ∀ p, p < m → t (24 + p) + (g p : Int) ≤ 99) : gnF (gvT t m g) d 1 = pwF t (VF t d g m) := by
  have h3 := h.2.1
  rw [gnF_1 d (cok_gv h hm hg), gvT_lo (by omega), gvT_lo (show 0 < 24 by omega), gvT_lo (show 3 < 24 by omega), hm]
  have e : gsF (fun p => taF (gvT t m g) p d (gvT t m g (24 + p)) (t 0)) m = VF t d g m := gsF_c _ (fun p hp => by
    show taF (gvT t m g) p d (gvT t m g (24 + p)) (t 0) = taF t p d (t (24 + p) + (g p : Int)) (t 0)
    rw [gvT_sp hp]
    exact taF_c (gvT_lo (by omega)) (gvT_lo (by omega)) (gvT_lo (by omega)) (gvT_lo (by omega)) (gvT_lo (by omega)) (gvT_lo (by omega)) (gvT_lo (by omega)) _ _ _)
  show min 9999 (t 1 + gsF (fun p => taF (gvT t m g) p d (gvT t m g (24 + p)) (t 0)) m) = _
  rw [e]
  rfl
